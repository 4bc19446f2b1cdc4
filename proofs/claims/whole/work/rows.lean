section
-- ===== PART A: goes FIRST, ahead of the names: the tables' words, and 'selects' of the private methods out of them =====
/-- a private method of a class that the tables say can be made, by its rows of tables_1 -/
def lw_okq (q : MethodName × Nat) : Prop := (q.1.cls ≠ "java/lang/invoke/MethodHandle" ∧ q.1.cls ≠ "java/lang/invoke/VarHandle") ∧ Cond.instantiable q.1.cls q.2 ∈ tables_1 ∧ Cond.privateMethod q.1 ∈ tables_1 ∧ Cond.instanceMethod q.1 ∈ tables_1
theorem lw_p0 : lw_okq (⟨"Plotwise$Trial", "tryAll", "(J)V"⟩, 6) := ⟨⟨by decide +kernel, by decide +kernel⟩, List.mem_of_getElem? (i := 140) (by decide +kernel), List.mem_of_getElem? (i := 236) (by decide +kernel), List.mem_of_getElem? (i := 237) (by decide +kernel)⟩
theorem lw_p1 : lw_okq (⟨"Plotwise$Trial", "tryPlacement", "(IJ)V"⟩, 6) := ⟨⟨by decide +kernel, by decide +kernel⟩, List.mem_of_getElem? (i := 140) (by decide +kernel), List.mem_of_getElem? (i := 256) (by decide +kernel), List.mem_of_getElem? (i := 257) (by decide +kernel)⟩
theorem lw_p2 : lw_okq (⟨"Plotwise$HardRules", "hasForbiddenColumn", "(I)Z"⟩, 4) := ⟨⟨by decide +kernel, by decide +kernel⟩, List.mem_of_getElem? (i := 67) (by decide +kernel), List.mem_of_getElem? (i := 274) (by decide +kernel), List.mem_of_getElem? (i := 275) (by decide +kernel)⟩
theorem lw_p3 : lw_okq (⟨"Plotwise$HardRules", "isAsWished", "(I)Z"⟩, 4) := ⟨⟨by decide +kernel, by decide +kernel⟩, List.mem_of_getElem? (i := 67) (by decide +kernel), List.mem_of_getElem? (i := 282) (by decide +kernel), List.mem_of_getElem? (i := 283) (by decide +kernel)⟩
theorem lw_p4 : lw_okq (⟨"Plotwise$Search", "searchFrom", "(I)V"⟩, 4) := ⟨⟨by decide +kernel, by decide +kernel⟩, List.mem_of_getElem? (i := 108) (by decide +kernel), List.mem_of_getElem? (i := 395) (by decide +kernel), List.mem_of_getElem? (i := 396) (by decide +kernel)⟩
theorem lw_p5 : lw_okq (⟨"Plotwise$Search", "isHopeless", "(I)Z"⟩, 4) := ⟨⟨by decide +kernel, by decide +kernel⟩, List.mem_of_getElem? (i := 108) (by decide +kernel), List.mem_of_getElem? (i := 402) (by decide +kernel), List.mem_of_getElem? (i := 403) (by decide +kernel)⟩
theorem lw_p6 : lw_okq (⟨"Plotwise$Search", "offerSizes", "(I)V"⟩, 4) := ⟨⟨by decide +kernel, by decide +kernel⟩, List.mem_of_getElem? (i := 108) (by decide +kernel), List.mem_of_getElem? (i := 414) (by decide +kernel), List.mem_of_getElem? (i := 415) (by decide +kernel)⟩
theorem lw_p7 : lw_okq (⟨"Plotwise", "isRankingAllowed", "(LPlotwise$Best;)Z"⟩, 8) := ⟨⟨by decide +kernel, by decide +kernel⟩, List.mem_of_getElem? (i := 26) (by decide +kernel), List.mem_of_getElem? (i := 419) (by decide +kernel), List.mem_of_getElem? (i := 420) (by decide +kernel)⟩
theorem lw_p8 : lw_okq (⟨"Plotwise", "isRankingInOrder", "(LPlotwise$Best;)Z"⟩, 8) := ⟨⟨by decide +kernel, by decide +kernel⟩, List.mem_of_getElem? (i := 26) (by decide +kernel), List.mem_of_getElem? (i := 440) (by decide +kernel), List.mem_of_getElem? (i := 441) (by decide +kernel)⟩
theorem lw_p9 : lw_okq (⟨"Plotwise", "isFirstConfirmed", "(LPlotwise$Best;LPlotwise$Best;)Z"⟩, 8) := ⟨⟨by decide +kernel, by decide +kernel⟩, List.mem_of_getElem? (i := 26) (by decide +kernel), List.mem_of_getElem? (i := 450) (by decide +kernel), List.mem_of_getElem? (i := 451) (by decide +kernel)⟩
theorem lw_p10 : lw_okq (⟨"java/lang/Throwable", "fillInStackTrace", "(I)Ljava/lang/Throwable;"⟩, 6) := ⟨⟨by decide +kernel, by decide +kernel⟩, List.mem_of_getElem? (i := 513) (by decide +kernel), List.mem_of_getElem? (i := 511) (by decide +kernel), List.mem_of_getElem? (i := 512) (by decide +kernel)⟩
theorem lw_p11 : lw_okq (⟨"Plotwise$Table", "store", "(III)V"⟩, 8) := ⟨⟨by decide +kernel, by decide +kernel⟩, List.mem_of_getElem? (i := 34) (by decide +kernel), List.mem_of_getElem? (i := 563) (by decide +kernel), List.mem_of_getElem? (i := 564) (by decide +kernel)⟩
theorem lw_p12 : lw_okq (⟨"Plotwise$Table", "studyAll", "()V"⟩, 8) := ⟨⟨by decide +kernel, by decide +kernel⟩, List.mem_of_getElem? (i := 34) (by decide +kernel), List.mem_of_getElem? (i := 571) (by decide +kernel), List.mem_of_getElem? (i := 572) (by decide +kernel)⟩
theorem lw_p13 : lw_okq (⟨"Plotwise$Table", "study", "(I)V"⟩, 8) := ⟨⟨by decide +kernel, by decide +kernel⟩, List.mem_of_getElem? (i := 34) (by decide +kernel), List.mem_of_getElem? (i := 575) (by decide +kernel), List.mem_of_getElem? (i := 576) (by decide +kernel)⟩
theorem lw_p14 : lw_okq (⟨"Plotwise$Table", "isNewAt", "(II)Z"⟩, 8) := ⟨⟨by decide +kernel, by decide +kernel⟩, List.mem_of_getElem? (i := 34) (by decide +kernel), List.mem_of_getElem? (i := 583) (by decide +kernel), List.mem_of_getElem? (i := 584) (by decide +kernel)⟩
theorem lw_p15 : lw_okq (⟨"Plotwise", "isGoodEnough", "(ILPlotwise$Best;)Z"⟩, 8) := ⟨⟨by decide +kernel, by decide +kernel⟩, List.mem_of_getElem? (i := 26) (by decide +kernel), List.mem_of_getElem? (i := 929) (by decide +kernel), List.mem_of_getElem? (i := 930) (by decide +kernel)⟩
def lw_privs_1 : List (MethodName × Nat) := [(⟨"Plotwise$Trial", "tryAll", "(J)V"⟩, 6), (⟨"Plotwise$Trial", "tryPlacement", "(IJ)V"⟩, 6), (⟨"Plotwise$HardRules", "hasForbiddenColumn", "(I)Z"⟩, 4), (⟨"Plotwise$HardRules", "isAsWished", "(I)Z"⟩, 4), (⟨"Plotwise$Search", "searchFrom", "(I)V"⟩, 4), (⟨"Plotwise$Search", "isHopeless", "(I)Z"⟩, 4), (⟨"Plotwise$Search", "offerSizes", "(I)V"⟩, 4), (⟨"Plotwise", "isRankingAllowed", "(LPlotwise$Best;)Z"⟩, 8), (⟨"Plotwise", "isRankingInOrder", "(LPlotwise$Best;)Z"⟩, 8), (⟨"Plotwise", "isFirstConfirmed", "(LPlotwise$Best;LPlotwise$Best;)Z"⟩, 8), (⟨"java/lang/Throwable", "fillInStackTrace", "(I)Ljava/lang/Throwable;"⟩, 6), (⟨"Plotwise$Table", "store", "(III)V"⟩, 8), (⟨"Plotwise$Table", "studyAll", "()V"⟩, 8), (⟨"Plotwise$Table", "study", "(I)V"⟩, 8), (⟨"Plotwise$Table", "isNewAt", "(II)Z"⟩, 8), (⟨"Plotwise", "isGoodEnough", "(ILPlotwise$Best;)Z"⟩, 8)]
theorem lw_r1 : ∀ q ∈ lw_privs_1, lw_okq q := List.forall_mem_cons.mpr ⟨lw_p0, List.forall_mem_cons.mpr ⟨lw_p1, List.forall_mem_cons.mpr ⟨lw_p2, List.forall_mem_cons.mpr ⟨lw_p3, List.forall_mem_cons.mpr ⟨lw_p4, List.forall_mem_cons.mpr ⟨lw_p5, List.forall_mem_cons.mpr ⟨lw_p6, List.forall_mem_cons.mpr ⟨lw_p7, List.forall_mem_cons.mpr ⟨lw_p8, List.forall_mem_cons.mpr ⟨lw_p9, List.forall_mem_cons.mpr ⟨lw_p10, List.forall_mem_cons.mpr ⟨lw_p11, List.forall_mem_cons.mpr ⟨lw_p12, List.forall_mem_cons.mpr ⟨lw_p13, List.forall_mem_cons.mpr ⟨lw_p14, List.forall_mem_cons.mpr ⟨lw_p15, fun _ h => absurd h List.not_mem_nil⟩⟩⟩⟩⟩⟩⟩⟩⟩⟩⟩⟩⟩⟩⟩⟩
theorem lw_p16 : lw_okq (⟨"Plotwise$Picks", "keepPresent", "()V"⟩, 3) := ⟨⟨by decide +kernel, by decide +kernel⟩, List.mem_of_getElem? (i := 176) (by decide +kernel), List.mem_of_getElem? (i := 938) (by decide +kernel), List.mem_of_getElem? (i := 939) (by decide +kernel)⟩
theorem lw_p17 : lw_okq (⟨"Plotwise", "requirePick", "()V"⟩, 8) := ⟨⟨by decide +kernel, by decide +kernel⟩, List.mem_of_getElem? (i := 26) (by decide +kernel), List.mem_of_getElem? (i := 949) (by decide +kernel), List.mem_of_getElem? (i := 950) (by decide +kernel)⟩
theorem lw_p18 : lw_okq (⟨"Plotwise", "requireAllowedDraft", "()V"⟩, 8) := ⟨⟨by decide +kernel, by decide +kernel⟩, List.mem_of_getElem? (i := 26) (by decide +kernel), List.mem_of_getElem? (i := 1019) (by decide +kernel), List.mem_of_getElem? (i := 1020) (by decide +kernel)⟩
theorem lw_p19 : lw_okq (⟨"PlotwiseModel", "isThrown", "(ZI)Z"⟩, 23) := ⟨⟨by decide +kernel, by decide +kernel⟩, List.mem_of_getElem? (i := 1035) (by decide +kernel), List.mem_of_getElem? (i := 1126) (by decide +kernel), List.mem_of_getElem? (i := 1127) (by decide +kernel)⟩
theorem lw_p20 : lw_okq (⟨"PlotwiseModel", "isNoColumn", "(I)Z"⟩, 23) := ⟨⟨by decide +kernel, by decide +kernel⟩, List.mem_of_getElem? (i := 1035) (by decide +kernel), List.mem_of_getElem? (i := 1146) (by decide +kernel), List.mem_of_getElem? (i := 1147) (by decide +kernel)⟩
theorem lw_p21 : lw_okq (⟨"PlotwiseModel", "unlike", "(I)I"⟩, 23) := ⟨⟨by decide +kernel, by decide +kernel⟩, List.mem_of_getElem? (i := 1035) (by decide +kernel), List.mem_of_getElem? (i := 1150) (by decide +kernel), List.mem_of_getElem? (i := 1151) (by decide +kernel)⟩
theorem lw_p22 : lw_okq (⟨"PlotwiseModel", "at", "(II)I"⟩, 23) := ⟨⟨by decide +kernel, by decide +kernel⟩, List.mem_of_getElem? (i := 1035) (by decide +kernel), List.mem_of_getElem? (i := 1154) (by decide +kernel), List.mem_of_getElem? (i := 1155) (by decide +kernel)⟩
theorem lw_p23 : lw_okq (⟨"PlotwiseModel", "sum", "(I)J"⟩, 23) := ⟨⟨by decide +kernel, by decide +kernel⟩, List.mem_of_getElem? (i := 1035) (by decide +kernel), List.mem_of_getElem? (i := 1162) (by decide +kernel), List.mem_of_getElem? (i := 1163) (by decide +kernel)⟩
theorem lw_p24 : lw_okq (⟨"PlotwiseModel", "many", "(I)I"⟩, 23) := ⟨⟨by decide +kernel, by decide +kernel⟩, List.mem_of_getElem? (i := 1035) (by decide +kernel), List.mem_of_getElem? (i := 1170) (by decide +kernel), List.mem_of_getElem? (i := 1171) (by decide +kernel)⟩
theorem lw_p25 : lw_okq (⟨"PlotwiseModel", "kindBy", "(I)I"⟩, 23) := ⟨⟨by decide +kernel, by decide +kernel⟩, List.mem_of_getElem? (i := 1035) (by decide +kernel), List.mem_of_getElem? (i := 1182) (by decide +kernel), List.mem_of_getElem? (i := 1183) (by decide +kernel)⟩
theorem lw_p26 : lw_okq (⟨"PlotwiseModel", "rises", "(I)Z"⟩, 23) := ⟨⟨by decide +kernel, by decide +kernel⟩, List.mem_of_getElem? (i := 1035) (by decide +kernel), List.mem_of_getElem? (i := 1186) (by decide +kernel), List.mem_of_getElem? (i := 1187) (by decide +kernel)⟩
theorem lw_p27 : lw_okq (⟨"PlotwiseModel", "forbids", "(IIZ)I"⟩, 23) := ⟨⟨by decide +kernel, by decide +kernel⟩, List.mem_of_getElem? (i := 1035) (by decide +kernel), List.mem_of_getElem? (i := 1213) (by decide +kernel), List.mem_of_getElem? (i := 1214) (by decide +kernel)⟩
theorem lw_p28 : lw_okq (⟨"PlotwiseModel", "makes", "()V"⟩, 23) := ⟨⟨by decide +kernel, by decide +kernel⟩, List.mem_of_getElem? (i := 1035) (by decide +kernel), List.mem_of_getElem? (i := 1229) (by decide +kernel), List.mem_of_getElem? (i := 1230) (by decide +kernel)⟩
theorem lw_p29 : lw_okq (⟨"PlotwiseModel", "kinds", "()V"⟩, 23) := ⟨⟨by decide +kernel, by decide +kernel⟩, List.mem_of_getElem? (i := 1035) (by decide +kernel), List.mem_of_getElem? (i := 1233) (by decide +kernel), List.mem_of_getElem? (i := 1234) (by decide +kernel)⟩
theorem lw_p30 : lw_okq (⟨"PlotwiseModel", "costOf", "([I)I"⟩, 23) := ⟨⟨by decide +kernel, by decide +kernel⟩, List.mem_of_getElem? (i := 1035) (by decide +kernel), List.mem_of_getElem? (i := 1237) (by decide +kernel), List.mem_of_getElem? (i := 1238) (by decide +kernel)⟩
theorem lw_p31 : lw_okq (⟨"PlotwiseModel", "of", "([II)I"⟩, 23) := ⟨⟨by decide +kernel, by decide +kernel⟩, List.mem_of_getElem? (i := 1035) (by decide +kernel), List.mem_of_getElem? (i := 1241) (by decide +kernel), List.mem_of_getElem? (i := 1242) (by decide +kernel)⟩
def lw_privs_2 : List (MethodName × Nat) := [(⟨"Plotwise$Picks", "keepPresent", "()V"⟩, 3), (⟨"Plotwise", "requirePick", "()V"⟩, 8), (⟨"Plotwise", "requireAllowedDraft", "()V"⟩, 8), (⟨"PlotwiseModel", "isThrown", "(ZI)Z"⟩, 23), (⟨"PlotwiseModel", "isNoColumn", "(I)Z"⟩, 23), (⟨"PlotwiseModel", "unlike", "(I)I"⟩, 23), (⟨"PlotwiseModel", "at", "(II)I"⟩, 23), (⟨"PlotwiseModel", "sum", "(I)J"⟩, 23), (⟨"PlotwiseModel", "many", "(I)I"⟩, 23), (⟨"PlotwiseModel", "kindBy", "(I)I"⟩, 23), (⟨"PlotwiseModel", "rises", "(I)Z"⟩, 23), (⟨"PlotwiseModel", "forbids", "(IIZ)I"⟩, 23), (⟨"PlotwiseModel", "makes", "()V"⟩, 23), (⟨"PlotwiseModel", "kinds", "()V"⟩, 23), (⟨"PlotwiseModel", "costOf", "([I)I"⟩, 23), (⟨"PlotwiseModel", "of", "([II)I"⟩, 23)]
theorem lw_r2 : ∀ q ∈ lw_privs_2, lw_okq q := List.forall_mem_cons.mpr ⟨lw_p16, List.forall_mem_cons.mpr ⟨lw_p17, List.forall_mem_cons.mpr ⟨lw_p18, List.forall_mem_cons.mpr ⟨lw_p19, List.forall_mem_cons.mpr ⟨lw_p20, List.forall_mem_cons.mpr ⟨lw_p21, List.forall_mem_cons.mpr ⟨lw_p22, List.forall_mem_cons.mpr ⟨lw_p23, List.forall_mem_cons.mpr ⟨lw_p24, List.forall_mem_cons.mpr ⟨lw_p25, List.forall_mem_cons.mpr ⟨lw_p26, List.forall_mem_cons.mpr ⟨lw_p27, List.forall_mem_cons.mpr ⟨lw_p28, List.forall_mem_cons.mpr ⟨lw_p29, List.forall_mem_cons.mpr ⟨lw_p30, List.forall_mem_cons.mpr ⟨lw_p31, fun _ h => absurd h List.not_mem_nil⟩⟩⟩⟩⟩⟩⟩⟩⟩⟩⟩⟩⟩⟩⟩⟩
theorem lw_p32 : lw_okq (⟨"PlotwiseModel", "gaps", "([I)I"⟩, 23) := ⟨⟨by decide +kernel, by decide +kernel⟩, List.mem_of_getElem? (i := 1035) (by decide +kernel), List.mem_of_getElem? (i := 1245) (by decide +kernel), List.mem_of_getElem? (i := 1246) (by decide +kernel)⟩
theorem lw_p33 : lw_okq (⟨"PlotwiseModel", "soft", "([I)I"⟩, 23) := ⟨⟨by decide +kernel, by decide +kernel⟩, List.mem_of_getElem? (i := 1035) (by decide +kernel), List.mem_of_getElem? (i := 1249) (by decide +kernel), List.mem_of_getElem? (i := 1250) (by decide +kernel)⟩
theorem lw_p34 : lw_okq (⟨"PlotwiseModel", "isLike", "([I[I)Z"⟩, 23) := ⟨⟨by decide +kernel, by decide +kernel⟩, List.mem_of_getElem? (i := 1035) (by decide +kernel), List.mem_of_getElem? (i := 1253) (by decide +kernel), List.mem_of_getElem? (i := 1254) (by decide +kernel)⟩
theorem lw_p35 : lw_okq (⟨"PlotwiseModel", "isDistinct", "()Z"⟩, 23) := ⟨⟨by decide +kernel, by decide +kernel⟩, List.mem_of_getElem? (i := 1035) (by decide +kernel), List.mem_of_getElem? (i := 1257) (by decide +kernel), List.mem_of_getElem? (i := 1258) (by decide +kernel)⟩
theorem lw_p36 : lw_okq (⟨"PlotwiseModel", "broken", "([I)I"⟩, 23) := ⟨⟨by decide +kernel, by decide +kernel⟩, List.mem_of_getElem? (i := 1035) (by decide +kernel), List.mem_of_getElem? (i := 1261) (by decide +kernel), List.mem_of_getElem? (i := 1262) (by decide +kernel)⟩
theorem lw_p37 : lw_okq (⟨"PlotwiseModel", "hasWishes", "([I)Z"⟩, 23) := ⟨⟨by decide +kernel, by decide +kernel⟩, List.mem_of_getElem? (i := 1035) (by decide +kernel), List.mem_of_getElem? (i := 1265) (by decide +kernel), List.mem_of_getElem? (i := 1266) (by decide +kernel)⟩
theorem lw_p38 : lw_okq (⟨"PlotwiseModel", "lays", "()V"⟩, 23) := ⟨⟨by decide +kernel, by decide +kernel⟩, List.mem_of_getElem? (i := 1035) (by decide +kernel), List.mem_of_getElem? (i := 1269) (by decide +kernel), List.mem_of_getElem? (i := 1270) (by decide +kernel)⟩
theorem lw_p39 : lw_okq (⟨"PlotwiseModel", "isNoRank", "(II)Z"⟩, 23) := ⟨⟨by decide +kernel, by decide +kernel⟩, List.mem_of_getElem? (i := 1035) (by decide +kernel), List.mem_of_getElem? (i := 1277) (by decide +kernel), List.mem_of_getElem? (i := 1278) (by decide +kernel)⟩
theorem lw_p40 : lw_okq (⟨"PlotwiseModel", "isNoChannel", "(II)Z"⟩, 23) := ⟨⟨by decide +kernel, by decide +kernel⟩, List.mem_of_getElem? (i := 1035) (by decide +kernel), List.mem_of_getElem? (i := 1300) (by decide +kernel), List.mem_of_getElem? (i := 1301) (by decide +kernel)⟩
theorem lw_p41 : lw_okq (⟨"PlotwiseModel", "drops", "(I)V"⟩, 23) := ⟨⟨by decide +kernel, by decide +kernel⟩, List.mem_of_getElem? (i := 1035) (by decide +kernel), List.mem_of_getElem? (i := 1332) (by decide +kernel), List.mem_of_getElem? (i := 1333) (by decide +kernel)⟩
def lw_privs_3 : List (MethodName × Nat) := [(⟨"PlotwiseModel", "gaps", "([I)I"⟩, 23), (⟨"PlotwiseModel", "soft", "([I)I"⟩, 23), (⟨"PlotwiseModel", "isLike", "([I[I)Z"⟩, 23), (⟨"PlotwiseModel", "isDistinct", "()Z"⟩, 23), (⟨"PlotwiseModel", "broken", "([I)I"⟩, 23), (⟨"PlotwiseModel", "hasWishes", "([I)Z"⟩, 23), (⟨"PlotwiseModel", "lays", "()V"⟩, 23), (⟨"PlotwiseModel", "isNoRank", "(II)Z"⟩, 23), (⟨"PlotwiseModel", "isNoChannel", "(II)Z"⟩, 23), (⟨"PlotwiseModel", "drops", "(I)V"⟩, 23)]
theorem lw_r3 : ∀ q ∈ lw_privs_3, lw_okq q := List.forall_mem_cons.mpr ⟨lw_p32, List.forall_mem_cons.mpr ⟨lw_p33, List.forall_mem_cons.mpr ⟨lw_p34, List.forall_mem_cons.mpr ⟨lw_p35, List.forall_mem_cons.mpr ⟨lw_p36, List.forall_mem_cons.mpr ⟨lw_p37, List.forall_mem_cons.mpr ⟨lw_p38, List.forall_mem_cons.mpr ⟨lw_p39, List.forall_mem_cons.mpr ⟨lw_p40, List.forall_mem_cons.mpr ⟨lw_p41, fun _ h => absurd h List.not_mem_nil⟩⟩⟩⟩⟩⟩⟩⟩⟩⟩
def lw_privs : List (MethodName × Nat) := lw_privs_1 ++ (lw_privs_2 ++ (lw_privs_3))
def lw_tbl : List Cond := k2_sels lw_privs ++ tables_1
theorem lw_privs_ok : ∀ q ∈ lw_privs, lw_okq q := by
  show ∀ q ∈ lw_privs_1 ++ (lw_privs_2 ++ (lw_privs_3)), lw_okq q
  exact List.forall_mem_append.mpr ⟨lw_r1, List.forall_mem_append.mpr ⟨lw_r2, lw_r3⟩⟩
/-- the streams that the claim lets the run draw from -/
abbrev lw_cs : List Choice := [Jvm.Choice.named "NaN.bits"]
theorem lw_bits : nanBits ∈ lw_cs := by first | decide | exact List.mem_cons_self | simp [lw_cs, nanBits]
/-! ===== BEGIN words of one list among another's, by their places ===== -/
theorem goodIn_r {big : List Cond} (ws : List Cond) (ps : List Nat) (hp : ws = ps.filterMap (fun i => big[i]?)) (h : ws.all goodWord = true) : GoodIn big ws := by
  intro w hw
  have h1 := List.all_eq_true.mp h w hw
  rw [hp] at hw
  obtain ⟨i, -, hi⟩ := List.mem_filterMap.mp hw
  have hm : w ∈ big := by first | exact List.mem_of_getElem? hi | exact List.getElem?_mem hi
  exact ⟨hm, good_of_word h1⟩
theorem goodIn_app {big a b : List Cond} (ha : GoodIn big a) (hb : GoodIn big b) : GoodIn big (a ++ b) := fun w h => (List.mem_append.mp h).elim (ha w) (hb w)
theorem goodIn_ca {big a b : List Cond} {c : Cond} (ha : GoodIn big (c :: a)) (hb : GoodIn big b) : GoodIn big (c :: (a ++ b)) := fun w h => (List.mem_cons.mp h).elim (fun e => ha w (List.mem_cons.mpr (Or.inl e))) (fun h => (List.mem_append.mp h).elim (fun h => ha w (List.mem_cons.mpr (Or.inr h))) (hb w))
theorem goodIn_sub {big ws : List Cond} (hm : ∀ w ∈ ws, w ∈ big) (h : ws.all goodWord = true) : GoodIn big ws := fun w hw => ⟨hm w hw, good_of_word (List.all_eq_true.mp h w hw)⟩
/-! ===== END ===== -/
/-! ===== BEGIN exceptions that leave a method, and their catching by the caller (launches without stack traces) ===== -/
section VXA
/-! The laws vx_back, vx_callV, vx_callS, vx_callSW, vx_throw0, vx_throwS follow proofs of the library, with one case more: JvmDerived/Free/Laws.lean (Back.of_free), Shelf42/LK1.lean (callV, callS), Shelf/KitTraced.lean (throwNew0V, throwNewS). -/
/-- where a method has thrown q: the class by its name, the cell, what was written, the world -/
def vx_T (XC : String → State → State → Prop) (st : State) (q : Addr) (t : State) (mc ms : Nat) (free : Addr → Prop) : Prop :=
  ∃ (E : String) (ce : Cell) (L : List Loc), XC E st t ∧ t.heap[q]? = some ce ∧ ce.vm = .none ∧ st.vm.findClass E = some ce.cls ∧ st.WarmedH t.vm ∧ st.sameButNew ({ t with vm := st.vm } : State) L mc ms ∧ ∀ z ∈ L, free z.base
def vx_Q (Qc : Array Value → State → Outcome → State → Prop) (XC : String → State → State → Prop) (mc ms : Nat) (free : Addr → Prop) : Array Value → State → Outcome → State → Prop := fun a st o t =>
  (Qc a st o t ∧ ∃ L, FrameEnd st o t L mc ms ∧ ∀ q ∈ L, free q.base) ∨ ∃ q, o = .threw q ∧ vx_T XC st q t mc ms free
/-- a callee that returns or throws -/
def vx_Met (l : Launch) (y : MethodName) (ws : List Cond) (rm : Room) (Pc : Array Value → State → Prop) (Qc : Array Value → State → Outcome → State → Prop) (XC : String → State → State → Prop) (mc ms : Nat) (free : Addr → Prop) : Prop :=
  MetFree l y (headSpec ws rm) Pc (fun _ _ _ _ _ => True) (vx_Q Qc XC mc ms free)
def vx_Post (XC : String → State → State → Prop) (mc ms : Nat) (free : Addr → Prop) : Pt → Array Value → Addr → Pt → Prop := fun A a q B =>
  ∃ (g : JFrame) (mk : MethodId) (t : State) (L : List Loc) (E : String) (ce : Cell), B.U.heap = t.heap ∧ B.U.vm = t.vm ∧ XC E (A.U.calling g mk a) t ∧ t.heap[q]? = some ce ∧ ce.vm = .none ∧ A.U.vm.findClass E = some ce.cls ∧ B.locs = A.locs ++ L ∧ (∀ z ∈ L, free z.base) ∧ B.cells = A.cells + mc ∧ B.slots = A.slots + ms
def vx_Back (l : Launch) (R : Room) (p : Program) (e : Env) (below : List Frame) (s : State) (sargs : Array Value) (y : MethodName) (len W9 : Nat)
    (Pre : Pt → Array Value → Prop) (Post : Pt → Array Value → Option Value → Pt → Prop) (PostX : Pt → Array Value → Addr → Pt → Prop) : Prop :=
  ∀ (m : MethodId) (meth : Method) (c : Code) (A : Pt) (g : JFrame) (ig : Instr) (mk : MethodId) (a : Array Value),
    Stand p l e R s m sargs below meth c A.U A.locs A.cells A.slots → g.method = m → g.locals.size = c.maxLocals → decode c.code g.pc = .ok (ig, len) →
    2 * g.monitorRoom + (g.stack.map fun v => v.category).sum ≤ W9 → A.U.methodNamed? y = some mk → Pre A a →
    (∃ (v : Option Value) (B : Pt), Stand p l e R s m sargs below meth c B.U B.locs B.cells B.slots ∧ Post A a v B ∧
      Steps p.tables e below (doInvoke e (A.U.setTop g) [] mk a).1 (B.U.setTop { g with pc := g.pc + len, stack := v.toList ++ g.stack })) ∨
    (∃ (q : Addr) (B : Pt), Stand p l e R s m sargs below meth c B.U B.locs B.cells B.slots ∧ PostX A a q B ∧
      Steps p.tables e below (doInvoke e (A.U.setTop g) [] mk a).1 ((B.U.setTop g).pushFrame (.throwing q)))
section Payer
variable {l : Launch} {R : Room} {p : Program} {e : Env} {below : List Frame} {s : State} {sargs : Array Value} {y : MethodName} {len W9 : Nat}
theorem vx_back {ws : List Cond} {rm : Room} {Pc : Array Value → State → Prop} {Qc : Array Value → State → Outcome → State → Prop} {XC : String → State → State → Prop} {mc ms : Nat} {free : Addr → Prop} {bytes : ByteArray} {maxL : Nat} {ret : Option FieldType}
    (hM : vx_Met l y ws rm Pc Qc XC mc ms free) (hblind : FrameBlind Pc) (hrc : rm.cells = mc) (hrs : rm.slots = ms)
    (hframes : rm.frames + 1 ≤ R.frames) (hlocals : W9 + (maxL + 11) + rm.locals ≤ R.locals)
    (hws : ∀ w ∈ ws, ∀ a' U, s.WarmedH U.vm → w.before a' U = true) (hcode : Cond.code y bytes maxL ret ∈ ws) (hinit : ∀ a' U, s.WarmedH U.vm → (Cond.initialized y.cls).before a' U = true) :
    vx_Back l R p e below s sargs y len W9 (PreOf R mc ms Pc) (PostOf Qc mc ms free) (vx_Post XC mc ms free) := by
  intro m meth c A g ig mk a X hg hsize hdg hW hn hp
  have h1 : (headSpec ws rm).pre.before a A.U = true := atoms_intro fun w hw => hws w hw _ _ X.warmed
  have h2 : (Cond.code y bytes maxL ret).before a A.U = true := hws _ hcode _ _ X.warmed
  have h3 : (Cond.initialized y.cls).before a A.U = true := hinit _ _ X.warmed
  have h4 : A.cells + (headSpec ws rm).room.cells ≤ R.cells := by rw [show (headSpec ws rm).room.cells = mc from hrc]; exact hp.1
  have h5 : A.slots + (headSpec ws rm).room.slots ≤ R.slots := by rw [show (headSpec ws rm).room.slots = ms from hrs]; exact hp.2.1
  have hPc : Pc a (A.U.calling g mk a) := hblind _ _ _ _ hp.2.2
  obtain ⟨U, Ls, c0, s0⟩ := A
  dsimp only [Pt.U, Pt.locs, Pt.cells, Pt.slots] at h1 h2 h3 h4 h5 X hn hPc ⊢
  obtain ⟨methY, cY, hmY, hcY, -, hlY, -, -, -, -⟩ := Cond.code_spec hn h2
  obtain ⟨kY, hkY, -⟩ := className_of_methodNamed hn
  have hinitY : kY.init = .initialized := Cond.initialized_spec (findClass_of_methodNamed hn) hkY h3
  have h : At U g.method c below := by rw [hg]; exact X.here
  have hlocals9 : W9 + (maxL + 11) + (headSpec ws rm).room.locals ≤ R.locals := hlocals
  have happ : (headSpec ws rm).appliesLoose y e.platform (U.calling g mk a) = true :=
    Spec.appliesLoose_calling (g := g) h hdg hn hkY hinitY
      (X.room_calling (g := g) (R' := (headSpec ws rm).room) hsize hmY hcY hframes (by rw [hlY]; omega) h4 h5) h1
  obtain ⟨mid, hmid⟩ := h.above
  have hfr : (U.setTop g).frames = (.java g :: mid) ++ below := by rw [State.frames_setTop' g h.top, hmid]; rfl
  obtain ⟨o, s₂, hsteps, -, hend, hq⟩ := Steps.callFree hM p X.admits X.cas X.clock (acts := []) hfr happ hPc trivial
  have hq' : vx_Q Qc XC mc ms free a (U.calling g mk a) o s₂ := hq
  rw [State.frames_setTop' g h.top] at hend
  obtain ⟨g₀, hg0⟩ := Option.isSome_iff_exists.mp h.top
  obtain ⟨r, hr⟩ := State.topJava?_eq_some.mp hg0
  have hr' : (({ U with heap := s₂.heap, slotsUsed := s₂.slotsUsed } : State).setVm s₂.vm).frames = .java g₀ :: r := hr
  rcases hq' with ⟨hqc, L, hfe, hL⟩ | ⟨q, rfl, E, ce, L, hx, hce, hcv, hcl, hW₂, hsm, hL⟩
  · obtain ⟨⟨v, rfl⟩, hW₂, e2, q2, q3, q4, q5, q6⟩ := id hfe
    have e3 : s₂ = ({ (U.calling g mk a).setFrames s₂.frames with heap := s₂.heap, slotsUsed := s₂.slotsUsed } : State).setVm s₂.vm := by
      have : s₂ = ({ s₂ with vm := (U.calling g mk a).vm } : State).setVm s₂.vm := rfl
      rw [e2] at this
      exact this
    obtain ⟨c₂, i₂, len₂, hc₂, hd₂, hf₂⟩ := hend
    have hW' : U.WarmedH s₂.vm := hW₂
    have hcc : c₂ = c := by
      have h1 : s₂.code? g.method = U.code? g.method := by
        rw [State.code?_eq, State.code?_eq, hW'.alike.method?]
      exact Option.some.inj (hc₂.symm.trans (h1.trans h.code))
    subst hcc
    have hlen : len₂ = len := by rw [hdg] at hd₂; cases hd₂; rfl
    subst hlen
    have hs₂ : s₂ = (({ U with heap := s₂.heap, slotsUsed := s₂.slotsUsed } : State).setVm s₂.vm).setTop { g with pc := g.pc + len₂, stack := v.toList ++ g.stack } := by
      refine e3.trans ?_
      rw [hf₂, State.calling_eq h.top, State.setFrames_setFrames, State.setTop_of_frames _ hr', hr]
      rfl
    have hsame : U.sameButNew ({ U with heap := s₂.heap, slotsUsed := s₂.slotsUsed } : State) L mc ms := by
      refine ⟨?_, q2, q3, q4, q5, q6⟩
      obtain ⟨t, ht, -⟩ := State.frames_cons hr
      show ({ U with heap := s₂.heap, slotsUsed := s₂.slotsUsed } : State) = { U.setFrames U.frames with heap := s₂.heap, slotsUsed := s₂.slotsUsed }
      rw [State.setFrames_self ht]
    subst hg
    refine Or.inl ⟨v, ⟨(({ U with heap := s₂.heap, slotsUsed := s₂.slotsUsed } : State).setVm s₂.vm), Ls ++ L, c0 + mc, s0 + ms⟩,
      ⟨X.admits, X.cas, X.clock, X.frames, X.room, X.hears, X.method, X.code, (X.here.setHeapUsed s₂.heap s₂.slotsUsed).setVm hW'.alike, X.tail, State.WarmedH.trans X.warmed hW', X.limits, X.bytes, X.same.trans (hsame.setVm s.vm)⟩,
      ⟨g, mk, s₂, L, rfl, rfl, hqc, rfl, hL, rfl, rfl⟩, ?_⟩
    show Steps p.tables e below _ ((({ U with heap := s₂.heap, slotsUsed := s₂.slotsUsed } : State).setVm s₂.vm).setTop { g with pc := g.pc + len₂, stack := v.toList ++ g.stack })
    rw [← hs₂]
    exact hsteps
  · obtain ⟨e2, q2, q3, q4, q5, q6⟩ := id hsm
    have e3 : s₂ = ({ (U.calling g mk a).setFrames s₂.frames with heap := s₂.heap, slotsUsed := s₂.slotsUsed } : State).setVm s₂.vm := by
      have : s₂ = ({ s₂ with vm := (U.calling g mk a).vm } : State).setVm s₂.vm := rfl
      rw [e2] at this
      exact this
    have hf₂ : s₂.frames = .throwing q :: .java g :: U.frames.tail := hend
    have hW' : U.WarmedH s₂.vm := hW₂
    have hs₂ : s₂ = ((({ U with heap := s₂.heap, slotsUsed := s₂.slotsUsed } : State).setVm s₂.vm).setTop g).pushFrame (.throwing q) := by
      refine e3.trans ?_
      rw [hf₂, State.calling_eq h.top, State.setFrames_setFrames, State.pushFrame, State.frames_setTop _ hr', State.setTop_of_frames _ hr', State.setFrames_setFrames, hr]
      rfl
    have hsame : U.sameButNew ({ U with heap := s₂.heap, slotsUsed := s₂.slotsUsed } : State) L mc ms := by
      refine ⟨?_, q2, q3, q4, q5, q6⟩
      obtain ⟨t, ht, -⟩ := State.frames_cons hr
      show ({ U with heap := s₂.heap, slotsUsed := s₂.slotsUsed } : State) = { U.setFrames U.frames with heap := s₂.heap, slotsUsed := s₂.slotsUsed }
      rw [State.setFrames_self ht]
    subst hg
    refine Or.inr ⟨q, ⟨(({ U with heap := s₂.heap, slotsUsed := s₂.slotsUsed } : State).setVm s₂.vm), Ls ++ L, c0 + mc, s0 + ms⟩,
      ⟨X.admits, X.cas, X.clock, X.frames, X.room, X.hears, X.method, X.code, (X.here.setHeapUsed s₂.heap s₂.slotsUsed).setVm hW'.alike, X.tail, State.WarmedH.trans X.warmed hW', X.limits, X.bytes, X.same.trans (hsame.setVm s.vm)⟩,
      ⟨g, mk, s₂, L, E, ce, rfl, rfl, hx, hce, hcv, hcl, rfl, hL, rfl, rfl⟩, ?_⟩
    show Steps p.tables e below _ (((({ U with heap := s₂.heap, slotsUsed := s₂.slotsUsed } : State).setVm s₂.vm).setTop g).pushFrame (.throwing q))
    rw [← hs₂]
    exact hsteps
end Payer
section Calls
variable {p : Program} {l : Launch} {e : Env} {R : Room} {s : State} {m : MethodId} {args : Array Value} {below : List Frame} {meth : Method} {c : Code} {T : State} {locs : List Loc} {cells slots : Nat}
theorem vx_callV (X : Stand p l e R s m args below meth c T locs cells slots) (hexec : p.tables.exec = Jvm.exec) {own C : String} {index : Nat} {y : MethodName} {bytes : ByteArray} {maxL : Nat} {ret : Option FieldType}
    (hown : s.vm.findClass own = some m.cls) (hlink : (Cond.methodLink own index y).before args s = true) (hinst : (Cond.instanceMethod y).before args s = true) (hsel : (Cond.selects C y y).before args s = true)
    (hcode : (Cond.code y bytes maxL ret).before args s = true) (hy : y.cls ≠ "java/lang/invoke/MethodHandle" ∧ y.cls ≠ "java/lang/invoke/VarHandle")
    {W9 : Nat} {Pre : Pt → Array Value → Prop} {Post : Pt → Array Value → Option Value → Pt → Prop} {PostX : Pt → Array Value → Addr → Pt → Prop} (hK : vx_Back l R p e below s args y 3 W9 Pre Post PostX)
    {b : Addr} {cellB : Cell} (hcell : T.heap[b]? = some cellB) (hobj : cellB.vm.isStatics = false) (hcls : s.vm.findClass C = some cellB.cls)
    {g : JFrame} (hg : g.method = m) (hsize : g.locals.size = c.maxLocals) {argsL rest : List Value} (hlen : ∀ sig, parseMethodDescriptor y.desc = some sig → argsL.length = sig.parameters.length)
    (hstack : g.stack = argsL.reverse ++ .ref b :: rest) (hW : 2 * g.monitorRoom + (rest.map fun v => v.category).sum ≤ W9) (hdg : decode c.code g.pc = .ok (.invokevirtual index, 3))
    (hpre : ∀ vm₁, s.WarmedH vm₁ → Pre ⟨T.setVm vm₁, locs, cells, slots⟩ (Value.ref b :: argsL).toArray) :
    (∃ (v : Option Value) (vm₁ : Vm) (B : Pt), s.WarmedH vm₁ ∧ Stand p l e R s m args below meth c B.U B.locs B.cells B.slots ∧ Post ⟨T.setVm vm₁, locs, cells, slots⟩ (Value.ref b :: argsL).toArray v B ∧
      ∀ target, Steps p.tables e below (B.U.setTop { g with pc := g.pc + 3, stack := v.toList ++ rest }) target → Steps p.tables e below (T.setTop g) target) ∨
    (∃ (q : Addr) (vm₁ : Vm) (B : Pt), s.WarmedH vm₁ ∧ Stand p l e R s m args below meth c B.U B.locs B.cells B.slots ∧ PostX ⟨T.setVm vm₁, locs, cells, slots⟩ (Value.ref b :: argsL).toArray q B ∧
      Steps p.tables e below (T.setTop g) ((B.U.setTop { g with stack := rest }).pushFrame (.throwing q))) := by
  obtain ⟨mk, methM, hnamed, hmethM, hstM, habM⟩ := Cond.instanceMethod_spec hinst
  obtain ⟨methM', cM, hmethM', -, -, -, -, -, -, hsigM⟩ := Cond.code_spec hnamed hcode
  cases hmethM.symm.trans hmethM'
  obtain ⟨c2, r2, m2, q1, q2, q3, q4, kP, hkP, hkPi⟩ := Cond.selects_spec hsel
  cases hcls.symm.trans q1
  cases (State.methodFound?_of_named hnamed hy).symm.trans q2
  cases hnamed.symm.trans q3
  have hselP : selectMethod e.platform s.vm cellB.cls mk = .method mk := by rw [Launch.admits_selectMethod X.admits]; exact q4
  obtain ⟨vm₁, X₁, hstep₁⟩ := X.invokevirtual hexec hown hlink hnamed hmethM hstM hkP hkPi hy (a := b) (cell := cellB) hcell
    (fun z h => by rw [h] at hobj; cases hobj) hselP hmethM habM hkP hkPi (g := g) hg (argsL := argsL) (rest := rest) (hlen _ hsigM) hstack hdg
  rcases hK m meth c ⟨T.setVm vm₁, locs, cells, slots⟩ { g with stack := rest } (.invokevirtual index) mk (Value.ref b :: argsL).toArray X₁ hg hsize hdg hW (X₁.named hnamed) (hpre vm₁ X₁.warmed) with ⟨v, B, X', hpost, hsteps⟩ | ⟨q, B, X', hpost, hsteps⟩
  · exact Or.inl ⟨v, vm₁, B, X₁.warmed, X', hpost, fun target h => hstep₁ _ fun acts => by rw [doInvoke_state]; exact hsteps.trans h⟩
  · exact Or.inr ⟨q, vm₁, B, X₁.warmed, X', hpost, hstep₁ _ fun acts => by rw [doInvoke_state]; exact hsteps⟩
theorem vx_callS (X : Stand p l e R s m args below meth c T locs cells slots) (hexec : p.tables.exec = Jvm.exec) {own : String} {index : Nat} {y : MethodName} {bytes : ByteArray} {maxL : Nat} {ret : Option FieldType}
    (hown : s.vm.findClass own = some m.cls) (hlink : (Cond.methodLink own index y).before args s = true) (hstat : (Cond.static y).before args s = true) (hinit : (Cond.initialized y.cls).before args s = true)
    (hcode : (Cond.code y bytes maxL ret).before args s = true) (hy : y.cls ≠ "java/lang/invoke/MethodHandle" ∧ y.cls ≠ "java/lang/invoke/VarHandle")
    {W9 : Nat} {Pre : Pt → Array Value → Prop} {Post : Pt → Array Value → Option Value → Pt → Prop} {PostX : Pt → Array Value → Addr → Pt → Prop} (hK : vx_Back l R p e below s args y 3 W9 Pre Post PostX)
    {g : JFrame} (hg : g.method = m) (hsize : g.locals.size = c.maxLocals) {argsL rest : List Value} (hlen : ∀ sig, parseMethodDescriptor y.desc = some sig → argsL.length = sig.parameters.length)
    (hstack : g.stack = argsL.reverse ++ rest) (hW : 2 * g.monitorRoom + (rest.map fun v => v.category).sum ≤ W9) (hdg : decode c.code g.pc = .ok (.invokestatic index, 3))
    (hpre : ∀ vm₁, s.WarmedH vm₁ → Pre ⟨T.setVm vm₁, locs, cells, slots⟩ argsL.toArray) :
    (∃ (v : Option Value) (vm₁ : Vm) (B : Pt), s.WarmedH vm₁ ∧ Stand p l e R s m args below meth c B.U B.locs B.cells B.slots ∧ Post ⟨T.setVm vm₁, locs, cells, slots⟩ argsL.toArray v B ∧
      ∀ target, Steps p.tables e below (B.U.setTop { g with pc := g.pc + 3, stack := v.toList ++ rest }) target → Steps p.tables e below (T.setTop g) target) ∨
    (∃ (q : Addr) (vm₁ : Vm) (B : Pt), s.WarmedH vm₁ ∧ Stand p l e R s m args below meth c B.U B.locs B.cells B.slots ∧ PostX ⟨T.setVm vm₁, locs, cells, slots⟩ argsL.toArray q B ∧
      Steps p.tables e below (T.setTop g) ((B.U.setTop { g with stack := rest }).pushFrame (.throwing q))) := by
  obtain ⟨mk, hnamed⟩ := Cond.code_named hcode
  obtain ⟨methM, cM, hmethM, -, -, -, -, -, -, hsigM⟩ := Cond.code_spec hnamed hcode
  have hstatic : methM.isStatic = true := Cond.static_spec hnamed hmethM hstat
  obtain ⟨kP, hkP, -⟩ := className_of_methodNamed hnamed
  have hinitP : kP.init = .initialized := Cond.initialized_spec (findClass_of_methodNamed hnamed) hkP hinit
  obtain ⟨vm₁, X₁, hstep₁⟩ := X.invokestatic hexec hown hlink hnamed hmethM hstatic hkP hinitP hy (g := g) hg (argsL := argsL) (rest := rest) (hlen _ hsigM) hstack hdg
  rcases hK m meth c ⟨T.setVm vm₁, locs, cells, slots⟩ { g with stack := rest } (.invokestatic index) mk argsL.toArray X₁ hg hsize hdg hW (X₁.named hnamed) (hpre vm₁ X₁.warmed) with ⟨v, B, X', hpost, hsteps⟩ | ⟨q, B, X', hpost, hsteps⟩
  · exact Or.inl ⟨v, vm₁, B, X₁.warmed, X', hpost, fun target h => hstep₁ _ fun acts => by rw [doInvoke_state]; exact hsteps.trans h⟩
  · exact Or.inr ⟨q, vm₁, B, X₁.warmed, X', hpost, hstep₁ _ fun acts => by rw [doInvoke_state]; exact hsteps⟩
end Calls
theorem vx_cls {s : State} {T : State} {vm₁ : Vm} {E : String} {k : ClassId} (hW : s.WarmedH vm₁) (h : (T.setVm vm₁).vm.findClass E = some k) : s.vm.findClass E = some k := by
  have h1 : vm₁.findClass E = some k := h
  rw [hW.alike.findClass] at h1
  exact h1
/-- the method's frame g, with q thrown over it -/
def vx_W (p : Program) (l : Launch) (e : Env) (R : Room) (s : State) (m : MethodId) (args : Array Value) (below : List Frame) (meth : Method) (c : Code) (H : Heap) (locs : List Loc) (cells slots : Nat) (Q : State → Prop) (g : JFrame) (q : Addr) : Prop :=
  ∀ T : State, T.heap = H → Stand p l e R s m args below meth c T locs cells slots → ∃ t, Steps p.tables e below ((T.setTop g).pushFrame (.throwing q)) t ∧ Q t
def vx_Run (p : Program) (l : Launch) (e : Env) (R : Room) (s : State) (m : MethodId) (args : Array Value) (below : List Frame) (meth : Method) (c : Code) (H : Heap) (locs : List Loc) (cells slots mc ms : Nat) (g : JFrame) (rest : List Value) (Qa : State → Outcome → State → Prop) (XC : String → State → State → Prop) (free : Addr → Prop) : Prop :=
  ∀ T : State, T.heap = H → Stand p l e R s m args below meth c T locs cells slots →
    (∃ (v : Option Value) (st₀ t T' : State) (L : List Loc), st₀.heap = H ∧ Stand p l e R s m args below meth c T' (locs ++ L) (cells + mc) (slots + ms) ∧ (∀ q ∈ L, free q.base) ∧ T'.heap = t.heap ∧ T'.vm = t.vm ∧ Qa st₀ (.returned v) t ∧
      Goes p e below T g T' { g with pc := g.pc + 3, stack := v.toList ++ rest }) ∨
    (∃ (q : Addr) (st₀ t T' : State) (L : List Loc) (E : String) (ce : Cell), st₀.heap = H ∧ Stand p l e R s m args below meth c T' (locs ++ L) (cells + mc) (slots + ms) ∧ (∀ z ∈ L, free z.base) ∧ T'.heap = t.heap ∧ T'.vm = t.vm ∧ XC E st₀ t ∧ t.heap[q]? = some ce ∧ ce.vm = .none ∧ s.vm.findClass E = some ce.cls ∧
      Steps p.tables e below (T.setTop g) ((T'.setTop { g with stack := rest }).pushFrame (.throwing q)))
def vx_X {S : Type} (px : S → Prop) (B : String → S → State → Prop) (A : Nat → Prop) : String → State → State → Prop := fun E st t => ∃ u : S, px u ∧ B E u t ∧ va_F A st t
section Runs
variable {p : Program} {l : Launch} {e : Env} {R : Room} {s : State} {m : MethodId} {args : Array Value} {below : List Frame} {meth : Method} {c : Code} {H : Heap} {locs : List Loc} {cells slots : Nat}
variable {y : MethodName} {bytes cc : ByteArray} {maxL nL mc ms n index : Nat} {ret : Option FieldType} {ws : List Cond} {rm : Room} {Pc : Array Value → State → Prop} {Qc : Array Value → State → Outcome → State → Prop} {XC : String → State → State → Prop} {free : Addr → Prop} {Ts : List Cond} {own C : String} {b : Addr} {As rest : List Value} {g : JFrame}
theorem vx_callBack (cb : CallB R s args own index y bytes maxL ret ws rm mc ms n) (hM : vx_Met l y ws rm Pc Qc XC mc ms free) (hbl : FrameBlind Pc) : vx_Back l R p e below s args y 3 8 (PreOf R mc ms Pc) (PostOf Qc mc ms free) (vx_Post XC mc ms free) := by
  obtain ⟨hrc, hrs, hfr, hlo, hws, hcw, -, hini, -⟩ := cb
  exact vx_back (bytes := bytes) (maxL := maxL) (ret := ret) hM hbl hrc hrs hfr hlo hws hcw (fun a' U hW => word_at hW (Or.inl (by first | rfl | simp [Cond.onTables, Cond.keeps, Cond.steady])) hini)
theorem vx_runV (S : CallFix p m c cc nL s args Ts own) (hM : vx_Met l y ws rm Pc Qc XC mc ms free) (cw : CallW R s args own C index y bytes maxL ret ws rm mc ms n) (hp : PreV s H C b Pc As)
    (hg : g.method = m) (hn : As.length = n) (hsize : g.locals.size = nL) (hstack : g.stack = As.reverse ++ .ref b :: rest) (hW : 2 * g.monitorRoom + (rest.map fun v => v.category).sum ≤ 8) (hdg : decode cc g.pc = .ok (.invokevirtual index, 3)) (hf : cells + mc ≤ R.cells ∧ slots + ms ≤ R.slots) :
    vx_Run p l e R s m args below meth c H locs cells slots mc ms g rest (Qc (Value.ref b :: As).toArray) XC free := by
  have hK : vx_Back l R p e below s args y 3 8 (PreOf R mc ms Pc) (PostOf Qc mc ms free) (vx_Post XC mc ms free) := vx_callBack cw.1 hM hp.1
  obtain ⟨⟨-, -, -, -, -, -, hcode, -, hy, hlen, hl⟩, hin, hse⟩ := cw
  obtain ⟨hx, hb, hml, ho, -⟩ := S
  obtain ⟨-, ⟨cellB, hcB, hoB, hclB⟩, hPc⟩ := hp
  intro T hT X
  rcases vx_callV X hx (C := C) (bytes := bytes) (maxL := maxL) (ret := ret) ho hl hin hse hcode hy hK (by rw [hT]; exact hcB) hoB hclB hg (hsize.trans hml.symm) (argsL := As) (rest := rest) (fun sig h => hn.trans (hlen sig h)) hstack hW (by rw [hb]; exact hdg)
    (fun vm₁ hW₁ => ⟨hf.1, hf.2, hPc (T.setVm vm₁) hT hW₁⟩) with ⟨v, vm₁, ⟨U', l2, c2, s2⟩, hW₁, X', ⟨g', mk, t, L, e1, e2, hq, h1, hL, h2, h3⟩, st⟩ | ⟨q, vm₁, ⟨U', l2, c2, s2⟩, hW₁, X', ⟨g', mk, t, L, E, ce, e1, e2, hq, hce, hcv, hcl, h1, hL, h2, h3⟩, st⟩
  · dsimp only [Pt.U, Pt.locs, Pt.cells, Pt.slots] at X' e1 e2 h1 h2 h3 st
    subst h1; subst h2; subst h3
    exact Or.inl ⟨v, (T.setVm vm₁).calling g' mk (Value.ref b :: As).toArray, t, U', L, hT, X', hL, e1, e2, hq, st⟩
  · dsimp only [Pt.U, Pt.locs, Pt.cells, Pt.slots] at X' e1 e2 h1 h2 h3 st hcl
    subst h1; subst h2; subst h3
    exact Or.inr ⟨q, (T.setVm vm₁).calling g' mk (Value.ref b :: As).toArray, t, U', L, E, ce, hT, X', hL, e1, e2, hq, hce, hcv, vx_cls hW₁ hcl, st⟩
theorem vx_runS (S : CallFix p m c cc nL s args Ts own) (hM : vx_Met l y ws rm Pc Qc XC mc ms free) (cw : CallB R s args own index y bytes maxL ret ws rm mc ms n ∧ (Cond.static y).before args s = true) (hp : PreS s H Pc As)
    (hg : g.method = m) (hn : As.length = n) (hsize : g.locals.size = nL) (hstack : g.stack = As.reverse ++ rest) (hW : 2 * g.monitorRoom + (rest.map fun v => v.category).sum ≤ 8) (hdg : decode cc g.pc = .ok (.invokestatic index, 3)) (hf : cells + mc ≤ R.cells ∧ slots + ms ≤ R.slots) :
    vx_Run p l e R s m args below meth c H locs cells slots mc ms g rest (Qc As.toArray) XC free := by
  have hK : vx_Back l R p e below s args y 3 8 (PreOf R mc ms Pc) (PostOf Qc mc ms free) (vx_Post XC mc ms free) := vx_callBack cw.1 hM hp.1
  obtain ⟨⟨-, -, -, -, -, -, hcode, hini, hy, hlen, hl⟩, hstt⟩ := cw
  obtain ⟨hx, hb, hml, ho, -⟩ := S
  intro T hT X
  rcases vx_callS X hx (bytes := bytes) (maxL := maxL) (ret := ret) ho hl hstt hini hcode hy hK hg (hsize.trans hml.symm) (argsL := As) (rest := rest) (fun sig h => hn.trans (hlen sig h)) hstack hW (by rw [hb]; exact hdg)
    (fun vm₁ hW₁ => ⟨hf.1, hf.2, hp.2 (T.setVm vm₁) hT hW₁⟩) with ⟨v, vm₁, ⟨U', l2, c2, s2⟩, hW₁, X', ⟨g', mk, t, L, e1, e2, hq, h1, hL, h2, h3⟩, st⟩ | ⟨q, vm₁, ⟨U', l2, c2, s2⟩, hW₁, X', ⟨g', mk, t, L, E, ce, e1, e2, hq, hce, hcv, hcl, h1, hL, h2, h3⟩, st⟩
  · dsimp only [Pt.U, Pt.locs, Pt.cells, Pt.slots] at X' e1 e2 h1 h2 h3 st
    subst h1; subst h2; subst h3
    exact Or.inl ⟨v, (T.setVm vm₁).calling g' mk As.toArray, t, U', L, hT, X', hL, e1, e2, hq, st⟩
  · dsimp only [Pt.U, Pt.locs, Pt.cells, Pt.slots] at X' e1 e2 h1 h2 h3 st hcl
    subst h1; subst h2; subst h3
    exact Or.inr ⟨q, (T.setVm vm₁).calling g' mk As.toArray, t, U', L, E, ce, hT, X', hL, e1, e2, hq, hce, hcv, vx_cls hW₁ hcl, st⟩
end Runs
section Rows
variable {p : Program} {l : Launch} {e : Env} {R : Room} {s : State} {m : MethodId} {args : Array Value} {below : List Frame} {meth : Method} {c : Code} {H : Heap} {locs : List Loc} {cells slots : Nat} {Q : State → Prop}
variable {mc ms : Nat} {free : Addr → Prop} {A0 A1 : Nat → Prop} {H0 : Heap} {a : Array Value} {pc : Nat} {ls : Array Slot} {st0 rest : List Value}
theorem vx_keep {st₀ t T' : State} {L : List Loc} (h0 : st₀.heap = H) (e1 : T'.heap = t.heap) (hS : va_S A0 H0 H locs) (hA : ∀ q, q < H.size → A1 q → A0 q) (hf : ∀ q, free q → A0 q) (hL : ∀ q ∈ L, free q.base) (hF : va_F A1 st₀ t) :
    H.size ≤ T'.heap.size ∧ (∀ q : Nat, q < H.size → ¬ A1 q → T'.heap[q]? = H[q]?) ∧ va_S A0 H0 T'.heap (locs ++ L) := by
  obtain ⟨hz, hk⟩ := hF
  rw [h0] at hz hk
  exact ⟨by rw [e1]; exact hz, fun q h1 h2 => by rw [e1]; exact hk q h1 h2,
    ⟨Nat.le_trans hS.1 (by rw [e1]; exact hz), fun q h1 h2 => by rw [e1, hk q (Nat.lt_of_lt_of_le h1 hS.1) (fun z => h2 (hA q (Nat.lt_of_lt_of_le h1 hS.1) z))]; exact hS.2.1 q h1 h2, fun q hq => by
      rcases List.mem_append.mp hq with h | h
      · exact hS.2.2 q h
      · exact hf _ (hL q h)⟩⟩
theorem vx_calli {S SX : Type} {post : Int32 → S → Prop} {px : SX → Prop} {B : S → State → Prop} {BX : String → SX → State → Prop} {AX : Nat → Prop} (hr : vx_Run p l e R s m args below meth c H locs cells slots mc ms (F0 m pc ls st0) rest (va_Qi post B A1 a) (vx_X px BX AX) free) (hS : va_S A0 H0 H locs) (hA : ∀ q, q < H.size → A1 q → A0 q) (hf : ∀ q, free q → A0 q) (hAX : ∀ q, q < H.size → AX q → A0 q)
    (kx : ∀ (E : String) (ce : Cell) (q9 : Addr) (u : SX) (t : State) (H1 : Heap) (locs1 : List Loc), t.heap = H1 → s.vm.Alike t.vm → px u → BX E u t → H.size ≤ H1.size → (∀ q : Nat, q < H.size → ¬ AX q → H1[q]? = H[q]?) → va_S A0 H0 H1 locs1 → H1[q9]? = some ce → ce.vm = .none → s.vm.findClass E = some ce.cls → vx_W p l e R s m args below meth c H1 locs1 (cells + mc) (slots + ms) Q (F0 m pc ls rest) q9)
    (kk : ∀ (r : Int32) (u : S) (t : State) (H1 : Heap) (locs1 : List Loc), t.heap = H1 → s.vm.Alike t.vm → post r u → B u t → H.size ≤ H1.size → (∀ q : Nat, q < H.size → ¬ A1 q → H1[q]? = H[q]?) → va_S A0 H0 H1 locs1 → W p l e R s m args below meth c H1 locs1 (cells + mc) (slots + ms) Q (F0 m (pc + 3) ls (.int r :: rest))) : W p l e R s m args below meth c H locs cells slots Q (F0 m pc ls st0) := by
  intro T hT X
  rcases hr T hT X with ⟨v, st₀, t, T', L, h0, X', hL, e1, e2, ⟨⟨r, u, hv, hp, hb⟩, hF⟩, st⟩ | ⟨q, st₀, t, T', L, E, ce, h0, X', hL, e1, e2, ⟨u, hp, hb, hF⟩, hce, hcv, hcl, st⟩
  · cases hv
    obtain ⟨k1, k2, k3⟩ := vx_keep h0 e1 hS hA hf hL hF
    obtain ⟨t2, a1, b1⟩ := kk r u t T'.heap (locs ++ L) e1.symm (by rw [← e2]; exact X'.warmed.alike) hp hb k1 k2 k3 T' rfl X'
    exact ⟨t2, st t2 a1, b1⟩
  · obtain ⟨k1, k2, k3⟩ := vx_keep h0 e1 hS hAX hf hL hF
    obtain ⟨t2, a1, b1⟩ := kx E ce q u t T'.heap (locs ++ L) e1.symm (by rw [← e2]; exact X'.warmed.alike) hp hb k1 k2 k3 (by rw [e1]; exact hce) hcv hcl T' rfl X'
    exact ⟨t2, st.trans a1, b1⟩
theorem vx_calll {S SX : Type} {post : Int64 → S → Prop} {px : SX → Prop} {B : S → State → Prop} {BX : String → SX → State → Prop} {AX : Nat → Prop} (hr : vx_Run p l e R s m args below meth c H locs cells slots mc ms (F0 m pc ls st0) rest (va_Ql post B A1 a) (vx_X px BX AX) free) (hS : va_S A0 H0 H locs) (hA : ∀ q, q < H.size → A1 q → A0 q) (hf : ∀ q, free q → A0 q) (hAX : ∀ q, q < H.size → AX q → A0 q)
    (kx : ∀ (E : String) (ce : Cell) (q9 : Addr) (u : SX) (t : State) (H1 : Heap) (locs1 : List Loc), t.heap = H1 → s.vm.Alike t.vm → px u → BX E u t → H.size ≤ H1.size → (∀ q : Nat, q < H.size → ¬ AX q → H1[q]? = H[q]?) → va_S A0 H0 H1 locs1 → H1[q9]? = some ce → ce.vm = .none → s.vm.findClass E = some ce.cls → vx_W p l e R s m args below meth c H1 locs1 (cells + mc) (slots + ms) Q (F0 m pc ls rest) q9)
    (kk : ∀ (r : Int64) (u : S) (t : State) (H1 : Heap) (locs1 : List Loc), t.heap = H1 → s.vm.Alike t.vm → post r u → B u t → H.size ≤ H1.size → (∀ q : Nat, q < H.size → ¬ A1 q → H1[q]? = H[q]?) → va_S A0 H0 H1 locs1 → W p l e R s m args below meth c H1 locs1 (cells + mc) (slots + ms) Q (F0 m (pc + 3) ls (.long r :: rest))) : W p l e R s m args below meth c H locs cells slots Q (F0 m pc ls st0) := by
  intro T hT X
  rcases hr T hT X with ⟨v, st₀, t, T', L, h0, X', hL, e1, e2, ⟨⟨r, u, hv, hp, hb⟩, hF⟩, st⟩ | ⟨q, st₀, t, T', L, E, ce, h0, X', hL, e1, e2, ⟨u, hp, hb, hF⟩, hce, hcv, hcl, st⟩
  · cases hv
    obtain ⟨k1, k2, k3⟩ := vx_keep h0 e1 hS hA hf hL hF
    obtain ⟨t2, a1, b1⟩ := kk r u t T'.heap (locs ++ L) e1.symm (by rw [← e2]; exact X'.warmed.alike) hp hb k1 k2 k3 T' rfl X'
    exact ⟨t2, st t2 a1, b1⟩
  · obtain ⟨k1, k2, k3⟩ := vx_keep h0 e1 hS hAX hf hL hF
    obtain ⟨t2, a1, b1⟩ := kx E ce q u t T'.heap (locs ++ L) e1.symm (by rw [← e2]; exact X'.warmed.alike) hp hb k1 k2 k3 (by rw [e1]; exact hce) hcv hcl T' rfl X'
    exact ⟨t2, st.trans a1, b1⟩
theorem vx_callf {S SX : Type} {post : UInt32 → S → Prop} {px : SX → Prop} {B : S → State → Prop} {BX : String → SX → State → Prop} {AX : Nat → Prop} (hr : vx_Run p l e R s m args below meth c H locs cells slots mc ms (F0 m pc ls st0) rest (va_Qf post B A1 a) (vx_X px BX AX) free) (hS : va_S A0 H0 H locs) (hA : ∀ q, q < H.size → A1 q → A0 q) (hf : ∀ q, free q → A0 q) (hAX : ∀ q, q < H.size → AX q → A0 q)
    (kx : ∀ (E : String) (ce : Cell) (q9 : Addr) (u : SX) (t : State) (H1 : Heap) (locs1 : List Loc), t.heap = H1 → s.vm.Alike t.vm → px u → BX E u t → H.size ≤ H1.size → (∀ q : Nat, q < H.size → ¬ AX q → H1[q]? = H[q]?) → va_S A0 H0 H1 locs1 → H1[q9]? = some ce → ce.vm = .none → s.vm.findClass E = some ce.cls → vx_W p l e R s m args below meth c H1 locs1 (cells + mc) (slots + ms) Q (F0 m pc ls rest) q9)
    (kk : ∀ (r : UInt32) (u : S) (t : State) (H1 : Heap) (locs1 : List Loc), t.heap = H1 → s.vm.Alike t.vm → post r u → B u t → H.size ≤ H1.size → (∀ q : Nat, q < H.size → ¬ A1 q → H1[q]? = H[q]?) → va_S A0 H0 H1 locs1 → W p l e R s m args below meth c H1 locs1 (cells + mc) (slots + ms) Q (F0 m (pc + 3) ls (.float r :: rest))) : W p l e R s m args below meth c H locs cells slots Q (F0 m pc ls st0) := by
  intro T hT X
  rcases hr T hT X with ⟨v, st₀, t, T', L, h0, X', hL, e1, e2, ⟨⟨r, u, hv, hp, hb⟩, hF⟩, st⟩ | ⟨q, st₀, t, T', L, E, ce, h0, X', hL, e1, e2, ⟨u, hp, hb, hF⟩, hce, hcv, hcl, st⟩
  · cases hv
    obtain ⟨k1, k2, k3⟩ := vx_keep h0 e1 hS hA hf hL hF
    obtain ⟨t2, a1, b1⟩ := kk r u t T'.heap (locs ++ L) e1.symm (by rw [← e2]; exact X'.warmed.alike) hp hb k1 k2 k3 T' rfl X'
    exact ⟨t2, st t2 a1, b1⟩
  · obtain ⟨k1, k2, k3⟩ := vx_keep h0 e1 hS hAX hf hL hF
    obtain ⟨t2, a1, b1⟩ := kx E ce q u t T'.heap (locs ++ L) e1.symm (by rw [← e2]; exact X'.warmed.alike) hp hb k1 k2 k3 (by rw [e1]; exact hce) hcv hcl T' rfl X'
    exact ⟨t2, st.trans a1, b1⟩
theorem vx_calld {S SX : Type} {post : UInt64 → S → Prop} {px : SX → Prop} {B : S → State → Prop} {BX : String → SX → State → Prop} {AX : Nat → Prop} (hr : vx_Run p l e R s m args below meth c H locs cells slots mc ms (F0 m pc ls st0) rest (va_Qd post B A1 a) (vx_X px BX AX) free) (hS : va_S A0 H0 H locs) (hA : ∀ q, q < H.size → A1 q → A0 q) (hf : ∀ q, free q → A0 q) (hAX : ∀ q, q < H.size → AX q → A0 q)
    (kx : ∀ (E : String) (ce : Cell) (q9 : Addr) (u : SX) (t : State) (H1 : Heap) (locs1 : List Loc), t.heap = H1 → s.vm.Alike t.vm → px u → BX E u t → H.size ≤ H1.size → (∀ q : Nat, q < H.size → ¬ AX q → H1[q]? = H[q]?) → va_S A0 H0 H1 locs1 → H1[q9]? = some ce → ce.vm = .none → s.vm.findClass E = some ce.cls → vx_W p l e R s m args below meth c H1 locs1 (cells + mc) (slots + ms) Q (F0 m pc ls rest) q9)
    (kk : ∀ (r : UInt64) (u : S) (t : State) (H1 : Heap) (locs1 : List Loc), t.heap = H1 → s.vm.Alike t.vm → post r u → B u t → H.size ≤ H1.size → (∀ q : Nat, q < H.size → ¬ A1 q → H1[q]? = H[q]?) → va_S A0 H0 H1 locs1 → W p l e R s m args below meth c H1 locs1 (cells + mc) (slots + ms) Q (F0 m (pc + 3) ls (.double r :: rest))) : W p l e R s m args below meth c H locs cells slots Q (F0 m pc ls st0) := by
  intro T hT X
  rcases hr T hT X with ⟨v, st₀, t, T', L, h0, X', hL, e1, e2, ⟨⟨r, u, hv, hp, hb⟩, hF⟩, st⟩ | ⟨q, st₀, t, T', L, E, ce, h0, X', hL, e1, e2, ⟨u, hp, hb, hF⟩, hce, hcv, hcl, st⟩
  · cases hv
    obtain ⟨k1, k2, k3⟩ := vx_keep h0 e1 hS hA hf hL hF
    obtain ⟨t2, a1, b1⟩ := kk r u t T'.heap (locs ++ L) e1.symm (by rw [← e2]; exact X'.warmed.alike) hp hb k1 k2 k3 T' rfl X'
    exact ⟨t2, st t2 a1, b1⟩
  · obtain ⟨k1, k2, k3⟩ := vx_keep h0 e1 hS hAX hf hL hF
    obtain ⟨t2, a1, b1⟩ := kx E ce q u t T'.heap (locs ++ L) e1.symm (by rw [← e2]; exact X'.warmed.alike) hp hb k1 k2 k3 (by rw [e1]; exact hce) hcv hcl T' rfl X'
    exact ⟨t2, st.trans a1, b1⟩
theorem vx_callv {S SX : Type} {post : S → Prop} {px : SX → Prop} {B : S → State → Prop} {BX : String → SX → State → Prop} {AX : Nat → Prop} (hr : vx_Run p l e R s m args below meth c H locs cells slots mc ms (F0 m pc ls st0) rest (va_Qv post B A1 a) (vx_X px BX AX) free) (hS : va_S A0 H0 H locs) (hA : ∀ q, q < H.size → A1 q → A0 q) (hf : ∀ q, free q → A0 q) (hAX : ∀ q, q < H.size → AX q → A0 q)
    (kx : ∀ (E : String) (ce : Cell) (q9 : Addr) (u : SX) (t : State) (H1 : Heap) (locs1 : List Loc), t.heap = H1 → s.vm.Alike t.vm → px u → BX E u t → H.size ≤ H1.size → (∀ q : Nat, q < H.size → ¬ AX q → H1[q]? = H[q]?) → va_S A0 H0 H1 locs1 → H1[q9]? = some ce → ce.vm = .none → s.vm.findClass E = some ce.cls → vx_W p l e R s m args below meth c H1 locs1 (cells + mc) (slots + ms) Q (F0 m pc ls rest) q9)
    (kk : ∀ (u : S) (t : State) (H1 : Heap) (locs1 : List Loc), t.heap = H1 → s.vm.Alike t.vm → post u → B u t → H.size ≤ H1.size → (∀ q : Nat, q < H.size → ¬ A1 q → H1[q]? = H[q]?) → va_S A0 H0 H1 locs1 → W p l e R s m args below meth c H1 locs1 (cells + mc) (slots + ms) Q (F0 m (pc + 3) ls (rest))) : W p l e R s m args below meth c H locs cells slots Q (F0 m pc ls st0) := by
  intro T hT X
  rcases hr T hT X with ⟨v, st₀, t, T', L, h0, X', hL, e1, e2, ⟨⟨u, hv, hp, hb⟩, hF⟩, st⟩ | ⟨q, st₀, t, T', L, E, ce, h0, X', hL, e1, e2, ⟨u, hp, hb, hF⟩, hce, hcv, hcl, st⟩
  · cases hv
    obtain ⟨k1, k2, k3⟩ := vx_keep h0 e1 hS hA hf hL hF
    obtain ⟨t2, a1, b1⟩ := kk u t T'.heap (locs ++ L) e1.symm (by rw [← e2]; exact X'.warmed.alike) hp hb k1 k2 k3 T' rfl X'
    exact ⟨t2, st t2 a1, b1⟩
  · obtain ⟨k1, k2, k3⟩ := vx_keep h0 e1 hS hAX hf hL hF
    obtain ⟨t2, a1, b1⟩ := kx E ce q u t T'.heap (locs ++ L) e1.symm (by rw [← e2]; exact X'.warmed.alike) hp hb k1 k2 k3 (by rw [e1]; exact hce) hcv hcl T' rfl X'
    exact ⟨t2, st.trans a1, b1⟩
/-- caught by the row x of this method's table; the rows ahead don't take it -/
theorem vx_catch {own name : String} {E : String} {ce : Cell} {q : Addr} (hown : s.vm.findClass own = some m.cls) (pre : List ExceptionTableEntry) (x : ExceptionTableEntry) (suf : List ExceptionTableEntry) (hsplit : c.exceptionTable.toList = pre ++ x :: suf)
    (hpass : ∀ z ∈ pre, covers z pc = false ∨ (z.catchType ≠ 0 ∧ ∃ nm : String, (Cond.classLink own z.catchType nm).before args s = true ∧ va_Nc E nm s)) (hx : covers x pc = true) (h0 : x.catchType ≠ 0)
    (hlink : (Cond.classLink own x.catchType name).before args s = true) (hcast : (Cond.castable E name).before args s = true) (hcell : H[q]? = some ce) (hv : ce.vm = .none) (hcl : s.vm.findClass E = some ce.cls)
    (kk : W p l e R s m args below meth c H locs cells slots Q (F0 m x.handlerPc ls [.ref q])) : vx_W p l e R s m args below meth c H locs cells slots Q (F0 m pc ls rest) q := by
  intro T hT X
  have hpl : e.platform.magicAccessors = ({} : Platform).magicAccessors := by rw [X.admits.platform]
  obtain ⟨c3, c4, hc3, hc4, hasg⟩ := Cond.castable_spec hcast
  cases Option.some.inj (hc3.symm.trans hcl)
  obtain ⟨c5, hc5, hcl5⟩ := Cond.classLink_spec hown hlink e.platform hpl
  cases Option.some.inj (hc4.symm.trans hc5)
  obtain ⟨vm', X', st⟩ := X.thenCaughtThrough q (g := F0 m pc ls rest) rfl (Steps.refl _) (by rw [hT]; exact hcell) (by rw [hv]; rfl) (by obtain ⟨k9, h9, -⟩ := Vm.findClass_spec hcl; exact ⟨k9, h9⟩) pre x suf hsplit
    (fun z hz => by
      rcases hpass z hz with h | ⟨hz0, nm, hl1, hn1⟩
      · exact Or.inl h
      · obtain ⟨c6, hc6, hcl6⟩ := Cond.classLink_spec hown hl1 e.platform hpl
        obtain ⟨a8, b8, h1, h2, h3⟩ := hn1
        cases Option.some.inj (h1.symm.trans hcl)
        cases Option.some.inj (h2.symm.trans hc6)
        exact Or.inr ⟨hz0, _, hcl6, h3⟩) hx (Or.inr ⟨h0, c4, hcl5, hasg⟩)
  obtain ⟨t, a1, b1⟩ := kk (T.setVm vm') hT X'
  exact ⟨t, st.trans a1, b1⟩
end Rows
section Ends
variable {p : Program} {l : Launch} {e : Env} {R : Room} {s : State} {m : MethodId} {args : Array Value} {below : List Frame} {meth : Method} {c : Code} {H : Heap} {locs : List Loc} {cells slots : Nat} {Q : State → Prop}
variable {mc ms : Nat} {free : Addr → Prop} {A0 A1 : Nat → Prop} {H0 : Heap} {a : Array Value} {ls : Array Slot} {st0 rest : List Value}
variable {Qc : Array Value → State → Outcome → State → Prop} {XC : String → State → State → Prop}
/-- what a body that may throw owes at its end -/
def vx_MQ (below : List Frame) (Qc : Array Value → State → Outcome → State → Prop) (XC : String → State → State → Prop) (a : Array Value) (s : State) (mc ms : Nat) (free : Addr → Prop) : State → Prop := fun t =>
  ∃ o, t.status = .running ∧ Ended t below o ∧ vx_Q Qc XC mc ms free a s o t
theorem vx_ret {g : JFrame} {mc ms : Nat} (k : W p l e R s m args below meth c H locs cells slots (MQ below Qc args s mc ms free) g) : W p l e R s m args below meth c H locs cells slots (vx_MQ below Qc XC args s mc ms free) g := by
  intro T hT X
  obtain ⟨t, a1, o, b1, b2, b3, b4⟩ := k T hT X
  exact ⟨t, a1, o, b1, b2, Or.inl ⟨b3, b4⟩⟩
/-- not caught here: it goes on to the caller -/
theorem vx_widen {g : JFrame} {q : Addr} {k n : Nat} (h1 : cells ≤ k) (h2 : slots ≤ n) (kk : vx_W p l e R s m args below meth c H locs k n Q g q) : vx_W p l e R s m args below meth c H locs cells slots Q g q := fun T hT X => kk T hT (stand_widen X h1 h2)
theorem vx_out {pc : Nat} {E : String} {ce : Cell} {q : Addr} {mc ms : Nat} (hout : ∀ x ∈ c.exceptionTable.toList, covers x pc = false) (hlocks : meth.locks = false) (hcell : H[q]? = some ce) (hv : ce.vm = .none) (hcl : s.vm.findClass E = some ce.cls)
    (hx : ∀ t : State, t.heap = H → s.vm.Alike t.vm → XC E s t) (hf : ∀ z ∈ locs, free z.base) (hc : cells ≤ mc) (hs : slots ≤ ms) :
    vx_W p l e R s m args below meth c H locs cells slots (vx_MQ below Qc XC args s mc ms free) (F0 m pc ls rest) q := by
  intro T hT X
  obtain ⟨st1, hrun, hend, hW, hsm⟩ := X.leaveThrown q (g := F0 m pc ls rest) rfl rfl rfl hout hlocks
  have hcell9 : (T.setFrames (.throwing q :: below)).heap[q]? = some ce := by
    show T.heap[q]? = some ce
    rw [hT]; exact hcell
  exact ⟨_, st1, .threw q, hrun, hend, Or.inr ⟨q, rfl, E, ce, locs, hx _ hT hW.alike, hcell9, hv, hcl, hW, hsm.mono hc hs, hf⟩⟩
theorem vx_frame {U : State} {k n : Nat} (h : s.sameButNew ({ U with vm := s.vm } : State) locs k n) : s.heap.size ≤ U.heap.size ∧ ∀ q : Nat, q < s.heap.size → (∀ z ∈ locs, z.base ≠ q) → U.heap[q]? = s.heap[q]? := by
  obtain ⟨-, h2, -, -, -, h6⟩ := h
  refine ⟨h2, fun q hq hz => ?_⟩
  obtain ⟨c9, e1, e2, e3, e4⟩ := h6 q _ (Array.getElem?_eq_getElem hq)
  have hs : c9.slots = (s.heap[q]).slots := Array.ext_getElem? fun i => e4 i fun hm => hz _ hm rfl
  have h9 : c9 = s.heap[q] := by
    rw [hs] at e2
    exact e2
  have e5 : U.heap[q]? = some c9 := e1
  rw [e5, h9, Array.getElem?_eq_getElem hq]
/-- the words of a throw but the four that speak of the heap -/
def vx_no (w : Cond) : Bool := decide (w ≠ .isRef (.static Bundle.tN "UNASSIGNED_STACK" Bundle.steD)) && decide (w ≠ .isRef (.static Bundle.tN "SUPPRESSED_SENTINEL" Bundle.listD)) && decide (w ≠ .laysStatic Bundle.tN "UNASSIGNED_STACK" Bundle.steD) && decide (w ≠ .laysStatic Bundle.tN "SUPPRESSED_SENTINEL" Bundle.listD)
def vx_at0 (own : String) (ic : Nat) (X : String) (names : List String) : List Cond := (Bundle.ownAtoms0 own ic X names).filter vx_no
def vx_atS (own : String) (ic : Nat) (X : String) (names : List String) : List Cond := (Bundle.ownAtoms own ic X names).filter vx_no
/-- a word that the tables alone decide, or a good one -/
def vx_ot (w : Cond) : Bool := w.onTables || goodWord w
theorem vx_ot_at {args a' : Array Value} {s U : State} {w : Cond} (hW : s.WarmedH U.vm) (hvm : s.vm = U.vm) (hg : vx_ot w = true) (h : w.before args s = true) : w.before a' U = true := by
  simp only [vx_ot, Bool.or_eq_true] at hg
  rcases hg with hg | hg
  · exact va_tabs hg hvm h
  · exact word_at hW (good_of_word hg) h
/-- a list's words: the good ones out of the method's own list, the others by premises of their own -/
theorem vx_hat {args : Array Value} {s : State} {L B : List Cond} (h1 : ∀ w ∈ L.filter goodWord, w.before args s = true) (h2 : ∀ w ∈ L.filter (fun w => !goodWord w), w ∈ B) (h3 : ∀ w ∈ B, w.before args s = true) : ∀ w ∈ L, w.before args s = true := by
  intro w hw
  by_cases g : goodWord w = true
  · exact h1 w (List.mem_filter.mpr ⟨hw, g⟩)
  · refine h3 w (h2 w (List.mem_filter.mpr ⟨hw, ?_⟩))
    show (!goodWord w) = true
    cases hgw : goodWord w
    · rfl
    · exact absurd hgw g
theorem vx_c {args : Array Value} {s : State} {w : Cond} {B : List Cond} (h : w.before args s = true) (t : ∀ w ∈ B, w.before args s = true) : ∀ w' ∈ w :: B, w'.before args s = true := fun w' h' => (List.mem_cons.mp h').elim (fun e => by rw [e]; exact h) (t w')
theorem vx_n {args : Array Value} {s : State} : ∀ w ∈ ([] : List Cond), w.before args s = true := fun _ h => nomatch h
theorem vx_own {args : Array Value} {s : State} {L : List Cond} (h1 : ∀ w ∈ L.filter vx_no, w.before args s = true)
    (hU : (Cond.isRef (.static Bundle.tN "UNASSIGNED_STACK" Bundle.steD)).before args s = true) (hN : (Cond.isRef (.static Bundle.tN "SUPPRESSED_SENTINEL" Bundle.listD)).before args s = true)
    (lU : (Cond.laysStatic Bundle.tN "UNASSIGNED_STACK" Bundle.steD).before args s = true) (lN : (Cond.laysStatic Bundle.tN "SUPPRESSED_SENTINEL" Bundle.listD).before args s = true) : ∀ w ∈ L, w.before args s = true := by
  intro w hw
  by_cases e1 : w = .isRef (.static Bundle.tN "UNASSIGNED_STACK" Bundle.steD)
  · rw [e1]; exact hU
  · by_cases e2 : w = .isRef (.static Bundle.tN "SUPPRESSED_SENTINEL" Bundle.listD)
    · rw [e2]; exact hN
    · by_cases e3 : w = .laysStatic Bundle.tN "UNASSIGNED_STACK" Bundle.steD
      · rw [e3]; exact lU
      · by_cases e4 : w = .laysStatic Bundle.tN "SUPPRESSED_SENTINEL" Bundle.listD
        · rw [e4]; exact lN
        · exact h1 w (List.mem_filter.mpr ⟨hw, by unfold vx_no; rw [decide_eq_true e1, decide_eq_true e2, decide_eq_true e3, decide_eq_true e4]; rfl⟩)
/-- where a static field lies, its class's statics cell in H -/
def vx_L (C n d : String) (A : Nat → Prop) (U : State) (H : Heap) : Prop := ∃ (c : ClassId) (k : Class) (i : Nat) (f : Field) (a : Nat) (cell : Cell), U.vm.findClass C = some c ∧ U.fieldFound? C n d = some (c, k, i, f) ∧ f.isStatic = true ∧ k.statics = some a ∧ H[a]? = some cell ∧ cell.vm.isStatics = true ∧ cell.cls = c ∧ f.slot < cell.slots.size ∧ k.staticTypes[f.slot]? = some f.type ∧ ¬ A a
theorem vx_L.moved {C n d : String} {A : Nat → Prop} {u U : State} {H : Heap} (hvm : u.vm.Alike U.vm) (h : vx_L C n d A u H) : vx_L C n d A U H := by
  obtain ⟨c, k, i, f, a, cell, h1, h2, h3, h4, h5, h6, h7, h8, h9, h10⟩ := h
  obtain ⟨k', hi', he⟩ := State.fieldFound?_setVm hvm h2
  exact ⟨c, k', i, f, a, cell, by rw [hvm.findClass]; exact h1, hi', h3, by rw [he]; exact h4, h5, h6, h7, h8, by rw [he]; exact h9, h10⟩
theorem vx_L.kept {C n d : String} {A : Nat → Prop} {U : State} {H H1 : Heap} (h : vx_L C n d A U H) (hq : ∀ a : Nat, a < H.size → ¬ A a → H1[a]? = H[a]?) : vx_L C n d A U H1 := by
  obtain ⟨c, k, i, f, a, cell, h1, h2, h3, h4, h5, h6, h7, h8, h9, h10⟩ := h
  exact ⟨c, k, i, f, a, cell, h1, h2, h3, h4, by rw [hq a (Array.getElem?_eq_some_iff.mp h5).1 h10]; exact h5, h6, h7, h8, h9, h10⟩
theorem vx_L.narrow {C n d : String} {A B : Nat → Prop} {U : State} {H : Heap} (h : vx_L C n d A U H) (hAB : ∀ q, B q → A q) : vx_L C n d B U H := by
  obtain ⟨c, k, i, f, a, cell, h1, h2, h3, h4, h5, h6, h7, h8, h9, h10⟩ := h
  exact ⟨c, k, i, f, a, cell, h1, h2, h3, h4, h5, h6, h7, h8, h9, fun z => h10 (hAB _ z)⟩
theorem vx_L.word {C n d : String} {A : Nat → Prop} {s : State} {args : Array Value} (h : vx_L C n d A s s.heap) : (Cond.laysStatic C n d).before args s = true := by
  obtain ⟨c, k, i, f, a, cell, h1, h2, h3, h4, h5, h6, h7, h8, h9, -⟩ := h
  show (Cond.laysStatic C n d).holds args s none s [] = true
  exact Cond.laysStatic_of h1 h2 h3 h4 h5 h6 h7 h8 h9
/-- .. and what it holds: null or some reference -/
def vx_Zq (C n d : String) (A : Nat → Prop) (U : State) (H : Heap) : Prop := va_Zq C n d A U H ∧ vx_L C n d A U H
theorem vx_Zq.moved {C n d : String} {A : Nat → Prop} {u U : State} {H : Heap} (hvm : u.vm.Alike U.vm) (h : vx_Zq C n d A u H) : vx_Zq C n d A U H := ⟨va_Zq.moved hvm h.1, vx_L.moved hvm h.2⟩
theorem vx_Zq.kept {C n d : String} {A : Nat → Prop} {U : State} {H H1 : Heap} (h : vx_Zq C n d A U H) (hq : ∀ a : Nat, a < H.size → ¬ A a → H1[a]? = H[a]?) : vx_Zq C n d A U H1 := ⟨va_Zq.kept h.1 hq, vx_L.kept h.2 hq⟩
theorem vx_Zq.narrow {C n d : String} {A B : Nat → Prop} {U : State} {H : Heap} (h : vx_Zq C n d A U H) (hAB : ∀ q, B q → A q) : vx_Zq C n d B U H := ⟨va_Zq.narrow h.1 hAB, vx_L.narrow h.2 hAB⟩
theorem vx_Zqof {args : Array Value} {s : State} {C n d : String} {A : Nat → Prop} (hl : (Cond.laysStatic C n d).before args s = true) (hini : (Cond.initialized C).before args s = true) (h : (Cond.isRef (.static C n d)).before args s = true) (hA : ∀ a : Nat, a < s.heap.size → ¬ A a) : vx_Zq C n d A s s.heap := by
  refine ⟨va_Zqof hl hini h hA, ?_⟩
  obtain ⟨c, k, i, f, a, cell, h1, h2, h3, h4, h5, h6, h7, h8, h9⟩ := Cond.laysStatic_spec hl
  exact ⟨c, k, i, f, a, cell, h1, h2, h3, h4, h5, h6, h7, h8, h9, hA a (Array.getElem?_eq_some_iff.mp h5).1⟩
theorem vx_isRef {C n d : String} {v : Value} {A : Nat → Prop} {s : State} {args : Array Value} (h : va_Z C n d v A s s.heap) (hv : v.isRef = true) : (Cond.isRef (.static C n d)).before args s = true := by
  obtain ⟨cf, kf, fi, f, a, cell, h1, h2, h3, h4, h5, h6, h7, -⟩ := h
  have he : (Term.static C n d).eval args s none [] s = some v := by
    simp [Term.eval, State.fieldNamed?, h1, h2, h4, h5, h6, h7]
  simp only [Cond.before, Cond.holds, Cond.value, he]
  cases v <;> simp_all [Value.isRef]
theorem vx_isRefq {C n d : String} {A : Nat → Prop} {s : State} {args : Array Value} (h : va_Zq C n d A s s.heap) : (Cond.isRef (.static C n d)).before args s = true := by
  rcases h with h | ⟨t, h⟩
  · exact vx_isRef h rfl
  · exact vx_isRef h rfl
/-- the same frame, seen from here: as if the method were called anew in this heap -/
theorem vx_rebase {T : State} (X : Stand p l e R s m args below meth c T locs cells slots) {R' : Room} (hf : R'.frames ≤ R.frames) (hl : R'.locals ≤ R.locals) (hc : cells + R'.cells ≤ R.cells) (hs : slots + R'.slots ≤ R.slots) :
    Stand p l e R' ((T.setVm s.vm).setFrames (.invoking m args :: below)) m args below meth c T [] 0 0 := by
  have htop : (T.setVm s.vm).topJava?.isSome := X.here.top
  have hF : ((T.setVm s.vm).setFrames (.invoking m args :: below)).frames = .invoking m args :: below := State.frames_setFrames _ (State.cur_lt_of_top htop)
  obtain ⟨g₀, hg0⟩ := Option.isSome_iff_exists.mp htop
  obtain ⟨r, hr⟩ := State.topJava?_eq_some.mp hg0
  have hl9 : e.platform.stackLimits (T.setVm s.vm).me = e.platform.stackLimits s.me := X.limits
  have hb9 : (T.setVm s.vm).me.stackBytes = s.me.stackBytes := X.bytes
  refine ⟨X.admits, X.cas, X.clock, hF, ?_, X.hears, X.method, X.code, X.here, X.tail, X.warmed, ?_, ?_, ?_⟩
  · have h := X.room
    have hU : ((T.setVm s.vm).setFrames (.invoking m args :: below)).localsInUse = s.localsInUse := by
      rw [State.localsInUse_invoking hF (meth := meth) (c := c) X.method X.code, State.localsInUse_invoking X.frames X.method X.code]
    simp only [State.hasRoom, Bool.and_eq_true, decide_eq_true_eq] at h ⊢
    obtain ⟨⟨⟨⟨h1, h2, h3, h4, h5, h6⟩, h7⟩, h8⟩, h9⟩ := h
    rw [X.frames, List.length_cons] at h2 h3
    have q1 := X.heapSize
    have q2 := X.used
    simp only [hF, hU, List.length_cons, State.stackLimits_setFrames, State.stackBytes_setFrames, hl9, hb9]
    refine ⟨⟨⟨⟨by omega, by omega, by omega, by omega, by omega, h6⟩, ?_⟩, ?_⟩, X.book⟩
    · show T.heap.size + R'.cells ≤ e.platform.maxCells
      omega
    · show T.slotsUsed + R'.slots ≤ e.platform.maxSlots
      omega
  · rw [State.stackLimits_setFrames]; rfl
  · rw [State.stackBytes_setFrames]; rfl
  · refine ⟨?_, Nat.le_refl _, Nat.le_refl _, ?_, ?_, fun a c9 h9 => ⟨c9, h9, rfl, rfl, fun _ _ => rfl⟩⟩
    · obtain ⟨t, ht, -⟩ := State.frames_cons hr
      show T.setVm s.vm = { ((T.setVm s.vm).setFrames (.invoking m args :: below)).setFrames (T.setVm s.vm).frames with heap := T.heap, slotsUsed := T.slotsUsed }
      rw [State.setFrames_setFrames, State.setFrames_self ht]
      rfl
    · show T.slotsUsed = T.slotsUsed + ((T.heap.toList.drop T.heap.size).map (·.slots.size)).sum
      rw [List.drop_eq_nil_of_le (Nat.le_of_eq Array.length_toList)]
      rfl
    · show ((T.heap.toList.drop T.heap.size).map (·.slots.size)).sum ≤ 0
      rw [List.drop_eq_nil_of_le (Nat.le_of_eq Array.length_toList)]
      exact Nat.le_refl _
/-- 'throw new E()': new; dup; invokespecial; athrow -/
theorem vx_throw0 {cc : ByteArray} {pc : Nat} (hexec : p.tables.exec = Jvm.exec) (hb : c.code = cc) (hl : l.stackTraces = false) {own cls : String} {names : List String} {ik ic mc ms : Nat} {A : Nat → Prop}
    (hown : s.vm.findClass own = some m.cls) (hcls : Bundle.fit cls = true) (hnames : ∀ n ∈ names, Bundle.fit n = true)
    (hk : (Cond.classLink own ik cls).before args s = true) (hini : (Cond.initialized cls).before args s = true) (hat : ∀ w ∈ vx_at0 own ic cls names, w.before args s = true)
    (hgood : ∀ w ∈ Cond.classLink own ik cls :: Cond.initialized cls :: vx_at0 own ic cls names, vx_ot w = true)
    (hU : vx_Zq Bundle.tN "UNASSIGNED_STACK" Bundle.steD A s s.heap) (hN : vx_Zq Bundle.tN "SUPPRESSED_SENTINEL" Bundle.listD A s s.heap) (hS : va_S A s.heap H locs) (hsize : ls.size = c.maxLocals)
    (d0 : decode cc pc = .ok (.new ik, 3)) (d3 : decode cc (pc + 3) = .ok (.dup, 1)) (d4 : decode cc (pc + 4) = .ok (.invokespecial ic, 3)) (d7 : decode cc (pc + 7) = .ok (.athrow, 1))
    (hout : ∀ x ∈ c.exceptionTable.toList, covers x (pc + 7) = false)
    (hRframes : names.length + 3 < R.frames) (hRlocals : (rest.map fun v => v.category).sum + (13 * (names.length + 1) + 42) ≤ R.locals) (hRcells : cells + 1 ≤ R.cells) (hRslots : slots + 6 ≤ R.slots) (hlocks : meth.locks = false)
    (hx : ∀ t : State, s.vm.Alike t.vm → H.size ≤ t.heap.size → (∀ q : Nat, q < H.size → t.heap[q]? = H[q]?) → XC cls s t)
    (hf : ∀ z ∈ locs, free z.base) (hc : cells + 1 ≤ mc) (hs : slots + 6 ≤ ms) :
    W p l e R s m args below meth c H locs cells slots (vx_MQ below Qc XC args s mc ms free) (F0 m pc ls rest) := by
  intro T hT X
  have htr : e.platform.stackTraces = false := (show e.platform.stackTraces = l.stackTraces by rw [X.admits.platform]).trans hl
  have Y := vx_rebase X (R' := { frames := R.frames, locals := R.locals, cells := 1, slots := 6 }) (Nat.le_refl _) (Nat.le_refl _) hRcells hRslots
  obtain ⟨s', hA⟩ : ∃ z, z = (T.setVm s.vm).setFrames (.invoking m args :: below) := ⟨_, rfl⟩
  rw [← hA] at Y
  have hvm : s'.vm = s.vm := by rw [hA]; rfl
  have hhp : s'.heap = H := by rw [hA]; exact hT
  have hW0 : s.WarmedH s'.vm := by rw [hvm]; exact State.WarmedH.refl s
  have hat' : ∀ w ∈ vx_at0 own ic cls names, w.before args s' = true := fun w hw => vx_ot_at hW0 hvm.symm (hgood w (List.mem_cons_of_mem _ (List.mem_cons_of_mem _ hw))) (hat w hw)
  have hk' : (Cond.classLink own ik cls).before args s' = true := vx_ot_at hW0 hvm.symm (hgood _ List.mem_cons_self) hk
  have hini' : (Cond.initialized cls).before args s' = true := vx_ot_at hW0 hvm.symm (hgood _ (List.mem_cons_of_mem _ List.mem_cons_self)) hini
  have hU' : vx_Zq Bundle.tN "UNASSIGNED_STACK" Bundle.steD A s' s'.heap := by rw [hhp]; exact vx_Zq.moved hW0.alike (hU.kept hS.2.1)
  have hN' : vx_Zq Bundle.tN "SUPPRESSED_SENTINEL" Bundle.listD A s' s'.heap := by rw [hhp]; exact vx_Zq.moved hW0.alike (hN.kept hS.2.1)
  have h : ∀ w ∈ Bundle.ownAtoms0 own ic cls names, w.before args s' = true := vx_own hat' (vx_isRefq hU'.1) (vx_isRefq hN'.1) hU'.2.word hN'.2.word
  have hown' : s'.vm.findClass own = some m.cls := by rw [hvm]; exact hown
  have hins : (Cond.instantiable cls 6).before args s' = true := h _ (by simp [Bundle.ownAtoms0])
  obtain ⟨vm₁, cX, kX, hfX, hkX, -, -, X₁, st1⟩ := Y.newCold hexec (own := own) (C := cls) (index := ik) (n := 6) hown' hk' hins hini'
    (g := F0 m pc ls rest) rfl (by rw [hb]; exact d0) (Nat.le_refl _) (Nat.le_refl _)
  generalize hT1 : (T.setVm vm₁).pushCell { cls := cX, slots := kX.instanceTypes.map defaultValue, vm := .none } = T1 at X₁ st1
  have hcat : (Value.ref T.heap.size).category = 1 := rfl
  have hcellA : T1.heap[T.heap.size]? = some (freshCell cX kX) := by rw [← hT1]; exact State.heap_pushCell_size _ _
  have d3' : decode c.code (pc + 3) = .ok (.dup, 1) := by rw [hb]; exact d3
  obtain ⟨U, hsteps, hrun, hend, hW, hsame, ce, hce, hO⟩ := X₁.ctorThrow0 hexec htr (own := own) (cls := cls) (names := names) (ic := ic) hown' hcls hnames h (fun x hx => nomatch hx) hfX hkX hcellA (by rw [hhp, hT]; exact Nat.le_refl _)
    (g := { method := m, pc := pc + 4, locals := ls, stack := .ref T.heap.size :: .ref T.heap.size :: rest, locked := none }) rfl hsize rfl rfl (rest := rest) rfl
    (by rw [hb]; exact d4) (by rw [hb]; exact d7) hout hRframes (by simp only [List.map_cons, List.sum_cons, hcat]; omega) hlocks
  obtain ⟨f1, f2⟩ := vx_frame hsame
  rw [hhp] at f1 f2
  have hWs : s.WarmedH U.vm := State.WarmedH.trans hW0 hW
  have hcl : s.vm.findClass cls = some ce.cls := by
    have h9 := hO.cls
    rw [hvm] at h9
    exact h9
  have hall : s.sameButNew ({ U with vm := s.vm } : State) locs mc ms := by
    subst hA
    obtain ⟨e1, e2⟩ := hsame
    rw [State.setFrames_setFrames] at e1
    have h2 : (T.setVm s.vm).sameButNew ({ U with vm := s.vm } : State) [] (0 + 1) (0 + 6) := ⟨e1, e2⟩
    have h3 := X.same.trans h2
    rw [List.append_nil] at h3
    exact h3.mono hc hs
  refine ⟨U, ?_, .threw T.heap.size, hrun, hend, Or.inr ⟨T.heap.size, rfl, cls, ce, locs, hx U hWs.alike f1 (fun q hq => f2 q hq (fun z hz => nomatch hz)), hce, hO.vm, hcl, hWs, hall, hf⟩⟩
  refine st1 _ ?_
  show Steps p.tables e below (T1.setTop { method := m, pc := pc + 3, locals := ls, stack := .ref T.heap.size :: rest, locked := none }) _
  jvm_step X₁.here [X₁.here.top, hexec, d3', Value.category]
  exact hsteps
/-- 'throw new E("text")': new; dup; ldc; invokespecial; athrow -/
theorem vx_throwS {cc : ByteArray} {pc : Nat} (hexec : p.tables.exec = Jvm.exec) (hb : c.code = cc) (hl : l.stackTraces = false) {own cls text : String} {names : List String} {ik is ic mc ms sa : Nat} {A : Nat → Prop}
    (hown : s.vm.findClass own = some m.cls) (hcls : Bundle.fit cls = true) (hnames : ∀ n ∈ names, Bundle.fit n = true)
    (hk : (Cond.classLink own ik cls).before args s = true) (hini : (Cond.initialized cls).before args s = true) (hstr : vk_R own is text sa s) (hat : ∀ w ∈ vx_atS own ic cls names, w.before args s = true)
    (hgood : ∀ w ∈ Cond.classLink own ik cls :: Cond.initialized cls :: vx_atS own ic cls names, vx_ot w = true)
    (hU : vx_Zq Bundle.tN "UNASSIGNED_STACK" Bundle.steD A s s.heap) (hN : vx_Zq Bundle.tN "SUPPRESSED_SENTINEL" Bundle.listD A s s.heap) (hS : va_S A s.heap H locs) (hsize : ls.size = c.maxLocals)
    (d0 : decode cc pc = .ok (.new ik, 3)) (d3 : decode cc (pc + 3) = .ok (.dup, 1)) (d4 : decode cc (pc + 4) = .ok (.ldc is, 2)) (d6 : decode cc (pc + 6) = .ok (.invokespecial ic, 3)) (d9 : decode cc (pc + 9) = .ok (.athrow, 1))
    (hout : ∀ x ∈ c.exceptionTable.toList, covers x (pc + 9) = false)
    (hRframes : names.length + 3 < R.frames) (hRlocals : (rest.map fun v => v.category).sum + (13 * (names.length + 1) + 43) ≤ R.locals) (hRcells : cells + 1 ≤ R.cells) (hRslots : slots + 6 ≤ R.slots) (hlocks : meth.locks = false)
    (hx : ∀ t : State, s.vm.Alike t.vm → H.size ≤ t.heap.size → (∀ q : Nat, q < H.size → t.heap[q]? = H[q]?) → XC cls s t)
    (hf : ∀ z ∈ locs, free z.base) (hc : cells + 1 ≤ mc) (hs : slots + 6 ≤ ms) :
    W p l e R s m args below meth c H locs cells slots (vx_MQ below Qc XC args s mc ms free) (F0 m pc ls rest) := by
  intro T hT X
  have htr : e.platform.stackTraces = false := (show e.platform.stackTraces = l.stackTraces by rw [X.admits.platform]).trans hl
  have Y := vx_rebase X (R' := { frames := R.frames, locals := R.locals, cells := 1, slots := 6 }) (Nat.le_refl _) (Nat.le_refl _) hRcells hRslots
  obtain ⟨s', hA⟩ : ∃ z, z = (T.setVm s.vm).setFrames (.invoking m args :: below) := ⟨_, rfl⟩
  rw [← hA] at Y
  have hvm : s'.vm = s.vm := by rw [hA]; rfl
  have hhp : s'.heap = H := by rw [hA]; exact hT
  have hW0 : s.WarmedH s'.vm := by rw [hvm]; exact State.WarmedH.refl s
  have hat' : ∀ w ∈ vx_atS own ic cls names, w.before args s' = true := fun w hw => vx_ot_at hW0 hvm.symm (hgood w (List.mem_cons_of_mem _ (List.mem_cons_of_mem _ hw))) (hat w hw)
  have hk' : (Cond.classLink own ik cls).before args s' = true := vx_ot_at hW0 hvm.symm (hgood _ List.mem_cons_self) hk
  have hini' : (Cond.initialized cls).before args s' = true := vx_ot_at hW0 hvm.symm (hgood _ (List.mem_cons_of_mem _ List.mem_cons_self)) hini
  have hU' : vx_Zq Bundle.tN "UNASSIGNED_STACK" Bundle.steD A s' s'.heap := by rw [hhp]; exact vx_Zq.moved hW0.alike (hU.kept hS.2.1)
  have hN' : vx_Zq Bundle.tN "SUPPRESSED_SENTINEL" Bundle.listD A s' s'.heap := by rw [hhp]; exact vx_Zq.moved hW0.alike (hN.kept hS.2.1)
  have h : ∀ w ∈ Bundle.ownAtoms own ic cls names, w.before args s' = true := vx_own hat' (vx_isRefq hU'.1) (vx_isRefq hN'.1) hU'.2.word hN'.2.word
  have hown' : s'.vm.findClass own = some m.cls := by rw [hvm]; exact hown
  have hins : (Cond.instantiable cls 6).before args s' = true := h _ (by simp [Bundle.ownAtoms])
  obtain ⟨vm₁, cX, kX, hfX, hkX, -, -, X₁, st1⟩ := Y.newCold hexec (own := own) (C := cls) (index := ik) (n := 6) hown' hk' hins hini'
    (g := F0 m pc ls rest) rfl (by rw [hb]; exact d0) (Nat.le_refl _) (Nat.le_refl _)
  generalize hT1 : (T.setVm vm₁).pushCell { cls := cX, slots := kX.instanceTypes.map defaultValue, vm := .none } = T1 at X₁ st1
  have hcat : (Value.ref T.heap.size).category = 1 := rfl
  have hcellA : T1.heap[T.heap.size]? = some (freshCell cX kX) := by rw [← hT1]; exact State.heap_pushCell_size _ _
  have d3' : decode c.code (pc + 3) = .ok (.dup, 1) := by rw [hb]; exact d3
  have d4' : decode c.code (pc + 4) = .ok (.ldc is, 2) := by rw [hb]; exact d4
  have hstr' : vk_R own is text sa s' := vk_R.warm hW0 hstr
  obtain ⟨U, hsteps, hrun, hend, hW, hsame, ce, hce, hO⟩ := X₁.ctorThrowS hexec htr (own := own) (cls := cls) (names := names) (ic := ic) hown' hcls hnames h (fun x hx => nomatch hx) hfX hkX hcellA (by rw [hhp, hT]; exact Nat.le_refl _) (msg := .ref sa) rfl
    (g := { method := m, pc := pc + 6, locals := ls, stack := .ref sa :: .ref T.heap.size :: .ref T.heap.size :: rest, locked := none }) rfl hsize rfl rfl (rest := rest) rfl
    (by rw [hb]; exact d6) (by rw [hb]; exact d9) hout hRframes (by simp only [List.map_cons, List.sum_cons, hcat]; omega) hlocks
  obtain ⟨f1, f2⟩ := vx_frame hsame
  rw [hhp] at f1 f2
  have hWs : s.WarmedH U.vm := State.WarmedH.trans hW0 hW
  have hcl : s.vm.findClass cls = some ce.cls := by
    have h9 := hO.cls
    rw [hvm] at h9
    exact h9
  have hall : s.sameButNew ({ U with vm := s.vm } : State) locs mc ms := by
    subst hA
    obtain ⟨e1, e2⟩ := hsame
    rw [State.setFrames_setFrames] at e1
    have h2 : (T.setVm s.vm).sameButNew ({ U with vm := s.vm } : State) [] (0 + 1) (0 + 6) := ⟨e1, e2⟩
    have h3 := X.same.trans h2
    rw [List.append_nil] at h3
    exact h3.mono hc hs
  refine ⟨U, ?_, .threw T.heap.size, hrun, hend, Or.inr ⟨T.heap.size, rfl, cls, ce, locs, hx U hWs.alike f1 (fun q hq => f2 q hq (fun z hz => nomatch hz)), hce, hO.vm, hcl, hWs, hall, hf⟩⟩
  refine st1 _ ?_
  show Steps p.tables e below (T1.setTop { method := m, pc := pc + 3, locals := ls, stack := .ref T.heap.size :: rest, locked := none }) _
  jvm_step X₁.here [X₁.here.top, hexec, d3', Value.category]
  exact X₁.ldcString hexec (own := own) (text := text) (index := is) (a := sa) hown' hstr'.1 hstr'.2
    (g := { method := m, pc := pc + 4, locals := ls, stack := .ref T.heap.size :: .ref T.heap.size :: rest, locked := none }) rfl d4' _ hsteps
/-- 'throw new E("text")', the text by a wide index -/
theorem vx_throwSW {cc : ByteArray} {pc : Nat} (hexec : p.tables.exec = Jvm.exec) (hb : c.code = cc) (hl : l.stackTraces = false) {own cls text : String} {names : List String} {ik is ic mc ms sa : Nat} {A : Nat → Prop}
    (hown : s.vm.findClass own = some m.cls) (hcls : Bundle.fit cls = true) (hnames : ∀ n ∈ names, Bundle.fit n = true)
    (hk : (Cond.classLink own ik cls).before args s = true) (hini : (Cond.initialized cls).before args s = true) (hstr : vk_R own is text sa s) (hat : ∀ w ∈ vx_atS own ic cls names, w.before args s = true)
    (hgood : ∀ w ∈ Cond.classLink own ik cls :: Cond.initialized cls :: vx_atS own ic cls names, vx_ot w = true)
    (hU : vx_Zq Bundle.tN "UNASSIGNED_STACK" Bundle.steD A s s.heap) (hN : vx_Zq Bundle.tN "SUPPRESSED_SENTINEL" Bundle.listD A s s.heap) (hS : va_S A s.heap H locs) (hsize : ls.size = c.maxLocals)
    (d0 : decode cc pc = .ok (.new ik, 3)) (d3 : decode cc (pc + 3) = .ok (.dup, 1)) (d4 : decode cc (pc + 4) = .ok (.ldc_w is, 3)) (d7 : decode cc (pc + 7) = .ok (.invokespecial ic, 3)) (d10 : decode cc (pc + 10) = .ok (.athrow, 1))
    (hout : ∀ x ∈ c.exceptionTable.toList, covers x (pc + 10) = false)
    (hRframes : names.length + 3 < R.frames) (hRlocals : (rest.map fun v => v.category).sum + (13 * (names.length + 1) + 43) ≤ R.locals) (hRcells : cells + 1 ≤ R.cells) (hRslots : slots + 6 ≤ R.slots) (hlocks : meth.locks = false)
    (hx : ∀ t : State, s.vm.Alike t.vm → H.size ≤ t.heap.size → (∀ q : Nat, q < H.size → t.heap[q]? = H[q]?) → XC cls s t)
    (hf : ∀ z ∈ locs, free z.base) (hc : cells + 1 ≤ mc) (hs : slots + 6 ≤ ms) :
    W p l e R s m args below meth c H locs cells slots (vx_MQ below Qc XC args s mc ms free) (F0 m pc ls rest) := by
  intro T hT X
  have htr : e.platform.stackTraces = false := (show e.platform.stackTraces = l.stackTraces by rw [X.admits.platform]).trans hl
  have Y := vx_rebase X (R' := { frames := R.frames, locals := R.locals, cells := 1, slots := 6 }) (Nat.le_refl _) (Nat.le_refl _) hRcells hRslots
  obtain ⟨s', hA⟩ : ∃ z, z = (T.setVm s.vm).setFrames (.invoking m args :: below) := ⟨_, rfl⟩
  rw [← hA] at Y
  have hvm : s'.vm = s.vm := by rw [hA]; rfl
  have hhp : s'.heap = H := by rw [hA]; exact hT
  have hW0 : s.WarmedH s'.vm := by rw [hvm]; exact State.WarmedH.refl s
  have hat' : ∀ w ∈ vx_atS own ic cls names, w.before args s' = true := fun w hw => vx_ot_at hW0 hvm.symm (hgood w (List.mem_cons_of_mem _ (List.mem_cons_of_mem _ hw))) (hat w hw)
  have hk' : (Cond.classLink own ik cls).before args s' = true := vx_ot_at hW0 hvm.symm (hgood _ List.mem_cons_self) hk
  have hini' : (Cond.initialized cls).before args s' = true := vx_ot_at hW0 hvm.symm (hgood _ (List.mem_cons_of_mem _ List.mem_cons_self)) hini
  have hU' : vx_Zq Bundle.tN "UNASSIGNED_STACK" Bundle.steD A s' s'.heap := by rw [hhp]; exact vx_Zq.moved hW0.alike (hU.kept hS.2.1)
  have hN' : vx_Zq Bundle.tN "SUPPRESSED_SENTINEL" Bundle.listD A s' s'.heap := by rw [hhp]; exact vx_Zq.moved hW0.alike (hN.kept hS.2.1)
  have h : ∀ w ∈ Bundle.ownAtoms own ic cls names, w.before args s' = true := vx_own hat' (vx_isRefq hU'.1) (vx_isRefq hN'.1) hU'.2.word hN'.2.word
  have hown' : s'.vm.findClass own = some m.cls := by rw [hvm]; exact hown
  have hins : (Cond.instantiable cls 6).before args s' = true := h _ (by simp [Bundle.ownAtoms])
  obtain ⟨vm₁, cX, kX, hfX, hkX, -, -, X₁, st1⟩ := Y.newCold hexec (own := own) (C := cls) (index := ik) (n := 6) hown' hk' hins hini'
    (g := F0 m pc ls rest) rfl (by rw [hb]; exact d0) (Nat.le_refl _) (Nat.le_refl _)
  generalize hT1 : (T.setVm vm₁).pushCell { cls := cX, slots := kX.instanceTypes.map defaultValue, vm := .none } = T1 at X₁ st1
  have hcat : (Value.ref T.heap.size).category = 1 := rfl
  have hcellA : T1.heap[T.heap.size]? = some (freshCell cX kX) := by rw [← hT1]; exact State.heap_pushCell_size _ _
  have d3' : decode c.code (pc + 3) = .ok (.dup, 1) := by rw [hb]; exact d3
  have d4' : decode c.code (pc + 4) = .ok (.ldc_w is, 3) := by rw [hb]; exact d4
  have hstr' : vk_R own is text sa s' := vk_R.warm hW0 hstr
  obtain ⟨U, hsteps, hrun, hend, hW, hsame, ce, hce, hO⟩ := X₁.ctorThrowS hexec htr (own := own) (cls := cls) (names := names) (ic := ic) hown' hcls hnames h (fun x hx => nomatch hx) hfX hkX hcellA (by rw [hhp, hT]; exact Nat.le_refl _) (msg := .ref sa) rfl
    (g := { method := m, pc := pc + 7, locals := ls, stack := .ref sa :: .ref T.heap.size :: .ref T.heap.size :: rest, locked := none }) rfl hsize rfl rfl (rest := rest) rfl
    (by rw [hb]; exact d7) (by rw [hb]; exact d10) hout hRframes (by simp only [List.map_cons, List.sum_cons, hcat]; omega) hlocks
  obtain ⟨f1, f2⟩ := vx_frame hsame
  rw [hhp] at f1 f2
  have hWs : s.WarmedH U.vm := State.WarmedH.trans hW0 hW
  have hcl : s.vm.findClass cls = some ce.cls := by
    have h9 := hO.cls
    rw [hvm] at h9
    exact h9
  have hall : s.sameButNew ({ U with vm := s.vm } : State) locs mc ms := by
    subst hA
    obtain ⟨e1, e2⟩ := hsame
    rw [State.setFrames_setFrames] at e1
    have h2 : (T.setVm s.vm).sameButNew ({ U with vm := s.vm } : State) [] (0 + 1) (0 + 6) := ⟨e1, e2⟩
    have h3 := X.same.trans h2
    rw [List.append_nil] at h3
    exact h3.mono hc hs
  refine ⟨U, ?_, .threw T.heap.size, hrun, hend, Or.inr ⟨T.heap.size, rfl, cls, ce, locs, hx U hWs.alike f1 (fun q hq => f2 q hq (fun z hz => nomatch hz)), hce, hO.vm, hcl, hWs, hall, hf⟩⟩
  refine st1 _ ?_
  show Steps p.tables e below (T1.setTop { method := m, pc := pc + 3, locals := ls, stack := .ref T.heap.size :: rest, locked := none }) _
  jvm_step X₁.here [X₁.here.top, hexec, d3', Value.category]
  exact X₁.ldcStringW hexec (own := own) (text := text) (index := is) (a := sa) hown' hstr'.1 hstr'.2
    (g := { method := m, pc := pc + 4, locals := ls, stack := .ref T.heap.size :: .ref T.heap.size :: rest, locked := none }) rfl d4' _ hsteps
end Ends
section Bodies
variable {l : Launch}
theorem vx_ofW {y : MethodName} {ws ws' : List Cond} {rm : Room} {Pc : Array Value → State → Prop} {Qc : Array Value → State → Outcome → State → Prop} {XC : String → State → State → Prop} {mc ms : Nat} {free : Addr → Prop} {cc : ByteArray} {maxL : Nat} {ret : Option FieldType}
    (hy : plainName y.cls = true) (hw : ws = Cond.code y cc maxL ret :: ws')
    (body : ∀ p e s m args below meth c s₁, BodyLoose p l y (headSpec ws rm) cc maxL ret e s m args below meth c s₁ → c.maxLocals = maxL → (∀ x ∈ c.exceptionTable.toList, False) → Pc args s →
      W p l e (headSpec ws rm).room s m args below meth c s.heap [] 0 0 (vx_MQ below Qc XC args s mc ms free) (entryFrame m args maxL)) : vx_Met l y ws rm Pc Qc XC mc ms free := by
  refine MetFree.of_bodyS (code := cc) (maxLocals := maxL) (ret := ret) hy ?_ ?_
  · intro args s m h hn
    obtain ⟨meth, c, h1, h2, h3, h4, h5, h6, -, -⟩ := Cond.code_spec hn (atoms_spec (ws := ws) h _ (by rw [hw]; exact List.mem_cons_self))
    exact ⟨meth, c, h1, h2, h3, h4, h5, h6⟩
  · intro p e s m args below meth c s₁ B hml hP _
    have hh0 : s₁.heap = s.heap := by rw [B.state]; rfl
    have ht : ∀ x ∈ c.exceptionTable.toList, False := by
      obtain ⟨meth9, c9, h1, h2, -, -, -, -, h7, -⟩ := Cond.code_spec B.named (atoms_spec (ws := ws) B.pre _ (by rw [hw]; exact List.mem_cons_self))
      cases Option.some.inj (h1.symm.trans B.method)
      cases Option.some.inj (h2.symm.trans (Stand.of_body B).code)
      intro x hx
      rw [Array.isEmpty_iff.mp h7] at hx
      cases hx
    obtain ⟨t, a1, o, b1, b2, b3⟩ := body p e s m args below meth c s₁ B hml ht hP s₁ hh0 (Stand.of_body B)
    exact ⟨t, o, a1, b1, b2, b3⟩
/-- the table of a body with handlers -/
theorem vx_table {p : Program} {x y : MethodName} {S : Spec} {cc bytes : ByteArray} {maxL maxL' : Nat} {ret ret' : Option FieldType} {e : Env} {s s₁ : State} {m : MethodId} {args : Array Value} {below : List Frame} {meth : Method} {c : Code} {hh : List (Nat × Nat × Nat × Nat)}
    (B : BodyLoose p l y S cc maxL ret e s m args below meth c s₁) (h : (Cond.codeWith y bytes maxL' ret' hh).before args s = true) : c.exceptionTable.toList = tableOf hh := by
  obtain ⟨m9, meth9, c9, hn9, h1, h2, -, -, h6, -⟩ := Cond.codeWith_spec h
  cases Option.some.inj (hn9.symm.trans B.named)
  cases Option.some.inj (h1.symm.trans B.method)
  cases Option.some.inj (h2.symm.trans (Stand.of_body B).code)
  rw [← h6, table_eq]
end Bodies
end VXA
/-! ===== END ===== -/
/-! ===== BEGIN a static call of a method with an exception table ===== -/
section VXS
variable {p : Program} {l : Launch} {e : Env} {R : Room} {s : State} {m : MethodId} {args : Array Value} {below : List Frame} {meth : Method} {c : Code} {T : State} {H : Heap} {locs : List Loc} {cells slots : Nat}
abbrev vx_CSW (R : Room) (s : State) (args : Array Value) (own : String) (index : Nat) (y : MethodName) (bytes : ByteArray) (maxL : Nat) (ret : Option FieldType) (hh : List (Nat × Nat × Nat × Nat)) (ws : List Cond) (rm : Room) (mc ms n : Nat) : Prop :=
  (rm.cells = mc ∧ rm.slots = ms ∧ rm.frames + 1 ≤ R.frames ∧ 8 + (maxL + 11) + rm.locals ≤ R.locals ∧ (∀ w ∈ ws, ∀ (a' : Array Value) (U : State), s.WarmedH U.vm → w.before a' U = true) ∧ Cond.codeWith y bytes maxL ret hh ∈ ws) ∧
  (Cond.codeWith y bytes maxL ret hh).before args s = true ∧ (Cond.initialized y.cls).before args s = true ∧ (y.cls ≠ "java/lang/invoke/MethodHandle" ∧ y.cls ≠ "java/lang/invoke/VarHandle") ∧
  (∀ sig, parseMethodDescriptor y.desc = some sig → n = sig.parameters.length) ∧ (Cond.methodLink own index y).before args s = true ∧ (Cond.static y).before args s = true
theorem vx_cwSW {own : String} {index maxL mc ms : Nat} {y : MethodName} {bytes : ByteArray} {ret : Option FieldType} {hh : List (Nat × Nat × Nat × Nat)} {Ts ws ws' : List Cond} {rm : Room} (n : Nat) (ht : ∀ w ∈ Ts, w.before args s = true) (hT : GoodIn Ts (va_wsS own index y ws)) (hw : ws = Cond.codeWith y bytes maxL ret hh :: ws') (hrc : rm.cells = mc) (hrs : rm.slots = ms)
    (hd : y.cls ≠ "java/lang/invoke/MethodHandle" ∧ y.cls ≠ "java/lang/invoke/VarHandle" ∧ (parseMethodDescriptor y.desc).map (fun d => d.parameters.length) = some n) (hR : rm.frames + 1 ≤ R.frames ∧ 8 + (maxL + 11) + rm.locals ≤ R.locals) :
    vx_CSW R s args own index y bytes maxL ret hh ws rm mc ms n := by
  have ok : ∀ w ∈ va_wsS own index y ws, w.before args s = true := fun w h => ht w (hT w h).1
  have hG : GoodIn Ts ws := fun w h => hT w (by unfold va_wsS; exact List.mem_append_right _ h)
  have hc : Cond.codeWith y bytes maxL ret hh ∈ ws := by rw [hw]; exact List.mem_cons_self
  refine ⟨⟨hrc, hrs, hR.1, hR.2, pay_in ht hG, hc⟩, ht _ (hG _ hc).1, ok _ (by simp [va_wsS]), ⟨hd.1, hd.2.1⟩, fun sig h => ?_, ok _ (by simp [va_wsS]), ok _ (by simp [va_wsS])⟩
  have h2 := hd.2.2
  rw [h] at h2
  exact (Option.some.inj h2).symm
theorem vx_callSW (X : Stand p l e R s m args below meth c T locs cells slots) (hexec : p.tables.exec = Jvm.exec) {own : String} {index : Nat} {y : MethodName} {bytes : ByteArray} {maxL : Nat} {ret : Option FieldType} {hh : List (Nat × Nat × Nat × Nat)}
    (hown : s.vm.findClass own = some m.cls) (hlink : (Cond.methodLink own index y).before args s = true) (hstat : (Cond.static y).before args s = true) (hinit : (Cond.initialized y.cls).before args s = true)
    (hcode : (Cond.codeWith y bytes maxL ret hh).before args s = true) (hy : y.cls ≠ "java/lang/invoke/MethodHandle" ∧ y.cls ≠ "java/lang/invoke/VarHandle")
    {W9 : Nat} {Pre : Pt → Array Value → Prop} {Post : Pt → Array Value → Option Value → Pt → Prop} (hK : Back l R p e below s args y 3 W9 Pre Post)
    {g : JFrame} (hg : g.method = m) (hsize : g.locals.size = c.maxLocals) {argsL rest : List Value} (hlen : ∀ sig, parseMethodDescriptor y.desc = some sig → argsL.length = sig.parameters.length)
    (hstack : g.stack = argsL.reverse ++ rest) (hW : 2 * g.monitorRoom + (rest.map fun v => v.category).sum ≤ W9) (hdg : decode c.code g.pc = .ok (.invokestatic index, 3))
    (hpre : ∀ vm₁, s.WarmedH vm₁ → Pre ⟨T.setVm vm₁, locs, cells, slots⟩ argsL.toArray) :
    ∃ (v : Option Value) (vm₁ : Vm) (B : Pt), s.WarmedH vm₁ ∧ Stand p l e R s m args below meth c B.U B.locs B.cells B.slots ∧ Post ⟨T.setVm vm₁, locs, cells, slots⟩ argsL.toArray v B ∧
      ∀ target, Steps p.tables e below (B.U.setTop { g with pc := g.pc + 3, stack := v.toList ++ rest }) target → Steps p.tables e below (T.setTop g) target := by
  obtain ⟨mk, methM, cM, hnamed, hmethM, -, -, -, -, -, -, hsigM⟩ := Cond.codeWith_spec hcode
  have hstatic : methM.isStatic = true := Cond.static_spec hnamed hmethM hstat
  obtain ⟨kP, hkP, -⟩ := className_of_methodNamed hnamed
  have hinitP : kP.init = .initialized := Cond.initialized_spec (findClass_of_methodNamed hnamed) hkP hinit
  obtain ⟨vm₁, X₁, hstep₁⟩ := X.invokestatic hexec hown hlink hnamed hmethM hstatic hkP hinitP hy (g := g) hg (argsL := argsL) (rest := rest) (hlen _ hsigM) hstack hdg
  obtain ⟨v, B, X', hpost, hsteps⟩ := hK m meth c ⟨T.setVm vm₁, locs, cells, slots⟩ { g with stack := rest } (.invokestatic index) mk argsL.toArray X₁ hg hsize hdg hW (X₁.named hnamed) (hpre vm₁ X₁.warmed)
  exact ⟨v, vm₁, B, X₁.warmed, X', hpost, fun target h => hstep₁ _ fun acts => by rw [doInvoke_state]; exact hsteps.trans h⟩
theorem vx_runSW {y : MethodName} {bytes cc : ByteArray} {maxL nL mc ms n index : Nat} {ret : Option FieldType} {hh : List (Nat × Nat × Nat × Nat)} {ws : List Cond} {rm : Room} {Pc : Array Value → State → Prop} {Qc : Array Value → State → Outcome → State → Prop} {free : Addr → Prop} {Ts : List Cond} {own : String} {As rest : List Value} {g : JFrame}
    (S : CallFix p m c cc nL s args Ts own) (hM : Met l y ws rm Pc Qc mc ms free) (cw : vx_CSW R s args own index y bytes maxL ret hh ws rm mc ms n) (hp : PreS s H Pc As)
    (hg : g.method = m) (hn : As.length = n) (hsize : g.locals.size = nL) (hstack : g.stack = As.reverse ++ rest) (hW : 2 * g.monitorRoom + (rest.map fun v => v.category).sum ≤ 8) (hdg : decode cc g.pc = .ok (.invokestatic index, 3)) (hf : cells + mc ≤ R.cells ∧ slots + ms ≤ R.slots) :
    va_Run p l e R s m args below meth c H locs cells slots mc ms g rest (Qc As.toArray) (free) := by
  obtain ⟨⟨hrc, hrs, hfr, hlo, hws, hcw⟩, hcode, hini, hy, hlen, hl, hstt⟩ := cw
  have hK : Back l R p e below s args y 3 8 (PreOf R mc ms Pc) (PostOf Qc mc ms free) := va_backW (hh := hh) (bytes := bytes) (maxL := maxL) (ret := ret) hM hp.1 hrc hrs hfr hlo hws hcw (fun a' U hW => word_at hW (Or.inl (by first | rfl | simp [Cond.onTables, Cond.keeps, Cond.steady])) hini)
  obtain ⟨hx, hb, hml, ho, -⟩ := S
  intro T hT X
  obtain ⟨v, vm₁, ⟨U', l2, c2, s2⟩, hW₁, X', ⟨g', mk, t, L, e1, e2, hq, h1, hL, h2, h3⟩, st⟩ := vx_callSW X hx (hh := hh) (bytes := bytes) (maxL := maxL) (ret := ret) ho hl hstt hini hcode hy hK hg (hsize.trans hml.symm) (argsL := As) (rest := rest) (fun sig h => hn.trans (hlen sig h)) hstack hW (by rw [hb]; exact hdg)
    (fun vm₁ hW₁ => ⟨hf.1, hf.2, hp.2 (T.setVm vm₁) hT hW₁⟩)
  dsimp only [Pt.U, Pt.locs, Pt.cells, Pt.slots] at X' e1 e2 h1 h2 h3 st
  subst h1; subst h2; subst h3
  exact ⟨v, (T.setVm vm₁).calling g' mk As.toArray, t, U', L, hT, X', hL, e1, e2, hq, st⟩
/-- not caught here, past rows that name other classes: it goes on to the caller -/
theorem vx_outP {p : Program} {l : Launch} {e : Env} {R : Room} {s : State} {m : MethodId} {args : Array Value} {below : List Frame} {meth : Method} {c : Code} {H : Heap} {locs : List Loc} {cells slots : Nat} {free : Addr → Prop} {ls : Array Slot} {rest : List Value} {Qc : Array Value → State → Outcome → State → Prop} {XC : String → State → State → Prop}
    {pc : Nat} {own E : String} {ce : Cell} {q : Addr} {mc ms : Nat} (hown : s.vm.findClass own = some m.cls) (hlocks : meth.locks = false)
    (hpass : ∀ z ∈ c.exceptionTable.toList, covers z pc = false ∨ (z.catchType ≠ 0 ∧ ∃ nm : String, (Cond.classLink own z.catchType nm).before args s = true ∧ va_Nc E nm s)) (hcell : H[q]? = some ce) (hv : ce.vm = .none) (hcl : s.vm.findClass E = some ce.cls)
    (hx : ∀ t : State, t.heap = H → s.vm.Alike t.vm → XC E s t) (hf : ∀ z ∈ locs, free z.base) (hc : cells ≤ mc) (hs : slots ≤ ms) :
    vx_W p l e R s m args below meth c H locs cells slots (vx_MQ below Qc XC args s mc ms free) (F0 m pc ls rest) q := by
  intro T hT X
  have hpl : e.platform.magicAccessors = ({} : Platform).magicAccessors := by rw [X.admits.platform]
  obtain ⟨vm', hW', X', st⟩ := X.outThrough hlocks q (g := F0 m pc ls rest) rfl rfl rfl (cell := ce) (by rw [hT]; exact hcell) (by rw [hv]; rfl)
    (by obtain ⟨k9, h9, -⟩ := Vm.findClass_spec hcl; exact ⟨k9, h9⟩) (fun z hz => by
      rcases hpass z hz with h | ⟨hz0, nm, hl1, hn1⟩
      · exact Or.inl h
      · obtain ⟨c6, hc6, hcl6⟩ := Cond.classLink_spec hown hl1 e.platform hpl
        obtain ⟨a8, b8, h1, h2, h3⟩ := hn1
        cases Option.some.inj (h1.symm.trans hcl)
        cases Option.some.inj (h2.symm.trans hc6)
        exact Or.inr ⟨hz0, _, hcl6, h3⟩)
  obtain ⟨g₀, hfr⟩ := X'.frames_eq
  have hcell9 : ((T.setVm vm').setFrames (.throwing q :: below)).heap[q]? = some ce := by
    show T.heap[q]? = some ce
    rw [hT]; exact hcell
  have hend : Ended ((T.setVm vm').setFrames (.throwing q :: below)) below (.threw q) := State.frames_setFrames _ (State.cur_lt_of_frames hfr)
  refine ⟨(T.setVm vm').setFrames (.throwing q :: below), ?_, .threw q, X'.here.running, hend, Or.inr ⟨q, rfl, E, ce, locs, hx _ hT (X'.ends _).1.alike, hcell9, hv, hcl, (X'.ends _).1, (X'.ends _).2.mono hc hs, hf⟩⟩
  rw [X.pushThrowing_eq]
  exact st
/-- a thing of a world lies in the heap -/
theorem vx_lt {D : va_G} {cl : List vw_C} {ws : va_W} {H1 : Heap} (h : va_P D cl ws H1) {k : Nat} {q : Nat × va_E} (hk : ws[k]? = some q) : q.1 < H1.size := (h k q hk).lt
end VXS
/-! ===== END ===== -/
/-! ===== BEGIN methods with a table of their own: called by a name, returning or throwing ===== -/
section VXH
/-! vx_backW, vx_callVX, vx_callSX, vx_callVW, vx_runVW, vx_runVX, vx_runSX, vx_ofWH follow the same proofs as their sisters above (Free/Laws.lean, Shelf42/LK1.lean); vx_outP calls Shelf42/NT130.lean (outThrough). -/
section
variable {l : Launch} {R : Room} {p : Program} {e : Env} {below : List Frame} {s : State} {sargs : Array Value} {y : MethodName} {len W9 : Nat}
theorem vx_backW {ws : List Cond} {rm : Room} {Pc : Array Value → State → Prop} {Qc : Array Value → State → Outcome → State → Prop} {XC : String → State → State → Prop} {mc ms : Nat} {free : Addr → Prop} {bytes : ByteArray} {maxL : Nat} {ret : Option FieldType} {hh : List (Nat × Nat × Nat × Nat)}
    (hM : vx_Met l y ws rm Pc Qc XC mc ms free) (hblind : FrameBlind Pc) (hrc : rm.cells = mc) (hrs : rm.slots = ms)
    (hframes : rm.frames + 1 ≤ R.frames) (hlocals : W9 + (maxL + 11) + rm.locals ≤ R.locals)
    (hws : ∀ w ∈ ws, ∀ a' U, s.WarmedH U.vm → w.before a' U = true) (hcode : Cond.codeWith y bytes maxL ret hh ∈ ws) (hinit : ∀ a' U, s.WarmedH U.vm → (Cond.initialized y.cls).before a' U = true) :
    vx_Back l R p e below s sargs y len W9 (PreOf R mc ms Pc) (PostOf Qc mc ms free) (vx_Post XC mc ms free) := by
  intro m meth c A g ig mk a X hg hsize hdg hW hn hp
  have h1 : (headSpec ws rm).pre.before a A.U = true := atoms_intro fun w hw => hws w hw _ _ X.warmed
  have h2 : (Cond.codeWith y bytes maxL ret hh).before a A.U = true := hws _ hcode _ _ X.warmed
  have h3 : (Cond.initialized y.cls).before a A.U = true := hinit _ _ X.warmed
  have h4 : A.cells + (headSpec ws rm).room.cells ≤ R.cells := by rw [show (headSpec ws rm).room.cells = mc from hrc]; exact hp.1
  have h5 : A.slots + (headSpec ws rm).room.slots ≤ R.slots := by rw [show (headSpec ws rm).room.slots = ms from hrs]; exact hp.2.1
  have hPc : Pc a (A.U.calling g mk a) := hblind _ _ _ _ hp.2.2
  obtain ⟨U, Ls, c0, s0⟩ := A
  dsimp only [Pt.U, Pt.locs, Pt.cells, Pt.slots] at h1 h2 h3 h4 h5 X hn hPc ⊢
  obtain ⟨m9, methY, cY, hn9, hmY, hcY, -, hlY, -⟩ := Cond.codeWith_spec h2
  cases Option.some.inj (hn9.symm.trans hn)
  obtain ⟨kY, hkY, -⟩ := className_of_methodNamed hn
  have hinitY : kY.init = .initialized := Cond.initialized_spec (findClass_of_methodNamed hn) hkY h3
  have h : At U g.method c below := by rw [hg]; exact X.here
  have hlocals9 : W9 + (maxL + 11) + (headSpec ws rm).room.locals ≤ R.locals := hlocals
  have happ : (headSpec ws rm).appliesLoose y e.platform (U.calling g mk a) = true :=
    Spec.appliesLoose_calling (g := g) h hdg hn hkY hinitY
      (X.room_calling (g := g) (R' := (headSpec ws rm).room) hsize hmY hcY hframes (by rw [hlY]; omega) h4 h5) h1
  obtain ⟨mid, hmid⟩ := h.above
  have hfr : (U.setTop g).frames = (.java g :: mid) ++ below := by rw [State.frames_setTop' g h.top, hmid]; rfl
  obtain ⟨o, s₂, hsteps, -, hend, hq⟩ := Steps.callFree hM p X.admits X.cas X.clock (acts := []) hfr happ hPc trivial
  have hq' : vx_Q Qc XC mc ms free a (U.calling g mk a) o s₂ := hq
  rw [State.frames_setTop' g h.top] at hend
  obtain ⟨g₀, hg0⟩ := Option.isSome_iff_exists.mp h.top
  obtain ⟨r, hr⟩ := State.topJava?_eq_some.mp hg0
  have hr' : (({ U with heap := s₂.heap, slotsUsed := s₂.slotsUsed } : State).setVm s₂.vm).frames = .java g₀ :: r := hr
  rcases hq' with ⟨hqc, L, hfe, hL⟩ | ⟨q, rfl, E, ce, L, hx, hce, hcv, hcl, hW₂, hsm, hL⟩
  · obtain ⟨⟨v, rfl⟩, hW₂, e2, q2, q3, q4, q5, q6⟩ := id hfe
    have e3 : s₂ = ({ (U.calling g mk a).setFrames s₂.frames with heap := s₂.heap, slotsUsed := s₂.slotsUsed } : State).setVm s₂.vm := by
      have : s₂ = ({ s₂ with vm := (U.calling g mk a).vm } : State).setVm s₂.vm := rfl
      rw [e2] at this
      exact this
    obtain ⟨c₂, i₂, len₂, hc₂, hd₂, hf₂⟩ := hend
    have hW' : U.WarmedH s₂.vm := hW₂
    have hcc : c₂ = c := by
      have h1 : s₂.code? g.method = U.code? g.method := by
        rw [State.code?_eq, State.code?_eq, hW'.alike.method?]
      exact Option.some.inj (hc₂.symm.trans (h1.trans h.code))
    subst hcc
    have hlen : len₂ = len := by rw [hdg] at hd₂; cases hd₂; rfl
    subst hlen
    have hs₂ : s₂ = (({ U with heap := s₂.heap, slotsUsed := s₂.slotsUsed } : State).setVm s₂.vm).setTop { g with pc := g.pc + len₂, stack := v.toList ++ g.stack } := by
      refine e3.trans ?_
      rw [hf₂, State.calling_eq h.top, State.setFrames_setFrames, State.setTop_of_frames _ hr', hr]
      rfl
    have hsame : U.sameButNew ({ U with heap := s₂.heap, slotsUsed := s₂.slotsUsed } : State) L mc ms := by
      refine ⟨?_, q2, q3, q4, q5, q6⟩
      obtain ⟨t, ht, -⟩ := State.frames_cons hr
      show ({ U with heap := s₂.heap, slotsUsed := s₂.slotsUsed } : State) = { U.setFrames U.frames with heap := s₂.heap, slotsUsed := s₂.slotsUsed }
      rw [State.setFrames_self ht]
    subst hg
    refine Or.inl ⟨v, ⟨(({ U with heap := s₂.heap, slotsUsed := s₂.slotsUsed } : State).setVm s₂.vm), Ls ++ L, c0 + mc, s0 + ms⟩,
      ⟨X.admits, X.cas, X.clock, X.frames, X.room, X.hears, X.method, X.code, (X.here.setHeapUsed s₂.heap s₂.slotsUsed).setVm hW'.alike, X.tail, State.WarmedH.trans X.warmed hW', X.limits, X.bytes, X.same.trans (hsame.setVm s.vm)⟩,
      ⟨g, mk, s₂, L, rfl, rfl, hqc, rfl, hL, rfl, rfl⟩, ?_⟩
    show Steps p.tables e below _ ((({ U with heap := s₂.heap, slotsUsed := s₂.slotsUsed } : State).setVm s₂.vm).setTop { g with pc := g.pc + len₂, stack := v.toList ++ g.stack })
    rw [← hs₂]
    exact hsteps
  · obtain ⟨e2, q2, q3, q4, q5, q6⟩ := id hsm
    have e3 : s₂ = ({ (U.calling g mk a).setFrames s₂.frames with heap := s₂.heap, slotsUsed := s₂.slotsUsed } : State).setVm s₂.vm := by
      have : s₂ = ({ s₂ with vm := (U.calling g mk a).vm } : State).setVm s₂.vm := rfl
      rw [e2] at this
      exact this
    have hf₂ : s₂.frames = .throwing q :: .java g :: U.frames.tail := hend
    have hW' : U.WarmedH s₂.vm := hW₂
    have hs₂ : s₂ = ((({ U with heap := s₂.heap, slotsUsed := s₂.slotsUsed } : State).setVm s₂.vm).setTop g).pushFrame (.throwing q) := by
      refine e3.trans ?_
      rw [hf₂, State.calling_eq h.top, State.setFrames_setFrames, State.pushFrame, State.frames_setTop _ hr', State.setTop_of_frames _ hr', State.setFrames_setFrames, hr]
      rfl
    have hsame : U.sameButNew ({ U with heap := s₂.heap, slotsUsed := s₂.slotsUsed } : State) L mc ms := by
      refine ⟨?_, q2, q3, q4, q5, q6⟩
      obtain ⟨t, ht, -⟩ := State.frames_cons hr
      show ({ U with heap := s₂.heap, slotsUsed := s₂.slotsUsed } : State) = { U.setFrames U.frames with heap := s₂.heap, slotsUsed := s₂.slotsUsed }
      rw [State.setFrames_self ht]
    subst hg
    refine Or.inr ⟨q, ⟨(({ U with heap := s₂.heap, slotsUsed := s₂.slotsUsed } : State).setVm s₂.vm), Ls ++ L, c0 + mc, s0 + ms⟩,
      ⟨X.admits, X.cas, X.clock, X.frames, X.room, X.hears, X.method, X.code, (X.here.setHeapUsed s₂.heap s₂.slotsUsed).setVm hW'.alike, X.tail, State.WarmedH.trans X.warmed hW', X.limits, X.bytes, X.same.trans (hsame.setVm s.vm)⟩,
      ⟨g, mk, s₂, L, E, ce, rfl, rfl, hx, hce, hcv, hcl, rfl, hL, rfl, rfl⟩, ?_⟩
    show Steps p.tables e below _ (((({ U with heap := s₂.heap, slotsUsed := s₂.slotsUsed } : State).setVm s₂.vm).setTop g).pushFrame (.throwing q))
    rw [← hs₂]
    exact hsteps
end
variable {p : Program} {l : Launch} {e : Env} {R : Room} {s : State} {m : MethodId} {args : Array Value} {below : List Frame} {meth : Method} {c : Code} {T : State} {H : Heap} {locs : List Loc} {cells slots : Nat}
theorem vx_callVX (X : Stand p l e R s m args below meth c T locs cells slots) (hexec : p.tables.exec = Jvm.exec) {own C : String} {index : Nat} {y : MethodName} {bytes : ByteArray} {maxL : Nat} {ret : Option FieldType} {hh : List (Nat × Nat × Nat × Nat)}
    (hown : s.vm.findClass own = some m.cls) (hlink : (Cond.methodLink own index y).before args s = true) (hinst : (Cond.instanceMethod y).before args s = true) (hsel : (Cond.selects C y y).before args s = true)
    (hcode : (Cond.codeWith y bytes maxL ret hh).before args s = true) (hy : y.cls ≠ "java/lang/invoke/MethodHandle" ∧ y.cls ≠ "java/lang/invoke/VarHandle")
    {W9 : Nat} {Pre : Pt → Array Value → Prop} {Post : Pt → Array Value → Option Value → Pt → Prop} {PostX : Pt → Array Value → Addr → Pt → Prop} (hK : vx_Back l R p e below s args y 3 W9 Pre Post PostX)
    {b : Addr} {cellB : Cell} (hcell : T.heap[b]? = some cellB) (hobj : cellB.vm.isStatics = false) (hcls : s.vm.findClass C = some cellB.cls)
    {g : JFrame} (hg : g.method = m) (hsize : g.locals.size = c.maxLocals) {argsL rest : List Value} (hlen : ∀ sig, parseMethodDescriptor y.desc = some sig → argsL.length = sig.parameters.length)
    (hstack : g.stack = argsL.reverse ++ .ref b :: rest) (hW : 2 * g.monitorRoom + (rest.map fun v => v.category).sum ≤ W9) (hdg : decode c.code g.pc = .ok (.invokevirtual index, 3))
    (hpre : ∀ vm₁, s.WarmedH vm₁ → Pre ⟨T.setVm vm₁, locs, cells, slots⟩ (Value.ref b :: argsL).toArray) :
    (∃ (v : Option Value) (vm₁ : Vm) (B : Pt), s.WarmedH vm₁ ∧ Stand p l e R s m args below meth c B.U B.locs B.cells B.slots ∧ Post ⟨T.setVm vm₁, locs, cells, slots⟩ (Value.ref b :: argsL).toArray v B ∧
      ∀ target, Steps p.tables e below (B.U.setTop { g with pc := g.pc + 3, stack := v.toList ++ rest }) target → Steps p.tables e below (T.setTop g) target) ∨
    (∃ (q : Addr) (vm₁ : Vm) (B : Pt), s.WarmedH vm₁ ∧ Stand p l e R s m args below meth c B.U B.locs B.cells B.slots ∧ PostX ⟨T.setVm vm₁, locs, cells, slots⟩ (Value.ref b :: argsL).toArray q B ∧
      Steps p.tables e below (T.setTop g) ((B.U.setTop { g with stack := rest }).pushFrame (.throwing q))) := by
  obtain ⟨mk, methM, hnamed, hmethM, hstM, habM⟩ := Cond.instanceMethod_spec hinst
  obtain ⟨m8, methM', cM, hn8, hmethM', -, -, -, -, -, -, hsigM⟩ := Cond.codeWith_spec hcode
  cases Option.some.inj (hn8.symm.trans hnamed)
  cases hmethM.symm.trans hmethM'
  obtain ⟨c2, r2, m2, q1, q2, q3, q4, kP, hkP, hkPi⟩ := Cond.selects_spec hsel
  cases hcls.symm.trans q1
  cases (State.methodFound?_of_named hnamed hy).symm.trans q2
  cases hnamed.symm.trans q3
  have hselP : selectMethod e.platform s.vm cellB.cls mk = .method mk := by rw [Launch.admits_selectMethod X.admits]; exact q4
  obtain ⟨vm₁, X₁, hstep₁⟩ := X.invokevirtual hexec hown hlink hnamed hmethM hstM hkP hkPi hy (a := b) (cell := cellB) hcell
    (fun z h => by rw [h] at hobj; cases hobj) hselP hmethM habM hkP hkPi (g := g) hg (argsL := argsL) (rest := rest) (hlen _ hsigM) hstack hdg
  rcases hK m meth c ⟨T.setVm vm₁, locs, cells, slots⟩ { g with stack := rest } (.invokevirtual index) mk (Value.ref b :: argsL).toArray X₁ hg hsize hdg hW (X₁.named hnamed) (hpre vm₁ X₁.warmed) with ⟨v, B, X', hpost, hsteps⟩ | ⟨q, B, X', hpost, hsteps⟩
  · exact Or.inl ⟨v, vm₁, B, X₁.warmed, X', hpost, fun target h => hstep₁ _ fun acts => by rw [doInvoke_state]; exact hsteps.trans h⟩
  · exact Or.inr ⟨q, vm₁, B, X₁.warmed, X', hpost, hstep₁ _ fun acts => by rw [doInvoke_state]; exact hsteps⟩
theorem vx_callSX (X : Stand p l e R s m args below meth c T locs cells slots) (hexec : p.tables.exec = Jvm.exec) {own : String} {index : Nat} {y : MethodName} {bytes : ByteArray} {maxL : Nat} {ret : Option FieldType} {hh : List (Nat × Nat × Nat × Nat)}
    (hown : s.vm.findClass own = some m.cls) (hlink : (Cond.methodLink own index y).before args s = true) (hstat : (Cond.static y).before args s = true) (hinit : (Cond.initialized y.cls).before args s = true)
    (hcode : (Cond.codeWith y bytes maxL ret hh).before args s = true) (hy : y.cls ≠ "java/lang/invoke/MethodHandle" ∧ y.cls ≠ "java/lang/invoke/VarHandle")
    {W9 : Nat} {Pre : Pt → Array Value → Prop} {Post : Pt → Array Value → Option Value → Pt → Prop} {PostX : Pt → Array Value → Addr → Pt → Prop} (hK : vx_Back l R p e below s args y 3 W9 Pre Post PostX)
    {g : JFrame} (hg : g.method = m) (hsize : g.locals.size = c.maxLocals) {argsL rest : List Value} (hlen : ∀ sig, parseMethodDescriptor y.desc = some sig → argsL.length = sig.parameters.length)
    (hstack : g.stack = argsL.reverse ++ rest) (hW : 2 * g.monitorRoom + (rest.map fun v => v.category).sum ≤ W9) (hdg : decode c.code g.pc = .ok (.invokestatic index, 3))
    (hpre : ∀ vm₁, s.WarmedH vm₁ → Pre ⟨T.setVm vm₁, locs, cells, slots⟩ argsL.toArray) :
    (∃ (v : Option Value) (vm₁ : Vm) (B : Pt), s.WarmedH vm₁ ∧ Stand p l e R s m args below meth c B.U B.locs B.cells B.slots ∧ Post ⟨T.setVm vm₁, locs, cells, slots⟩ argsL.toArray v B ∧
      ∀ target, Steps p.tables e below (B.U.setTop { g with pc := g.pc + 3, stack := v.toList ++ rest }) target → Steps p.tables e below (T.setTop g) target) ∨
    (∃ (q : Addr) (vm₁ : Vm) (B : Pt), s.WarmedH vm₁ ∧ Stand p l e R s m args below meth c B.U B.locs B.cells B.slots ∧ PostX ⟨T.setVm vm₁, locs, cells, slots⟩ argsL.toArray q B ∧
      Steps p.tables e below (T.setTop g) ((B.U.setTop { g with stack := rest }).pushFrame (.throwing q))) := by
  obtain ⟨mk, methM, cM, hnamed, hmethM, -, -, -, -, -, -, hsigM⟩ := Cond.codeWith_spec hcode
  have hstatic : methM.isStatic = true := Cond.static_spec hnamed hmethM hstat
  obtain ⟨kP, hkP, -⟩ := className_of_methodNamed hnamed
  have hinitP : kP.init = .initialized := Cond.initialized_spec (findClass_of_methodNamed hnamed) hkP hinit
  obtain ⟨vm₁, X₁, hstep₁⟩ := X.invokestatic hexec hown hlink hnamed hmethM hstatic hkP hinitP hy (g := g) hg (argsL := argsL) (rest := rest) (hlen _ hsigM) hstack hdg
  rcases hK m meth c ⟨T.setVm vm₁, locs, cells, slots⟩ { g with stack := rest } (.invokestatic index) mk argsL.toArray X₁ hg hsize hdg hW (X₁.named hnamed) (hpre vm₁ X₁.warmed) with ⟨v, B, X', hpost, hsteps⟩ | ⟨q, B, X', hpost, hsteps⟩
  · exact Or.inl ⟨v, vm₁, B, X₁.warmed, X', hpost, fun target h => hstep₁ _ fun acts => by rw [doInvoke_state]; exact hsteps.trans h⟩
  · exact Or.inr ⟨q, vm₁, B, X₁.warmed, X', hpost, hstep₁ _ fun acts => by rw [doInvoke_state]; exact hsteps⟩
theorem vx_callVW (X : Stand p l e R s m args below meth c T locs cells slots) (hexec : p.tables.exec = Jvm.exec) {own C : String} {index : Nat} {y : MethodName} {bytes : ByteArray} {maxL : Nat} {ret : Option FieldType} {hh : List (Nat × Nat × Nat × Nat)}
    (hown : s.vm.findClass own = some m.cls) (hlink : (Cond.methodLink own index y).before args s = true) (hinst : (Cond.instanceMethod y).before args s = true) (hsel : (Cond.selects C y y).before args s = true)
    (hcode : (Cond.codeWith y bytes maxL ret hh).before args s = true) (hy : y.cls ≠ "java/lang/invoke/MethodHandle" ∧ y.cls ≠ "java/lang/invoke/VarHandle")
    {W9 : Nat} {Pre : Pt → Array Value → Prop} {Post : Pt → Array Value → Option Value → Pt → Prop} (hK : Back l R p e below s args y 3 W9 Pre Post)
    {b : Addr} {cellB : Cell} (hcell : T.heap[b]? = some cellB) (hobj : cellB.vm.isStatics = false) (hcls : s.vm.findClass C = some cellB.cls)
    {g : JFrame} (hg : g.method = m) (hsize : g.locals.size = c.maxLocals) {argsL rest : List Value} (hlen : ∀ sig, parseMethodDescriptor y.desc = some sig → argsL.length = sig.parameters.length)
    (hstack : g.stack = argsL.reverse ++ .ref b :: rest) (hW : 2 * g.monitorRoom + (rest.map fun v => v.category).sum ≤ W9) (hdg : decode c.code g.pc = .ok (.invokevirtual index, 3))
    (hpre : ∀ vm₁, s.WarmedH vm₁ → Pre ⟨T.setVm vm₁, locs, cells, slots⟩ (Value.ref b :: argsL).toArray) :
    ∃ (v : Option Value) (vm₁ : Vm) (B : Pt), s.WarmedH vm₁ ∧ Stand p l e R s m args below meth c B.U B.locs B.cells B.slots ∧ Post ⟨T.setVm vm₁, locs, cells, slots⟩ (Value.ref b :: argsL).toArray v B ∧
      ∀ target, Steps p.tables e below (B.U.setTop { g with pc := g.pc + 3, stack := v.toList ++ rest }) target → Steps p.tables e below (T.setTop g) target := by
  obtain ⟨mk, methM, hnamed, hmethM, hstM, habM⟩ := Cond.instanceMethod_spec hinst
  obtain ⟨m8, methM', cM, hn8, hmethM', -, -, -, -, -, -, hsigM⟩ := Cond.codeWith_spec hcode
  cases Option.some.inj (hn8.symm.trans hnamed)
  cases hmethM.symm.trans hmethM'
  obtain ⟨c2, r2, m2, q1, q2, q3, q4, kP, hkP, hkPi⟩ := Cond.selects_spec hsel
  cases hcls.symm.trans q1
  cases (State.methodFound?_of_named hnamed hy).symm.trans q2
  cases hnamed.symm.trans q3
  have hselP : selectMethod e.platform s.vm cellB.cls mk = .method mk := by rw [Launch.admits_selectMethod X.admits]; exact q4
  obtain ⟨vm₁, X₁, hstep₁⟩ := X.invokevirtual hexec hown hlink hnamed hmethM hstM hkP hkPi hy (a := b) (cell := cellB) hcell
    (fun z h => by rw [h] at hobj; cases hobj) hselP hmethM habM hkP hkPi (g := g) hg (argsL := argsL) (rest := rest) (hlen _ hsigM) hstack hdg
  obtain ⟨v, B, X', hpost, hsteps⟩ := hK m meth c ⟨T.setVm vm₁, locs, cells, slots⟩ { g with stack := rest } (.invokevirtual index) mk (Value.ref b :: argsL).toArray X₁ hg hsize hdg hW (X₁.named hnamed) (hpre vm₁ X₁.warmed)
  exact ⟨v, vm₁, B, X₁.warmed, X', hpost, fun target h => hstep₁ _ fun acts => by rw [doInvoke_state]; exact hsteps.trans h⟩
abbrev vx_CVW (R : Room) (s : State) (args : Array Value) (own C : String) (index : Nat) (y : MethodName) (bytes : ByteArray) (maxL : Nat) (ret : Option FieldType) (hh : List (Nat × Nat × Nat × Nat)) (ws : List Cond) (rm : Room) (mc ms n : Nat) : Prop :=
  (rm.cells = mc ∧ rm.slots = ms ∧ rm.frames + 1 ≤ R.frames ∧ 8 + (maxL + 11) + rm.locals ≤ R.locals ∧ (∀ w ∈ ws, ∀ (a' : Array Value) (U : State), s.WarmedH U.vm → w.before a' U = true) ∧ Cond.codeWith y bytes maxL ret hh ∈ ws) ∧
  (Cond.codeWith y bytes maxL ret hh).before args s = true ∧ (Cond.initialized y.cls).before args s = true ∧ (y.cls ≠ "java/lang/invoke/MethodHandle" ∧ y.cls ≠ "java/lang/invoke/VarHandle") ∧
  (∀ sig, parseMethodDescriptor y.desc = some sig → n = sig.parameters.length) ∧ (Cond.methodLink own index y).before args s = true ∧ (Cond.instanceMethod y).before args s = true ∧ (Cond.selects C y y).before args s = true
theorem vx_cwVW {own C : String} {index maxL mc ms : Nat} {y : MethodName} {bytes : ByteArray} {ret : Option FieldType} {hh : List (Nat × Nat × Nat × Nat)} {Ts ws ws' : List Cond} {rm : Room} (n : Nat) (ht : ∀ w ∈ Ts, w.before args s = true) (hT : GoodIn Ts (wsV own index C y ws)) (hw : ws = Cond.codeWith y bytes maxL ret hh :: ws') (hrc : rm.cells = mc) (hrs : rm.slots = ms)
    (hd : y.cls = C ∧ y.cls ≠ "java/lang/invoke/MethodHandle" ∧ y.cls ≠ "java/lang/invoke/VarHandle" ∧ (parseMethodDescriptor y.desc).map (fun d => d.parameters.length) = some n) (hR : rm.frames + 1 ≤ R.frames ∧ 8 + (maxL + 11) + rm.locals ≤ R.locals) :
    vx_CVW R s args own C index y bytes maxL ret hh ws rm mc ms n := by
  obtain ⟨hC, hd⟩ := hd
  subst hC
  have ok : ∀ w ∈ wsV own index y.cls y ws, w.before args s = true := fun w h => ht w (hT w h).1
  have hG : GoodIn Ts ws := fun w h => hT w (by unfold wsV; exact List.mem_append_right _ h)
  have hc : Cond.codeWith y bytes maxL ret hh ∈ ws := by rw [hw]; exact List.mem_cons_self
  refine ⟨⟨hrc, hrs, hR.1, hR.2, pay_in ht hG, hc⟩, ht _ (hG _ hc).1, ok _ (by simp [wsV]), ⟨hd.1, hd.2.1⟩, fun sig h => ?_, ok _ (by simp [wsV]), ok _ (by simp [wsV]), ok _ (by simp [wsV])⟩
  have h2 := hd.2.2
  rw [h] at h2
  exact (Option.some.inj h2).symm
theorem vx_runVW {y : MethodName} {bytes cc : ByteArray} {maxL nL mc ms n index : Nat} {ret : Option FieldType} {hh : List (Nat × Nat × Nat × Nat)} {ws : List Cond} {rm : Room} {Pc : Array Value → State → Prop} {Qc : Array Value → State → Outcome → State → Prop} {free : Addr → Prop} {Ts : List Cond} {own C : String} {b : Addr} {As rest : List Value} {g : JFrame}
    (S : CallFix p m c cc nL s args Ts own) (hM : Met l y ws rm Pc Qc mc ms free) (cw : vx_CVW R s args own C index y bytes maxL ret hh ws rm mc ms n) (hp : PreV s H C b Pc As)
    (hg : g.method = m) (hn : As.length = n) (hsize : g.locals.size = nL) (hstack : g.stack = As.reverse ++ .ref b :: rest) (hW : 2 * g.monitorRoom + (rest.map fun v => v.category).sum ≤ 8) (hdg : decode cc g.pc = .ok (.invokevirtual index, 3)) (hf : cells + mc ≤ R.cells ∧ slots + ms ≤ R.slots) :
    va_Run p l e R s m args below meth c H locs cells slots mc ms g rest (Qc (Value.ref b :: As).toArray) free := by
  obtain ⟨⟨hrc, hrs, hfr, hlo, hws, hcw⟩, hcode, hini, hy, hlen, hl, hin, hse⟩ := cw
  have hK : Back l R p e below s args y 3 8 (PreOf R mc ms Pc) (PostOf Qc mc ms free) := va_backW (hh := hh) (bytes := bytes) (maxL := maxL) (ret := ret) hM hp.1 hrc hrs hfr hlo hws hcw (fun a' U hW => word_at hW (Or.inl (by first | rfl | simp [Cond.onTables, Cond.keeps, Cond.steady])) hini)
  obtain ⟨hx, hb, hml, ho, -⟩ := S
  obtain ⟨-, ⟨cellB, hcB, hoB, hclB⟩, hPc⟩ := hp
  intro T hT X
  obtain ⟨v, vm₁, ⟨U', l2, c2, s2⟩, hW₁, X', ⟨g', mk, t, L, e1, e2, hq, h1, hL, h2, h3⟩, st⟩ := vx_callVW X hx (C := C) (hh := hh) (bytes := bytes) (maxL := maxL) (ret := ret) ho hl hin hse hcode hy hK (by rw [hT]; exact hcB) hoB hclB hg (hsize.trans hml.symm) (argsL := As) (rest := rest) (fun sig h => hn.trans (hlen sig h)) hstack hW (by rw [hb]; exact hdg)
    (fun vm₁ hW₁ => ⟨hf.1, hf.2, hPc (T.setVm vm₁) hT hW₁⟩)
  dsimp only [Pt.U, Pt.locs, Pt.cells, Pt.slots] at X' e1 e2 h1 h2 h3 st
  subst h1; subst h2; subst h3
  exact ⟨v, (T.setVm vm₁).calling g' mk (Value.ref b :: As).toArray, t, U', L, hT, X', hL, e1, e2, hq, st⟩
section
variable {y : MethodName} {bytes cc : ByteArray} {maxL nL mc ms n index : Nat} {ret : Option FieldType} {ws : List Cond} {rm : Room} {Pc : Array Value → State → Prop} {Qc : Array Value → State → Outcome → State → Prop} {XC : String → State → State → Prop} {free : Addr → Prop} {Ts : List Cond} {own C : String} {b : Addr} {As rest : List Value} {g : JFrame}
theorem vx_runVX {hh : List (Nat × Nat × Nat × Nat)} (S : CallFix p m c cc nL s args Ts own) (hM : vx_Met l y ws rm Pc Qc XC mc ms free) (cw : vx_CVW R s args own C index y bytes maxL ret hh ws rm mc ms n) (hp : PreV s H C b Pc As)
    (hg : g.method = m) (hn : As.length = n) (hsize : g.locals.size = nL) (hstack : g.stack = As.reverse ++ .ref b :: rest) (hW : 2 * g.monitorRoom + (rest.map fun v => v.category).sum ≤ 8) (hdg : decode cc g.pc = .ok (.invokevirtual index, 3)) (hf : cells + mc ≤ R.cells ∧ slots + ms ≤ R.slots) :
    vx_Run p l e R s m args below meth c H locs cells slots mc ms g rest (Qc (Value.ref b :: As).toArray) XC free := by
  obtain ⟨⟨hrc, hrs, hfr, hlo, hws, hcw⟩, hcode, hini, hy, hlen, hl, hin, hse⟩ := cw
  have hK : vx_Back l R p e below s args y 3 8 (PreOf R mc ms Pc) (PostOf Qc mc ms free) (vx_Post XC mc ms free) := vx_backW (hh := hh) (bytes := bytes) (maxL := maxL) (ret := ret) hM hp.1 hrc hrs hfr hlo hws hcw (fun a' U hW => word_at hW (Or.inl (by first | rfl | simp [Cond.onTables, Cond.keeps, Cond.steady])) hini)
  obtain ⟨hx, hb, hml, ho, -⟩ := S
  obtain ⟨-, ⟨cellB, hcB, hoB, hclB⟩, hPc⟩ := hp
  intro T hT X
  rcases vx_callVX X hx (C := C) (hh := hh) (bytes := bytes) (maxL := maxL) (ret := ret) ho hl hin hse hcode hy hK (by rw [hT]; exact hcB) hoB hclB hg (hsize.trans hml.symm) (argsL := As) (rest := rest) (fun sig h => hn.trans (hlen sig h)) hstack hW (by rw [hb]; exact hdg)
    (fun vm₁ hW₁ => ⟨hf.1, hf.2, hPc (T.setVm vm₁) hT hW₁⟩) with ⟨v, vm₁, ⟨U', l2, c2, s2⟩, hW₁, X', ⟨g', mk, t, L, e1, e2, hq, h1, hL, h2, h3⟩, st⟩ | ⟨q, vm₁, ⟨U', l2, c2, s2⟩, hW₁, X', ⟨g', mk, t, L, E, ce, e1, e2, hq, hce, hcv, hcl, h1, hL, h2, h3⟩, st⟩
  · dsimp only [Pt.U, Pt.locs, Pt.cells, Pt.slots] at X' e1 e2 h1 h2 h3 st
    subst h1; subst h2; subst h3
    exact Or.inl ⟨v, (T.setVm vm₁).calling g' mk (Value.ref b :: As).toArray, t, U', L, hT, X', hL, e1, e2, hq, st⟩
  · dsimp only [Pt.U, Pt.locs, Pt.cells, Pt.slots] at X' e1 e2 h1 h2 h3 st hcl
    subst h1; subst h2; subst h3
    exact Or.inr ⟨q, (T.setVm vm₁).calling g' mk (Value.ref b :: As).toArray, t, U', L, E, ce, hT, X', hL, e1, e2, hq, hce, hcv, vx_cls hW₁ hcl, st⟩
theorem vx_runSX {hh : List (Nat × Nat × Nat × Nat)} (S : CallFix p m c cc nL s args Ts own) (hM : vx_Met l y ws rm Pc Qc XC mc ms free) (cw : vx_CSW R s args own index y bytes maxL ret hh ws rm mc ms n) (hp : PreS s H Pc As)
    (hg : g.method = m) (hn : As.length = n) (hsize : g.locals.size = nL) (hstack : g.stack = As.reverse ++ rest) (hW : 2 * g.monitorRoom + (rest.map fun v => v.category).sum ≤ 8) (hdg : decode cc g.pc = .ok (.invokestatic index, 3)) (hf : cells + mc ≤ R.cells ∧ slots + ms ≤ R.slots) :
    vx_Run p l e R s m args below meth c H locs cells slots mc ms g rest (Qc As.toArray) XC free := by
  obtain ⟨⟨hrc, hrs, hfr, hlo, hws, hcw⟩, hcode, hini, hy, hlen, hl, hstt⟩ := cw
  have hK : vx_Back l R p e below s args y 3 8 (PreOf R mc ms Pc) (PostOf Qc mc ms free) (vx_Post XC mc ms free) := vx_backW (hh := hh) (bytes := bytes) (maxL := maxL) (ret := ret) hM hp.1 hrc hrs hfr hlo hws hcw (fun a' U hW => word_at hW (Or.inl (by first | rfl | simp [Cond.onTables, Cond.keeps, Cond.steady])) hini)
  obtain ⟨hx, hb, hml, ho, -⟩ := S
  intro T hT X
  rcases vx_callSX X hx (hh := hh) (bytes := bytes) (maxL := maxL) (ret := ret) ho hl hstt hini hcode hy hK hg (hsize.trans hml.symm) (argsL := As) (rest := rest) (fun sig h => hn.trans (hlen sig h)) hstack hW (by rw [hb]; exact hdg)
    (fun vm₁ hW₁ => ⟨hf.1, hf.2, hp.2 (T.setVm vm₁) hT hW₁⟩) with ⟨v, vm₁, ⟨U', l2, c2, s2⟩, hW₁, X', ⟨g', mk, t, L, e1, e2, hq, h1, hL, h2, h3⟩, st⟩ | ⟨q, vm₁, ⟨U', l2, c2, s2⟩, hW₁, X', ⟨g', mk, t, L, E, ce, e1, e2, hq, hce, hcv, hcl, h1, hL, h2, h3⟩, st⟩
  · dsimp only [Pt.U, Pt.locs, Pt.cells, Pt.slots] at X' e1 e2 h1 h2 h3 st
    subst h1; subst h2; subst h3
    exact Or.inl ⟨v, (T.setVm vm₁).calling g' mk As.toArray, t, U', L, hT, X', hL, e1, e2, hq, st⟩
  · dsimp only [Pt.U, Pt.locs, Pt.cells, Pt.slots] at X' e1 e2 h1 h2 h3 st hcl
    subst h1; subst h2; subst h3
    exact Or.inr ⟨q, (T.setVm vm₁).calling g' mk As.toArray, t, U', L, E, ce, hT, X', hL, e1, e2, hq, hce, hcv, vx_cls hW₁ hcl, st⟩
end
end VXH
theorem vx_ofWH {l : Launch} {y : MethodName} {ws ws' : List Cond} {rm : Room} {Pc : Array Value → State → Prop} {Qc : Array Value → State → Outcome → State → Prop} {XC : String → State → State → Prop} {mc ms : Nat} {free : Addr → Prop} {cc : ByteArray} {maxL : Nat} {ret : Option FieldType} {hh : List (Nat × Nat × Nat × Nat)}
    (hy : plainName y.cls = true) (hw : ws = Cond.codeWith y cc maxL ret hh :: ws')
    (body : ∀ p e s m args below meth c s₁, BodyLoose p l y (headSpec ws rm) cc maxL ret e s m args below meth c s₁ → c.maxLocals = maxL → Pc args s →
      W p l e (headSpec ws rm).room s m args below meth c s.heap [] 0 0 (vx_MQ below Qc XC args s mc ms free) (entryFrame m args maxL)) : vx_Met l y ws rm Pc Qc XC mc ms free := by
  refine MetFree.of_bodyS (code := cc) (maxLocals := maxL) (ret := ret) hy ?_ ?_
  · intro args s m h hn
    obtain ⟨m9, meth, c, hn9, h1, h2, h3, h4, -, h5, h6, -⟩ := Cond.codeWith_spec (atoms_spec (ws := ws) h _ (by rw [hw]; exact List.mem_cons_self))
    cases hn.symm.trans hn9
    exact ⟨meth, c, h1, h2, h3, h4, h5, h6⟩
  · intro p e s m args below meth c s₁ B hml hP _
    have hh0 : s₁.heap = s.heap := by rw [B.state]; rfl
    obtain ⟨t, a1, o, b1, b2, b3⟩ := body p e s m args below meth c s₁ B hml hP s₁ hh0 (Stand.of_body B)
    exact ⟨t, o, a1, b1, b2, b3⟩
/-! ===== END ===== -/
/-! ===== BEGIN a private method of a nest mate that may throw (follows va_callVN, va_callSN, va_runVN, va_runSN) ===== -/
section
variable {p : Program} {l : Launch} {e : Env} {R : Room} {s : State} {m : MethodId} {args : Array Value} {below : List Frame} {meth : Method} {c : Code} {H : Heap} {locs : List Loc} {cells slots : Nat}
variable {T : State}
theorem vx_callVN (X : Stand p l e R s m args below meth c T locs cells slots) (hexec : p.tables.exec = Jvm.exec) {own C : String} {index : Nat} {host : String} {y : MethodName} {bytes : ByteArray} {maxL : Nat} {ret : Option FieldType}
    (hown : s.vm.findClass own = some m.cls) (hlink : (Cond.methodLinkNest own index y host).before args s = true) (hinst : (Cond.instanceMethod y).before args s = true) (hsel : (Cond.selects C y y).before args s = true)
    (hcode : (Cond.code y bytes maxL ret).before args s = true) (hy : y.cls ≠ "java/lang/invoke/MethodHandle" ∧ y.cls ≠ "java/lang/invoke/VarHandle")
    {W : Nat} {Pre : Pt → Array Value → Prop} {Post : Pt → Array Value → Option Value → Pt → Prop} {PostX : Pt → Array Value → Addr → Pt → Prop} (hK : vx_Back l R p e below s args y 3 W Pre Post PostX)
    {b : Addr} {cellB : Cell} (hcell : T.heap[b]? = some cellB) (hobj : cellB.vm.isStatics = false) (hcls : s.vm.findClass C = some cellB.cls)
    {g : JFrame} (hg : g.method = m) (hsize : g.locals.size = c.maxLocals) {argsL rest : List Value} (hlen : ∀ sig, parseMethodDescriptor y.desc = some sig → argsL.length = sig.parameters.length)
    (hstack : g.stack = argsL.reverse ++ .ref b :: rest) (hW : 2 * g.monitorRoom + (rest.map fun v => v.category).sum ≤ W) (hdg : decode c.code g.pc = .ok (.invokevirtual index, 3))
    (hpre : ∀ vm₁, s.WarmedH vm₁ → Pre ⟨T.setVm vm₁, locs, cells, slots⟩ (Value.ref b :: argsL).toArray) :
    (∃ (v : Option Value) (vm₁ : Vm) (B : Pt), s.WarmedH vm₁ ∧ Stand p l e R s m args below meth c B.U B.locs B.cells B.slots ∧ Post ⟨T.setVm vm₁, locs, cells, slots⟩ (Value.ref b :: argsL).toArray v B ∧
      ∀ target, Steps p.tables e below (B.U.setTop { g with pc := g.pc + 3, stack := v.toList ++ rest }) target → Steps p.tables e below (T.setTop g) target) ∨
    (∃ (q : Addr) (vm₁ : Vm) (B : Pt), s.WarmedH vm₁ ∧ Stand p l e R s m args below meth c B.U B.locs B.cells B.slots ∧ PostX ⟨T.setVm vm₁, locs, cells, slots⟩ (Value.ref b :: argsL).toArray q B ∧
      Steps p.tables e below (T.setTop g) ((B.U.setTop { g with stack := rest }).pushFrame (.throwing q))) := by
  obtain ⟨mk, methM, hnamed, hmethM, hstM, habM⟩ := Cond.instanceMethod_spec hinst
  obtain ⟨methM', cM, hmethM', -, -, -, -, -, -, hsigM⟩ := Cond.code_spec hnamed hcode
  cases hmethM.symm.trans hmethM'
  obtain ⟨c2, r2, m2, q1, q2, q3, q4, kP, hkP, hkPi⟩ := Cond.selects_spec hsel
  cases hcls.symm.trans q1
  cases (State.methodFound?_of_named hnamed hy).symm.trans q2
  cases hnamed.symm.trans q3
  have hselP : selectMethod e.platform s.vm cellB.cls mk = .method mk := by rw [Launch.admits_selectMethod X.admits]; exact q4
  obtain ⟨vm₁, X₁, hstep₁⟩ := X.invokevirtualNest hexec hown hlink hnamed hmethM hstM hkP hkPi hy (a := b) (cell := cellB) hcell
    (fun z h => by rw [h] at hobj; cases hobj) hselP hmethM habM hkP hkPi (g := g) hg (argsL := argsL) (rest := rest) (hlen _ hsigM) hstack hdg
  rcases hK m meth c ⟨T.setVm vm₁, locs, cells, slots⟩ { g with stack := rest } (.invokevirtual index) mk (Value.ref b :: argsL).toArray X₁ hg hsize hdg hW (X₁.named hnamed) (hpre vm₁ X₁.warmed) with ⟨v, B, X', hpost, hsteps⟩ | ⟨q, B, X', hpost, hsteps⟩
  · exact Or.inl ⟨v, vm₁, B, X₁.warmed, X', hpost, fun target h => hstep₁ _ fun acts => by rw [doInvoke_state]; exact hsteps.trans h⟩
  · exact Or.inr ⟨q, vm₁, B, X₁.warmed, X', hpost, hstep₁ _ fun acts => by rw [doInvoke_state]; exact hsteps⟩
theorem vx_callSN (X : Stand p l e R s m args below meth c T locs cells slots) (hexec : p.tables.exec = Jvm.exec) {own : String} {index : Nat} {host : String} {y : MethodName} {bytes : ByteArray} {maxL : Nat} {ret : Option FieldType}
    (hown : s.vm.findClass own = some m.cls) (hlink : (Cond.methodLinkNest own index y host).before args s = true) (hstat : (Cond.static y).before args s = true) (hinit : (Cond.initialized y.cls).before args s = true)
    (hcode : (Cond.code y bytes maxL ret).before args s = true) (hy : y.cls ≠ "java/lang/invoke/MethodHandle" ∧ y.cls ≠ "java/lang/invoke/VarHandle")
    {W : Nat} {Pre : Pt → Array Value → Prop} {Post : Pt → Array Value → Option Value → Pt → Prop} {PostX : Pt → Array Value → Addr → Pt → Prop} (hK : vx_Back l R p e below s args y 3 W Pre Post PostX)
    {g : JFrame} (hg : g.method = m) (hsize : g.locals.size = c.maxLocals) {argsL rest : List Value} (hlen : ∀ sig, parseMethodDescriptor y.desc = some sig → argsL.length = sig.parameters.length)
    (hstack : g.stack = argsL.reverse ++ rest) (hW : 2 * g.monitorRoom + (rest.map fun v => v.category).sum ≤ W) (hdg : decode c.code g.pc = .ok (.invokestatic index, 3))
    (hpre : ∀ vm₁, s.WarmedH vm₁ → Pre ⟨T.setVm vm₁, locs, cells, slots⟩ argsL.toArray) :
    (∃ (v : Option Value) (vm₁ : Vm) (B : Pt), s.WarmedH vm₁ ∧ Stand p l e R s m args below meth c B.U B.locs B.cells B.slots ∧ Post ⟨T.setVm vm₁, locs, cells, slots⟩ argsL.toArray v B ∧
      ∀ target, Steps p.tables e below (B.U.setTop { g with pc := g.pc + 3, stack := v.toList ++ rest }) target → Steps p.tables e below (T.setTop g) target) ∨
    (∃ (q : Addr) (vm₁ : Vm) (B : Pt), s.WarmedH vm₁ ∧ Stand p l e R s m args below meth c B.U B.locs B.cells B.slots ∧ PostX ⟨T.setVm vm₁, locs, cells, slots⟩ argsL.toArray q B ∧
      Steps p.tables e below (T.setTop g) ((B.U.setTop { g with stack := rest }).pushFrame (.throwing q))) := by
  obtain ⟨mk, hnamed⟩ := Cond.code_named hcode
  obtain ⟨methM, cM, hmethM, -, -, -, -, -, -, hsigM⟩ := Cond.code_spec hnamed hcode
  have hstatic : methM.isStatic = true := Cond.static_spec hnamed hmethM hstat
  obtain ⟨kP, hkP, -⟩ := className_of_methodNamed hnamed
  have hinitP : kP.init = .initialized := Cond.initialized_spec (findClass_of_methodNamed hnamed) hkP hinit
  obtain ⟨vm₁, X₁, hstep₁⟩ := X.invokestaticNest hexec hown hlink hnamed hmethM hstatic hkP hinitP hy (g := g) hg (argsL := argsL) (rest := rest) (hlen _ hsigM) hstack hdg
  rcases hK m meth c ⟨T.setVm vm₁, locs, cells, slots⟩ { g with stack := rest } (.invokestatic index) mk argsL.toArray X₁ hg hsize hdg hW (X₁.named hnamed) (hpre vm₁ X₁.warmed) with ⟨v, B, X', hpost, hsteps⟩ | ⟨q, B, X', hpost, hsteps⟩
  · exact Or.inl ⟨v, vm₁, B, X₁.warmed, X', hpost, fun target h => hstep₁ _ fun acts => by rw [doInvoke_state]; exact hsteps.trans h⟩
  · exact Or.inr ⟨q, vm₁, B, X₁.warmed, X', hpost, hstep₁ _ fun acts => by rw [doInvoke_state]; exact hsteps⟩
theorem vx_runVN {y : MethodName} {bytes cc : ByteArray} {maxL nL mc ms n index : Nat} {ret : Option FieldType} {ws : List Cond} {rm : Room} {Pc : Array Value → State → Prop} {Qc : Array Value → State → Outcome → State → Prop} {XC : String → State → State → Prop} {free : Addr → Prop} {Ts : List Cond} {own C host : String} {b : Addr} {As rest : List Value} {g : JFrame}
    (S : CallFix p m c cc nL s args Ts own) (hM : vx_Met l y ws rm Pc Qc XC mc ms free) (cw : va_CN R s args own index y host bytes maxL ret ws rm mc ms n ∧ (Cond.instanceMethod y).before args s = true ∧ (Cond.selects C y y).before args s = true) (hp : PreV s H C b Pc As)
    (hg : g.method = m) (hn : As.length = n) (hsize : g.locals.size = nL) (hstack : g.stack = As.reverse ++ .ref b :: rest) (hW : 2 * g.monitorRoom + (rest.map fun v => v.category).sum ≤ 8) (hdg : decode cc g.pc = .ok (.invokevirtual index, 3)) (hf : cells + mc ≤ R.cells ∧ slots + ms ≤ R.slots) :
    vx_Run p l e R s m args below meth c H locs cells slots mc ms g rest (Qc (Value.ref b :: As).toArray) XC free := by
  obtain ⟨⟨⟨hrc, hrs, hfr, hlo, hws, hcw⟩, hcode, hini, hy, hlen, hl⟩, hx1, hx2⟩ := cw
  have hK : vx_Back l R p e below s args y 3 8 (PreOf R mc ms Pc) (PostOf Qc mc ms free) (vx_Post XC mc ms free) := vx_back (bytes := bytes) (maxL := maxL) (ret := ret) hM hp.1 hrc hrs hfr hlo hws hcw (fun a' U hW => word_at hW (Or.inl (by first | rfl | simp [Cond.onTables, Cond.keeps, Cond.steady])) hini)
  obtain ⟨hx, hb, hml, ho, -⟩ := S
  obtain ⟨-, ⟨cellB, hcB, hoB, hclB⟩, hPc⟩ := hp
  intro T hT X
  rcases vx_callVN X hx (C := C) (bytes := bytes) (maxL := maxL) (ret := ret) ho hl hx1 hx2 hcode hy hK (by rw [hT]; exact hcB) hoB hclB hg (hsize.trans hml.symm) (argsL := As) (rest := rest) (fun sig h => hn.trans (hlen sig h)) hstack hW (by rw [hb]; exact hdg)
    (fun vm₁ hW₁ => ⟨hf.1, hf.2, hPc (T.setVm vm₁) hT hW₁⟩) with ⟨v, vm₁, ⟨U', l2, c2, s2⟩, hW₁, X', ⟨g', mk, t, L, e1, e2, hq, h1, hL, h2, h3⟩, st⟩ | ⟨q, vm₁, ⟨U', l2, c2, s2⟩, hW₁, X', ⟨g', mk, t, L, E, ce, e1, e2, hq, hce, hcv, hcl, h1, hL, h2, h3⟩, st⟩
  · dsimp only [Pt.U, Pt.locs, Pt.cells, Pt.slots] at X' e1 e2 h1 h2 h3 st
    subst h1; subst h2; subst h3
    exact Or.inl ⟨v, (T.setVm vm₁).calling g' mk (Value.ref b :: As).toArray, t, U', L, hT, X', hL, e1, e2, hq, st⟩
  · dsimp only [Pt.U, Pt.locs, Pt.cells, Pt.slots] at X' e1 e2 h1 h2 h3 st hcl
    subst h1; subst h2; subst h3
    exact Or.inr ⟨q, (T.setVm vm₁).calling g' mk (Value.ref b :: As).toArray, t, U', L, E, ce, hT, X', hL, e1, e2, hq, hce, hcv, vx_cls hW₁ hcl, st⟩
theorem vx_runSN {y : MethodName} {bytes cc : ByteArray} {maxL nL mc ms n index : Nat} {ret : Option FieldType} {ws : List Cond} {rm : Room} {Pc : Array Value → State → Prop} {Qc : Array Value → State → Outcome → State → Prop} {XC : String → State → State → Prop} {free : Addr → Prop} {Ts : List Cond} {own host : String} {As rest : List Value} {g : JFrame}
    (S : CallFix p m c cc nL s args Ts own) (hM : vx_Met l y ws rm Pc Qc XC mc ms free) (cw : va_CN R s args own index y host bytes maxL ret ws rm mc ms n ∧ (Cond.static y).before args s = true ∧ True) (hp : PreS s H Pc As)
    (hg : g.method = m) (hn : As.length = n) (hsize : g.locals.size = nL) (hstack : g.stack = As.reverse ++ rest) (hW : 2 * g.monitorRoom + (rest.map fun v => v.category).sum ≤ 8) (hdg : decode cc g.pc = .ok (.invokestatic index, 3)) (hf : cells + mc ≤ R.cells ∧ slots + ms ≤ R.slots) :
    vx_Run p l e R s m args below meth c H locs cells slots mc ms g rest (Qc As.toArray) XC free := by
  obtain ⟨⟨⟨hrc, hrs, hfr, hlo, hws, hcw⟩, hcode, hini, hy, hlen, hl⟩, hx1, hx2⟩ := cw
  have hK : vx_Back l R p e below s args y 3 8 (PreOf R mc ms Pc) (PostOf Qc mc ms free) (vx_Post XC mc ms free) := vx_back (bytes := bytes) (maxL := maxL) (ret := ret) hM hp.1 hrc hrs hfr hlo hws hcw (fun a' U hW => word_at hW (Or.inl (by first | rfl | simp [Cond.onTables, Cond.keeps, Cond.steady])) hini)
  obtain ⟨hx, hb, hml, ho, -⟩ := S
  have hPc := hp.2
  intro T hT X
  rcases vx_callSN X hx (bytes := bytes) (maxL := maxL) (ret := ret) ho hl hx1 hini hcode hy hK hg (hsize.trans hml.symm) (argsL := As) (rest := rest) (fun sig h => hn.trans (hlen sig h)) hstack hW (by rw [hb]; exact hdg)
    (fun vm₁ hW₁ => ⟨hf.1, hf.2, hPc (T.setVm vm₁) hT hW₁⟩) with ⟨v, vm₁, ⟨U', l2, c2, s2⟩, hW₁, X', ⟨g', mk, t, L, e1, e2, hq, h1, hL, h2, h3⟩, st⟩ | ⟨q, vm₁, ⟨U', l2, c2, s2⟩, hW₁, X', ⟨g', mk, t, L, E, ce, e1, e2, hq, hce, hcv, hcl, h1, hL, h2, h3⟩, st⟩
  · dsimp only [Pt.U, Pt.locs, Pt.cells, Pt.slots] at X' e1 e2 h1 h2 h3 st
    subst h1; subst h2; subst h3
    exact Or.inl ⟨v, (T.setVm vm₁).calling g' mk As.toArray, t, U', L, hT, X', hL, e1, e2, hq, st⟩
  · dsimp only [Pt.U, Pt.locs, Pt.cells, Pt.slots] at X' e1 e2 h1 h2 h3 st hcl
    subst h1; subst h2; subst h3
    exact Or.inr ⟨q, (T.setVm vm₁).calling g' mk As.toArray, t, U', L, E, ce, hT, X', hL, e1, e2, hq, hce, hcv, vx_cls hW₁ hcl, st⟩
end
/-! ===== END ===== -/
end
section
/-! names of the classes, their fields and methods (out of claim/NAMES.whole.lean.txt) -/
def RX0 : String := "Plotwise$Best"
def TX0 : u_T := fun k => match k with
  | 0 => ("Plotwise$Best", "places", "[J", true)
  | _ => ("Plotwise$Best", "size", "I", false)
def tyX0 : Nat → FieldType := fun k => match k with
  | 0 => .array .long
  | _ => .int
abbrev wsX00 : List Cond := u_ws RX0 TX0 2
theorem nmX0 : ∀ a, a < 2 → ∀ b, b < 2 → a ≠ b → (TX0 a).2.1 ≠ (TX0 b).2.1 := by decide +kernel
theorem tyX0_ok : ∀ k, k < 2 → parseFieldDescriptor (TX0 k).2.2.1 = some (tyX0 k) := by decide +kernel
abbrev cX0_init : ByteArray := prog_2_method_1_code
def yX0_init : MethodName := ⟨RX0, "<init>", "()V"⟩
abbrev cX0_size : ByteArray := prog_2_method_2_code
def yX0_size : MethodName := ⟨RX0, "size", "()I"⟩
abbrev cX0_hasRank : ByteArray := prog_2_method_3_code
def yX0_hasRank : MethodName := ⟨RX0, "hasRank", "(I)Z"⟩
abbrev cX0_placeAt : ByteArray := prog_2_method_4_code
def yX0_placeAt : MethodName := ⟨RX0, "placeAt", "(I)J"⟩
abbrev cX0_chartAt : ByteArray := prog_2_method_5_code
def yX0_chartAt : MethodName := ⟨RX0, "chartAt", "(I)I"⟩
abbrev cX0_clear : ByteArray := prog_2_method_6_code
def yX0_clear : MethodName := ⟨RX0, "clear", "()V"⟩
abbrev cX0_isOutOfReach : ByteArray := prog_2_method_7_code
def yX0_isOutOfReach : MethodName := ⟨RX0, "isOutOfReach", "(J)Z"⟩
abbrev cX0_offer : ByteArray := prog_2_method_8_code
def yX0_offer : MethodName := ⟨RX0, "offer", "(J)V"⟩
def RX1 : String := "Plotwise$Chart"
def TX1 : u_T := fun k => match k with
  | _ => ("", "", "", false)
def tyX1 : Nat → FieldType := fun k => match k with
  | _ => .int
abbrev wsX10 : List Cond := u_ws RX1 TX1 0
theorem nmX1 : ∀ a, a < 0 → ∀ b, b < 0 → a ≠ b → (TX1 a).2.1 ≠ (TX1 b).2.1 := by decide +kernel
theorem tyX1_ok : ∀ k, k < 0 → parseFieldDescriptor (TX1 k).2.2.1 = some (tyX1 k) := by decide +kernel
abbrev cX1_bare : ByteArray := prog_3_method_2_code
def yX1_bare : MethodName := ⟨RX1, "bare", "(CI)I"⟩
abbrev cX1_markOf : ByteArray := prog_3_method_3_code
def yX1_markOf : MethodName := ⟨RX1, "markOf", "(I)C"⟩
abbrev cX1_aggregateOf : ByteArray := prog_3_method_4_code
def yX1_aggregateOf : MethodName := ⟨RX1, "aggregateOf", "(I)I"⟩
abbrev cX1_columnIn : ByteArray := prog_3_method_5_code
def yX1_columnIn : MethodName := ⟨RX1, "columnIn", "(II)I"⟩
abbrev cX1_withMark : ByteArray := prog_3_method_6_code
def yX1_withMark : MethodName := ⟨RX1, "withMark", "(IC)I"⟩
abbrev cX1_withAggregate : ByteArray := prog_3_method_7_code
def yX1_withAggregate : MethodName := ⟨RX1, "withAggregate", "(II)I"⟩
abbrev cX1_withColumn : ByteArray := prog_3_method_8_code
def yX1_withColumn : MethodName := ⟨RX1, "withColumn", "(III)I"⟩
abbrev cX1_columnSet : ByteArray := prog_3_method_9_code
def yX1_columnSet : MethodName := ⟨RX1, "columnSet", "(I)I"⟩
abbrev cX1_holds : ByteArray := prog_3_method_10_code
def yX1_holds : MethodName := ⟨RX1, "holds", "(II)Z"⟩
abbrev cX1_isPlacement : ByteArray := prog_3_method_11_code
def yX1_isPlacement : MethodName := ⟨RX1, "isPlacement", "(I)Z"⟩
def RX2 : String := "Plotwise$Costs"
def TX2 : u_T := fun k => match k with
  | 0 => ("Plotwise$Costs", "table", "LPlotwise$Table;", true)
  | _ => ("Plotwise$Costs", "weights", "[I", true)
def tyX2 : Nat → FieldType := fun k => match k with
  | 0 => .object "Plotwise$Table"
  | _ => .array .int
abbrev wsX20 : List Cond := u_ws RX2 TX2 2
theorem nmX2 : ∀ a, a < 2 → ∀ b, b < 2 → a ≠ b → (TX2 a).2.1 ≠ (TX2 b).2.1 := by decide +kernel
theorem tyX2_ok : ∀ k, k < 2 → parseFieldDescriptor (TX2 k).2.2.1 = some (tyX2 k) := by decide +kernel
abbrev cX2_init : ByteArray := prog_4_method_1_code
def yX2_init : MethodName := ⟨RX2, "<init>", "(LPlotwise$Table;)V"⟩
abbrev cX2_hasRule : ByteArray := prog_4_method_2_code
def yX2_hasRule : MethodName := ⟨RX2, "hasRule", "(I)Z"⟩
abbrev cX2_exchangeWeight : ByteArray := prog_4_method_3_code
def yX2_exchangeWeight : MethodName := ⟨RX2, "exchangeWeight", "(II)I"⟩
abbrev cX2_costOf : ByteArray := prog_4_method_4_code
def yX2_costOf : MethodName := ⟨RX2, "costOf", "(I)I"⟩
abbrev cX2_brokenSoftRules : ByteArray := prog_4_method_5_code
def yX2_brokenSoftRules : MethodName := ⟨RX2, "brokenSoftRules", "(I)I"⟩
abbrev cX2_bit : ByteArray := prog_4_method_6_code
def yX2_bit : MethodName := ⟨RX2, "bit", "(IZ)I"⟩
abbrev cX2_channelCost : ByteArray := prog_4_method_7_code
def yX2_channelCost : MethodName := ⟨RX2, "channelCost", "(II)I"⟩
def RX3 : String := "Plotwise$HardRules"
def TX3 : u_T := fun k => match k with
  | 0 => ("Plotwise$HardRules", "table", "LPlotwise$Table;", true)
  | 1 => ("Plotwise$HardRules", "wishedSet", "I", false)
  | 2 => ("Plotwise$HardRules", "wishedMark", "C", false)
  | _ => ("Plotwise$HardRules", "forbiddenSet", "I", false)
def tyX3 : Nat → FieldType := fun k => match k with
  | 0 => .object "Plotwise$Table"
  | 1 => .int
  | 2 => .char
  | _ => .int
abbrev wsX30 : List Cond := u_ws RX3 TX3 4
theorem nmX3 : ∀ a, a < 4 → ∀ b, b < 4 → a ≠ b → (TX3 a).2.1 ≠ (TX3 b).2.1 := by decide +kernel
theorem tyX3_ok : ∀ k, k < 4 → parseFieldDescriptor (TX3 k).2.2.1 = some (tyX3 k) := by decide +kernel
abbrev cX3_init : ByteArray := prog_5_method_1_code
def yX3_init : MethodName := ⟨RX3, "<init>", "(LPlotwise$Table;)V"⟩
abbrev cX3_wishColumn : ByteArray := prog_5_method_2_code
def yX3_wishColumn : MethodName := ⟨RX3, "wishColumn", "(IZ)I"⟩
abbrev cX3_exchangeWishedMark : ByteArray := prog_5_method_3_code
def yX3_exchangeWishedMark : MethodName := ⟨RX3, "exchangeWishedMark", "(C)C"⟩
abbrev cX3_isForbidden : ByteArray := prog_5_method_4_code
def yX3_isForbidden : MethodName := ⟨RX3, "isForbidden", "(II)Z"⟩
abbrev cX3_turnForbidden : ByteArray := prog_5_method_5_code
def yX3_turnForbidden : MethodName := ⟨RX3, "turnForbidden", "(II)I"⟩
abbrev cX3_allows : ByteArray := prog_5_method_6_code
def yX3_allows : MethodName := ⟨RX3, "allows", "(I)Z"⟩
abbrev cX3_firstBroken : ByteArray := prog_5_method_7_code
def yX3_firstBroken : MethodName := ⟨RX3, "firstBroken", "(I)I"⟩
abbrev cX3_hasDullColumn : ByteArray := prog_5_method_8_code
def yX3_hasDullColumn : MethodName := ⟨RX3, "hasDullColumn", "(I)Z"⟩
abbrev cX3_hasForbiddenColumn : ByteArray := prog_5_method_9_code
def yX3_hasForbiddenColumn : MethodName := ⟨RX3, "hasForbiddenColumn", "(I)Z"⟩
abbrev cX3_isAsWished : ByteArray := prog_5_method_10_code
def yX3_isAsWished : MethodName := ⟨RX3, "isAsWished", "(I)Z"⟩
def RX4 : String := "Plotwise$Picks"
def TX4 : u_T := fun k => match k with
  | 0 => ("Plotwise$Picks", "former", "[I", true)
  | 1 => ("Plotwise$Picks", "formerCount", "I", false)
  | _ => ("Plotwise$Picks", "present", "I", false)
def tyX4 : Nat → FieldType := fun k => match k with
  | 0 => .array .int
  | 1 => .int
  | _ => .int
abbrev wsX40 : List Cond := u_ws RX4 TX4 3
theorem nmX4 : ∀ a, a < 3 → ∀ b, b < 3 → a ≠ b → (TX4 a).2.1 ≠ (TX4 b).2.1 := by decide +kernel
theorem tyX4_ok : ∀ k, k < 3 → parseFieldDescriptor (TX4 k).2.2.1 = some (tyX4 k) := by decide +kernel
abbrev cX4_init : ByteArray := prog_6_method_1_code
def yX4_init : MethodName := ⟨RX4, "<init>", "()V"⟩
abbrev cX4_hasPresent : ByteArray := prog_6_method_2_code
def yX4_hasPresent : MethodName := ⟨RX4, "hasPresent", "()Z"⟩
abbrev cX4_present : ByteArray := prog_6_method_3_code
def yX4_present : MethodName := ⟨RX4, "present", "()I"⟩
abbrev cX4_formerCount : ByteArray := prog_6_method_4_code
def yX4_formerCount : MethodName := ⟨RX4, "formerCount", "()I"⟩
abbrev cX4_become : ByteArray := prog_6_method_5_code
def yX4_become : MethodName := ⟨RX4, "become", "(I)V"⟩
abbrev cX4_goBack : ByteArray := prog_6_method_6_code
def yX4_goBack : MethodName := ⟨RX4, "goBack", "()V"⟩
abbrev cX4_dropForbidden : ByteArray := prog_6_method_7_code
def yX4_dropForbidden : MethodName := ⟨RX4, "dropForbidden", "(LPlotwise$HardRules;)I"⟩
abbrev cX4_keepPresent : ByteArray := prog_6_method_8_code
def yX4_keepPresent : MethodName := ⟨RX4, "keepPresent", "()V"⟩
def RX5 : String := "Plotwise$Place"
def TX5 : u_T := fun k => match k with
  | _ => ("", "", "", false)
def tyX5 : Nat → FieldType := fun k => match k with
  | _ => .int
abbrev wsX50 : List Cond := u_ws RX5 TX5 0
theorem nmX5 : ∀ a, a < 0 → ∀ b, b < 0 → a ≠ b → (TX5 a).2.1 ≠ (TX5 b).2.1 := by decide +kernel
theorem tyX5_ok : ∀ k, k < 0 → parseFieldDescriptor (TX5 k).2.2.1 = some (tyX5 k) := by decide +kernel
abbrev cX5_of : ByteArray := prog_7_method_2_code
def yX5_of : MethodName := ⟨RX5, "of", "(II)J"⟩
abbrev cX5_costOf : ByteArray := prog_7_method_3_code
def yX5_costOf : MethodName := ⟨RX5, "costOf", "(J)I"⟩
abbrev cX5_chartOf : ByteArray := prog_7_method_4_code
def yX5_chartOf : MethodName := ⟨RX5, "chartOf", "(J)I"⟩
def RX6 : String := "Plotwise$Search"
def TX6 : u_T := fun k => match k with
  | 0 => ("Plotwise$Search", "hardRules", "LPlotwise$HardRules;", true)
  | 1 => ("Plotwise$Search", "costs", "LPlotwise$Costs;", true)
  | 2 => ("Plotwise$Search", "best", "LPlotwise$Best;", true)
  | _ => ("Plotwise$Search", "isStale", "Z", false)
def tyX6 : Nat → FieldType := fun k => match k with
  | 0 => .object "Plotwise$HardRules"
  | 1 => .object "Plotwise$Costs"
  | 2 => .object "Plotwise$Best"
  | _ => .boolean
abbrev wsX60 : List Cond := u_ws RX6 TX6 4
theorem nmX6 : ∀ a, a < 4 → ∀ b, b < 4 → a ≠ b → (TX6 a).2.1 ≠ (TX6 b).2.1 := by decide +kernel
theorem tyX6_ok : ∀ k, k < 4 → parseFieldDescriptor (TX6 k).2.2.1 = some (tyX6 k) := by decide +kernel
abbrev cX6_init : ByteArray := prog_8_method_1_code
def yX6_init : MethodName := ⟨RX6, "<init>", "(LPlotwise$HardRules;LPlotwise$Costs;)V"⟩
abbrev cX6_spoil : ByteArray := prog_8_method_2_code
def yX6_spoil : MethodName := ⟨RX6, "spoil", "()V"⟩
abbrev cX6_ranking : ByteArray := prog_8_method_3_code
def yX6_ranking : MethodName := ⟨RX6, "ranking", "()LPlotwise$Best;"⟩
abbrev cX6_searchFrom : ByteArray := prog_8_method_4_code
def yX6_searchFrom : MethodName := ⟨RX6, "searchFrom", "(I)V"⟩
abbrev cX6_offerSizes : ByteArray := prog_8_method_5_code
def yX6_offerSizes : MethodName := ⟨RX6, "offerSizes", "(I)V"⟩
abbrev cX6_isHopeless : ByteArray := prog_8_method_6_code
def yX6_isHopeless : MethodName := ⟨RX6, "isHopeless", "(I)Z"⟩
def RX7 : String := "Plotwise$Table"
def TX7 : u_T := fun k => match k with
  | 0 => ("Plotwise$Table", "values", "[I", true)
  | 1 => ("Plotwise$Table", "forcedKinds", "[I", true)
  | 2 => ("Plotwise$Table", "kinds", "[I", true)
  | 3 => ("Plotwise$Table", "counts", "[I", true)
  | 4 => ("Plotwise$Table", "differents", "[I", true)
  | 5 => ("Plotwise$Table", "sums", "[J", true)
  | 6 => ("Plotwise$Table", "gaps", "[J", true)
  | _ => ("Plotwise$Table", "rowCount", "I", false)
def tyX7 : Nat → FieldType := fun k => match k with
  | 0 => .array .int
  | 1 => .array .int
  | 2 => .array .int
  | 3 => .array .int
  | 4 => .array .int
  | 5 => .array .long
  | 6 => .array .long
  | _ => .int
abbrev wsX70 : List Cond := u_ws RX7 TX7 8
theorem nmX7 : ∀ a, a < 8 → ∀ b, b < 8 → a ≠ b → (TX7 a).2.1 ≠ (TX7 b).2.1 := by decide +kernel
theorem tyX7_ok : ∀ k, k < 8 → parseFieldDescriptor (TX7 k).2.2.1 = some (tyX7 k) := by decide +kernel
abbrev cX7_init : ByteArray := prog_9_method_1_code
def yX7_init : MethodName := ⟨RX7, "<init>", "()V"⟩
abbrev cX7_rowCount : ByteArray := prog_9_method_2_code
def yX7_rowCount : MethodName := ⟨RX7, "rowCount", "()I"⟩
abbrev cX7_hasRow : ByteArray := prog_9_method_3_code
def yX7_hasRow : MethodName := ⟨RX7, "hasRow", "(I)Z"⟩
abbrev cX7_valueAt : ByteArray := prog_9_method_4_code
def yX7_valueAt : MethodName := ⟨RX7, "valueAt", "(II)I"⟩
abbrev cX7_kindAt : ByteArray := prog_9_method_5_code
def yX7_kindAt : MethodName := ⟨RX7, "kindAt", "(I)I"⟩
abbrev cX7_forcedKindAt : ByteArray := prog_9_method_6_code
def yX7_forcedKindAt : MethodName := ⟨RX7, "forcedKindAt", "(I)I"⟩
abbrev cX7_countIn : ByteArray := prog_9_method_7_code
def yX7_countIn : MethodName := ⟨RX7, "countIn", "(I)I"⟩
abbrev cX7_differentIn : ByteArray := prog_9_method_8_code
def yX7_differentIn : MethodName := ⟨RX7, "differentIn", "(I)I"⟩
abbrev cX7_sumIn : ByteArray := prog_9_method_9_code
def yX7_sumIn : MethodName := ⟨RX7, "sumIn", "(I)J"⟩
abbrev cX7_gapsIn : ByteArray := prog_9_method_10_code
def yX7_gapsIn : MethodName := ⟨RX7, "gapsIn", "(I)J"⟩
abbrev cX7_isDullKind : ByteArray := prog_9_method_11_code
def yX7_isDullKind : MethodName := ⟨RX7, "isDullKind", "(I)Z"⟩
abbrev cX7_usableColumns : ByteArray := prog_9_method_12_code
def yX7_usableColumns : MethodName := ⟨RX7, "usableColumns", "()I"⟩
abbrev cX7_append : ByteArray := prog_9_method_13_code
def yX7_append : MethodName := ⟨RX7, "append", "(IIIIII)V"⟩
abbrev cX7_remove : ByteArray := prog_9_method_14_code
def yX7_remove : MethodName := ⟨RX7, "remove", "(I)V"⟩
abbrev cX7_change : ByteArray := prog_9_method_15_code
def yX7_change : MethodName := ⟨RX7, "change", "(III)V"⟩
abbrev cX7_setForcedKind : ByteArray := prog_9_method_16_code
def yX7_setForcedKind : MethodName := ⟨RX7, "setForcedKind", "(II)V"⟩
abbrev cX7_store : ByteArray := prog_9_method_17_code
def yX7_store : MethodName := ⟨RX7, "store", "(III)V"⟩
abbrev cX7_studyAll : ByteArray := prog_9_method_18_code
def yX7_studyAll : MethodName := ⟨RX7, "studyAll", "()V"⟩
abbrev cX7_study : ByteArray := prog_9_method_19_code
def yX7_study : MethodName := ⟨RX7, "study", "(I)V"⟩
abbrev cX7_isNewAt : ByteArray := prog_9_method_20_code
def yX7_isNewAt : MethodName := ⟨RX7, "isNewAt", "(II)Z"⟩
abbrev cX7_kindFrom : ByteArray := prog_9_method_21_code
def yX7_kindFrom : MethodName := ⟨RX7, "kindFrom", "(IIIZ)I"⟩
def RX8 : String := "Plotwise$Trial"
def TX8 : u_T := fun k => match k with
  | 0 => ("Plotwise$Trial", "hardRules", "LPlotwise$HardRules;", true)
  | 1 => ("Plotwise$Trial", "costs", "LPlotwise$Costs;", true)
  | 2 => ("Plotwise$Trial", "best", "LPlotwise$Best;", true)
  | 3 => ("Plotwise$Trial", "placements", "[I", true)
  | 4 => ("Plotwise$Trial", "allowedCount", "I", false)
  | _ => ("Plotwise$Trial", "betterCount", "I", false)
def tyX8 : Nat → FieldType := fun k => match k with
  | 0 => .object "Plotwise$HardRules"
  | 1 => .object "Plotwise$Costs"
  | 2 => .object "Plotwise$Best"
  | 3 => .array .int
  | 4 => .int
  | _ => .int
abbrev wsX80 : List Cond := u_ws RX8 TX8 6
theorem nmX8 : ∀ a, a < 6 → ∀ b, b < 6 → a ≠ b → (TX8 a).2.1 ≠ (TX8 b).2.1 := by decide +kernel
theorem tyX8_ok : ∀ k, k < 6 → parseFieldDescriptor (TX8 k).2.2.1 = some (tyX8 k) := by decide +kernel
abbrev cX8_init : ByteArray := prog_10_method_1_code
def yX8_init : MethodName := ⟨RX8, "<init>", "(LPlotwise$HardRules;LPlotwise$Costs;)V"⟩
abbrev cX8_ranking : ByteArray := prog_10_method_2_code
def yX8_ranking : MethodName := ⟨RX8, "ranking", "()LPlotwise$Best;"⟩
abbrev cX8_allowedCount : ByteArray := prog_10_method_3_code
def yX8_allowedCount : MethodName := ⟨RX8, "allowedCount", "()I"⟩
abbrev cX8_countBetterThan : ByteArray := prog_10_method_4_code
def yX8_countBetterThan : MethodName := ⟨RX8, "countBetterThan", "(I)I"⟩
abbrev cX8_run : ByteArray := prog_10_method_5_code
def yX8_run : MethodName := ⟨RX8, "run", "()V"⟩
abbrev cX8_tryAll : ByteArray := prog_10_method_6_code
def yX8_tryAll : MethodName := ⟨RX8, "tryAll", "(J)V"⟩
abbrev cX8_tryPlacement : ByteArray := prog_10_method_7_code
def yX8_tryPlacement : MethodName := ⟨RX8, "tryPlacement", "(IJ)V"⟩
abbrev cX8_listPlacements : ByteArray := prog_10_method_8_code
def yX8_listPlacements : MethodName := ⟨RX8, "listPlacements", "()[I"⟩
def RX9 : String := "Plotwise"
def TX9 : u_T := fun k => match k with
  | 0 => ("Plotwise", "table", "LPlotwise$Table;", true)
  | 1 => ("Plotwise", "hardRules", "LPlotwise$HardRules;", true)
  | 2 => ("Plotwise", "costs", "LPlotwise$Costs;", true)
  | 3 => ("Plotwise", "search", "LPlotwise$Search;", true)
  | 4 => ("Plotwise", "trial", "LPlotwise$Trial;", true)
  | 5 => ("Plotwise", "picks", "LPlotwise$Picks;", true)
  | 6 => ("Plotwise", "margin", "I", false)
  | _ => ("Plotwise", "draft", "I", false)
def tyX9 : Nat → FieldType := fun k => match k with
  | 0 => .object "Plotwise$Table"
  | 1 => .object "Plotwise$HardRules"
  | 2 => .object "Plotwise$Costs"
  | 3 => .object "Plotwise$Search"
  | 4 => .object "Plotwise$Trial"
  | 5 => .object "Plotwise$Picks"
  | 6 => .int
  | _ => .int
abbrev wsX90 : List Cond := u_ws RX9 TX9 8
theorem nmX9 : ∀ a, a < 8 → ∀ b, b < 8 → a ≠ b → (TX9 a).2.1 ≠ (TX9 b).2.1 := by decide +kernel
theorem tyX9_ok : ∀ k, k < 8 → parseFieldDescriptor (TX9 k).2.2.1 = some (tyX9 k) := by decide +kernel
abbrev cX9_init : ByteArray := prog_1_method_1_code
def yX9_init : MethodName := ⟨RX9, "<init>", "()V"⟩
abbrev cX9_addRow : ByteArray := prog_1_method_2_code
def yX9_addRow : MethodName := ⟨RX9, "addRow", "(IIIIII)I"⟩
abbrev cX9_dropRow : ByteArray := prog_1_method_3_code
def yX9_dropRow : MethodName := ⟨RX9, "dropRow", "(I)I"⟩
abbrev cX9_put : ByteArray := prog_1_method_4_code
def yX9_put : MethodName := ⟨RX9, "put", "(III)I"⟩
abbrev cX9_rows : ByteArray := prog_1_method_5_code
def yX9_rows : MethodName := ⟨RX9, "rows", "()I"⟩
abbrev cX9_different : ByteArray := prog_1_method_6_code
def yX9_different : MethodName := ⟨RX9, "different", "(I)I"⟩
abbrev cX9_sumOf : ByteArray := prog_1_method_7_code
def yX9_sumOf : MethodName := ⟨RX9, "sumOf", "(I)J"⟩
abbrev cX9_meanOf : ByteArray := prog_1_method_8_code
def yX9_meanOf : MethodName := ⟨RX9, "meanOf", "(I)D"⟩
abbrev cX9_filled : ByteArray := prog_1_method_9_code
def yX9_filled : MethodName := ⟨RX9, "filled", "(I)F"⟩
abbrev cX9_kindOf : ByteArray := prog_1_method_10_code
def yX9_kindOf : MethodName := ⟨RX9, "kindOf", "(I)I"⟩
abbrev cX9_force : ByteArray := prog_1_method_11_code
def yX9_force : MethodName := ⟨RX9, "force", "(II)I"⟩
abbrev cX9_unforce : ByteArray := prog_1_method_12_code
def yX9_unforce : MethodName := ⟨RX9, "unforce", "(I)I"⟩
abbrev cX9_wish : ByteArray := prog_1_method_13_code
def yX9_wish : MethodName := ⟨RX9, "wish", "(IZ)I"⟩
abbrev cX9_wishMark : ByteArray := prog_1_method_14_code
def yX9_wishMark : MethodName := ⟨RX9, "wishMark", "(C)C"⟩
abbrev cX9_forbid : ByteArray := prog_1_method_15_code
def yX9_forbid : MethodName := ⟨RX9, "forbid", "(II)I"⟩
abbrev cX9_allow : ByteArray := prog_1_method_16_code
def yX9_allow : MethodName := ⟨RX9, "allow", "(II)I"⟩
abbrev cX9_setWeight : ByteArray := prog_1_method_17_code
def yX9_setWeight : MethodName := ⟨RX9, "setWeight", "(II)I"⟩
abbrev cX9_allowed : ByteArray := prog_1_method_18_code
def yX9_allowed : MethodName := ⟨RX9, "allowed", "()I"⟩
abbrev cX9_cost : ByteArray := prog_1_method_19_code
def yX9_cost : MethodName := ⟨RX9, "cost", "(I)I"⟩
abbrev cX9_costByTrying : ByteArray := prog_1_method_20_code
def yX9_costByTrying : MethodName := ⟨RX9, "costByTrying", "(I)I"⟩
abbrev cX9_mark : ByteArray := prog_1_method_21_code
def yX9_mark : MethodName := ⟨RX9, "mark", "(I)C"⟩
abbrev cX9_aggregate : ByteArray := prog_1_method_22_code
def yX9_aggregate : MethodName := ⟨RX9, "aggregate", "(I)I"⟩
abbrev cX9_column : ByteArray := prog_1_method_23_code
def yX9_column : MethodName := ⟨RX9, "column", "(II)I"⟩
abbrev cX9_setMargin : ByteArray := prog_1_method_24_code
def yX9_setMargin : MethodName := ⟨RX9, "setMargin", "(I)I"⟩
abbrev cX9_pick : ByteArray := prog_1_method_25_code
def yX9_pick : MethodName := ⟨RX9, "pick", "()Z"⟩
abbrev cX9_pickMark : ByteArray := prog_1_method_26_code
def yX9_pickMark : MethodName := ⟨RX9, "pickMark", "()C"⟩
abbrev cX9_pickAggregate : ByteArray := prog_1_method_27_code
def yX9_pickAggregate : MethodName := ⟨RX9, "pickAggregate", "()I"⟩
abbrev cX9_pickColumn : ByteArray := prog_1_method_28_code
def yX9_pickColumn : MethodName := ⟨RX9, "pickColumn", "(I)I"⟩
abbrev cX9_formerPicks : ByteArray := prog_1_method_29_code
def yX9_formerPicks : MethodName := ⟨RX9, "formerPicks", "()I"⟩
abbrev cX9_unpick : ByteArray := prog_1_method_30_code
def yX9_unpick : MethodName := ⟨RX9, "unpick", "()I"⟩
abbrev cX9_forget : ByteArray := prog_1_method_31_code
def yX9_forget : MethodName := ⟨RX9, "forget", "()I"⟩
abbrev cX9_draftMark : ByteArray := prog_1_method_32_code
def yX9_draftMark : MethodName := ⟨RX9, "draftMark", "(C)C"⟩
abbrev cX9_draftAggregate : ByteArray := prog_1_method_33_code
def yX9_draftAggregate : MethodName := ⟨RX9, "draftAggregate", "(I)I"⟩
abbrev cX9_draftColumn : ByteArray := prog_1_method_34_code
def yX9_draftColumn : MethodName := ⟨RX9, "draftColumn", "(II)I"⟩
abbrev cX9_brokenRule : ByteArray := prog_1_method_35_code
def yX9_brokenRule : MethodName := ⟨RX9, "brokenRule", "()I"⟩
abbrev cX9_softRules : ByteArray := prog_1_method_36_code
def yX9_softRules : MethodName := ⟨RX9, "softRules", "()I"⟩
abbrev cX9_draftCost : ByteArray := prog_1_method_37_code
def yX9_draftCost : MethodName := ⟨RX9, "draftCost", "()I"⟩
abbrev cX9_draftRank : ByteArray := prog_1_method_38_code
def yX9_draftRank : MethodName := ⟨RX9, "draftRank", "()I"⟩
abbrev cX9_isSound : ByteArray := prog_1_method_39_code
def yX9_isSound : MethodName := ⟨RX9, "isSound", "()Z"⟩
abbrev cX9_isValue : ByteArray := prog_1_method_40_code
def yX9_isValue : MethodName := ⟨RX9, "isValue", "(I)Z"⟩
abbrev cX9_isColumn : ByteArray := prog_1_method_41_code
def yX9_isColumn : MethodName := ⟨RX9, "isColumn", "(I)Z"⟩
abbrev cX9_isChannel : ByteArray := prog_1_method_42_code
def yX9_isChannel : MethodName := ⟨RX9, "isChannel", "(I)Z"⟩
abbrev cX9_isMark : ByteArray := prog_1_method_43_code
def yX9_isMark : MethodName := ⟨RX9, "isMark", "(C)Z"⟩
abbrev cX9_requireColumn : ByteArray := prog_1_method_44_code
def yX9_requireColumn : MethodName := ⟨RX9, "requireColumn", "(I)V"⟩
abbrev cX9_requireChannel : ByteArray := prog_1_method_45_code
def yX9_requireChannel : MethodName := ⟨RX9, "requireChannel", "(I)V"⟩
abbrev cX9_requirePair : ByteArray := prog_1_method_46_code
def yX9_requirePair : MethodName := ⟨RX9, "requirePair", "(II)V"⟩
abbrev cX9_requireRank : ByteArray := prog_1_method_47_code
def yX9_requireRank : MethodName := ⟨RX9, "requireRank", "(LPlotwise$Best;I)V"⟩
abbrev cX9_requirePick : ByteArray := prog_1_method_48_code
def yX9_requirePick : MethodName := ⟨RX9, "requirePick", "()V"⟩
abbrev cX9_requireAllowedDraft : ByteArray := prog_1_method_49_code
def yX9_requireAllowedDraft : MethodName := ⟨RX9, "requireAllowedDraft", "()V"⟩
abbrev cX9_isGoodEnough : ByteArray := prog_1_method_50_code
def yX9_isGoodEnough : MethodName := ⟨RX9, "isGoodEnough", "(ILPlotwise$Best;)Z"⟩
abbrev cX9_isRankingAllowed : ByteArray := prog_1_method_51_code
def yX9_isRankingAllowed : MethodName := ⟨RX9, "isRankingAllowed", "(LPlotwise$Best;)Z"⟩
abbrev cX9_isRankingInOrder : ByteArray := prog_1_method_52_code
def yX9_isRankingInOrder : MethodName := ⟨RX9, "isRankingInOrder", "(LPlotwise$Best;)Z"⟩
abbrev cX9_isFirstConfirmed : ByteArray := prog_1_method_53_code
def yX9_isFirstConfirmed : MethodName := ⟨RX9, "isFirstConfirmed", "(LPlotwise$Best;LPlotwise$Best;)Z"⟩
def RX10 : String := "PlotwiseModel"
def TX10 : u_T := fun k => match k with
  | 0 => ("PlotwiseModel", "value", "[I", true)
  | 1 => ("PlotwiseModel", "forced", "[I", true)
  | 2 => ("PlotwiseModel", "weight", "[I", true)
  | 3 => ("PlotwiseModel", "kind", "[I", true)
  | 4 => ("PlotwiseModel", "kinds", "[I", true)
  | 5 => ("PlotwiseModel", "isWished", "[Z", true)
  | 6 => ("PlotwiseModel", "isForbidden", "[Z", true)
  | 7 => ("PlotwiseModel", "chart", "[I", true)
  | 8 => ("PlotwiseModel", "draft", "[I", true)
  | 9 => ("PlotwiseModel", "pick", "[I", true)
  | 10 => ("PlotwiseModel", "rank", "[I", true)
  | 11 => ("PlotwiseModel", "rankCost", "[I", true)
  | 12 => ("PlotwiseModel", "former", "[I", true)
  | 13 => ("PlotwiseModel", "rows", "I", false)
  | 14 => ("PlotwiseModel", "formers", "I", false)
  | 15 => ("PlotwiseModel", "ranks", "I", false)
  | 16 => ("PlotwiseModel", "margin", "I", false)
  | 17 => ("PlotwiseModel", "allowed", "I", false)
  | 18 => ("PlotwiseModel", "ahead", "I", false)
  | 19 => ("PlotwiseModel", "thrown", "I", false)
  | 20 => ("PlotwiseModel", "wished", "C", false)
  | 21 => ("PlotwiseModel", "hasPick", "Z", false)
  | _ => ("PlotwiseModel", "isMade", "Z", false)
def tyX10 : Nat → FieldType := fun k => match k with
  | 0 => .array .int
  | 1 => .array .int
  | 2 => .array .int
  | 3 => .array .int
  | 4 => .array .int
  | 5 => .array .boolean
  | 6 => .array .boolean
  | 7 => .array .int
  | 8 => .array .int
  | 9 => .array .int
  | 10 => .array .int
  | 11 => .array .int
  | 12 => .array .int
  | 13 => .int
  | 14 => .int
  | 15 => .int
  | 16 => .int
  | 17 => .int
  | 18 => .int
  | 19 => .int
  | 20 => .char
  | 21 => .boolean
  | _ => .boolean
abbrev wsX100 : List Cond := u_ws RX10 TX10 23
theorem nmX10 : ∀ a, a < 23 → ∀ b, b < 23 → a ≠ b → (TX10 a).2.1 ≠ (TX10 b).2.1 := by decide +kernel
theorem tyX10_ok : ∀ k, k < 23 → parseFieldDescriptor (TX10 k).2.2.1 = some (tyX10 k) := by decide +kernel
abbrev cX10_init : ByteArray := prog_12_method_1_code
def yX10_init : MethodName := ⟨RX10, "<init>", "()V"⟩
abbrev cX10_thrown : ByteArray := prog_12_method_2_code
def yX10_thrown : MethodName := ⟨RX10, "thrown", "()I"⟩
abbrev cX10_isIn : ByteArray := prog_12_method_3_code
def yX10_isIn : MethodName := ⟨RX10, "isIn", "(III)Z"⟩
abbrev cX10_isThrown : ByteArray := prog_12_method_4_code
def yX10_isThrown : MethodName := ⟨RX10, "isThrown", "(ZI)Z"⟩
abbrev cX10_isNoColumn : ByteArray := prog_12_method_5_code
def yX10_isNoColumn : MethodName := ⟨RX10, "isNoColumn", "(I)Z"⟩
abbrev cX10_isValue : ByteArray := prog_12_method_6_code
def yX10_isValue : MethodName := ⟨RX10, "isValue", "(I)Z"⟩
abbrev cX10_addRow : ByteArray := prog_12_method_7_code
def yX10_addRow : MethodName := ⟨RX10, "addRow", "(IIIIII)I"⟩
abbrev cX10_dropRow : ByteArray := prog_12_method_8_code
def yX10_dropRow : MethodName := ⟨RX10, "dropRow", "(I)I"⟩
abbrev cX10_put : ByteArray := prog_12_method_9_code
def yX10_put : MethodName := ⟨RX10, "put", "(III)I"⟩
abbrev cX10_rows : ByteArray := prog_12_method_10_code
def yX10_rows : MethodName := ⟨RX10, "rows", "()I"⟩
abbrev cX10_at : ByteArray := prog_12_method_11_code
def yX10_at : MethodName := ⟨RX10, "at", "(II)I"⟩
abbrev cX10_many : ByteArray := prog_12_method_12_code
def yX10_many : MethodName := ⟨RX10, "many", "(I)I"⟩
abbrev cX10_unlike : ByteArray := prog_12_method_13_code
def yX10_unlike : MethodName := ⟨RX10, "unlike", "(I)I"⟩
abbrev cX10_different : ByteArray := prog_12_method_14_code
def yX10_different : MethodName := ⟨RX10, "different", "(I)I"⟩
abbrev cX10_sum : ByteArray := prog_12_method_15_code
def yX10_sum : MethodName := ⟨RX10, "sum", "(I)J"⟩
abbrev cX10_sumOf : ByteArray := prog_12_method_16_code
def yX10_sumOf : MethodName := ⟨RX10, "sumOf", "(I)J"⟩
abbrev cX10_meanOf : ByteArray := prog_12_method_17_code
def yX10_meanOf : MethodName := ⟨RX10, "meanOf", "(I)D"⟩
abbrev cX10_filled : ByteArray := prog_12_method_18_code
def yX10_filled : MethodName := ⟨RX10, "filled", "(I)F"⟩
abbrev cX10_rises : ByteArray := prog_12_method_19_code
def yX10_rises : MethodName := ⟨RX10, "rises", "(I)Z"⟩
abbrev cX10_kindBy : ByteArray := prog_12_method_20_code
def yX10_kindBy : MethodName := ⟨RX10, "kindBy", "(I)I"⟩
abbrev cX10_kindOf : ByteArray := prog_12_method_21_code
def yX10_kindOf : MethodName := ⟨RX10, "kindOf", "(I)I"⟩
abbrev cX10_force : ByteArray := prog_12_method_22_code
def yX10_force : MethodName := ⟨RX10, "force", "(II)I"⟩
abbrev cX10_unforce : ByteArray := prog_12_method_23_code
def yX10_unforce : MethodName := ⟨RX10, "unforce", "(I)I"⟩
abbrev cX10_wish : ByteArray := prog_12_method_24_code
def yX10_wish : MethodName := ⟨RX10, "wish", "(IZ)I"⟩
abbrev cX10_isMark : ByteArray := prog_12_method_25_code
def yX10_isMark : MethodName := ⟨RX10, "isMark", "(C)Z"⟩
abbrev cX10_wishMark : ByteArray := prog_12_method_26_code
def yX10_wishMark : MethodName := ⟨RX10, "wishMark", "(C)C"⟩
abbrev cX10_forbids : ByteArray := prog_12_method_27_code
def yX10_forbids : MethodName := ⟨RX10, "forbids", "(IIZ)I"⟩
abbrev cX10_forbid : ByteArray := prog_12_method_28_code
def yX10_forbid : MethodName := ⟨RX10, "forbid", "(II)I"⟩
abbrev cX10_allow : ByteArray := prog_12_method_29_code
def yX10_allow : MethodName := ⟨RX10, "allow", "(II)I"⟩
abbrev cX10_setWeight : ByteArray := prog_12_method_30_code
def yX10_setWeight : MethodName := ⟨RX10, "setWeight", "(II)I"⟩
abbrev cX10_kinds : ByteArray := prog_12_method_31_code
def yX10_kinds : MethodName := ⟨RX10, "kinds", "()V"⟩
abbrev cX10_of : ByteArray := prog_12_method_32_code
def yX10_of : MethodName := ⟨RX10, "of", "([II)I"⟩
abbrev cX10_hasWishes : ByteArray := prog_12_method_33_code
def yX10_hasWishes : MethodName := ⟨RX10, "hasWishes", "([I)Z"⟩
abbrev cX10_broken : ByteArray := prog_12_method_34_code
def yX10_broken : MethodName := ⟨RX10, "broken", "([I)I"⟩
abbrev cX10_soft : ByteArray := prog_12_method_35_code
def yX10_soft : MethodName := ⟨RX10, "soft", "([I)I"⟩
abbrev cX10_gaps : ByteArray := prog_12_method_36_code
def yX10_gaps : MethodName := ⟨RX10, "gaps", "([I)I"⟩
abbrev cX10_costOf : ByteArray := prog_12_method_37_code
def yX10_costOf : MethodName := ⟨RX10, "costOf", "([I)I"⟩
abbrev cX10_lays : ByteArray := prog_12_method_38_code
def yX10_lays : MethodName := ⟨RX10, "lays", "()V"⟩
abbrev cX10_isLike : ByteArray := prog_12_method_39_code
def yX10_isLike : MethodName := ⟨RX10, "isLike", "([I[I)Z"⟩
abbrev cX10_makes : ByteArray := prog_12_method_40_code
def yX10_makes : MethodName := ⟨RX10, "makes", "()V"⟩
abbrev cX10_isDistinct : ByteArray := prog_12_method_41_code
def yX10_isDistinct : MethodName := ⟨RX10, "isDistinct", "()Z"⟩
abbrev cX10_allowed : ByteArray := prog_12_method_42_code
def yX10_allowed : MethodName := ⟨RX10, "allowed", "()I"⟩
abbrev cX10_isNoRank : ByteArray := prog_12_method_43_code
def yX10_isNoRank : MethodName := ⟨RX10, "isNoRank", "(II)Z"⟩
abbrev cX10_cost : ByteArray := prog_12_method_44_code
def yX10_cost : MethodName := ⟨RX10, "cost", "(I)I"⟩
abbrev cX10_costByTrying : ByteArray := prog_12_method_45_code
def yX10_costByTrying : MethodName := ⟨RX10, "costByTrying", "(I)I"⟩
abbrev cX10_named : ByteArray := prog_12_method_46_code
def yX10_named : MethodName := ⟨RX10, "named", "(I)C"⟩
abbrev cX10_mark : ByteArray := prog_12_method_47_code
def yX10_mark : MethodName := ⟨RX10, "mark", "(I)C"⟩
abbrev cX10_aggregate : ByteArray := prog_12_method_48_code
def yX10_aggregate : MethodName := ⟨RX10, "aggregate", "(I)I"⟩
abbrev cX10_isNoChannel : ByteArray := prog_12_method_49_code
def yX10_isNoChannel : MethodName := ⟨RX10, "isNoChannel", "(II)Z"⟩
abbrev cX10_column : ByteArray := prog_12_method_50_code
def yX10_column : MethodName := ⟨RX10, "column", "(II)I"⟩
abbrev cX10_setMargin : ByteArray := prog_12_method_51_code
def yX10_setMargin : MethodName := ⟨RX10, "setMargin", "(I)I"⟩
abbrev cX10_pick : ByteArray := prog_12_method_52_code
def yX10_pick : MethodName := ⟨RX10, "pick", "()Z"⟩
abbrev cX10_pickMark : ByteArray := prog_12_method_53_code
def yX10_pickMark : MethodName := ⟨RX10, "pickMark", "()C"⟩
abbrev cX10_pickAggregate : ByteArray := prog_12_method_54_code
def yX10_pickAggregate : MethodName := ⟨RX10, "pickAggregate", "()I"⟩
abbrev cX10_pickColumn : ByteArray := prog_12_method_55_code
def yX10_pickColumn : MethodName := ⟨RX10, "pickColumn", "(I)I"⟩
abbrev cX10_formerPicks : ByteArray := prog_12_method_56_code
def yX10_formerPicks : MethodName := ⟨RX10, "formerPicks", "()I"⟩
abbrev cX10_drops : ByteArray := prog_12_method_57_code
def yX10_drops : MethodName := ⟨RX10, "drops", "(I)V"⟩
abbrev cX10_unpick : ByteArray := prog_12_method_58_code
def yX10_unpick : MethodName := ⟨RX10, "unpick", "()I"⟩
abbrev cX10_forget : ByteArray := prog_12_method_59_code
def yX10_forget : MethodName := ⟨RX10, "forget", "()I"⟩
abbrev cX10_draftMark : ByteArray := prog_12_method_60_code
def yX10_draftMark : MethodName := ⟨RX10, "draftMark", "(C)C"⟩
abbrev cX10_draftAggregate : ByteArray := prog_12_method_61_code
def yX10_draftAggregate : MethodName := ⟨RX10, "draftAggregate", "(I)I"⟩
abbrev cX10_draftColumn : ByteArray := prog_12_method_62_code
def yX10_draftColumn : MethodName := ⟨RX10, "draftColumn", "(II)I"⟩
abbrev cX10_brokenRule : ByteArray := prog_12_method_63_code
def yX10_brokenRule : MethodName := ⟨RX10, "brokenRule", "()I"⟩
abbrev cX10_softRules : ByteArray := prog_12_method_64_code
def yX10_softRules : MethodName := ⟨RX10, "softRules", "()I"⟩
abbrev cX10_draftCost : ByteArray := prog_12_method_65_code
def yX10_draftCost : MethodName := ⟨RX10, "draftCost", "()I"⟩
abbrev cX10_draftRank : ByteArray := prog_12_method_66_code
def yX10_draftRank : MethodName := ⟨RX10, "draftRank", "()I"⟩
abbrev cX10_isSound : ByteArray := prog_12_method_67_code
def yX10_isSound : MethodName := ⟨RX10, "isSound", "()Z"⟩
def RJ6 : String := "java/lang/Integer"
abbrev cJ6_bitCount_0f7a4 : ByteArray := prog_21_method_49_code
def yJ6_bitCount_0f7a4 : MethodName := ⟨RJ6, "bitCount", "(I)I"⟩
def RJ13 : String := "java/lang/Long"
abbrev cJ13_bitCount_95d88 : ByteArray := prog_22_method_50_code
def yJ13_bitCount_95d88 : MethodName := ⟨RJ13, "bitCount", "(J)I"⟩
def RL : String := "PlotwiseLaw"
abbrev cL_addRow : ByteArray := method_3_code
def yL_addRow : MethodName := ⟨RL, "addRow", "(LPlotwise;IIIIII[J)I"⟩
abbrev cL_dropRow : ByteArray := method_4_code
def yL_dropRow : MethodName := ⟨RL, "dropRow", "(LPlotwise;I[J)I"⟩
abbrev cL_put : ByteArray := method_5_code
def yL_put : MethodName := ⟨RL, "put", "(LPlotwise;III[J)I"⟩
abbrev cL_different : ByteArray := method_6_code
def yL_different : MethodName := ⟨RL, "different", "(LPlotwise;I[J)I"⟩
abbrev cL_sumOf : ByteArray := method_7_code
def yL_sumOf : MethodName := ⟨RL, "sumOf", "(LPlotwise;I[J)I"⟩
abbrev cL_meanOf : ByteArray := method_8_code
def yL_meanOf : MethodName := ⟨RL, "meanOf", "(LPlotwise;I[D)I"⟩
abbrev cL_filled : ByteArray := method_9_code
def yL_filled : MethodName := ⟨RL, "filled", "(LPlotwise;I[D)I"⟩
abbrev cL_kindOf : ByteArray := method_10_code
def yL_kindOf : MethodName := ⟨RL, "kindOf", "(LPlotwise;I[J)I"⟩
abbrev cL_force : ByteArray := method_11_code
def yL_force : MethodName := ⟨RL, "force", "(LPlotwise;II[J)I"⟩
abbrev cL_unforce : ByteArray := method_12_code
def yL_unforce : MethodName := ⟨RL, "unforce", "(LPlotwise;I[J)I"⟩
abbrev cL_wish : ByteArray := method_13_code
def yL_wish : MethodName := ⟨RL, "wish", "(LPlotwise;IZ[J)I"⟩
abbrev cL_wishMark : ByteArray := method_14_code
def yL_wishMark : MethodName := ⟨RL, "wishMark", "(LPlotwise;C[J)I"⟩
abbrev cL_forbid : ByteArray := method_15_code
def yL_forbid : MethodName := ⟨RL, "forbid", "(LPlotwise;II[J)I"⟩
abbrev cL_allow : ByteArray := method_16_code
def yL_allow : MethodName := ⟨RL, "allow", "(LPlotwise;II[J)I"⟩
abbrev cL_setWeight : ByteArray := method_17_code
def yL_setWeight : MethodName := ⟨RL, "setWeight", "(LPlotwise;II[J)I"⟩
abbrev cL_cost : ByteArray := method_18_code
def yL_cost : MethodName := ⟨RL, "cost", "(LPlotwise;I[J)I"⟩
abbrev cL_costByTrying : ByteArray := method_19_code
def yL_costByTrying : MethodName := ⟨RL, "costByTrying", "(LPlotwise;I[J)I"⟩
abbrev cL_mark : ByteArray := method_20_code
def yL_mark : MethodName := ⟨RL, "mark", "(LPlotwise;I[J)I"⟩
abbrev cL_aggregate : ByteArray := method_21_code
def yL_aggregate : MethodName := ⟨RL, "aggregate", "(LPlotwise;I[J)I"⟩
abbrev cL_column : ByteArray := method_22_code
def yL_column : MethodName := ⟨RL, "column", "(LPlotwise;II[J)I"⟩
abbrev cL_setMargin : ByteArray := method_23_code
def yL_setMargin : MethodName := ⟨RL, "setMargin", "(LPlotwise;I[J)I"⟩
abbrev cL_pick : ByteArray := method_24_code
def yL_pick : MethodName := ⟨RL, "pick", "(LPlotwise;[J)I"⟩
abbrev cL_pickMark : ByteArray := method_25_code
def yL_pickMark : MethodName := ⟨RL, "pickMark", "(LPlotwise;[J)I"⟩
abbrev cL_pickAggregate : ByteArray := method_26_code
def yL_pickAggregate : MethodName := ⟨RL, "pickAggregate", "(LPlotwise;[J)I"⟩
abbrev cL_pickColumn : ByteArray := method_27_code
def yL_pickColumn : MethodName := ⟨RL, "pickColumn", "(LPlotwise;I[J)I"⟩
abbrev cL_unpick : ByteArray := method_28_code
def yL_unpick : MethodName := ⟨RL, "unpick", "(LPlotwise;[J)I"⟩
abbrev cL_draftMark : ByteArray := method_29_code
def yL_draftMark : MethodName := ⟨RL, "draftMark", "(LPlotwise;C[J)I"⟩
abbrev cL_draftAggregate : ByteArray := method_30_code
def yL_draftAggregate : MethodName := ⟨RL, "draftAggregate", "(LPlotwise;I[J)I"⟩
abbrev cL_draftColumn : ByteArray := method_31_code
def yL_draftColumn : MethodName := ⟨RL, "draftColumn", "(LPlotwise;II[J)I"⟩
abbrev cL_draftCost : ByteArray := method_32_code
def yL_draftCost : MethodName := ⟨RL, "draftCost", "(LPlotwise;[J)I"⟩
abbrev cL_draftRank : ByteArray := method_33_code
def yL_draftRank : MethodName := ⟨RL, "draftRank", "(LPlotwise;[J)I"⟩
abbrev cL_law : ByteArray := code
def yL_law : MethodName := ⟨RL, "law", "([I)Z"⟩
end
section
/-! the methods by numbers -/
def mYl : List MethodName := [yX0_init, yX0_size, yX0_hasRank, yX0_placeAt, yX0_chartAt, yX0_clear, yX0_isOutOfReach, yX0_offer, yX1_bare, yX1_markOf, yX1_aggregateOf, yX1_columnIn, yX1_withMark, yX1_withAggregate, yX1_withColumn, yX1_columnSet, yX1_holds, yX1_isPlacement, yX2_init, yX2_hasRule, yX2_exchangeWeight, yX2_costOf, yX2_brokenSoftRules, yX2_bit, yX2_channelCost, yX3_init, yX3_wishColumn, yX3_exchangeWishedMark, yX3_isForbidden, yX3_turnForbidden, yX3_allows, yX3_firstBroken, yX3_hasDullColumn, yX3_hasForbiddenColumn, yX3_isAsWished, yX4_init, yX4_hasPresent, yX4_present, yX4_formerCount, yX4_become, yX4_goBack, yX4_dropForbidden, yX4_keepPresent, yX5_of, yX5_costOf, yX5_chartOf, yX6_init, yX6_spoil, yX6_ranking, yX6_searchFrom, yX6_offerSizes, yX6_isHopeless, yX7_init, yX7_rowCount, yX7_hasRow, yX7_valueAt, yX7_kindAt, yX7_forcedKindAt, yX7_countIn, yX7_differentIn, yX7_sumIn, yX7_gapsIn, yX7_isDullKind, yX7_usableColumns, yX7_append, yX7_remove, yX7_change, yX7_setForcedKind, yX7_store, yX7_studyAll, yX7_study, yX7_isNewAt, yX7_kindFrom, yX8_init, yX8_ranking, yX8_allowedCount, yX8_countBetterThan, yX8_run, yX8_tryAll, yX8_tryPlacement, yX8_listPlacements, yX9_init, yX9_addRow, yX9_dropRow, yX9_put, yX9_rows, yX9_different, yX9_sumOf, yX9_meanOf, yX9_filled, yX9_kindOf, yX9_force, yX9_unforce, yX9_wish, yX9_wishMark, yX9_forbid, yX9_allow, yX9_setWeight, yX9_allowed, yX9_cost, yX9_costByTrying, yX9_mark, yX9_aggregate, yX9_column, yX9_setMargin, yX9_pick, yX9_pickMark, yX9_pickAggregate, yX9_pickColumn, yX9_formerPicks, yX9_unpick, yX9_forget, yX9_draftMark, yX9_draftAggregate, yX9_draftColumn, yX9_brokenRule, yX9_softRules, yX9_draftCost, yX9_draftRank, yX9_isSound, yX9_isValue, yX9_isColumn, yX9_isChannel, yX9_isMark, yX9_requireColumn, yX9_requireChannel, yX9_requirePair, yX9_requireRank, yX9_requirePick, yX9_requireAllowedDraft, yX9_isGoodEnough, yX9_isRankingAllowed, yX9_isRankingInOrder, yX9_isFirstConfirmed, yX10_init, yX10_thrown, yX10_isIn, yX10_isThrown, yX10_isNoColumn, yX10_isValue, yX10_addRow, yX10_dropRow, yX10_put, yX10_rows, yX10_at, yX10_many, yX10_unlike, yX10_different, yX10_sum, yX10_sumOf, yX10_meanOf, yX10_filled, yX10_rises, yX10_kindBy, yX10_kindOf, yX10_force, yX10_unforce, yX10_wish, yX10_isMark, yX10_wishMark, yX10_forbids, yX10_forbid, yX10_allow, yX10_setWeight, yX10_kinds, yX10_of, yX10_hasWishes, yX10_broken, yX10_soft, yX10_gaps, yX10_costOf, yX10_lays, yX10_isLike, yX10_makes, yX10_isDistinct, yX10_allowed, yX10_isNoRank, yX10_cost, yX10_costByTrying, yX10_named, yX10_mark, yX10_aggregate, yX10_isNoChannel, yX10_column, yX10_setMargin, yX10_pick, yX10_pickMark, yX10_pickAggregate, yX10_pickColumn, yX10_formerPicks, yX10_drops, yX10_unpick, yX10_forget, yX10_draftMark, yX10_draftAggregate, yX10_draftColumn, yX10_brokenRule, yX10_softRules, yX10_draftCost, yX10_draftRank, yX10_isSound, yJ6_bitCount_0f7a4, yJ13_bitCount_95d88, yL_addRow, yL_dropRow, yL_put, yL_different, yL_sumOf, yL_meanOf, yL_filled, yL_kindOf, yL_force, yL_unforce, yL_wish, yL_wishMark, yL_forbid, yL_allow, yL_setWeight, yL_cost, yL_costByTrying, yL_mark, yL_aggregate, yL_column, yL_setMargin, yL_pick, yL_pickMark, yL_pickAggregate, yL_pickColumn, yL_unpick, yL_draftMark, yL_draftAggregate, yL_draftColumn, yL_draftCost, yL_draftRank, yL_law]
def mBl : List ByteArray := [cX0_init, cX0_size, cX0_hasRank, cX0_placeAt, cX0_chartAt, cX0_clear, cX0_isOutOfReach, cX0_offer, cX1_bare, cX1_markOf, cX1_aggregateOf, cX1_columnIn, cX1_withMark, cX1_withAggregate, cX1_withColumn, cX1_columnSet, cX1_holds, cX1_isPlacement, cX2_init, cX2_hasRule, cX2_exchangeWeight, cX2_costOf, cX2_brokenSoftRules, cX2_bit, cX2_channelCost, cX3_init, cX3_wishColumn, cX3_exchangeWishedMark, cX3_isForbidden, cX3_turnForbidden, cX3_allows, cX3_firstBroken, cX3_hasDullColumn, cX3_hasForbiddenColumn, cX3_isAsWished, cX4_init, cX4_hasPresent, cX4_present, cX4_formerCount, cX4_become, cX4_goBack, cX4_dropForbidden, cX4_keepPresent, cX5_of, cX5_costOf, cX5_chartOf, cX6_init, cX6_spoil, cX6_ranking, cX6_searchFrom, cX6_offerSizes, cX6_isHopeless, cX7_init, cX7_rowCount, cX7_hasRow, cX7_valueAt, cX7_kindAt, cX7_forcedKindAt, cX7_countIn, cX7_differentIn, cX7_sumIn, cX7_gapsIn, cX7_isDullKind, cX7_usableColumns, cX7_append, cX7_remove, cX7_change, cX7_setForcedKind, cX7_store, cX7_studyAll, cX7_study, cX7_isNewAt, cX7_kindFrom, cX8_init, cX8_ranking, cX8_allowedCount, cX8_countBetterThan, cX8_run, cX8_tryAll, cX8_tryPlacement, cX8_listPlacements, cX9_init, cX9_addRow, cX9_dropRow, cX9_put, cX9_rows, cX9_different, cX9_sumOf, cX9_meanOf, cX9_filled, cX9_kindOf, cX9_force, cX9_unforce, cX9_wish, cX9_wishMark, cX9_forbid, cX9_allow, cX9_setWeight, cX9_allowed, cX9_cost, cX9_costByTrying, cX9_mark, cX9_aggregate, cX9_column, cX9_setMargin, cX9_pick, cX9_pickMark, cX9_pickAggregate, cX9_pickColumn, cX9_formerPicks, cX9_unpick, cX9_forget, cX9_draftMark, cX9_draftAggregate, cX9_draftColumn, cX9_brokenRule, cX9_softRules, cX9_draftCost, cX9_draftRank, cX9_isSound, cX9_isValue, cX9_isColumn, cX9_isChannel, cX9_isMark, cX9_requireColumn, cX9_requireChannel, cX9_requirePair, cX9_requireRank, cX9_requirePick, cX9_requireAllowedDraft, cX9_isGoodEnough, cX9_isRankingAllowed, cX9_isRankingInOrder, cX9_isFirstConfirmed, cX10_init, cX10_thrown, cX10_isIn, cX10_isThrown, cX10_isNoColumn, cX10_isValue, cX10_addRow, cX10_dropRow, cX10_put, cX10_rows, cX10_at, cX10_many, cX10_unlike, cX10_different, cX10_sum, cX10_sumOf, cX10_meanOf, cX10_filled, cX10_rises, cX10_kindBy, cX10_kindOf, cX10_force, cX10_unforce, cX10_wish, cX10_isMark, cX10_wishMark, cX10_forbids, cX10_forbid, cX10_allow, cX10_setWeight, cX10_kinds, cX10_of, cX10_hasWishes, cX10_broken, cX10_soft, cX10_gaps, cX10_costOf, cX10_lays, cX10_isLike, cX10_makes, cX10_isDistinct, cX10_allowed, cX10_isNoRank, cX10_cost, cX10_costByTrying, cX10_named, cX10_mark, cX10_aggregate, cX10_isNoChannel, cX10_column, cX10_setMargin, cX10_pick, cX10_pickMark, cX10_pickAggregate, cX10_pickColumn, cX10_formerPicks, cX10_drops, cX10_unpick, cX10_forget, cX10_draftMark, cX10_draftAggregate, cX10_draftColumn, cX10_brokenRule, cX10_softRules, cX10_draftCost, cX10_draftRank, cX10_isSound, cJ6_bitCount_0f7a4, cJ13_bitCount_95d88, cL_addRow, cL_dropRow, cL_put, cL_different, cL_sumOf, cL_meanOf, cL_filled, cL_kindOf, cL_force, cL_unforce, cL_wish, cL_wishMark, cL_forbid, cL_allow, cL_setWeight, cL_cost, cL_costByTrying, cL_mark, cL_aggregate, cL_column, cL_setMargin, cL_pick, cL_pickMark, cL_pickAggregate, cL_pickColumn, cL_unpick, cL_draftMark, cL_draftAggregate, cL_draftColumn, cL_draftCost, cL_draftRank, cL_law]
def mLl : List Nat := [1, 1, 2, 2, 2, 1, 3, 4, 2, 1, 1, 2, 2, 2, 4, 3, 2, 4, 2, 2, 4, 7, 10, 2, 3, 2, 4, 3, 3, 3, 2, 8, 3, 3, 3, 1, 1, 1, 1, 2, 2, 4, 2, 2, 2, 2, 3, 1, 6, 8, 4, 3, 2, 1, 2, 3, 2, 2, 2, 2, 2, 2, 1, 3, 8, 4, 4, 3, 4, 2, 12, 5, 4, 3, 1, 1, 2, 1, 7, 12, 3, 1, 8, 2, 5, 1, 2, 2, 3, 3, 2, 3, 2, 3, 2, 3, 3, 3, 1, 3, 3, 3, 3, 4, 3, 2, 1, 1, 2, 1, 1, 1, 3, 3, 4, 1, 1, 1, 1, 2, 1, 1, 1, 1, 1, 1, 2, 2, 1, 1, 3, 3, 5, 3, 2, 1, 3, 3, 2, 1, 8, 3, 5, 1, 3, 4, 6, 2, 5, 2, 2, 2, 6, 4, 2, 3, 2, 5, 1, 3, 6, 3, 3, 4, 2, 3, 4, 9, 4, 6, 8, 5, 5, 6, 4, 1, 3, 2, 4, 1, 2, 2, 3, 3, 3, 2, 1, 1, 2, 1, 3, 2, 4, 3, 3, 5, 1, 1, 1, 1, 1, 1, 2, 9, 4, 6, 4, 4, 4, 4, 4, 5, 4, 5, 4, 5, 5, 5, 4, 4, 4, 4, 5, 4, 3, 3, 3, 4, 3, 4, 4, 5, 3, 3, 9]
def mRl : List (Option FieldType) := [none, (some .int), (some .boolean), (some .long), (some .int), none, (some .boolean), none, (some .int), (some .char), (some .int), (some .int), (some .int), (some .int), (some .int), (some .int), (some .boolean), (some .boolean), none, (some .boolean), (some .int), (some .int), (some .int), (some .int), (some .int), none, (some .int), (some .char), (some .boolean), (some .int), (some .boolean), (some .int), (some .boolean), (some .boolean), (some .boolean), none, (some .boolean), (some .int), (some .int), none, none, (some .int), none, (some .long), (some .int), (some .int), none, none, (some (.object "Plotwise$Best")), none, none, (some .boolean), none, (some .int), (some .boolean), (some .int), (some .int), (some .int), (some .int), (some .int), (some .long), (some .long), (some .boolean), (some .int), none, none, none, none, none, none, none, (some .boolean), (some .int), none, (some (.object "Plotwise$Best")), (some .int), (some .int), none, none, none, (some (.array .int)), none, (some .int), (some .int), (some .int), (some .int), (some .int), (some .long), (some .double), (some .float), (some .int), (some .int), (some .int), (some .int), (some .char), (some .int), (some .int), (some .int), (some .int), (some .int), (some .int), (some .char), (some .int), (some .int), (some .int), (some .boolean), (some .char), (some .int), (some .int), (some .int), (some .int), (some .int), (some .char), (some .int), (some .int), (some .int), (some .int), (some .int), (some .int), (some .boolean), (some .boolean), (some .boolean), (some .boolean), (some .boolean), none, none, none, none, none, none, (some .boolean), (some .boolean), (some .boolean), (some .boolean), none, (some .int), (some .boolean), (some .boolean), (some .boolean), (some .boolean), (some .int), (some .int), (some .int), (some .int), (some .int), (some .int), (some .int), (some .int), (some .long), (some .long), (some .double), (some .float), (some .boolean), (some .int), (some .int), (some .int), (some .int), (some .int), (some .boolean), (some .char), (some .int), (some .int), (some .int), (some .int), none, (some .int), (some .boolean), (some .int), (some .int), (some .int), (some .int), none, (some .boolean), none, (some .boolean), (some .int), (some .boolean), (some .int), (some .int), (some .char), (some .char), (some .int), (some .boolean), (some .int), (some .int), (some .boolean), (some .char), (some .int), (some .int), (some .int), none, (some .int), (some .int), (some .char), (some .int), (some .int), (some .int), (some .int), (some .int), (some .int), (some .boolean), (some .int), (some .int), (some .int), (some .int), (some .int), (some .int), (some .int), (some .int), (some .int), (some .int), (some .int), (some .int), (some .int), (some .int), (some .int), (some .int), (some .int), (some .int), (some .int), (some .int), (some .int), (some .int), (some .int), (some .int), (some .int), (some .int), (some .int), (some .int), (some .int), (some .int), (some .int), (some .int), (some .int), (some .boolean)]
def mHl : List (List (Nat × Nat × Nat × Nat)) := [[], [], [], [], [], [], [], [], [], [], [], [], [], [], [], [], [], [], [], [], [], [], [], [], [], [], [], [], [], [], [], [], [], [], [], [], [], [], [], [], [], [], [], [], [], [], [], [], [], [], [], [], [], [], [], [], [], [], [], [], [], [], [], [], [], [], [], [], [], [], [], [], [], [], [], [], [], [], [], [], [], [], [], [], [], [], [], [], [], [], [], [], [], [], [], [], [], [], [], [], [], [], [], [], [], [], [], [], [], [], [], [], [], [], [], [], [], [], [], [], [], [], [], [], [], [], [], [], [], [], [], [], [], [], [], [], [], [], [], [], [], [], [], [], [], [], [], [], [], [], [], [], [], [], [], [], [], [], [], [], [], [], [], [], [], [], [], [], [], [], [], [], [], [], [], [], [], [], [], [], [], [], [], [], [], [], [], [], [], [], [], [], [], [], [], [], [], [], [], [], [], [], [], [(0, 18, 21, 13), (0, 18, 25, 15)], [(0, 9, 12, 21)], [(0, 12, 15, 21), (0, 12, 19, 13)], [(0, 9, 12, 21)], [(0, 8, 11, 21)], [(0, 8, 11, 21), (0, 8, 14, 38)], [(0, 9, 12, 21), (0, 9, 15, 38)], [(0, 9, 12, 21)], [(0, 10, 13, 21), (0, 10, 17, 13)], [(0, 9, 12, 21), (0, 9, 15, 15)], [(0, 10, 13, 21)], [(0, 9, 12, 13)], [(0, 10, 13, 21), (0, 10, 17, 15)], [(0, 10, 13, 21), (0, 10, 17, 15)], [(0, 10, 13, 21), (0, 10, 17, 13)], [(0, 9, 12, 74)], [(0, 9, 12, 79), (0, 9, 15, 74)], [(0, 9, 12, 74)], [(0, 9, 12, 74)], [(0, 10, 13, 74), (0, 10, 17, 21)], [(0, 9, 12, 13)], [(0, 15, 18, 74)], [(0, 8, 11, 15)], [(0, 8, 11, 15)], [(0, 9, 12, 21), (0, 9, 15, 15)], [(0, 8, 11, 15)], [(0, 9, 12, 13)], [(0, 9, 12, 13)], [(0, 10, 13, 21), (0, 10, 17, 15)], [(0, 8, 11, 15)], [(0, 8, 11, 15)], []]
def mNl : List Nat := [0, 0, 1, 1, 1, 0, 1, 1, 2, 1, 1, 2, 2, 2, 3, 1, 2, 1, 1, 1, 2, 1, 1, 2, 2, 1, 2, 1, 2, 2, 1, 1, 1, 1, 1, 0, 0, 0, 0, 1, 0, 1, 0, 2, 1, 1, 2, 0, 0, 1, 1, 1, 0, 0, 1, 2, 1, 1, 1, 1, 1, 1, 1, 0, 6, 1, 3, 2, 3, 0, 1, 2, 4, 2, 0, 0, 1, 0, 1, 2, 0, 0, 6, 1, 3, 0, 1, 1, 1, 1, 1, 2, 1, 2, 1, 2, 2, 2, 0, 1, 1, 1, 1, 2, 1, 0, 0, 0, 1, 0, 0, 0, 1, 1, 2, 0, 0, 0, 0, 0, 1, 1, 1, 1, 1, 1, 2, 2, 0, 0, 2, 1, 1, 2, 0, 0, 3, 2, 1, 1, 6, 1, 3, 0, 2, 1, 1, 1, 1, 1, 1, 1, 1, 1, 1, 2, 1, 2, 1, 1, 3, 2, 2, 2, 0, 2, 1, 1, 1, 1, 1, 0, 2, 0, 0, 0, 2, 1, 1, 1, 1, 1, 2, 2, 1, 0, 0, 0, 1, 0, 1, 0, 0, 1, 1, 2, 0, 0, 0, 0, 0, 1, 1, 8, 3, 5, 3, 3, 3, 3, 3, 4, 3, 4, 3, 4, 4, 4, 3, 3, 3, 3, 4, 3, 2, 2, 2, 3, 2, 3, 3, 4, 2, 2, 1]
def mVl : List Nat := [1, 0, 0, 1, 2, 0, 0, 1, 0, 0, 0, 0, 0, 0, 0, 0, 1, 1, 1, 0, 1, 3, 2, 0, 0, 1, 1, 0, 0, 1, 3, 2, 1, 1, 1, 1, 0, 0, 0, 1, 0, 4, 0, 0, 0, 0, 2, 0, 6, 5, 4, 4, 1, 0, 0, 1, 0, 1, 1, 1, 1, 1, 0, 1, 5, 5, 4, 4, 1, 4, 3, 2, 0, 3, 0, 0, 6, 6, 5, 4, 2, 4, 6, 6, 6, 1, 7, 7, 7, 7, 7, 7, 7, 7, 6, 8, 8, 6, 7, 7, 7, 7, 7, 7, 6, 7, 7, 7, 7, 1, 6, 5, 6, 6, 7, 3, 3, 7, 7, 7, 0, 0, 0, 0, 6, 6, 7, 6, 6, 6, 4, 4, 4, 4, 1, 0, 0, 0, 1, 1, 2, 1, 2, 0, 0, 1, 1, 2, 1, 2, 2, 2, 1, 2, 3, 3, 3, 2, 0, 1, 1, 2, 2, 1, 3, 0, 0, 1, 1, 1, 2, 3, 0, 4, 0, 5, 5, 6, 6, 0, 6, 6, 1, 6, 1, 5, 1, 1, 2, 0, 0, 1, 4, 1, 1, 1, 4, 4, 4, 5, 0, 0, 0, 7, 7, 7, 8, 8, 8, 8, 8, 8, 8, 8, 7, 9, 9, 7, 8, 8, 8, 8, 8, 7, 8, 8, 8, 8, 7, 7, 7, 8, 8, 8, 20]
def mCl : List Nat := [1, 0, 0, 0, 0, 0, 0, 0, 0, 0, 0, 0, 0, 0, 0, 0, 0, 0, 1, 0, 0, 0, 0, 0, 0, 0, 0, 0, 0, 0, 0, 0, 0, 0, 0, 1, 0, 0, 0, 0, 0, 0, 0, 0, 0, 0, 2, 0, 0, 0, 0, 0, 7, 0, 0, 0, 0, 0, 0, 0, 0, 0, 0, 0, 0, 0, 0, 0, 0, 0, 0, 0, 0, 3, 0, 0, 0, 0, 0, 0, 1, 20, 2, 1, 2, 0, 1, 1, 2, 2, 1, 2, 2, 1, 1, 3, 3, 2, 0, 1, 2, 1, 1, 2, 1, 1, 1, 1, 2, 0, 1, 0, 1, 1, 3, 0, 0, 1, 1, 0, 0, 0, 0, 0, 1, 1, 2, 1, 1, 1, 0, 0, 0, 0, 13, 0, 0, 0, 0, 0, 0, 0, 0, 0, 0, 0, 0, 0, 0, 0, 0, 0, 0, 0, 0, 0, 0, 0, 0, 0, 0, 0, 0, 0, 0, 0, 0, 0, 0, 0, 0, 0, 0, 0, 0, 0, 0, 0, 0, 0, 0, 0, 0, 0, 0, 0, 0, 0, 0, 0, 0, 0, 0, 0, 0, 0, 0, 0, 0, 0, 0, 0, 0, 2, 1, 2, 1, 1, 2, 2, 1, 2, 2, 1, 1, 3, 3, 2, 1, 2, 1, 1, 2, 1, 1, 1, 1, 2, 1, 1, 1, 3, 1, 1, 84]
def mSl : List Nat := [5, 0, 0, 0, 0, 0, 0, 0, 0, 0, 0, 0, 0, 0, 0, 0, 0, 0, 8, 0, 0, 0, 0, 0, 0, 0, 0, 0, 0, 0, 0, 0, 0, 0, 0, 4, 0, 0, 0, 0, 0, 0, 0, 0, 0, 0, 7, 0, 0, 0, 0, 0, 276, 0, 0, 0, 0, 0, 0, 0, 0, 0, 0, 0, 0, 0, 0, 0, 0, 0, 0, 0, 0, 1052, 0, 0, 0, 0, 0, 0, 1045, 1374, 12, 6, 12, 0, 6, 6, 12, 12, 6, 12, 12, 6, 6, 18, 18, 12, 0, 6, 12, 6, 6, 12, 6, 6, 6, 6, 12, 0, 6, 0, 6, 6, 18, 0, 0, 6, 6, 0, 0, 0, 0, 0, 6, 6, 12, 6, 6, 6, 0, 0, 0, 0, 373, 0, 0, 0, 0, 0, 0, 0, 0, 0, 0, 0, 0, 0, 0, 0, 0, 0, 0, 0, 0, 0, 0, 0, 0, 0, 0, 0, 0, 0, 0, 0, 0, 0, 0, 0, 0, 0, 0, 0, 0, 0, 0, 0, 0, 0, 0, 0, 0, 0, 0, 0, 0, 0, 0, 0, 0, 0, 0, 0, 0, 0, 0, 0, 0, 0, 0, 0, 0, 12, 6, 12, 6, 6, 12, 12, 6, 12, 12, 6, 6, 18, 18, 12, 6, 12, 6, 6, 12, 6, 6, 6, 6, 12, 6, 6, 6, 18, 6, 6, 2062]
def mAl : List Nat := [1, 0, 0, 0, 0, 0, 0, 0, 0, 0, 0, 0, 0, 0, 0, 0, 0, 0, 1, 0, 0, 0, 0, 0, 0, 0, 0, 0, 0, 0, 0, 0, 0, 0, 0, 1, 0, 0, 0, 0, 0, 0, 0, 0, 0, 0, 1, 0, 0, 0, 0, 0, 1, 0, 0, 0, 0, 0, 0, 0, 0, 0, 0, 0, 0, 0, 0, 0, 0, 0, 0, 0, 0, 1, 0, 0, 0, 0, 0, 0, 1, 1, 0, 0, 0, 0, 0, 0, 0, 0, 0, 0, 0, 0, 0, 0, 0, 0, 0, 0, 0, 0, 0, 0, 0, 0, 0, 0, 0, 0, 0, 0, 0, 0, 0, 0, 0, 0, 0, 0, 0, 0, 0, 0, 0, 0, 0, 0, 0, 0, 0, 0, 0, 0, 1, 0, 0, 0, 0, 0, 0, 0, 0, 0, 0, 0, 0, 0, 0, 0, 0, 0, 0, 0, 0, 0, 0, 0, 0, 0, 0, 0, 0, 0, 0, 0, 0, 0, 0, 0, 0, 0, 0, 0, 0, 0, 0, 0, 0, 0, 0, 0, 0, 0, 0, 0, 0, 0, 0, 0, 0, 0, 0, 0, 0, 0, 0, 0, 0, 0, 0, 0, 0, 0, 0, 0, 0, 0, 0, 0, 0, 0, 0, 0, 0, 0, 0, 0, 0, 0, 0, 0, 0, 0, 0, 0, 0, 0, 0, 0, 0, 0, 0, 0, 1]
def mDl : List Nat := [0, 0, 0, 0, 0, 0, 0, 0, 1, 1, 1, 1, 1, 1, 1, 1, 1, 1, 2, 2, 2, 2, 2, 2, 2, 3, 3, 3, 3, 3, 3, 3, 3, 3, 3, 4, 4, 4, 4, 4, 4, 4, 4, 5, 5, 5, 6, 6, 6, 6, 6, 6, 7, 7, 7, 7, 7, 7, 7, 7, 7, 7, 7, 7, 7, 7, 7, 7, 7, 7, 7, 7, 7, 8, 8, 8, 8, 8, 8, 8, 8, 9, 9, 9, 9, 9, 9, 9, 9, 9, 9, 9, 9, 9, 9, 9, 9, 9, 9, 9, 9, 9, 9, 9, 9, 9, 9, 9, 9, 9, 9, 9, 9, 9, 9, 9, 9, 9, 9, 9, 9, 9, 9, 9, 9, 9, 9, 9, 9, 9, 9, 9, 9, 9, 10, 10, 10, 10, 10, 10, 10, 10, 10, 10, 10, 10, 10, 10, 10, 10, 10, 10, 10, 10, 10, 10, 10, 10, 10, 10, 10, 10, 10, 10, 10, 10, 10, 10, 10, 10, 10, 10, 10, 10, 10, 10, 10, 10, 10, 10, 10, 10, 10, 10, 10, 10, 10, 10, 10, 10, 10, 10, 10, 10, 10, 10, 10, 10, 10, 10, 10, 11, 12, 13, 13, 13, 13, 13, 13, 13, 13, 13, 13, 13, 13, 13, 13, 13, 13, 13, 13, 13, 13, 13, 13, 13, 13, 13, 13, 13, 13, 13, 13, 13, 13]
def dNl : List String := [RX0, RX1, RX2, RX3, RX4, RX5, RX6, RX7, RX8, RX9, RX10, RJ6, RJ13, RL]
def mKl : List Nat := [2, 1, 1, 1, 1, 1, 1, 1, 0, 0, 0, 0, 0, 0, 0, 0, 0, 0, 2, 1, 1, 1, 1, 0, 0, 2, 1, 1, 1, 1, 1, 1, 1, 1, 1, 2, 1, 1, 1, 1, 1, 1, 1, 0, 0, 0, 2, 1, 1, 1, 1, 1, 2, 1, 1, 1, 1, 1, 1, 1, 1, 1, 0, 1, 1, 1, 1, 1, 1, 1, 1, 1, 0, 2, 1, 1, 1, 1, 1, 1, 0, 2, 1, 1, 1, 1, 1, 1, 1, 1, 1, 1, 1, 1, 1, 1, 1, 1, 1, 1, 1, 1, 1, 1, 1, 1, 1, 1, 1, 1, 1, 1, 1, 1, 1, 1, 1, 1, 1, 1, 0, 0, 0, 0, 0, 0, 0, 0, 1, 1, 1, 1, 1, 1, 2, 1, 0, 1, 1, 0, 1, 1, 1, 1, 1, 1, 1, 1, 1, 1, 1, 1, 1, 1, 1, 1, 1, 1, 0, 1, 1, 1, 1, 1, 1, 1, 1, 1, 1, 1, 1, 1, 1, 1, 1, 1, 1, 1, 1, 0, 1, 1, 1, 1, 1, 1, 1, 1, 1, 1, 1, 1, 1, 1, 1, 1, 1, 1, 1, 1, 1, 0, 0, 0, 0, 0, 0, 0, 0, 0, 0, 0, 0, 0, 0, 0, 0, 0, 0, 0, 0, 0, 0, 0, 0, 0, 0, 0, 0, 0, 0, 0, 0, 0, 0]
def mOl : List Nat := [0, 0, 0, 0, 0, 0, 0, 0, 99, 99, 99, 99, 99, 99, 99, 99, 99, 99, 1, 1, 1, 1, 1, 1, 1, 2, 2, 2, 2, 2, 2, 2, 2, 2, 2, 3, 3, 3, 3, 3, 3, 3, 3, 99, 99, 99, 4, 4, 4, 4, 4, 4, 5, 5, 5, 5, 5, 5, 5, 5, 5, 5, 5, 5, 5, 5, 5, 5, 5, 5, 5, 5, 5, 6, 6, 6, 6, 6, 6, 6, 6, 7, 7, 7, 7, 7, 7, 7, 7, 7, 7, 7, 7, 7, 7, 7, 7, 7, 7, 7, 7, 7, 7, 7, 7, 7, 7, 7, 7, 7, 7, 7, 7, 7, 7, 7, 7, 7, 7, 7, 7, 7, 7, 7, 7, 7, 7, 7, 7, 7, 7, 7, 7, 7, 8, 8, 8, 8, 8, 8, 8, 8, 8, 8, 8, 8, 8, 8, 8, 8, 8, 8, 8, 8, 8, 8, 8, 8, 8, 8, 8, 8, 8, 8, 8, 8, 8, 8, 8, 8, 8, 8, 8, 8, 8, 8, 8, 8, 8, 8, 8, 8, 8, 8, 8, 8, 8, 8, 8, 8, 8, 8, 8, 8, 8, 8, 8, 8, 8, 8, 8, 99, 99, 99, 99, 99, 99, 99, 99, 99, 99, 99, 99, 99, 99, 99, 99, 99, 99, 99, 99, 99, 99, 99, 99, 99, 99, 99, 99, 99, 99, 99, 99, 99, 99]
abbrev NM : Nat := 235
def mY (i : Nat) : MethodName := mYl.getD i yX0_init
def mB (i : Nat) : ByteArray := mBl.getD i cX0_init
def mL (i : Nat) : Nat := mLl.getD i 0
def mR (i : Nat) : Option FieldType := mRl.getD i none
def mH (i : Nat) : List (Nat × Nat × Nat × Nat) := mHl.getD i []
def mN (i : Nat) : Nat := mNl.getD i 0
def mV (i : Nat) : Nat := mVl.getD i 0
def mC (i : Nat) : Nat := mCl.getD i 0
def mS (i : Nat) : Nat := mSl.getD i 0
def mK (i : Nat) : Nat := mKl.getD i 9
def mO (i : Nat) : Nat := mOl.getD i 99
def mA (i : Nat) : Nat := mAl.getD i 1
def mD (i : Nat) : Nat := mDl.getD i 99
def dN (i : Nat) : String := dNl.getD i ""
def kcl : List vw_C := [(RX0, TX0, 2), (RX2, TX2, 2), (RX3, TX3, 4), (RX4, TX4, 3), (RX6, TX6, 4), (RX7, TX7, 8), (RX8, TX8, 6), (RX9, TX9, 8), (RX10, TX10, 23)]
def kty : List (Nat → FieldType) := [tyX0, tyX2, tyX3, tyX4, tyX6, tyX7, tyX8, tyX9, tyX10]
def kC (a : Nat) : vw_C := kcl.getD a ("", (fun _ => ("", "", "", false)), 0)
def kT (a : Nat) : Nat → FieldType := kty.getD a (fun _ => .int)
def aty (a : Nat) : FieldType := match a with | 0 => .int | 1 => .long | 2 => .double | 3 => .boolean | _ => .char
def aTy (a : Nat) : ArrayType := match a with | 0 => .int | 1 => .long | 2 => .double | 3 => .boolean | _ => .char
def exN : List String := ["java/lang/IllegalArgumentException", "java/lang/IllegalStateException", "java/lang/IndexOutOfBoundsException", "java/lang/ArithmeticException", "java/util/NoSuchElementException", "java/lang/UnsupportedOperationException"]
def exI : List Nat := [76, 87, 102, 140, 254, 227]
def stN : List (String × Nat × String) := [("Plotwise", 74, "a value is out of range"), ("Plotwise", 85, "the table is full"), ("Plotwise", 100, "no such row"), ("Plotwise", 110, "no such row or column"), ("Plotwise", 112, "the value is out of range"), ("Plotwise", 327, "no such column"), ("Plotwise", 138, "the column has no values"), ("Plotwise", 141, "there are no rows"), ("Plotwise", 146, "no kind to force"), ("Plotwise", 155, "the column is not forced"), ("Plotwise", 165, "no such mark"), ("Plotwise", 332, "no such channel"), ("Plotwise", 178, "forbidden already"), ("Plotwise", 183, "not forbidden"), ("Plotwise", 188, "no such soft rule"), ("Plotwise", 190, "the weight is out of range"), ("Plotwise", 334, "the ranking has no such rank"), ("Plotwise", 225, "too many columns to try all charts"), ("Plotwise", 245, "the margin is out of range"), ("Plotwise", 252, "no chart is allowed"), ("Plotwise", 336, "there is no pick"), ("Plotwise", 275, "there is no former pick"), ("Plotwise", 288, "no such aggregate"), ("Plotwise", 296, "the column is in another channel"), ("Plotwise", 341, "the draft is not allowed")]
def saN : List (String × String × String) := [("Plotwise", "MARKS", "[C"), ("Plotwise$Costs", "FIRST_WEIGHTS", "[I"), ("Plotwise$Costs", "CHANNEL_COSTS", "[I")]
/-- a link's word: c the class, e = (index, kind, a, b) -/
def lkw (c : Nat) (e : Nat × Nat × Nat × Nat) : Cond := match e.2.1 with
  | 0 => .fieldLink (dN c) e.1 (kC e.2.2.1).1 ((kC e.2.2.1).2.1 e.2.2.2).2.1 ((kC e.2.2.1).2.1 e.2.2.2).2.2.1
  | 1 => .fieldLink (dN c) e.1 (saN.getD e.2.2.1 ("", "", "")).1 (saN.getD e.2.2.1 ("", "", "")).2.1 (saN.getD e.2.2.1 ("", "", "")).2.2
  | 2 => .methodLink (dN c) e.1 objectInit
  | 3 => .methodLink (dN c) e.1 ⟨"[I", "clone", "()Ljava/lang/Object;"⟩
  | 4 => .methodLink (dN c) e.1 (mY e.2.2.1)
  | 5 => .classLink (dN c) e.1 (if e.2.2.1 < 100 then (kC e.2.2.1).1 else exN.getD (e.2.2.1 - 100) "")
  | 6 => .constant (dN c) e.1 (Int32.ofNat e.2.2.1)
  | 7 => .constantLong (dN c) e.1 (Int64.ofNat e.2.2.1)
  | 8 => .fieldLinkNest (dN c) e.1 (saN.getD e.2.2.1 ("", "", "")).1 (saN.getD e.2.2.1 ("", "", "")).2.1 (saN.getD e.2.2.1 ("", "", "")).2.2 "Plotwise"
  | 9 => .methodLinkNest (dN c) e.1 (mY e.2.2.1) "Plotwise"
  | _ => .classLink (dN c) e.1 "[I"
def lk0 : List (Nat × Nat × Nat × Nat) := [(1, 2, 0, 0), (9, 0, 0, 0), (13, 0, 0, 1), (17, 4, 2, 0), (21, 4, 3, 0), (25, 4, 45, 0), (31, 4, 6, 0)]
def lk1 : List (Nat × Nat × Nat × Nat) := [(12, 4, 15, 0), (16, 4, 11, 0)]
def lk2 : List (Nat × Nat × Nat × Nat) := [(3, 2, 0, 0), (9, 0, 1, 0), (15, 1, 1, 0), (19, 3, 0, 0), (20, 10, 0, 0), (24, 0, 1, 1), (27, 4, 19, 0), (31, 4, 11, 0), (37, 4, 56, 0), (43, 4, 24, 0), (46, 4, 61, 0), (50, 4, 202, 0), (56, 4, 22, 0), (59, 4, 9, 0), (63, 4, 10, 0), (66, 4, 15, 0), (69, 4, 201, 0), (73, 4, 23, 0), (77, 4, 53, 0), (81, 4, 59, 0), (84, 1, 2, 0)]
def lk3 : List (Nat × Nat × Nat × Nat) := [(3, 2, 0, 0), (9, 0, 2, 0), (15, 0, 2, 2), (19, 0, 2, 1), (23, 4, 201, 0), (29, 0, 2, 3), (32, 4, 31, 0), (35, 4, 9, 0), (41, 4, 10, 0), (44, 4, 11, 0), (48, 4, 56, 0), (53, 4, 32, 0), (57, 4, 33, 0), (60, 4, 34, 0), (63, 4, 62, 0), (66, 4, 28, 0), (70, 4, 15, 0)]
def lk4 : List (Nat × Nat × Nat × Nat) := [(3, 2, 0, 0), (11, 0, 3, 0), (15, 0, 3, 2), (19, 0, 3, 1), (22, 4, 36, 0), (26, 4, 42, 0), (29, 4, 30, 0)]
def lk5 : List (Nat × Nat × Nat × Nat) := [(9, 7, 16777215, 0)]
def lk6 : List (Nat × Nat × Nat × Nat) := [(3, 2, 0, 0), (9, 5, 0, 0), (11, 4, 0, 0), (12, 0, 4, 2), (18, 0, 4, 3), (22, 0, 4, 0), (26, 0, 4, 1), (30, 4, 5, 0), (33, 8, 0, 0), (37, 4, 8, 0), (43, 4, 49, 0), (47, 4, 14, 0), (51, 4, 51, 0), (55, 4, 16, 0), (59, 4, 50, 0), (62, 4, 31, 0), (68, 4, 21, 0), (73, 4, 43, 0), (79, 4, 7, 0), (83, 4, 6, 0)]
def lk7 : List (Nat × Nat × Nat × Nat) := [(3, 2, 0, 0), (9, 0, 5, 0), (15, 0, 5, 1), (18, 0, 5, 2), (21, 0, 5, 3), (24, 0, 5, 4), (27, 0, 5, 5), (31, 0, 5, 6), (34, 0, 5, 7), (38, 4, 54, 0), (42, 9, 121, 0), (45, 4, 62, 0), (48, 4, 68, 0), (52, 4, 69, 0), (55, 4, 55, 0), (59, 4, 70, 0), (63, 4, 71, 0), (67, 4, 72, 0)]
def lk8 : List (Nat × Nat × Nat × Nat) := [(3, 2, 0, 0), (9, 5, 0, 0), (11, 4, 0, 0), (12, 0, 6, 2), (18, 0, 6, 0), (22, 0, 6, 1), (26, 4, 80, 0), (30, 0, 6, 3), (34, 0, 6, 4), (38, 4, 21, 0), (44, 4, 43, 0), (50, 4, 78, 0), (54, 0, 6, 5), (57, 4, 5, 0), (60, 4, 32, 0), (66, 4, 79, 0), (70, 8, 0, 0), (74, 4, 8, 0), (80, 4, 31, 0), (83, 4, 7, 0), (86, 4, 17, 0)]
def lk9 : List (Nat × Nat × Nat × Nat) := [(1, 2, 0, 0), (7, 5, 5, 0), (9, 4, 52, 0), (10, 0, 7, 0), (16, 5, 2, 0), (18, 4, 25, 0), (21, 0, 7, 1), (25, 5, 1, 0), (27, 4, 18, 0), (28, 0, 7, 2), (32, 5, 4, 0), (34, 4, 46, 0), (37, 0, 7, 3), (41, 5, 6, 0), (43, 4, 73, 0), (44, 0, 7, 4), (48, 5, 3, 0), (50, 4, 35, 0), (51, 0, 7, 5), (55, 0, 7, 6), (59, 4, 8, 0), (65, 0, 7, 7), (68, 4, 120, 0), (72, 5, 100, 0), (79, 4, 53, 0), (83, 5, 101, 0), (88, 4, 64, 0), (92, 4, 47, 0), (95, 4, 54, 0), (98, 5, 102, 0), (103, 4, 65, 0), (107, 4, 121, 0), (114, 4, 55, 0), (118, 4, 66, 0), (122, 4, 124, 0), (125, 4, 59, 0), (129, 4, 60, 0), (133, 4, 58, 0), (136, 5, 103, 0), (143, 4, 56, 0), (148, 4, 67, 0), (152, 4, 57, 0), (157, 4, 26, 0), (161, 4, 123, 0), (167, 4, 27, 0), (171, 4, 126, 0), (174, 4, 28, 0), (180, 4, 29, 0), (185, 4, 19, 0), (192, 4, 20, 0), (195, 4, 77, 0), (198, 4, 75, 0), (201, 4, 48, 0), (205, 4, 127, 0), (209, 4, 3, 0), (214, 4, 44, 0), (220, 4, 63, 0), (223, 5, 105, 0), (228, 4, 74, 0), (229, 4, 4, 0), (232, 4, 9, 0), (236, 4, 10, 0), (239, 4, 125, 0), (242, 4, 11, 0), (247, 4, 2, 0), (250, 5, 104, 0), (255, 4, 36, 0), (259, 4, 37, 0), (262, 4, 130, 0), (266, 4, 39, 0), (269, 4, 128, 0), (272, 4, 38, 0), (277, 4, 40, 0), (280, 4, 41, 0), (284, 4, 12, 0), (290, 4, 13, 0), (293, 4, 16, 0), (298, 4, 14, 0), (302, 4, 31, 0), (305, 4, 22, 0), (308, 4, 129, 0), (311, 4, 21, 0), (313, 4, 76, 0), (316, 4, 131, 0), (320, 4, 132, 0), (323, 4, 133, 0), (329, 4, 122, 0), (338, 4, 30, 0), (343, 4, 1, 0), (346, 4, 43, 0)]
def lk10 : List (Nat × Nat × Nat × Nat) := [(1, 2, 0, 0), (7, 0, 8, 0), (13, 0, 8, 1), (16, 0, 8, 2), (19, 0, 8, 3), (22, 0, 8, 4), (25, 0, 8, 5), (29, 0, 8, 6), (32, 0, 8, 7), (35, 0, 8, 8), (38, 0, 8, 9), (41, 0, 8, 10), (44, 0, 8, 11), (47, 0, 8, 12), (50, 0, 8, 16), (54, 0, 8, 20), (58, 0, 8, 19), (61, 4, 136, 0), (65, 4, 137, 0), (69, 4, 139, 0), (73, 0, 8, 13), (76, 0, 8, 22), (80, 4, 144, 0), (84, 4, 138, 0), (87, 4, 146, 0), (91, 4, 148, 0), (95, 4, 145, 0), (98, 4, 152, 0), (101, 4, 153, 0), (104, 4, 158, 0), (108, 4, 160, 0), (112, 4, 165, 0), (116, 4, 166, 0), (120, 4, 169, 0), (124, 4, 168, 0), (127, 4, 170, 0), (130, 0, 8, 17), (133, 0, 8, 15), (136, 4, 164, 0), (138, 0, 8, 18), (141, 4, 172, 0), (145, 4, 174, 0), (149, 4, 167, 0), (152, 4, 171, 0), (155, 4, 173, 0), (158, 4, 176, 0), (162, 4, 179, 0), (166, 4, 182, 0), (169, 0, 8, 21), (172, 0, 8, 14), (175, 4, 190, 0)]
def lk11 : List (Nat × Nat × Nat × Nat) := [(265, 6, 1431655765, 0), (266, 6, 858993459, 0), (267, 6, 252645135, 0)]
def lk12 : List (Nat × Nat × Nat × Nat) := [(314, 7, 6148914691236517205, 0), (316, 7, 3689348814741910323, 0), (318, 7, 1085102592571150095, 0)]
def lk13 : List (Nat × Nat × Nat × Nat) := [(7, 4, 82, 0), (8, 5, 7, 0), (13, 5, 100, 0), (15, 5, 101, 0), (17, 4, 83, 0), (21, 5, 102, 0), (23, 4, 84, 0), (27, 4, 86, 0), (30, 4, 87, 0), (34, 4, 88, 0), (38, 5, 103, 0), (40, 4, 89, 0), (44, 4, 90, 0), (47, 4, 91, 0), (51, 4, 92, 0), (54, 4, 93, 0), (58, 4, 94, 0), (62, 4, 95, 0), (65, 4, 96, 0), (68, 4, 97, 0), (71, 4, 99, 0), (74, 5, 104, 0), (76, 4, 100, 0), (79, 5, 105, 0), (81, 4, 101, 0), (85, 4, 102, 0), (88, 4, 103, 0), (91, 4, 104, 0), (94, 4, 105, 0), (98, 4, 106, 0), (102, 4, 107, 0), (106, 4, 108, 0), (109, 4, 110, 0), (112, 4, 112, 0), (115, 4, 113, 0), (118, 4, 114, 0), (121, 4, 117, 0), (124, 4, 118, 0), (127, 4, 81, 0), (128, 5, 8, 0), (130, 4, 134, 0), (131, 4, 203, 0), (136, 4, 140, 0), (137, 4, 135, 0), (140, 4, 204, 0), (143, 4, 141, 0), (144, 4, 205, 0), (147, 4, 142, 0), (148, 4, 85, 0), (151, 4, 143, 0), (152, 4, 206, 0), (154, 4, 147, 0), (155, 4, 207, 0), (157, 4, 149, 0), (158, 4, 208, 0), (161, 4, 150, 0), (162, 4, 209, 0), (164, 4, 151, 0), (165, 4, 210, 0), (167, 4, 154, 0), (168, 4, 211, 0), (171, 4, 155, 0), (172, 4, 212, 0), (174, 4, 156, 0), (175, 4, 213, 0), (178, 4, 157, 0), (179, 4, 214, 0), (182, 4, 159, 0), (183, 4, 215, 0), (185, 4, 161, 0), (186, 4, 216, 0), (188, 4, 162, 0), (189, 4, 217, 0), (191, 4, 163, 0), (192, 4, 98, 0), (195, 4, 175, 0), (196, 4, 218, 0), (198, 4, 177, 0), (199, 4, 219, 0), (201, 4, 178, 0), (202, 4, 220, 0), (204, 4, 180, 0), (205, 4, 221, 0), (207, 4, 181, 0), (208, 4, 222, 0), (210, 4, 183, 0), (211, 4, 223, 0), (213, 4, 184, 0), (214, 4, 224, 0), (217, 4, 185, 0), (218, 4, 225, 0), (220, 4, 186, 0), (221, 4, 226, 0), (223, 4, 187, 0), (224, 4, 227, 0), (226, 4, 188, 0), (227, 4, 109, 0), (230, 4, 189, 0), (231, 4, 228, 0), (233, 4, 191, 0), (234, 4, 111, 0), (237, 4, 192, 0), (238, 4, 229, 0), (240, 4, 193, 0), (241, 4, 230, 0), (243, 4, 194, 0), (244, 4, 231, 0), (246, 4, 195, 0), (247, 4, 115, 0), (250, 4, 196, 0), (251, 4, 116, 0), (254, 4, 197, 0), (255, 4, 232, 0), (257, 4, 198, 0), (258, 4, 233, 0), (260, 4, 199, 0), (261, 4, 119, 0), (264, 4, 200, 0)]
def lkl : List (List (Nat × Nat × Nat × Nat)) := [lk0, lk1, lk2, lk3, lk4, lk5, lk6, lk7, lk8, lk9, lk10, lk11, lk12, lk13]
def lks (c : Nat) : List (Nat × Nat × Nat × Nat) := lkl.getD c []
end
section
/-! the link words and the methods' words stand in the tables -/
def XU : List Cond := lw_tbl.filter goodWord
theorem xu_t {w : Cond} (h : w ∈ tables_1) (g : goodWord w = true) : w ∈ XU := List.mem_filter.mpr ⟨List.mem_append_right _ h, g⟩
theorem tt1 {w : Cond} (h : w ∈ tables_1_1) : w ∈ tables_1 := List.mem_append_left _ h
theorem gm1 {w : Cond} (i : Nat) (h : tables_1_1[i]? = some w) (g : goodWord w = true) : w ∈ XU := xu_t (tt1 (List.mem_of_getElem? h)) g
theorem pm1 {w : Cond} (i : Nat) (h : tables_1_1[i]? = some w) : w ∈ tables_1 := tt1 (List.mem_of_getElem? h)
theorem tt2 {w : Cond} (h : w ∈ tables_1_2) : w ∈ tables_1 := List.mem_append_right _ (List.mem_append_left _ h)
theorem gm2 {w : Cond} (i : Nat) (h : tables_1_2[i]? = some w) (g : goodWord w = true) : w ∈ XU := xu_t (tt2 (List.mem_of_getElem? h)) g
theorem pm2 {w : Cond} (i : Nat) (h : tables_1_2[i]? = some w) : w ∈ tables_1 := tt2 (List.mem_of_getElem? h)
theorem tt3 {w : Cond} (h : w ∈ tables_1_3) : w ∈ tables_1 := List.mem_append_right _ (List.mem_append_right _ (List.mem_append_left _ h))
theorem gm3 {w : Cond} (i : Nat) (h : tables_1_3[i]? = some w) (g : goodWord w = true) : w ∈ XU := xu_t (tt3 (List.mem_of_getElem? h)) g
theorem pm3 {w : Cond} (i : Nat) (h : tables_1_3[i]? = some w) : w ∈ tables_1 := tt3 (List.mem_of_getElem? h)
theorem tt4 {w : Cond} (h : w ∈ tables_1_4) : w ∈ tables_1 := List.mem_append_right _ (List.mem_append_right _ (List.mem_append_right _ (List.mem_append_left _ h)))
theorem gm4 {w : Cond} (i : Nat) (h : tables_1_4[i]? = some w) (g : goodWord w = true) : w ∈ XU := xu_t (tt4 (List.mem_of_getElem? h)) g
theorem pm4 {w : Cond} (i : Nat) (h : tables_1_4[i]? = some w) : w ∈ tables_1 := tt4 (List.mem_of_getElem? h)
theorem tt5 {w : Cond} (h : w ∈ tables_1_5) : w ∈ tables_1 := List.mem_append_right _ (List.mem_append_right _ (List.mem_append_right _ (List.mem_append_right _ (List.mem_append_left _ h))))
theorem gm5 {w : Cond} (i : Nat) (h : tables_1_5[i]? = some w) (g : goodWord w = true) : w ∈ XU := xu_t (tt5 (List.mem_of_getElem? h)) g
theorem pm5 {w : Cond} (i : Nat) (h : tables_1_5[i]? = some w) : w ∈ tables_1 := tt5 (List.mem_of_getElem? h)
theorem tt6 {w : Cond} (h : w ∈ tables_1_6) : w ∈ tables_1 := List.mem_append_right _ (List.mem_append_right _ (List.mem_append_right _ (List.mem_append_right _ (List.mem_append_right _ (h)))))
theorem gm6 {w : Cond} (i : Nat) (h : tables_1_6[i]? = some w) (g : goodWord w = true) : w ∈ XU := xu_t (tt6 (List.mem_of_getElem? h)) g
theorem pm6 {w : Cond} (i : Nat) (h : tables_1_6[i]? = some w) : w ∈ tables_1 := tt6 (List.mem_of_getElem? h)
theorem xw0 : lkw 0 (1, 2, 0, 0) ∈ XU := gm1 118 (by decide +kernel) (by decide +kernel)
theorem xw1 : lkw 0 (9, 0, 0, 0) ∈ XU := gm1 119 (by decide +kernel) (by decide +kernel)
theorem xw2 : lkw 0 (13, 0, 0, 1) ∈ XU := gm1 120 (by decide +kernel) (by decide +kernel)
theorem xw3 : lkw 0 (17, 4, 2, 0) ∈ XU := gm2 104 (by decide +kernel) (by decide +kernel)
theorem xw4 : lkw 0 (21, 4, 3, 0) ∈ XU := gm2 190 (by decide +kernel) (by decide +kernel)
theorem xw5 : lkw 0 (25, 4, 45, 0) ∈ XU := gm2 194 (by decide +kernel) (by decide +kernel)
theorem xw6 : lkw 0 (31, 4, 6, 0) ∈ XU := gm2 100 (by decide +kernel) (by decide +kernel)
theorem lk_ok0 : ∀ e ∈ lk0, lkw 0 e ∈ XU ∨ (8 ≤ e.2.1 ∧ lkw 0 e ∈ tables_1) := List.forall_mem_cons.mpr ⟨Or.inl xw0, List.forall_mem_cons.mpr ⟨Or.inl xw1, List.forall_mem_cons.mpr ⟨Or.inl xw2, List.forall_mem_cons.mpr ⟨Or.inl xw3, List.forall_mem_cons.mpr ⟨Or.inl xw4, List.forall_mem_cons.mpr ⟨Or.inl xw5, List.forall_mem_cons.mpr ⟨Or.inl xw6, fun _ h => absurd h List.not_mem_nil⟩⟩⟩⟩⟩⟩⟩
theorem xw7 : lkw 1 (12, 4, 15, 0) ∈ XU := gm2 172 (by decide +kernel) (by decide +kernel)
theorem xw8 : lkw 1 (16, 4, 11, 0) ∈ XU := gm1 153 (by decide +kernel) (by decide +kernel)
theorem lk_ok1 : ∀ e ∈ lk1, lkw 1 e ∈ XU ∨ (8 ≤ e.2.1 ∧ lkw 1 e ∈ tables_1) := List.forall_mem_cons.mpr ⟨Or.inl xw7, List.forall_mem_cons.mpr ⟨Or.inl xw8, fun _ h => absurd h List.not_mem_nil⟩⟩
theorem xw9 : lkw 2 (3, 2, 0, 0) ∈ XU := gm1 90 (by decide +kernel) (by decide +kernel)
theorem xw10 : lkw 2 (9, 0, 1, 0) ∈ XU := gm1 100 (by decide +kernel) (by decide +kernel)
theorem xw11 : lkw 2 (15, 1, 1, 0) ∈ XU := gm1 91 (by decide +kernel) (by decide +kernel)
theorem xw12 : lkw 2 (19, 3, 0, 0) ∈ XU := gm1 93 (by decide +kernel) (by decide +kernel)
theorem xw13 : lkw 2 (20, 10, 0, 0) ∈ XU := gm1 99 (by decide +kernel) (by decide +kernel)
theorem xw14 : lkw 2 (24, 0, 1, 1) ∈ XU := gm1 101 (by decide +kernel) (by decide +kernel)
theorem xw15 : lkw 2 (27, 4, 19, 0) ∈ XU := gm4 103 (by decide +kernel) (by decide +kernel)
theorem xw16 : lkw 2 (31, 4, 11, 0) ∈ XU := gm2 52 (by decide +kernel) (by decide +kernel)
theorem xw17 : lkw 2 (37, 4, 56, 0) ∈ XU := gm2 53 (by decide +kernel) (by decide +kernel)
theorem xw18 : lkw 2 (43, 4, 24, 0) ∈ XU := gm2 54 (by decide +kernel) (by decide +kernel)
theorem xw19 : lkw 2 (46, 4, 61, 0) ∈ XU := gm2 59 (by decide +kernel) (by decide +kernel)
theorem xw20 : lkw 2 (50, 4, 202, 0) ∈ XU := gm2 66 (by decide +kernel) (by decide +kernel)
theorem xw21 : lkw 2 (56, 4, 22, 0) ∈ XU := gm2 72 (by decide +kernel) (by decide +kernel)
theorem xw22 : lkw 2 (59, 4, 9, 0) ∈ XU := gm2 76 (by decide +kernel) (by decide +kernel)
theorem xw23 : lkw 2 (63, 4, 10, 0) ∈ XU := gm2 77 (by decide +kernel) (by decide +kernel)
theorem xw24 : lkw 2 (66, 4, 15, 0) ∈ XU := gm2 78 (by decide +kernel) (by decide +kernel)
theorem xw25 : lkw 2 (69, 4, 201, 0) ∈ XU := gm2 79 (by decide +kernel) (by decide +kernel)
theorem xw26 : lkw 2 (73, 4, 23, 0) ∈ XU := gm2 85 (by decide +kernel) (by decide +kernel)
theorem xw27 : lkw 2 (77, 4, 53, 0) ∈ XU := gm2 88 (by decide +kernel) (by decide +kernel)
theorem xw28 : lkw 2 (81, 4, 59, 0) ∈ XU := gm2 89 (by decide +kernel) (by decide +kernel)
theorem xw29 : lkw 2 (84, 1, 2, 0) ∈ XU := gm2 57 (by decide +kernel) (by decide +kernel)
theorem lk_ok2 : ∀ e ∈ lk2, lkw 2 e ∈ XU ∨ (8 ≤ e.2.1 ∧ lkw 2 e ∈ tables_1) := List.forall_mem_cons.mpr ⟨Or.inl xw9, List.forall_mem_cons.mpr ⟨Or.inl xw10, List.forall_mem_cons.mpr ⟨Or.inl xw11, List.forall_mem_cons.mpr ⟨Or.inl xw12, List.forall_mem_cons.mpr ⟨Or.inl xw13, List.forall_mem_cons.mpr ⟨Or.inl xw14, List.forall_mem_cons.mpr ⟨Or.inl xw15, List.forall_mem_cons.mpr ⟨Or.inl xw16, List.forall_mem_cons.mpr ⟨Or.inl xw17, List.forall_mem_cons.mpr ⟨Or.inl xw18, List.forall_mem_cons.mpr ⟨Or.inl xw19, List.forall_mem_cons.mpr ⟨Or.inl xw20, List.forall_mem_cons.mpr ⟨Or.inl xw21, List.forall_mem_cons.mpr ⟨Or.inl xw22, List.forall_mem_cons.mpr ⟨Or.inl xw23, List.forall_mem_cons.mpr ⟨Or.inl xw24, List.forall_mem_cons.mpr ⟨Or.inl xw25, List.forall_mem_cons.mpr ⟨Or.inl xw26, List.forall_mem_cons.mpr ⟨Or.inl xw27, List.forall_mem_cons.mpr ⟨Or.inl xw28, List.forall_mem_cons.mpr ⟨Or.inl xw29, fun _ h => absurd h List.not_mem_nil⟩⟩⟩⟩⟩⟩⟩⟩⟩⟩⟩⟩⟩⟩⟩⟩⟩⟩⟩⟩⟩
theorem xw30 : lkw 3 (3, 2, 0, 0) ∈ XU := gm1 71 (by decide +kernel) (by decide +kernel)
theorem xw31 : lkw 3 (9, 0, 2, 0) ∈ XU := gm1 72 (by decide +kernel) (by decide +kernel)
theorem xw32 : lkw 3 (15, 0, 2, 2) ∈ XU := gm1 74 (by decide +kernel) (by decide +kernel)
theorem xw33 : lkw 3 (19, 0, 2, 1) ∈ XU := gm1 73 (by decide +kernel) (by decide +kernel)
theorem xw34 : lkw 3 (23, 4, 201, 0) ∈ XU := gm4 39 (by decide +kernel) (by decide +kernel)
theorem xw35 : lkw 3 (29, 0, 2, 3) ∈ XU := gm1 75 (by decide +kernel) (by decide +kernel)
theorem xw36 : lkw 3 (32, 4, 31, 0) ∈ XU := gm2 132 (by decide +kernel) (by decide +kernel)
theorem xw37 : lkw 3 (35, 4, 9, 0) ∈ XU := gm2 26 (by decide +kernel) (by decide +kernel)
theorem xw38 : lkw 3 (41, 4, 10, 0) ∈ XU := gm2 29 (by decide +kernel) (by decide +kernel)
theorem xw39 : lkw 3 (44, 4, 11, 0) ∈ XU := gm2 7 (by decide +kernel) (by decide +kernel)
theorem xw40 : lkw 3 (48, 4, 56, 0) ∈ XU := gm2 8 (by decide +kernel) (by decide +kernel)
theorem xw41 : lkw 3 (53, 4, 32, 0) ∈ XU := gm2 32 (by decide +kernel) (by decide +kernel)
theorem xw42 : lkw 3 (57, 4, 33, 0) ∈ XU := gm2 33 (by decide +kernel) (by decide +kernel)
theorem xw43 : lkw 3 (60, 4, 34, 0) ∈ XU := gm2 41 (by decide +kernel) (by decide +kernel)
theorem xw44 : lkw 3 (63, 4, 62, 0) ∈ XU := gm2 12 (by decide +kernel) (by decide +kernel)
theorem xw45 : lkw 3 (66, 4, 28, 0) ∈ XU := gm2 37 (by decide +kernel) (by decide +kernel)
theorem xw46 : lkw 3 (70, 4, 15, 0) ∈ XU := gm2 45 (by decide +kernel) (by decide +kernel)
theorem lk_ok3 : ∀ e ∈ lk3, lkw 3 e ∈ XU ∨ (8 ≤ e.2.1 ∧ lkw 3 e ∈ tables_1) := List.forall_mem_cons.mpr ⟨Or.inl xw30, List.forall_mem_cons.mpr ⟨Or.inl xw31, List.forall_mem_cons.mpr ⟨Or.inl xw32, List.forall_mem_cons.mpr ⟨Or.inl xw33, List.forall_mem_cons.mpr ⟨Or.inl xw34, List.forall_mem_cons.mpr ⟨Or.inl xw35, List.forall_mem_cons.mpr ⟨Or.inl xw36, List.forall_mem_cons.mpr ⟨Or.inl xw37, List.forall_mem_cons.mpr ⟨Or.inl xw38, List.forall_mem_cons.mpr ⟨Or.inl xw39, List.forall_mem_cons.mpr ⟨Or.inl xw40, List.forall_mem_cons.mpr ⟨Or.inl xw41, List.forall_mem_cons.mpr ⟨Or.inl xw42, List.forall_mem_cons.mpr ⟨Or.inl xw43, List.forall_mem_cons.mpr ⟨Or.inl xw44, List.forall_mem_cons.mpr ⟨Or.inl xw45, List.forall_mem_cons.mpr ⟨Or.inl xw46, fun _ h => absurd h List.not_mem_nil⟩⟩⟩⟩⟩⟩⟩⟩⟩⟩⟩⟩⟩⟩⟩⟩⟩
theorem xw47 : lkw 4 (3, 2, 0, 0) ∈ XU := gm1 180 (by decide +kernel) (by decide +kernel)
theorem xw48 : lkw 4 (11, 0, 3, 0) ∈ XU := gm1 181 (by decide +kernel) (by decide +kernel)
theorem xw49 : lkw 4 (15, 0, 3, 2) ∈ XU := gm1 183 (by decide +kernel) (by decide +kernel)
theorem xw50 : lkw 4 (19, 0, 3, 1) ∈ XU := gm1 182 (by decide +kernel) (by decide +kernel)
theorem xw51 : lkw 4 (22, 4, 36, 0) ∈ XU := gm4 216 (by decide +kernel) (by decide +kernel)
theorem xw52 : lkw 4 (26, 4, 42, 0) ∈ XU := gm4 217 (by decide +kernel) (by decide +kernel)
theorem xw53 : lkw 4 (29, 4, 30, 0) ∈ XU := gm2 128 (by decide +kernel) (by decide +kernel)
theorem lk_ok4 : ∀ e ∈ lk4, lkw 4 e ∈ XU ∨ (8 ≤ e.2.1 ∧ lkw 4 e ∈ tables_1) := List.forall_mem_cons.mpr ⟨Or.inl xw47, List.forall_mem_cons.mpr ⟨Or.inl xw48, List.forall_mem_cons.mpr ⟨Or.inl xw49, List.forall_mem_cons.mpr ⟨Or.inl xw50, List.forall_mem_cons.mpr ⟨Or.inl xw51, List.forall_mem_cons.mpr ⟨Or.inl xw52, List.forall_mem_cons.mpr ⟨Or.inl xw53, fun _ h => absurd h List.not_mem_nil⟩⟩⟩⟩⟩⟩⟩
theorem xw54 : lkw 5 (9, 7, 16777215, 0) ∈ XU := gm2 197 (by decide +kernel) (by decide +kernel)
theorem lk_ok5 : ∀ e ∈ lk5, lkw 5 e ∈ XU ∨ (8 ≤ e.2.1 ∧ lkw 5 e ∈ tables_1) := List.forall_mem_cons.mpr ⟨Or.inl xw54, fun _ h => absurd h List.not_mem_nil⟩
theorem xw55 : lkw 6 (3, 2, 0, 0) ∈ XU := gm1 112 (by decide +kernel) (by decide +kernel)
theorem xw56 : lkw 6 (9, 5, 0, 0) ∈ XU := gm1 113 (by decide +kernel) (by decide +kernel)
theorem xw57 : lkw 6 (11, 4, 0, 0) ∈ XU := gm1 115 (by decide +kernel) (by decide +kernel)
theorem xw58 : lkw 6 (12, 0, 4, 2) ∈ XU := gm1 128 (by decide +kernel) (by decide +kernel)
theorem xw59 : lkw 6 (18, 0, 4, 3) ∈ XU := gm1 129 (by decide +kernel) (by decide +kernel)
theorem xw60 : lkw 6 (22, 0, 4, 0) ∈ XU := gm1 126 (by decide +kernel) (by decide +kernel)
theorem xw61 : lkw 6 (26, 0, 4, 1) ∈ XU := gm1 127 (by decide +kernel) (by decide +kernel)
theorem xw62 : lkw 6 (30, 4, 5, 0) ∈ XU := gm2 151 (by decide +kernel) (by decide +kernel)
theorem xn63 : lkw 6 (33, 8, 0, 0) ∈ tables_1 := pm2 152 (by decide +kernel)
theorem xw64 : lkw 6 (37, 4, 8, 0) ∈ XU := gm2 153 (by decide +kernel) (by decide +kernel)
theorem xw65 : lkw 6 (43, 4, 49, 0) ∈ XU := gm2 154 (by decide +kernel) (by decide +kernel)
theorem xw66 : lkw 6 (47, 4, 14, 0) ∈ XU := gm2 158 (by decide +kernel) (by decide +kernel)
theorem xw67 : lkw 6 (51, 4, 51, 0) ∈ XU := gm2 161 (by decide +kernel) (by decide +kernel)
theorem xw68 : lkw 6 (55, 4, 16, 0) ∈ XU := gm2 169 (by decide +kernel) (by decide +kernel)
theorem xw69 : lkw 6 (59, 4, 50, 0) ∈ XU := gm2 173 (by decide +kernel) (by decide +kernel)
theorem xw70 : lkw 6 (62, 4, 31, 0) ∈ XU := gm2 165 (by decide +kernel) (by decide +kernel)
theorem xw71 : lkw 6 (68, 4, 21, 0) ∈ XU := gm2 166 (by decide +kernel) (by decide +kernel)
theorem xw72 : lkw 6 (73, 4, 43, 0) ∈ XU := gm2 167 (by decide +kernel) (by decide +kernel)
theorem xw73 : lkw 6 (79, 4, 7, 0) ∈ XU := gm2 177 (by decide +kernel) (by decide +kernel)
theorem xw74 : lkw 6 (83, 4, 6, 0) ∈ XU := gm2 168 (by decide +kernel) (by decide +kernel)
theorem lk_ok6 : ∀ e ∈ lk6, lkw 6 e ∈ XU ∨ (8 ≤ e.2.1 ∧ lkw 6 e ∈ tables_1) := List.forall_mem_cons.mpr ⟨Or.inl xw55, List.forall_mem_cons.mpr ⟨Or.inl xw56, List.forall_mem_cons.mpr ⟨Or.inl xw57, List.forall_mem_cons.mpr ⟨Or.inl xw58, List.forall_mem_cons.mpr ⟨Or.inl xw59, List.forall_mem_cons.mpr ⟨Or.inl xw60, List.forall_mem_cons.mpr ⟨Or.inl xw61, List.forall_mem_cons.mpr ⟨Or.inl xw62, List.forall_mem_cons.mpr ⟨Or.inr ⟨by decide, xn63⟩, List.forall_mem_cons.mpr ⟨Or.inl xw64, List.forall_mem_cons.mpr ⟨Or.inl xw65, List.forall_mem_cons.mpr ⟨Or.inl xw66, List.forall_mem_cons.mpr ⟨Or.inl xw67, List.forall_mem_cons.mpr ⟨Or.inl xw68, List.forall_mem_cons.mpr ⟨Or.inl xw69, List.forall_mem_cons.mpr ⟨Or.inl xw70, List.forall_mem_cons.mpr ⟨Or.inl xw71, List.forall_mem_cons.mpr ⟨Or.inl xw72, List.forall_mem_cons.mpr ⟨Or.inl xw73, List.forall_mem_cons.mpr ⟨Or.inl xw74, fun _ h => absurd h List.not_mem_nil⟩⟩⟩⟩⟩⟩⟩⟩⟩⟩⟩⟩⟩⟩⟩⟩⟩⟩⟩⟩
theorem xw75 : lkw 7 (3, 2, 0, 0) ∈ XU := gm1 38 (by decide +kernel) (by decide +kernel)
theorem xw76 : lkw 7 (9, 0, 5, 0) ∈ XU := gm1 39 (by decide +kernel) (by decide +kernel)
theorem xw77 : lkw 7 (15, 0, 5, 1) ∈ XU := gm1 40 (by decide +kernel) (by decide +kernel)
theorem xw78 : lkw 7 (18, 0, 5, 2) ∈ XU := gm1 41 (by decide +kernel) (by decide +kernel)
theorem xw79 : lkw 7 (21, 0, 5, 3) ∈ XU := gm1 42 (by decide +kernel) (by decide +kernel)
theorem xw80 : lkw 7 (24, 0, 5, 4) ∈ XU := gm1 43 (by decide +kernel) (by decide +kernel)
theorem xw81 : lkw 7 (27, 0, 5, 5) ∈ XU := gm1 44 (by decide +kernel) (by decide +kernel)
theorem xw82 : lkw 7 (31, 0, 5, 6) ∈ XU := gm1 45 (by decide +kernel) (by decide +kernel)
theorem xw83 : lkw 7 (34, 0, 5, 7) ∈ XU := gm1 46 (by decide +kernel) (by decide +kernel)
theorem xw84 : lkw 7 (38, 4, 54, 0) ∈ XU := gm3 86 (by decide +kernel) (by decide +kernel)
theorem xn85 : lkw 7 (42, 9, 121, 0) ∈ tables_1 := pm2 63 (by decide +kernel)
theorem xw86 : lkw 7 (45, 4, 62, 0) ∈ XU := gm4 143 (by decide +kernel) (by decide +kernel)
theorem xw87 : lkw 7 (48, 4, 68, 0) ∈ XU := gm3 82 (by decide +kernel) (by decide +kernel)
theorem xw88 : lkw 7 (52, 4, 69, 0) ∈ XU := gm3 90 (by decide +kernel) (by decide +kernel)
theorem xw89 : lkw 7 (55, 4, 55, 0) ∈ XU := gm3 98 (by decide +kernel) (by decide +kernel)
theorem xw90 : lkw 7 (59, 4, 70, 0) ∈ XU := gm3 94 (by decide +kernel) (by decide +kernel)
theorem xw91 : lkw 7 (63, 4, 71, 0) ∈ XU := gm3 102 (by decide +kernel) (by decide +kernel)
theorem xw92 : lkw 7 (67, 4, 72, 0) ∈ XU := gm3 106 (by decide +kernel) (by decide +kernel)
theorem lk_ok7 : ∀ e ∈ lk7, lkw 7 e ∈ XU ∨ (8 ≤ e.2.1 ∧ lkw 7 e ∈ tables_1) := List.forall_mem_cons.mpr ⟨Or.inl xw75, List.forall_mem_cons.mpr ⟨Or.inl xw76, List.forall_mem_cons.mpr ⟨Or.inl xw77, List.forall_mem_cons.mpr ⟨Or.inl xw78, List.forall_mem_cons.mpr ⟨Or.inl xw79, List.forall_mem_cons.mpr ⟨Or.inl xw80, List.forall_mem_cons.mpr ⟨Or.inl xw81, List.forall_mem_cons.mpr ⟨Or.inl xw82, List.forall_mem_cons.mpr ⟨Or.inl xw83, List.forall_mem_cons.mpr ⟨Or.inl xw84, List.forall_mem_cons.mpr ⟨Or.inr ⟨by decide, xn85⟩, List.forall_mem_cons.mpr ⟨Or.inl xw86, List.forall_mem_cons.mpr ⟨Or.inl xw87, List.forall_mem_cons.mpr ⟨Or.inl xw88, List.forall_mem_cons.mpr ⟨Or.inl xw89, List.forall_mem_cons.mpr ⟨Or.inl xw90, List.forall_mem_cons.mpr ⟨Or.inl xw91, List.forall_mem_cons.mpr ⟨Or.inl xw92, fun _ h => absurd h List.not_mem_nil⟩⟩⟩⟩⟩⟩⟩⟩⟩⟩⟩⟩⟩⟩⟩⟩⟩⟩
theorem xw93 : lkw 8 (3, 2, 0, 0) ∈ XU := gm1 144 (by decide +kernel) (by decide +kernel)
theorem xw94 : lkw 8 (9, 5, 0, 0) ∈ XU := gm1 145 (by decide +kernel) (by decide +kernel)
theorem xw95 : lkw 8 (11, 4, 0, 0) ∈ XU := gm1 146 (by decide +kernel) (by decide +kernel)
theorem xw96 : lkw 8 (12, 0, 6, 2) ∈ XU := gm1 158 (by decide +kernel) (by decide +kernel)
theorem xw97 : lkw 8 (18, 0, 6, 0) ∈ XU := gm1 156 (by decide +kernel) (by decide +kernel)
theorem xw98 : lkw 8 (22, 0, 6, 1) ∈ XU := gm1 157 (by decide +kernel) (by decide +kernel)
theorem xw99 : lkw 8 (26, 4, 80, 0) ∈ XU := gm1 147 (by decide +kernel) (by decide +kernel)
theorem xw100 : lkw 8 (30, 0, 6, 3) ∈ XU := gm1 159 (by decide +kernel) (by decide +kernel)
theorem xw101 : lkw 8 (34, 0, 6, 4) ∈ XU := gm1 160 (by decide +kernel) (by decide +kernel)
theorem xw102 : lkw 8 (38, 4, 21, 0) ∈ XU := gm2 48 (by decide +kernel) (by decide +kernel)
theorem xw103 : lkw 8 (44, 4, 43, 0) ∈ XU := gm2 93 (by decide +kernel) (by decide +kernel)
theorem xw104 : lkw 8 (50, 4, 78, 0) ∈ XU := gm1 235 (by decide +kernel) (by decide +kernel)
theorem xw105 : lkw 8 (54, 0, 6, 5) ∈ XU := gm1 161 (by decide +kernel) (by decide +kernel)
theorem xw106 : lkw 8 (57, 4, 5, 0) ∈ XU := gm1 239 (by decide +kernel) (by decide +kernel)
theorem xw107 : lkw 8 (60, 4, 32, 0) ∈ XU := gm2 3 (by decide +kernel) (by decide +kernel)
theorem xw108 : lkw 8 (66, 4, 79, 0) ∈ XU := gm2 15 (by decide +kernel) (by decide +kernel)
theorem xn109 : lkw 8 (70, 8, 0, 0) ∈ tables_1 := pm2 19 (by decide +kernel)
theorem xw110 : lkw 8 (74, 4, 8, 0) ∈ XU := gm2 21 (by decide +kernel) (by decide +kernel)
theorem xw111 : lkw 8 (80, 4, 31, 0) ∈ XU := gm2 22 (by decide +kernel) (by decide +kernel)
theorem xw112 : lkw 8 (83, 4, 7, 0) ∈ XU := gm2 96 (by decide +kernel) (by decide +kernel)
theorem xw113 : lkw 8 (86, 4, 17, 0) ∈ XU := gm1 150 (by decide +kernel) (by decide +kernel)
theorem lk_ok8 : ∀ e ∈ lk8, lkw 8 e ∈ XU ∨ (8 ≤ e.2.1 ∧ lkw 8 e ∈ tables_1) := List.forall_mem_cons.mpr ⟨Or.inl xw93, List.forall_mem_cons.mpr ⟨Or.inl xw94, List.forall_mem_cons.mpr ⟨Or.inl xw95, List.forall_mem_cons.mpr ⟨Or.inl xw96, List.forall_mem_cons.mpr ⟨Or.inl xw97, List.forall_mem_cons.mpr ⟨Or.inl xw98, List.forall_mem_cons.mpr ⟨Or.inl xw99, List.forall_mem_cons.mpr ⟨Or.inl xw100, List.forall_mem_cons.mpr ⟨Or.inl xw101, List.forall_mem_cons.mpr ⟨Or.inl xw102, List.forall_mem_cons.mpr ⟨Or.inl xw103, List.forall_mem_cons.mpr ⟨Or.inl xw104, List.forall_mem_cons.mpr ⟨Or.inl xw105, List.forall_mem_cons.mpr ⟨Or.inl xw106, List.forall_mem_cons.mpr ⟨Or.inl xw107, List.forall_mem_cons.mpr ⟨Or.inl xw108, List.forall_mem_cons.mpr ⟨Or.inr ⟨by decide, xn109⟩, List.forall_mem_cons.mpr ⟨Or.inl xw110, List.forall_mem_cons.mpr ⟨Or.inl xw111, List.forall_mem_cons.mpr ⟨Or.inl xw112, List.forall_mem_cons.mpr ⟨Or.inl xw113, fun _ h => absurd h List.not_mem_nil⟩⟩⟩⟩⟩⟩⟩⟩⟩⟩⟩⟩⟩⟩⟩⟩⟩⟩⟩⟩⟩
theorem xw114 : lkw 9 (1, 2, 0, 0) ∈ XU := gm1 30 (by decide +kernel) (by decide +kernel)
theorem xw115 : lkw 9 (7, 5, 5, 0) ∈ XU := gm1 33 (by decide +kernel) (by decide +kernel)
theorem xw116 : lkw 9 (9, 4, 52, 0) ∈ XU := gm1 35 (by decide +kernel) (by decide +kernel)
theorem xw117 : lkw 9 (10, 0, 7, 0) ∈ XU := gm1 194 (by decide +kernel) (by decide +kernel)
theorem xw118 : lkw 9 (16, 5, 2, 0) ∈ XU := gm1 66 (by decide +kernel) (by decide +kernel)
theorem xw119 : lkw 9 (18, 4, 25, 0) ∈ XU := gm1 68 (by decide +kernel) (by decide +kernel)
theorem xw120 : lkw 9 (21, 0, 7, 1) ∈ XU := gm1 195 (by decide +kernel) (by decide +kernel)
theorem xw121 : lkw 9 (25, 5, 1, 0) ∈ XU := gm1 85 (by decide +kernel) (by decide +kernel)
theorem xw122 : lkw 9 (27, 4, 18, 0) ∈ XU := gm1 87 (by decide +kernel) (by decide +kernel)
theorem xw123 : lkw 9 (28, 0, 7, 2) ∈ XU := gm1 196 (by decide +kernel) (by decide +kernel)
theorem xw124 : lkw 9 (32, 5, 4, 0) ∈ XU := gm1 107 (by decide +kernel) (by decide +kernel)
theorem xw125 : lkw 9 (34, 4, 46, 0) ∈ XU := gm1 109 (by decide +kernel) (by decide +kernel)
theorem xw126 : lkw 9 (37, 0, 7, 3) ∈ XU := gm1 197 (by decide +kernel) (by decide +kernel)
theorem xw127 : lkw 9 (41, 5, 6, 0) ∈ XU := gm1 139 (by decide +kernel) (by decide +kernel)
theorem xw128 : lkw 9 (43, 4, 73, 0) ∈ XU := gm1 141 (by decide +kernel) (by decide +kernel)
theorem xw129 : lkw 9 (44, 0, 7, 4) ∈ XU := gm1 198 (by decide +kernel) (by decide +kernel)
theorem xw130 : lkw 9 (48, 5, 3, 0) ∈ XU := gm1 175 (by decide +kernel) (by decide +kernel)
theorem xw131 : lkw 9 (50, 4, 35, 0) ∈ XU := gm1 177 (by decide +kernel) (by decide +kernel)
theorem xw132 : lkw 9 (51, 0, 7, 5) ∈ XU := gm1 199 (by decide +kernel) (by decide +kernel)
theorem xw133 : lkw 9 (55, 0, 7, 6) ∈ XU := gm1 200 (by decide +kernel) (by decide +kernel)
theorem xw134 : lkw 9 (59, 4, 8, 0) ∈ XU := gm1 191 (by decide +kernel) (by decide +kernel)
theorem xw135 : lkw 9 (65, 0, 7, 7) ∈ XU := gm1 201 (by decide +kernel) (by decide +kernel)
theorem xw136 : lkw 9 (68, 4, 120, 0) ∈ XU := gm2 227 (by decide +kernel) (by decide +kernel)
theorem xw137 : lkw 9 (72, 5, 100, 0) ∈ XU := gm2 230 (by decide +kernel) (by decide +kernel)
theorem xw138 : lkw 9 (79, 4, 53, 0) ∈ XU := gm1 223 (by decide +kernel) (by decide +kernel)
theorem xw139 : lkw 9 (83, 5, 101, 0) ∈ XU := gm3 62 (by decide +kernel) (by decide +kernel)
theorem xw140 : lkw 9 (88, 4, 64, 0) ∈ XU := gm3 78 (by decide +kernel) (by decide +kernel)
theorem xw141 : lkw 9 (92, 4, 47, 0) ∈ XU := gm3 109 (by decide +kernel) (by decide +kernel)
theorem xw142 : lkw 9 (95, 4, 54, 0) ∈ XU := gm3 144 (by decide +kernel) (by decide +kernel)
theorem xw143 : lkw 9 (98, 5, 102, 0) ∈ XU := gm3 145 (by decide +kernel) (by decide +kernel)
theorem xw144 : lkw 9 (103, 4, 65, 0) ∈ XU := gm3 158 (by decide +kernel) (by decide +kernel)
theorem xw145 : lkw 9 (107, 4, 121, 0) ∈ XU := gm3 169 (by decide +kernel) (by decide +kernel)
theorem xw146 : lkw 9 (114, 4, 55, 0) ∈ XU := gm3 172 (by decide +kernel) (by decide +kernel)
theorem xw147 : lkw 9 (118, 4, 66, 0) ∈ XU := gm3 173 (by decide +kernel) (by decide +kernel)
theorem xw148 : lkw 9 (122, 4, 124, 0) ∈ XU := gm3 184 (by decide +kernel) (by decide +kernel)
theorem xw149 : lkw 9 (125, 4, 59, 0) ∈ XU := gm3 188 (by decide +kernel) (by decide +kernel)
theorem xw150 : lkw 9 (129, 4, 60, 0) ∈ XU := gm3 196 (by decide +kernel) (by decide +kernel)
theorem xw151 : lkw 9 (133, 4, 58, 0) ∈ XU := gm3 221 (by decide +kernel) (by decide +kernel)
theorem xw152 : lkw 9 (136, 5, 103, 0) ∈ XU := gm3 225 (by decide +kernel) (by decide +kernel)
theorem xw153 : lkw 9 (143, 4, 56, 0) ∈ XU := gm4 3 (by decide +kernel) (by decide +kernel)
theorem xw154 : lkw 9 (148, 4, 67, 0) ∈ XU := gm4 12 (by decide +kernel) (by decide +kernel)
theorem xw155 : lkw 9 (152, 4, 57, 0) ∈ XU := gm4 23 (by decide +kernel) (by decide +kernel)
theorem xw156 : lkw 9 (157, 4, 26, 0) ∈ XU := gm4 35 (by decide +kernel) (by decide +kernel)
theorem xw157 : lkw 9 (161, 4, 123, 0) ∈ XU := gm4 47 (by decide +kernel) (by decide +kernel)
theorem xw158 : lkw 9 (167, 4, 27, 0) ∈ XU := gm4 51 (by decide +kernel) (by decide +kernel)
theorem xw159 : lkw 9 (171, 4, 126, 0) ∈ XU := gm4 62 (by decide +kernel) (by decide +kernel)
theorem xw160 : lkw 9 (174, 4, 28, 0) ∈ XU := gm4 72 (by decide +kernel) (by decide +kernel)
theorem xw161 : lkw 9 (180, 4, 29, 0) ∈ XU := gm4 74 (by decide +kernel) (by decide +kernel)
theorem xw162 : lkw 9 (185, 4, 19, 0) ∈ XU := gm4 93 (by decide +kernel) (by decide +kernel)
theorem xw163 : lkw 9 (192, 4, 20, 0) ∈ XU := gm4 99 (by decide +kernel) (by decide +kernel)
theorem xw164 : lkw 9 (195, 4, 77, 0) ∈ XU := gm1 231 (by decide +kernel) (by decide +kernel)
theorem xw165 : lkw 9 (198, 4, 75, 0) ∈ XU := gm2 108 (by decide +kernel) (by decide +kernel)
theorem xw166 : lkw 9 (201, 4, 48, 0) ∈ XU := gm2 147 (by decide +kernel) (by decide +kernel)
theorem xw167 : lkw 9 (205, 4, 127, 0) ∈ XU := gm4 112 (by decide +kernel) (by decide +kernel)
theorem xw168 : lkw 9 (209, 4, 3, 0) ∈ XU := gm2 214 (by decide +kernel) (by decide +kernel)
theorem xw169 : lkw 9 (214, 4, 44, 0) ∈ XU := gm2 215 (by decide +kernel) (by decide +kernel)
theorem xw170 : lkw 9 (220, 4, 63, 0) ∈ XU := gm4 139 (by decide +kernel) (by decide +kernel)
theorem xw171 : lkw 9 (223, 5, 105, 0) ∈ XU := gm4 144 (by decide +kernel) (by decide +kernel)
theorem xw172 : lkw 9 (228, 4, 74, 0) ∈ XU := gm2 205 (by decide +kernel) (by decide +kernel)
theorem xw173 : lkw 9 (229, 4, 4, 0) ∈ XU := gm2 186 (by decide +kernel) (by decide +kernel)
theorem xw174 : lkw 9 (232, 4, 9, 0) ∈ XU := gm4 167 (by decide +kernel) (by decide +kernel)
theorem xw175 : lkw 9 (236, 4, 10, 0) ∈ XU := gm4 175 (by decide +kernel) (by decide +kernel)
theorem xw176 : lkw 9 (239, 4, 125, 0) ∈ XU := gm4 65 (by decide +kernel) (by decide +kernel)
theorem xw177 : lkw 9 (242, 4, 11, 0) ∈ XU := gm4 183 (by decide +kernel) (by decide +kernel)
theorem xw178 : lkw 9 (247, 4, 2, 0) ∈ XU := gm2 213 (by decide +kernel) (by decide +kernel)
theorem xw179 : lkw 9 (250, 5, 104, 0) ∈ XU := gm4 115 (by decide +kernel) (by decide +kernel)
theorem xw180 : lkw 9 (255, 4, 36, 0) ∈ XU := gm4 200 (by decide +kernel) (by decide +kernel)
theorem xw181 : lkw 9 (259, 4, 37, 0) ∈ XU := gm4 204 (by decide +kernel) (by decide +kernel)
theorem xw182 : lkw 9 (262, 4, 130, 0) ∈ XU := gm4 208 (by decide +kernel) (by decide +kernel)
theorem xw183 : lkw 9 (266, 4, 39, 0) ∈ XU := gm4 212 (by decide +kernel) (by decide +kernel)
theorem xw184 : lkw 9 (269, 4, 128, 0) ∈ XU := gm4 228 (by decide +kernel) (by decide +kernel)
theorem xw185 : lkw 9 (272, 4, 38, 0) ∈ XU := gm2 116 (by decide +kernel) (by decide +kernel)
theorem xw186 : lkw 9 (277, 4, 40, 0) ∈ XU := gm5 15 (by decide +kernel) (by decide +kernel)
theorem xw187 : lkw 9 (280, 4, 41, 0) ∈ XU := gm2 124 (by decide +kernel) (by decide +kernel)
theorem xw188 : lkw 9 (284, 4, 12, 0) ∈ XU := gm5 26 (by decide +kernel) (by decide +kernel)
theorem xw189 : lkw 9 (290, 4, 13, 0) ∈ XU := gm5 38 (by decide +kernel) (by decide +kernel)
theorem xw190 : lkw 9 (293, 4, 16, 0) ∈ XU := gm5 48 (by decide +kernel) (by decide +kernel)
theorem xw191 : lkw 9 (298, 4, 14, 0) ∈ XU := gm5 50 (by decide +kernel) (by decide +kernel)
theorem xw192 : lkw 9 (302, 4, 31, 0) ∈ XU := gm2 137 (by decide +kernel) (by decide +kernel)
theorem xw193 : lkw 9 (305, 4, 22, 0) ∈ XU := gm2 142 (by decide +kernel) (by decide +kernel)
theorem xw194 : lkw 9 (308, 4, 129, 0) ∈ XU := gm5 58 (by decide +kernel) (by decide +kernel)
theorem xw195 : lkw 9 (311, 4, 21, 0) ∈ XU := gm2 203 (by decide +kernel) (by decide +kernel)
theorem xw196 : lkw 9 (313, 4, 76, 0) ∈ XU := gm5 70 (by decide +kernel) (by decide +kernel)
theorem xw197 : lkw 9 (316, 4, 131, 0) ∈ XU := gm2 178 (by decide +kernel) (by decide +kernel)
theorem xw198 : lkw 9 (320, 4, 132, 0) ∈ XU := gm2 199 (by decide +kernel) (by decide +kernel)
theorem xw199 : lkw 9 (323, 4, 133, 0) ∈ XU := gm2 209 (by decide +kernel) (by decide +kernel)
theorem xw200 : lkw 9 (329, 4, 122, 0) ∈ XU := gm4 68 (by decide +kernel) (by decide +kernel)
theorem xw201 : lkw 9 (338, 4, 30, 0) ∈ XU := gm2 198 (by decide +kernel) (by decide +kernel)
theorem xw202 : lkw 9 (343, 4, 1, 0) ∈ XU := gm2 182 (by decide +kernel) (by decide +kernel)
theorem xw203 : lkw 9 (346, 4, 43, 0) ∈ XU := gm2 204 (by decide +kernel) (by decide +kernel)
theorem lk_ok9 : ∀ e ∈ lk9, lkw 9 e ∈ XU ∨ (8 ≤ e.2.1 ∧ lkw 9 e ∈ tables_1) := List.forall_mem_cons.mpr ⟨Or.inl xw114, List.forall_mem_cons.mpr ⟨Or.inl xw115, List.forall_mem_cons.mpr ⟨Or.inl xw116, List.forall_mem_cons.mpr ⟨Or.inl xw117, List.forall_mem_cons.mpr ⟨Or.inl xw118, List.forall_mem_cons.mpr ⟨Or.inl xw119, List.forall_mem_cons.mpr ⟨Or.inl xw120, List.forall_mem_cons.mpr ⟨Or.inl xw121, List.forall_mem_cons.mpr ⟨Or.inl xw122, List.forall_mem_cons.mpr ⟨Or.inl xw123, List.forall_mem_cons.mpr ⟨Or.inl xw124, List.forall_mem_cons.mpr ⟨Or.inl xw125, List.forall_mem_cons.mpr ⟨Or.inl xw126, List.forall_mem_cons.mpr ⟨Or.inl xw127, List.forall_mem_cons.mpr ⟨Or.inl xw128, List.forall_mem_cons.mpr ⟨Or.inl xw129, List.forall_mem_cons.mpr ⟨Or.inl xw130, List.forall_mem_cons.mpr ⟨Or.inl xw131, List.forall_mem_cons.mpr ⟨Or.inl xw132, List.forall_mem_cons.mpr ⟨Or.inl xw133, List.forall_mem_cons.mpr ⟨Or.inl xw134, List.forall_mem_cons.mpr ⟨Or.inl xw135, List.forall_mem_cons.mpr ⟨Or.inl xw136, List.forall_mem_cons.mpr ⟨Or.inl xw137, List.forall_mem_cons.mpr ⟨Or.inl xw138, List.forall_mem_cons.mpr ⟨Or.inl xw139, List.forall_mem_cons.mpr ⟨Or.inl xw140, List.forall_mem_cons.mpr ⟨Or.inl xw141, List.forall_mem_cons.mpr ⟨Or.inl xw142, List.forall_mem_cons.mpr ⟨Or.inl xw143, List.forall_mem_cons.mpr ⟨Or.inl xw144, List.forall_mem_cons.mpr ⟨Or.inl xw145, List.forall_mem_cons.mpr ⟨Or.inl xw146, List.forall_mem_cons.mpr ⟨Or.inl xw147, List.forall_mem_cons.mpr ⟨Or.inl xw148, List.forall_mem_cons.mpr ⟨Or.inl xw149, List.forall_mem_cons.mpr ⟨Or.inl xw150, List.forall_mem_cons.mpr ⟨Or.inl xw151, List.forall_mem_cons.mpr ⟨Or.inl xw152, List.forall_mem_cons.mpr ⟨Or.inl xw153, List.forall_mem_cons.mpr ⟨Or.inl xw154, List.forall_mem_cons.mpr ⟨Or.inl xw155, List.forall_mem_cons.mpr ⟨Or.inl xw156, List.forall_mem_cons.mpr ⟨Or.inl xw157, List.forall_mem_cons.mpr ⟨Or.inl xw158, List.forall_mem_cons.mpr ⟨Or.inl xw159, List.forall_mem_cons.mpr ⟨Or.inl xw160, List.forall_mem_cons.mpr ⟨Or.inl xw161, List.forall_mem_cons.mpr ⟨Or.inl xw162, List.forall_mem_cons.mpr ⟨Or.inl xw163, List.forall_mem_cons.mpr ⟨Or.inl xw164, List.forall_mem_cons.mpr ⟨Or.inl xw165, List.forall_mem_cons.mpr ⟨Or.inl xw166, List.forall_mem_cons.mpr ⟨Or.inl xw167, List.forall_mem_cons.mpr ⟨Or.inl xw168, List.forall_mem_cons.mpr ⟨Or.inl xw169, List.forall_mem_cons.mpr ⟨Or.inl xw170, List.forall_mem_cons.mpr ⟨Or.inl xw171, List.forall_mem_cons.mpr ⟨Or.inl xw172, List.forall_mem_cons.mpr ⟨Or.inl xw173, List.forall_mem_cons.mpr ⟨Or.inl xw174, List.forall_mem_cons.mpr ⟨Or.inl xw175, List.forall_mem_cons.mpr ⟨Or.inl xw176, List.forall_mem_cons.mpr ⟨Or.inl xw177, List.forall_mem_cons.mpr ⟨Or.inl xw178, List.forall_mem_cons.mpr ⟨Or.inl xw179, List.forall_mem_cons.mpr ⟨Or.inl xw180, List.forall_mem_cons.mpr ⟨Or.inl xw181, List.forall_mem_cons.mpr ⟨Or.inl xw182, List.forall_mem_cons.mpr ⟨Or.inl xw183, List.forall_mem_cons.mpr ⟨Or.inl xw184, List.forall_mem_cons.mpr ⟨Or.inl xw185, List.forall_mem_cons.mpr ⟨Or.inl xw186, List.forall_mem_cons.mpr ⟨Or.inl xw187, List.forall_mem_cons.mpr ⟨Or.inl xw188, List.forall_mem_cons.mpr ⟨Or.inl xw189, List.forall_mem_cons.mpr ⟨Or.inl xw190, List.forall_mem_cons.mpr ⟨Or.inl xw191, List.forall_mem_cons.mpr ⟨Or.inl xw192, List.forall_mem_cons.mpr ⟨Or.inl xw193, List.forall_mem_cons.mpr ⟨Or.inl xw194, List.forall_mem_cons.mpr ⟨Or.inl xw195, List.forall_mem_cons.mpr ⟨Or.inl xw196, List.forall_mem_cons.mpr ⟨Or.inl xw197, List.forall_mem_cons.mpr ⟨Or.inl xw198, List.forall_mem_cons.mpr ⟨Or.inl xw199, List.forall_mem_cons.mpr ⟨Or.inl xw200, List.forall_mem_cons.mpr ⟨Or.inl xw201, List.forall_mem_cons.mpr ⟨Or.inl xw202, List.forall_mem_cons.mpr ⟨Or.inl xw203, fun _ h => absurd h List.not_mem_nil⟩⟩⟩⟩⟩⟩⟩⟩⟩⟩⟩⟩⟩⟩⟩⟩⟩⟩⟩⟩⟩⟩⟩⟩⟩⟩⟩⟩⟩⟩⟩⟩⟩⟩⟩⟩⟩⟩⟩⟩⟩⟩⟩⟩⟩⟩⟩⟩⟩⟩⟩⟩⟩⟩⟩⟩⟩⟩⟩⟩⟩⟩⟩⟩⟩⟩⟩⟩⟩⟩⟩⟩⟩⟩⟩⟩⟩⟩⟩⟩⟩⟩⟩⟩⟩⟩⟩⟩⟩⟩
theorem xw204 : lkw 10 (1, 2, 0, 0) ∈ XU := gm5 79 (by decide +kernel) (by decide +kernel)
theorem xw205 : lkw 10 (7, 0, 8, 0) ∈ XU := gm5 80 (by decide +kernel) (by decide +kernel)
theorem xw206 : lkw 10 (13, 0, 8, 1) ∈ XU := gm5 81 (by decide +kernel) (by decide +kernel)
theorem xw207 : lkw 10 (16, 0, 8, 2) ∈ XU := gm5 82 (by decide +kernel) (by decide +kernel)
theorem xw208 : lkw 10 (19, 0, 8, 3) ∈ XU := gm5 83 (by decide +kernel) (by decide +kernel)
theorem xw209 : lkw 10 (22, 0, 8, 4) ∈ XU := gm5 84 (by decide +kernel) (by decide +kernel)
theorem xw210 : lkw 10 (25, 0, 8, 5) ∈ XU := gm5 85 (by decide +kernel) (by decide +kernel)
theorem xw211 : lkw 10 (29, 0, 8, 6) ∈ XU := gm5 86 (by decide +kernel) (by decide +kernel)
theorem xw212 : lkw 10 (32, 0, 8, 7) ∈ XU := gm5 87 (by decide +kernel) (by decide +kernel)
theorem xw213 : lkw 10 (35, 0, 8, 8) ∈ XU := gm5 88 (by decide +kernel) (by decide +kernel)
theorem xw214 : lkw 10 (38, 0, 8, 9) ∈ XU := gm5 89 (by decide +kernel) (by decide +kernel)
theorem xw215 : lkw 10 (41, 0, 8, 10) ∈ XU := gm5 90 (by decide +kernel) (by decide +kernel)
theorem xw216 : lkw 10 (44, 0, 8, 11) ∈ XU := gm5 91 (by decide +kernel) (by decide +kernel)
theorem xw217 : lkw 10 (47, 0, 8, 12) ∈ XU := gm5 92 (by decide +kernel) (by decide +kernel)
theorem xw218 : lkw 10 (50, 0, 8, 16) ∈ XU := gm5 96 (by decide +kernel) (by decide +kernel)
theorem xw219 : lkw 10 (54, 0, 8, 20) ∈ XU := gm5 100 (by decide +kernel) (by decide +kernel)
theorem xw220 : lkw 10 (58, 0, 8, 19) ∈ XU := gm5 99 (by decide +kernel) (by decide +kernel)
theorem xw221 : lkw 10 (61, 4, 136, 0) ∈ XU := gm5 162 (by decide +kernel) (by decide +kernel)
theorem xw222 : lkw 10 (65, 4, 137, 0) ∈ XU := gm5 165 (by decide +kernel) (by decide +kernel)
theorem xw223 : lkw 10 (69, 4, 139, 0) ∈ XU := gm5 159 (by decide +kernel) (by decide +kernel)
theorem xw224 : lkw 10 (73, 0, 8, 13) ∈ XU := gm5 93 (by decide +kernel) (by decide +kernel)
theorem xw225 : lkw 10 (76, 0, 8, 22) ∈ XU := gm5 102 (by decide +kernel) (by decide +kernel)
theorem xw226 : lkw 10 (80, 4, 144, 0) ∈ XU := gm5 193 (by decide +kernel) (by decide +kernel)
theorem xw227 : lkw 10 (84, 4, 138, 0) ∈ XU := gm5 185 (by decide +kernel) (by decide +kernel)
theorem xw228 : lkw 10 (87, 4, 146, 0) ∈ XU := gm5 189 (by decide +kernel) (by decide +kernel)
theorem xw229 : lkw 10 (91, 4, 148, 0) ∈ XU := gm5 201 (by decide +kernel) (by decide +kernel)
theorem xw230 : lkw 10 (95, 4, 145, 0) ∈ XU := gm5 209 (by decide +kernel) (by decide +kernel)
theorem xw231 : lkw 10 (98, 4, 152, 0) ∈ XU := gm5 225 (by decide +kernel) (by decide +kernel)
theorem xw232 : lkw 10 (101, 4, 153, 0) ∈ XU := gm5 221 (by decide +kernel) (by decide +kernel)
theorem xw233 : lkw 10 (104, 4, 158, 0) ∈ XU := gm6 5 (by decide +kernel) (by decide +kernel)
theorem xw234 : lkw 10 (108, 4, 160, 0) ∈ XU := gm6 12 (by decide +kernel) (by decide +kernel)
theorem xw235 : lkw 10 (112, 4, 165, 0) ∈ XU := gm6 40 (by decide +kernel) (by decide +kernel)
theorem xw236 : lkw 10 (116, 4, 166, 0) ∈ XU := gm6 64 (by decide +kernel) (by decide +kernel)
theorem xw237 : lkw 10 (120, 4, 169, 0) ∈ XU := gm6 44 (by decide +kernel) (by decide +kernel)
theorem xw238 : lkw 10 (124, 4, 168, 0) ∈ XU := gm6 48 (by decide +kernel) (by decide +kernel)
theorem xw239 : lkw 10 (127, 4, 170, 0) ∈ XU := gm6 36 (by decide +kernel) (by decide +kernel)
theorem xw240 : lkw 10 (130, 0, 8, 17) ∈ XU := gm5 97 (by decide +kernel) (by decide +kernel)
theorem xw241 : lkw 10 (133, 0, 8, 15) ∈ XU := gm5 95 (by decide +kernel) (by decide +kernel)
theorem xw242 : lkw 10 (136, 4, 164, 0) ∈ XU := gm6 32 (by decide +kernel) (by decide +kernel)
theorem xw243 : lkw 10 (138, 0, 8, 18) ∈ XU := gm5 98 (by decide +kernel) (by decide +kernel)
theorem xw244 : lkw 10 (141, 4, 172, 0) ∈ XU := gm6 52 (by decide +kernel) (by decide +kernel)
theorem xw245 : lkw 10 (145, 4, 174, 0) ∈ XU := gm6 56 (by decide +kernel) (by decide +kernel)
theorem xw246 : lkw 10 (149, 4, 167, 0) ∈ XU := gm6 60 (by decide +kernel) (by decide +kernel)
theorem xw247 : lkw 10 (152, 4, 171, 0) ∈ XU := gm6 68 (by decide +kernel) (by decide +kernel)
theorem xw248 : lkw 10 (155, 4, 173, 0) ∈ XU := gm6 28 (by decide +kernel) (by decide +kernel)
theorem xw249 : lkw 10 (158, 4, 176, 0) ∈ XU := gm6 76 (by decide +kernel) (by decide +kernel)
theorem xw250 : lkw 10 (162, 4, 179, 0) ∈ XU := gm6 88 (by decide +kernel) (by decide +kernel)
theorem xw251 : lkw 10 (166, 4, 182, 0) ∈ XU := gm6 99 (by decide +kernel) (by decide +kernel)
theorem xw252 : lkw 10 (169, 0, 8, 21) ∈ XU := gm5 101 (by decide +kernel) (by decide +kernel)
theorem xw253 : lkw 10 (172, 0, 8, 14) ∈ XU := gm5 94 (by decide +kernel) (by decide +kernel)
theorem xw254 : lkw 10 (175, 4, 190, 0) ∈ XU := gm6 131 (by decide +kernel) (by decide +kernel)
theorem lk_ok10 : ∀ e ∈ lk10, lkw 10 e ∈ XU ∨ (8 ≤ e.2.1 ∧ lkw 10 e ∈ tables_1) := List.forall_mem_cons.mpr ⟨Or.inl xw204, List.forall_mem_cons.mpr ⟨Or.inl xw205, List.forall_mem_cons.mpr ⟨Or.inl xw206, List.forall_mem_cons.mpr ⟨Or.inl xw207, List.forall_mem_cons.mpr ⟨Or.inl xw208, List.forall_mem_cons.mpr ⟨Or.inl xw209, List.forall_mem_cons.mpr ⟨Or.inl xw210, List.forall_mem_cons.mpr ⟨Or.inl xw211, List.forall_mem_cons.mpr ⟨Or.inl xw212, List.forall_mem_cons.mpr ⟨Or.inl xw213, List.forall_mem_cons.mpr ⟨Or.inl xw214, List.forall_mem_cons.mpr ⟨Or.inl xw215, List.forall_mem_cons.mpr ⟨Or.inl xw216, List.forall_mem_cons.mpr ⟨Or.inl xw217, List.forall_mem_cons.mpr ⟨Or.inl xw218, List.forall_mem_cons.mpr ⟨Or.inl xw219, List.forall_mem_cons.mpr ⟨Or.inl xw220, List.forall_mem_cons.mpr ⟨Or.inl xw221, List.forall_mem_cons.mpr ⟨Or.inl xw222, List.forall_mem_cons.mpr ⟨Or.inl xw223, List.forall_mem_cons.mpr ⟨Or.inl xw224, List.forall_mem_cons.mpr ⟨Or.inl xw225, List.forall_mem_cons.mpr ⟨Or.inl xw226, List.forall_mem_cons.mpr ⟨Or.inl xw227, List.forall_mem_cons.mpr ⟨Or.inl xw228, List.forall_mem_cons.mpr ⟨Or.inl xw229, List.forall_mem_cons.mpr ⟨Or.inl xw230, List.forall_mem_cons.mpr ⟨Or.inl xw231, List.forall_mem_cons.mpr ⟨Or.inl xw232, List.forall_mem_cons.mpr ⟨Or.inl xw233, List.forall_mem_cons.mpr ⟨Or.inl xw234, List.forall_mem_cons.mpr ⟨Or.inl xw235, List.forall_mem_cons.mpr ⟨Or.inl xw236, List.forall_mem_cons.mpr ⟨Or.inl xw237, List.forall_mem_cons.mpr ⟨Or.inl xw238, List.forall_mem_cons.mpr ⟨Or.inl xw239, List.forall_mem_cons.mpr ⟨Or.inl xw240, List.forall_mem_cons.mpr ⟨Or.inl xw241, List.forall_mem_cons.mpr ⟨Or.inl xw242, List.forall_mem_cons.mpr ⟨Or.inl xw243, List.forall_mem_cons.mpr ⟨Or.inl xw244, List.forall_mem_cons.mpr ⟨Or.inl xw245, List.forall_mem_cons.mpr ⟨Or.inl xw246, List.forall_mem_cons.mpr ⟨Or.inl xw247, List.forall_mem_cons.mpr ⟨Or.inl xw248, List.forall_mem_cons.mpr ⟨Or.inl xw249, List.forall_mem_cons.mpr ⟨Or.inl xw250, List.forall_mem_cons.mpr ⟨Or.inl xw251, List.forall_mem_cons.mpr ⟨Or.inl xw252, List.forall_mem_cons.mpr ⟨Or.inl xw253, List.forall_mem_cons.mpr ⟨Or.inl xw254, fun _ h => absurd h List.not_mem_nil⟩⟩⟩⟩⟩⟩⟩⟩⟩⟩⟩⟩⟩⟩⟩⟩⟩⟩⟩⟩⟩⟩⟩⟩⟩⟩⟩⟩⟩⟩⟩⟩⟩⟩⟩⟩⟩⟩⟩⟩⟩⟩⟩⟩⟩⟩⟩⟩⟩⟩⟩
theorem xw255 : lkw 11 (265, 6, 1431655765, 0) ∈ XU := gm2 82 (by decide +kernel) (by decide +kernel)
theorem xw256 : lkw 11 (266, 6, 858993459, 0) ∈ XU := gm2 83 (by decide +kernel) (by decide +kernel)
theorem xw257 : lkw 11 (267, 6, 252645135, 0) ∈ XU := gm2 84 (by decide +kernel) (by decide +kernel)
theorem lk_ok11 : ∀ e ∈ lk11, lkw 11 e ∈ XU ∨ (8 ≤ e.2.1 ∧ lkw 11 e ∈ tables_1) := List.forall_mem_cons.mpr ⟨Or.inl xw255, List.forall_mem_cons.mpr ⟨Or.inl xw256, List.forall_mem_cons.mpr ⟨Or.inl xw257, fun _ h => absurd h List.not_mem_nil⟩⟩⟩
theorem xw258 : lkw 12 (314, 7, 6148914691236517205, 0) ∈ XU := gm2 69 (by decide +kernel) (by decide +kernel)
theorem xw259 : lkw 12 (316, 7, 3689348814741910323, 0) ∈ XU := gm2 70 (by decide +kernel) (by decide +kernel)
theorem xw260 : lkw 12 (318, 7, 1085102592571150095, 0) ∈ XU := gm2 71 (by decide +kernel) (by decide +kernel)
theorem lk_ok12 : ∀ e ∈ lk12, lkw 12 e ∈ XU ∨ (8 ≤ e.2.1 ∧ lkw 12 e ∈ tables_1) := List.forall_mem_cons.mpr ⟨Or.inl xw258, List.forall_mem_cons.mpr ⟨Or.inl xw259, List.forall_mem_cons.mpr ⟨Or.inl xw260, fun _ h => absurd h List.not_mem_nil⟩⟩⟩
theorem xw261 : lkw 13 (7, 4, 82, 0) ∈ XU := gm2 223 (by decide +kernel) (by decide +kernel)
theorem xw262 : lkw 13 (8, 5, 7, 0) ∈ XU := gm1 25 (by decide +kernel) (by decide +kernel)
theorem xw263 : lkw 13 (13, 5, 100, 0) ∈ XU := gm2 221 (by decide +kernel) (by decide +kernel)
theorem xw264 : lkw 13 (15, 5, 101, 0) ∈ XU := gm2 222 (by decide +kernel) (by decide +kernel)
theorem xw265 : lkw 13 (17, 4, 83, 0) ∈ XU := gm3 140 (by decide +kernel) (by decide +kernel)
theorem xw266 : lkw 13 (21, 5, 102, 0) ∈ XU := gm3 116 (by decide +kernel) (by decide +kernel)
theorem xw267 : lkw 13 (23, 4, 84, 0) ∈ XU := gm3 165 (by decide +kernel) (by decide +kernel)
theorem xw268 : lkw 13 (27, 4, 86, 0) ∈ XU := gm3 180 (by decide +kernel) (by decide +kernel)
theorem xw269 : lkw 13 (30, 4, 87, 0) ∈ XU := gm3 192 (by decide +kernel) (by decide +kernel)
theorem xw270 : lkw 13 (34, 4, 88, 0) ∈ XU := gm3 217 (by decide +kernel) (by decide +kernel)
theorem xw271 : lkw 13 (38, 5, 103, 0) ∈ XU := gm3 203 (by decide +kernel) (by decide +kernel)
theorem xw272 : lkw 13 (40, 4, 89, 0) ∈ XU := gm3 231 (by decide +kernel) (by decide +kernel)
theorem xw273 : lkw 13 (44, 4, 90, 0) ∈ XU := gm3 239 (by decide +kernel) (by decide +kernel)
theorem xw274 : lkw 13 (47, 4, 91, 0) ∈ XU := gm4 7 (by decide +kernel) (by decide +kernel)
theorem xw275 : lkw 13 (51, 4, 92, 0) ∈ XU := gm4 19 (by decide +kernel) (by decide +kernel)
theorem xw276 : lkw 13 (54, 4, 93, 0) ∈ XU := gm4 31 (by decide +kernel) (by decide +kernel)
theorem xw277 : lkw 13 (58, 4, 94, 0) ∈ XU := gm4 43 (by decide +kernel) (by decide +kernel)
theorem xw278 : lkw 13 (62, 4, 95, 0) ∈ XU := gm4 58 (by decide +kernel) (by decide +kernel)
theorem xw279 : lkw 13 (65, 4, 96, 0) ∈ XU := gm4 81 (by decide +kernel) (by decide +kernel)
theorem xw280 : lkw 13 (68, 4, 97, 0) ∈ XU := gm4 89 (by decide +kernel) (by decide +kernel)
theorem xw281 : lkw 13 (71, 4, 99, 0) ∈ XU := gm4 108 (by decide +kernel) (by decide +kernel)
theorem xw282 : lkw 13 (74, 5, 104, 0) ∈ XU := gm4 107 (by decide +kernel) (by decide +kernel)
theorem xw283 : lkw 13 (76, 4, 100, 0) ∈ XU := gm4 135 (by decide +kernel) (by decide +kernel)
theorem xw284 : lkw 13 (79, 5, 105, 0) ∈ XU := gm4 134 (by decide +kernel) (by decide +kernel)
theorem xw285 : lkw 13 (81, 4, 101, 0) ∈ XU := gm4 163 (by decide +kernel) (by decide +kernel)
theorem xw286 : lkw 13 (85, 4, 102, 0) ∈ XU := gm4 171 (by decide +kernel) (by decide +kernel)
theorem xw287 : lkw 13 (88, 4, 103, 0) ∈ XU := gm4 179 (by decide +kernel) (by decide +kernel)
theorem xw288 : lkw 13 (91, 4, 104, 0) ∈ XU := gm4 187 (by decide +kernel) (by decide +kernel)
theorem xw289 : lkw 13 (94, 4, 105, 0) ∈ XU := gm4 195 (by decide +kernel) (by decide +kernel)
theorem xw290 : lkw 13 (98, 4, 106, 0) ∈ XU := gm4 224 (by decide +kernel) (by decide +kernel)
theorem xw291 : lkw 13 (102, 4, 107, 0) ∈ XU := gm4 236 (by decide +kernel) (by decide +kernel)
theorem xw292 : lkw 13 (106, 4, 108, 0) ∈ XU := gm5 3 (by decide +kernel) (by decide +kernel)
theorem xw293 : lkw 13 (109, 4, 110, 0) ∈ XU := gm5 10 (by decide +kernel) (by decide +kernel)
theorem xw294 : lkw 13 (112, 4, 112, 0) ∈ XU := gm5 22 (by decide +kernel) (by decide +kernel)
theorem xw295 : lkw 13 (115, 4, 113, 0) ∈ XU := gm5 33 (by decide +kernel) (by decide +kernel)
theorem xw296 : lkw 13 (118, 4, 114, 0) ∈ XU := gm5 44 (by decide +kernel) (by decide +kernel)
theorem xw297 : lkw 13 (121, 4, 117, 0) ∈ XU := gm5 54 (by decide +kernel) (by decide +kernel)
theorem xw298 : lkw 13 (124, 4, 118, 0) ∈ XU := gm5 66 (by decide +kernel) (by decide +kernel)
theorem xw299 : lkw 13 (127, 4, 81, 0) ∈ XU := gm1 27 (by decide +kernel) (by decide +kernel)
theorem xw300 : lkw 13 (128, 5, 8, 0) ∈ XU := gm5 74 (by decide +kernel) (by decide +kernel)
theorem xw301 : lkw 13 (130, 4, 134, 0) ∈ XU := gm5 76 (by decide +kernel) (by decide +kernel)
theorem xw302 : lkw 13 (131, 4, 203, 0) ∈ XU := gm2 218 (by decide +kernel) (by decide +kernel)
theorem xw303 : lkw 13 (136, 4, 140, 0) ∈ XU := gm5 155 (by decide +kernel) (by decide +kernel)
theorem xw304 : lkw 13 (137, 4, 135, 0) ∈ XU := gm5 151 (by decide +kernel) (by decide +kernel)
theorem xw305 : lkw 13 (140, 4, 204, 0) ∈ XU := gm3 113 (by decide +kernel) (by decide +kernel)
theorem xw306 : lkw 13 (143, 4, 141, 0) ∈ XU := gm5 169 (by decide +kernel) (by decide +kernel)
theorem xw307 : lkw 13 (144, 4, 205, 0) ∈ XU := gm3 162 (by decide +kernel) (by decide +kernel)
theorem xw308 : lkw 13 (147, 4, 142, 0) ∈ XU := gm5 173 (by decide +kernel) (by decide +kernel)
theorem xw309 : lkw 13 (148, 4, 85, 0) ∈ XU := gm1 219 (by decide +kernel) (by decide +kernel)
theorem xw310 : lkw 13 (151, 4, 143, 0) ∈ XU := gm5 177 (by decide +kernel) (by decide +kernel)
theorem xw311 : lkw 13 (152, 4, 206, 0) ∈ XU := gm3 177 (by decide +kernel) (by decide +kernel)
theorem xw312 : lkw 13 (154, 4, 147, 0) ∈ XU := gm5 181 (by decide +kernel) (by decide +kernel)
theorem xw313 : lkw 13 (155, 4, 207, 0) ∈ XU := gm3 189 (by decide +kernel) (by decide +kernel)
theorem xw314 : lkw 13 (157, 4, 149, 0) ∈ XU := gm5 197 (by decide +kernel) (by decide +kernel)
theorem xw315 : lkw 13 (158, 4, 208, 0) ∈ XU := gm3 200 (by decide +kernel) (by decide +kernel)
theorem xw316 : lkw 13 (161, 4, 150, 0) ∈ XU := gm5 205 (by decide +kernel) (by decide +kernel)
theorem xw317 : lkw 13 (162, 4, 209, 0) ∈ XU := gm3 228 (by decide +kernel) (by decide +kernel)
theorem xw318 : lkw 13 (164, 4, 151, 0) ∈ XU := gm5 213 (by decide +kernel) (by decide +kernel)
theorem xw319 : lkw 13 (165, 4, 210, 0) ∈ XU := gm3 236 (by decide +kernel) (by decide +kernel)
theorem xw320 : lkw 13 (167, 4, 154, 0) ∈ XU := gm5 217 (by decide +kernel) (by decide +kernel)
theorem xw321 : lkw 13 (168, 4, 211, 0) ∈ XU := gm4 4 (by decide +kernel) (by decide +kernel)
theorem xw322 : lkw 13 (171, 4, 155, 0) ∈ XU := gm5 229 (by decide +kernel) (by decide +kernel)
theorem xw323 : lkw 13 (172, 4, 212, 0) ∈ XU := gm4 16 (by decide +kernel) (by decide +kernel)
theorem xw324 : lkw 13 (174, 4, 156, 0) ∈ XU := gm5 233 (by decide +kernel) (by decide +kernel)
theorem xw325 : lkw 13 (175, 4, 213, 0) ∈ XU := gm4 28 (by decide +kernel) (by decide +kernel)
theorem xw326 : lkw 13 (178, 4, 157, 0) ∈ XU := gm5 237 (by decide +kernel) (by decide +kernel)
theorem xw327 : lkw 13 (179, 4, 214, 0) ∈ XU := gm4 40 (by decide +kernel) (by decide +kernel)
theorem xw328 : lkw 13 (182, 4, 159, 0) ∈ XU := gm6 1 (by decide +kernel) (by decide +kernel)
theorem xw329 : lkw 13 (183, 4, 215, 0) ∈ XU := gm4 55 (by decide +kernel) (by decide +kernel)
theorem xw330 : lkw 13 (185, 4, 161, 0) ∈ XU := gm6 8 (by decide +kernel) (by decide +kernel)
theorem xw331 : lkw 13 (186, 4, 216, 0) ∈ XU := gm4 78 (by decide +kernel) (by decide +kernel)
theorem xw332 : lkw 13 (188, 4, 162, 0) ∈ XU := gm6 16 (by decide +kernel) (by decide +kernel)
theorem xw333 : lkw 13 (189, 4, 217, 0) ∈ XU := gm4 86 (by decide +kernel) (by decide +kernel)
theorem xw334 : lkw 13 (191, 4, 163, 0) ∈ XU := gm6 20 (by decide +kernel) (by decide +kernel)
theorem xw335 : lkw 13 (192, 4, 98, 0) ∈ XU := gm1 227 (by decide +kernel) (by decide +kernel)
theorem xw336 : lkw 13 (195, 4, 175, 0) ∈ XU := gm6 24 (by decide +kernel) (by decide +kernel)
theorem xw337 : lkw 13 (196, 4, 218, 0) ∈ XU := gm4 104 (by decide +kernel) (by decide +kernel)
theorem xw338 : lkw 13 (198, 4, 177, 0) ∈ XU := gm6 72 (by decide +kernel) (by decide +kernel)
theorem xw339 : lkw 13 (199, 4, 219, 0) ∈ XU := gm4 131 (by decide +kernel) (by decide +kernel)
theorem xw340 : lkw 13 (201, 4, 178, 0) ∈ XU := gm6 80 (by decide +kernel) (by decide +kernel)
theorem xw341 : lkw 13 (202, 4, 220, 0) ∈ XU := gm4 160 (by decide +kernel) (by decide +kernel)
theorem xw342 : lkw 13 (204, 4, 180, 0) ∈ XU := gm6 84 (by decide +kernel) (by decide +kernel)
theorem xw343 : lkw 13 (205, 4, 221, 0) ∈ XU := gm4 168 (by decide +kernel) (by decide +kernel)
theorem xw344 : lkw 13 (207, 4, 181, 0) ∈ XU := gm6 91 (by decide +kernel) (by decide +kernel)
theorem xw345 : lkw 13 (208, 4, 222, 0) ∈ XU := gm4 176 (by decide +kernel) (by decide +kernel)
theorem xw346 : lkw 13 (210, 4, 183, 0) ∈ XU := gm6 95 (by decide +kernel) (by decide +kernel)
theorem xw347 : lkw 13 (211, 4, 223, 0) ∈ XU := gm4 184 (by decide +kernel) (by decide +kernel)
theorem xw348 : lkw 13 (213, 4, 184, 0) ∈ XU := gm6 103 (by decide +kernel) (by decide +kernel)
theorem xw349 : lkw 13 (214, 4, 224, 0) ∈ XU := gm4 192 (by decide +kernel) (by decide +kernel)
theorem xw350 : lkw 13 (217, 4, 185, 0) ∈ XU := gm6 107 (by decide +kernel) (by decide +kernel)
theorem xw351 : lkw 13 (218, 4, 225, 0) ∈ XU := gm4 221 (by decide +kernel) (by decide +kernel)
theorem xw352 : lkw 13 (220, 4, 186, 0) ∈ XU := gm6 111 (by decide +kernel) (by decide +kernel)
theorem xw353 : lkw 13 (221, 4, 226, 0) ∈ XU := gm4 233 (by decide +kernel) (by decide +kernel)
theorem xw354 : lkw 13 (223, 4, 187, 0) ∈ XU := gm6 115 (by decide +kernel) (by decide +kernel)
theorem xw355 : lkw 13 (224, 4, 227, 0) ∈ XU := gm5 0 (by decide +kernel) (by decide +kernel)
theorem xw356 : lkw 13 (226, 4, 188, 0) ∈ XU := gm6 119 (by decide +kernel) (by decide +kernel)
theorem xw357 : lkw 13 (227, 4, 109, 0) ∈ XU := gm2 112 (by decide +kernel) (by decide +kernel)
theorem xw358 : lkw 13 (230, 4, 189, 0) ∈ XU := gm6 123 (by decide +kernel) (by decide +kernel)
theorem xw359 : lkw 13 (231, 4, 228, 0) ∈ XU := gm5 7 (by decide +kernel) (by decide +kernel)
theorem xw360 : lkw 13 (233, 4, 191, 0) ∈ XU := gm6 127 (by decide +kernel) (by decide +kernel)
theorem xw361 : lkw 13 (234, 4, 111, 0) ∈ XU := gm2 120 (by decide +kernel) (by decide +kernel)
theorem xw362 : lkw 13 (237, 4, 192, 0) ∈ XU := gm6 135 (by decide +kernel) (by decide +kernel)
theorem xw363 : lkw 13 (238, 4, 229, 0) ∈ XU := gm5 19 (by decide +kernel) (by decide +kernel)
theorem xw364 : lkw 13 (240, 4, 193, 0) ∈ XU := gm6 139 (by decide +kernel) (by decide +kernel)
theorem xw365 : lkw 13 (241, 4, 230, 0) ∈ XU := gm5 30 (by decide +kernel) (by decide +kernel)
theorem xw366 : lkw 13 (243, 4, 194, 0) ∈ XU := gm6 143 (by decide +kernel) (by decide +kernel)
theorem xw367 : lkw 13 (244, 4, 231, 0) ∈ XU := gm5 41 (by decide +kernel) (by decide +kernel)
theorem xw368 : lkw 13 (246, 4, 195, 0) ∈ XU := gm6 147 (by decide +kernel) (by decide +kernel)
theorem xw369 : lkw 13 (247, 4, 115, 0) ∈ XU := gm2 133 (by decide +kernel) (by decide +kernel)
theorem xw370 : lkw 13 (250, 4, 196, 0) ∈ XU := gm6 151 (by decide +kernel) (by decide +kernel)
theorem xw371 : lkw 13 (251, 4, 116, 0) ∈ XU := gm2 138 (by decide +kernel) (by decide +kernel)
theorem xw372 : lkw 13 (254, 4, 197, 0) ∈ XU := gm6 155 (by decide +kernel) (by decide +kernel)
theorem xw373 : lkw 13 (255, 4, 232, 0) ∈ XU := gm5 51 (by decide +kernel) (by decide +kernel)
theorem xw374 : lkw 13 (257, 4, 198, 0) ∈ XU := gm6 159 (by decide +kernel) (by decide +kernel)
theorem xw375 : lkw 13 (258, 4, 233, 0) ∈ XU := gm5 63 (by decide +kernel) (by decide +kernel)
theorem xw376 : lkw 13 (260, 4, 199, 0) ∈ XU := gm6 163 (by decide +kernel) (by decide +kernel)
theorem xw377 : lkw 13 (261, 4, 119, 0) ∈ XU := gm2 143 (by decide +kernel) (by decide +kernel)
theorem xw378 : lkw 13 (264, 4, 200, 0) ∈ XU := gm6 167 (by decide +kernel) (by decide +kernel)
theorem lk_ok13 : ∀ e ∈ lk13, lkw 13 e ∈ XU ∨ (8 ≤ e.2.1 ∧ lkw 13 e ∈ tables_1) := List.forall_mem_cons.mpr ⟨Or.inl xw261, List.forall_mem_cons.mpr ⟨Or.inl xw262, List.forall_mem_cons.mpr ⟨Or.inl xw263, List.forall_mem_cons.mpr ⟨Or.inl xw264, List.forall_mem_cons.mpr ⟨Or.inl xw265, List.forall_mem_cons.mpr ⟨Or.inl xw266, List.forall_mem_cons.mpr ⟨Or.inl xw267, List.forall_mem_cons.mpr ⟨Or.inl xw268, List.forall_mem_cons.mpr ⟨Or.inl xw269, List.forall_mem_cons.mpr ⟨Or.inl xw270, List.forall_mem_cons.mpr ⟨Or.inl xw271, List.forall_mem_cons.mpr ⟨Or.inl xw272, List.forall_mem_cons.mpr ⟨Or.inl xw273, List.forall_mem_cons.mpr ⟨Or.inl xw274, List.forall_mem_cons.mpr ⟨Or.inl xw275, List.forall_mem_cons.mpr ⟨Or.inl xw276, List.forall_mem_cons.mpr ⟨Or.inl xw277, List.forall_mem_cons.mpr ⟨Or.inl xw278, List.forall_mem_cons.mpr ⟨Or.inl xw279, List.forall_mem_cons.mpr ⟨Or.inl xw280, List.forall_mem_cons.mpr ⟨Or.inl xw281, List.forall_mem_cons.mpr ⟨Or.inl xw282, List.forall_mem_cons.mpr ⟨Or.inl xw283, List.forall_mem_cons.mpr ⟨Or.inl xw284, List.forall_mem_cons.mpr ⟨Or.inl xw285, List.forall_mem_cons.mpr ⟨Or.inl xw286, List.forall_mem_cons.mpr ⟨Or.inl xw287, List.forall_mem_cons.mpr ⟨Or.inl xw288, List.forall_mem_cons.mpr ⟨Or.inl xw289, List.forall_mem_cons.mpr ⟨Or.inl xw290, List.forall_mem_cons.mpr ⟨Or.inl xw291, List.forall_mem_cons.mpr ⟨Or.inl xw292, List.forall_mem_cons.mpr ⟨Or.inl xw293, List.forall_mem_cons.mpr ⟨Or.inl xw294, List.forall_mem_cons.mpr ⟨Or.inl xw295, List.forall_mem_cons.mpr ⟨Or.inl xw296, List.forall_mem_cons.mpr ⟨Or.inl xw297, List.forall_mem_cons.mpr ⟨Or.inl xw298, List.forall_mem_cons.mpr ⟨Or.inl xw299, List.forall_mem_cons.mpr ⟨Or.inl xw300, List.forall_mem_cons.mpr ⟨Or.inl xw301, List.forall_mem_cons.mpr ⟨Or.inl xw302, List.forall_mem_cons.mpr ⟨Or.inl xw303, List.forall_mem_cons.mpr ⟨Or.inl xw304, List.forall_mem_cons.mpr ⟨Or.inl xw305, List.forall_mem_cons.mpr ⟨Or.inl xw306, List.forall_mem_cons.mpr ⟨Or.inl xw307, List.forall_mem_cons.mpr ⟨Or.inl xw308, List.forall_mem_cons.mpr ⟨Or.inl xw309, List.forall_mem_cons.mpr ⟨Or.inl xw310, List.forall_mem_cons.mpr ⟨Or.inl xw311, List.forall_mem_cons.mpr ⟨Or.inl xw312, List.forall_mem_cons.mpr ⟨Or.inl xw313, List.forall_mem_cons.mpr ⟨Or.inl xw314, List.forall_mem_cons.mpr ⟨Or.inl xw315, List.forall_mem_cons.mpr ⟨Or.inl xw316, List.forall_mem_cons.mpr ⟨Or.inl xw317, List.forall_mem_cons.mpr ⟨Or.inl xw318, List.forall_mem_cons.mpr ⟨Or.inl xw319, List.forall_mem_cons.mpr ⟨Or.inl xw320, List.forall_mem_cons.mpr ⟨Or.inl xw321, List.forall_mem_cons.mpr ⟨Or.inl xw322, List.forall_mem_cons.mpr ⟨Or.inl xw323, List.forall_mem_cons.mpr ⟨Or.inl xw324, List.forall_mem_cons.mpr ⟨Or.inl xw325, List.forall_mem_cons.mpr ⟨Or.inl xw326, List.forall_mem_cons.mpr ⟨Or.inl xw327, List.forall_mem_cons.mpr ⟨Or.inl xw328, List.forall_mem_cons.mpr ⟨Or.inl xw329, List.forall_mem_cons.mpr ⟨Or.inl xw330, List.forall_mem_cons.mpr ⟨Or.inl xw331, List.forall_mem_cons.mpr ⟨Or.inl xw332, List.forall_mem_cons.mpr ⟨Or.inl xw333, List.forall_mem_cons.mpr ⟨Or.inl xw334, List.forall_mem_cons.mpr ⟨Or.inl xw335, List.forall_mem_cons.mpr ⟨Or.inl xw336, List.forall_mem_cons.mpr ⟨Or.inl xw337, List.forall_mem_cons.mpr ⟨Or.inl xw338, List.forall_mem_cons.mpr ⟨Or.inl xw339, List.forall_mem_cons.mpr ⟨Or.inl xw340, List.forall_mem_cons.mpr ⟨Or.inl xw341, List.forall_mem_cons.mpr ⟨Or.inl xw342, List.forall_mem_cons.mpr ⟨Or.inl xw343, List.forall_mem_cons.mpr ⟨Or.inl xw344, List.forall_mem_cons.mpr ⟨Or.inl xw345, List.forall_mem_cons.mpr ⟨Or.inl xw346, List.forall_mem_cons.mpr ⟨Or.inl xw347, List.forall_mem_cons.mpr ⟨Or.inl xw348, List.forall_mem_cons.mpr ⟨Or.inl xw349, List.forall_mem_cons.mpr ⟨Or.inl xw350, List.forall_mem_cons.mpr ⟨Or.inl xw351, List.forall_mem_cons.mpr ⟨Or.inl xw352, List.forall_mem_cons.mpr ⟨Or.inl xw353, List.forall_mem_cons.mpr ⟨Or.inl xw354, List.forall_mem_cons.mpr ⟨Or.inl xw355, List.forall_mem_cons.mpr ⟨Or.inl xw356, List.forall_mem_cons.mpr ⟨Or.inl xw357, List.forall_mem_cons.mpr ⟨Or.inl xw358, List.forall_mem_cons.mpr ⟨Or.inl xw359, List.forall_mem_cons.mpr ⟨Or.inl xw360, List.forall_mem_cons.mpr ⟨Or.inl xw361, List.forall_mem_cons.mpr ⟨Or.inl xw362, List.forall_mem_cons.mpr ⟨Or.inl xw363, List.forall_mem_cons.mpr ⟨Or.inl xw364, List.forall_mem_cons.mpr ⟨Or.inl xw365, List.forall_mem_cons.mpr ⟨Or.inl xw366, List.forall_mem_cons.mpr ⟨Or.inl xw367, List.forall_mem_cons.mpr ⟨Or.inl xw368, List.forall_mem_cons.mpr ⟨Or.inl xw369, List.forall_mem_cons.mpr ⟨Or.inl xw370, List.forall_mem_cons.mpr ⟨Or.inl xw371, List.forall_mem_cons.mpr ⟨Or.inl xw372, List.forall_mem_cons.mpr ⟨Or.inl xw373, List.forall_mem_cons.mpr ⟨Or.inl xw374, List.forall_mem_cons.mpr ⟨Or.inl xw375, List.forall_mem_cons.mpr ⟨Or.inl xw376, List.forall_mem_cons.mpr ⟨Or.inl xw377, List.forall_mem_cons.mpr ⟨Or.inl xw378, fun _ h => absurd h List.not_mem_nil⟩⟩⟩⟩⟩⟩⟩⟩⟩⟩⟩⟩⟩⟩⟩⟩⟩⟩⟩⟩⟩⟩⟩⟩⟩⟩⟩⟩⟩⟩⟩⟩⟩⟩⟩⟩⟩⟩⟩⟩⟩⟩⟩⟩⟩⟩⟩⟩⟩⟩⟩⟩⟩⟩⟩⟩⟩⟩⟩⟩⟩⟩⟩⟩⟩⟩⟩⟩⟩⟩⟩⟩⟩⟩⟩⟩⟩⟩⟩⟩⟩⟩⟩⟩⟩⟩⟩⟩⟩⟩⟩⟩⟩⟩⟩⟩⟩⟩⟩⟩⟩⟩⟩⟩⟩⟩⟩⟩⟩⟩⟩⟩⟩⟩⟩⟩⟩⟩
theorem lk_ok (c : Nat) (e : Nat × Nat × Nat × Nat) (h : e ∈ lks c) : lkw c e ∈ XU ∨ (8 ≤ e.2.1 ∧ lkw c e ∈ tables_1) := by
  match c, h with
  | 0, h => exact lk_ok0 e h
  | 1, h => exact lk_ok1 e h
  | 2, h => exact lk_ok2 e h
  | 3, h => exact lk_ok3 e h
  | 4, h => exact lk_ok4 e h
  | 5, h => exact lk_ok5 e h
  | 6, h => exact lk_ok6 e h
  | 7, h => exact lk_ok7 e h
  | 8, h => exact lk_ok8 e h
  | 9, h => exact lk_ok9 e h
  | 10, h => exact lk_ok10 e h
  | 11, h => exact lk_ok11 e h
  | 12, h => exact lk_ok12 e h
  | 13, h => exact lk_ok13 e h
  | c + 14, h => exact absurd h (by simp [lks, lkl])
def yw_k (mi : Nat) : Prop := match mK mi with
  | 0 => Cond.static (mY mi) ∈ XU
  | 1 => Cond.instanceMethod (mY mi) ∈ XU ∧ Cond.selects (mY mi).cls (mY mi) (mY mi) ∈ XU ∧ (kC (mO mi)).1 = (mY mi).cls ∧ mO mi < 9
  | _ => Cond.instanceMethod (mY mi) ∈ XU ∧ (mY mi).name = "<init>" ∧ mR mi = none
def mW (mi : Nat) : Cond := if mH mi = [] then .code (mY mi) (mB mi) (mL mi) (mR mi) else .codeWith (mY mi) (mB mi) (mL mi) (mR mi) (mH mi)
def yb (mi : Nat) : Bool := plainName (mY mi).cls && decide ((mY mi).cls ≠ "java/lang/invoke/MethodHandle") && decide ((mY mi).cls ≠ "java/lang/invoke/VarHandle") && decide ((parseMethodDescriptor (mY mi).desc).map (fun d => d.parameters.length) = some (mN mi)) && decide ((parseMethodDescriptor (mY mi).desc).map (fun d => d.returnType) = some (mR mi)) && decide (mL mi + 19 ≤ 64) && decide (dN (mD mi) = (mY mi).cls)
def YW (mi : Nat) : Prop := yb mi = true ∧ mW mi ∈ XU ∧ Cond.initialized (mY mi).cls ∈ XU ∧ yw_k mi
theorem sel_in {q : MethodName × Nat} (h : q ∈ lw_privs) (g : goodWord (Cond.selects q.1.cls q.1 q.1) = true) (hs : Cond.selects q.1.cls q.1 q.1 ∈ k2_sels lw_privs) : Cond.selects q.1.cls q.1 q.1 ∈ XU := List.mem_filter.mpr ⟨List.mem_append_left _ hs, g⟩
theorem xu_s {w : Cond} (i : Nat) (h : (k2_sels lw_privs)[i]? = some w) (g : goodWord w = true) : w ∈ XU := List.mem_filter.mpr ⟨List.mem_append_left _ (List.mem_of_getElem? h), g⟩
theorem yi0 : Cond.initialized (dN 0) ∈ XU := gm1 6 (by decide +kernel) (by decide +kernel)
theorem yi1 : Cond.initialized (dN 1) ∈ XU := gm1 8 (by decide +kernel) (by decide +kernel)
theorem yi2 : Cond.initialized (dN 2) ∈ XU := gm1 4 (by decide +kernel) (by decide +kernel)
theorem yi3 : Cond.initialized (dN 3) ∈ XU := gm1 3 (by decide +kernel) (by decide +kernel)
theorem yi4 : Cond.initialized (dN 4) ∈ XU := gm1 9 (by decide +kernel) (by decide +kernel)
theorem yi5 : Cond.initialized (dN 5) ∈ XU := gm1 22 (by decide +kernel) (by decide +kernel)
theorem yi6 : Cond.initialized (dN 6) ∈ XU := gm1 5 (by decide +kernel) (by decide +kernel)
theorem yi7 : Cond.initialized (dN 7) ∈ XU := gm1 2 (by decide +kernel) (by decide +kernel)
theorem yi8 : Cond.initialized (dN 8) ∈ XU := gm1 7 (by decide +kernel) (by decide +kernel)
theorem yi9 : Cond.initialized (dN 9) ∈ XU := gm1 1 (by decide +kernel) (by decide +kernel)
theorem yi10 : Cond.initialized (dN 10) ∈ XU := gm1 10 (by decide +kernel) (by decide +kernel)
theorem yi11 : Cond.initialized (dN 11) ∈ XU := gm1 20 (by decide +kernel) (by decide +kernel)
theorem yi12 : Cond.initialized (dN 12) ∈ XU := gm1 21 (by decide +kernel) (by decide +kernel)
theorem yi13 : Cond.initialized (dN 13) ∈ XU := gm1 0 (by decide +kernel) (by decide +kernel)
theorem ya0 : mW 0 ∈ XU := gm1 117 (by decide +kernel) (by decide +kernel)
theorem yk0 : yw_k 0 := ⟨gm1 116 (by decide +kernel) (by decide +kernel), by decide +kernel, by decide +kernel⟩
theorem yw0 : YW 0 := ⟨by decide +kernel, ya0, yi0, yk0⟩
theorem ya1 : mW 1 ∈ XU := gm2 185 (by decide +kernel) (by decide +kernel)
theorem yk1 : yw_k 1 := ⟨gm2 183 (by decide +kernel) (by decide +kernel), gm2 184 (by decide +kernel) (by decide +kernel), by decide +kernel, by decide +kernel⟩
theorem yw1 : YW 1 := ⟨by decide +kernel, ya1, yi0, yk1⟩
theorem ya2 : mW 2 ∈ XU := gm2 107 (by decide +kernel) (by decide +kernel)
theorem yk2 : yw_k 2 := ⟨gm2 105 (by decide +kernel) (by decide +kernel), gm2 106 (by decide +kernel) (by decide +kernel), by decide +kernel, by decide +kernel⟩
theorem yw2 : YW 2 := ⟨by decide +kernel, ya2, yi0, yk2⟩
theorem ya3 : mW 3 ∈ XU := gm2 193 (by decide +kernel) (by decide +kernel)
theorem yk3 : yw_k 3 := ⟨gm2 191 (by decide +kernel) (by decide +kernel), gm2 192 (by decide +kernel) (by decide +kernel), by decide +kernel, by decide +kernel⟩
theorem yw3 : YW 3 := ⟨by decide +kernel, ya3, yi0, yk3⟩
theorem ya4 : mW 4 ∈ XU := gm2 189 (by decide +kernel) (by decide +kernel)
theorem yk4 : yw_k 4 := ⟨gm2 187 (by decide +kernel) (by decide +kernel), gm2 188 (by decide +kernel) (by decide +kernel), by decide +kernel, by decide +kernel⟩
theorem yw4 : YW 4 := ⟨by decide +kernel, ya4, yi0, yk4⟩
theorem ya5 : mW 5 ∈ XU := gm2 2 (by decide +kernel) (by decide +kernel)
theorem yk5 : yw_k 5 := ⟨gm2 0 (by decide +kernel) (by decide +kernel), gm2 1 (by decide +kernel) (by decide +kernel), by decide +kernel, by decide +kernel⟩
theorem yw5 : YW 5 := ⟨by decide +kernel, ya5, yi0, yk5⟩
theorem ya6 : mW 6 ∈ XU := gm2 103 (by decide +kernel) (by decide +kernel)
theorem yk6 : yw_k 6 := ⟨gm2 101 (by decide +kernel) (by decide +kernel), gm2 102 (by decide +kernel) (by decide +kernel), by decide +kernel, by decide +kernel⟩
theorem yw6 : YW 6 := ⟨by decide +kernel, ya6, yi0, yk6⟩
theorem ya7 : mW 7 ∈ XU := gm2 99 (by decide +kernel) (by decide +kernel)
theorem yk7 : yw_k 7 := ⟨gm2 97 (by decide +kernel) (by decide +kernel), gm2 98 (by decide +kernel) (by decide +kernel), by decide +kernel, by decide +kernel⟩
theorem yw7 : YW 7 := ⟨by decide +kernel, ya7, yi0, yk7⟩
theorem ya8 : mW 8 ∈ XU := gm1 193 (by decide +kernel) (by decide +kernel)
theorem yk8 : yw_k 8 := gm1 192 (by decide +kernel) (by decide +kernel)
theorem yw8 : YW 8 := ⟨by decide +kernel, ya8, yi1, yk8⟩
theorem ya9 : mW 9 ∈ XU := gm2 28 (by decide +kernel) (by decide +kernel)
theorem yk9 : yw_k 9 := gm2 27 (by decide +kernel) (by decide +kernel)
theorem yw9 : YW 9 := ⟨by decide +kernel, ya9, yi1, yk9⟩
theorem ya10 : mW 10 ∈ XU := gm2 31 (by decide +kernel) (by decide +kernel)
theorem yk10 : yw_k 10 := gm2 30 (by decide +kernel) (by decide +kernel)
theorem yw10 : YW 10 := ⟨by decide +kernel, ya10, yi1, yk10⟩
theorem ya11 : mW 11 ∈ XU := gm1 155 (by decide +kernel) (by decide +kernel)
theorem yk11 : yw_k 11 := gm1 154 (by decide +kernel) (by decide +kernel)
theorem yw11 : YW 11 := ⟨by decide +kernel, ya11, yi1, yk11⟩
theorem ya12 : mW 12 ∈ XU := gm5 28 (by decide +kernel) (by decide +kernel)
theorem yk12 : yw_k 12 := gm5 27 (by decide +kernel) (by decide +kernel)
theorem yw12 : YW 12 := ⟨by decide +kernel, ya12, yi1, yk12⟩
theorem ya13 : mW 13 ∈ XU := gm5 40 (by decide +kernel) (by decide +kernel)
theorem yk13 : yw_k 13 := gm5 39 (by decide +kernel) (by decide +kernel)
theorem yw13 : YW 13 := ⟨by decide +kernel, ya13, yi1, yk13⟩
theorem ya14 : mW 14 ∈ XU := gm2 160 (by decide +kernel) (by decide +kernel)
theorem yk14 : yw_k 14 := gm2 159 (by decide +kernel) (by decide +kernel)
theorem yw14 : YW 14 := ⟨by decide +kernel, ya14, yi1, yk14⟩
theorem ya15 : mW 15 ∈ XU := gm2 47 (by decide +kernel) (by decide +kernel)
theorem yk15 : yw_k 15 := gm2 46 (by decide +kernel) (by decide +kernel)
theorem yw15 : YW 15 := ⟨by decide +kernel, ya15, yi1, yk15⟩
theorem ya16 : mW 16 ∈ XU := gm2 171 (by decide +kernel) (by decide +kernel)
theorem yk16 : yw_k 16 := gm2 170 (by decide +kernel) (by decide +kernel)
theorem yw16 : YW 16 := ⟨by decide +kernel, ya16, yi1, yk16⟩
theorem ya17 : mW 17 ∈ XU := gm1 152 (by decide +kernel) (by decide +kernel)
theorem yk17 : yw_k 17 := gm1 151 (by decide +kernel) (by decide +kernel)
theorem yw17 : YW 17 := ⟨by decide +kernel, ya17, yi1, yk17⟩
theorem ya18 : mW 18 ∈ XU := gm1 89 (by decide +kernel) (by decide +kernel)
theorem yk18 : yw_k 18 := ⟨gm1 88 (by decide +kernel) (by decide +kernel), by decide +kernel, by decide +kernel⟩
theorem yw18 : YW 18 := ⟨by decide +kernel, ya18, yi2, yk18⟩
theorem ya19 : mW 19 ∈ XU := gm4 96 (by decide +kernel) (by decide +kernel)
theorem yk19 : yw_k 19 := ⟨gm4 94 (by decide +kernel) (by decide +kernel), gm4 95 (by decide +kernel) (by decide +kernel), by decide +kernel, by decide +kernel⟩
theorem yw19 : YW 19 := ⟨by decide +kernel, ya19, yi2, yk19⟩
theorem ya20 : mW 20 ∈ XU := gm4 102 (by decide +kernel) (by decide +kernel)
theorem yk20 : yw_k 20 := ⟨gm4 100 (by decide +kernel) (by decide +kernel), gm4 101 (by decide +kernel) (by decide +kernel), by decide +kernel, by decide +kernel⟩
theorem yw20 : YW 20 := ⟨by decide +kernel, ya20, yi2, yk20⟩
theorem ya21 : mW 21 ∈ XU := gm2 51 (by decide +kernel) (by decide +kernel)
theorem yk21 : yw_k 21 := ⟨gm2 49 (by decide +kernel) (by decide +kernel), gm2 50 (by decide +kernel) (by decide +kernel), by decide +kernel, by decide +kernel⟩
theorem yw21 : YW 21 := ⟨by decide +kernel, ya21, yi2, yk21⟩
theorem ya22 : mW 22 ∈ XU := gm2 75 (by decide +kernel) (by decide +kernel)
theorem yk22 : yw_k 22 := ⟨gm2 73 (by decide +kernel) (by decide +kernel), gm2 74 (by decide +kernel) (by decide +kernel), by decide +kernel, by decide +kernel⟩
theorem yw22 : YW 22 := ⟨by decide +kernel, ya22, yi2, yk22⟩
theorem ya23 : mW 23 ∈ XU := gm2 87 (by decide +kernel) (by decide +kernel)
theorem yk23 : yw_k 23 := gm2 86 (by decide +kernel) (by decide +kernel)
theorem yw23 : YW 23 := ⟨by decide +kernel, ya23, yi2, yk23⟩
theorem ya24 : mW 24 ∈ XU := gm2 56 (by decide +kernel) (by decide +kernel)
theorem yk24 : yw_k 24 := gm2 55 (by decide +kernel) (by decide +kernel)
theorem yw24 : YW 24 := ⟨by decide +kernel, ya24, yi2, yk24⟩
theorem ya25 : mW 25 ∈ XU := gm1 70 (by decide +kernel) (by decide +kernel)
theorem yk25 : yw_k 25 := ⟨gm1 69 (by decide +kernel) (by decide +kernel), by decide +kernel, by decide +kernel⟩
theorem yw25 : YW 25 := ⟨by decide +kernel, ya25, yi3, yk25⟩
theorem ya26 : mW 26 ∈ XU := gm4 38 (by decide +kernel) (by decide +kernel)
theorem yk26 : yw_k 26 := ⟨gm4 36 (by decide +kernel) (by decide +kernel), gm4 37 (by decide +kernel) (by decide +kernel), by decide +kernel, by decide +kernel⟩
theorem yw26 : YW 26 := ⟨by decide +kernel, ya26, yi3, yk26⟩
theorem ya27 : mW 27 ∈ XU := gm4 54 (by decide +kernel) (by decide +kernel)
theorem yk27 : yw_k 27 := ⟨gm4 52 (by decide +kernel) (by decide +kernel), gm4 53 (by decide +kernel) (by decide +kernel), by decide +kernel, by decide +kernel⟩
theorem yw27 : YW 27 := ⟨by decide +kernel, ya27, yi3, yk27⟩
theorem ya28 : mW 28 ∈ XU := gm2 40 (by decide +kernel) (by decide +kernel)
theorem yk28 : yw_k 28 := ⟨gm2 38 (by decide +kernel) (by decide +kernel), gm2 39 (by decide +kernel) (by decide +kernel), by decide +kernel, by decide +kernel⟩
theorem yw28 : YW 28 := ⟨by decide +kernel, ya28, yi3, yk28⟩
theorem ya29 : mW 29 ∈ XU := gm4 77 (by decide +kernel) (by decide +kernel)
theorem yk29 : yw_k 29 := ⟨gm4 75 (by decide +kernel) (by decide +kernel), gm4 76 (by decide +kernel) (by decide +kernel), by decide +kernel, by decide +kernel⟩
theorem yw29 : YW 29 := ⟨by decide +kernel, ya29, yi3, yk29⟩
theorem ya30 : mW 30 ∈ XU := gm2 131 (by decide +kernel) (by decide +kernel)
theorem yk30 : yw_k 30 := ⟨gm2 129 (by decide +kernel) (by decide +kernel), gm2 130 (by decide +kernel) (by decide +kernel), by decide +kernel, by decide +kernel⟩
theorem yw30 : YW 30 := ⟨by decide +kernel, ya30, yi3, yk30⟩
theorem ya31 : mW 31 ∈ XU := gm2 25 (by decide +kernel) (by decide +kernel)
theorem yk31 : yw_k 31 := ⟨gm2 23 (by decide +kernel) (by decide +kernel), gm2 24 (by decide +kernel) (by decide +kernel), by decide +kernel, by decide +kernel⟩
theorem yw31 : YW 31 := ⟨by decide +kernel, ya31, yi3, yk31⟩
theorem ya32 : mW 32 ∈ XU := gm2 6 (by decide +kernel) (by decide +kernel)
theorem yk32 : yw_k 32 := ⟨gm2 4 (by decide +kernel) (by decide +kernel), gm2 5 (by decide +kernel) (by decide +kernel), by decide +kernel, by decide +kernel⟩
theorem yw32 : YW 32 := ⟨by decide +kernel, ya32, yi3, yk32⟩
theorem ya33 : mW 33 ∈ XU := gm2 36 (by decide +kernel) (by decide +kernel)
theorem yk33 : yw_k 33 := ⟨gm2 35 (by decide +kernel) (by decide +kernel), xu_s 2 (by decide +kernel) (by decide +kernel), by decide +kernel, by decide +kernel⟩
theorem yw33 : YW 33 := ⟨by decide +kernel, ya33, yi3, yk33⟩
theorem ya34 : mW 34 ∈ XU := gm2 44 (by decide +kernel) (by decide +kernel)
theorem yk34 : yw_k 34 := ⟨gm2 43 (by decide +kernel) (by decide +kernel), xu_s 3 (by decide +kernel) (by decide +kernel), by decide +kernel, by decide +kernel⟩
theorem yw34 : YW 34 := ⟨by decide +kernel, ya34, yi3, yk34⟩
theorem ya35 : mW 35 ∈ XU := gm1 179 (by decide +kernel) (by decide +kernel)
theorem yk35 : yw_k 35 := ⟨gm1 178 (by decide +kernel) (by decide +kernel), by decide +kernel, by decide +kernel⟩
theorem yw35 : YW 35 := ⟨by decide +kernel, ya35, yi4, yk35⟩
theorem ya36 : mW 36 ∈ XU := gm4 203 (by decide +kernel) (by decide +kernel)
theorem yk36 : yw_k 36 := ⟨gm4 201 (by decide +kernel) (by decide +kernel), gm4 202 (by decide +kernel) (by decide +kernel), by decide +kernel, by decide +kernel⟩
theorem yw36 : YW 36 := ⟨by decide +kernel, ya36, yi4, yk36⟩
theorem ya37 : mW 37 ∈ XU := gm4 207 (by decide +kernel) (by decide +kernel)
theorem yk37 : yw_k 37 := ⟨gm4 205 (by decide +kernel) (by decide +kernel), gm4 206 (by decide +kernel) (by decide +kernel), by decide +kernel, by decide +kernel⟩
theorem yw37 : YW 37 := ⟨by decide +kernel, ya37, yi4, yk37⟩
theorem ya38 : mW 38 ∈ XU := gm2 119 (by decide +kernel) (by decide +kernel)
theorem yk38 : yw_k 38 := ⟨gm2 117 (by decide +kernel) (by decide +kernel), gm2 118 (by decide +kernel) (by decide +kernel), by decide +kernel, by decide +kernel⟩
theorem yw38 : YW 38 := ⟨by decide +kernel, ya38, yi4, yk38⟩
theorem ya39 : mW 39 ∈ XU := gm4 215 (by decide +kernel) (by decide +kernel)
theorem yk39 : yw_k 39 := ⟨gm4 213 (by decide +kernel) (by decide +kernel), gm4 214 (by decide +kernel) (by decide +kernel), by decide +kernel, by decide +kernel⟩
theorem yw39 : YW 39 := ⟨by decide +kernel, ya39, yi4, yk39⟩
theorem ya40 : mW 40 ∈ XU := gm5 18 (by decide +kernel) (by decide +kernel)
theorem yk40 : yw_k 40 := ⟨gm5 16 (by decide +kernel) (by decide +kernel), gm5 17 (by decide +kernel) (by decide +kernel), by decide +kernel, by decide +kernel⟩
theorem yw40 : YW 40 := ⟨by decide +kernel, ya40, yi4, yk40⟩
theorem ya41 : mW 41 ∈ XU := gm2 127 (by decide +kernel) (by decide +kernel)
theorem yk41 : yw_k 41 := ⟨gm2 125 (by decide +kernel) (by decide +kernel), gm2 126 (by decide +kernel) (by decide +kernel), by decide +kernel, by decide +kernel⟩
theorem yw41 : YW 41 := ⟨by decide +kernel, ya41, yi4, yk41⟩
theorem ya42 : mW 42 ∈ XU := gm4 220 (by decide +kernel) (by decide +kernel)
theorem yk42 : yw_k 42 := ⟨gm4 219 (by decide +kernel) (by decide +kernel), xu_s 16 (by decide +kernel) (by decide +kernel), by decide +kernel, by decide +kernel⟩
theorem yw42 : YW 42 := ⟨by decide +kernel, ya42, yi4, yk42⟩
theorem ya43 : mW 43 ∈ XU := gm2 95 (by decide +kernel) (by decide +kernel)
theorem yk43 : yw_k 43 := gm2 94 (by decide +kernel) (by decide +kernel)
theorem yw43 : YW 43 := ⟨by decide +kernel, ya43, yi5, yk43⟩
theorem ya44 : mW 44 ∈ XU := gm2 217 (by decide +kernel) (by decide +kernel)
theorem yk44 : yw_k 44 := gm2 216 (by decide +kernel) (by decide +kernel)
theorem yw44 : YW 44 := ⟨by decide +kernel, ya44, yi5, yk44⟩
theorem ya45 : mW 45 ∈ XU := gm2 196 (by decide +kernel) (by decide +kernel)
theorem yk45 : yw_k 45 := gm2 195 (by decide +kernel) (by decide +kernel)
theorem yw45 : YW 45 := ⟨by decide +kernel, ya45, yi5, yk45⟩
theorem ya46 : mW 46 ∈ XU := gm1 111 (by decide +kernel) (by decide +kernel)
theorem yk46 : yw_k 46 := ⟨gm1 110 (by decide +kernel) (by decide +kernel), by decide +kernel, by decide +kernel⟩
theorem yw46 : YW 46 := ⟨by decide +kernel, ya46, yi6, yk46⟩
theorem ya47 : mW 47 ∈ XU := gm3 112 (by decide +kernel) (by decide +kernel)
theorem yk47 : yw_k 47 := ⟨gm3 110 (by decide +kernel) (by decide +kernel), gm3 111 (by decide +kernel) (by decide +kernel), by decide +kernel, by decide +kernel⟩
theorem yw47 : YW 47 := ⟨by decide +kernel, ya47, yi6, yk47⟩
theorem ya48 : mW 48 ∈ XU := gm2 150 (by decide +kernel) (by decide +kernel)
theorem yk48 : yw_k 48 := ⟨gm2 148 (by decide +kernel) (by decide +kernel), gm2 149 (by decide +kernel) (by decide +kernel), by decide +kernel, by decide +kernel⟩
theorem yw48 : YW 48 := ⟨by decide +kernel, ya48, yi6, yk48⟩
theorem ya49 : mW 49 ∈ XU := gm2 157 (by decide +kernel) (by decide +kernel)
theorem yk49 : yw_k 49 := ⟨gm2 156 (by decide +kernel) (by decide +kernel), xu_s 4 (by decide +kernel) (by decide +kernel), by decide +kernel, by decide +kernel⟩
theorem yw49 : YW 49 := ⟨by decide +kernel, ya49, yi6, yk49⟩
theorem ya50 : mW 50 ∈ XU := gm2 176 (by decide +kernel) (by decide +kernel)
theorem yk50 : yw_k 50 := ⟨gm2 175 (by decide +kernel) (by decide +kernel), xu_s 6 (by decide +kernel) (by decide +kernel), by decide +kernel, by decide +kernel⟩
theorem yw50 : YW 50 := ⟨by decide +kernel, ya50, yi6, yk50⟩
theorem ya51 : mW 51 ∈ XU := gm2 164 (by decide +kernel) (by decide +kernel)
theorem yk51 : yw_k 51 := ⟨gm2 163 (by decide +kernel) (by decide +kernel), xu_s 5 (by decide +kernel) (by decide +kernel), by decide +kernel, by decide +kernel⟩
theorem yw51 : YW 51 := ⟨by decide +kernel, ya51, yi6, yk51⟩
theorem ya52 : mW 52 ∈ XU := gm1 37 (by decide +kernel) (by decide +kernel)
theorem yk52 : yw_k 52 := ⟨gm1 36 (by decide +kernel) (by decide +kernel), by decide +kernel, by decide +kernel⟩
theorem yw52 : YW 52 := ⟨by decide +kernel, ya52, yi7, yk52⟩
theorem ya53 : mW 53 ∈ XU := gm1 226 (by decide +kernel) (by decide +kernel)
theorem yk53 : yw_k 53 := ⟨gm1 224 (by decide +kernel) (by decide +kernel), gm1 225 (by decide +kernel) (by decide +kernel), by decide +kernel, by decide +kernel⟩
theorem yw53 : YW 53 := ⟨by decide +kernel, ya53, yi7, yk53⟩
theorem ya54 : mW 54 ∈ XU := gm3 89 (by decide +kernel) (by decide +kernel)
theorem yk54 : yw_k 54 := ⟨gm3 87 (by decide +kernel) (by decide +kernel), gm3 88 (by decide +kernel) (by decide +kernel), by decide +kernel, by decide +kernel⟩
theorem yw54 : YW 54 := ⟨by decide +kernel, ya54, yi7, yk54⟩
theorem ya55 : mW 55 ∈ XU := gm3 101 (by decide +kernel) (by decide +kernel)
theorem yk55 : yw_k 55 := ⟨gm3 99 (by decide +kernel) (by decide +kernel), gm3 100 (by decide +kernel) (by decide +kernel), by decide +kernel, by decide +kernel⟩
theorem yw55 : YW 55 := ⟨by decide +kernel, ya55, yi7, yk55⟩
theorem ya56 : mW 56 ∈ XU := gm2 11 (by decide +kernel) (by decide +kernel)
theorem yk56 : yw_k 56 := ⟨gm2 9 (by decide +kernel) (by decide +kernel), gm2 10 (by decide +kernel) (by decide +kernel), by decide +kernel, by decide +kernel⟩
theorem yw56 : YW 56 := ⟨by decide +kernel, ya56, yi7, yk56⟩
theorem ya57 : mW 57 ∈ XU := gm4 26 (by decide +kernel) (by decide +kernel)
theorem yk57 : yw_k 57 := ⟨gm4 24 (by decide +kernel) (by decide +kernel), gm4 25 (by decide +kernel) (by decide +kernel), by decide +kernel, by decide +kernel⟩
theorem yw57 : YW 57 := ⟨by decide +kernel, ya57, yi7, yk57⟩
theorem ya58 : mW 58 ∈ XU := gm3 224 (by decide +kernel) (by decide +kernel)
theorem yk58 : yw_k 58 := ⟨gm3 222 (by decide +kernel) (by decide +kernel), gm3 223 (by decide +kernel) (by decide +kernel), by decide +kernel, by decide +kernel⟩
theorem yw58 : YW 58 := ⟨by decide +kernel, ya58, yi7, yk58⟩
theorem ya59 : mW 59 ∈ XU := gm2 92 (by decide +kernel) (by decide +kernel)
theorem yk59 : yw_k 59 := ⟨gm2 90 (by decide +kernel) (by decide +kernel), gm2 91 (by decide +kernel) (by decide +kernel), by decide +kernel, by decide +kernel⟩
theorem yw59 : YW 59 := ⟨by decide +kernel, ya59, yi7, yk59⟩
theorem ya60 : mW 60 ∈ XU := gm3 199 (by decide +kernel) (by decide +kernel)
theorem yk60 : yw_k 60 := ⟨gm3 197 (by decide +kernel) (by decide +kernel), gm3 198 (by decide +kernel) (by decide +kernel), by decide +kernel, by decide +kernel⟩
theorem yw60 : YW 60 := ⟨by decide +kernel, ya60, yi7, yk60⟩
theorem ya61 : mW 61 ∈ XU := gm2 62 (by decide +kernel) (by decide +kernel)
theorem yk61 : yw_k 61 := ⟨gm2 60 (by decide +kernel) (by decide +kernel), gm2 61 (by decide +kernel) (by decide +kernel), by decide +kernel, by decide +kernel⟩
theorem yw61 : YW 61 := ⟨by decide +kernel, ya61, yi7, yk61⟩
theorem ya62 : mW 62 ∈ XU := gm2 14 (by decide +kernel) (by decide +kernel)
theorem yk62 : yw_k 62 := gm2 13 (by decide +kernel) (by decide +kernel)
theorem yw62 : YW 62 := ⟨by decide +kernel, ya62, yi7, yk62⟩
theorem ya63 : mW 63 ∈ XU := gm4 142 (by decide +kernel) (by decide +kernel)
theorem yk63 : yw_k 63 := ⟨gm4 140 (by decide +kernel) (by decide +kernel), gm4 141 (by decide +kernel) (by decide +kernel), by decide +kernel, by decide +kernel⟩
theorem yw63 : YW 63 := ⟨by decide +kernel, ya63, yi7, yk63⟩
theorem ya64 : mW 64 ∈ XU := gm3 81 (by decide +kernel) (by decide +kernel)
theorem yk64 : yw_k 64 := ⟨gm3 79 (by decide +kernel) (by decide +kernel), gm3 80 (by decide +kernel) (by decide +kernel), by decide +kernel, by decide +kernel⟩
theorem yw64 : YW 64 := ⟨by decide +kernel, ya64, yi7, yk64⟩
theorem ya65 : mW 65 ∈ XU := gm3 161 (by decide +kernel) (by decide +kernel)
theorem yk65 : yw_k 65 := ⟨gm3 159 (by decide +kernel) (by decide +kernel), gm3 160 (by decide +kernel) (by decide +kernel), by decide +kernel, by decide +kernel⟩
theorem yw65 : YW 65 := ⟨by decide +kernel, ya65, yi7, yk65⟩
theorem ya66 : mW 66 ∈ XU := gm3 176 (by decide +kernel) (by decide +kernel)
theorem yk66 : yw_k 66 := ⟨gm3 174 (by decide +kernel) (by decide +kernel), gm3 175 (by decide +kernel) (by decide +kernel), by decide +kernel, by decide +kernel⟩
theorem yw66 : YW 66 := ⟨by decide +kernel, ya66, yi7, yk66⟩
theorem ya67 : mW 67 ∈ XU := gm4 15 (by decide +kernel) (by decide +kernel)
theorem yk67 : yw_k 67 := ⟨gm4 13 (by decide +kernel) (by decide +kernel), gm4 14 (by decide +kernel) (by decide +kernel), by decide +kernel, by decide +kernel⟩
theorem yw67 : YW 67 := ⟨by decide +kernel, ya67, yi7, yk67⟩
theorem ya68 : mW 68 ∈ XU := gm3 85 (by decide +kernel) (by decide +kernel)
theorem yk68 : yw_k 68 := ⟨gm3 84 (by decide +kernel) (by decide +kernel), xu_s 11 (by decide +kernel) (by decide +kernel), by decide +kernel, by decide +kernel⟩
theorem yw68 : YW 68 := ⟨by decide +kernel, ya68, yi7, yk68⟩
theorem ya69 : mW 69 ∈ XU := gm3 93 (by decide +kernel) (by decide +kernel)
theorem yk69 : yw_k 69 := ⟨gm3 92 (by decide +kernel) (by decide +kernel), xu_s 12 (by decide +kernel) (by decide +kernel), by decide +kernel, by decide +kernel⟩
theorem yw69 : YW 69 := ⟨by decide +kernel, ya69, yi7, yk69⟩
theorem ya70 : mW 70 ∈ XU := gm3 97 (by decide +kernel) (by decide +kernel)
theorem yk70 : yw_k 70 := ⟨gm3 96 (by decide +kernel) (by decide +kernel), xu_s 13 (by decide +kernel) (by decide +kernel), by decide +kernel, by decide +kernel⟩
theorem yw70 : YW 70 := ⟨by decide +kernel, ya70, yi7, yk70⟩
theorem ya71 : mW 71 ∈ XU := gm3 105 (by decide +kernel) (by decide +kernel)
theorem yk71 : yw_k 71 := ⟨gm3 104 (by decide +kernel) (by decide +kernel), xu_s 14 (by decide +kernel) (by decide +kernel), by decide +kernel, by decide +kernel⟩
theorem yw71 : YW 71 := ⟨by decide +kernel, ya71, yi7, yk71⟩
theorem ya72 : mW 72 ∈ XU := gm3 108 (by decide +kernel) (by decide +kernel)
theorem yk72 : yw_k 72 := gm3 107 (by decide +kernel) (by decide +kernel)
theorem yw72 : YW 72 := ⟨by decide +kernel, ya72, yi7, yk72⟩
theorem ya73 : mW 73 ∈ XU := gm1 143 (by decide +kernel) (by decide +kernel)
theorem yk73 : yw_k 73 := ⟨gm1 142 (by decide +kernel) (by decide +kernel), by decide +kernel, by decide +kernel⟩
theorem yw73 : YW 73 := ⟨by decide +kernel, ya73, yi8, yk73⟩
theorem ya74 : mW 74 ∈ XU := gm2 208 (by decide +kernel) (by decide +kernel)
theorem yk74 : yw_k 74 := ⟨gm2 206 (by decide +kernel) (by decide +kernel), gm2 207 (by decide +kernel) (by decide +kernel), by decide +kernel, by decide +kernel⟩
theorem yw74 : YW 74 := ⟨by decide +kernel, ya74, yi8, yk74⟩
theorem ya75 : mW 75 ∈ XU := gm2 111 (by decide +kernel) (by decide +kernel)
theorem yk75 : yw_k 75 := ⟨gm2 109 (by decide +kernel) (by decide +kernel), gm2 110 (by decide +kernel) (by decide +kernel), by decide +kernel, by decide +kernel⟩
theorem yw75 : YW 75 := ⟨by decide +kernel, ya75, yi8, yk75⟩
theorem ya76 : mW 76 ∈ XU := gm5 73 (by decide +kernel) (by decide +kernel)
theorem yk76 : yw_k 76 := ⟨gm5 71 (by decide +kernel) (by decide +kernel), gm5 72 (by decide +kernel) (by decide +kernel), by decide +kernel, by decide +kernel⟩
theorem yw76 : YW 76 := ⟨by decide +kernel, ya76, yi8, yk76⟩
theorem ya77 : mW 77 ∈ XU := gm1 234 (by decide +kernel) (by decide +kernel)
theorem yk77 : yw_k 77 := ⟨gm1 232 (by decide +kernel) (by decide +kernel), gm1 233 (by decide +kernel) (by decide +kernel), by decide +kernel, by decide +kernel⟩
theorem yw77 : YW 77 := ⟨by decide +kernel, ya77, yi8, yk77⟩
theorem ya78 : mW 78 ∈ XU := gm1 238 (by decide +kernel) (by decide +kernel)
theorem yk78 : yw_k 78 := ⟨gm1 237 (by decide +kernel) (by decide +kernel), xu_s 0 (by decide +kernel) (by decide +kernel), by decide +kernel, by decide +kernel⟩
theorem yw78 : YW 78 := ⟨by decide +kernel, ya78, yi8, yk78⟩
theorem ya79 : mW 79 ∈ XU := gm2 18 (by decide +kernel) (by decide +kernel)
theorem yk79 : yw_k 79 := ⟨gm2 17 (by decide +kernel) (by decide +kernel), xu_s 1 (by decide +kernel) (by decide +kernel), by decide +kernel, by decide +kernel⟩
theorem yw79 : YW 79 := ⟨by decide +kernel, ya79, yi8, yk79⟩
theorem ya80 : mW 80 ∈ XU := gm1 149 (by decide +kernel) (by decide +kernel)
theorem yk80 : yw_k 80 := gm1 148 (by decide +kernel) (by decide +kernel)
theorem yw80 : YW 80 := ⟨by decide +kernel, ya80, yi8, yk80⟩
theorem ya81 : mW 81 ∈ XU := gm1 29 (by decide +kernel) (by decide +kernel)
theorem yk81 : yw_k 81 := ⟨gm1 28 (by decide +kernel) (by decide +kernel), by decide +kernel, by decide +kernel⟩
theorem yw81 : YW 81 := ⟨by decide +kernel, ya81, yi9, yk81⟩
theorem ya82 : mW 82 ∈ XU := gm2 226 (by decide +kernel) (by decide +kernel)
theorem yk82 : yw_k 82 := ⟨gm2 224 (by decide +kernel) (by decide +kernel), gm2 225 (by decide +kernel) (by decide +kernel), by decide +kernel, by decide +kernel⟩
theorem yw82 : YW 82 := ⟨by decide +kernel, ya82, yi9, yk82⟩
theorem ya83 : mW 83 ∈ XU := gm3 143 (by decide +kernel) (by decide +kernel)
theorem yk83 : yw_k 83 := ⟨gm3 141 (by decide +kernel) (by decide +kernel), gm3 142 (by decide +kernel) (by decide +kernel), by decide +kernel, by decide +kernel⟩
theorem yw83 : YW 83 := ⟨by decide +kernel, ya83, yi9, yk83⟩
theorem ya84 : mW 84 ∈ XU := gm3 168 (by decide +kernel) (by decide +kernel)
theorem yk84 : yw_k 84 := ⟨gm3 166 (by decide +kernel) (by decide +kernel), gm3 167 (by decide +kernel) (by decide +kernel), by decide +kernel, by decide +kernel⟩
theorem yw84 : YW 84 := ⟨by decide +kernel, ya84, yi9, yk84⟩
theorem ya85 : mW 85 ∈ XU := gm1 222 (by decide +kernel) (by decide +kernel)
theorem yk85 : yw_k 85 := ⟨gm1 220 (by decide +kernel) (by decide +kernel), gm1 221 (by decide +kernel) (by decide +kernel), by decide +kernel, by decide +kernel⟩
theorem yw85 : YW 85 := ⟨by decide +kernel, ya85, yi9, yk85⟩
theorem ya86 : mW 86 ∈ XU := gm3 183 (by decide +kernel) (by decide +kernel)
theorem yk86 : yw_k 86 := ⟨gm3 181 (by decide +kernel) (by decide +kernel), gm3 182 (by decide +kernel) (by decide +kernel), by decide +kernel, by decide +kernel⟩
theorem yw86 : YW 86 := ⟨by decide +kernel, ya86, yi9, yk86⟩
theorem ya87 : mW 87 ∈ XU := gm3 195 (by decide +kernel) (by decide +kernel)
theorem yk87 : yw_k 87 := ⟨gm3 193 (by decide +kernel) (by decide +kernel), gm3 194 (by decide +kernel) (by decide +kernel), by decide +kernel, by decide +kernel⟩
theorem yw87 : YW 87 := ⟨by decide +kernel, ya87, yi9, yk87⟩
theorem ya88 : mW 88 ∈ XU := gm3 220 (by decide +kernel) (by decide +kernel)
theorem yk88 : yw_k 88 := ⟨gm3 218 (by decide +kernel) (by decide +kernel), gm3 219 (by decide +kernel) (by decide +kernel), by decide +kernel, by decide +kernel⟩
theorem yw88 : YW 88 := ⟨by decide +kernel, ya88, yi9, yk88⟩
theorem ya89 : mW 89 ∈ XU := gm3 234 (by decide +kernel) (by decide +kernel)
theorem yk89 : yw_k 89 := ⟨gm3 232 (by decide +kernel) (by decide +kernel), gm3 233 (by decide +kernel) (by decide +kernel), by decide +kernel, by decide +kernel⟩
theorem yw89 : YW 89 := ⟨by decide +kernel, ya89, yi9, yk89⟩
theorem ya90 : mW 90 ∈ XU := gm4 2 (by decide +kernel) (by decide +kernel)
theorem yk90 : yw_k 90 := ⟨gm4 0 (by decide +kernel) (by decide +kernel), gm4 1 (by decide +kernel) (by decide +kernel), by decide +kernel, by decide +kernel⟩
theorem yw90 : YW 90 := ⟨by decide +kernel, ya90, yi9, yk90⟩
theorem ya91 : mW 91 ∈ XU := gm4 10 (by decide +kernel) (by decide +kernel)
theorem yk91 : yw_k 91 := ⟨gm4 8 (by decide +kernel) (by decide +kernel), gm4 9 (by decide +kernel) (by decide +kernel), by decide +kernel, by decide +kernel⟩
theorem yw91 : YW 91 := ⟨by decide +kernel, ya91, yi9, yk91⟩
theorem ya92 : mW 92 ∈ XU := gm4 22 (by decide +kernel) (by decide +kernel)
theorem yk92 : yw_k 92 := ⟨gm4 20 (by decide +kernel) (by decide +kernel), gm4 21 (by decide +kernel) (by decide +kernel), by decide +kernel, by decide +kernel⟩
theorem yw92 : YW 92 := ⟨by decide +kernel, ya92, yi9, yk92⟩
theorem ya93 : mW 93 ∈ XU := gm4 34 (by decide +kernel) (by decide +kernel)
theorem yk93 : yw_k 93 := ⟨gm4 32 (by decide +kernel) (by decide +kernel), gm4 33 (by decide +kernel) (by decide +kernel), by decide +kernel, by decide +kernel⟩
theorem yw93 : YW 93 := ⟨by decide +kernel, ya93, yi9, yk93⟩
theorem ya94 : mW 94 ∈ XU := gm4 46 (by decide +kernel) (by decide +kernel)
theorem yk94 : yw_k 94 := ⟨gm4 44 (by decide +kernel) (by decide +kernel), gm4 45 (by decide +kernel) (by decide +kernel), by decide +kernel, by decide +kernel⟩
theorem yw94 : YW 94 := ⟨by decide +kernel, ya94, yi9, yk94⟩
theorem ya95 : mW 95 ∈ XU := gm4 61 (by decide +kernel) (by decide +kernel)
theorem yk95 : yw_k 95 := ⟨gm4 59 (by decide +kernel) (by decide +kernel), gm4 60 (by decide +kernel) (by decide +kernel), by decide +kernel, by decide +kernel⟩
theorem yw95 : YW 95 := ⟨by decide +kernel, ya95, yi9, yk95⟩
theorem ya96 : mW 96 ∈ XU := gm4 84 (by decide +kernel) (by decide +kernel)
theorem yk96 : yw_k 96 := ⟨gm4 82 (by decide +kernel) (by decide +kernel), gm4 83 (by decide +kernel) (by decide +kernel), by decide +kernel, by decide +kernel⟩
theorem yw96 : YW 96 := ⟨by decide +kernel, ya96, yi9, yk96⟩
theorem ya97 : mW 97 ∈ XU := gm4 92 (by decide +kernel) (by decide +kernel)
theorem yk97 : yw_k 97 := ⟨gm4 90 (by decide +kernel) (by decide +kernel), gm4 91 (by decide +kernel) (by decide +kernel), by decide +kernel, by decide +kernel⟩
theorem yw97 : YW 97 := ⟨by decide +kernel, ya97, yi9, yk97⟩
theorem ya98 : mW 98 ∈ XU := gm1 230 (by decide +kernel) (by decide +kernel)
theorem yk98 : yw_k 98 := ⟨gm1 228 (by decide +kernel) (by decide +kernel), gm1 229 (by decide +kernel) (by decide +kernel), by decide +kernel, by decide +kernel⟩
theorem yw98 : YW 98 := ⟨by decide +kernel, ya98, yi9, yk98⟩
theorem ya99 : mW 99 ∈ XU := gm4 111 (by decide +kernel) (by decide +kernel)
theorem yk99 : yw_k 99 := ⟨gm4 109 (by decide +kernel) (by decide +kernel), gm4 110 (by decide +kernel) (by decide +kernel), by decide +kernel, by decide +kernel⟩
theorem yw99 : YW 99 := ⟨by decide +kernel, ya99, yi9, yk99⟩
theorem ya100 : mW 100 ∈ XU := gm4 138 (by decide +kernel) (by decide +kernel)
theorem yk100 : yw_k 100 := ⟨gm4 136 (by decide +kernel) (by decide +kernel), gm4 137 (by decide +kernel) (by decide +kernel), by decide +kernel, by decide +kernel⟩
theorem yw100 : YW 100 := ⟨by decide +kernel, ya100, yi9, yk100⟩
theorem ya101 : mW 101 ∈ XU := gm4 166 (by decide +kernel) (by decide +kernel)
theorem yk101 : yw_k 101 := ⟨gm4 164 (by decide +kernel) (by decide +kernel), gm4 165 (by decide +kernel) (by decide +kernel), by decide +kernel, by decide +kernel⟩
theorem yw101 : YW 101 := ⟨by decide +kernel, ya101, yi9, yk101⟩
theorem ya102 : mW 102 ∈ XU := gm4 174 (by decide +kernel) (by decide +kernel)
theorem yk102 : yw_k 102 := ⟨gm4 172 (by decide +kernel) (by decide +kernel), gm4 173 (by decide +kernel) (by decide +kernel), by decide +kernel, by decide +kernel⟩
theorem yw102 : YW 102 := ⟨by decide +kernel, ya102, yi9, yk102⟩
theorem ya103 : mW 103 ∈ XU := gm4 182 (by decide +kernel) (by decide +kernel)
theorem yk103 : yw_k 103 := ⟨gm4 180 (by decide +kernel) (by decide +kernel), gm4 181 (by decide +kernel) (by decide +kernel), by decide +kernel, by decide +kernel⟩
theorem yw103 : YW 103 := ⟨by decide +kernel, ya103, yi9, yk103⟩
theorem ya104 : mW 104 ∈ XU := gm4 190 (by decide +kernel) (by decide +kernel)
theorem yk104 : yw_k 104 := ⟨gm4 188 (by decide +kernel) (by decide +kernel), gm4 189 (by decide +kernel) (by decide +kernel), by decide +kernel, by decide +kernel⟩
theorem yw104 : YW 104 := ⟨by decide +kernel, ya104, yi9, yk104⟩
theorem ya105 : mW 105 ∈ XU := gm4 198 (by decide +kernel) (by decide +kernel)
theorem yk105 : yw_k 105 := ⟨gm4 196 (by decide +kernel) (by decide +kernel), gm4 197 (by decide +kernel) (by decide +kernel), by decide +kernel, by decide +kernel⟩
theorem yw105 : YW 105 := ⟨by decide +kernel, ya105, yi9, yk105⟩
theorem ya106 : mW 106 ∈ XU := gm4 227 (by decide +kernel) (by decide +kernel)
theorem yk106 : yw_k 106 := ⟨gm4 225 (by decide +kernel) (by decide +kernel), gm4 226 (by decide +kernel) (by decide +kernel), by decide +kernel, by decide +kernel⟩
theorem yw106 : YW 106 := ⟨by decide +kernel, ya106, yi9, yk106⟩
theorem ya107 : mW 107 ∈ XU := gm4 239 (by decide +kernel) (by decide +kernel)
theorem yk107 : yw_k 107 := ⟨gm4 237 (by decide +kernel) (by decide +kernel), gm4 238 (by decide +kernel) (by decide +kernel), by decide +kernel, by decide +kernel⟩
theorem yw107 : YW 107 := ⟨by decide +kernel, ya107, yi9, yk107⟩
theorem ya108 : mW 108 ∈ XU := gm5 6 (by decide +kernel) (by decide +kernel)
theorem yk108 : yw_k 108 := ⟨gm5 4 (by decide +kernel) (by decide +kernel), gm5 5 (by decide +kernel) (by decide +kernel), by decide +kernel, by decide +kernel⟩
theorem yw108 : YW 108 := ⟨by decide +kernel, ya108, yi9, yk108⟩
theorem ya109 : mW 109 ∈ XU := gm2 115 (by decide +kernel) (by decide +kernel)
theorem yk109 : yw_k 109 := ⟨gm2 113 (by decide +kernel) (by decide +kernel), gm2 114 (by decide +kernel) (by decide +kernel), by decide +kernel, by decide +kernel⟩
theorem yw109 : YW 109 := ⟨by decide +kernel, ya109, yi9, yk109⟩
theorem ya110 : mW 110 ∈ XU := gm5 13 (by decide +kernel) (by decide +kernel)
theorem yk110 : yw_k 110 := ⟨gm5 11 (by decide +kernel) (by decide +kernel), gm5 12 (by decide +kernel) (by decide +kernel), by decide +kernel, by decide +kernel⟩
theorem yw110 : YW 110 := ⟨by decide +kernel, ya110, yi9, yk110⟩
theorem ya111 : mW 111 ∈ XU := gm2 123 (by decide +kernel) (by decide +kernel)
theorem yk111 : yw_k 111 := ⟨gm2 121 (by decide +kernel) (by decide +kernel), gm2 122 (by decide +kernel) (by decide +kernel), by decide +kernel, by decide +kernel⟩
theorem yw111 : YW 111 := ⟨by decide +kernel, ya111, yi9, yk111⟩
theorem ya112 : mW 112 ∈ XU := gm5 25 (by decide +kernel) (by decide +kernel)
theorem yk112 : yw_k 112 := ⟨gm5 23 (by decide +kernel) (by decide +kernel), gm5 24 (by decide +kernel) (by decide +kernel), by decide +kernel, by decide +kernel⟩
theorem yw112 : YW 112 := ⟨by decide +kernel, ya112, yi9, yk112⟩
theorem ya113 : mW 113 ∈ XU := gm5 36 (by decide +kernel) (by decide +kernel)
theorem yk113 : yw_k 113 := ⟨gm5 34 (by decide +kernel) (by decide +kernel), gm5 35 (by decide +kernel) (by decide +kernel), by decide +kernel, by decide +kernel⟩
theorem yw113 : YW 113 := ⟨by decide +kernel, ya113, yi9, yk113⟩
theorem ya114 : mW 114 ∈ XU := gm5 47 (by decide +kernel) (by decide +kernel)
theorem yk114 : yw_k 114 := ⟨gm5 45 (by decide +kernel) (by decide +kernel), gm5 46 (by decide +kernel) (by decide +kernel), by decide +kernel, by decide +kernel⟩
theorem yw114 : YW 114 := ⟨by decide +kernel, ya114, yi9, yk114⟩
theorem ya115 : mW 115 ∈ XU := gm2 136 (by decide +kernel) (by decide +kernel)
theorem yk115 : yw_k 115 := ⟨gm2 134 (by decide +kernel) (by decide +kernel), gm2 135 (by decide +kernel) (by decide +kernel), by decide +kernel, by decide +kernel⟩
theorem yw115 : YW 115 := ⟨by decide +kernel, ya115, yi9, yk115⟩
theorem ya116 : mW 116 ∈ XU := gm2 141 (by decide +kernel) (by decide +kernel)
theorem yk116 : yw_k 116 := ⟨gm2 139 (by decide +kernel) (by decide +kernel), gm2 140 (by decide +kernel) (by decide +kernel), by decide +kernel, by decide +kernel⟩
theorem yw116 : YW 116 := ⟨by decide +kernel, ya116, yi9, yk116⟩
theorem ya117 : mW 117 ∈ XU := gm5 57 (by decide +kernel) (by decide +kernel)
theorem yk117 : yw_k 117 := ⟨gm5 55 (by decide +kernel) (by decide +kernel), gm5 56 (by decide +kernel) (by decide +kernel), by decide +kernel, by decide +kernel⟩
theorem yw117 : YW 117 := ⟨by decide +kernel, ya117, yi9, yk117⟩
theorem ya118 : mW 118 ∈ XU := gm5 69 (by decide +kernel) (by decide +kernel)
theorem yk118 : yw_k 118 := ⟨gm5 67 (by decide +kernel) (by decide +kernel), gm5 68 (by decide +kernel) (by decide +kernel), by decide +kernel, by decide +kernel⟩
theorem yw118 : YW 118 := ⟨by decide +kernel, ya118, yi9, yk118⟩
theorem ya119 : mW 119 ∈ XU := gm2 146 (by decide +kernel) (by decide +kernel)
theorem yk119 : yw_k 119 := ⟨gm2 144 (by decide +kernel) (by decide +kernel), gm2 145 (by decide +kernel) (by decide +kernel), by decide +kernel, by decide +kernel⟩
theorem yw119 : YW 119 := ⟨by decide +kernel, ya119, yi9, yk119⟩
theorem ya120 : mW 120 ∈ XU := gm2 229 (by decide +kernel) (by decide +kernel)
theorem yk120 : yw_k 120 := gm2 228 (by decide +kernel) (by decide +kernel)
theorem yw120 : YW 120 := ⟨by decide +kernel, ya120, yi9, yk120⟩
theorem ya121 : mW 121 ∈ XU := gm2 65 (by decide +kernel) (by decide +kernel)
theorem yk121 : yw_k 121 := gm2 64 (by decide +kernel) (by decide +kernel)
theorem yw121 : YW 121 := ⟨by decide +kernel, ya121, yi9, yk121⟩
theorem ya122 : mW 122 ∈ XU := gm4 70 (by decide +kernel) (by decide +kernel)
theorem yk122 : yw_k 122 := gm4 69 (by decide +kernel) (by decide +kernel)
theorem yw122 : YW 122 := ⟨by decide +kernel, ya122, yi9, yk122⟩
theorem ya123 : mW 123 ∈ XU := gm4 49 (by decide +kernel) (by decide +kernel)
theorem yk123 : yw_k 123 := gm4 48 (by decide +kernel) (by decide +kernel)
theorem yw123 : YW 123 := ⟨by decide +kernel, ya123, yi9, yk123⟩
theorem ya124 : mW 124 ∈ XU := gm3 186 (by decide +kernel) (by decide +kernel)
theorem yk124 : yw_k 124 := gm3 185 (by decide +kernel) (by decide +kernel)
theorem yw124 : YW 124 := ⟨by decide +kernel, ya124, yi9, yk124⟩
theorem ya125 : mW 125 ∈ XU := gm4 67 (by decide +kernel) (by decide +kernel)
theorem yk125 : yw_k 125 := gm4 66 (by decide +kernel) (by decide +kernel)
theorem yw125 : YW 125 := ⟨by decide +kernel, ya125, yi9, yk125⟩
theorem ya126 : mW 126 ∈ XU := gm4 64 (by decide +kernel) (by decide +kernel)
theorem yk126 : yw_k 126 := gm4 63 (by decide +kernel) (by decide +kernel)
theorem yw126 : YW 126 := ⟨by decide +kernel, ya126, yi9, yk126⟩
theorem ya127 : mW 127 ∈ XU := gm4 114 (by decide +kernel) (by decide +kernel)
theorem yk127 : yw_k 127 := gm4 113 (by decide +kernel) (by decide +kernel)
theorem yw127 : YW 127 := ⟨by decide +kernel, ya127, yi9, yk127⟩
theorem ya128 : mW 128 ∈ XU := gm4 231 (by decide +kernel) (by decide +kernel)
theorem yk128 : yw_k 128 := ⟨gm4 230 (by decide +kernel) (by decide +kernel), xu_s 17 (by decide +kernel) (by decide +kernel), by decide +kernel, by decide +kernel⟩
theorem yw128 : YW 128 := ⟨by decide +kernel, ya128, yi9, yk128⟩
theorem ya129 : mW 129 ∈ XU := gm5 61 (by decide +kernel) (by decide +kernel)
theorem yk129 : yw_k 129 := ⟨gm5 60 (by decide +kernel) (by decide +kernel), xu_s 18 (by decide +kernel) (by decide +kernel), by decide +kernel, by decide +kernel⟩
theorem yw129 : YW 129 := ⟨by decide +kernel, ya129, yi9, yk129⟩
theorem ya130 : mW 130 ∈ XU := gm4 211 (by decide +kernel) (by decide +kernel)
theorem yk130 : yw_k 130 := ⟨gm4 210 (by decide +kernel) (by decide +kernel), xu_s 15 (by decide +kernel) (by decide +kernel), by decide +kernel, by decide +kernel⟩
theorem yw130 : YW 130 := ⟨by decide +kernel, ya130, yi9, yk130⟩
theorem ya131 : mW 131 ∈ XU := gm2 181 (by decide +kernel) (by decide +kernel)
theorem yk131 : yw_k 131 := ⟨gm2 180 (by decide +kernel) (by decide +kernel), xu_s 7 (by decide +kernel) (by decide +kernel), by decide +kernel, by decide +kernel⟩
theorem yw131 : YW 131 := ⟨by decide +kernel, ya131, yi9, yk131⟩
theorem ya132 : mW 132 ∈ XU := gm2 202 (by decide +kernel) (by decide +kernel)
theorem yk132 : yw_k 132 := ⟨gm2 201 (by decide +kernel) (by decide +kernel), xu_s 8 (by decide +kernel) (by decide +kernel), by decide +kernel, by decide +kernel⟩
theorem yw132 : YW 132 := ⟨by decide +kernel, ya132, yi9, yk132⟩
theorem ya133 : mW 133 ∈ XU := gm2 212 (by decide +kernel) (by decide +kernel)
theorem yk133 : yw_k 133 := ⟨gm2 211 (by decide +kernel) (by decide +kernel), xu_s 9 (by decide +kernel) (by decide +kernel), by decide +kernel, by decide +kernel⟩
theorem yw133 : YW 133 := ⟨by decide +kernel, ya133, yi9, yk133⟩
theorem ya134 : mW 134 ∈ XU := gm5 78 (by decide +kernel) (by decide +kernel)
theorem yk134 : yw_k 134 := ⟨gm5 77 (by decide +kernel) (by decide +kernel), by decide +kernel, by decide +kernel⟩
theorem yw134 : YW 134 := ⟨by decide +kernel, ya134, yi10, yk134⟩
theorem ya135 : mW 135 ∈ XU := gm5 154 (by decide +kernel) (by decide +kernel)
theorem yk135 : yw_k 135 := ⟨gm5 152 (by decide +kernel) (by decide +kernel), gm5 153 (by decide +kernel) (by decide +kernel), by decide +kernel, by decide +kernel⟩
theorem yw135 : YW 135 := ⟨by decide +kernel, ya135, yi10, yk135⟩
theorem ya136 : mW 136 ∈ XU := gm5 164 (by decide +kernel) (by decide +kernel)
theorem yk136 : yw_k 136 := gm5 163 (by decide +kernel) (by decide +kernel)
theorem yw136 : YW 136 := ⟨by decide +kernel, ya136, yi10, yk136⟩
theorem ya137 : mW 137 ∈ XU := gm5 168 (by decide +kernel) (by decide +kernel)
theorem yk137 : yw_k 137 := ⟨gm5 167 (by decide +kernel) (by decide +kernel), xu_s 19 (by decide +kernel) (by decide +kernel), by decide +kernel, by decide +kernel⟩
theorem yw137 : YW 137 := ⟨by decide +kernel, ya137, yi10, yk137⟩
theorem ya138 : mW 138 ∈ XU := gm5 188 (by decide +kernel) (by decide +kernel)
theorem yk138 : yw_k 138 := ⟨gm5 187 (by decide +kernel) (by decide +kernel), xu_s 20 (by decide +kernel) (by decide +kernel), by decide +kernel, by decide +kernel⟩
theorem yw138 : YW 138 := ⟨by decide +kernel, ya138, yi10, yk138⟩
theorem ya139 : mW 139 ∈ XU := gm5 161 (by decide +kernel) (by decide +kernel)
theorem yk139 : yw_k 139 := gm5 160 (by decide +kernel) (by decide +kernel)
theorem yw139 : YW 139 := ⟨by decide +kernel, ya139, yi10, yk139⟩
theorem ya140 : mW 140 ∈ XU := gm5 158 (by decide +kernel) (by decide +kernel)
theorem yk140 : yw_k 140 := ⟨gm5 156 (by decide +kernel) (by decide +kernel), gm5 157 (by decide +kernel) (by decide +kernel), by decide +kernel, by decide +kernel⟩
theorem yw140 : YW 140 := ⟨by decide +kernel, ya140, yi10, yk140⟩
theorem ya141 : mW 141 ∈ XU := gm5 172 (by decide +kernel) (by decide +kernel)
theorem yk141 : yw_k 141 := ⟨gm5 170 (by decide +kernel) (by decide +kernel), gm5 171 (by decide +kernel) (by decide +kernel), by decide +kernel, by decide +kernel⟩
theorem yw141 : YW 141 := ⟨by decide +kernel, ya141, yi10, yk141⟩
theorem ya142 : mW 142 ∈ XU := gm5 176 (by decide +kernel) (by decide +kernel)
theorem yk142 : yw_k 142 := ⟨gm5 174 (by decide +kernel) (by decide +kernel), gm5 175 (by decide +kernel) (by decide +kernel), by decide +kernel, by decide +kernel⟩
theorem yw142 : YW 142 := ⟨by decide +kernel, ya142, yi10, yk142⟩
theorem ya143 : mW 143 ∈ XU := gm5 180 (by decide +kernel) (by decide +kernel)
theorem yk143 : yw_k 143 := ⟨gm5 178 (by decide +kernel) (by decide +kernel), gm5 179 (by decide +kernel) (by decide +kernel), by decide +kernel, by decide +kernel⟩
theorem yw143 : YW 143 := ⟨by decide +kernel, ya143, yi10, yk143⟩
theorem ya144 : mW 144 ∈ XU := gm5 196 (by decide +kernel) (by decide +kernel)
theorem yk144 : yw_k 144 := ⟨gm5 195 (by decide +kernel) (by decide +kernel), xu_s 22 (by decide +kernel) (by decide +kernel), by decide +kernel, by decide +kernel⟩
theorem yw144 : YW 144 := ⟨by decide +kernel, ya144, yi10, yk144⟩
theorem ya145 : mW 145 ∈ XU := gm5 212 (by decide +kernel) (by decide +kernel)
theorem yk145 : yw_k 145 := ⟨gm5 211 (by decide +kernel) (by decide +kernel), xu_s 24 (by decide +kernel) (by decide +kernel), by decide +kernel, by decide +kernel⟩
theorem yw145 : YW 145 := ⟨by decide +kernel, ya145, yi10, yk145⟩
theorem ya146 : mW 146 ∈ XU := gm5 192 (by decide +kernel) (by decide +kernel)
theorem yk146 : yw_k 146 := ⟨gm5 191 (by decide +kernel) (by decide +kernel), xu_s 21 (by decide +kernel) (by decide +kernel), by decide +kernel, by decide +kernel⟩
theorem yw146 : YW 146 := ⟨by decide +kernel, ya146, yi10, yk146⟩
theorem ya147 : mW 147 ∈ XU := gm5 184 (by decide +kernel) (by decide +kernel)
theorem yk147 : yw_k 147 := ⟨gm5 182 (by decide +kernel) (by decide +kernel), gm5 183 (by decide +kernel) (by decide +kernel), by decide +kernel, by decide +kernel⟩
theorem yw147 : YW 147 := ⟨by decide +kernel, ya147, yi10, yk147⟩
theorem ya148 : mW 148 ∈ XU := gm5 204 (by decide +kernel) (by decide +kernel)
theorem yk148 : yw_k 148 := ⟨gm5 203 (by decide +kernel) (by decide +kernel), xu_s 23 (by decide +kernel) (by decide +kernel), by decide +kernel, by decide +kernel⟩
theorem yw148 : YW 148 := ⟨by decide +kernel, ya148, yi10, yk148⟩
theorem ya149 : mW 149 ∈ XU := gm5 200 (by decide +kernel) (by decide +kernel)
theorem yk149 : yw_k 149 := ⟨gm5 198 (by decide +kernel) (by decide +kernel), gm5 199 (by decide +kernel) (by decide +kernel), by decide +kernel, by decide +kernel⟩
theorem yw149 : YW 149 := ⟨by decide +kernel, ya149, yi10, yk149⟩
theorem ya150 : mW 150 ∈ XU := gm5 208 (by decide +kernel) (by decide +kernel)
theorem yk150 : yw_k 150 := ⟨gm5 206 (by decide +kernel) (by decide +kernel), gm5 207 (by decide +kernel) (by decide +kernel), by decide +kernel, by decide +kernel⟩
theorem yw150 : YW 150 := ⟨by decide +kernel, ya150, yi10, yk150⟩
theorem ya151 : mW 151 ∈ XU := gm5 216 (by decide +kernel) (by decide +kernel)
theorem yk151 : yw_k 151 := ⟨gm5 214 (by decide +kernel) (by decide +kernel), gm5 215 (by decide +kernel) (by decide +kernel), by decide +kernel, by decide +kernel⟩
theorem yw151 : YW 151 := ⟨by decide +kernel, ya151, yi10, yk151⟩
theorem ya152 : mW 152 ∈ XU := gm5 228 (by decide +kernel) (by decide +kernel)
theorem yk152 : yw_k 152 := ⟨gm5 227 (by decide +kernel) (by decide +kernel), xu_s 26 (by decide +kernel) (by decide +kernel), by decide +kernel, by decide +kernel⟩
theorem yw152 : YW 152 := ⟨by decide +kernel, ya152, yi10, yk152⟩
theorem ya153 : mW 153 ∈ XU := gm5 224 (by decide +kernel) (by decide +kernel)
theorem yk153 : yw_k 153 := ⟨gm5 223 (by decide +kernel) (by decide +kernel), xu_s 25 (by decide +kernel) (by decide +kernel), by decide +kernel, by decide +kernel⟩
theorem yw153 : YW 153 := ⟨by decide +kernel, ya153, yi10, yk153⟩
theorem ya154 : mW 154 ∈ XU := gm5 220 (by decide +kernel) (by decide +kernel)
theorem yk154 : yw_k 154 := ⟨gm5 218 (by decide +kernel) (by decide +kernel), gm5 219 (by decide +kernel) (by decide +kernel), by decide +kernel, by decide +kernel⟩
theorem yw154 : YW 154 := ⟨by decide +kernel, ya154, yi10, yk154⟩
theorem ya155 : mW 155 ∈ XU := gm5 232 (by decide +kernel) (by decide +kernel)
theorem yk155 : yw_k 155 := ⟨gm5 230 (by decide +kernel) (by decide +kernel), gm5 231 (by decide +kernel) (by decide +kernel), by decide +kernel, by decide +kernel⟩
theorem yw155 : YW 155 := ⟨by decide +kernel, ya155, yi10, yk155⟩
theorem ya156 : mW 156 ∈ XU := gm5 236 (by decide +kernel) (by decide +kernel)
theorem yk156 : yw_k 156 := ⟨gm5 234 (by decide +kernel) (by decide +kernel), gm5 235 (by decide +kernel) (by decide +kernel), by decide +kernel, by decide +kernel⟩
theorem yw156 : YW 156 := ⟨by decide +kernel, ya156, yi10, yk156⟩
theorem ya157 : mW 157 ∈ XU := gm6 0 (by decide +kernel) (by decide +kernel)
theorem yk157 : yw_k 157 := ⟨gm5 238 (by decide +kernel) (by decide +kernel), gm5 239 (by decide +kernel) (by decide +kernel), by decide +kernel, by decide +kernel⟩
theorem yw157 : YW 157 := ⟨by decide +kernel, ya157, yi10, yk157⟩
theorem ya158 : mW 158 ∈ XU := gm6 7 (by decide +kernel) (by decide +kernel)
theorem yk158 : yw_k 158 := gm6 6 (by decide +kernel) (by decide +kernel)
theorem yw158 : YW 158 := ⟨by decide +kernel, ya158, yi10, yk158⟩
theorem ya159 : mW 159 ∈ XU := gm6 4 (by decide +kernel) (by decide +kernel)
theorem yk159 : yw_k 159 := ⟨gm6 2 (by decide +kernel) (by decide +kernel), gm6 3 (by decide +kernel) (by decide +kernel), by decide +kernel, by decide +kernel⟩
theorem yw159 : YW 159 := ⟨by decide +kernel, ya159, yi10, yk159⟩
theorem ya160 : mW 160 ∈ XU := gm6 15 (by decide +kernel) (by decide +kernel)
theorem yk160 : yw_k 160 := ⟨gm6 14 (by decide +kernel) (by decide +kernel), xu_s 27 (by decide +kernel) (by decide +kernel), by decide +kernel, by decide +kernel⟩
theorem yw160 : YW 160 := ⟨by decide +kernel, ya160, yi10, yk160⟩
theorem ya161 : mW 161 ∈ XU := gm6 11 (by decide +kernel) (by decide +kernel)
theorem yk161 : yw_k 161 := ⟨gm6 9 (by decide +kernel) (by decide +kernel), gm6 10 (by decide +kernel) (by decide +kernel), by decide +kernel, by decide +kernel⟩
theorem yw161 : YW 161 := ⟨by decide +kernel, ya161, yi10, yk161⟩
theorem ya162 : mW 162 ∈ XU := gm6 19 (by decide +kernel) (by decide +kernel)
theorem yk162 : yw_k 162 := ⟨gm6 17 (by decide +kernel) (by decide +kernel), gm6 18 (by decide +kernel) (by decide +kernel), by decide +kernel, by decide +kernel⟩
theorem yw162 : YW 162 := ⟨by decide +kernel, ya162, yi10, yk162⟩
theorem ya163 : mW 163 ∈ XU := gm6 23 (by decide +kernel) (by decide +kernel)
theorem yk163 : yw_k 163 := ⟨gm6 21 (by decide +kernel) (by decide +kernel), gm6 22 (by decide +kernel) (by decide +kernel), by decide +kernel, by decide +kernel⟩
theorem yw163 : YW 163 := ⟨by decide +kernel, ya163, yi10, yk163⟩
theorem ya164 : mW 164 ∈ XU := gm6 35 (by decide +kernel) (by decide +kernel)
theorem yk164 : yw_k 164 := ⟨gm6 34 (by decide +kernel) (by decide +kernel), xu_s 29 (by decide +kernel) (by decide +kernel), by decide +kernel, by decide +kernel⟩
theorem yw164 : YW 164 := ⟨by decide +kernel, ya164, yi10, yk164⟩
theorem ya165 : mW 165 ∈ XU := gm6 43 (by decide +kernel) (by decide +kernel)
theorem yk165 : yw_k 165 := ⟨gm6 42 (by decide +kernel) (by decide +kernel), xu_s 31 (by decide +kernel) (by decide +kernel), by decide +kernel, by decide +kernel⟩
theorem yw165 : YW 165 := ⟨by decide +kernel, ya165, yi10, yk165⟩
theorem ya166 : mW 166 ∈ XU := gm6 67 (by decide +kernel) (by decide +kernel)
theorem yk166 : yw_k 166 := ⟨gm6 66 (by decide +kernel) (by decide +kernel), xu_s 37 (by decide +kernel) (by decide +kernel), by decide +kernel, by decide +kernel⟩
theorem yw166 : YW 166 := ⟨by decide +kernel, ya166, yi10, yk166⟩
theorem ya167 : mW 167 ∈ XU := gm6 63 (by decide +kernel) (by decide +kernel)
theorem yk167 : yw_k 167 := ⟨gm6 62 (by decide +kernel) (by decide +kernel), xu_s 36 (by decide +kernel) (by decide +kernel), by decide +kernel, by decide +kernel⟩
theorem yw167 : YW 167 := ⟨by decide +kernel, ya167, yi10, yk167⟩
theorem ya168 : mW 168 ∈ XU := gm6 51 (by decide +kernel) (by decide +kernel)
theorem yk168 : yw_k 168 := ⟨gm6 50 (by decide +kernel) (by decide +kernel), xu_s 33 (by decide +kernel) (by decide +kernel), by decide +kernel, by decide +kernel⟩
theorem yw168 : YW 168 := ⟨by decide +kernel, ya168, yi10, yk168⟩
theorem ya169 : mW 169 ∈ XU := gm6 47 (by decide +kernel) (by decide +kernel)
theorem yk169 : yw_k 169 := ⟨gm6 46 (by decide +kernel) (by decide +kernel), xu_s 32 (by decide +kernel) (by decide +kernel), by decide +kernel, by decide +kernel⟩
theorem yw169 : YW 169 := ⟨by decide +kernel, ya169, yi10, yk169⟩
theorem ya170 : mW 170 ∈ XU := gm6 39 (by decide +kernel) (by decide +kernel)
theorem yk170 : yw_k 170 := ⟨gm6 38 (by decide +kernel) (by decide +kernel), xu_s 30 (by decide +kernel) (by decide +kernel), by decide +kernel, by decide +kernel⟩
theorem yw170 : YW 170 := ⟨by decide +kernel, ya170, yi10, yk170⟩
theorem ya171 : mW 171 ∈ XU := gm6 71 (by decide +kernel) (by decide +kernel)
theorem yk171 : yw_k 171 := ⟨gm6 70 (by decide +kernel) (by decide +kernel), xu_s 38 (by decide +kernel) (by decide +kernel), by decide +kernel, by decide +kernel⟩
theorem yw171 : YW 171 := ⟨by decide +kernel, ya171, yi10, yk171⟩
theorem ya172 : mW 172 ∈ XU := gm6 55 (by decide +kernel) (by decide +kernel)
theorem yk172 : yw_k 172 := ⟨gm6 54 (by decide +kernel) (by decide +kernel), xu_s 34 (by decide +kernel) (by decide +kernel), by decide +kernel, by decide +kernel⟩
theorem yw172 : YW 172 := ⟨by decide +kernel, ya172, yi10, yk172⟩
theorem ya173 : mW 173 ∈ XU := gm6 31 (by decide +kernel) (by decide +kernel)
theorem yk173 : yw_k 173 := ⟨gm6 30 (by decide +kernel) (by decide +kernel), xu_s 28 (by decide +kernel) (by decide +kernel), by decide +kernel, by decide +kernel⟩
theorem yw173 : YW 173 := ⟨by decide +kernel, ya173, yi10, yk173⟩
theorem ya174 : mW 174 ∈ XU := gm6 59 (by decide +kernel) (by decide +kernel)
theorem yk174 : yw_k 174 := ⟨gm6 58 (by decide +kernel) (by decide +kernel), xu_s 35 (by decide +kernel) (by decide +kernel), by decide +kernel, by decide +kernel⟩
theorem yw174 : YW 174 := ⟨by decide +kernel, ya174, yi10, yk174⟩
theorem ya175 : mW 175 ∈ XU := gm6 27 (by decide +kernel) (by decide +kernel)
theorem yk175 : yw_k 175 := ⟨gm6 25 (by decide +kernel) (by decide +kernel), gm6 26 (by decide +kernel) (by decide +kernel), by decide +kernel, by decide +kernel⟩
theorem yw175 : YW 175 := ⟨by decide +kernel, ya175, yi10, yk175⟩
theorem ya176 : mW 176 ∈ XU := gm6 79 (by decide +kernel) (by decide +kernel)
theorem yk176 : yw_k 176 := ⟨gm6 78 (by decide +kernel) (by decide +kernel), xu_s 39 (by decide +kernel) (by decide +kernel), by decide +kernel, by decide +kernel⟩
theorem yw176 : YW 176 := ⟨by decide +kernel, ya176, yi10, yk176⟩
theorem ya177 : mW 177 ∈ XU := gm6 75 (by decide +kernel) (by decide +kernel)
theorem yk177 : yw_k 177 := ⟨gm6 73 (by decide +kernel) (by decide +kernel), gm6 74 (by decide +kernel) (by decide +kernel), by decide +kernel, by decide +kernel⟩
theorem yw177 : YW 177 := ⟨by decide +kernel, ya177, yi10, yk177⟩
theorem ya178 : mW 178 ∈ XU := gm6 83 (by decide +kernel) (by decide +kernel)
theorem yk178 : yw_k 178 := ⟨gm6 81 (by decide +kernel) (by decide +kernel), gm6 82 (by decide +kernel) (by decide +kernel), by decide +kernel, by decide +kernel⟩
theorem yw178 : YW 178 := ⟨by decide +kernel, ya178, yi10, yk178⟩
theorem ya179 : mW 179 ∈ XU := gm6 90 (by decide +kernel) (by decide +kernel)
theorem yk179 : yw_k 179 := gm6 89 (by decide +kernel) (by decide +kernel)
theorem yw179 : YW 179 := ⟨by decide +kernel, ya179, yi10, yk179⟩
theorem ya180 : mW 180 ∈ XU := gm6 87 (by decide +kernel) (by decide +kernel)
theorem yk180 : yw_k 180 := ⟨gm6 85 (by decide +kernel) (by decide +kernel), gm6 86 (by decide +kernel) (by decide +kernel), by decide +kernel, by decide +kernel⟩
theorem yw180 : YW 180 := ⟨by decide +kernel, ya180, yi10, yk180⟩
theorem ya181 : mW 181 ∈ XU := gm6 94 (by decide +kernel) (by decide +kernel)
theorem yk181 : yw_k 181 := ⟨gm6 92 (by decide +kernel) (by decide +kernel), gm6 93 (by decide +kernel) (by decide +kernel), by decide +kernel, by decide +kernel⟩
theorem yw181 : YW 181 := ⟨by decide +kernel, ya181, yi10, yk181⟩
theorem ya182 : mW 182 ∈ XU := gm6 102 (by decide +kernel) (by decide +kernel)
theorem yk182 : yw_k 182 := ⟨gm6 101 (by decide +kernel) (by decide +kernel), xu_s 40 (by decide +kernel) (by decide +kernel), by decide +kernel, by decide +kernel⟩
theorem yw182 : YW 182 := ⟨by decide +kernel, ya182, yi10, yk182⟩
theorem ya183 : mW 183 ∈ XU := gm6 98 (by decide +kernel) (by decide +kernel)
theorem yk183 : yw_k 183 := ⟨gm6 96 (by decide +kernel) (by decide +kernel), gm6 97 (by decide +kernel) (by decide +kernel), by decide +kernel, by decide +kernel⟩
theorem yw183 : YW 183 := ⟨by decide +kernel, ya183, yi10, yk183⟩
theorem ya184 : mW 184 ∈ XU := gm6 106 (by decide +kernel) (by decide +kernel)
theorem yk184 : yw_k 184 := ⟨gm6 104 (by decide +kernel) (by decide +kernel), gm6 105 (by decide +kernel) (by decide +kernel), by decide +kernel, by decide +kernel⟩
theorem yw184 : YW 184 := ⟨by decide +kernel, ya184, yi10, yk184⟩
theorem ya185 : mW 185 ∈ XU := gm6 110 (by decide +kernel) (by decide +kernel)
theorem yk185 : yw_k 185 := ⟨gm6 108 (by decide +kernel) (by decide +kernel), gm6 109 (by decide +kernel) (by decide +kernel), by decide +kernel, by decide +kernel⟩
theorem yw185 : YW 185 := ⟨by decide +kernel, ya185, yi10, yk185⟩
theorem ya186 : mW 186 ∈ XU := gm6 114 (by decide +kernel) (by decide +kernel)
theorem yk186 : yw_k 186 := ⟨gm6 112 (by decide +kernel) (by decide +kernel), gm6 113 (by decide +kernel) (by decide +kernel), by decide +kernel, by decide +kernel⟩
theorem yw186 : YW 186 := ⟨by decide +kernel, ya186, yi10, yk186⟩
theorem ya187 : mW 187 ∈ XU := gm6 118 (by decide +kernel) (by decide +kernel)
theorem yk187 : yw_k 187 := ⟨gm6 116 (by decide +kernel) (by decide +kernel), gm6 117 (by decide +kernel) (by decide +kernel), by decide +kernel, by decide +kernel⟩
theorem yw187 : YW 187 := ⟨by decide +kernel, ya187, yi10, yk187⟩
theorem ya188 : mW 188 ∈ XU := gm6 122 (by decide +kernel) (by decide +kernel)
theorem yk188 : yw_k 188 := ⟨gm6 120 (by decide +kernel) (by decide +kernel), gm6 121 (by decide +kernel) (by decide +kernel), by decide +kernel, by decide +kernel⟩
theorem yw188 : YW 188 := ⟨by decide +kernel, ya188, yi10, yk188⟩
theorem ya189 : mW 189 ∈ XU := gm6 126 (by decide +kernel) (by decide +kernel)
theorem yk189 : yw_k 189 := ⟨gm6 124 (by decide +kernel) (by decide +kernel), gm6 125 (by decide +kernel) (by decide +kernel), by decide +kernel, by decide +kernel⟩
theorem yw189 : YW 189 := ⟨by decide +kernel, ya189, yi10, yk189⟩
theorem ya190 : mW 190 ∈ XU := gm6 134 (by decide +kernel) (by decide +kernel)
theorem yk190 : yw_k 190 := ⟨gm6 133 (by decide +kernel) (by decide +kernel), xu_s 41 (by decide +kernel) (by decide +kernel), by decide +kernel, by decide +kernel⟩
theorem yw190 : YW 190 := ⟨by decide +kernel, ya190, yi10, yk190⟩
theorem ya191 : mW 191 ∈ XU := gm6 130 (by decide +kernel) (by decide +kernel)
theorem yk191 : yw_k 191 := ⟨gm6 128 (by decide +kernel) (by decide +kernel), gm6 129 (by decide +kernel) (by decide +kernel), by decide +kernel, by decide +kernel⟩
theorem yw191 : YW 191 := ⟨by decide +kernel, ya191, yi10, yk191⟩
theorem ya192 : mW 192 ∈ XU := gm6 138 (by decide +kernel) (by decide +kernel)
theorem yk192 : yw_k 192 := ⟨gm6 136 (by decide +kernel) (by decide +kernel), gm6 137 (by decide +kernel) (by decide +kernel), by decide +kernel, by decide +kernel⟩
theorem yw192 : YW 192 := ⟨by decide +kernel, ya192, yi10, yk192⟩
theorem ya193 : mW 193 ∈ XU := gm6 142 (by decide +kernel) (by decide +kernel)
theorem yk193 : yw_k 193 := ⟨gm6 140 (by decide +kernel) (by decide +kernel), gm6 141 (by decide +kernel) (by decide +kernel), by decide +kernel, by decide +kernel⟩
theorem yw193 : YW 193 := ⟨by decide +kernel, ya193, yi10, yk193⟩
theorem ya194 : mW 194 ∈ XU := gm6 146 (by decide +kernel) (by decide +kernel)
theorem yk194 : yw_k 194 := ⟨gm6 144 (by decide +kernel) (by decide +kernel), gm6 145 (by decide +kernel) (by decide +kernel), by decide +kernel, by decide +kernel⟩
theorem yw194 : YW 194 := ⟨by decide +kernel, ya194, yi10, yk194⟩
theorem ya195 : mW 195 ∈ XU := gm6 150 (by decide +kernel) (by decide +kernel)
theorem yk195 : yw_k 195 := ⟨gm6 148 (by decide +kernel) (by decide +kernel), gm6 149 (by decide +kernel) (by decide +kernel), by decide +kernel, by decide +kernel⟩
theorem yw195 : YW 195 := ⟨by decide +kernel, ya195, yi10, yk195⟩
theorem ya196 : mW 196 ∈ XU := gm6 154 (by decide +kernel) (by decide +kernel)
theorem yk196 : yw_k 196 := ⟨gm6 152 (by decide +kernel) (by decide +kernel), gm6 153 (by decide +kernel) (by decide +kernel), by decide +kernel, by decide +kernel⟩
theorem yw196 : YW 196 := ⟨by decide +kernel, ya196, yi10, yk196⟩
theorem ya197 : mW 197 ∈ XU := gm6 158 (by decide +kernel) (by decide +kernel)
theorem yk197 : yw_k 197 := ⟨gm6 156 (by decide +kernel) (by decide +kernel), gm6 157 (by decide +kernel) (by decide +kernel), by decide +kernel, by decide +kernel⟩
theorem yw197 : YW 197 := ⟨by decide +kernel, ya197, yi10, yk197⟩
theorem ya198 : mW 198 ∈ XU := gm6 162 (by decide +kernel) (by decide +kernel)
theorem yk198 : yw_k 198 := ⟨gm6 160 (by decide +kernel) (by decide +kernel), gm6 161 (by decide +kernel) (by decide +kernel), by decide +kernel, by decide +kernel⟩
theorem yw198 : YW 198 := ⟨by decide +kernel, ya198, yi10, yk198⟩
theorem ya199 : mW 199 ∈ XU := gm6 166 (by decide +kernel) (by decide +kernel)
theorem yk199 : yw_k 199 := ⟨gm6 164 (by decide +kernel) (by decide +kernel), gm6 165 (by decide +kernel) (by decide +kernel), by decide +kernel, by decide +kernel⟩
theorem yw199 : YW 199 := ⟨by decide +kernel, ya199, yi10, yk199⟩
theorem ya200 : mW 200 ∈ XU := gm6 170 (by decide +kernel) (by decide +kernel)
theorem yk200 : yw_k 200 := ⟨gm6 168 (by decide +kernel) (by decide +kernel), gm6 169 (by decide +kernel) (by decide +kernel), by decide +kernel, by decide +kernel⟩
theorem yw200 : YW 200 := ⟨by decide +kernel, ya200, yi10, yk200⟩
theorem ya201 : mW 201 ∈ XU := gm2 81 (by decide +kernel) (by decide +kernel)
theorem yk201 : yw_k 201 := gm2 80 (by decide +kernel) (by decide +kernel)
theorem yw201 : YW 201 := ⟨by decide +kernel, ya201, yi11, yk201⟩
theorem ya202 : mW 202 ∈ XU := gm2 68 (by decide +kernel) (by decide +kernel)
theorem yk202 : yw_k 202 := gm2 67 (by decide +kernel) (by decide +kernel)
theorem yw202 : YW 202 := ⟨by decide +kernel, ya202, yi12, yk202⟩
theorem ya203 : mW 203 ∈ XU := gm2 220 (by decide +kernel) (by decide +kernel)
theorem yk203 : yw_k 203 := gm2 219 (by decide +kernel) (by decide +kernel)
theorem yw203 : YW 203 := ⟨by decide +kernel, ya203, yi13, yk203⟩
theorem ya204 : mW 204 ∈ XU := gm3 115 (by decide +kernel) (by decide +kernel)
theorem yk204 : yw_k 204 := gm3 114 (by decide +kernel) (by decide +kernel)
theorem yw204 : YW 204 := ⟨by decide +kernel, ya204, yi13, yk204⟩
theorem ya205 : mW 205 ∈ XU := gm3 164 (by decide +kernel) (by decide +kernel)
theorem yk205 : yw_k 205 := gm3 163 (by decide +kernel) (by decide +kernel)
theorem yw205 : YW 205 := ⟨by decide +kernel, ya205, yi13, yk205⟩
theorem ya206 : mW 206 ∈ XU := gm3 179 (by decide +kernel) (by decide +kernel)
theorem yk206 : yw_k 206 := gm3 178 (by decide +kernel) (by decide +kernel)
theorem yw206 : YW 206 := ⟨by decide +kernel, ya206, yi13, yk206⟩
theorem ya207 : mW 207 ∈ XU := gm3 191 (by decide +kernel) (by decide +kernel)
theorem yk207 : yw_k 207 := gm3 190 (by decide +kernel) (by decide +kernel)
theorem yw207 : YW 207 := ⟨by decide +kernel, ya207, yi13, yk207⟩
theorem ya208 : mW 208 ∈ XU := gm3 202 (by decide +kernel) (by decide +kernel)
theorem yk208 : yw_k 208 := gm3 201 (by decide +kernel) (by decide +kernel)
theorem yw208 : YW 208 := ⟨by decide +kernel, ya208, yi13, yk208⟩
theorem ya209 : mW 209 ∈ XU := gm3 230 (by decide +kernel) (by decide +kernel)
theorem yk209 : yw_k 209 := gm3 229 (by decide +kernel) (by decide +kernel)
theorem yw209 : YW 209 := ⟨by decide +kernel, ya209, yi13, yk209⟩
theorem ya210 : mW 210 ∈ XU := gm3 238 (by decide +kernel) (by decide +kernel)
theorem yk210 : yw_k 210 := gm3 237 (by decide +kernel) (by decide +kernel)
theorem yw210 : YW 210 := ⟨by decide +kernel, ya210, yi13, yk210⟩
theorem ya211 : mW 211 ∈ XU := gm4 6 (by decide +kernel) (by decide +kernel)
theorem yk211 : yw_k 211 := gm4 5 (by decide +kernel) (by decide +kernel)
theorem yw211 : YW 211 := ⟨by decide +kernel, ya211, yi13, yk211⟩
theorem ya212 : mW 212 ∈ XU := gm4 18 (by decide +kernel) (by decide +kernel)
theorem yk212 : yw_k 212 := gm4 17 (by decide +kernel) (by decide +kernel)
theorem yw212 : YW 212 := ⟨by decide +kernel, ya212, yi13, yk212⟩
theorem ya213 : mW 213 ∈ XU := gm4 30 (by decide +kernel) (by decide +kernel)
theorem yk213 : yw_k 213 := gm4 29 (by decide +kernel) (by decide +kernel)
theorem yw213 : YW 213 := ⟨by decide +kernel, ya213, yi13, yk213⟩
theorem ya214 : mW 214 ∈ XU := gm4 42 (by decide +kernel) (by decide +kernel)
theorem yk214 : yw_k 214 := gm4 41 (by decide +kernel) (by decide +kernel)
theorem yw214 : YW 214 := ⟨by decide +kernel, ya214, yi13, yk214⟩
theorem ya215 : mW 215 ∈ XU := gm4 57 (by decide +kernel) (by decide +kernel)
theorem yk215 : yw_k 215 := gm4 56 (by decide +kernel) (by decide +kernel)
theorem yw215 : YW 215 := ⟨by decide +kernel, ya215, yi13, yk215⟩
theorem ya216 : mW 216 ∈ XU := gm4 80 (by decide +kernel) (by decide +kernel)
theorem yk216 : yw_k 216 := gm4 79 (by decide +kernel) (by decide +kernel)
theorem yw216 : YW 216 := ⟨by decide +kernel, ya216, yi13, yk216⟩
theorem ya217 : mW 217 ∈ XU := gm4 88 (by decide +kernel) (by decide +kernel)
theorem yk217 : yw_k 217 := gm4 87 (by decide +kernel) (by decide +kernel)
theorem yw217 : YW 217 := ⟨by decide +kernel, ya217, yi13, yk217⟩
theorem ya218 : mW 218 ∈ XU := gm4 106 (by decide +kernel) (by decide +kernel)
theorem yk218 : yw_k 218 := gm4 105 (by decide +kernel) (by decide +kernel)
theorem yw218 : YW 218 := ⟨by decide +kernel, ya218, yi13, yk218⟩
theorem ya219 : mW 219 ∈ XU := gm4 133 (by decide +kernel) (by decide +kernel)
theorem yk219 : yw_k 219 := gm4 132 (by decide +kernel) (by decide +kernel)
theorem yw219 : YW 219 := ⟨by decide +kernel, ya219, yi13, yk219⟩
theorem ya220 : mW 220 ∈ XU := gm4 162 (by decide +kernel) (by decide +kernel)
theorem yk220 : yw_k 220 := gm4 161 (by decide +kernel) (by decide +kernel)
theorem yw220 : YW 220 := ⟨by decide +kernel, ya220, yi13, yk220⟩
theorem ya221 : mW 221 ∈ XU := gm4 170 (by decide +kernel) (by decide +kernel)
theorem yk221 : yw_k 221 := gm4 169 (by decide +kernel) (by decide +kernel)
theorem yw221 : YW 221 := ⟨by decide +kernel, ya221, yi13, yk221⟩
theorem ya222 : mW 222 ∈ XU := gm4 178 (by decide +kernel) (by decide +kernel)
theorem yk222 : yw_k 222 := gm4 177 (by decide +kernel) (by decide +kernel)
theorem yw222 : YW 222 := ⟨by decide +kernel, ya222, yi13, yk222⟩
theorem ya223 : mW 223 ∈ XU := gm4 186 (by decide +kernel) (by decide +kernel)
theorem yk223 : yw_k 223 := gm4 185 (by decide +kernel) (by decide +kernel)
theorem yw223 : YW 223 := ⟨by decide +kernel, ya223, yi13, yk223⟩
theorem ya224 : mW 224 ∈ XU := gm4 194 (by decide +kernel) (by decide +kernel)
theorem yk224 : yw_k 224 := gm4 193 (by decide +kernel) (by decide +kernel)
theorem yw224 : YW 224 := ⟨by decide +kernel, ya224, yi13, yk224⟩
theorem ya225 : mW 225 ∈ XU := gm4 223 (by decide +kernel) (by decide +kernel)
theorem yk225 : yw_k 225 := gm4 222 (by decide +kernel) (by decide +kernel)
theorem yw225 : YW 225 := ⟨by decide +kernel, ya225, yi13, yk225⟩
theorem ya226 : mW 226 ∈ XU := gm4 235 (by decide +kernel) (by decide +kernel)
theorem yk226 : yw_k 226 := gm4 234 (by decide +kernel) (by decide +kernel)
theorem yw226 : YW 226 := ⟨by decide +kernel, ya226, yi13, yk226⟩
theorem ya227 : mW 227 ∈ XU := gm5 2 (by decide +kernel) (by decide +kernel)
theorem yk227 : yw_k 227 := gm5 1 (by decide +kernel) (by decide +kernel)
theorem yw227 : YW 227 := ⟨by decide +kernel, ya227, yi13, yk227⟩
theorem ya228 : mW 228 ∈ XU := gm5 9 (by decide +kernel) (by decide +kernel)
theorem yk228 : yw_k 228 := gm5 8 (by decide +kernel) (by decide +kernel)
theorem yw228 : YW 228 := ⟨by decide +kernel, ya228, yi13, yk228⟩
theorem ya229 : mW 229 ∈ XU := gm5 21 (by decide +kernel) (by decide +kernel)
theorem yk229 : yw_k 229 := gm5 20 (by decide +kernel) (by decide +kernel)
theorem yw229 : YW 229 := ⟨by decide +kernel, ya229, yi13, yk229⟩
theorem ya230 : mW 230 ∈ XU := gm5 32 (by decide +kernel) (by decide +kernel)
theorem yk230 : yw_k 230 := gm5 31 (by decide +kernel) (by decide +kernel)
theorem yw230 : YW 230 := ⟨by decide +kernel, ya230, yi13, yk230⟩
theorem ya231 : mW 231 ∈ XU := gm5 43 (by decide +kernel) (by decide +kernel)
theorem yk231 : yw_k 231 := gm5 42 (by decide +kernel) (by decide +kernel)
theorem yw231 : YW 231 := ⟨by decide +kernel, ya231, yi13, yk231⟩
theorem ya232 : mW 232 ∈ XU := gm5 53 (by decide +kernel) (by decide +kernel)
theorem yk232 : yw_k 232 := gm5 52 (by decide +kernel) (by decide +kernel)
theorem yw232 : YW 232 := ⟨by decide +kernel, ya232, yi13, yk232⟩
theorem ya233 : mW 233 ∈ XU := gm5 65 (by decide +kernel) (by decide +kernel)
theorem yk233 : yw_k 233 := gm5 64 (by decide +kernel) (by decide +kernel)
theorem yw233 : YW 233 := ⟨by decide +kernel, ya233, yi13, yk233⟩
end
section
/-! all methods: their words -/
set_option maxRecDepth 100000 in
theorem yw_c0 : ∀ i ∈ List.range' 0 39, YW i := by
  rw [show List.range' 0 39 = [0, 1, 2, 3, 4, 5, 6, 7, 8, 9, 10, 11, 12, 13, 14, 15, 16, 17, 18, 19, 20, 21, 22, 23, 24, 25, 26, 27, 28, 29, 30, 31, 32, 33, 34, 35, 36, 37, 38] from by decide +kernel]
  exact List.forall_mem_cons.mpr ⟨yw0, List.forall_mem_cons.mpr ⟨yw1, List.forall_mem_cons.mpr ⟨yw2, List.forall_mem_cons.mpr ⟨yw3, List.forall_mem_cons.mpr ⟨yw4, List.forall_mem_cons.mpr ⟨yw5, List.forall_mem_cons.mpr ⟨yw6, List.forall_mem_cons.mpr ⟨yw7, List.forall_mem_cons.mpr ⟨yw8, List.forall_mem_cons.mpr ⟨yw9, List.forall_mem_cons.mpr ⟨yw10, List.forall_mem_cons.mpr ⟨yw11, List.forall_mem_cons.mpr ⟨yw12, List.forall_mem_cons.mpr ⟨yw13, List.forall_mem_cons.mpr ⟨yw14, List.forall_mem_cons.mpr ⟨yw15, List.forall_mem_cons.mpr ⟨yw16, List.forall_mem_cons.mpr ⟨yw17, List.forall_mem_cons.mpr ⟨yw18, List.forall_mem_cons.mpr ⟨yw19, List.forall_mem_cons.mpr ⟨yw20, List.forall_mem_cons.mpr ⟨yw21, List.forall_mem_cons.mpr ⟨yw22, List.forall_mem_cons.mpr ⟨yw23, List.forall_mem_cons.mpr ⟨yw24, List.forall_mem_cons.mpr ⟨yw25, List.forall_mem_cons.mpr ⟨yw26, List.forall_mem_cons.mpr ⟨yw27, List.forall_mem_cons.mpr ⟨yw28, List.forall_mem_cons.mpr ⟨yw29, List.forall_mem_cons.mpr ⟨yw30, List.forall_mem_cons.mpr ⟨yw31, List.forall_mem_cons.mpr ⟨yw32, List.forall_mem_cons.mpr ⟨yw33, List.forall_mem_cons.mpr ⟨yw34, List.forall_mem_cons.mpr ⟨yw35, List.forall_mem_cons.mpr ⟨yw36, List.forall_mem_cons.mpr ⟨yw37, List.forall_mem_cons.mpr ⟨yw38, fun _ h => absurd h List.not_mem_nil⟩⟩⟩⟩⟩⟩⟩⟩⟩⟩⟩⟩⟩⟩⟩⟩⟩⟩⟩⟩⟩⟩⟩⟩⟩⟩⟩⟩⟩⟩⟩⟩⟩⟩⟩⟩⟩⟩⟩
set_option maxRecDepth 100000 in
theorem yw_c39 : ∀ i ∈ List.range' 39 39, YW i := by
  rw [show List.range' 39 39 = [39, 40, 41, 42, 43, 44, 45, 46, 47, 48, 49, 50, 51, 52, 53, 54, 55, 56, 57, 58, 59, 60, 61, 62, 63, 64, 65, 66, 67, 68, 69, 70, 71, 72, 73, 74, 75, 76, 77] from by decide +kernel]
  exact List.forall_mem_cons.mpr ⟨yw39, List.forall_mem_cons.mpr ⟨yw40, List.forall_mem_cons.mpr ⟨yw41, List.forall_mem_cons.mpr ⟨yw42, List.forall_mem_cons.mpr ⟨yw43, List.forall_mem_cons.mpr ⟨yw44, List.forall_mem_cons.mpr ⟨yw45, List.forall_mem_cons.mpr ⟨yw46, List.forall_mem_cons.mpr ⟨yw47, List.forall_mem_cons.mpr ⟨yw48, List.forall_mem_cons.mpr ⟨yw49, List.forall_mem_cons.mpr ⟨yw50, List.forall_mem_cons.mpr ⟨yw51, List.forall_mem_cons.mpr ⟨yw52, List.forall_mem_cons.mpr ⟨yw53, List.forall_mem_cons.mpr ⟨yw54, List.forall_mem_cons.mpr ⟨yw55, List.forall_mem_cons.mpr ⟨yw56, List.forall_mem_cons.mpr ⟨yw57, List.forall_mem_cons.mpr ⟨yw58, List.forall_mem_cons.mpr ⟨yw59, List.forall_mem_cons.mpr ⟨yw60, List.forall_mem_cons.mpr ⟨yw61, List.forall_mem_cons.mpr ⟨yw62, List.forall_mem_cons.mpr ⟨yw63, List.forall_mem_cons.mpr ⟨yw64, List.forall_mem_cons.mpr ⟨yw65, List.forall_mem_cons.mpr ⟨yw66, List.forall_mem_cons.mpr ⟨yw67, List.forall_mem_cons.mpr ⟨yw68, List.forall_mem_cons.mpr ⟨yw69, List.forall_mem_cons.mpr ⟨yw70, List.forall_mem_cons.mpr ⟨yw71, List.forall_mem_cons.mpr ⟨yw72, List.forall_mem_cons.mpr ⟨yw73, List.forall_mem_cons.mpr ⟨yw74, List.forall_mem_cons.mpr ⟨yw75, List.forall_mem_cons.mpr ⟨yw76, List.forall_mem_cons.mpr ⟨yw77, fun _ h => absurd h List.not_mem_nil⟩⟩⟩⟩⟩⟩⟩⟩⟩⟩⟩⟩⟩⟩⟩⟩⟩⟩⟩⟩⟩⟩⟩⟩⟩⟩⟩⟩⟩⟩⟩⟩⟩⟩⟩⟩⟩⟩⟩
set_option maxRecDepth 100000 in
theorem yw_c78 : ∀ i ∈ List.range' 78 39, YW i := by
  rw [show List.range' 78 39 = [78, 79, 80, 81, 82, 83, 84, 85, 86, 87, 88, 89, 90, 91, 92, 93, 94, 95, 96, 97, 98, 99, 100, 101, 102, 103, 104, 105, 106, 107, 108, 109, 110, 111, 112, 113, 114, 115, 116] from by decide +kernel]
  exact List.forall_mem_cons.mpr ⟨yw78, List.forall_mem_cons.mpr ⟨yw79, List.forall_mem_cons.mpr ⟨yw80, List.forall_mem_cons.mpr ⟨yw81, List.forall_mem_cons.mpr ⟨yw82, List.forall_mem_cons.mpr ⟨yw83, List.forall_mem_cons.mpr ⟨yw84, List.forall_mem_cons.mpr ⟨yw85, List.forall_mem_cons.mpr ⟨yw86, List.forall_mem_cons.mpr ⟨yw87, List.forall_mem_cons.mpr ⟨yw88, List.forall_mem_cons.mpr ⟨yw89, List.forall_mem_cons.mpr ⟨yw90, List.forall_mem_cons.mpr ⟨yw91, List.forall_mem_cons.mpr ⟨yw92, List.forall_mem_cons.mpr ⟨yw93, List.forall_mem_cons.mpr ⟨yw94, List.forall_mem_cons.mpr ⟨yw95, List.forall_mem_cons.mpr ⟨yw96, List.forall_mem_cons.mpr ⟨yw97, List.forall_mem_cons.mpr ⟨yw98, List.forall_mem_cons.mpr ⟨yw99, List.forall_mem_cons.mpr ⟨yw100, List.forall_mem_cons.mpr ⟨yw101, List.forall_mem_cons.mpr ⟨yw102, List.forall_mem_cons.mpr ⟨yw103, List.forall_mem_cons.mpr ⟨yw104, List.forall_mem_cons.mpr ⟨yw105, List.forall_mem_cons.mpr ⟨yw106, List.forall_mem_cons.mpr ⟨yw107, List.forall_mem_cons.mpr ⟨yw108, List.forall_mem_cons.mpr ⟨yw109, List.forall_mem_cons.mpr ⟨yw110, List.forall_mem_cons.mpr ⟨yw111, List.forall_mem_cons.mpr ⟨yw112, List.forall_mem_cons.mpr ⟨yw113, List.forall_mem_cons.mpr ⟨yw114, List.forall_mem_cons.mpr ⟨yw115, List.forall_mem_cons.mpr ⟨yw116, fun _ h => absurd h List.not_mem_nil⟩⟩⟩⟩⟩⟩⟩⟩⟩⟩⟩⟩⟩⟩⟩⟩⟩⟩⟩⟩⟩⟩⟩⟩⟩⟩⟩⟩⟩⟩⟩⟩⟩⟩⟩⟩⟩⟩⟩
set_option maxRecDepth 100000 in
theorem yw_c117 : ∀ i ∈ List.range' 117 39, YW i := by
  rw [show List.range' 117 39 = [117, 118, 119, 120, 121, 122, 123, 124, 125, 126, 127, 128, 129, 130, 131, 132, 133, 134, 135, 136, 137, 138, 139, 140, 141, 142, 143, 144, 145, 146, 147, 148, 149, 150, 151, 152, 153, 154, 155] from by decide +kernel]
  exact List.forall_mem_cons.mpr ⟨yw117, List.forall_mem_cons.mpr ⟨yw118, List.forall_mem_cons.mpr ⟨yw119, List.forall_mem_cons.mpr ⟨yw120, List.forall_mem_cons.mpr ⟨yw121, List.forall_mem_cons.mpr ⟨yw122, List.forall_mem_cons.mpr ⟨yw123, List.forall_mem_cons.mpr ⟨yw124, List.forall_mem_cons.mpr ⟨yw125, List.forall_mem_cons.mpr ⟨yw126, List.forall_mem_cons.mpr ⟨yw127, List.forall_mem_cons.mpr ⟨yw128, List.forall_mem_cons.mpr ⟨yw129, List.forall_mem_cons.mpr ⟨yw130, List.forall_mem_cons.mpr ⟨yw131, List.forall_mem_cons.mpr ⟨yw132, List.forall_mem_cons.mpr ⟨yw133, List.forall_mem_cons.mpr ⟨yw134, List.forall_mem_cons.mpr ⟨yw135, List.forall_mem_cons.mpr ⟨yw136, List.forall_mem_cons.mpr ⟨yw137, List.forall_mem_cons.mpr ⟨yw138, List.forall_mem_cons.mpr ⟨yw139, List.forall_mem_cons.mpr ⟨yw140, List.forall_mem_cons.mpr ⟨yw141, List.forall_mem_cons.mpr ⟨yw142, List.forall_mem_cons.mpr ⟨yw143, List.forall_mem_cons.mpr ⟨yw144, List.forall_mem_cons.mpr ⟨yw145, List.forall_mem_cons.mpr ⟨yw146, List.forall_mem_cons.mpr ⟨yw147, List.forall_mem_cons.mpr ⟨yw148, List.forall_mem_cons.mpr ⟨yw149, List.forall_mem_cons.mpr ⟨yw150, List.forall_mem_cons.mpr ⟨yw151, List.forall_mem_cons.mpr ⟨yw152, List.forall_mem_cons.mpr ⟨yw153, List.forall_mem_cons.mpr ⟨yw154, List.forall_mem_cons.mpr ⟨yw155, fun _ h => absurd h List.not_mem_nil⟩⟩⟩⟩⟩⟩⟩⟩⟩⟩⟩⟩⟩⟩⟩⟩⟩⟩⟩⟩⟩⟩⟩⟩⟩⟩⟩⟩⟩⟩⟩⟩⟩⟩⟩⟩⟩⟩⟩
set_option maxRecDepth 100000 in
theorem yw_c156 : ∀ i ∈ List.range' 156 39, YW i := by
  rw [show List.range' 156 39 = [156, 157, 158, 159, 160, 161, 162, 163, 164, 165, 166, 167, 168, 169, 170, 171, 172, 173, 174, 175, 176, 177, 178, 179, 180, 181, 182, 183, 184, 185, 186, 187, 188, 189, 190, 191, 192, 193, 194] from by decide +kernel]
  exact List.forall_mem_cons.mpr ⟨yw156, List.forall_mem_cons.mpr ⟨yw157, List.forall_mem_cons.mpr ⟨yw158, List.forall_mem_cons.mpr ⟨yw159, List.forall_mem_cons.mpr ⟨yw160, List.forall_mem_cons.mpr ⟨yw161, List.forall_mem_cons.mpr ⟨yw162, List.forall_mem_cons.mpr ⟨yw163, List.forall_mem_cons.mpr ⟨yw164, List.forall_mem_cons.mpr ⟨yw165, List.forall_mem_cons.mpr ⟨yw166, List.forall_mem_cons.mpr ⟨yw167, List.forall_mem_cons.mpr ⟨yw168, List.forall_mem_cons.mpr ⟨yw169, List.forall_mem_cons.mpr ⟨yw170, List.forall_mem_cons.mpr ⟨yw171, List.forall_mem_cons.mpr ⟨yw172, List.forall_mem_cons.mpr ⟨yw173, List.forall_mem_cons.mpr ⟨yw174, List.forall_mem_cons.mpr ⟨yw175, List.forall_mem_cons.mpr ⟨yw176, List.forall_mem_cons.mpr ⟨yw177, List.forall_mem_cons.mpr ⟨yw178, List.forall_mem_cons.mpr ⟨yw179, List.forall_mem_cons.mpr ⟨yw180, List.forall_mem_cons.mpr ⟨yw181, List.forall_mem_cons.mpr ⟨yw182, List.forall_mem_cons.mpr ⟨yw183, List.forall_mem_cons.mpr ⟨yw184, List.forall_mem_cons.mpr ⟨yw185, List.forall_mem_cons.mpr ⟨yw186, List.forall_mem_cons.mpr ⟨yw187, List.forall_mem_cons.mpr ⟨yw188, List.forall_mem_cons.mpr ⟨yw189, List.forall_mem_cons.mpr ⟨yw190, List.forall_mem_cons.mpr ⟨yw191, List.forall_mem_cons.mpr ⟨yw192, List.forall_mem_cons.mpr ⟨yw193, List.forall_mem_cons.mpr ⟨yw194, fun _ h => absurd h List.not_mem_nil⟩⟩⟩⟩⟩⟩⟩⟩⟩⟩⟩⟩⟩⟩⟩⟩⟩⟩⟩⟩⟩⟩⟩⟩⟩⟩⟩⟩⟩⟩⟩⟩⟩⟩⟩⟩⟩⟩⟩
set_option maxRecDepth 100000 in
theorem yw_c195 : ∀ i ∈ List.range' 195 39, YW i := by
  rw [show List.range' 195 39 = [195, 196, 197, 198, 199, 200, 201, 202, 203, 204, 205, 206, 207, 208, 209, 210, 211, 212, 213, 214, 215, 216, 217, 218, 219, 220, 221, 222, 223, 224, 225, 226, 227, 228, 229, 230, 231, 232, 233] from by decide +kernel]
  exact List.forall_mem_cons.mpr ⟨yw195, List.forall_mem_cons.mpr ⟨yw196, List.forall_mem_cons.mpr ⟨yw197, List.forall_mem_cons.mpr ⟨yw198, List.forall_mem_cons.mpr ⟨yw199, List.forall_mem_cons.mpr ⟨yw200, List.forall_mem_cons.mpr ⟨yw201, List.forall_mem_cons.mpr ⟨yw202, List.forall_mem_cons.mpr ⟨yw203, List.forall_mem_cons.mpr ⟨yw204, List.forall_mem_cons.mpr ⟨yw205, List.forall_mem_cons.mpr ⟨yw206, List.forall_mem_cons.mpr ⟨yw207, List.forall_mem_cons.mpr ⟨yw208, List.forall_mem_cons.mpr ⟨yw209, List.forall_mem_cons.mpr ⟨yw210, List.forall_mem_cons.mpr ⟨yw211, List.forall_mem_cons.mpr ⟨yw212, List.forall_mem_cons.mpr ⟨yw213, List.forall_mem_cons.mpr ⟨yw214, List.forall_mem_cons.mpr ⟨yw215, List.forall_mem_cons.mpr ⟨yw216, List.forall_mem_cons.mpr ⟨yw217, List.forall_mem_cons.mpr ⟨yw218, List.forall_mem_cons.mpr ⟨yw219, List.forall_mem_cons.mpr ⟨yw220, List.forall_mem_cons.mpr ⟨yw221, List.forall_mem_cons.mpr ⟨yw222, List.forall_mem_cons.mpr ⟨yw223, List.forall_mem_cons.mpr ⟨yw224, List.forall_mem_cons.mpr ⟨yw225, List.forall_mem_cons.mpr ⟨yw226, List.forall_mem_cons.mpr ⟨yw227, List.forall_mem_cons.mpr ⟨yw228, List.forall_mem_cons.mpr ⟨yw229, List.forall_mem_cons.mpr ⟨yw230, List.forall_mem_cons.mpr ⟨yw231, List.forall_mem_cons.mpr ⟨yw232, List.forall_mem_cons.mpr ⟨yw233, fun _ h => absurd h List.not_mem_nil⟩⟩⟩⟩⟩⟩⟩⟩⟩⟩⟩⟩⟩⟩⟩⟩⟩⟩⟩⟩⟩⟩⟩⟩⟩⟩⟩⟩⟩⟩⟩⟩⟩⟩⟩⟩⟩⟩⟩
theorem yw (i : Nat) (h : i < 234) : YW i := by
  by_cases h0 : i < 39
  · exact yw_c0 i (List.mem_range'_1.mpr ⟨by omega, by omega⟩)
  by_cases h39 : i < 78
  · exact yw_c39 i (List.mem_range'_1.mpr ⟨by omega, by omega⟩)
  by_cases h78 : i < 117
  · exact yw_c78 i (List.mem_range'_1.mpr ⟨by omega, by omega⟩)
  by_cases h117 : i < 156
  · exact yw_c117 i (List.mem_range'_1.mpr ⟨by omega, by omega⟩)
  by_cases h156 : i < 195
  · exact yw_c156 i (List.mem_range'_1.mpr ⟨by omega, by omega⟩)
  by_cases h195 : i < 234
  · exact yw_c195 i (List.mem_range'_1.mpr ⟨by omega, by omega⟩)
  exact absurd h (by omega)
end
section
/-! A machine of our own: the heap is a list of cells at handles (their places), handles from 1000 on are static arrays and the script.
AW says: from this place of method mi the real machine comes to an end that Q allows. Its rules (part 07) are proved once, over the kit's rows; the methods are then walked with these rules alone. -/
abbrev AC : Type := (Nat × List Value) ⊕ (Nat × vp_A)
abbrev AH : Type := List AC
abbrev AO : Type := Option Value ⊕ Nat
abbrev XS : Type := Nat × (Nat → Int32)
def tv (ad : Nat → Nat) (v : Value) : Value := match v with
  | .ref k => .ref (ad k)
  | v => v
theorem tv_cat (ad : Nat → Nat) (v : Value) : (tv ad v).category = v.category := by cases v <;> rfl
def cE (dA : Nat → ClassId) (ad : Nat → Nat) (c : AC) : va_E := match c with
  | .inl o => .inr (o.1, o.2.map (tv ad))
  | .inr a => .inl (dA a.1, a.2)
def cW (dA : Nat → ClassId) (ad : Nat → Nat) (h : AH) : va_W := h.mapIdx (fun k c => (ad k, cE dA ad c))
theorem cW_get {dA : Nat → ClassId} {ad : Nat → Nat} {h : AH} {k : Nat} {c : AC} (hk : h[k]? = some c) : (cW dA ad h)[k]? = some (ad k, cE dA ad c) := by
  simp [cW, List.getElem?_mapIdx, hk]
theorem cW_inv {dA : Nat → ClassId} {ad : Nat → Nat} {h : AH} {k : Nat} {q : Nat × va_E} (hk : (cW dA ad h)[k]? = some q) : ∃ c, h[k]? = some c ∧ q = (ad k, cE dA ad c) := by
  simp only [cW, List.getElem?_mapIdx] at hk
  cases hc : h[k]? with
  | none => rw [hc] at hk; cases hk
  | some c => rw [hc] at hk; cases hk; exact ⟨c, rfl, rfl⟩
theorem cW_set {dA : Nat → ClassId} {ad : Nat → Nat} {h : AH} {k : Nat} {c : AC} : (cW dA ad h).set k (ad k, cE dA ad c) = cW dA ad (h.set k c) := by
  apply List.ext_getElem?
  intro i
  simp only [cW, List.getElem?_set, List.getElem?_mapIdx, List.length_mapIdx]
  by_cases hi : k = i
  · subst hi
    by_cases hl : k < h.length
    · simp [hl]
    · simp [hl]
  · simp [hi]
def tyl (dA : Nat → ClassId) : List (ClassId × FieldType) := [(dA 0, .int), (dA 1, .long), (dA 2, .double), (dA 3, .boolean), (dA 4, .char)]
def ro_m (k : Nat) : Int32 := match k with | 0 => 98 | 1 => 108 | _ => 112
def ro_w (k : Nat) : Int32 := match k with | 0 => 3 | 1 => 4 | 2 => 2 | 3 => 5 | 4 => 3 | 5 => 2 | 6 => 6 | _ => 1
def ro_c (k : Nat) : Int32 := match k with | 0 => 0 | 1 => 2 | 2 => 6 | 3 => 0 | 4 => 1 | 5 => 2 | 6 => 2 | 7 => 0 | 8 => 1 | 9 => 0 | 10 => 4 | _ => 3
def roT (X : XS) (k : Nat) : FieldType × Nat × (Nat → Int32) := match k with
  | 0 => (.char, 3, ro_m)
  | 1 => (.int, 8, ro_w)
  | 2 => (.int, 12, ro_c)
  | _ => (.int, X.1, X.2)
/-- words that aren't good for a callee's list, and are kept all the same -/
def isNG (w : Cond) : Bool := match w with
  | .castable .. => true
  | .declares _ => true
  | .fieldLinkNest .. => true
  | .methodLinkNest .. => true
  | _ => false
def NGL : List Cond := tables_1.filter isNG
def NCL : List (String × String) := [("java/lang/IllegalStateException", "java/lang/IllegalArgumentException"), ("java/lang/IllegalArgumentException", "java/lang/IndexOutOfBoundsException"), ("java/lang/ArithmeticException", "java/lang/IndexOutOfBoundsException"), ("java/lang/IllegalStateException", "java/lang/IndexOutOfBoundsException"), ("java/util/NoSuchElementException", "java/lang/UnsupportedOperationException"), ("java/lang/IndexOutOfBoundsException", "java/util/NoSuchElementException")]
/-- the static row of weights, as it is cloned -/
def WT (β : Nat) (ad : Nat → Nat) (U : State) (H : Heap) : Prop := ∃ cell : Cell, H[ad 1001]? = some cell ∧ cell.slots.size = 8 ∧ U.vm.findClass "[I" = some cell.cls ∧ ¬ β ≤ ad 1001
/-- what stands still in the whole run: the classes, the static arrays and the script, the texts -/
def SW (X : XS) (β : Nat) (D : va_G) (dA : Nat → ClassId) (ad sa : Nat → Nat) (U : State) (H : Heap) : Prop :=
  va_K D kcl (tyl dA) U ∧
  (∀ k, k < 4 → va_T (roT X k).1 (ad (1000 + k)) (roT X k).2.1 (fun j => .int ((roT X k).2.2 j)) (fun q : Nat => β ≤ q) U H) ∧
  (∀ (k : Nat) (q : String × String × String), saN[k]? = some q → va_Z q.1 q.2.1 q.2.2 (.ref (ad (1000 + k))) (fun q : Nat => β ≤ q) U H) ∧
  (∀ (k : Nat) (q : String × Nat × String), stN[k]? = some q → vk_R q.1 q.2.1 q.2.2 (sa k) U) ∧
  vx_Zq Bundle.tN "UNASSIGNED_STACK" Bundle.steD (fun q : Nat => β ≤ q) U H ∧ vx_Zq Bundle.tN "SUPPRESSED_SENTINEL" Bundle.listD (fun q : Nat => β ≤ q) U H ∧
  (∀ w ∈ NGL, va_Nw w U) ∧ (∀ q ∈ NCL, va_Nc q.1 q.2 U) ∧ WT β ad U H
theorem ng_warm {w : Cond} {s U : State} (hw : w ∈ NGL) (hW : s.WarmedH U.vm) (h : va_Nw w s) : va_Nw w U := by
  have hg := (List.mem_filter.mp hw).2
  cases w <;> first
    | exact va_Nw.warmC hW h
    | exact va_Nw.warmD hW h
    | exact va_Nw.warmF hW h
    | exact va_Nw.warmM hW h
    | (simp [isNG] at hg)
theorem SW.warm {X : XS} {β : Nat} {D : va_G} {dA : Nat → ClassId} {ad sa : Nat → Nat} {u U : State} {H H1 : Heap} (h : SW X β D dA ad sa u H) (hW : u.WarmedH U.vm) (hk : ∀ a : Nat, a < H.size → ¬ (β ≤ a) → H1[a]? = H[a]?) : SW X β D dA ad sa U H1 := by
  obtain ⟨h1, h2, h3, h4, h5, h6, h7, h8, cell, w1, w2, w3, w4⟩ := h
  exact ⟨va_K.moved hW.alike h1, fun k hlt => va_T.moved hW.alike ((h2 k hlt).kept hk), fun k q hq => va_Z.moved hW.alike ((h3 k q hq).kept hk), fun k q hq => (h4 k q hq).warm hW,
    vx_Zq.moved hW.alike (h5.kept hk), vx_Zq.moved hW.alike (h6.kept hk), fun w hw => ng_warm hw hW (h7 w hw), fun q hq => va_Nc.moved hW.alike (h8 q hq), cell, (hk _ (Array.getElem?_eq_some_iff.mp w1).1 w4).trans w1, w2, by rw [hW.alike.findClass]; exact w3, w4⟩
theorem SW.ad {X : XS} {β : Nat} {D : va_G} {dA : Nat → ClassId} {ad ad' sa : Nat → Nat} {u : State} {H : Heap} (h : SW X β D dA ad sa u H) (e : ∀ k, 1000 ≤ k → ad' k = ad k) : SW X β D dA ad' sa u H := by
  obtain ⟨h1, h2, h3, h4, h5, h6, h7, h8, h9⟩ := h
  exact ⟨h1, fun k hlt => by rw [e (1000 + k) (by omega)]; exact h2 k hlt, fun k q hq => by rw [e (1000 + k) (by omega)]; exact h3 k q hq, h4, h5, h6, h7, h8, by unfold WT; rw [e 1001 (by omega)]; exact h9⟩
/-- how the handles' addresses may have changed since the method's start -/
def adOk (mi n0 : Nat) (ad0 ad : Nat → Nat) : Prop := (mA mi = 0 → ad = ad0) ∧ ∀ k, (k < n0 ∨ 1000 ≤ k) → ad k = ad0 k
theorem adOk.rf (mi n0 : Nat) (ad : Nat → Nat) : adOk mi n0 ad ad := ⟨fun _ => rfl, fun _ _ => rfl⟩
/-- an int that the method's own type leaves as it is -/
def nr (mi : Nat) (x : Int32) : Prop := ∃ ty, mR mi = some ty ∧ narrow ty (.int x) = .int x
def retI (mi : Nat) (ins : Instr) (v : Option Value) : Prop := match ins with
  | .return_ => v = none ∧ mR mi = none
  | .ireturn => ∃ x, v = some (.int x) ∧ nr mi x
  | .lreturn => ∃ x, v = some (.long x) ∧ mR mi = some .long
  | .freturn => ∃ x, v = some (.float x) ∧ mR mi = some .float
  | .dreturn => ∃ x, v = some (.double x) ∧ mR mi = some .double
  | .areturn => ∃ x, v = some (.ref x) ∧ ∃ rt, mR mi = some rt ∧ ((∃ n, rt = .object n) ∨ ∃ t, rt = .array t)
  | _ => False
/-- the parts of a throw: new; dup; ldc; invokespecial; athrow -/
def thI (mi pc en si : Nat) : Prop := ∃ (ik is : Nat) (tx : String), en < 6 ∧ stN[si]? = some ((mY mi).cls, is, tx) ∧ (mY mi).cls = "Plotwise" ∧ mH mi = [] ∧ 6 ≤ mV mi ∧ (ik, 5, 100 + en, 0) ∈ lks (mD mi) ∧ dN (mD mi) = (mY mi).cls ∧
  decode (mB mi) pc = .ok (.new ik, 3) ∧ decode (mB mi) (pc + 3) = .ok (.dup, 1) ∧
  ((decode (mB mi) (pc + 4) = .ok (.ldc is, 2) ∧ decode (mB mi) (pc + 6) = .ok (.invokespecial (exI.getD en 0), 3) ∧ decode (mB mi) (pc + 9) = .ok (.athrow, 1)) ∨
   (decode (mB mi) (pc + 4) = .ok (.ldc_w is, 3) ∧ decode (mB mi) (pc + 7) = .ok (.invokespecial (exI.getD en 0), 3) ∧ decode (mB mi) (pc + 10) = .ok (.athrow, 1)))
/-- the heap as the real one holds it -/
def HR (D : va_G) (dA : Nat → ClassId) (β : Nat) (ad : Nat → Nat) (h : AH) (H0 H : Heap) (locs : List Loc) : Prop :=
  va_P D kcl (cW dA ad h) H ∧ va_D (fun q : Nat => β ≤ q) (cW dA ad h) ∧ va_S (fun q : Nat => β ≤ q) H0 H locs
/-- the ends that a method's body owes: it returns; a callee's throw goes through; it throws -/
def Fin1 (mi : Nat) (Q : AO → AH → Prop) (n0 : Nat) (p : Program) (l : Launch) (e : Env) (R : Room) (s : State) (m : MethodId) (args : Array Value) (below : List Frame) (meth : Method) (c : Code) (β : Nat) (D : va_G) (dA : Nat → ClassId) (ad0 : Nat → Nat) (Qf : State → Prop) : Prop :=
  ∀ (v : Option Value) (h : AH) (ad : Nat → Nat) (H : Heap) (locs : List Loc) (cells slots pc : Nat) (ls : Array Slot) (ins : Instr), Q (.inl v) h → retI mi ins v → decode (mB mi) pc = .ok (ins, 1) → adOk mi n0 ad0 ad → n0 ≤ h.length → HR D dA β ad h s.heap H locs → cells ≤ R.cells → slots ≤ R.slots →
    W p l e R s m args below meth c H locs cells slots Qf (F0 m pc ls (v.map (tv ad)).toList)
def Fin2 (mi : Nat) (Q : AO → AH → Prop) (n0 : Nat) (p : Program) (l : Launch) (e : Env) (R : Room) (s : State) (m : MethodId) (args : Array Value) (below : List Frame) (meth : Method) (c : Code) (β : Nat) (D : va_G) (dA : Nat → ClassId) (ad0 : Nat → Nat) (Qf : State → Prop) : Prop :=
  ∀ (en : Nat) (h : AH) (ad : Nat → Nat) (H : Heap) (locs : List Loc) (cells slots pc : Nat) (ls : Array Slot) (rest : List Value) (q : Addr) (ce : Cell), Q (.inr en) h → mH mi = [] → adOk mi n0 ad0 ad → n0 ≤ h.length → HR D dA β ad h s.heap H locs → cells ≤ R.cells → slots ≤ R.slots → H[q]? = some ce → ce.vm = .none → s.vm.findClass (exN.getD en "") = some ce.cls →
    vx_W p l e R s m args below meth c H locs cells slots Qf (F0 m pc ls rest) q
def Fin3 (mi : Nat) (Q : AO → AH → Prop) (n0 : Nat) (p : Program) (l : Launch) (e : Env) (R : Room) (s : State) (m : MethodId) (args : Array Value) (below : List Frame) (meth : Method) (c : Code) (β : Nat) (D : va_G) (dA : Nat → ClassId) (ad0 : Nat → Nat) (Qf : State → Prop) : Prop :=
  ∀ (en si : Nat) (h : AH) (ad : Nat → Nat) (H : Heap) (locs : List Loc) (cells slots pc : Nat) (ls : Array Slot) (rest : List Value), Q (.inr en) h → thI mi pc en si → adOk mi n0 ad0 ad → n0 ≤ h.length → HR D dA β ad h s.heap H locs → ls.size = mL mi → (rest.map fun v => v.category).sum ≤ 8 → cells + 1 ≤ R.cells → slots + 6 ≤ R.slots →
    W p l e R s m args below meth c H locs cells slots Qf (F0 m pc ls rest)
/-- all that doesn't change while a method's body runs -/
def Cx (X : XS) (mi : Nat) (Q : AO → AH → Prop) (n0 : Nat) (p : Program) (l : Launch) (e : Env) (R : Room) (s : State) (m : MethodId) (args : Array Value) (below : List Frame) (meth : Method) (c : Code) (β : Nat) (D : va_G) (dA : Nat → ClassId) (ad0 sa : Nat → Nat) (Qf : State → Prop) : Prop :=
  p.tables.exec = Jvm.exec ∧ c.code = mB mi ∧ c.maxLocals = mL mi ∧ s.vm.findClass (mY mi).cls = some m.cls ∧ (∀ w ∈ XU, w.before args s = true) ∧ l.stackTraces = false ∧ SW X β D dA ad0 sa s s.heap ∧ β ≤ s.heap.size ∧
  ((mY mi).name = "<init>" → meth.name = "<init>") ∧ (mV mi ≤ R.frames ∧ 64 * mV mi ≤ R.locals) ∧ c.exceptionTable.toList = tableOf (mH mi) ∧
  Fin1 mi Q n0 p l e R s m args below meth c β D dA ad0 Qf ∧ Fin2 mi Q n0 p l e R s m args below meth c β D dA ad0 Qf ∧ Fin3 mi Q n0 p l e R s m args below meth c β D dA ad0 Qf
def tl (ad : Nat → Nat) (lv : List (Nat × Value)) : List (Nat × Value) := lv.map (fun q => (q.1, tv ad q.2))
/-- from pc of method mi, with locals lv, stack st, heap h, room for bc cells and bs slots: an end that Q allows -/
def AW (X : XS) (mi pc : Nat) (lv : List (Nat × Value)) (st : List Value) (h : AH) (bc bs : Nat) (Q : AO → AH → Prop) : Prop :=
  ∀ (n0 : Nat) (p : Program) (l : Launch) (e : Env) (R : Room) (s : State) (m : MethodId) (args : Array Value) (below : List Frame) (meth : Method) (c : Code) (β : Nat) (D : va_G) (dA : Nat → ClassId) (ad0 sa : Nat → Nat) (Qf : State → Prop), Cx X mi Q n0 p l e R s m args below meth c β D dA ad0 sa Qf →
  ∀ (ad : Nat → Nat) (H : Heap) (locs : List Loc) (cells slots : Nat) (ls : Array Slot), adOk mi n0 ad0 ad → n0 ≤ h.length → HR D dA β ad h s.heap H locs → lv_has ls (mL mi) (tl ad lv) → cells + bc ≤ R.cells → slots + bs ≤ R.slots →
    W p l e R s m args below meth c H locs cells slots Qf (F0 m pc ls (st.map (tv ad)))
/-- a method's end, as its caller sees it -/
def CQ (mi : Nat) (n0 : Nat) (β : Nat) (D : va_G) (dA : Nat → ClassId) (ad0 : Nat → Nat) (Q : AO → AH → Prop) : Array Value → State → Outcome → State → Prop := fun _ st o t =>
  (∃ (v : Option Value) (h : AH) (ad : Nat → Nat), o = .returned (v.map (tv ad)) ∧ Q (.inl v) h ∧ adOk mi n0 ad0 ad ∧ n0 ≤ h.length ∧ va_P D kcl (cW dA ad h) t.heap ∧ va_D (fun q : Nat => β ≤ q) (cW dA ad h)) ∧ va_F (fun q : Nat => β ≤ q) st t
def CX (mi : Nat) (n0 : Nat) (β : Nat) (D : va_G) (dA : Nat → ClassId) (ad0 : Nat → Nat) (Q : AO → AH → Prop) : String → State → State → Prop := fun E st t =>
  (∃ (en : Nat) (h : AH) (ad : Nat → Nat), E = exN.getD en "" ∧ Q (.inr en) h ∧ adOk mi n0 ad0 ad ∧ n0 ≤ h.length ∧ va_P D kcl (cW dA ad h) t.heap ∧ va_D (fun q : Nat => β ≤ q) (cW dA ad h)) ∧ va_F (fun q : Nat => β ≤ q) st t
def CP (X : XS) (β : Nat) (D : va_G) (dA : Nat → ClassId) (ad0 sa : Nat → Nat) (h : AH) (U : State) : Prop := SW X β D dA ad0 sa U U.heap ∧ β ≤ U.heap.size ∧ va_P D kcl (cW dA ad0 h) U.heap ∧ va_D (fun q : Nat => β ≤ q) (cW dA ad0 h)
def mRm (mi : Nat) : Room := { frames := mV mi, cells := mC mi, slots := mS mi, locals := 64 * mV mi }
/-- the method mi, called with the values as in the heap h, comes to an end that Q allows -/
def Call (X : XS) (mi : Nat) (as : List Value) (h : AH) (Q : AO → AH → Prop) : Prop :=
  ∀ (l : Launch) (β : Nat) (D : va_G) (dA : Nat → ClassId) (ad0 sa : Nat → Nat), l.stackTraces = false →
    vx_Met l (mY mi) (mW mi :: XU) (mRm mi) (va_Pc (as.map (tv ad0)) (CP X β D dA ad0 sa h)) (CQ mi h.length β D dA ad0 Q) (CX mi h.length β D dA ad0 Q) (mC mi) (mS mi) (fun q : Nat => β ≤ q)
theorem AW.wide {X : XS} {mi pc : Nat} {lv : List (Nat × Value)} {st : List Value} {h : AH} {bc bs bc' bs' : Nat} {Q : AO → AH → Prop} (h1 : bc' ≤ bc) (h2 : bs' ≤ bs) (k : AW X mi pc lv st h bc' bs' Q) : AW X mi pc lv st h bc bs Q :=
  fun n0 p l e R s m args below meth c β D dA ad0 sa Qf C ad H locs cells slots ls ha hn hR hl hc hs => k n0 p l e R s m args below meth c β D dA ad0 sa Qf C ad H locs cells slots ls ha hn hR hl (by omega) (by omega)
/-- fewer known locals -/
theorem AW.less {X : XS} {mi pc : Nat} {lv lv' : List (Nat × Value)} {st : List Value} {h : AH} {bc bs : Nat} {Q : AO → AH → Prop} (hs' : ∀ q ∈ lv', q ∈ lv) (k : AW X mi pc lv' st h bc bs Q) : AW X mi pc lv st h bc bs Q :=
  fun n0 p l e R s m args below meth c β D dA ad0 sa Qf C ad H locs cells slots ls ha hn hR hl hc hs => k n0 p l e R s m args below meth c β D dA ad0 sa Qf C ad H locs cells slots ls ha hn hR ⟨hl.1, hl.2.1, fun q hq => by
    obtain ⟨z, hz, rfl⟩ := List.mem_map.mp hq
    exact hl.2.2 _ (List.mem_map.mpr ⟨z, hs' z hz, rfl⟩)⟩ hc hs
end
section
/-! the rules of AW: one an instruction -/
/-- a local's value -/
def lkp (i : Nat) : List (Nat × Value) → Option Value
  | [] => none
  | q :: r => bif Nat.beq q.1 i then some q.2 else lkp i r
/-- does a store of width w at i take this entry away -/
def klp (w i : Nat) (q : Nat × Value) : Bool := (Nat.beq q.1 i) || (Nat.beq (q.1 + 1) i && Nat.beq q.2.category 2) || (Nat.beq w 2 && Nat.beq q.1 (i + 1))
def stf (w i : Nat) : List (Nat × Value) → List (Nat × Value)
  | [] => []
  | q :: r => bif klp w i q then stf w i r else q :: stf w i r
def sto (w i : Nat) (v : Value) : List (Nat × Value) → List (Nat × Value)
  | [] => [(i, v)]
  | q :: r => bif Nat.beq q.1 i then (i, v) :: stf w i r else bif klp w i q then sto w i v r else q :: sto w i v r
theorem lkp_in {i : Nat} {v : Value} : ∀ {lv : List (Nat × Value)}, lkp i lv = some v → (i, v) ∈ lv
  | [], h => by cases h
  | q :: r, h => by
    unfold lkp at h
    cases hq : Nat.beq q.1 i with
    | true =>
      rw [hq] at h
      have e1 : q.1 = i := Nat.eq_of_beq_eq_true hq
      have e2 : q.2 = v := Option.some.inj h
      rw [← e1, ← e2]
      exact List.mem_cons_self
    | false =>
      rw [hq] at h
      exact List.mem_cons_of_mem _ (lkp_in h)
theorem stf_in {w i : Nat} {q : Nat × Value} : ∀ {lv : List (Nat × Value)}, q ∈ stf w i lv → q ∈ lv ∧ klp w i q = false
  | [], h => by cases h
  | z :: r, h => by
    unfold stf at h
    cases hz : klp w i z with
    | true => rw [hz] at h; exact ⟨List.mem_cons_of_mem _ (stf_in h).1, (stf_in h).2⟩
    | false =>
      rw [hz] at h
      rcases List.mem_cons.mp h with rfl | h
      · exact ⟨List.mem_cons_self, hz⟩
      · exact ⟨List.mem_cons_of_mem _ (stf_in h).1, (stf_in h).2⟩
theorem sto_in {w i : Nat} {v : Value} {q : Nat × Value} : ∀ {lv : List (Nat × Value)}, q ∈ sto w i v lv → q = (i, v) ∨ (q ∈ lv ∧ klp w i q = false)
  | [], h => Or.inl (List.mem_singleton.mp h)
  | z :: r, h => by
    unfold sto at h
    cases hb : Nat.beq z.1 i with
    | true =>
      rw [hb] at h
      rcases List.mem_cons.mp h with rfl | h
      · exact Or.inl rfl
      · exact Or.inr ⟨List.mem_cons_of_mem _ (stf_in h).1, (stf_in h).2⟩
    | false =>
      rw [hb] at h
      cases hz : klp w i z with
      | true =>
        rw [hz] at h
        rcases sto_in (lv := r) h with h | h
        · exact Or.inl h
        · exact Or.inr ⟨List.mem_cons_of_mem _ h.1, h.2⟩
      | false =>
        rw [hz] at h
        rcases List.mem_cons.mp h with rfl | h
        · exact Or.inr ⟨List.mem_cons_self, hz⟩
        · rcases sto_in (lv := r) h with h | h
          · exact Or.inl h
          · exact Or.inr ⟨List.mem_cons_of_mem _ h.1, h.2⟩
theorem tl_at {ad : Nat → Nat} {ls : Array Slot} {n i : Nat} {lv : List (Nat × Value)} {v : Value} (h : lv_has ls n (tl ad lv)) (hk : lkp i lv = some v) : ls[i]? = some (.val (tv ad v)) :=
  h.2.2 (i, tv ad v) (List.mem_map.mpr ⟨(i, v), lkp_in hk, rfl⟩)
theorem tl_sto1 {ad : Nat → Nat} {ls : Array Slot} {n i : Nat} {lv : List (Nat × Value)} {v : Value} (h : lv_has ls n ((i, tv ad v) :: (tl ad lv).filter (fun q => !(q.1 == i) && !(q.1 + 1 == i && q.2.category == 2)))) : lv_has ls n (tl ad (sto 1 i v lv)) := by
  refine ⟨h.1, h.2.1, fun q hq => ?_⟩
  obtain ⟨z, hz, rfl⟩ := List.mem_map.mp hq
  rcases sto_in hz with rfl | ⟨hz, hk⟩
  · exact h.2.2 _ List.mem_cons_self
  · refine h.2.2 _ (List.mem_cons_of_mem _ (List.mem_filter.mpr ⟨List.mem_map.mpr ⟨z, hz, rfl⟩, ?_⟩))
    simp only [klp, Bool.or_eq_false_iff, Bool.and_eq_false_iff] at hk
    obtain ⟨⟨h1, h2⟩, -⟩ := hk
    have e1 : ¬ z.1 = i := Nat.ne_of_beq_eq_false h1
    have e2 : ¬ (z.1 + 1 = i ∧ z.2.category = 2) := fun ⟨a, b⟩ => by
      rcases h2 with h2 | h2
      · exact Nat.ne_of_beq_eq_false h2 a
      · exact Nat.ne_of_beq_eq_false h2 b
    have e3 : ¬ (z.1 + 1 = i ∧ (tv ad z.2).category = 2) := by rw [tv_cat]; exact e2
    simp only [Bool.and_eq_true, Bool.not_eq_true', beq_eq_false_iff_ne, ne_eq, Bool.and_eq_false_iff]
    refine ⟨e1, ?_⟩
    by_cases a : z.1 + 1 = i
    · exact Or.inr (fun b => e3 ⟨a, b⟩)
    · exact Or.inl a
theorem tl_sto2 {ad : Nat → Nat} {ls : Array Slot} {n i : Nat} {lv : List (Nat × Value)} {v : Value} (h : lv_has ls n ((i, tv ad v) :: (tl ad lv).filter (fun q => !(q.1 == i) && (!(q.1 == i + 1) && !(q.1 + 1 == i && q.2.category == 2))))) : lv_has ls n (tl ad (sto 2 i v lv)) := by
  refine ⟨h.1, h.2.1, fun q hq => ?_⟩
  obtain ⟨z, hz, rfl⟩ := List.mem_map.mp hq
  rcases sto_in hz with rfl | ⟨hz, hk⟩
  · exact h.2.2 _ List.mem_cons_self
  · refine h.2.2 _ (List.mem_cons_of_mem _ (List.mem_filter.mpr ⟨List.mem_map.mpr ⟨z, hz, rfl⟩, ?_⟩))
    simp only [klp, Bool.or_eq_false_iff, Bool.and_eq_false_iff] at hk
    obtain ⟨⟨h1, h2⟩, h3⟩ := hk
    have e1 : ¬ z.1 = i := Nat.ne_of_beq_eq_false h1
    have e4 : ¬ z.1 = i + 1 := by
      rcases h3 with h3 | h3
      · exact absurd h3 (by decide)
      · exact Nat.ne_of_beq_eq_false h3
    have e2 : ¬ (z.1 + 1 = i ∧ z.2.category = 2) := fun ⟨a, b⟩ => by
      rcases h2 with h2 | h2
      · exact Nat.ne_of_beq_eq_false h2 a
      · exact Nat.ne_of_beq_eq_false h2 b
    have e3 : ¬ (z.1 + 1 = i ∧ (tv ad z.2).category = 2) := by rw [tv_cat]; exact e2
    simp only [Bool.and_eq_true, Bool.not_eq_true', beq_eq_false_iff_ne, ne_eq, Bool.and_eq_false_iff]
    refine ⟨e1, e4, ?_⟩
    by_cases a : z.1 + 1 = i
    · exact Or.inr (fun b => e3 ⟨a, b⟩)
    · exact Or.inl a
section RULES
variable {X : XS} {mi pc : Nat} {lv : List (Nat × Value)} {rest : List Value} {h : AH} {bc bs : Nat} {Q : AO → AH → Prop}
theorem a_iconst {n : Int} {v : Int32} (d : decode (mB mi) pc = .ok (.iconst n, 1)) (hv : Int32.ofInt n = v) (k : AW X mi (pc + 1) lv (.int v :: rest) h bc bs Q) : AW X mi pc lv (rest) h bc bs Q :=
  fun n0 p l e R s m args below meth c β D dA ad0 sa Qf C ad H locs cells slots ls ha hn hR hl hc hs => lv_iconst C.1 C.2.1 d hv (k n0 p l e R s m args below meth c β D dA ad0 sa Qf C ad H locs cells slots ls ha hn hR hl hc hs)
theorem a_bipush {n : Int} {v : Int32} (d : decode (mB mi) pc = .ok (.bipush n, 2)) (hv : (Int8.ofInt n).toInt32 = v) (k : AW X mi (pc + 2) lv (.int v :: rest) h bc bs Q) : AW X mi pc lv (rest) h bc bs Q :=
  fun n0 p l e R s m args below meth c β D dA ad0 sa Qf C ad H locs cells slots ls ha hn hR hl hc hs => lv_bipush C.1 C.2.1 d hv (k n0 p l e R s m args below meth c β D dA ad0 sa Qf C ad H locs cells slots ls ha hn hR hl hc hs)
theorem a_sipush {n : Int} {v : Int32} (d : decode (mB mi) pc = .ok (.sipush n, 3)) (hv : (Int16.ofInt n).toInt32 = v) (k : AW X mi (pc + 3) lv (.int v :: rest) h bc bs Q) : AW X mi pc lv (rest) h bc bs Q :=
  fun n0 p l e R s m args below meth c β D dA ad0 sa Qf C ad H locs cells slots ls ha hn hR hl hc hs => lv_sipush C.1 C.2.1 d hv (k n0 p l e R s m args below meth c β D dA ad0 sa Qf C ad H locs cells slots ls ha hn hR hl hc hs)
theorem a_lconst {n : Fin 2} {v : Int64} (d : decode (mB mi) pc = .ok (.lconst n, 1)) (hv : Int64.ofNat (n : Nat) = v) (k : AW X mi (pc + 1) lv (.long v :: rest) h bc bs Q) : AW X mi pc lv (rest) h bc bs Q :=
  fun n0 p l e R s m args below meth c β D dA ad0 sa Qf C ad H locs cells slots ls ha hn hR hl hc hs => lv_lconst C.1 C.2.1 d hv (k n0 p l e R s m args below meth c β D dA ad0 sa Qf C ad H locs cells slots ls ha hn hR hl hc hs)
theorem a_fconst0  (d : decode (mB mi) pc = .ok (.fconst 0, 1))  (k : AW X mi (pc + 1) lv (.float FP.fconst0 :: rest) h bc bs Q) : AW X mi pc lv (rest) h bc bs Q :=
  fun n0 p l e R s m args below meth c β D dA ad0 sa Qf C ad H locs cells slots ls ha hn hR hl hc hs => lv_fconst0 C.1 C.2.1 d  (k n0 p l e R s m args below meth c β D dA ad0 sa Qf C ad H locs cells slots ls ha hn hR hl hc hs)
theorem a_dconst0  (d : decode (mB mi) pc = .ok (.dconst 0, 1))  (k : AW X mi (pc + 1) lv (.double FP.dconst0 :: rest) h bc bs Q) : AW X mi pc lv (rest) h bc bs Q :=
  fun n0 p l e R s m args below meth c β D dA ad0 sa Qf C ad H locs cells slots ls ha hn hR hl hc hs => lv_dconst0 C.1 C.2.1 d  (k n0 p l e R s m args below meth c β D dA ad0 sa Qf C ad H locs cells slots ls ha hn hR hl hc hs)
theorem a_iload_n {j : Fin 4} {i : Nat} {x : Int32} (d : decode (mB mi) pc = .ok (.iload_n j, 1)) (hi : (j : Nat) = i) (hx : lkp i lv = some (.int x)) (k : AW X mi (pc + 1) lv (.int x :: rest) h bc bs Q) : AW X mi pc lv (rest) h bc bs Q :=
  fun n0 p l e R s m args below meth c β D dA ad0 sa Qf C ad H locs cells slots ls ha hn hR hl hc hs => lv_iload_n C.1 C.2.1 d hi (tl_at hl hx) (k n0 p l e R s m args below meth c β D dA ad0 sa Qf C ad H locs cells slots ls ha hn hR hl hc hs)
theorem a_iload {i : Nat} {x : Int32} (d : decode (mB mi) pc = .ok (.iload i, 2)) (hx : lkp i lv = some (.int x)) (k : AW X mi (pc + 2) lv (.int x :: rest) h bc bs Q) : AW X mi pc lv (rest) h bc bs Q :=
  fun n0 p l e R s m args below meth c β D dA ad0 sa Qf C ad H locs cells slots ls ha hn hR hl hc hs => lv_iload C.1 C.2.1 d (tl_at hl hx) (k n0 p l e R s m args below meth c β D dA ad0 sa Qf C ad H locs cells slots ls ha hn hR hl hc hs)
theorem a_istore_n {j : Fin 4} {i : Nat} {x : Int32} {lv' : List (Nat × Value)} (d : decode (mB mi) pc = .ok (.istore_n j, 1)) (hi : (j : Nat) = i) (hb : Nat.ble (i + 1) (mL mi) = true) (hv : sto 1 i (.int x) lv = lv') (k : AW X mi (pc + 1) lv' rest h bc bs Q) : AW X mi pc lv (.int x :: rest) h bc bs Q :=
  fun n0 p l e R s m args below meth c β D dA ad0 sa Qf C ad H locs cells slots ls ha hn hR hl hc hs => lv_istore_n C.1 C.2.1 d hi hl (Nat.le_of_ble_eq_true hb) rfl (fun ls hl => k n0 p l e R s m args below meth c β D dA ad0 sa Qf C ad H locs cells slots ls ha hn hR (hv ▸ tl_sto1 hl) hc hs)
theorem a_istore {i : Nat} {x : Int32} {lv' : List (Nat × Value)} (d : decode (mB mi) pc = .ok (.istore i, 2)) (hb : Nat.ble (i + 1) (mL mi) = true) (hv : sto 1 i (.int x) lv = lv') (k : AW X mi (pc + 2) lv' rest h bc bs Q) : AW X mi pc lv (.int x :: rest) h bc bs Q :=
  fun n0 p l e R s m args below meth c β D dA ad0 sa Qf C ad H locs cells slots ls ha hn hR hl hc hs => lv_istore C.1 C.2.1 d hl (Nat.le_of_ble_eq_true hb) rfl (fun ls hl => k n0 p l e R s m args below meth c β D dA ad0 sa Qf C ad H locs cells slots ls ha hn hR (hv ▸ tl_sto1 hl) hc hs)
theorem a_lload_n {j : Fin 4} {i : Nat} {x : Int64} (d : decode (mB mi) pc = .ok (.lload_n j, 1)) (hi : (j : Nat) = i) (hx : lkp i lv = some (.long x)) (k : AW X mi (pc + 1) lv (.long x :: rest) h bc bs Q) : AW X mi pc lv (rest) h bc bs Q :=
  fun n0 p l e R s m args below meth c β D dA ad0 sa Qf C ad H locs cells slots ls ha hn hR hl hc hs => lv_lload_n C.1 C.2.1 d hi (tl_at hl hx) (k n0 p l e R s m args below meth c β D dA ad0 sa Qf C ad H locs cells slots ls ha hn hR hl hc hs)
theorem a_lload {i : Nat} {x : Int64} (d : decode (mB mi) pc = .ok (.lload i, 2)) (hx : lkp i lv = some (.long x)) (k : AW X mi (pc + 2) lv (.long x :: rest) h bc bs Q) : AW X mi pc lv (rest) h bc bs Q :=
  fun n0 p l e R s m args below meth c β D dA ad0 sa Qf C ad H locs cells slots ls ha hn hR hl hc hs => lv_lload C.1 C.2.1 d (tl_at hl hx) (k n0 p l e R s m args below meth c β D dA ad0 sa Qf C ad H locs cells slots ls ha hn hR hl hc hs)
theorem a_lstore_n {j : Fin 4} {i : Nat} {x : Int64} {lv' : List (Nat × Value)} (d : decode (mB mi) pc = .ok (.lstore_n j, 1)) (hi : (j : Nat) = i) (hb : Nat.ble (i + 2) (mL mi) = true) (hv : sto 2 i (.long x) lv = lv') (k : AW X mi (pc + 1) lv' rest h bc bs Q) : AW X mi pc lv (.long x :: rest) h bc bs Q :=
  fun n0 p l e R s m args below meth c β D dA ad0 sa Qf C ad H locs cells slots ls ha hn hR hl hc hs => lv_lstore_n C.1 C.2.1 d hi hl (Nat.le_of_ble_eq_true hb) rfl (fun ls hl => k n0 p l e R s m args below meth c β D dA ad0 sa Qf C ad H locs cells slots ls ha hn hR (hv ▸ tl_sto2 hl) hc hs)
theorem a_lstore {i : Nat} {x : Int64} {lv' : List (Nat × Value)} (d : decode (mB mi) pc = .ok (.lstore i, 2)) (hb : Nat.ble (i + 2) (mL mi) = true) (hv : sto 2 i (.long x) lv = lv') (k : AW X mi (pc + 2) lv' rest h bc bs Q) : AW X mi pc lv (.long x :: rest) h bc bs Q :=
  fun n0 p l e R s m args below meth c β D dA ad0 sa Qf C ad H locs cells slots ls ha hn hR hl hc hs => lv_lstore C.1 C.2.1 d hl (Nat.le_of_ble_eq_true hb) rfl (fun ls hl => k n0 p l e R s m args below meth c β D dA ad0 sa Qf C ad H locs cells slots ls ha hn hR (hv ▸ tl_sto2 hl) hc hs)
theorem a_aload_n {j : Fin 4} {i : Nat} {x : Nat} (d : decode (mB mi) pc = .ok (.aload_n j, 1)) (hi : (j : Nat) = i) (hx : lkp i lv = some (.ref x)) (k : AW X mi (pc + 1) lv (.ref x :: rest) h bc bs Q) : AW X mi pc lv (rest) h bc bs Q :=
  fun n0 p l e R s m args below meth c β D dA ad0 sa Qf C ad H locs cells slots ls ha hn hR hl hc hs => lv_aload_n C.1 C.2.1 d hi (tl_at hl hx) (k n0 p l e R s m args below meth c β D dA ad0 sa Qf C ad H locs cells slots ls ha hn hR hl hc hs)
theorem a_aload {i : Nat} {x : Nat} (d : decode (mB mi) pc = .ok (.aload i, 2)) (hx : lkp i lv = some (.ref x)) (k : AW X mi (pc + 2) lv (.ref x :: rest) h bc bs Q) : AW X mi pc lv (rest) h bc bs Q :=
  fun n0 p l e R s m args below meth c β D dA ad0 sa Qf C ad H locs cells slots ls ha hn hR hl hc hs => lv_aload C.1 C.2.1 d (tl_at hl hx) (k n0 p l e R s m args below meth c β D dA ad0 sa Qf C ad H locs cells slots ls ha hn hR hl hc hs)
theorem a_astore_n {j : Fin 4} {i : Nat} {x : Nat} {lv' : List (Nat × Value)} (d : decode (mB mi) pc = .ok (.astore_n j, 1)) (hi : (j : Nat) = i) (hb : Nat.ble (i + 1) (mL mi) = true) (hv : sto 1 i (.ref x) lv = lv') (k : AW X mi (pc + 1) lv' rest h bc bs Q) : AW X mi pc lv (.ref x :: rest) h bc bs Q :=
  fun n0 p l e R s m args below meth c β D dA ad0 sa Qf C ad H locs cells slots ls ha hn hR hl hc hs => lv_astore_n C.1 C.2.1 d hi hl (Nat.le_of_ble_eq_true hb) rfl (fun ls hl => k n0 p l e R s m args below meth c β D dA ad0 sa Qf C ad H locs cells slots ls ha hn hR (hv ▸ tl_sto1 hl) hc hs)
theorem a_astore {i : Nat} {x : Nat} {lv' : List (Nat × Value)} (d : decode (mB mi) pc = .ok (.astore i, 2)) (hb : Nat.ble (i + 1) (mL mi) = true) (hv : sto 1 i (.ref x) lv = lv') (k : AW X mi (pc + 2) lv' rest h bc bs Q) : AW X mi pc lv (.ref x :: rest) h bc bs Q :=
  fun n0 p l e R s m args below meth c β D dA ad0 sa Qf C ad H locs cells slots ls ha hn hR hl hc hs => lv_astore C.1 C.2.1 d hl (Nat.le_of_ble_eq_true hb) rfl (fun ls hl => k n0 p l e R s m args below meth c β D dA ad0 sa Qf C ad H locs cells slots ls ha hn hR (hv ▸ tl_sto1 hl) hc hs)
theorem a_fload_n {j : Fin 4} {i : Nat} {x : UInt32} (d : decode (mB mi) pc = .ok (.fload_n j, 1)) (hi : (j : Nat) = i) (hx : lkp i lv = some (.float x)) (k : AW X mi (pc + 1) lv (.float x :: rest) h bc bs Q) : AW X mi pc lv (rest) h bc bs Q :=
  fun n0 p l e R s m args below meth c β D dA ad0 sa Qf C ad H locs cells slots ls ha hn hR hl hc hs => lv_fload_n C.1 C.2.1 d hi (tl_at hl hx) (k n0 p l e R s m args below meth c β D dA ad0 sa Qf C ad H locs cells slots ls ha hn hR hl hc hs)
theorem a_fload {i : Nat} {x : UInt32} (d : decode (mB mi) pc = .ok (.fload i, 2)) (hx : lkp i lv = some (.float x)) (k : AW X mi (pc + 2) lv (.float x :: rest) h bc bs Q) : AW X mi pc lv (rest) h bc bs Q :=
  fun n0 p l e R s m args below meth c β D dA ad0 sa Qf C ad H locs cells slots ls ha hn hR hl hc hs => lv_fload C.1 C.2.1 d (tl_at hl hx) (k n0 p l e R s m args below meth c β D dA ad0 sa Qf C ad H locs cells slots ls ha hn hR hl hc hs)
theorem a_fstore_n {j : Fin 4} {i : Nat} {x : UInt32} {lv' : List (Nat × Value)} (d : decode (mB mi) pc = .ok (.fstore_n j, 1)) (hi : (j : Nat) = i) (hb : Nat.ble (i + 1) (mL mi) = true) (hv : sto 1 i (.float x) lv = lv') (k : AW X mi (pc + 1) lv' rest h bc bs Q) : AW X mi pc lv (.float x :: rest) h bc bs Q :=
  fun n0 p l e R s m args below meth c β D dA ad0 sa Qf C ad H locs cells slots ls ha hn hR hl hc hs => lv_fstore_n C.1 C.2.1 d hi hl (Nat.le_of_ble_eq_true hb) rfl (fun ls hl => k n0 p l e R s m args below meth c β D dA ad0 sa Qf C ad H locs cells slots ls ha hn hR (hv ▸ tl_sto1 hl) hc hs)
theorem a_fstore {i : Nat} {x : UInt32} {lv' : List (Nat × Value)} (d : decode (mB mi) pc = .ok (.fstore i, 2)) (hb : Nat.ble (i + 1) (mL mi) = true) (hv : sto 1 i (.float x) lv = lv') (k : AW X mi (pc + 2) lv' rest h bc bs Q) : AW X mi pc lv (.float x :: rest) h bc bs Q :=
  fun n0 p l e R s m args below meth c β D dA ad0 sa Qf C ad H locs cells slots ls ha hn hR hl hc hs => lv_fstore C.1 C.2.1 d hl (Nat.le_of_ble_eq_true hb) rfl (fun ls hl => k n0 p l e R s m args below meth c β D dA ad0 sa Qf C ad H locs cells slots ls ha hn hR (hv ▸ tl_sto1 hl) hc hs)
theorem a_dload_n {j : Fin 4} {i : Nat} {x : UInt64} (d : decode (mB mi) pc = .ok (.dload_n j, 1)) (hi : (j : Nat) = i) (hx : lkp i lv = some (.double x)) (k : AW X mi (pc + 1) lv (.double x :: rest) h bc bs Q) : AW X mi pc lv (rest) h bc bs Q :=
  fun n0 p l e R s m args below meth c β D dA ad0 sa Qf C ad H locs cells slots ls ha hn hR hl hc hs => lv_dload_n C.1 C.2.1 d hi (tl_at hl hx) (k n0 p l e R s m args below meth c β D dA ad0 sa Qf C ad H locs cells slots ls ha hn hR hl hc hs)
theorem a_dload {i : Nat} {x : UInt64} (d : decode (mB mi) pc = .ok (.dload i, 2)) (hx : lkp i lv = some (.double x)) (k : AW X mi (pc + 2) lv (.double x :: rest) h bc bs Q) : AW X mi pc lv (rest) h bc bs Q :=
  fun n0 p l e R s m args below meth c β D dA ad0 sa Qf C ad H locs cells slots ls ha hn hR hl hc hs => lv_dload C.1 C.2.1 d (tl_at hl hx) (k n0 p l e R s m args below meth c β D dA ad0 sa Qf C ad H locs cells slots ls ha hn hR hl hc hs)
theorem a_dstore_n {j : Fin 4} {i : Nat} {x : UInt64} {lv' : List (Nat × Value)} (d : decode (mB mi) pc = .ok (.dstore_n j, 1)) (hi : (j : Nat) = i) (hb : Nat.ble (i + 2) (mL mi) = true) (hv : sto 2 i (.double x) lv = lv') (k : AW X mi (pc + 1) lv' rest h bc bs Q) : AW X mi pc lv (.double x :: rest) h bc bs Q :=
  fun n0 p l e R s m args below meth c β D dA ad0 sa Qf C ad H locs cells slots ls ha hn hR hl hc hs => lv_dstore_n C.1 C.2.1 d hi hl (Nat.le_of_ble_eq_true hb) rfl (fun ls hl => k n0 p l e R s m args below meth c β D dA ad0 sa Qf C ad H locs cells slots ls ha hn hR (hv ▸ tl_sto2 hl) hc hs)
theorem a_dstore {i : Nat} {x : UInt64} {lv' : List (Nat × Value)} (d : decode (mB mi) pc = .ok (.dstore i, 2)) (hb : Nat.ble (i + 2) (mL mi) = true) (hv : sto 2 i (.double x) lv = lv') (k : AW X mi (pc + 2) lv' rest h bc bs Q) : AW X mi pc lv (.double x :: rest) h bc bs Q :=
  fun n0 p l e R s m args below meth c β D dA ad0 sa Qf C ad H locs cells slots ls ha hn hR hl hc hs => lv_dstore C.1 C.2.1 d hl (Nat.le_of_ble_eq_true hb) rfl (fun ls hl => k n0 p l e R s m args below meth c β D dA ad0 sa Qf C ad H locs cells slots ls ha hn hR (hv ▸ tl_sto2 hl) hc hs)
theorem a_iinc {i : Nat} {n : Int} {x v : Int32} {lv' : List (Nat × Value)} (d : decode (mB mi) pc = .ok (.iinc i n, 3)) (hb : Nat.ble (i + 1) (mL mi) = true) (hx : lkp i lv = some (.int x)) (hw : x + Int32.ofInt n = v) (hv : sto 1 i (.int v) lv = lv') (k : AW X mi (pc + 3) lv' rest h bc bs Q) : AW X mi pc lv rest h bc bs Q := by
  intro n0 p l e R s m args below meth c β D dA ad0 sa Qf C ad H locs cells slots ls ha hn hR hl hc hs
  obtain ⟨j, hj⟩ := List.getElem?_of_mem (List.mem_map.mpr ⟨(i, Value.int x), lkp_in hx, rfl⟩ : (i, tv ad (Value.int x)) ∈ tl ad lv)
  exact lv_iinc C.1 C.2.1 d hl hj hw (Nat.le_of_ble_eq_true hb) rfl (fun ls hl => k n0 p l e R s m args below meth c β D dA ad0 sa Qf C ad H locs cells slots ls ha hn hR (hv ▸ tl_sto1 hl) hc hs)
theorem a_iadd {x y : Int32} (d : decode (mB mi) pc = .ok (.iadd, 1))  (k : AW X mi (pc + 1) lv (.int (x + y) :: rest) h bc bs Q) : AW X mi pc lv (.int y :: .int x :: rest) h bc bs Q :=
  fun n0 p l e R s m args below meth c β D dA ad0 sa Qf C ad H locs cells slots ls ha hn hR hl hc hs => lv_iadd C.1 C.2.1 d  (k n0 p l e R s m args below meth c β D dA ad0 sa Qf C ad H locs cells slots ls ha hn hR hl hc hs)
theorem a_isub {x y : Int32} (d : decode (mB mi) pc = .ok (.isub, 1))  (k : AW X mi (pc + 1) lv (.int (x - y) :: rest) h bc bs Q) : AW X mi pc lv (.int y :: .int x :: rest) h bc bs Q :=
  fun n0 p l e R s m args below meth c β D dA ad0 sa Qf C ad H locs cells slots ls ha hn hR hl hc hs => lv_isub C.1 C.2.1 d  (k n0 p l e R s m args below meth c β D dA ad0 sa Qf C ad H locs cells slots ls ha hn hR hl hc hs)
theorem a_imul {x y : Int32} (d : decode (mB mi) pc = .ok (.imul, 1))  (k : AW X mi (pc + 1) lv (.int (x * y) :: rest) h bc bs Q) : AW X mi pc lv (.int y :: .int x :: rest) h bc bs Q :=
  fun n0 p l e R s m args below meth c β D dA ad0 sa Qf C ad H locs cells slots ls ha hn hR hl hc hs => lv_imul C.1 C.2.1 d  (k n0 p l e R s m args below meth c β D dA ad0 sa Qf C ad H locs cells slots ls ha hn hR hl hc hs)
theorem a_iand {x y : Int32} (d : decode (mB mi) pc = .ok (.iand, 1))  (k : AW X mi (pc + 1) lv (.int (x &&& y) :: rest) h bc bs Q) : AW X mi pc lv (.int y :: .int x :: rest) h bc bs Q :=
  fun n0 p l e R s m args below meth c β D dA ad0 sa Qf C ad H locs cells slots ls ha hn hR hl hc hs => lv_iand C.1 C.2.1 d  (k n0 p l e R s m args below meth c β D dA ad0 sa Qf C ad H locs cells slots ls ha hn hR hl hc hs)
theorem a_ior {x y : Int32} (d : decode (mB mi) pc = .ok (.ior, 1))  (k : AW X mi (pc + 1) lv (.int (x ||| y) :: rest) h bc bs Q) : AW X mi pc lv (.int y :: .int x :: rest) h bc bs Q :=
  fun n0 p l e R s m args below meth c β D dA ad0 sa Qf C ad H locs cells slots ls ha hn hR hl hc hs => lv_ior C.1 C.2.1 d  (k n0 p l e R s m args below meth c β D dA ad0 sa Qf C ad H locs cells slots ls ha hn hR hl hc hs)
theorem a_ixor {x y : Int32} (d : decode (mB mi) pc = .ok (.ixor, 1))  (k : AW X mi (pc + 1) lv (.int (x ^^^ y) :: rest) h bc bs Q) : AW X mi pc lv (.int y :: .int x :: rest) h bc bs Q :=
  fun n0 p l e R s m args below meth c β D dA ad0 sa Qf C ad H locs cells slots ls ha hn hR hl hc hs => lv_ixor C.1 C.2.1 d  (k n0 p l e R s m args below meth c β D dA ad0 sa Qf C ad H locs cells slots ls ha hn hR hl hc hs)
theorem a_ladd {x y : Int64} (d : decode (mB mi) pc = .ok (.ladd, 1))  (k : AW X mi (pc + 1) lv (.long (x + y) :: rest) h bc bs Q) : AW X mi pc lv (.long y :: .long x :: rest) h bc bs Q :=
  fun n0 p l e R s m args below meth c β D dA ad0 sa Qf C ad H locs cells slots ls ha hn hR hl hc hs => lv_ladd C.1 C.2.1 d  (k n0 p l e R s m args below meth c β D dA ad0 sa Qf C ad H locs cells slots ls ha hn hR hl hc hs)
theorem a_lsub {x y : Int64} (d : decode (mB mi) pc = .ok (.lsub, 1))  (k : AW X mi (pc + 1) lv (.long (x - y) :: rest) h bc bs Q) : AW X mi pc lv (.long y :: .long x :: rest) h bc bs Q :=
  fun n0 p l e R s m args below meth c β D dA ad0 sa Qf C ad H locs cells slots ls ha hn hR hl hc hs => lv_lsub C.1 C.2.1 d  (k n0 p l e R s m args below meth c β D dA ad0 sa Qf C ad H locs cells slots ls ha hn hR hl hc hs)
theorem a_land {x y : Int64} (d : decode (mB mi) pc = .ok (.land, 1))  (k : AW X mi (pc + 1) lv (.long (x &&& y) :: rest) h bc bs Q) : AW X mi pc lv (.long y :: .long x :: rest) h bc bs Q :=
  fun n0 p l e R s m args below meth c β D dA ad0 sa Qf C ad H locs cells slots ls ha hn hR hl hc hs => lv_land C.1 C.2.1 d  (k n0 p l e R s m args below meth c β D dA ad0 sa Qf C ad H locs cells slots ls ha hn hR hl hc hs)
theorem a_lor {x y : Int64} (d : decode (mB mi) pc = .ok (.lor, 1))  (k : AW X mi (pc + 1) lv (.long (x ||| y) :: rest) h bc bs Q) : AW X mi pc lv (.long y :: .long x :: rest) h bc bs Q :=
  fun n0 p l e R s m args below meth c β D dA ad0 sa Qf C ad H locs cells slots ls ha hn hR hl hc hs => lv_lor C.1 C.2.1 d  (k n0 p l e R s m args below meth c β D dA ad0 sa Qf C ad H locs cells slots ls ha hn hR hl hc hs)
theorem a_ishl {x y : Int32} (d : decode (mB mi) pc = .ok (.ishl, 1))  (k : AW X mi (pc + 1) lv (.int (x <<< (y &&& 31)) :: rest) h bc bs Q) : AW X mi pc lv (.int y :: .int x :: rest) h bc bs Q :=
  fun n0 p l e R s m args below meth c β D dA ad0 sa Qf C ad H locs cells slots ls ha hn hR hl hc hs => lv_ishl C.1 C.2.1 d  (k n0 p l e R s m args below meth c β D dA ad0 sa Qf C ad H locs cells slots ls ha hn hR hl hc hs)
theorem a_ishr {x y : Int32} (d : decode (mB mi) pc = .ok (.ishr, 1))  (k : AW X mi (pc + 1) lv (.int (x >>> (y &&& 31)) :: rest) h bc bs Q) : AW X mi pc lv (.int y :: .int x :: rest) h bc bs Q :=
  fun n0 p l e R s m args below meth c β D dA ad0 sa Qf C ad H locs cells slots ls ha hn hR hl hc hs => lv_ishr C.1 C.2.1 d  (k n0 p l e R s m args below meth c β D dA ad0 sa Qf C ad H locs cells slots ls ha hn hR hl hc hs)
theorem a_idiv {x y : Int32} (d : decode (mB mi) pc = .ok (.idiv, 1)) (hne : ¬ y = 0) (k : AW X mi (pc + 1) lv (.int (x / y) :: rest) h bc bs Q) : AW X mi pc lv (.int y :: .int x :: rest) h bc bs Q :=
  fun n0 p l e R s m args below meth c β D dA ad0 sa Qf C ad H locs cells slots ls ha hn hR hl hc hs => lv_idiv C.1 C.2.1 d hne (k n0 p l e R s m args below meth c β D dA ad0 sa Qf C ad H locs cells slots ls ha hn hR hl hc hs)
theorem a_irem {x y : Int32} (d : decode (mB mi) pc = .ok (.irem, 1)) (hne : ¬ y = 0) (k : AW X mi (pc + 1) lv (.int (x - x / y * y) :: rest) h bc bs Q) : AW X mi pc lv (.int y :: .int x :: rest) h bc bs Q :=
  fun n0 p l e R s m args below meth c β D dA ad0 sa Qf C ad H locs cells slots ls ha hn hR hl hc hs => lv_irem C.1 C.2.1 d hne (k n0 p l e R s m args below meth c β D dA ad0 sa Qf C ad H locs cells slots ls ha hn hR hl hc hs)
theorem a_iushr {x y : Int32} (d : decode (mB mi) pc = .ok (.iushr, 1))  (k : AW X mi (pc + 1) lv (.int (x.toUInt32 >>> (y.toUInt32 &&& Int32.toUInt32 31)).toInt32 :: rest) h bc bs Q) : AW X mi pc lv (.int y :: .int x :: rest) h bc bs Q :=
  fun n0 p l e R s m args below meth c β D dA ad0 sa Qf C ad H locs cells slots ls ha hn hR hl hc hs => lv_iushr C.1 C.2.1 d rfl (k n0 p l e R s m args below meth c β D dA ad0 sa Qf C ad H locs cells slots ls ha hn hR hl hc hs)
theorem a_lushr {x : Int64} {y : Int32} (d : decode (mB mi) pc = .ok (.lushr, 1))  (k : AW X mi (pc + 1) lv (.long (x.toUInt64 >>> (y.toInt64.toUInt64 &&& Int64.toUInt64 63)).toInt64 :: rest) h bc bs Q) : AW X mi pc lv (.int y :: .long x :: rest) h bc bs Q :=
  fun n0 p l e R s m args below meth c β D dA ad0 sa Qf C ad H locs cells slots ls ha hn hR hl hc hs => lv_lushr C.1 C.2.1 d rfl (k n0 p l e R s m args below meth c β D dA ad0 sa Qf C ad H locs cells slots ls ha hn hR hl hc hs)
theorem a_lshl {x : Int64} {y : Int32} (d : decode (mB mi) pc = .ok (.lshl, 1))  (k : AW X mi (pc + 1) lv (.long (x <<< (y.toInt64 &&& 63)) :: rest) h bc bs Q) : AW X mi pc lv (.int y :: .long x :: rest) h bc bs Q :=
  fun n0 p l e R s m args below meth c β D dA ad0 sa Qf C ad H locs cells slots ls ha hn hR hl hc hs => lv_lshl C.1 C.2.1 d rfl (k n0 p l e R s m args below meth c β D dA ad0 sa Qf C ad H locs cells slots ls ha hn hR hl hc hs)
theorem a_lshr {x : Int64} {y : Int32} (d : decode (mB mi) pc = .ok (.lshr, 1))  (k : AW X mi (pc + 1) lv (.long (x >>> (y.toInt64 &&& 63)) :: rest) h bc bs Q) : AW X mi pc lv (.int y :: .long x :: rest) h bc bs Q :=
  fun n0 p l e R s m args below meth c β D dA ad0 sa Qf C ad H locs cells slots ls ha hn hR hl hc hs => lv_lshr C.1 C.2.1 d rfl (k n0 p l e R s m args below meth c β D dA ad0 sa Qf C ad H locs cells slots ls ha hn hR hl hc hs)
theorem a_lcmp {x y : Int64} (d : decode (mB mi) pc = .ok (.lcmp, 1))  (k : AW X mi (pc + 1) lv (.int (lg_cmp x y) :: rest) h bc bs Q) : AW X mi pc lv (.long y :: .long x :: rest) h bc bs Q :=
  fun n0 p l e R s m args below meth c β D dA ad0 sa Qf C ad H locs cells slots ls ha hn hR hl hc hs => W.lcmp C.1 C.2.1 d  (k n0 p l e R s m args below meth c β D dA ad0 sa Qf C ad H locs cells slots ls ha hn hR hl hc hs)
theorem a_i2l {x : Int32} (d : decode (mB mi) pc = .ok (.i2l, 1))  (k : AW X mi (pc + 1) lv (.long x.toInt64 :: rest) h bc bs Q) : AW X mi pc lv (.int x :: rest) h bc bs Q :=
  fun n0 p l e R s m args below meth c β D dA ad0 sa Qf C ad H locs cells slots ls ha hn hR hl hc hs => lv_i2l C.1 C.2.1 d rfl (k n0 p l e R s m args below meth c β D dA ad0 sa Qf C ad H locs cells slots ls ha hn hR hl hc hs)
theorem a_l2i {x : Int64} (d : decode (mB mi) pc = .ok (.l2i, 1))  (k : AW X mi (pc + 1) lv (.int x.toInt32 :: rest) h bc bs Q) : AW X mi pc lv (.long x :: rest) h bc bs Q :=
  fun n0 p l e R s m args below meth c β D dA ad0 sa Qf C ad H locs cells slots ls ha hn hR hl hc hs => lv_l2i C.1 C.2.1 d rfl (k n0 p l e R s m args below meth c β D dA ad0 sa Qf C ad H locs cells slots ls ha hn hR hl hc hs)
theorem a_i2c {x : Int32} (d : decode (mB mi) pc = .ok (.i2c, 1))  (k : AW X mi (pc + 1) lv (.int (x.toUInt32 % 65536).toInt32 :: rest) h bc bs Q) : AW X mi pc lv (.int x :: rest) h bc bs Q :=
  fun n0 p l e R s m args below meth c β D dA ad0 sa Qf C ad H locs cells slots ls ha hn hR hl hc hs => lv_i2c C.1 C.2.1 d rfl (k n0 p l e R s m args below meth c β D dA ad0 sa Qf C ad H locs cells slots ls ha hn hR hl hc hs)
theorem a_i2f {x : Int32} (d : decode (mB mi) pc = .ok (.i2f, 1))  (k : AW X mi (pc + 1) lv (.float (FP.i2f x) :: rest) h bc bs Q) : AW X mi pc lv (.int x :: rest) h bc bs Q :=
  fun n0 p l e R s m args below meth c β D dA ad0 sa Qf C ad H locs cells slots ls ha hn hR hl hc hs => lv_i2f C.1 C.2.1 d  (k n0 p l e R s m args below meth c β D dA ad0 sa Qf C ad H locs cells slots ls ha hn hR hl hc hs)
theorem a_i2d {x : Int32} (d : decode (mB mi) pc = .ok (.i2d, 1))  (k : AW X mi (pc + 1) lv (.double (FP.i2d x) :: rest) h bc bs Q) : AW X mi pc lv (.int x :: rest) h bc bs Q :=
  fun n0 p l e R s m args below meth c β D dA ad0 sa Qf C ad H locs cells slots ls ha hn hR hl hc hs => lv_i2d C.1 C.2.1 d  (k n0 p l e R s m args below meth c β D dA ad0 sa Qf C ad H locs cells slots ls ha hn hR hl hc hs)
theorem a_l2d {x : Int64} (d : decode (mB mi) pc = .ok (.l2d, 1))  (k : AW X mi (pc + 1) lv (.double (FP.l2d x) :: rest) h bc bs Q) : AW X mi pc lv (.long x :: rest) h bc bs Q :=
  fun n0 p l e R s m args below meth c β D dA ad0 sa Qf C ad H locs cells slots ls ha hn hR hl hc hs => lv_l2d C.1 C.2.1 d  (k n0 p l e R s m args below meth c β D dA ad0 sa Qf C ad H locs cells slots ls ha hn hR hl hc hs)
theorem a_f2d {x : UInt32} (d : decode (mB mi) pc = .ok (.f2d, 1)) (hne : vf_n64 (FP.f2d x)) (k : AW X mi (pc + 1) lv (.double (FP.f2d x) :: rest) h bc bs Q) : AW X mi pc lv (.float x :: rest) h bc bs Q :=
  fun n0 p l e R s m args below meth c β D dA ad0 sa Qf C ad H locs cells slots ls ha hn hR hl hc hs => lv_f2d C.1 C.2.1 d hne (k n0 p l e R s m args below meth c β D dA ad0 sa Qf C ad H locs cells slots ls ha hn hR hl hc hs)
theorem a_fdiv {x y : UInt32} (d : decode (mB mi) pc = .ok (.fdiv, 1)) (hne : vf_n32 (FP.fdiv x y)) (k : AW X mi (pc + 1) lv (.float (FP.fdiv x y) :: rest) h bc bs Q) : AW X mi pc lv (.float y :: .float x :: rest) h bc bs Q :=
  fun n0 p l e R s m args below meth c β D dA ad0 sa Qf C ad H locs cells slots ls ha hn hR hl hc hs => lv_fdiv C.1 C.2.1 d hne (k n0 p l e R s m args below meth c β D dA ad0 sa Qf C ad H locs cells slots ls ha hn hR hl hc hs)
theorem a_ddiv {x y : UInt64} (d : decode (mB mi) pc = .ok (.ddiv, 1)) (hne : vf_n64 (FP.ddiv x y)) (k : AW X mi (pc + 1) lv (.double (FP.ddiv x y) :: rest) h bc bs Q) : AW X mi pc lv (.double y :: .double x :: rest) h bc bs Q :=
  fun n0 p l e R s m args below meth c β D dA ad0 sa Qf C ad H locs cells slots ls ha hn hR hl hc hs => lv_ddiv C.1 C.2.1 d hne (k n0 p l e R s m args below meth c β D dA ad0 sa Qf C ad H locs cells slots ls ha hn hR hl hc hs)
theorem a_fcmp {x y : UInt32} {op : CmpOp} (d : decode (mB mi) pc = .ok (.fcmp op, 1))  (k : AW X mi (pc + 1) lv (.int (Op.cmpValue (FP.fcmp x y) op) :: rest) h bc bs Q) : AW X mi pc lv (.float y :: .float x :: rest) h bc bs Q :=
  fun n0 p l e R s m args below meth c β D dA ad0 sa Qf C ad H locs cells slots ls ha hn hR hl hc hs => lv_fcmp C.1 C.2.1 d  (k n0 p l e R s m args below meth c β D dA ad0 sa Qf C ad H locs cells slots ls ha hn hR hl hc hs)
theorem a_dcmp {x y : UInt64} {op : CmpOp} (d : decode (mB mi) pc = .ok (.dcmp op, 1))  (k : AW X mi (pc + 1) lv (.int (Op.cmpValue (FP.dcmp x y) op) :: rest) h bc bs Q) : AW X mi pc lv (.double y :: .double x :: rest) h bc bs Q :=
  fun n0 p l e R s m args below meth c β D dA ad0 sa Qf C ad H locs cells slots ls ha hn hR hl hc hs => lv_dcmp C.1 C.2.1 d  (k n0 p l e R s m args below meth c β D dA ad0 sa Qf C ad H locs cells slots ls ha hn hR hl hc hs)
theorem a_dup {v : Value} (d : decode (mB mi) pc = .ok (.dup, 1)) (hv : v.category = 1) (k : AW X mi (pc + 1) lv (v :: v :: rest) h bc bs Q) : AW X mi pc lv (v :: rest) h bc bs Q :=
  fun n0 p l e R s m args below meth c β D dA ad0 sa Qf C ad H locs cells slots ls ha hn hR hl hc hs => lv_dup C.1 C.2.1 d ((tv_cat ad v).trans hv) (k n0 p l e R s m args below meth c β D dA ad0 sa Qf C ad H locs cells slots ls ha hn hR hl hc hs)
theorem a_pop {v : Value} (d : decode (mB mi) pc = .ok (.pop, 1)) (hv : v.category = 1) (k : AW X mi (pc + 1) lv (rest) h bc bs Q) : AW X mi pc lv (v :: rest) h bc bs Q :=
  fun n0 p l e R s m args below meth c β D dA ad0 sa Qf C ad H locs cells slots ls ha hn hR hl hc hs => lv_pop C.1 C.2.1 d ((tv_cat ad v).trans hv) (k n0 p l e R s m args below meth c β D dA ad0 sa Qf C ad H locs cells slots ls ha hn hR hl hc hs)
theorem a_if_eq {x : Int32} {off : Int} {tgt : Nat} (d : decode (mB mi) pc = .ok (.ifCond .eq off, 3)) (ht : (pc : Int) + off = (tgt : Int)) (kt : x = 0 → AW X mi tgt lv rest h bc bs Q) (kf : ¬ x = 0 → AW X mi (pc + 3) lv rest h bc bs Q) : AW X mi pc lv (.int x :: rest) h bc bs Q :=
  fun n0 p l e R s m args below meth c β D dA ad0 sa Qf C ad H locs cells slots ls ha hn hR hl hc hs => lv_if_eq C.1 C.2.1 d ht (fun z => kt z n0 p l e R s m args below meth c β D dA ad0 sa Qf C ad H locs cells slots ls ha hn hR hl hc hs) (fun z => kf z n0 p l e R s m args below meth c β D dA ad0 sa Qf C ad H locs cells slots ls ha hn hR hl hc hs)
theorem a_icmp_eq {x y : Int32} {off : Int} {tgt : Nat} (d : decode (mB mi) pc = .ok (.if_icmp .eq off, 3)) (ht : (pc : Int) + off = (tgt : Int)) (kt : x = y → AW X mi tgt lv rest h bc bs Q) (kf : ¬ x = y → AW X mi (pc + 3) lv rest h bc bs Q) : AW X mi pc lv (.int y :: .int x :: rest) h bc bs Q :=
  fun n0 p l e R s m args below meth c β D dA ad0 sa Qf C ad H locs cells slots ls ha hn hR hl hc hs => lv_icmp_eq C.1 C.2.1 d ht (fun z => kt z n0 p l e R s m args below meth c β D dA ad0 sa Qf C ad H locs cells slots ls ha hn hR hl hc hs) (fun z => kf z n0 p l e R s m args below meth c β D dA ad0 sa Qf C ad H locs cells slots ls ha hn hR hl hc hs)
theorem a_if_ne {x : Int32} {off : Int} {tgt : Nat} (d : decode (mB mi) pc = .ok (.ifCond .ne off, 3)) (ht : (pc : Int) + off = (tgt : Int)) (kt : ¬ x = 0 → AW X mi tgt lv rest h bc bs Q) (kf : x = 0 → AW X mi (pc + 3) lv rest h bc bs Q) : AW X mi pc lv (.int x :: rest) h bc bs Q :=
  fun n0 p l e R s m args below meth c β D dA ad0 sa Qf C ad H locs cells slots ls ha hn hR hl hc hs => lv_if_ne C.1 C.2.1 d ht (fun z => kt z n0 p l e R s m args below meth c β D dA ad0 sa Qf C ad H locs cells slots ls ha hn hR hl hc hs) (fun z => kf z n0 p l e R s m args below meth c β D dA ad0 sa Qf C ad H locs cells slots ls ha hn hR hl hc hs)
theorem a_icmp_ne {x y : Int32} {off : Int} {tgt : Nat} (d : decode (mB mi) pc = .ok (.if_icmp .ne off, 3)) (ht : (pc : Int) + off = (tgt : Int)) (kt : ¬ x = y → AW X mi tgt lv rest h bc bs Q) (kf : x = y → AW X mi (pc + 3) lv rest h bc bs Q) : AW X mi pc lv (.int y :: .int x :: rest) h bc bs Q :=
  fun n0 p l e R s m args below meth c β D dA ad0 sa Qf C ad H locs cells slots ls ha hn hR hl hc hs => lv_icmp_ne C.1 C.2.1 d ht (fun z => kt z n0 p l e R s m args below meth c β D dA ad0 sa Qf C ad H locs cells slots ls ha hn hR hl hc hs) (fun z => kf z n0 p l e R s m args below meth c β D dA ad0 sa Qf C ad H locs cells slots ls ha hn hR hl hc hs)
theorem a_if_lt {x : Int32} {off : Int} {tgt : Nat} (d : decode (mB mi) pc = .ok (.ifCond .lt off, 3)) (ht : (pc : Int) + off = (tgt : Int)) (kt : x < 0 → AW X mi tgt lv rest h bc bs Q) (kf : ¬ x < 0 → AW X mi (pc + 3) lv rest h bc bs Q) : AW X mi pc lv (.int x :: rest) h bc bs Q :=
  fun n0 p l e R s m args below meth c β D dA ad0 sa Qf C ad H locs cells slots ls ha hn hR hl hc hs => lv_if_lt C.1 C.2.1 d ht (fun z => kt z n0 p l e R s m args below meth c β D dA ad0 sa Qf C ad H locs cells slots ls ha hn hR hl hc hs) (fun z => kf z n0 p l e R s m args below meth c β D dA ad0 sa Qf C ad H locs cells slots ls ha hn hR hl hc hs)
theorem a_icmp_lt {x y : Int32} {off : Int} {tgt : Nat} (d : decode (mB mi) pc = .ok (.if_icmp .lt off, 3)) (ht : (pc : Int) + off = (tgt : Int)) (kt : x < y → AW X mi tgt lv rest h bc bs Q) (kf : ¬ x < y → AW X mi (pc + 3) lv rest h bc bs Q) : AW X mi pc lv (.int y :: .int x :: rest) h bc bs Q :=
  fun n0 p l e R s m args below meth c β D dA ad0 sa Qf C ad H locs cells slots ls ha hn hR hl hc hs => lv_icmp_lt C.1 C.2.1 d ht (fun z => kt z n0 p l e R s m args below meth c β D dA ad0 sa Qf C ad H locs cells slots ls ha hn hR hl hc hs) (fun z => kf z n0 p l e R s m args below meth c β D dA ad0 sa Qf C ad H locs cells slots ls ha hn hR hl hc hs)
theorem a_if_ge {x : Int32} {off : Int} {tgt : Nat} (d : decode (mB mi) pc = .ok (.ifCond .ge off, 3)) (ht : (pc : Int) + off = (tgt : Int)) (kt : 0 ≤ x → AW X mi tgt lv rest h bc bs Q) (kf : ¬ 0 ≤ x → AW X mi (pc + 3) lv rest h bc bs Q) : AW X mi pc lv (.int x :: rest) h bc bs Q :=
  fun n0 p l e R s m args below meth c β D dA ad0 sa Qf C ad H locs cells slots ls ha hn hR hl hc hs => lv_if_ge C.1 C.2.1 d ht (fun z => kt z n0 p l e R s m args below meth c β D dA ad0 sa Qf C ad H locs cells slots ls ha hn hR hl hc hs) (fun z => kf z n0 p l e R s m args below meth c β D dA ad0 sa Qf C ad H locs cells slots ls ha hn hR hl hc hs)
theorem a_icmp_ge {x y : Int32} {off : Int} {tgt : Nat} (d : decode (mB mi) pc = .ok (.if_icmp .ge off, 3)) (ht : (pc : Int) + off = (tgt : Int)) (kt : y ≤ x → AW X mi tgt lv rest h bc bs Q) (kf : ¬ y ≤ x → AW X mi (pc + 3) lv rest h bc bs Q) : AW X mi pc lv (.int y :: .int x :: rest) h bc bs Q :=
  fun n0 p l e R s m args below meth c β D dA ad0 sa Qf C ad H locs cells slots ls ha hn hR hl hc hs => lv_icmp_ge C.1 C.2.1 d ht (fun z => kt z n0 p l e R s m args below meth c β D dA ad0 sa Qf C ad H locs cells slots ls ha hn hR hl hc hs) (fun z => kf z n0 p l e R s m args below meth c β D dA ad0 sa Qf C ad H locs cells slots ls ha hn hR hl hc hs)
theorem a_if_gt {x : Int32} {off : Int} {tgt : Nat} (d : decode (mB mi) pc = .ok (.ifCond .gt off, 3)) (ht : (pc : Int) + off = (tgt : Int)) (kt : 0 < x → AW X mi tgt lv rest h bc bs Q) (kf : ¬ 0 < x → AW X mi (pc + 3) lv rest h bc bs Q) : AW X mi pc lv (.int x :: rest) h bc bs Q :=
  fun n0 p l e R s m args below meth c β D dA ad0 sa Qf C ad H locs cells slots ls ha hn hR hl hc hs => lv_if_gt C.1 C.2.1 d ht (fun z => kt z n0 p l e R s m args below meth c β D dA ad0 sa Qf C ad H locs cells slots ls ha hn hR hl hc hs) (fun z => kf z n0 p l e R s m args below meth c β D dA ad0 sa Qf C ad H locs cells slots ls ha hn hR hl hc hs)
theorem a_icmp_gt {x y : Int32} {off : Int} {tgt : Nat} (d : decode (mB mi) pc = .ok (.if_icmp .gt off, 3)) (ht : (pc : Int) + off = (tgt : Int)) (kt : y < x → AW X mi tgt lv rest h bc bs Q) (kf : ¬ y < x → AW X mi (pc + 3) lv rest h bc bs Q) : AW X mi pc lv (.int y :: .int x :: rest) h bc bs Q :=
  fun n0 p l e R s m args below meth c β D dA ad0 sa Qf C ad H locs cells slots ls ha hn hR hl hc hs => lv_icmp_gt C.1 C.2.1 d ht (fun z => kt z n0 p l e R s m args below meth c β D dA ad0 sa Qf C ad H locs cells slots ls ha hn hR hl hc hs) (fun z => kf z n0 p l e R s m args below meth c β D dA ad0 sa Qf C ad H locs cells slots ls ha hn hR hl hc hs)
theorem a_if_le {x : Int32} {off : Int} {tgt : Nat} (d : decode (mB mi) pc = .ok (.ifCond .le off, 3)) (ht : (pc : Int) + off = (tgt : Int)) (kt : x ≤ 0 → AW X mi tgt lv rest h bc bs Q) (kf : ¬ x ≤ 0 → AW X mi (pc + 3) lv rest h bc bs Q) : AW X mi pc lv (.int x :: rest) h bc bs Q :=
  fun n0 p l e R s m args below meth c β D dA ad0 sa Qf C ad H locs cells slots ls ha hn hR hl hc hs => lv_if_le C.1 C.2.1 d ht (fun z => kt z n0 p l e R s m args below meth c β D dA ad0 sa Qf C ad H locs cells slots ls ha hn hR hl hc hs) (fun z => kf z n0 p l e R s m args below meth c β D dA ad0 sa Qf C ad H locs cells slots ls ha hn hR hl hc hs)
theorem a_icmp_le {x y : Int32} {off : Int} {tgt : Nat} (d : decode (mB mi) pc = .ok (.if_icmp .le off, 3)) (ht : (pc : Int) + off = (tgt : Int)) (kt : x ≤ y → AW X mi tgt lv rest h bc bs Q) (kf : ¬ x ≤ y → AW X mi (pc + 3) lv rest h bc bs Q) : AW X mi pc lv (.int y :: .int x :: rest) h bc bs Q :=
  fun n0 p l e R s m args below meth c β D dA ad0 sa Qf C ad H locs cells slots ls ha hn hR hl hc hs => lv_icmp_le C.1 C.2.1 d ht (fun z => kt z n0 p l e R s m args below meth c β D dA ad0 sa Qf C ad H locs cells slots ls ha hn hR hl hc hs) (fun z => kf z n0 p l e R s m args below meth c β D dA ad0 sa Qf C ad H locs cells slots ls ha hn hR hl hc hs)
theorem a_goto {off : Int} {tgt : Nat} (d : decode (mB mi) pc = .ok (.goto off, 3)) (ht : (pc : Int) + off = (tgt : Int)) (k : AW X mi tgt lv rest h bc bs Q) : AW X mi pc lv rest h bc bs Q :=
  fun n0 p l e R s m args below meth c β D dA ad0 sa Qf C ad H locs cells slots ls ha hn hR hl hc hs => lv_goto C.1 C.2.1 d ht (k n0 p l e R s m args below meth c β D dA ad0 sa Qf C ad H locs cells slots ls ha hn hR hl hc hs)
theorem a_tableIn {dflt lo hi : Int} {offs : Array Int} {len : Nat} {x : Int32} {off : Int} {tgt : Nat} (d : decode (mB mi) pc = .ok (.tableswitch dflt lo hi offs, len)) (h1 : ¬ x.toInt < lo) (h2 : ¬ hi < x.toInt) (ho : offs[(x.toInt - lo).toNat]? = some off) (ht : (pc : Int) + off = (tgt : Int)) (k : AW X mi tgt lv rest h bc bs Q) : AW X mi pc lv (.int x :: rest) h bc bs Q :=
  fun n0 p l e R s m args below meth c β D dA ad0 sa Qf C ad H locs cells slots ls ha hn hR hl hc hs => lv_tableIn C.1 C.2.1 d h1 h2 ho ht (k n0 p l e R s m args below meth c β D dA ad0 sa Qf C ad H locs cells slots ls ha hn hR hl hc hs)
theorem a_tableOut {dflt lo hi : Int} {offs : Array Int} {len : Nat} {x : Int32} {tgt : Nat} (d : decode (mB mi) pc = .ok (.tableswitch dflt lo hi offs, len)) (h1 : x.toInt < lo ∨ hi < x.toInt) (ht : (pc : Int) + dflt = (tgt : Int)) (k : AW X mi tgt lv rest h bc bs Q) : AW X mi pc lv (.int x :: rest) h bc bs Q :=
  fun n0 p l e R s m args below meth c β D dA ad0 sa Qf C ad H locs cells slots ls ha hn hR hl hc hs => lv_tableOut C.1 C.2.1 d h1 ht (k n0 p l e R s m args below meth c β D dA ad0 sa Qf C ad H locs cells slots ls ha hn hR hl hc hs)
theorem a_ireturn {x : Int32} (d : decode (mB mi) pc = .ok (.ireturn, 1)) (hr : nr mi x) (k : Q (.inl (some (.int x))) h) : AW X mi pc lv [.int x] h bc bs Q :=
  fun n0 p l e R s m args below meth c β D dA ad0 sa Qf C ad H locs cells slots ls ha hn hR hl hc hs => C.2.2.2.2.2.2.2.2.2.2.2.1 (some (.int x)) h ad H locs cells slots pc ls .ireturn k ⟨x, rfl, hr⟩ d ha hn hR (by omega) (by omega)
theorem a_lreturn {x : Int64} (d : decode (mB mi) pc = .ok (.lreturn, 1)) (hr : mR mi = some .long) (k : Q (.inl (some (.long x))) h) : AW X mi pc lv [.long x] h bc bs Q :=
  fun n0 p l e R s m args below meth c β D dA ad0 sa Qf C ad H locs cells slots ls ha hn hR hl hc hs => C.2.2.2.2.2.2.2.2.2.2.2.1 (some (.long x)) h ad H locs cells slots pc ls .lreturn k ⟨x, rfl, hr⟩ d ha hn hR (by omega) (by omega)
theorem a_freturn {x : UInt32} (d : decode (mB mi) pc = .ok (.freturn, 1)) (hr : mR mi = some .float) (k : Q (.inl (some (.float x))) h) : AW X mi pc lv [.float x] h bc bs Q :=
  fun n0 p l e R s m args below meth c β D dA ad0 sa Qf C ad H locs cells slots ls ha hn hR hl hc hs => C.2.2.2.2.2.2.2.2.2.2.2.1 (some (.float x)) h ad H locs cells slots pc ls .freturn k ⟨x, rfl, hr⟩ d ha hn hR (by omega) (by omega)
theorem a_dreturn {x : UInt64} (d : decode (mB mi) pc = .ok (.dreturn, 1)) (hr : mR mi = some .double) (k : Q (.inl (some (.double x))) h) : AW X mi pc lv [.double x] h bc bs Q :=
  fun n0 p l e R s m args below meth c β D dA ad0 sa Qf C ad H locs cells slots ls ha hn hR hl hc hs => C.2.2.2.2.2.2.2.2.2.2.2.1 (some (.double x)) h ad H locs cells slots pc ls .dreturn k ⟨x, rfl, hr⟩ d ha hn hR (by omega) (by omega)
theorem a_areturn {x : Nat} (d : decode (mB mi) pc = .ok (.areturn, 1)) (hr : ∃ rt, mR mi = some rt ∧ ((∃ n, rt = .object n) ∨ ∃ t, rt = .array t)) (k : Q (.inl (some (.ref x))) h) : AW X mi pc lv [.ref x] h bc bs Q :=
  fun n0 p l e R s m args below meth c β D dA ad0 sa Qf C ad H locs cells slots ls ha hn hR hl hc hs => C.2.2.2.2.2.2.2.2.2.2.2.1 (some (.ref x)) h ad H locs cells slots pc ls .areturn k ⟨x, rfl, hr⟩ d ha hn hR (by omega) (by omega)
theorem a_return (d : decode (mB mi) pc = .ok (.return_, 1)) (hr : mR mi = none) (k : Q (.inl none) h) : AW X mi pc lv [] h bc bs Q :=
  fun n0 p l e R s m args below meth c β D dA ad0 sa Qf C ad H locs cells slots ls ha hn hR hl hc hs => C.2.2.2.2.2.2.2.2.2.2.2.1 none h ad H locs cells slots pc ls .return_ k ⟨rfl, hr⟩ d ha hn hR (by omega) (by omega)
theorem nr_int (h : mR mi = some .int) (x : Int32) : nr mi x := ⟨.int, h, rfl⟩
theorem nr_bool (h : mR mi = some .boolean) {x : Int32} (hx : x = 0 ∨ x = 1) : nr mi x := ⟨.boolean, h, by rcases hx with rfl | rfl <;> rfl⟩
theorem a_throw {en si : Nat} (q : thI mi pc en si) (hb : 1 ≤ bc ∧ 6 ≤ bs) (hw : (rest.map fun v => v.category).sum ≤ 8) (k : Q (.inr en) h) : AW X mi pc lv rest h bc bs Q :=
  fun n0 p l e R s m args below meth c β D dA ad0 sa Qf C ad H locs cells slots ls ha hn hR hl hc hs => C.2.2.2.2.2.2.2.2.2.2.2.2.2 en si h ad H locs cells slots pc ls _ k q ha hn hR hl.1 (by rw [List.map_map]; simpa [Function.comp_def, tv_cat] using hw) (by omega) (by omega)
end RULES
end
section
/-! rules that touch the heap; calls; a method's contract out of its walk -/
theorem XU_tbl {w : Cond} (h : w ∈ XU) : w ∈ lw_tbl := (List.mem_filter.mp h).1
theorem XU_good {w : Cond} (h : w ∈ XU) : goodWord w = true := (List.mem_filter.mp h).2
theorem GoodIn_XU {ws : List Cond} (h : ∀ w ∈ ws, w ∈ XU) : GoodIn XU ws := fun w hw => ⟨h w hw, good_of_word (XU_good (h w hw))⟩
def kOk (a : Nat) : Prop := kcl[a]? = some ((kC a).1, (kC a).2.1, (kC a).2.2) ∧ (∀ w ∈ u_ws (kC a).1 (kC a).2.1 (kC a).2.2, w ∈ XU) ∧ (∀ k, k < (kC a).2.2 → parseFieldDescriptor ((kC a).2.1 k).2.2.1 = some (kT a k)) ∧
  (∀ x, x < (kC a).2.2 → ∀ y, y < (kC a).2.2 → x ≠ y → ((kC a).2.1 x).2.1 ≠ ((kC a).2.1 y).2.1) ∧ Cond.instantiable (kC a).1 (kC a).2.2 ∈ XU ∧ Cond.initialized (kC a).1 ∈ XU ∧ ∀ k, k < (kC a).2.2 → ((kC a).2.1 k).1 = (kC a).1
theorem xu_of {ws : List Cond} (h : ∀ w ∈ ws, w ∈ tables_1 ∧ goodWord w = true) : ∀ w ∈ ws, w ∈ XU := fun w hw => xu_t (h w hw).1 (h w hw).2
set_option maxRecDepth 100000 in
theorem kOk0 : kOk 0 := ⟨rfl, xu_of (by decide +kernel), tyX0_ok, nmX0, xu_t (by decide +kernel) (by decide +kernel), xu_t (by decide +kernel) (by decide +kernel), by decide +kernel⟩
set_option maxRecDepth 100000 in
theorem kOk1 : kOk 1 := ⟨rfl, xu_of (by decide +kernel), tyX2_ok, nmX2, xu_t (by decide +kernel) (by decide +kernel), xu_t (by decide +kernel) (by decide +kernel), by decide +kernel⟩
set_option maxRecDepth 100000 in
theorem kOk2 : kOk 2 := ⟨rfl, xu_of (by decide +kernel), tyX3_ok, nmX3, xu_t (by decide +kernel) (by decide +kernel), xu_t (by decide +kernel) (by decide +kernel), by decide +kernel⟩
set_option maxRecDepth 100000 in
theorem kOk3 : kOk 3 := ⟨rfl, xu_of (by decide +kernel), tyX4_ok, nmX4, xu_t (by decide +kernel) (by decide +kernel), xu_t (by decide +kernel) (by decide +kernel), by decide +kernel⟩
set_option maxRecDepth 100000 in
theorem kOk4 : kOk 4 := ⟨rfl, xu_of (by decide +kernel), tyX6_ok, nmX6, xu_t (by decide +kernel) (by decide +kernel), xu_t (by decide +kernel) (by decide +kernel), by decide +kernel⟩
set_option maxRecDepth 100000 in
theorem kOk5 : kOk 5 := ⟨rfl, xu_of (by decide +kernel), tyX7_ok, nmX7, xu_t (by decide +kernel) (by decide +kernel), xu_t (by decide +kernel) (by decide +kernel), by decide +kernel⟩
set_option maxRecDepth 100000 in
theorem kOk6 : kOk 6 := ⟨rfl, xu_of (by decide +kernel), tyX8_ok, nmX8, xu_t (by decide +kernel) (by decide +kernel), xu_t (by decide +kernel) (by decide +kernel), by decide +kernel⟩
set_option maxRecDepth 100000 in
theorem kOk7 : kOk 7 := ⟨rfl, xu_of (by decide +kernel), tyX9_ok, nmX9, xu_t (by decide +kernel) (by decide +kernel), xu_t (by decide +kernel) (by decide +kernel), by decide +kernel⟩
set_option maxRecDepth 100000 in
theorem kOk8 : kOk 8 := ⟨rfl, xu_of (by decide +kernel), tyX10_ok, nmX10, xu_t (by decide +kernel) (by decide +kernel), xu_t (by decide +kernel) (by decide +kernel), by decide +kernel⟩
theorem kok (a : Nat) (h : a < 9) : kOk a := by
  match a, h with
  | 0, _ => exact kOk0
  | 1, _ => exact kOk1
  | 2, _ => exact kOk2
  | 3, _ => exact kOk3
  | 4, _ => exact kOk4
  | 5, _ => exact kOk5
  | 6, _ => exact kOk6
  | 7, _ => exact kOk7
  | 8, _ => exact kOk8
  | a + 9, h => exact absurd h (by omega)
theorem dN_ok (i : Nat) (h : i < 234) : dN (mD i) = (mY i).cls := by
  have h1 := (yw i h).1
  simp only [yb, Bool.and_eq_true, decide_eq_true_eq] at h1
  exact h1.2
theorem dN_ok2 (i : Nat) (h : i < 235) : dN (mD i) = (mY i).cls := by
  by_cases e : i = 234
  · subst e; decide +kernel
  · exact dN_ok i (by omega)
/-- a link word of a method, before it runs -/
theorem lk_bef {mi : Nat} {e : Nat × Nat × Nat × Nat} {s : State} {args : Array Value} (hm : mi < 235) (h : (lks (mD mi)).contains e = true) (h8 : e.2.1 < 8) (hts : ∀ w ∈ XU, w.before args s = true) : (lkw (mD mi) e).before args s = true := by
  rcases lk_ok (mD mi) e (by simpa using h) with h1 | ⟨h1, h2⟩
  · exact hts _ h1
  · exact absurd h1 (by omega)
def nstB (w : Cond) : Bool := match w with
  | .fieldLinkNest .. => true
  | .methodLinkNest .. => true
  | _ => false
theorem nst_in : ∀ (c : Nat) (e : Nat × Nat × Nat × Nat), e ∈ lks c → (e.2.1 = 8 ∨ e.2.1 = 9) → lkw c e ∈ NGL := by
  intro c e he h8
  have key : ∀ c, c < 14 → ∀ e ∈ lks c, (e.2.1 = 8 ∨ e.2.1 = 9) → lkw c e ∈ NGL := by
    intro c hc e he h8
    have h1 : lkw c e ∈ XU ∨ (8 ≤ e.2.1 ∧ lkw c e ∈ tables_1) := lk_ok c e he
    have hng : isNG (lkw c e) = true := by
      obtain ⟨i, k, a, b⟩ := e
      rcases h8 with h8 | h8
      · simp only at h8; subst h8; rfl
      · simp only at h8; subst h8; rfl
    have hgw : goodWord (lkw c e) = false := by
      obtain ⟨i, k, a, b⟩ := e
      rcases h8 with h8 | h8
      · simp only at h8; subst h8; rfl
      · simp only at h8; subst h8; rfl
    rcases h1 with h1 | ⟨-, h2⟩
    · have h3 := XU_good h1
      rw [hgw] at h3
      cases h3
    · exact List.mem_filter.mpr ⟨h2, hng⟩
  by_cases hc : c < 14
  · exact key c hc e he h8
  · have : lks c = [] := by
      unfold lks
      simp only [List.getD_eq_getElem?_getD]
      rw [List.getElem?_eq_none (by simp [lkl]; omega)]
      rfl
    rw [this] at he
    cases he
def gfB (mi pc i a b : Nat) : Bool := decide (mi < 235) && decide (decode (mB mi) pc = .ok (.getfield i, 3)) && (lks (mD mi)).contains (i, 0, a, b) && decide (a < 9) && decide (b < (kC a).2.2)
def pfB (mi pc i a b : Nat) : Bool := decide (mi < 235) && decide (decode (mB mi) pc = .ok (.putfield i, 3)) && (lks (mD mi)).contains (i, 0, a, b) && decide (a < 9) && decide (b < (kC a).2.2) && (!((kC a).2.1 b).2.2.2 || (decide ((mY mi).name = "<init>") && decide ((kC a).1 = (mY mi).cls)))
def gsB (mi pc i a n : Nat) : Bool := decide (mi < 235) && decide (decode (mB mi) pc = .ok (.getstatic i, 3)) && (lks (mD mi)).contains (i, n, a, 0) && decide (a < 3) && (decide (n = 1) || decide (n = 8))
theorem tv_narrow {ty : FieldType} {v : Value} {ad : Nat → Nat} (h : narrow ty v = v) : narrow ty (tv ad v) = tv ad v := by
  cases v <;> first | exact h | (cases ty <;> rfl)
theorem tv_fits {ty : FieldType} {v : Value} {ad : Nat → Nat} (h : fits ty v = true) : fits ty (tv ad v) = true := by
  cases v <;> first | exact h | (cases ty <;> first | exact h | rfl)
section HEAP
variable {X : XS} {mi pc : Nat} {lv : List (Nat × Value)} {rest : List Value} {h : AH} {bc bs : Nat} {Q : AO → AH → Prop}
theorem a_getfield {i a b o : Nat} {fs : List Value} {v : Value} (q : gfB mi pc i a b = true) (ho : h[o]? = some (.inl (a, fs))) (hv : fs[b]? = some v) (k : AW X mi (pc + 3) lv (v :: rest) h bc bs Q) : AW X mi pc lv (.ref o :: rest) h bc bs Q := by
  intro n0 p l e R s m args below meth c β D dA ad0 sa Qf C ad H locs cells slots ls ha hn hR hl hc hs
  simp only [gfB, Bool.and_eq_true, decide_eq_true_eq] at q
  obtain ⟨⟨⟨⟨hm, d⟩, hlk⟩, ha9⟩, hb⟩ := q
  obtain ⟨hk1, hk2, -, -, -, -, hk7⟩ := kok a ha9
  have hlink := lk_bef hm hlk (Nat.le_of_ble_eq_true rfl) C.2.2.2.2.1
  refine va_get C.1 C.2.1 C.2.2.2.2.1 hk2 C.2.2.2.1 C.2.2.2.2.2.2.1.1 hR.1 o (cW_get ho) hk1 b hb (by rw [← dN_ok2 mi hm]; exact hlink) (fun x hx => by rw [hk7 b hb] at hx; exact hx) (v := tv ad v) (by rw [List.getElem?_map, hv]; rfl) d ?_
  exact k n0 p l e R s m args below meth c β D dA ad0 sa Qf C ad H locs cells slots ls ha hn hR hl hc hs
theorem a_putfield {i a b o : Nat} {fs : List Value} {v : Value} (q : pfB mi pc i a b = true) (ho : h[o]? = some (.inl (a, fs))) (hnr : narrow (kT a b) v = v) (hft : fits (kT a b) v = true) (hbl : Nat.ble (b + 1) fs.length = true) (k : AW X mi (pc + 3) lv rest (h.set o (.inl (a, fs.set b v))) bc bs Q) : AW X mi pc lv (v :: .ref o :: rest) h bc bs Q := by
  intro n0 p l e R s m args below meth c β D dA ad0 sa Qf C ad H locs cells slots ls ha hn hR hl hc hs
  simp only [pfB, Bool.and_eq_true, decide_eq_true_eq] at q
  obtain ⟨⟨⟨⟨⟨hm, d⟩, hlk⟩, ha9⟩, hb⟩, hfin⟩ := q
  obtain ⟨hk1, hk2, hk3, hk4, -, -, hk7⟩ := kok a ha9
  have hlink := lk_bef hm hlk (Nat.le_of_ble_eq_true rfl) C.2.2.2.2.1
  have hlink' : (Cond.fieldLink (mY mi).cls i (kC a).1 ((kC a).2.1 b).2.1 ((kC a).2.1 b).2.2.1).before args s = true := by rw [← dN_ok2 mi hm]; exact hlink
  have hnr' : narrow (kT a b) (tv ad v) = tv ad v := tv_narrow hnr
  have hft' : fits (kT a b) (tv ad v) = true := tv_fits hft
  have hbl' : b < (fs.map (tv ad)).length := by rw [List.length_map]; exact Nat.le_of_ble_eq_true hbl
  have hw : (cW dA ad h).set o (ad o, .inr (a, (fs.map (tv ad)).set b (tv ad v))) = cW dA ad (h.set o (.inl (a, fs.set b v))) := by
    rw [← cW_set]
    simp [cE, List.map_set]
  cases hf : ((kC a).2.1 b).2.2.2 with
  | false =>
    refine va_put C.1 C.2.1 C.2.2.2.2.1 hk2 (kT a) hk3 hk4 C.2.2.2.1 C.2.2.2.2.2.2.1.1 hR.1 hR.2.1 hR.2.2 o (cW_get ho) hk1 b hb hlink' (fun x hx => by rw [hk7 b hb] at hx; exact hx) hf (hk3 b hb) hnr' hft' hbl' d (fun H1 locs1 hP1 hD1 hS1 => ?_)
    rw [hw] at hP1 hD1
    exact k n0 p l e R s m args below meth c β D dA ad0 sa Qf C ad H1 locs1 cells slots ls ha (by rw [List.length_set]; exact hn) ⟨hP1, hD1, hS1⟩ hl hc hs
  | true =>
    rw [hf] at hfin
    simp only [Bool.not_true, Bool.false_or, Bool.and_eq_true, decide_eq_true_eq] at hfin
    refine va_putF C.1 C.2.1 C.2.2.2.2.1 hk2 (kT a) hk3 hk4 C.2.2.2.1 C.2.2.2.2.2.2.1.1 hR.1 hR.2.1 hR.2.2 o (cW_get ho) hk1 b hb hlink' (fun x hx => by rw [hk7 b hb] at hx; exact hx) hf (C.2.2.2.2.2.2.2.2.1 hfin.1) (by rw [hk7 b hb]; exact hfin.2) (hk3 b hb) hnr' hft' hbl' d (fun H1 locs1 hP1 hD1 hS1 => ?_)
    rw [hw] at hP1 hD1
    exact k n0 p l e R s m args below meth c β D dA ad0 sa Qf C ad H1 locs1 cells slots ls ha (by rw [List.length_set]; exact hn) ⟨hP1, hD1, hS1⟩ hl hc hs
theorem a_getstatic {i a n : Nat} (q : gsB mi pc i a n = true) (k : AW X mi (pc + 3) lv (.ref (1000 + a) :: rest) h bc bs Q) : AW X mi pc lv rest h bc bs Q := by
  intro n0 p l e R s m args below meth c β D dA ad0 sa Qf C ad H locs cells slots ls ha hn hR hl hc hs
  simp only [gsB, Bool.and_eq_true, Bool.or_eq_true, decide_eq_true_eq] at q
  obtain ⟨⟨⟨⟨hm, d⟩, hlk⟩, ha3⟩, hn8⟩ := q
  have hsa : ∃ z, saN[a]? = some z ∧ saN.getD a ("", "", "") = z := ⟨saN.getD a ("", "", ""), by rcases (show a = 0 ∨ a = 1 ∨ a = 2 by omega) with rfl | rfl | rfl <;> rfl, rfl⟩
  obtain ⟨⟨SC, n1, d1⟩, hz1, hz2⟩ := hsa
  have hZ := C.2.2.2.2.2.2.1.2.2.1 a _ hz1
  have hadk : ad (1000 + a) = ad0 (1000 + a) := ha.2 _ (Or.inr (by omega))
  rcases hn8 with rfl | rfl
  · have hlink := lk_bef hm hlk (Nat.le_of_ble_eq_true rfl) C.2.2.2.2.1
    simp only [lkw, hz2] at hlink
    rw [dN_ok2 mi hm] at hlink
    refine va_gets C.1 C.2.1 hZ hR.2.2 C.2.2.2.1 hlink (fun x hx => hx) d ?_
    rw [← hadk]
    exact k n0 p l e R s m args below meth c β D dA ad0 sa Qf C ad H locs cells slots ls ha hn hR hl hc hs
  · have hin := nst_in (mD mi) (i, 8, a, 0) (by simpa using hlk) (Or.inl rfl)
    have hlink := C.2.2.2.2.2.2.1.2.2.2.2.2.2.1 _ hin
    simp only [lkw, hz2] at hlink
    rw [dN_ok2 mi hm] at hlink
    refine va_getsN C.1 C.2.1 hZ hR.2.2 C.2.2.2.1 (va_Nw.use rfl hlink) (fun x hx => hx) d ?_
    rw [← hadk]
    exact k n0 p l e R s m args below meth c β D dA ad0 sa Qf C ad H locs cells slots ls ha hn hR hl hc hs
theorem a_ldc {i : Nat} {z : Nat} {v : Int32} (q : (decide (mi < 235) && decide (decode (mB mi) pc = .ok (.ldc_w i, 3)) && (lks (mD mi)).contains (i, 6, z, 0)) = true) (hv : Int32.ofNat z = v) (k : AW X mi (pc + 3) lv (.int v :: rest) h bc bs Q) : AW X mi pc lv rest h bc bs Q := by
  intro n0 p l e R s m args below meth c β D dA ad0 sa Qf C ad H locs cells slots ls ha hn hR hl hc hs
  simp only [Bool.and_eq_true, decide_eq_true_eq] at q
  obtain ⟨⟨hm, d⟩, hlk⟩ := q
  have hlink := lk_bef hm hlk (Nat.le_of_ble_eq_true rfl) C.2.2.2.2.1
  simp only [lkw] at hlink
  rw [dN_ok2 mi hm, hv] at hlink
  exact lv_ldcw C.1 C.2.1 C.2.2.2.1 hlink d (k n0 p l e R s m args below meth c β D dA ad0 sa Qf C ad H locs cells slots ls ha hn hR hl hc hs)
theorem a_ldc2 {i : Nat} {z : Nat} {v : Int64} (q : (decide (mi < 235) && decide (decode (mB mi) pc = .ok (.ldc2_w i, 3)) && (lks (mD mi)).contains (i, 7, z, 0)) = true) (hv : Int64.ofNat z = v) (k : AW X mi (pc + 3) lv (.long v :: rest) h bc bs Q) : AW X mi pc lv rest h bc bs Q := by
  intro n0 p l e R s m args below meth c β D dA ad0 sa Qf C ad H locs cells slots ls ha hn hR hl hc hs
  simp only [Bool.and_eq_true, decide_eq_true_eq] at q
  obtain ⟨⟨hm, d⟩, hlk⟩ := q
  have hlink := lk_bef hm hlk (Nat.le_of_ble_eq_true rfl) C.2.2.2.2.1
  simp only [lkw] at hlink
  rw [dN_ok2 mi hm, hv] at hlink
  exact lv_ldc2 C.1 C.2.1 C.2.2.2.1 hlink d (k n0 p l e R s m args below meth c β D dA ad0 sa Qf C ad H locs cells slots ls ha hn hR hl hc hs)
theorem a_iald {o n : Nat} {f : Nat → Int32} {i : Int32} (d : decode (mB mi) pc = .ok (.iaload, 1)) (ho : h[o]? = some (.inr (0, n, .inl f))) (hi : vp_in i n) (k : AW X mi (pc + 1) lv (.int (f i.toNatClampNeg) :: rest) h bc bs Q) : AW X mi pc lv (.int i :: .ref o :: rest) h bc bs Q :=
  fun n0 p l e R s m args below meth c β D dA ad0 sa Qf C ad H locs cells slots ls ha hn hR hl hc hs => va_iald C.1 C.2.1 C.2.2.2.2.2.2.1.1 hR.1 o 0 (cW_get ho) rfl hi d (k n0 p l e R s m args below meth c β D dA ad0 sa Qf C ad H locs cells slots ls ha hn hR hl hc hs)
theorem a_iast {o n : Nat} {f : Nat → Int32} {i : Int32} {x : Int32} (d : decode (mB mi) pc = .ok (.iastore, 1)) (ho : h[o]? = some (.inr (0, n, .inl f))) (hi : vp_in i n) (k : AW X mi (pc + 1) lv rest (h.set o (.inr (0, n, .inl (upd f i.toNatClampNeg x)))) bc bs Q) : AW X mi pc lv (.int x :: .int i :: .ref o :: rest) h bc bs Q := by
  intro n0 p l e R s m args below meth c β D dA ad0 sa Qf C ad H locs cells slots ls ha hn hR hl hc hs
  refine va_iast C.1 C.2.1 C.2.2.2.2.2.2.1.1 hR.1 hR.2.1 hR.2.2 o 0 (cW_get ho) rfl hi d (fun H1 locs1 hP1 hD1 hS1 => ?_)
  rw [show (cW dA ad h).set o (ad o, .inl (dA 0, n, .inl (upd f i.toNatClampNeg x))) = cW dA ad (h.set o (.inr (0, n, .inl (upd f i.toNatClampNeg x)))) from cW_set (c := .inr (0, n, .inl (upd f i.toNatClampNeg x)))] at hP1 hD1
  exact k n0 p l e R s m args below meth c β D dA ad0 sa Qf C ad H1 locs1 cells slots ls ha (by rw [List.length_set]; exact hn) ⟨hP1, hD1, hS1⟩ hl hc hs
theorem a_lald {o n : Nat} {f : Nat → Int64} {i : Int32} (d : decode (mB mi) pc = .ok (.laload, 1)) (ho : h[o]? = some (.inr (1, n, .inr (.inl f)))) (hi : vp_in i n) (k : AW X mi (pc + 1) lv (.long (f i.toNatClampNeg) :: rest) h bc bs Q) : AW X mi pc lv (.int i :: .ref o :: rest) h bc bs Q :=
  fun n0 p l e R s m args below meth c β D dA ad0 sa Qf C ad H locs cells slots ls ha hn hR hl hc hs => va_lald C.1 C.2.1 C.2.2.2.2.2.2.1.1 hR.1 o 1 (cW_get ho) rfl hi d (k n0 p l e R s m args below meth c β D dA ad0 sa Qf C ad H locs cells slots ls ha hn hR hl hc hs)
theorem a_last {o n : Nat} {f : Nat → Int64} {i : Int32} {x : Int64} (d : decode (mB mi) pc = .ok (.lastore, 1)) (ho : h[o]? = some (.inr (1, n, .inr (.inl f)))) (hi : vp_in i n) (k : AW X mi (pc + 1) lv rest (h.set o (.inr (1, n, .inr (.inl (vp_updL f i.toNatClampNeg x))))) bc bs Q) : AW X mi pc lv (.long x :: .int i :: .ref o :: rest) h bc bs Q := by
  intro n0 p l e R s m args below meth c β D dA ad0 sa Qf C ad H locs cells slots ls ha hn hR hl hc hs
  refine va_last C.1 C.2.1 C.2.2.2.2.2.2.1.1 hR.1 hR.2.1 hR.2.2 o 1 (cW_get ho) rfl hi d (fun H1 locs1 hP1 hD1 hS1 => ?_)
  rw [show (cW dA ad h).set o (ad o, .inl (dA 1, n, .inr (.inl (vp_updL f i.toNatClampNeg x)))) = cW dA ad (h.set o (.inr (1, n, .inr (.inl (vp_updL f i.toNatClampNeg x))))) from cW_set (c := .inr (1, n, .inr (.inl (vp_updL f i.toNatClampNeg x))))] at hP1 hD1
  exact k n0 p l e R s m args below meth c β D dA ad0 sa Qf C ad H1 locs1 cells slots ls ha (by rw [List.length_set]; exact hn) ⟨hP1, hD1, hS1⟩ hl hc hs
theorem a_dald {o n : Nat} {f : Nat → UInt64} {i : Int32} (d : decode (mB mi) pc = .ok (.daload, 1)) (ho : h[o]? = some (.inr (2, n, .inr (.inr (.inr (.inl f)))))) (hi : vp_in i n) (k : AW X mi (pc + 1) lv (.double (f i.toNatClampNeg) :: rest) h bc bs Q) : AW X mi pc lv (.int i :: .ref o :: rest) h bc bs Q :=
  fun n0 p l e R s m args below meth c β D dA ad0 sa Qf C ad H locs cells slots ls ha hn hR hl hc hs => va_dald C.1 C.2.1 C.2.2.2.2.2.2.1.1 hR.1 o 2 (cW_get ho) rfl hi d (k n0 p l e R s m args below meth c β D dA ad0 sa Qf C ad H locs cells slots ls ha hn hR hl hc hs)
theorem a_dast {o n : Nat} {f : Nat → UInt64} {i : Int32} {x : UInt64} (d : decode (mB mi) pc = .ok (.dastore, 1)) (ho : h[o]? = some (.inr (2, n, .inr (.inr (.inr (.inl f)))))) (hi : vp_in i n) (k : AW X mi (pc + 1) lv rest (h.set o (.inr (2, n, .inr (.inr (.inr (.inl (vf_upd f i.toNatClampNeg x))))))) bc bs Q) : AW X mi pc lv (.double x :: .int i :: .ref o :: rest) h bc bs Q := by
  intro n0 p l e R s m args below meth c β D dA ad0 sa Qf C ad H locs cells slots ls ha hn hR hl hc hs
  refine va_dast C.1 C.2.1 C.2.2.2.2.2.2.1.1 hR.1 hR.2.1 hR.2.2 o 2 (cW_get ho) rfl hi d (fun H1 locs1 hP1 hD1 hS1 => ?_)
  rw [show (cW dA ad h).set o (ad o, .inl (dA 2, n, .inr (.inr (.inr (.inl (vf_upd f i.toNatClampNeg x)))))) = cW dA ad (h.set o (.inr (2, n, .inr (.inr (.inr (.inl (vf_upd f i.toNatClampNeg x))))))) from cW_set (c := .inr (2, n, .inr (.inr (.inr (.inl (vf_upd f i.toNatClampNeg x))))))] at hP1 hD1
  exact k n0 p l e R s m args below meth c β D dA ad0 sa Qf C ad H1 locs1 cells slots ls ha (by rw [List.length_set]; exact hn) ⟨hP1, hD1, hS1⟩ hl hc hs
theorem a_zald {o n : Nat} {f : Nat → Int32} {i : Int32} (d : decode (mB mi) pc = .ok (.baload, 1)) (ho : h[o]? = some (.inr (3, n, .inl f))) (hi : vp_in i n) (k : AW X mi (pc + 1) lv (.int (f i.toNatClampNeg) :: rest) h bc bs Q) : AW X mi pc lv (.int i :: .ref o :: rest) h bc bs Q :=
  fun n0 p l e R s m args below meth c β D dA ad0 sa Qf C ad H locs cells slots ls ha hn hR hl hc hs => va_zald C.1 C.2.1 C.2.2.2.2.2.2.1.1 hR.1 o 3 (cW_get ho) rfl hi d (k n0 p l e R s m args below meth c β D dA ad0 sa Qf C ad H locs cells slots ls ha hn hR hl hc hs)
theorem a_zast {o n : Nat} {f : Nat → Int32} {i : Int32} {x : Int32} (d : decode (mB mi) pc = .ok (.bastore, 1)) (ho : h[o]? = some (.inr (3, n, .inl f))) (hi : vp_in i n) (k : AW X mi (pc + 1) lv rest (h.set o (.inr (3, n, .inl (upd f i.toNatClampNeg (vp_nar .boolean x))))) bc bs Q) : AW X mi pc lv (.int x :: .int i :: .ref o :: rest) h bc bs Q := by
  intro n0 p l e R s m args below meth c β D dA ad0 sa Qf C ad H locs cells slots ls ha hn hR hl hc hs
  refine va_zast C.1 C.2.1 C.2.2.2.2.2.2.1.1 hR.1 hR.2.1 hR.2.2 o 3 (cW_get ho) rfl hi d (fun H1 locs1 hP1 hD1 hS1 => ?_)
  rw [show (cW dA ad h).set o (ad o, .inl (dA 3, n, .inl (upd f i.toNatClampNeg (vp_nar .boolean x)))) = cW dA ad (h.set o (.inr (3, n, .inl (upd f i.toNatClampNeg (vp_nar .boolean x))))) from cW_set (c := .inr (3, n, .inl (upd f i.toNatClampNeg (vp_nar .boolean x))))] at hP1 hD1
  exact k n0 p l e R s m args below meth c β D dA ad0 sa Qf C ad H1 locs1 cells slots ls ha (by rw [List.length_set]; exact hn) ⟨hP1, hD1, hS1⟩ hl hc hs
theorem a_alen {o t : Nat} {x : vp_A} {v : Int32} (d : decode (mB mi) pc = .ok (.arraylength, 1)) (ho : h[o]? = some (.inr (t, x))) (ht : t < 5) (hv : Int32.ofNat x.1 = v) (k : AW X mi (pc + 1) lv (.int v :: rest) h bc bs Q) : AW X mi pc lv (.ref o :: rest) h bc bs Q := by
  intro n0 p l e R s m args below meth c β D dA ad0 sa Qf C ad H locs cells slots ls ha hn hR hl hc hs
  refine va_alen C.1 C.2.1 C.2.2.2.2.2.2.1.1 hR.1 o t (cW_get ho) (ty := aty t) (by rcases (show t = 0 ∨ t = 1 ∨ t = 2 ∨ t = 3 ∨ t = 4 by omega) with rfl | rfl | rfl | rfl | rfl <;> rfl) hv d ?_
  exact k n0 p l e R s m args below meth c β D dA ad0 sa Qf C ad H locs cells slots ls ha hn hR hl hc hs
/-- the static arrays and the script -/
theorem a_iald_ro {o j : Nat} {i : Int32} (d : decode (mB mi) pc = .ok (.iaload, 1)) (ho : o = 1000 + j) (hj : j = 1 ∨ j = 2 ∨ j = 3) (hi : vp_in i (roT X j).2.1) (k : AW X mi (pc + 1) lv (.int ((roT X j).2.2 i.toNatClampNeg) :: rest) h bc bs Q) : AW X mi pc lv (.int i :: .ref o :: rest) h bc bs Q := by
  intro n0 p l e R s m args below meth c β D dA ad0 sa Qf C ad H locs cells slots ls ha hn hR hl hc hs
  subst ho
  have hT := C.2.2.2.2.2.2.1.2.1 j (by omega)
  rw [← ha.2 _ (Or.inr (by omega) : 1000 + j < n0 ∨ 1000 ≤ 1000 + j)] at hT
  have hty : (roT X j).1 = .int := by rcases hj with rfl | rfl | rfl <;> rfl
  rw [hty] at hT
  refine va_ti C.1 C.2.1 hT hR.2.2 hi rfl d ?_
  exact k n0 p l e R s m args below meth c β D dA ad0 sa Qf C ad H locs cells slots ls ha hn hR hl hc hs
theorem a_cald_ro {i : Int32} (d : decode (mB mi) pc = .ok (.caload, 1)) (hi : vp_in i 3) (k : AW X mi (pc + 1) lv (.int (ro_m i.toNatClampNeg) :: rest) h bc bs Q) : AW X mi pc lv (.int i :: .ref 1000 :: rest) h bc bs Q := by
  intro n0 p l e R s m args below meth c β D dA ad0 sa Qf C ad H locs cells slots ls ha hn hR hl hc hs
  have hT := C.2.2.2.2.2.2.1.2.1 0 (by omega)
  rw [← ha.2 _ (Or.inr (by omega) : 1000 + 0 < n0 ∨ 1000 ≤ 1000 + 0)] at hT
  refine va_tc C.1 C.2.1 hT hR.2.2 hi rfl d ?_
  exact k n0 p l e R s m args below meth c β D dA ad0 sa Qf C ad H locs cells slots ls ha hn hR hl hc hs
theorem a_alen_ro {o j : Nat} {v : Int32} (d : decode (mB mi) pc = .ok (.arraylength, 1)) (ho : o = 1000 + j) (hj : j < 4) (hv : Int32.ofNat (roT X j).2.1 = v) (k : AW X mi (pc + 1) lv (.int v :: rest) h bc bs Q) : AW X mi pc lv (.ref o :: rest) h bc bs Q := by
  intro n0 p l e R s m args below meth c β D dA ad0 sa Qf C ad H locs cells slots ls ha hn hR hl hc hs
  subst ho
  have hT := C.2.2.2.2.2.2.1.2.1 j hj
  rw [← ha.2 _ (Or.inr (by omega) : 1000 + j < n0 ∨ 1000 ≤ 1000 + j)] at hT
  refine va_tlen C.1 C.2.1 hT hR.2.2 hv d ?_
  exact k n0 p l e R s m args below meth c β D dA ad0 sa Qf C ad H locs cells slots ls ha hn hR hl hc hs
end HEAP
end
section
/-! ===== BEGIN a constructor that throws (launches without stack traces) ===== -/
section VXIA
variable {p : Program} {l : Launch} {e : Env} {R : Room} {s : State} {m : MethodId} {args : Array Value} {below : List Frame} {meth : Method} {c : Code} {T : State} {locs : List Loc} {cells slots : Nat}
theorem vx_callI (X : Stand p l e R s m args below meth c T locs cells slots) (hexec : p.tables.exec = Jvm.exec) {own : String} {index : Nat} {y : MethodName} {bytes : ByteArray} {maxL : Nat}
    (hown : s.vm.findClass own = some m.cls) (hy1 : y.name = "<init>") (hlink : (Cond.methodLink own index y).before args s = true) (hinst : (Cond.instanceMethod y).before args s = true)
    (hcode : (Cond.code y bytes maxL none).before args s = true) (hy : y.cls ≠ "java/lang/invoke/MethodHandle" ∧ y.cls ≠ "java/lang/invoke/VarHandle")
    {W9 : Nat} {Pre : Pt → Array Value → Prop} {Post : Pt → Array Value → Option Value → Pt → Prop} {PostX : Pt → Array Value → Addr → Pt → Prop} (hK : vx_Back l R p e below s args y 3 W9 Pre Post PostX)
    {g : JFrame} (hg : g.method = m) (hsize : g.locals.size = c.maxLocals) {a : Addr} {argsL rest : List Value} (hlen : ∀ sig, parseMethodDescriptor y.desc = some sig → argsL.length = sig.parameters.length)
    (hstack : g.stack = argsL.reverse ++ .ref a :: rest) (hW : 2 * g.monitorRoom + (rest.map fun v => v.category).sum ≤ W9) (hdg : decode c.code g.pc = .ok (.invokespecial index, 3))
    (hpre : ∀ vm₁, s.WarmedH vm₁ → Pre ⟨T.setVm vm₁, locs, cells, slots⟩ (Value.ref a :: argsL).toArray) :
    (∃ (v : Option Value) (vm₁ : Vm) (B : Pt), s.WarmedH vm₁ ∧ Stand p l e R s m args below meth c B.U B.locs B.cells B.slots ∧ Post ⟨T.setVm vm₁, locs, cells, slots⟩ (Value.ref a :: argsL).toArray v B ∧
      ∀ target, Steps p.tables e below (B.U.setTop { g with pc := g.pc + 3, stack := v.toList ++ rest }) target → Steps p.tables e below (T.setTop g) target) ∨
    (∃ (q : Addr) (vm₁ : Vm) (B : Pt), s.WarmedH vm₁ ∧ Stand p l e R s m args below meth c B.U B.locs B.cells B.slots ∧ PostX ⟨T.setVm vm₁, locs, cells, slots⟩ (Value.ref a :: argsL).toArray q B ∧
      Steps p.tables e below (T.setTop g) ((B.U.setTop { g with stack := rest }).pushFrame (.throwing q))) := by
  subst hg
  have hpl : e.platform.magicAccessors = ({} : Platform).magicAccessors := by rw [X.admits.platform]
  obtain ⟨mk, methM, cM, kP, vm₁, hnamed, hmethM, hcodeM, -, hlocalsM, -, hkP, -, hW₁, hstep₁⟩ := Steps.initColdArgs (e := e) X.here hexec X.warmed hpl hown hy1 hy hlink hinst hcode (f := g) rfl hlen hstack hdg
  have X₁ := X.noted hW₁
  rcases hK g.method meth c ⟨T.setVm vm₁, locs, cells, slots⟩ { g with stack := rest } (.invokespecial index) mk (Value.ref a :: argsL).toArray X₁ rfl hsize hdg hW (X₁.named hnamed) (hpre vm₁ X₁.warmed) with ⟨v, B, X', hpost, hsteps⟩ | ⟨q, B, X', hpost, hsteps⟩
  · exact Or.inl ⟨v, vm₁, B, X₁.warmed, X', hpost, fun target h => hstep₁ _ fun acts => by rw [doInvoke_state]; exact hsteps.trans h⟩
  · exact Or.inr ⟨q, vm₁, B, X₁.warmed, X', hpost, hstep₁ _ fun acts => by rw [doInvoke_state]; exact hsteps⟩
end VXIA
section VXIB
variable {p : Program} {l : Launch} {e : Env} {R : Room} {s : State} {m : MethodId} {args : Array Value} {below : List Frame} {meth : Method} {c : Code} {H : Heap} {locs : List Loc} {cells slots : Nat}
variable {y : MethodName} {bytes cc : ByteArray} {maxL nL mc ms n index : Nat} {ret : Option FieldType} {ws : List Cond} {rm : Room} {Pc : Array Value → State → Prop} {Qc : Array Value → State → Outcome → State → Prop} {XC : String → State → State → Prop} {free : Addr → Prop} {Ts : List Cond} {own C : String} {b : Addr} {As rest : List Value} {g : JFrame}
theorem vx_runI (S : CallFix p m c cc nL s args Ts own) (hM : vx_Met l y ws rm Pc Qc XC mc ms free) (cw : CallB R s args own index y bytes maxL none ws rm mc ms n ∧ y.name = "<init>" ∧ (Cond.instanceMethod y).before args s = true) (hp : PreS s H Pc (.ref b :: As))
    (hg : g.method = m) (hn : As.length = n) (hsize : g.locals.size = nL) (hstack : g.stack = As.reverse ++ .ref b :: rest) (hW : 2 * g.monitorRoom + (rest.map fun v => v.category).sum ≤ 8) (hdg : decode cc g.pc = .ok (.invokespecial index, 3)) (hf : cells + mc ≤ R.cells ∧ slots + ms ≤ R.slots) :
    vx_Run p l e R s m args below meth c H locs cells slots mc ms g rest (Qc (Value.ref b :: As).toArray) XC free := by
  have hK : vx_Back l R p e below s args y 3 8 (PreOf R mc ms Pc) (PostOf Qc mc ms free) (vx_Post XC mc ms free) := vx_callBack cw.1 hM hp.1
  obtain ⟨⟨-, -, -, -, -, -, hcode, -, hy, hlen, hl⟩, hy1, hin⟩ := cw
  obtain ⟨hx, hb, hml, ho, -⟩ := S
  have hPc := hp.2
  intro T hT X
  rcases vx_callI X hx (bytes := bytes) (maxL := maxL) ho hy1 hl hin hcode hy hK hg (hsize.trans hml.symm) (a := b) (argsL := As) (rest := rest) (fun sig h => hn.trans (hlen sig h)) hstack hW (by rw [hb]; exact hdg)
    (fun vm₁ hW₁ => ⟨hf.1, hf.2, hPc (T.setVm vm₁) hT hW₁⟩) with ⟨v, vm₁, ⟨U', l2, c2, s2⟩, hW₁, X', ⟨g', mk, t, L, e1, e2, hq, h1, hL, h2, h3⟩, st⟩ | ⟨q, vm₁, ⟨U', l2, c2, s2⟩, hW₁, X', ⟨g', mk, t, L, E, ce, e1, e2, hq, hce, hcv, hcl, h1, hL, h2, h3⟩, st⟩
  · dsimp only [Pt.U, Pt.locs, Pt.cells, Pt.slots] at X' e1 e2 h1 h2 h3 st
    subst h1; subst h2; subst h3
    exact Or.inl ⟨v, (T.setVm vm₁).calling g' mk (Value.ref b :: As).toArray, t, U', L, hT, X', hL, e1, e2, hq, st⟩
  · dsimp only [Pt.U, Pt.locs, Pt.cells, Pt.slots] at X' e1 e2 h1 h2 h3 st hcl
    subst h1; subst h2; subst h3
    exact Or.inr ⟨q, (T.setVm vm₁).calling g' mk (Value.ref b :: As).toArray, t, U', L, E, ce, hT, X', hL, e1, e2, hq, hce, hcv, vx_cls hW₁ hcl, st⟩
end VXIB
/-! ===== END ===== -/
/-! calls, and a method's contract out of its walk -/
def wfv (n : Nat) (v : Value) : Bool := match v with
  | .ref k => Nat.ble (k + 1) n || Nat.ble 1000 k
  | _ => true
theorem wfv_tv {n : Nat} {v : Value} {ad ad' : Nat → Nat} (h : wfv n v = true) (e : ∀ k, (k < n ∨ 1000 ≤ k) → ad' k = ad k) : tv ad' v = tv ad v := by
  cases v with
  | ref k =>
    simp only [wfv, Bool.or_eq_true] at h
    show Value.ref (ad' k) = Value.ref (ad k)
    rw [e k]
    rcases h with h | h
    · exact Or.inl (Nat.le_of_ble_eq_true h)
    · exact Or.inr (Nat.le_of_ble_eq_true h)
  | _ => rfl
theorem wfl_tl {n : Nat} {lv : List (Nat × Value)} {ad ad' : Nat → Nat} (h : lv.all (fun q => wfv n q.2) = true) (e : ∀ k, (k < n ∨ 1000 ≤ k) → ad' k = ad k) : tl ad' lv = tl ad lv := by
  refine List.map_congr_left (fun q hq => ?_)
  rw [wfv_tv (List.all_eq_true.mp h q hq) e]
theorem wfs_tv {n : Nat} {st : List Value} {ad ad' : Nat → Nat} (h : st.all (wfv n) = true) (e : ∀ k, (k < n ∨ 1000 ≤ k) → ad' k = ad k) : st.map (tv ad') = st.map (tv ad) :=
  List.map_congr_left (fun q hq => wfv_tv (List.all_eq_true.mp h q hq) e)
def wfc (n : Nat) (c : AC) : Bool := match c with
  | .inl o => o.2.all (wfv n)
  | .inr _ => true
theorem wfc_cE {n : Nat} {c : AC} {dA : Nat → ClassId} {ad ad' : Nat → Nat} (h : wfc n c = true) (e : ∀ k, (k < n ∨ 1000 ≤ k) → ad' k = ad k) : cE dA ad' c = cE dA ad c := by
  cases c with
  | inl o => simp only [cE]; rw [wfs_tv h e]
  | inr a => rfl
theorem wfh_cW {h : AH} {dA : Nat → ClassId} {ad ad' : Nat → Nat} (hw : h.all (wfc h.length) = true) (e : ∀ k, (k < h.length ∨ 1000 ≤ k) → ad' k = ad k) : cW dA ad' h = cW dA ad h := by
  apply List.ext_getElem?
  intro i
  simp only [cW, List.getElem?_mapIdx]
  cases hi : h[i]? with
  | none => rfl
  | some c =>
    have hl : i < h.length := (List.getElem?_eq_some_iff.mp hi).1
    simp only [Option.map_some]
    rw [e i (Or.inl hl), wfc_cE (List.all_eq_true.mp hw c (List.mem_of_getElem? hi)) e]
def CK (X : XS) (mi pc : Nat) (lv : List (Nat × Value)) (rest : List Value) (bc bs : Nat) (Q : AO → AH → Prop) (o : AO) (h : AH) : Prop := match o with
  | .inl none => AW X mi (pc + 3) lv rest h bc bs Q
  | .inl (some v) => AW X mi (pc + 3) lv (v :: rest) h bc bs Q
  | .inr en => mH mi = [] ∧ Q (.inr en) h
theorem mW_code {mj : Nat} (h : mH mj = []) : mW mj = .code (mY mj) (mB mj) (mL mj) (mR mj) := by unfold mW; rw [if_pos h]
theorem mW_with {mj : Nat} (h : ¬ mH mj = []) : mW mj = .codeWith (mY mj) (mB mj) (mL mj) (mR mj) (mH mj) := by unfold mW; rw [if_neg h]
theorem mW_good {mj : Nat} (hj : mj < 234) : GoodIn XU (mW mj :: XU) := GoodIn_XU fun w hw => by
  rcases List.mem_cons.mp hw with rfl | hw
  · exact (yw mj hj).2.1
  · exact hw
theorem CP_blind {X : XS} {β : Nat} {D : va_G} {dA : Nat → ClassId} {ad sa : Nat → Nat} {h : AH} {as : List Value} : FrameBlind (va_Pc as (CP X β D dA ad sa h)) := by
  intro a U g mk q
  obtain ⟨e, hsw, hb, hP, hD⟩ := q
  exact ⟨e, SW.warm (u := U) (U := U.calling g mk a) hsw (State.WarmedH.refl U) (fun _ _ _ => rfl), hb, hP, hD⟩
section RUN
variable {X : XS} {mi mj pc : Nat} {lv : List (Nat × Value)} {rest : List Value} {h : AH} {bc bs : Nat} {Q : AO → AH → Prop} {n0 : Nat} {p : Program} {l : Launch} {e : Env} {R : Room} {s : State} {m : MethodId} {args : Array Value} {below : List Frame} {meth : Method} {c : Code} {β : Nat} {D : va_G} {dA : Nat → ClassId} {ad0 sa : Nat → Nat} {Qf : State → Prop}
theorem CP_at (C : Cx X mi Q n0 p l e R s m args below meth c β D dA ad0 sa Qf) {ad : Nat → Nat} {H : Heap} {locs : List Loc} (ha : adOk mi n0 ad0 ad) (hR : HR D dA β ad h s.heap H locs) (U : State) (hU : U.heap = H) (hW : s.WarmedH U.vm) : CP X β D dA ad sa h U :=
  ⟨by rw [hU]; exact ((C.2.2.2.2.2.2.1.warm hW (fun a h1 h2 => hR.2.2.2.1 a h1 h2)).ad (fun k hk => ha.2 k (Or.inr hk))), by rw [hU]; exact Nat.le_trans C.2.2.2.2.2.2.2.1 hR.2.2.1, by rw [hU]; exact hR.1, hR.2.1⟩
/-- behind a call -/
theorem run_go (C : Cx X mi Q n0 p l e R s m args below meth c β D dA ad0 sa Qf) {ad : Nat → Nat} {H : Heap} {locs : List Loc} {cells slots : Nat} {ls : Array Slot} {st0 : List Value} {a : Array Value} (ha : adOk mi n0 ad0 ad) (hn : n0 ≤ h.length) (hR : HR D dA β ad h s.heap H locs) (hl : lv_has ls (mL mi) (tl ad lv)) (hc : cells + bc ≤ R.cells) (hs : slots + bs ≤ R.slots) (hb : mC mj ≤ bc ∧ mS mj ≤ bs)
    (hA : mA mj = 0 ∨ (mA mi = 1 ∧ lv.all (fun q => wfv h.length q.2) = true ∧ rest.all (wfv h.length) = true))
    (hr : vx_Run p l e R s m args below meth c H locs cells slots (mC mj) (mS mj) (F0 m pc ls st0) (rest.map (tv ad)) (CQ mj h.length β D dA ad (CK X mi pc lv rest (bc - mC mj) (bs - mS mj) Q) a) (CX mj h.length β D dA ad (CK X mi pc lv rest (bc - mC mj) (bs - mS mj) Q)) (fun q : Nat => β ≤ q)) :
    W p l e R s m args below meth c H locs cells slots Qf (F0 m pc ls st0) := by
  intro T hT Y
  have key : ∀ (ad' : Nat → Nat), adOk mj h.length ad ad' → ∀ (h' : AH), h.length ≤ h'.length → adOk mi n0 ad0 ad' ∧ n0 ≤ h'.length ∧ tl ad' lv = tl ad lv ∧ rest.map (tv ad') = rest.map (tv ad) := by
    intro ad' hk h' hlen
    rcases hA with hA | ⟨h1, h2, h3⟩
    · have e := hk.1 hA
      subst e
      exact ⟨ha, Nat.le_trans hn hlen, rfl, rfl⟩
    · exact ⟨⟨fun z => absurd (h1.symm.trans z) (by decide), fun k hk' => (hk.2 k (hk'.imp (fun y => Nat.lt_of_lt_of_le y hn) id)).trans (ha.2 k hk')⟩, Nat.le_trans hn hlen, wfl_tl h2 hk.2, wfs_tv h3 hk.2⟩
  rcases hr T hT Y with ⟨v, st₀, t, T', L, h0, Y', hL, e1, e2, ⟨⟨v', h', ad', hv, hQ, hadk, hlen', hP', hD'⟩, hF⟩, st⟩ | ⟨q, st₀, t, T', L, E, ce, h0, Y', hL, e1, e2, ⟨⟨en, h', ad', hE, hQ, hadk, hlen', hP', hD'⟩, hF⟩, hce, hcv, hcl, st⟩
  · obtain ⟨k1, k2, k3⟩ := vx_keep h0 e1 hR.2.2 (fun _ _ z => z) (fun _ z => z) hL hF
    obtain ⟨g1, g2, g3, g4⟩ := key ad' hadk h' hlen'
    have hR' : HR D dA β ad' h' s.heap T'.heap (locs ++ L) := ⟨by rw [e1]; exact hP', hD', k3⟩
    cases v' with
    | none =>
      cases hv
      have k : AW X mi (pc + 3) lv rest h' (bc - mC mj) (bs - mS mj) Q := hQ
      obtain ⟨t2, a1, b1⟩ := k n0 p l e R s m args below meth c β D dA ad0 sa Qf C ad' T'.heap (locs ++ L) (cells + mC mj) (slots + mS mj) ls g1 g2 hR' (by rw [g3]; exact hl) (by omega) (by omega) T' rfl Y'
      rw [g4] at a1
      exact ⟨t2, st t2 a1, b1⟩
    | some v1 =>
      cases hv
      have k : AW X mi (pc + 3) lv (v1 :: rest) h' (bc - mC mj) (bs - mS mj) Q := hQ
      obtain ⟨t2, a1, b1⟩ := k n0 p l e R s m args below meth c β D dA ad0 sa Qf C ad' T'.heap (locs ++ L) (cells + mC mj) (slots + mS mj) ls g1 g2 hR' (by rw [g3]; exact hl) (by omega) (by omega) T' rfl Y'
      rw [List.map_cons, g4] at a1
      exact ⟨t2, st t2 a1, b1⟩
  · obtain ⟨k1, k2, k3⟩ := vx_keep h0 e1 hR.2.2 (fun _ _ z => z) (fun _ z => z) hL hF
    obtain ⟨g1, g2, g3, g4⟩ := key ad' hadk h' hlen'
    obtain ⟨hmH, hQ⟩ : mH mi = [] ∧ Q (.inr en) h' := hQ
    obtain ⟨t2, a1, b1⟩ := C.2.2.2.2.2.2.2.2.2.2.2.2.1 en h' ad' T'.heap (locs ++ L) (cells + mC mj) (slots + mS mj) pc ls (rest.map (tv ad)) q ce hQ hmH g1 g2 ⟨by rw [e1]; exact hP', hD', k3⟩ (by omega) (by omega) (by rw [e1]; exact hce) hcv (by rw [← hE]; exact hcl) T' rfl Y'
    exact ⟨t2, st.trans a1, b1⟩
end RUN
def cfB (mi pc i mj k nest n : Nat) : Bool := decide (mi < 235) && decide (mj < 234) && decide (decode (mB mi) pc = .ok ((if k = 0 then .invokestatic i else if k = 1 then .invokevirtual i else .invokespecial i), 3)) && (lks (mD mi)).contains (i, nest, mj, 0) && decide (mK mj = k) && decide (mN mj = n) && decide (mV mj + 1 ≤ mV mi) && decide (mH mj = []) && decide (nest = 4 ∨ (nest = 9 ∧ k = 0))
theorem room_ok {R : Room} {mi mj : Nat} (hj : mj < 234) (hv : mV mj + 1 ≤ mV mi) (hR : mV mi ≤ R.frames ∧ 64 * mV mi ≤ R.locals) : (mRm mj).frames + 1 ≤ R.frames ∧ 8 + (mL mj + 11) + (mRm mj).locals ≤ R.locals := by
  have h1 := (yw mj hj).1
  simp only [yb, Bool.and_eq_true, decide_eq_true_eq] at h1
  have h2 : mL mj + 19 ≤ 64 := h1.1.2
  simp only [mRm]
  omega
theorem desc_ok {mj n : Nat} (hj : mj < 234) (hn : mN mj = n) : (mY mj).cls ≠ "java/lang/invoke/MethodHandle" ∧ (mY mj).cls ≠ "java/lang/invoke/VarHandle" ∧ (parseMethodDescriptor (mY mj).desc).map (fun d => d.parameters.length) = some n := by
  have h1 := (yw mj hj).1
  simp only [yb, Bool.and_eq_true, decide_eq_true_eq] at h1
  rw [← hn]
  exact ⟨h1.1.1.1.1.1.2, h1.1.1.1.1.2, h1.1.1.1.2⟩
section CALLS
variable {X : XS} {mi mj pc i n : Nat} {lv : List (Nat × Value)} {rest : List Value} {h : AH} {bc bs : Nat} {Q : AO → AH → Prop} {as : List Value}
theorem a_callS {nest : Nat} (q : cfB mi pc i mj 0 nest n = true) (hn' : as.length = n) (hw : Nat.ble (rest.map fun v => v.category).sum 8 = true) (hb : Nat.ble (mC mj) bc = true ∧ Nat.ble (mS mj) bs = true)
    (hA : mA mj = 0 ∨ (mA mi = 1 ∧ lv.all (fun q => wfv h.length q.2) = true ∧ rest.all (wfv h.length) = true))
    (k : Call X mj as h (CK X mi pc lv rest (bc - mC mj) (bs - mS mj) Q)) : AW X mi pc lv (as.reverse ++ rest) h bc bs Q := by
  intro n0 p l e R s m args below meth c β D dA ad0 sa Qf C ad H locs cells slots ls ha hn hR hl hc hs
  simp only [cfB, Bool.and_eq_true, decide_eq_true_eq] at q
  obtain ⟨⟨⟨⟨⟨⟨⟨⟨hm, hj⟩, d⟩, hlk⟩, hkd⟩, hnn⟩, hv⟩, hH⟩, hne⟩ := q
  have hts := C.2.2.2.2.1
  obtain ⟨-, hy2, hy3, hy4⟩ := yw mj hj
  have hstt : (Cond.static (mY mj)).before args s = true := by
    unfold yw_k at hy4
    rw [hkd] at hy4
    exact hts _ hy4
  have hrm := room_ok (R := R) hj hv C.2.2.2.2.2.2.2.2.2.1
  have hM := k l β D dA ad sa C.2.2.2.2.2.1
  have hstk : List.map (tv ad) (as.reverse ++ rest) = (as.map (tv ad)).reverse ++ rest.map (tv ad) := by rw [List.map_append, List.map_reverse]
  rw [hstk]
  refine run_go C ha hn hR hl hc hs ⟨Nat.le_of_ble_eq_true hb.1, Nat.le_of_ble_eq_true hb.2⟩ hA (a := (as.map (tv ad)).toArray) ?_
  have hp : PreS s H (va_Pc (as.map (tv ad)) (CP X β D dA ad sa h)) (as.map (tv ad)) := ⟨CP_blind, fun U hU hW => ⟨rfl, CP_at C ha hR U hU hW⟩⟩
  have hrest : ((rest.map (tv ad)).map fun v => v.category).sum ≤ 8 := by
    rw [List.map_map]
    have := Nat.le_of_ble_eq_true hw
    simpa [Function.comp_def, tv_cat] using this
  have hf : cells + mC mj ≤ R.cells ∧ slots + mS mj ≤ R.slots := ⟨by have := Nat.le_of_ble_eq_true hb.1; omega, by have := Nat.le_of_ble_eq_true hb.2; omega⟩
  rcases hne with rfl | ⟨rfl, -⟩
  · have hlink := lk_bef hm hlk (Nat.le_of_ble_eq_true rfl) hts
    simp only [lkw] at hlink
    rw [dN_ok2 mi hm] at hlink
    exact vx_runS ⟨C.1, C.2.1, C.2.2.1, C.2.2.2.1, hts⟩ hM ⟨callB_of n hts (mW_good hj) (by rw [mW_code hH]) rfl rfl (hts _ hy3) hlink (desc_ok hj hnn) hrm, hstt⟩ hp rfl (by rw [List.length_map]; exact hn') hl.1 rfl (lv_room hrest) d hf
  · have hin := nst_in (mD mi) (i, 9, mj, 0) (by simpa using hlk) (Or.inr rfl)
    have hlink := C.2.2.2.2.2.2.1.2.2.2.2.2.2.1 _ hin
    simp only [lkw] at hlink
    rw [dN_ok2 mi hm] at hlink
    exact vx_runSN ⟨C.1, C.2.1, C.2.2.1, C.2.2.2.1, hts⟩ hM ⟨va_cnB n hts (mW_good hj) (by rw [mW_code hH]) rfl rfl hlink (hts _ hy3) (desc_ok hj hnn) hrm, hstt, trivial⟩ hp rfl (by rw [List.length_map]; exact hn') hl.1 rfl (lv_room hrest) d hf
theorem a_callV {o : Nat} {fs : List Value} (q : cfB mi pc i mj 1 4 n = true) (hn' : as.length = n) (ho : h[o]? = some (.inl (mO mj, fs))) (hw : Nat.ble (rest.map fun v => v.category).sum 8 = true) (hb : Nat.ble (mC mj) bc = true ∧ Nat.ble (mS mj) bs = true)
    (hA : mA mj = 0 ∨ (mA mi = 1 ∧ lv.all (fun q => wfv h.length q.2) = true ∧ rest.all (wfv h.length) = true))
    (k : Call X mj (.ref o :: as) h (CK X mi pc lv rest (bc - mC mj) (bs - mS mj) Q)) : AW X mi pc lv (as.reverse ++ .ref o :: rest) h bc bs Q := by
  intro n0 p l e R s m args below meth c β D dA ad0 sa Qf C ad H locs cells slots ls ha hn hR hl hc hs
  simp only [cfB, Bool.and_eq_true, decide_eq_true_eq] at q
  obtain ⟨⟨⟨⟨⟨⟨⟨⟨hm, hj⟩, d⟩, hlk⟩, hkd⟩, hnn⟩, hv⟩, hH⟩, hne⟩ := q
  have hts := C.2.2.2.2.1
  obtain ⟨-, hy2, hy3, hy4⟩ := yw mj hj
  have hy5 : Cond.instanceMethod (mY mj) ∈ XU ∧ Cond.selects (mY mj).cls (mY mj) (mY mj) ∈ XU ∧ (kC (mO mj)).1 = (mY mj).cls ∧ mO mj < 9 := by
    unfold yw_k at hy4
    rw [hkd] at hy4
    exact hy4
  obtain ⟨hi1, hi2, hi3, hi4⟩ := hy5
  have hrm := room_ok (R := R) hj hv C.2.2.2.2.2.2.2.2.2.1
  have hM := k l β D dA ad sa C.2.2.2.2.2.1
  have hstk : List.map (tv ad) (as.reverse ++ .ref o :: rest) = (as.map (tv ad)).reverse ++ .ref (ad o) :: rest.map (tv ad) := by rw [List.map_append, List.map_reverse, List.map_cons]; rfl
  rw [hstk]
  refine run_go C ha hn hR hl hc hs ⟨Nat.le_of_ble_eq_true hb.1, Nat.le_of_ble_eq_true hb.2⟩ hA (a := (Value.ref (ad o) :: as.map (tv ad)).toArray) ?_
  have hrv := va_recv C.2.2.2.2.2.2.1.1 hR.1 (kok (mO mj) hi4).1 (cW_get ho)
  rw [hi3] at hrv
  have hp : PreV s H (mY mj).cls (ad o) (va_Pc ((Value.ref o :: as).map (tv ad)) (CP X β D dA ad sa h)) (as.map (tv ad)) := ⟨CP_blind, hrv, fun U hU hW => ⟨rfl, CP_at C ha hR U hU hW⟩⟩
  have hrest : ((rest.map (tv ad)).map fun v => v.category).sum ≤ 8 := by
    rw [List.map_map]
    have := Nat.le_of_ble_eq_true hw
    simpa [Function.comp_def, tv_cat] using this
  have hf : cells + mC mj ≤ R.cells ∧ slots + mS mj ≤ R.slots := ⟨by have := Nat.le_of_ble_eq_true hb.1; omega, by have := Nat.le_of_ble_eq_true hb.2; omega⟩
  have hlink := lk_bef hm hlk (Nat.le_of_ble_eq_true rfl) hts
  simp only [lkw] at hlink
  rw [dN_ok2 mi hm] at hlink
  exact vx_runV ⟨C.1, C.2.1, C.2.2.1, C.2.2.2.1, hts⟩ hM ⟨callB_of n hts (mW_good hj) (by rw [mW_code hH]) rfl rfl (hts _ hy3) hlink (desc_ok hj hnn) hrm, hts _ hi1, hts _ hi2⟩ hp rfl (by rw [List.length_map]; exact hn') hl.1 rfl (lv_room hrest) d hf
theorem a_callI {o : Nat} (q : cfB mi pc i mj 2 4 n = true) (hn' : as.length = n) (hw : Nat.ble (rest.map fun v => v.category).sum 8 = true) (hb : Nat.ble (mC mj) bc = true ∧ Nat.ble (mS mj) bs = true)
    (hA : mA mj = 0 ∨ (mA mi = 1 ∧ lv.all (fun q => wfv h.length q.2) = true ∧ rest.all (wfv h.length) = true))
    (k : Call X mj (.ref o :: as) h (CK X mi pc lv rest (bc - mC mj) (bs - mS mj) Q)) : AW X mi pc lv (as.reverse ++ .ref o :: rest) h bc bs Q := by
  intro n0 p l e R s m args below meth c β D dA ad0 sa Qf C ad H locs cells slots ls ha hn hR hl hc hs
  simp only [cfB, Bool.and_eq_true, decide_eq_true_eq] at q
  obtain ⟨⟨⟨⟨⟨⟨⟨⟨hm, hj⟩, d⟩, hlk⟩, hkd⟩, hnn⟩, hv⟩, hH⟩, hne⟩ := q
  have hts := C.2.2.2.2.1
  obtain ⟨-, hy2, hy3, hy4⟩ := yw mj hj
  have hy5 : Cond.instanceMethod (mY mj) ∈ XU ∧ (mY mj).name = "<init>" ∧ mR mj = none := by
    unfold yw_k at hy4
    rw [hkd] at hy4
    exact hy4
  obtain ⟨hi1, hi2, hi3⟩ := hy5
  have hrm := room_ok (R := R) hj hv C.2.2.2.2.2.2.2.2.2.1
  have hM := k l β D dA ad sa C.2.2.2.2.2.1
  have hstk : List.map (tv ad) (as.reverse ++ .ref o :: rest) = (as.map (tv ad)).reverse ++ .ref (ad o) :: rest.map (tv ad) := by rw [List.map_append, List.map_reverse, List.map_cons]; rfl
  rw [hstk]
  refine run_go C ha hn hR hl hc hs ⟨Nat.le_of_ble_eq_true hb.1, Nat.le_of_ble_eq_true hb.2⟩ hA (a := (Value.ref (ad o) :: as.map (tv ad)).toArray) ?_
  have hp : PreS s H (va_Pc ((Value.ref o :: as).map (tv ad)) (CP X β D dA ad sa h)) (.ref (ad o) :: as.map (tv ad)) := ⟨CP_blind, fun U hU hW => ⟨rfl, CP_at C ha hR U hU hW⟩⟩
  have hrest : ((rest.map (tv ad)).map fun v => v.category).sum ≤ 8 := by
    rw [List.map_map]
    have := Nat.le_of_ble_eq_true hw
    simpa [Function.comp_def, tv_cat] using this
  have hf : cells + mC mj ≤ R.cells ∧ slots + mS mj ≤ R.slots := ⟨by have := Nat.le_of_ble_eq_true hb.1; omega, by have := Nat.le_of_ble_eq_true hb.2; omega⟩
  have hlink := lk_bef hm hlk (Nat.le_of_ble_eq_true rfl) hts
  simp only [lkw] at hlink
  rw [dN_ok2 mi hm] at hlink
  exact vx_runI ⟨C.1, C.2.1, C.2.2.1, C.2.2.2.1, hts⟩ hM ⟨callB_of n hts (mW_good hj) (by rw [mW_code hH, hi3]) rfl rfl (hts _ hy3) hlink (desc_ok hj hnn) hrm, hi2, hts _ hi1⟩ hp rfl (by rw [List.length_map]; exact hn') hl.1 rfl (lv_room hrest) d hf
end CALLS
section CALLN
variable {X : XS} {mi mj pc i : Nat} {lv : List (Nat × Value)} {rest : List Value} {h : AH} {bc bs : Nat} {Q : AO → AH → Prop}
theorem a_cs0 {nest : Nat} (q : cfB mi pc i mj 0 nest 0 = true) (hw : Nat.ble (rest.map fun v => v.category).sum 8 = true) (hb : Nat.ble (mC mj) bc = true ∧ Nat.ble (mS mj) bs = true) (hA : mA mj = 0) (k : Call X mj [] h (CK X mi pc lv rest (bc - mC mj) (bs - mS mj) Q)) : AW X mi pc lv (rest) h bc bs Q := a_callS (as := []) q rfl hw hb (Or.inl hA) k
theorem a_cv0 {o : Nat} {fs : List Value} (q : cfB mi pc i mj 1 4 0 = true) (ho : h[o]? = some (.inl (mO mj, fs))) (hw : Nat.ble (rest.map fun v => v.category).sum 8 = true) (hb : Nat.ble (mC mj) bc = true ∧ Nat.ble (mS mj) bs = true) (hA : mA mj = 0) (k : Call X mj (.ref o :: []) h (CK X mi pc lv rest (bc - mC mj) (bs - mS mj) Q)) : AW X mi pc lv (.ref o :: rest) h bc bs Q := a_callV (as := []) q rfl ho hw hb (Or.inl hA) k
theorem a_cs1 {nest : Nat} {v1 : Value} (q : cfB mi pc i mj 0 nest 1 = true) (hw : Nat.ble (rest.map fun v => v.category).sum 8 = true) (hb : Nat.ble (mC mj) bc = true ∧ Nat.ble (mS mj) bs = true) (hA : mA mj = 0) (k : Call X mj [v1] h (CK X mi pc lv rest (bc - mC mj) (bs - mS mj) Q)) : AW X mi pc lv (v1 :: rest) h bc bs Q := a_callS (as := [v1]) q rfl hw hb (Or.inl hA) k
theorem a_cv1 {v1 : Value} {o : Nat} {fs : List Value} (q : cfB mi pc i mj 1 4 1 = true) (ho : h[o]? = some (.inl (mO mj, fs))) (hw : Nat.ble (rest.map fun v => v.category).sum 8 = true) (hb : Nat.ble (mC mj) bc = true ∧ Nat.ble (mS mj) bs = true) (hA : mA mj = 0) (k : Call X mj (.ref o :: [v1]) h (CK X mi pc lv rest (bc - mC mj) (bs - mS mj) Q)) : AW X mi pc lv (v1 :: .ref o :: rest) h bc bs Q := a_callV (as := [v1]) q rfl ho hw hb (Or.inl hA) k
theorem a_cs2 {nest : Nat} {v1 v2 : Value} (q : cfB mi pc i mj 0 nest 2 = true) (hw : Nat.ble (rest.map fun v => v.category).sum 8 = true) (hb : Nat.ble (mC mj) bc = true ∧ Nat.ble (mS mj) bs = true) (hA : mA mj = 0) (k : Call X mj [v1, v2] h (CK X mi pc lv rest (bc - mC mj) (bs - mS mj) Q)) : AW X mi pc lv (v2 :: v1 :: rest) h bc bs Q := a_callS (as := [v1, v2]) q rfl hw hb (Or.inl hA) k
theorem a_cv2 {v1 v2 : Value} {o : Nat} {fs : List Value} (q : cfB mi pc i mj 1 4 2 = true) (ho : h[o]? = some (.inl (mO mj, fs))) (hw : Nat.ble (rest.map fun v => v.category).sum 8 = true) (hb : Nat.ble (mC mj) bc = true ∧ Nat.ble (mS mj) bs = true) (hA : mA mj = 0) (k : Call X mj (.ref o :: [v1, v2]) h (CK X mi pc lv rest (bc - mC mj) (bs - mS mj) Q)) : AW X mi pc lv (v2 :: v1 :: .ref o :: rest) h bc bs Q := a_callV (as := [v1, v2]) q rfl ho hw hb (Or.inl hA) k
theorem a_cs3 {nest : Nat} {v1 v2 v3 : Value} (q : cfB mi pc i mj 0 nest 3 = true) (hw : Nat.ble (rest.map fun v => v.category).sum 8 = true) (hb : Nat.ble (mC mj) bc = true ∧ Nat.ble (mS mj) bs = true) (hA : mA mj = 0) (k : Call X mj [v1, v2, v3] h (CK X mi pc lv rest (bc - mC mj) (bs - mS mj) Q)) : AW X mi pc lv (v3 :: v2 :: v1 :: rest) h bc bs Q := a_callS (as := [v1, v2, v3]) q rfl hw hb (Or.inl hA) k
theorem a_cv3 {v1 v2 v3 : Value} {o : Nat} {fs : List Value} (q : cfB mi pc i mj 1 4 3 = true) (ho : h[o]? = some (.inl (mO mj, fs))) (hw : Nat.ble (rest.map fun v => v.category).sum 8 = true) (hb : Nat.ble (mC mj) bc = true ∧ Nat.ble (mS mj) bs = true) (hA : mA mj = 0) (k : Call X mj (.ref o :: [v1, v2, v3]) h (CK X mi pc lv rest (bc - mC mj) (bs - mS mj) Q)) : AW X mi pc lv (v3 :: v2 :: v1 :: .ref o :: rest) h bc bs Q := a_callV (as := [v1, v2, v3]) q rfl ho hw hb (Or.inl hA) k
theorem a_cs4 {nest : Nat} {v1 v2 v3 v4 : Value} (q : cfB mi pc i mj 0 nest 4 = true) (hw : Nat.ble (rest.map fun v => v.category).sum 8 = true) (hb : Nat.ble (mC mj) bc = true ∧ Nat.ble (mS mj) bs = true) (hA : mA mj = 0) (k : Call X mj [v1, v2, v3, v4] h (CK X mi pc lv rest (bc - mC mj) (bs - mS mj) Q)) : AW X mi pc lv (v4 :: v3 :: v2 :: v1 :: rest) h bc bs Q := a_callS (as := [v1, v2, v3, v4]) q rfl hw hb (Or.inl hA) k
theorem a_cv4 {v1 v2 v3 v4 : Value} {o : Nat} {fs : List Value} (q : cfB mi pc i mj 1 4 4 = true) (ho : h[o]? = some (.inl (mO mj, fs))) (hw : Nat.ble (rest.map fun v => v.category).sum 8 = true) (hb : Nat.ble (mC mj) bc = true ∧ Nat.ble (mS mj) bs = true) (hA : mA mj = 0) (k : Call X mj (.ref o :: [v1, v2, v3, v4]) h (CK X mi pc lv rest (bc - mC mj) (bs - mS mj) Q)) : AW X mi pc lv (v4 :: v3 :: v2 :: v1 :: .ref o :: rest) h bc bs Q := a_callV (as := [v1, v2, v3, v4]) q rfl ho hw hb (Or.inl hA) k
theorem a_cs5 {nest : Nat} {v1 v2 v3 v4 v5 : Value} (q : cfB mi pc i mj 0 nest 5 = true) (hw : Nat.ble (rest.map fun v => v.category).sum 8 = true) (hb : Nat.ble (mC mj) bc = true ∧ Nat.ble (mS mj) bs = true) (hA : mA mj = 0) (k : Call X mj [v1, v2, v3, v4, v5] h (CK X mi pc lv rest (bc - mC mj) (bs - mS mj) Q)) : AW X mi pc lv (v5 :: v4 :: v3 :: v2 :: v1 :: rest) h bc bs Q := a_callS (as := [v1, v2, v3, v4, v5]) q rfl hw hb (Or.inl hA) k
theorem a_cv5 {v1 v2 v3 v4 v5 : Value} {o : Nat} {fs : List Value} (q : cfB mi pc i mj 1 4 5 = true) (ho : h[o]? = some (.inl (mO mj, fs))) (hw : Nat.ble (rest.map fun v => v.category).sum 8 = true) (hb : Nat.ble (mC mj) bc = true ∧ Nat.ble (mS mj) bs = true) (hA : mA mj = 0) (k : Call X mj (.ref o :: [v1, v2, v3, v4, v5]) h (CK X mi pc lv rest (bc - mC mj) (bs - mS mj) Q)) : AW X mi pc lv (v5 :: v4 :: v3 :: v2 :: v1 :: .ref o :: rest) h bc bs Q := a_callV (as := [v1, v2, v3, v4, v5]) q rfl ho hw hb (Or.inl hA) k
theorem a_cs6 {nest : Nat} {v1 v2 v3 v4 v5 v6 : Value} (q : cfB mi pc i mj 0 nest 6 = true) (hw : Nat.ble (rest.map fun v => v.category).sum 8 = true) (hb : Nat.ble (mC mj) bc = true ∧ Nat.ble (mS mj) bs = true) (hA : mA mj = 0) (k : Call X mj [v1, v2, v3, v4, v5, v6] h (CK X mi pc lv rest (bc - mC mj) (bs - mS mj) Q)) : AW X mi pc lv (v6 :: v5 :: v4 :: v3 :: v2 :: v1 :: rest) h bc bs Q := a_callS (as := [v1, v2, v3, v4, v5, v6]) q rfl hw hb (Or.inl hA) k
theorem a_cv6 {v1 v2 v3 v4 v5 v6 : Value} {o : Nat} {fs : List Value} (q : cfB mi pc i mj 1 4 6 = true) (ho : h[o]? = some (.inl (mO mj, fs))) (hw : Nat.ble (rest.map fun v => v.category).sum 8 = true) (hb : Nat.ble (mC mj) bc = true ∧ Nat.ble (mS mj) bs = true) (hA : mA mj = 0) (k : Call X mj (.ref o :: [v1, v2, v3, v4, v5, v6]) h (CK X mi pc lv rest (bc - mC mj) (bs - mS mj) Q)) : AW X mi pc lv (v6 :: v5 :: v4 :: v3 :: v2 :: v1 :: .ref o :: rest) h bc bs Q := a_callV (as := [v1, v2, v3, v4, v5, v6]) q rfl ho hw hb (Or.inl hA) k
theorem a_cs7 {nest : Nat} {v1 v2 v3 v4 v5 v6 v7 : Value} (q : cfB mi pc i mj 0 nest 7 = true) (hw : Nat.ble (rest.map fun v => v.category).sum 8 = true) (hb : Nat.ble (mC mj) bc = true ∧ Nat.ble (mS mj) bs = true) (hA : mA mj = 0) (k : Call X mj [v1, v2, v3, v4, v5, v6, v7] h (CK X mi pc lv rest (bc - mC mj) (bs - mS mj) Q)) : AW X mi pc lv (v7 :: v6 :: v5 :: v4 :: v3 :: v2 :: v1 :: rest) h bc bs Q := a_callS (as := [v1, v2, v3, v4, v5, v6, v7]) q rfl hw hb (Or.inl hA) k
theorem a_cs8 {nest : Nat} {v1 v2 v3 v4 v5 v6 v7 v8 : Value} (q : cfB mi pc i mj 0 nest 8 = true) (hw : Nat.ble (rest.map fun v => v.category).sum 8 = true) (hb : Nat.ble (mC mj) bc = true ∧ Nat.ble (mS mj) bs = true) (hA : mA mj = 0) (k : Call X mj [v1, v2, v3, v4, v5, v6, v7, v8] h (CK X mi pc lv rest (bc - mC mj) (bs - mS mj) Q)) : AW X mi pc lv (v8 :: v7 :: v6 :: v5 :: v4 :: v3 :: v2 :: v1 :: rest) h bc bs Q := a_callS (as := [v1, v2, v3, v4, v5, v6, v7, v8]) q rfl hw hb (Or.inl hA) k
end CALLN
end
section
/-! an exception made and thrown, of a class whose constructor passes its text on by any link (after the kit's laws vx_ctorMadeS, vx_makeS) -/
def vn_ch (X : String) (ix : Nat) (rx : ByteArray) : List String → List Cond
  | [] => Bundle.passSAtoms X Bundle.tN ix rx
  | Y :: r => Bundle.passSAtoms X Y ix rx ++ Bundle.chainSAtoms Y r
theorem vn_chain {args : Array Value} {s : State} {pl : Platform} (hpl : pl.magicAccessors = ({} : Platform).magicAccessors) {top : MethodId} (htop : s.methodNamed? (Bundle.initS Bundle.tN) = some top)
    {ix : Nat} {rx : ByteArray} (x0 : decode rx 0 = .ok (.aload_n 0, 1)) (x1 : decode rx 1 = .ok (.aload_n 1, 1)) (x2 : decode rx 2 = .ok (.invokespecial ix, 3)) (x5 : decode rx 5 = .ok (.return_, 1)) (names : List String) (X : String) (hX : Bundle.fit X = true) (hn : ∀ n ∈ names, Bundle.fit n = true) (h : ∀ c ∈ vn_ch X ix rx names, c.before args s = true) :
    ∃ (P1 : PassC) (Ps : List PassC), Ps.length = names.length ∧ P1.LinksS pl s ∧ (∀ P, P ∈ Ps → P.LinksS pl s) ∧ s.methodNamed? (Bundle.initS X) = some P1.m ∧
      P1.sup = firstOf top (Ps.map (·.toPassT)) ∧ PassesOn top (Ps.map (·.toPassT)) := by
  cases names with
  | nil =>
    obtain ⟨P, L, hm, hs⟩ := PassC.ofS_atoms (args := args) (s := s) hpl (X := X) (Y := Bundle.tN) (Bundle.fit_spec hX).1 (by decide) x0 x1 x2 x5 h
    exact ⟨P, [], rfl, L, (fun _ hP => by cases hP), hm, Option.some.inj (hs.symm.trans htop), trivial⟩
  | cons Y r =>
    obtain ⟨P, L, hm, hs⟩ := PassC.ofS_atoms (args := args) (s := s) hpl (X := X) (Y := Y) (Bundle.fit_spec hX).1 (Bundle.fit_spec (hn Y List.mem_cons_self)).2 x0 x1 x2 x5 (fun c hc => h c (List.mem_append_left _ hc))
    obtain ⟨P', Ps, hlen, L', hL, hm', hsup, hpass⟩ := Bundle.chainS (args := args) hpl htop r Y (hn Y List.mem_cons_self) (fun n hn' => hn n (List.mem_cons_of_mem _ hn')) (fun c hc => h c (List.mem_append_right _ hc))
    refine ⟨P, P' :: Ps, by simp [hlen], L, ?_, hm, Option.some.inj (hs.symm.trans hm'), hsup, hpass⟩
    intro Q hQ
    rcases List.mem_cons.mp hQ with rfl | hQ
    · exact L'
    · exact hL Q hQ
def vn_own (own : String) (ic : Nat) (X : String) (ix : Nat) (rx : ByteArray) (names : List String) : List Cond :=
  Bundle.throwableAtoms ++ Bundle.throwableSAtoms ++ vn_ch X ix rx names ++
  [.methodLink own ic (Bundle.initS X), .instantiable X 6, .castable X X, .selects X Bundle.tFill0 Bundle.tFill0, .selects X Bundle.tFill Bundle.tFill,
   .lays X Bundle.tN "cause" "Ljava/lang/Throwable;", .lays X Bundle.tN "stackTrace" Bundle.steD, .lays X Bundle.tN "suppressedExceptions" Bundle.listD, .lays X Bundle.tN "detailMessage" "Ljava/lang/String;",
   .isRef (.static Bundle.tN "UNASSIGNED_STACK" Bundle.steD), .isRef (.static Bundle.tN "SUPPRESSED_SENTINEL" Bundle.listD),
   .fieldLink Bundle.tN 198 Bundle.tN "backtrace" "Ljava/lang/Object;", .lays Bundle.tN Bundle.tN "backtrace" "Ljava/lang/Object;", .lays X Bundle.tN "backtrace" "Ljava/lang/Object;"]
def vn_at (own : String) (ic : Nat) (X : String) (ix : Nat) (rx : ByteArray) (names : List String) : List Cond := (vn_own own ic X ix rx names).filter vx_no
section VNK
variable {p : Program} {l : Launch} {e : Env} {R : Room} {s : State} {m₀ : MethodId} {args : Array Value} {below : List Frame} {meth : Method} {c : Code} {W : State} {locs : List Loc} {cells slots : Nat}
set_option maxHeartbeats 1000000 in
theorem vn_ctorMade (X : Stand p l e R s m₀ args below meth c W locs cells slots) (hexec : p.tables.exec = Jvm.exec) (htr : e.platform.stackTraces = false) {own cls : String} {names : List String} {ic ix : Nat} {rx : ByteArray} (x0 : decode rx 0 = .ok (.aload_n 0, 1)) (x1 : decode rx 1 = .ok (.aload_n 1, 1)) (x2 : decode rx 2 = .ok (.invokespecial ix, 3)) (x5 : decode rx 5 = .ok (.return_, 1))
    (hown : s.vm.findClass own = some m₀.cls) (hcls : Bundle.fit cls = true) (hnames : ∀ n ∈ names, Bundle.fit n = true)
    (h : ∀ a ∈ vn_own own ic cls ix rx names, a.before args s = true)
    (hlocs : ∀ x ∈ locs, ∀ cell, s.heap[x.base]? = some cell → cell.vm.isStatics = false)
    {a : Addr} {cX : ClassId} {kX : Class} (hfoundX : s.vm.findClass cls = some cX) (hkX : s.vm.classes[cX]? = some kX) (hcell : W.heap[a]? = some (freshCell cX kX)) (hnew : s.heap.size ≤ a)
    {msg : Value} (hmsg : msg.isRef = true)
    {g : JFrame} (hg : g.method = m₀) (hsize : g.locals.size = c.maxLocals) {rest : List Value} (hstack : g.stack = msg :: .ref a :: .ref a :: rest)
    (hd6 : decode c.code g.pc = .ok (.invokespecial ic, 3))
    (hRframes : names.length + 3 < R.frames) (hRlocals : 2 * g.monitorRoom + ((Value.ref a :: rest).map fun v => v.category).sum + (13 * (names.length + 1) + 42) ≤ R.locals) :
    ∃ (V : State) (ce : Cell) (L : List Loc), Stand p l e R s m₀ args below meth c (V.setCell a ce) (locs ++ L) cells slots ∧ (∀ y ∈ L, y.base = a) ∧ a < V.heap.size ∧ ce.cls = cX ∧ ce.vm = .none ∧
      ∀ target, Steps p.tables e below ((V.setCell a ce).setTop { g with stack := .ref a :: rest, pc := g.pc + 3 }) target → Steps p.tables e below (W.setTop g) target := by
  have howns : e.platform.frameOwnsMonitors = true := by rw [X.admits.platform]
  have hfin : e.platform.finalization = false := by rw [X.admits.platform]
  have hpl : e.platform.magicAccessors = ({} : Platform).magicAccessors := by rw [X.admits.platform]
  have a' : ∀ x, x ∈ vn_own own ic cls ix rx names → x.holds args s none s [] = true := fun x hx => h x hx
  obtain ⟨T, Z0, L, -, Y⟩ := ThrowableC.of_atoms (args := args) howns hfin hpl (fun x hx => h x (by simp [vn_own, hx]))
  obtain ⟨Z, M, LZ, LM, hnZ⟩ := Init0T.ofS_atoms (args := args) hpl L Y (fun x hx => h x (by simp [vn_own, hx]))
  obtain ⟨P1, Ps, hlen, L1, hL, hP1m, hlink1, hlink⟩ := vn_chain (args := args) hpl hnZ x0 x1 x2 x5 names cls hcls hnames (fun x hx => h x (by simp [vn_own, hx]))
  have hfound : s.vm.findClass cls = some P1.m.cls := findClass_of_methodNamed hP1m
  cases Option.some.inj (hfoundX.symm.trans hfound)
  obtain ⟨c1, kX', hc1, hk, hord, -, -, hn6⟩ := Cond.instantiable_spec (a' (.instantiable cls 6) (by simp [vn_own]))
  cases Option.some.inj (hc1.symm.trans hfound)
  cases Option.some.inj (hkX.symm.trans hk)
  have hsel0 : selectMethod e.platform s.vm P1.m.cls T.fill0 = .method T.fill0 := by
    obtain ⟨c2, r2, m2, q1, q2, q3, q4, -⟩ := Cond.selects_spec (a' (.selects cls Bundle.tFill0 Bundle.tFill0) (by simp [vn_own]))
    cases Option.some.inj (q1.symm.trans hfound)
    cases Option.some.inj (q2.symm.trans (State.methodFound?_of_named Y.fill0 (by decide)))
    cases Option.some.inj (q3.symm.trans Y.fill0)
    rw [Launch.admits_selectMethod X.admits]; exact q4
  have hselF : selectMethod e.platform s.vm P1.m.cls T.fill = .method T.fill := by
    obtain ⟨c2, r2, m2, q1, q2, q3, q4, -⟩ := Cond.selects_spec (a' (.selects cls Bundle.tFill Bundle.tFill) (by simp [vn_own]))
    cases Option.some.inj (q1.symm.trans hfound)
    cases Option.some.inj (q2.symm.trans (State.methodFound?_of_named Y.fill (by decide)))
    cases Option.some.inj (q3.symm.trans Y.fill)
    rw [Launch.admits_selectMethod X.admits]; exact q4
  obtain ⟨cellS0, hcS0, hiss⟩ := Y.statics
  obtain ⟨u0, hu0⟩ := Cond.staticRefV Y.unassigned L.unassignedStatic L.statics hcS0 hiss (a' (.isRef (.static Bundle.tN "UNASSIGNED_STACK" Bundle.steD)) (by simp [vn_own]))
  obtain ⟨sen, hsen⟩ := Cond.staticRefV Y.sentinel L.sentinelStatic L.statics hcS0 hiss (a' (.isRef (.static Bundle.tN "SUPPRESSED_SENTINEL" Bundle.listD)) (by simp [vn_own]))
  obtain ⟨ci198, i198, fB, hk198, hg198, ha198, hsB, -, hnB, htB, hffB⟩ := Cond.ownField (t := .object "java/lang/Object") Y.found L.cls (by decide +kernel) (a' (.fieldLink Bundle.tN 198 Bundle.tN "backtrace" "Ljava/lang/Object;") (by simp [vn_own])) (a' (.lays Bundle.tN Bundle.tN "backtrace" "Ljava/lang/Object;") (by simp [vn_own])) e.platform hpl
  obtain ⟨cellS, hcS', heS, -, hkeep⟩ := X.same.2.2.2.2.2 T.aS cellS0 hcS0
  have hcellS : W.heap[T.aS]? = some cellS := hcS'
  have hout' : ∀ i, (⟨T.aS, i⟩ : Loc) ∉ locs := fun i hmem => by
    have := hlocs _ hmem cellS0 hcS0
    rw [hiss] at this; cases this
  have hknownS : cellS.vm ≠ .unknown := by
    rw [heS]; intro hu
    rw [show cellS0.vm = .unknown from hu] at hiss
    cases hiss
  have hneS : T.aS ≠ a := Nat.ne_of_lt (Nat.lt_of_lt_of_le (Array.getElem?_eq_some_iff.mp hcS0).1 hnew)
  obtain ⟨iM, hffM⟩ := Y.msg
  obtain ⟨tyC, dC, hdC, hdnC⟩ := Cond.laysAt hfound hk Y.cause (a' (.lays cls Bundle.tN "cause" "Ljava/lang/Throwable;") (by simp [vn_own]))
  obtain ⟨tyS, dS, hdS, hdnS⟩ := Cond.laysAt hfound hk Y.stack (a' (.lays cls Bundle.tN "stackTrace" Bundle.steD) (by simp [vn_own]))
  obtain ⟨tyP, dP, hdP, hdnP⟩ := Cond.laysAt hfound hk Y.supp (a' (.lays cls Bundle.tN "suppressedExceptions" Bundle.listD) (by simp [vn_own]))
  obtain ⟨tyM, dM, hdM, hdnM⟩ := Cond.laysAt hfound hk hffM (a' (.lays cls Bundle.tN "detailMessage" "Ljava/lang/String;") (by simp [vn_own]))
  obtain ⟨tyB, dB, hdB, hdnB⟩ := Cond.laysAt hfound hk hffB (a' (.lays cls Bundle.tN "backtrace" "Ljava/lang/Object;") (by simp [vn_own]))
  have bC := Cond.laysApart hdB hdC hdnB hdnC (by rw [hnB, Y.causeName]; decide)
  have bS := Cond.laysApart hdB hdS hdnB hdnS (by rw [hnB, Y.stackName]; decide)
  have bP := Cond.laysApart hdB hdP hdnB hdnP (by rw [hnB, Y.suppName]; decide)
  have hskip : SkipFacts T e.platform s (fun u => u) u0 ((preparedCellV T.toThrowableT (freshCell P1.m.cls kX) a u0 sen).withEntry W.cur) :=
    ⟨{ ci198 := ci198, i198 := i198, fBack := fB }, ⟨hk198, hg198, ha198, hsB⟩, by
      have := fresh_default (c := P1.m.cls) tyB
      rw [htB] at this
      simpa [preparedCellV, Cell.setSlot, Cell.withEntry, Array.getElem?_setIfInBounds, bC, bS, bP, bC.symm, bS.symm, bP.symm, defaultValue] using this, fun _ _ => rfl⟩
  obtain ⟨tm, methC, cdC, kC, vm₁, hnC, -, -, -, -, -, -, -, hW₁, st1⟩ := Steps.initColdS (tb := p.tables) (e := e) (below := below) (s := s) (U := W) X.here hexec X.warmed hpl hown (t := Bundle.initS cls) rfl rfl (Bundle.fit_spec hcls).2
    (a' (.methodLink own ic (Bundle.initS cls)) (by simp [vn_own])) (h (.instanceMethod (Bundle.initS cls)) (by cases names <;> simp [vn_own, vn_ch, Bundle.passSAtoms])) (bytes := rx) (maxL := 2) (h (.code (Bundle.initS cls) rx 2 none) (by cases names <;> simp [vn_own, vn_ch, Bundle.passSAtoms]))
    (f := g) hg (a := a) (msg := msg) (rest := .ref a :: rest) hstack hd6
  cases Option.some.inj (hnC.symm.trans hP1m)
  have X₁ := X.noted hW₁
  obtain ⟨vm₂, X₂, st2⟩ := X₁.ctorMessageOffV hexec (g := { g with stack := .ref a :: rest }) hg hsize T L Z LZ M LM (P1 :: Ps)
    (fun P hP => by rcases List.mem_cons.mp hP with rfl | hP; exact L1; exact hL P hP) ⟨hlink1, hlink⟩ (u0 := u0) (sen := sen) (self := a) hmsg (cell := freshCell P1.m.cls kX) (cellS := cellS)
    hcell (fun _ => by simp) (by simp) rfl rfl hsel0 hselF hcellS hneS hknownS (by rw [hkeep _ (hout' _)]; exact hu0) (by rw [hkeep _ (hout' _)]; exact hsen)
    (Takes.of_laid hk hord tyC (by rw [Y.causeType]; rfl)) (Takes.of_laid hk hord tyS (by rw [Y.stackType]; exact fits_refV_array _ u0)) (Takes.of_laid hk hord tyP (by rw [Y.suppType]; exact fits_refV_object _ sen))
    (Takes.of_laid hk hord tyM (by rw [Y.msgType]; exact fits_refV_object _ ⟨msg, hmsg⟩)) Y.objLocals hskip htr [] hd6
    (by simp only [List.length_cons, hlen]; omega) (by simp only [List.length_cons, hlen]; exact hRlocals)
  have hlt : a < ((W.setVm vm₁).setVm vm₂).heap.size := (Array.getElem?_eq_some_iff.mp hcell).1
  refine ⟨(W.setVm vm₁).setVm vm₂, _, _, X₂, fun y hy => ?_, hlt, rfl, rfl, fun target hwalk => st1 _ (fun acts => ?_)⟩
  · simp only [List.mem_cons, List.not_mem_nil, or_false] at hy
    rcases hy with rfl | rfl | rfl | rfl | rfl <;> rfl
  · rw [doInvoke_state]
    exact st2 _ hwalk
end VNK
section VNK2
variable {p : Program} {l : Launch} {e : Env} {R : Room} {s : State} {m : MethodId} {args : Array Value} {below : List Frame} {meth : Method} {c : Code} {H : Heap} {locs : List Loc} {cells slots : Nat} {Q : State → Prop} {ls : Array Slot} {rest : List Value}
theorem vx_back9 {T S : State} {R' : Room} {k n : Nat} (X : Stand p l e R s m args below meth c T locs cells slots) (Y : Stand p l e R' ((T.setVm s.vm).setFrames (.invoking m args :: below)) m args below meth c T [] 0 0) (Z : Stand p l e R' ((T.setVm s.vm).setFrames (.invoking m args :: below)) m args below meth c S [] k n) :
    Stand p l e R s m args below meth c S locs (cells + k) (slots + n) := by
  have hW0 : s.WarmedH ((T.setVm s.vm).setFrames (.invoking m args :: below)).vm := State.WarmedH.refl s
  refine { admits := X.admits, cas := X.cas, clock := X.clock, frames := X.frames, room := X.room, hears := X.hears, method := X.method, code := X.code, here := Z.here, tail := Z.tail, warmed := State.WarmedH.trans hW0 Z.warmed, limits := Z.limits.trans (Y.limits.symm.trans X.limits), bytes := Z.bytes.trans (Y.bytes.symm.trans X.bytes), same := ?_ }
  obtain ⟨e1, e2⟩ := Z.same
  rw [State.setFrames_setFrames] at e1
  have h2 : (T.setVm s.vm).sameButNew (S.setVm s.vm) [] k n := ⟨e1, e2⟩
  have h3 := X.same.trans h2
  rw [List.append_nil] at h3
  exact h3
theorem vx_athrow {cc : ByteArray} {pc : Nat} (hexec : p.tables.exec = Jvm.exec) (hb : c.code = cc) {q : Addr} (hdg : decode cc pc = .ok (.athrow, 1)) (k : vx_W p l e R s m args below meth c H locs cells slots Q (F0 m pc ls rest) q) : W p l e R s m args below meth c H locs cells slots Q (F0 m pc ls (.ref q :: rest)) := by
  intro T hT X
  obtain ⟨t, st, hq⟩ := k T hT X
  refine ⟨t, ?_, hq⟩
  have hdg' : decode c.code pc = .ok (.athrow, 1) := by rw [hb]; exact hdg
  jvm_step X.here [X.here.top, hexec, hdg', athrow.wp_sem]
  exact st
set_option maxHeartbeats 1000000 in
theorem vn_throw {cc : ByteArray} {pc : Nat} (hexec : p.tables.exec = Jvm.exec) (hb : c.code = cc) (hl : l.stackTraces = false) {own cls text : String} {names : List String} {ik is ic sa ix : Nat} {rx : ByteArray} {A : Nat → Prop}
    (x0 : decode rx 0 = .ok (.aload_n 0, 1)) (x1 : decode rx 1 = .ok (.aload_n 1, 1)) (x2 : decode rx 2 = .ok (.invokespecial ix, 3)) (x5 : decode rx 5 = .ok (.return_, 1))
    (hown : s.vm.findClass own = some m.cls) (hcls : Bundle.fit cls = true) (hnames : ∀ n ∈ names, Bundle.fit n = true)
    (hk : (Cond.classLink own ik cls).before args s = true) (hini : (Cond.initialized cls).before args s = true) (hstr : vk_R own is text sa s) (hat : ∀ w ∈ vn_at own ic cls ix rx names, w.before args s = true)
    (hgood : ∀ w ∈ Cond.classLink own ik cls :: Cond.initialized cls :: vn_at own ic cls ix rx names, vx_ot w = true)
    (hU : vx_Zq Bundle.tN "UNASSIGNED_STACK" Bundle.steD A s s.heap) (hN : vx_Zq Bundle.tN "SUPPRESSED_SENTINEL" Bundle.listD A s s.heap) (hS : va_S A s.heap H locs) (hsize : ls.size = c.maxLocals)
    (d0 : decode cc pc = .ok (.new ik, 3)) (d3 : decode cc (pc + 3) = .ok (.dup, 1)) (d4 : decode cc (pc + 4) = .ok (.ldc is, 2)) (d6 : decode cc (pc + 6) = .ok (.invokespecial ic, 3))
    (hRframes : names.length + 3 < R.frames) (hRlocals : (rest.map fun v => v.category).sum + (13 * (names.length + 1) + 43) ≤ R.locals) (hRcells : cells + 1 ≤ R.cells) (hRslots : slots + 6 ≤ R.slots)
    (kk : ∀ (q : Nat) (H1 : Heap) (ce : Cell), H1[q]? = some ce → ce.vm = .none → s.vm.findClass cls = some ce.cls → H.size ≤ H1.size → (∀ a : Nat, a < H.size → H1[a]? = H[a]?) → W p l e R s m args below meth c H1 locs (cells + 1) (slots + 6) Q (F0 m (pc + 9) ls (.ref q :: rest))) :
    W p l e R s m args below meth c H locs cells slots Q (F0 m pc ls rest) := by
  intro T hT X
  subst hT
  have htr : e.platform.stackTraces = false := (show e.platform.stackTraces = l.stackTraces by rw [X.admits.platform]).trans hl
  have Y := vx_rebase X (R' := { frames := R.frames, locals := R.locals, cells := 1, slots := 6 }) (Nat.le_refl _) (Nat.le_refl _) hRcells hRslots
  obtain ⟨s', hA'⟩ : ∃ z, z = (T.setVm s.vm).setFrames (.invoking m args :: below) := ⟨_, rfl⟩
  rw [← hA'] at Y
  have hvm : s'.vm = s.vm := by rw [hA']; rfl
  have hhp : s'.heap = T.heap := by rw [hA']; rfl
  have hW0 : s.WarmedH s'.vm := by rw [hvm]; exact State.WarmedH.refl s
  have hat' : ∀ w ∈ vn_at own ic cls ix rx names, w.before args s' = true := fun w hw => vx_ot_at hW0 hvm.symm (hgood w (List.mem_cons_of_mem _ (List.mem_cons_of_mem _ hw))) (hat w hw)
  have hk' : (Cond.classLink own ik cls).before args s' = true := vx_ot_at hW0 hvm.symm (hgood _ List.mem_cons_self) hk
  have hini' : (Cond.initialized cls).before args s' = true := vx_ot_at hW0 hvm.symm (hgood _ (List.mem_cons_of_mem _ List.mem_cons_self)) hini
  have hU' : vx_Zq Bundle.tN "UNASSIGNED_STACK" Bundle.steD A s' s'.heap := by rw [hhp]; exact vx_Zq.moved hW0.alike (hU.kept hS.2.1)
  have hN' : vx_Zq Bundle.tN "SUPPRESSED_SENTINEL" Bundle.listD A s' s'.heap := by rw [hhp]; exact vx_Zq.moved hW0.alike (hN.kept hS.2.1)
  have h : ∀ w ∈ vn_own own ic cls ix rx names, w.before args s' = true := vx_own hat' (vx_isRefq hU'.1) (vx_isRefq hN'.1) hU'.2.word hN'.2.word
  have hown' : s'.vm.findClass own = some m.cls := by rw [hvm]; exact hown
  have hins : (Cond.instantiable cls 6).before args s' = true := h _ (by simp [vn_own])
  obtain ⟨vm₁, cX, kX, hfX, hkX, -, -, X₁, st1⟩ := Y.newCold hexec (own := own) (C := cls) (index := ik) (n := 6) hown' hk' hins hini'
    (g := F0 m pc ls rest) rfl (by rw [hb]; exact d0) (Nat.le_refl _) (Nat.le_refl _)
  generalize hT1 : (T.setVm vm₁).pushCell { cls := cX, slots := kX.instanceTypes.map defaultValue, vm := .none } = T1 at X₁ st1
  have hcat : (Value.ref T.heap.size).category = 1 := rfl
  have hcellA : T1.heap[T.heap.size]? = some (freshCell cX kX) := by rw [← hT1]; exact State.heap_pushCell_size _ _
  have d3' : decode c.code (pc + 3) = .ok (.dup, 1) := by rw [hb]; exact d3
  have d4' : decode c.code (pc + 4) = .ok (.ldc is, 2) := by rw [hb]; exact d4
  have hstr' : vk_R own is text sa s' := vk_R.warm hW0 hstr
  obtain ⟨V, ce, L, Z, hL, hlt, hcl9, hvm9, st⟩ := vn_ctorMade X₁ hexec htr x0 x1 x2 x5 (own := own) (cls := cls) (names := names) (ic := ic) hown' hcls hnames h (fun x hx => nomatch hx) hfX hkX hcellA (by rw [hhp]; exact Nat.le_refl _) (msg := .ref sa) rfl
    (g := { method := m, pc := pc + 6, locals := ls, stack := .ref sa :: .ref T.heap.size :: .ref T.heap.size :: rest, locked := none }) rfl hsize (rest := rest) rfl
    (by rw [hb]; exact d6) hRframes (by simp only [List.map_cons, List.sum_cons, hcat]; omega)
  have Z0 := Stand.forget (locs := []) Z (fun y hy => by rw [hL y hy, hhp]; exact Nat.le_refl _)
  obtain ⟨f1, f2⟩ := vx_frame Z0.same
  rw [hhp] at f1 f2
  have hcid : s.vm.findClass cls = some ce.cls := by
    rw [hcl9]
    rw [hvm] at hfX
    exact hfX
  have hh : (V.setCell T.heap.size ce).heap[T.heap.size]? = some ce := heapAt_setCell_self (s := V) ce hlt
  subst hA'
  have X5 := vx_back9 X Y Z0
  have X6 : Stand p l e R s m args below meth c (V.setCell T.heap.size ce) locs (cells + 1) (slots + 6) := { X5 with same := X5.same.mono (by omega) (by omega) }
  obtain ⟨t, a1, b1⟩ := kk T.heap.size (V.setCell T.heap.size ce).heap ce hh hvm9 hcid f1 (fun q h1 => f2 q h1 (fun z hz => nomatch hz)) _ rfl X6
  refine ⟨t, st1 _ ?_, b1⟩
  show Steps p.tables e below (T1.setTop { method := m, pc := pc + 3, locals := ls, stack := .ref T.heap.size :: rest, locked := none }) _
  jvm_step X₁.here [X₁.here.top, hexec, d3', Value.category]
  exact X₁.ldcString hexec (own := own) (text := text) (index := is) (a := sa) hown' hstr'.1 hstr'.2
    (g := { method := m, pc := pc + 4, locals := ls, stack := .ref T.heap.size :: .ref T.heap.size :: rest, locked := none }) rfl d4' _ (st _ a1)
set_option maxHeartbeats 1000000 in
theorem vn_throwW {cc : ByteArray} {pc : Nat} (hexec : p.tables.exec = Jvm.exec) (hb : c.code = cc) (hl : l.stackTraces = false) {own cls text : String} {names : List String} {ik is ic sa ix : Nat} {rx : ByteArray} {A : Nat → Prop}
    (x0 : decode rx 0 = .ok (.aload_n 0, 1)) (x1 : decode rx 1 = .ok (.aload_n 1, 1)) (x2 : decode rx 2 = .ok (.invokespecial ix, 3)) (x5 : decode rx 5 = .ok (.return_, 1))
    (hown : s.vm.findClass own = some m.cls) (hcls : Bundle.fit cls = true) (hnames : ∀ n ∈ names, Bundle.fit n = true)
    (hk : (Cond.classLink own ik cls).before args s = true) (hini : (Cond.initialized cls).before args s = true) (hstr : vk_R own is text sa s) (hat : ∀ w ∈ vn_at own ic cls ix rx names, w.before args s = true)
    (hgood : ∀ w ∈ Cond.classLink own ik cls :: Cond.initialized cls :: vn_at own ic cls ix rx names, vx_ot w = true)
    (hU : vx_Zq Bundle.tN "UNASSIGNED_STACK" Bundle.steD A s s.heap) (hN : vx_Zq Bundle.tN "SUPPRESSED_SENTINEL" Bundle.listD A s s.heap) (hS : va_S A s.heap H locs) (hsize : ls.size = c.maxLocals)
    (d0 : decode cc pc = .ok (.new ik, 3)) (d3 : decode cc (pc + 3) = .ok (.dup, 1)) (d4 : decode cc (pc + 4) = .ok (.ldc_w is, 3)) (d6 : decode cc (pc + 7) = .ok (.invokespecial ic, 3))
    (hRframes : names.length + 3 < R.frames) (hRlocals : (rest.map fun v => v.category).sum + (13 * (names.length + 1) + 43) ≤ R.locals) (hRcells : cells + 1 ≤ R.cells) (hRslots : slots + 6 ≤ R.slots)
    (kk : ∀ (q : Nat) (H1 : Heap) (ce : Cell), H1[q]? = some ce → ce.vm = .none → s.vm.findClass cls = some ce.cls → H.size ≤ H1.size → (∀ a : Nat, a < H.size → H1[a]? = H[a]?) → W p l e R s m args below meth c H1 locs (cells + 1) (slots + 6) Q (F0 m (pc + 10) ls (.ref q :: rest))) :
    W p l e R s m args below meth c H locs cells slots Q (F0 m pc ls rest) := by
  intro T hT X
  subst hT
  have htr : e.platform.stackTraces = false := (show e.platform.stackTraces = l.stackTraces by rw [X.admits.platform]).trans hl
  have Y := vx_rebase X (R' := { frames := R.frames, locals := R.locals, cells := 1, slots := 6 }) (Nat.le_refl _) (Nat.le_refl _) hRcells hRslots
  obtain ⟨s', hA'⟩ : ∃ z, z = (T.setVm s.vm).setFrames (.invoking m args :: below) := ⟨_, rfl⟩
  rw [← hA'] at Y
  have hvm : s'.vm = s.vm := by rw [hA']; rfl
  have hhp : s'.heap = T.heap := by rw [hA']; rfl
  have hW0 : s.WarmedH s'.vm := by rw [hvm]; exact State.WarmedH.refl s
  have hat' : ∀ w ∈ vn_at own ic cls ix rx names, w.before args s' = true := fun w hw => vx_ot_at hW0 hvm.symm (hgood w (List.mem_cons_of_mem _ (List.mem_cons_of_mem _ hw))) (hat w hw)
  have hk' : (Cond.classLink own ik cls).before args s' = true := vx_ot_at hW0 hvm.symm (hgood _ List.mem_cons_self) hk
  have hini' : (Cond.initialized cls).before args s' = true := vx_ot_at hW0 hvm.symm (hgood _ (List.mem_cons_of_mem _ List.mem_cons_self)) hini
  have hU' : vx_Zq Bundle.tN "UNASSIGNED_STACK" Bundle.steD A s' s'.heap := by rw [hhp]; exact vx_Zq.moved hW0.alike (hU.kept hS.2.1)
  have hN' : vx_Zq Bundle.tN "SUPPRESSED_SENTINEL" Bundle.listD A s' s'.heap := by rw [hhp]; exact vx_Zq.moved hW0.alike (hN.kept hS.2.1)
  have h : ∀ w ∈ vn_own own ic cls ix rx names, w.before args s' = true := vx_own hat' (vx_isRefq hU'.1) (vx_isRefq hN'.1) hU'.2.word hN'.2.word
  have hown' : s'.vm.findClass own = some m.cls := by rw [hvm]; exact hown
  have hins : (Cond.instantiable cls 6).before args s' = true := h _ (by simp [vn_own])
  obtain ⟨vm₁, cX, kX, hfX, hkX, -, -, X₁, st1⟩ := Y.newCold hexec (own := own) (C := cls) (index := ik) (n := 6) hown' hk' hins hini'
    (g := F0 m pc ls rest) rfl (by rw [hb]; exact d0) (Nat.le_refl _) (Nat.le_refl _)
  generalize hT1 : (T.setVm vm₁).pushCell { cls := cX, slots := kX.instanceTypes.map defaultValue, vm := .none } = T1 at X₁ st1
  have hcat : (Value.ref T.heap.size).category = 1 := rfl
  have hcellA : T1.heap[T.heap.size]? = some (freshCell cX kX) := by rw [← hT1]; exact State.heap_pushCell_size _ _
  have d3' : decode c.code (pc + 3) = .ok (.dup, 1) := by rw [hb]; exact d3
  have d4' : decode c.code (pc + 4) = .ok (.ldc_w is, 3) := by rw [hb]; exact d4
  have hstr' : vk_R own is text sa s' := vk_R.warm hW0 hstr
  obtain ⟨V, ce, L, Z, hL, hlt, hcl9, hvm9, st⟩ := vn_ctorMade X₁ hexec htr x0 x1 x2 x5 (own := own) (cls := cls) (names := names) (ic := ic) hown' hcls hnames h (fun x hx => nomatch hx) hfX hkX hcellA (by rw [hhp]; exact Nat.le_refl _) (msg := .ref sa) rfl
    (g := { method := m, pc := pc + 7, locals := ls, stack := .ref sa :: .ref T.heap.size :: .ref T.heap.size :: rest, locked := none }) rfl hsize (rest := rest) rfl
    (by rw [hb]; exact d6) hRframes (by simp only [List.map_cons, List.sum_cons, hcat]; omega)
  have Z0 := Stand.forget (locs := []) Z (fun y hy => by rw [hL y hy, hhp]; exact Nat.le_refl _)
  obtain ⟨f1, f2⟩ := vx_frame Z0.same
  rw [hhp] at f1 f2
  have hcid : s.vm.findClass cls = some ce.cls := by
    rw [hcl9]
    rw [hvm] at hfX
    exact hfX
  have hh : (V.setCell T.heap.size ce).heap[T.heap.size]? = some ce := heapAt_setCell_self (s := V) ce hlt
  subst hA'
  have X5 := vx_back9 X Y Z0
  have X6 : Stand p l e R s m args below meth c (V.setCell T.heap.size ce) locs (cells + 1) (slots + 6) := { X5 with same := X5.same.mono (by omega) (by omega) }
  obtain ⟨t, a1, b1⟩ := kk T.heap.size (V.setCell T.heap.size ce).heap ce hh hvm9 hcid f1 (fun q h1 => f2 q h1 (fun z hz => nomatch hz)) _ rfl X6
  refine ⟨t, st1 _ ?_, b1⟩
  show Steps p.tables e below (T1.setTop { method := m, pc := pc + 3, locals := ls, stack := .ref T.heap.size :: rest, locked := none }) _
  jvm_step X₁.here [X₁.here.top, hexec, d3', Value.category]
  exact X₁.ldcStringW hexec (own := own) (text := text) (index := is) (a := sa) hown' hstr'.1 hstr'.2
    (g := { method := m, pc := pc + 4, locals := ls, stack := .ref T.heap.size :: .ref T.heap.size :: rest, locked := none }) rfl d4' _ (st _ a1)
end VNK2
end
section
/-! a method's contract out of its walk; handlers -/
theorem lv_args_tv (ad : Nat → Nat) : ∀ (as : List Value) (i : Nat), lv_args i (as.map (tv ad)) = tl ad (lv_args i as)
  | [], _ => rfl
  | v :: vs, i => by
    rw [List.map_cons]
    unfold lv_args
    rw [tv_cat, lv_args_tv ad vs]
    rfl
theorem lg_sl_tv (ad : Nat → Nat) : ∀ (as : List Value), (lg_sl (as.map (tv ad))).length = (lg_sl as).length
  | [] => rfl
  | v :: vs => by
    have ih := lg_sl_tv ad vs
    simp only [lg_sl, List.map_cons, List.flatMap_cons, List.length_append] at ih ⊢
    rw [ih, tv_cat]
    by_cases h : v.category = 2
    · rw [if_pos h, if_pos h]; rfl
    · rw [if_neg h, if_neg h]; rfl
def exX (en : Nat) : Nat := if en = 4 then 13 else 7
def exR (en : Nat) : ByteArray := if en = 4 then ⟨#[0x2a, 0x2b, 0xb7, 0x00, 0x0d, 0xb1]⟩ else Bundle.six
abbrev exW (en : Nat) : List Cond := vn_at "Plotwise" (exI.getD en 0) (exN.getD en "") (exX en) (exR en) ["java/lang/RuntimeException", "java/lang/Exception"]
def atB (en : Nat) : Bool := (exW en).all (fun w => decide (w ∈ tables_1) && (goodWord w || isNG w) && vx_ot w) && Bundle.fit (exN.getD en "") && decide (Cond.initialized (exN.getD en "") ∈ tables_1) && goodWord (Cond.initialized (exN.getD en "")) && decide (Cond.castable (exN.getD en "") (exN.getD en "") ∈ tables_1) && (decide (decode (exR en) 0 = .ok (.aload_n 0, 1)) && decide (decode (exR en) 1 = .ok (.aload_n 1, 1)) && decide (decode (exR en) 2 = .ok (.invokespecial (exX en), 3)) && decide (decode (exR en) 5 = .ok (.return_, 1)))
set_option maxRecDepth 100000 in
theorem at0 : atB 0 = true := by decide +kernel
set_option maxRecDepth 100000 in
theorem at1 : atB 1 = true := by decide +kernel
set_option maxRecDepth 100000 in
theorem at2 : atB 2 = true := by decide +kernel
set_option maxRecDepth 100000 in
theorem at3 : atB 3 = true := by decide +kernel
set_option maxRecDepth 100000 in
theorem at4 : atB 4 = true := by decide +kernel
set_option maxRecDepth 100000 in
theorem at5 : atB 5 = true := by decide +kernel
theorem at_ok (en : Nat) (h : en < 6) : atB en = true := by
  match en, h with
  | 0, _ => exact at0
  | 1, _ => exact at1
  | 2, _ => exact at2
  | 3, _ => exact at3
  | 4, _ => exact at4
  | 5, _ => exact at5
  | en + 6, h => exact absurd h (by omega)
section ENDS
variable {X : XS} {mi : Nat} {h : AH} {Q : AO → AH → Prop} {as : List Value} {p : Program} {l : Launch} {e : Env} {s : State} {m : MethodId} {args : Array Value} {below : List Frame} {meth : Method} {c : Code} {β : Nat} {D : va_G} {dA : Nat → ClassId} {ad0 sa : Nat → Nat} {n0 : Nat}
theorem fin1 (hx : p.tables.exec = Jvm.exec) (hb : c.code = mB mi) (hr : meth.sig.returnType = mR mi) (hlk : meth.locks = false) : Fin1 mi Q n0 p l e (mRm mi) s m args below meth c β D dA ad0 (vx_MQ below (CQ mi n0 β D dA ad0 Q) (CX mi n0 β D dA ad0 Q) args s (mC mi) (mS mi) (fun q : Nat => β ≤ q)) := by
  intro v h ad H locs cells slots pc ls ins hQ hret d ha hn hR hc hs
  refine W.widen hc hs (vx_ret ?_)
  have hq : ∀ (o : Option Value), o = v.map (tv ad) → ∀ t : State, t.heap = H → s.WarmedH t.vm → CQ mi n0 β D dA ad0 Q args s (.returned o) t := fun o ho t ht hW =>
    ⟨⟨v, h, ad, by rw [ho], hQ, ha, hn, by rw [ht]; exact hR.1, hR.2.1⟩, hR.2.2.F ht⟩
  cases ins with
  | return_ =>
    obtain ⟨rfl, h2⟩ := hret
    exact W.vret hx hb (hr.trans h2) (hq none rfl) hR.2.2.2.2 d hlk
  | ireturn =>
    obtain ⟨x, rfl, ty, h2, h3⟩ := hret
    exact W.zret hx hb (hr.trans h2) h3 (hq _ rfl) hR.2.2.2.2 d hlk
  | lreturn =>
    obtain ⟨x, rfl, h2⟩ := hret
    exact W.lret hx hb (hr.trans h2) (hq _ rfl) hR.2.2.2.2 d hlk
  | freturn =>
    obtain ⟨x, rfl, h2⟩ := hret
    exact W.fret hx hb (hr.trans h2) (hq _ rfl) hR.2.2.2.2 d hlk
  | dreturn =>
    obtain ⟨x, rfl, h2⟩ := hret
    exact W.dret hx hb (hr.trans h2) (hq _ rfl) hR.2.2.2.2 d hlk
  | areturn =>
    obtain ⟨x, rfl, rt, h2, h3⟩ := hret
    exact W.aret hx hb (hr.trans h2) h3 (Or.inr ⟨_, rfl⟩) (hq _ rfl) hR.2.2.2.2 d hlk
  | _ => exact False.elim hret
theorem fin2 (ht : c.exceptionTable.toList = tableOf (mH mi)) (hlk : meth.locks = false) : Fin2 mi Q n0 p l e (mRm mi) s m args below meth c β D dA ad0 (vx_MQ below (CQ mi n0 β D dA ad0 Q) (CX mi n0 β D dA ad0 Q) args s (mC mi) (mS mi) (fun q : Nat => β ≤ q)) := by
  intro en h ad H locs cells slots pc ls rest q ce hQ hmH ha hn hR hc hs hce hcv hcl
  refine vx_out (E := exN.getD en "") (fun x hx => ?_) hlk hce hcv hcl (fun t ht hW => ⟨⟨en, h, ad, rfl, hQ, ha, hn, by rw [ht]; exact hR.1, hR.2.1⟩, hR.2.2.F ht⟩) hR.2.2.2.2 hc hs
  rw [ht, hmH] at hx
  cases hx
theorem fin3 (hx : p.tables.exec = Jvm.exec) (hb : c.code = mB mi) (hml : c.maxLocals = mL mi) (hown : s.vm.findClass (mY mi).cls = some m.cls) (hts : ∀ w ∈ XU, w.before args s = true) (hst : l.stackTraces = false) (hsw : SW X β D dA ad0 sa s s.heap) (hm : mi < 234) (ht : c.exceptionTable.toList = tableOf (mH mi)) (hlk : meth.locks = false) : Fin3 mi Q n0 p l e (mRm mi) s m args below meth c β D dA ad0 (vx_MQ below (CQ mi n0 β D dA ad0 Q) (CX mi n0 β D dA ad0 Q) args s (mC mi) (mS mi) (fun q : Nat => β ≤ q)) := by
  intro en si h ad H locs cells slots pc ls rest hQ hth ha hn hR hsz hrest hc hs
  obtain ⟨ik, is, tx, hen, hsi, hcls, hmH, hv, hik, hdn, d0, d3, dd⟩ := hth
  have hat := at_ok en hen
  simp only [atB, Bool.and_eq_true, decide_eq_true_eq] at hat
  obtain ⟨⟨⟨⟨⟨hat1, hat2⟩, hat3⟩, hat4⟩, -⟩, ⟨⟨z0, z1⟩, z2⟩, z5⟩ := hat
  have hat1' : ∀ w ∈ exW en, (w ∈ tables_1 ∧ (goodWord w = true ∨ isNG w = true)) ∧ vx_ot w = true := fun w hw => by
    have := List.all_eq_true.mp hat1 w hw
    simpa only [Bool.and_eq_true, decide_eq_true_eq, Bool.or_eq_true] using this
  have hlink := lk_bef (args := args) (by omega : mi < 235) (show (lks (mD mi)).contains (ik, 5, 100 + en, 0) = true by simpa using hik) (Nat.le_of_ble_eq_true rfl) hts
  simp only [lkw] at hlink
  rw [if_neg (by omega), show 100 + en - 100 = en by omega, hdn, hcls] at hlink
  have hini : (Cond.initialized (exN.getD en "")).before args s = true := hts _ (xu_t hat3 hat4)
  have hstr := hsw.2.2.2.1 si _ hsi
  rw [hcls] at hstr
  have hat5 : ∀ w ∈ exW en, w.before args s = true := fun w hw => by
    obtain ⟨⟨h1, h2⟩, h3⟩ := hat1' w hw
    rcases h2 with h2 | h2
    · exact hts _ (xu_t h1 h2)
    · have hng := hsw.2.2.2.2.2.2.1 w (List.mem_filter.mpr ⟨h1, h2⟩)
      exact va_Nw.use (by cases w <;> first | rfl | (simp [isNG] at h2)) hng
  have hgood : ∀ w ∈ Cond.classLink "Plotwise" ik (exN.getD en "") :: Cond.initialized (exN.getD en "") :: exW en, vx_ot w = true := fun w hw => by
    rcases List.mem_cons.mp hw with rfl | hw
    · rfl
    · rcases List.mem_cons.mp hw with rfl | hw
      · rfl
      · exact (hat1' w hw).2
  have hown' : s.vm.findClass "Plotwise" = some m.cls := by rw [← hcls]; exact hown
  have hend : ∀ (pc' : Nat), decode (mB mi) pc' = .ok (.athrow, 1) → ∀ (q : Nat) (H1 : Heap) (ce : Cell), H1[q]? = some ce → ce.vm = .none → s.vm.findClass (exN.getD en "") = some ce.cls → H.size ≤ H1.size → (∀ a : Nat, a < H.size → H1[a]? = H[a]?) → W p l e (mRm mi) s m args below meth c H1 locs (cells + 1) (slots + 6) (vx_MQ below (CQ mi n0 β D dA ad0 Q) (CX mi n0 β D dA ad0 Q) args s (mC mi) (mS mi) (fun q : Nat => β ≤ q)) (F0 m pc' ls (.ref q :: rest)) := by
    intro pc' d9 q H1 ce h1 h2 h3 h4 h5
    refine vx_athrow hx hb d9 ?_
    have hS1 : va_S (fun q : Nat => β ≤ q) s.heap H1 locs := ⟨Nat.le_trans hR.2.2.1 h4, fun q h6 h7 => (h5 q (Nat.lt_of_lt_of_le h6 hR.2.2.1)).trans (hR.2.2.2.1 q h6 h7), hR.2.2.2.2⟩
    refine vx_out (E := exN.getD en "") (fun x hx => ?_) hlk h1 h2 h3 (fun t ht2 hW => ⟨⟨en, h, ad, rfl, hQ, ha, hn, by rw [ht2]; exact hR.1.kept (fun k q hk => h5 q.1 (hR.1 k q hk).lt), hR.2.1⟩, hS1.F ht2⟩) hR.2.2.2.2 hc hs
    rw [ht, hmH] at hx
    cases hx
  have hfr : ["java/lang/RuntimeException", "java/lang/Exception"].length + 3 < (mRm mi).frames := by
    show 2 + 3 < mV mi
    omega
  have hlo : (rest.map fun v => v.category).sum + (13 * (["java/lang/RuntimeException", "java/lang/Exception"].length + 1) + 43) ≤ (mRm mi).locals := by
    show (rest.map fun v => v.category).sum + (13 * (2 + 1) + 43) ≤ 64 * mV mi
    omega
  rcases dd with ⟨d4, d6, d9⟩ | ⟨d4, d7, d10⟩
  · exact vn_throw hx hb hst z0 z1 z2 z5 hown' hat2 (by decide) hlink hini hstr hat5 hgood hsw.2.2.2.2.1 hsw.2.2.2.2.2.1 hR.2.2 (hsz.trans hml.symm) d0 d3 d4 d6 hfr hlo hc hs (hend _ d9)
  · exact vn_throwW hx hb hst z0 z1 z2 z5 hown' hat2 (by decide) hlink hini hstr hat5 hgood hsw.2.2.2.2.1 hsw.2.2.2.2.2.1 hR.2.2 (hsz.trans hml.symm) d0 d3 d4 d7 hfr hlo hc hs (hend _ d10)
theorem plain_ok {mi : Nat} (h : mi < 234) : plainName (mY mi).cls = true := by
  have h1 := (yw mi h).1
  simp only [yb, Bool.and_eq_true] at h1
  exact h1.1.1.1.1.1.1
/-- a method without handlers -/
theorem call_of (hm : mi < 234) (hH : mH mi = []) (hlen : Nat.ble (lg_sl as).length (mL mi) = true) (k : AW X mi 0 (lv_args 0 as) [] h (mC mi) (mS mi) Q) : Call X mi as h Q := by
  intro l β D dA ad sa hst
  refine vx_ofW (cc := mB mi) (maxL := mL mi) (ret := mR mi) (plain_ok hm) (by rw [mW_code hH]) ?_
  intro p e s m args below meth c s₁ B hml ht hv
  obtain ⟨rfl, hsw, hβ, hP, hD⟩ := hv
  have hts0 := atoms_spec (ws := mW mi :: XU) B.pre
  have hts : ∀ w ∈ XU, w.before _ s = true := fun w hw => hts0 w (List.mem_cons_of_mem _ hw)
  have htab : c.exceptionTable.toList = tableOf (mH mi) := by
    rw [hH]
    cases hc : c.exceptionTable.toList with
    | nil => rfl
    | cons x xs => exact absurd (ht x (by rw [hc]; exact List.mem_cons_self)) (fun z => z)
  have hle : (lg_sl (as.map (tv ad))).length ≤ mL mi := by rw [lg_sl_tv]; exact Nat.le_of_ble_eq_true hlen
  have hl := lv_entry (as.map (tv ad)) (n := mL mi) hle
  rw [lv_args_tv] at hl
  rw [lg_entry_eq]
  have C : Cx X mi Q h.length p l e (mRm mi) s m (as.map (tv ad)).toArray below meth c β D dA ad sa (vx_MQ below (CQ mi h.length β D dA ad Q) (CX mi h.length β D dA ad Q) (as.map (tv ad)).toArray s (mC mi) (mS mi) (fun q : Nat => β ≤ q)) :=
    ⟨B.exec, B.bytes, hml, findClass_of_methodNamed B.named, hts, hst, hsw, hβ, fun z => (name_of_methodNamed B.named B.method).1.trans z, ⟨Nat.le_refl _, Nat.le_refl _⟩, htab, fin1 B.exec B.bytes B.returns B.notSynchronized, fin2 htab B.notSynchronized, fin3 B.exec B.bytes hml (findClass_of_methodNamed B.named) hts hst hsw hm htab B.notSynchronized⟩
  exact k h.length p l e (mRm mi) s m _ below meth c β D dA ad sa _ C ad s.heap [] 0 0 _ (adOk.rf _ _ _) (Nat.le_refl _) ⟨hP, hD, va_S.rf⟩ hl (Nat.le_of_eq (Nat.zero_add _)) (Nat.le_of_eq (Nat.zero_add _))
/-- a method with handlers -/
theorem call_ofH (hm : mi < 234) (hH : ¬ mH mi = []) (hlen : Nat.ble (lg_sl as).length (mL mi) = true) (k : AW X mi 0 (lv_args 0 as) [] h (mC mi) (mS mi) Q) : Call X mi as h Q := by
  intro l β D dA ad sa hst
  refine vx_ofWH (cc := mB mi) (maxL := mL mi) (ret := mR mi) (hh := mH mi) (plain_ok hm) (by rw [mW_with hH]) ?_
  intro p e s m args below meth c s₁ B hml hv
  obtain ⟨rfl, hsw, hβ, hP, hD⟩ := hv
  have hts0 := atoms_spec (ws := mW mi :: XU) B.pre
  have hts : ∀ w ∈ XU, w.before _ s = true := fun w hw => hts0 w (List.mem_cons_of_mem _ hw)
  have htab : c.exceptionTable.toList = tableOf (mH mi) := vx_table (x := mY mi) B (by rw [← mW_with hH]; exact hts0 _ List.mem_cons_self)
  have hle : (lg_sl (as.map (tv ad))).length ≤ mL mi := by rw [lg_sl_tv]; exact Nat.le_of_ble_eq_true hlen
  have hl := lv_entry (as.map (tv ad)) (n := mL mi) hle
  rw [lv_args_tv] at hl
  rw [lg_entry_eq]
  have C : Cx X mi Q h.length p l e (mRm mi) s m (as.map (tv ad)).toArray below meth c β D dA ad sa (vx_MQ below (CQ mi h.length β D dA ad Q) (CX mi h.length β D dA ad Q) (as.map (tv ad)).toArray s (mC mi) (mS mi) (fun q : Nat => β ≤ q)) :=
    ⟨B.exec, B.bytes, hml, findClass_of_methodNamed B.named, hts, hst, hsw, hβ, fun z => (name_of_methodNamed B.named B.method).1.trans z, ⟨Nat.le_refl _, Nat.le_refl _⟩, htab, fin1 B.exec B.bytes B.returns B.notSynchronized, fin2 htab B.notSynchronized, fin3 B.exec B.bytes hml (findClass_of_methodNamed B.named) hts hst hsw hm htab B.notSynchronized⟩
  exact k h.length p l e (mRm mi) s m _ below meth c β D dA ad sa _ C ad s.heap [] 0 0 _ (adOk.rf _ _ _) (Nat.le_refl _) ⟨hP, hD, va_S.rf⟩ hl (Nat.le_of_eq (Nat.zero_add _)) (Nat.le_of_eq (Nat.zero_add _))
end ENDS
end
section
/-! making cells; a static row cloned -/
def dfl (a : Nat) : List Value := (List.range (kC a).2.2).map (fun j => defaultValue (kT a j))
theorem tv_dfl (ad : Nat → Nat) (a : Nat) : (dfl a).map (tv ad) = dfl a := by
  unfold dfl
  rw [List.map_map]
  refine List.map_congr_left (fun j _ => ?_)
  show tv ad (defaultValue (kT a j)) = defaultValue (kT a j)
  cases kT a j <;> rfl
theorem dfl_V (a j : Nat) (hj : j < (kC a).2.2) : defaultValue (kT a j) = vp_V (dfl a) j := by
  unfold vp_V dfl
  rw [List.getD_eq_getElem?_getD, List.getElem?_map, List.getElem?_range hj]
  rfl
theorem cW_push {dA : Nat → ClassId} {ad : Nat → Nat} {h : AH} {c : AC} {q : Nat} {e : va_E} (hw : h.all (wfc h.length) = true) (hlt : h.length < 1000) (he : cE dA (fun k => if k = h.length then q else ad k) c = e) : cW dA (fun k => if k = h.length then q else ad k) (h ++ [c]) = cW dA ad h ++ [(q, e)] := by
  have e1 : ∀ k, (k < h.length ∨ 1000 ≤ k) → (fun k => if k = h.length then q else ad k) k = ad k := fun k hk => if_neg (by omega)
  have h1 : cW dA (fun k => if k = h.length then q else ad k) h = cW dA ad h := wfh_cW hw e1
  rw [← h1]
  unfold cW
  rw [List.mapIdx_append]
  congr 1
  simp [he]
section ALLOC
variable {X : XS} {mi pc : Nat} {lv : List (Nat × Value)} {rest : List Value} {h : AH} {bc bs : Nat} {Q : AO → AH → Prop}
def wfa (h : AH) (lv : List (Nat × Value)) (st : List Value) : Bool := h.all (wfc h.length) && lv.all (fun q => wfv h.length q.2) && st.all (wfv h.length)
theorem grow {n0 : Nat} {p : Program} {l : Launch} {e : Env} {R : Room} {s : State} {m : MethodId} {args : Array Value} {below : List Frame} {meth : Method} {c : Code} {β : Nat} {D : va_G} {dA : Nat → ClassId} {ad0 sa : Nat → Nat} {Qf : State → Prop} {c0 : AC} {pc' kn N : Nat} {ad : Nat → Nat} {H1 : Heap} {locs : List Loc} {cells slots : Nat} {ls : Array Slot} {q : Nat} {ent : va_E}
    (C : Cx X mi Q n0 p l e R s m args below meth c β D dA ad0 sa Qf) (hm : mA mi = 1) (hk : h.length = kn) (hlt : kn < 1000) (hwf : wfa h lv rest = true) (hb : 1 ≤ bc ∧ N ≤ bs) (ha : adOk mi n0 ad0 ad) (hn : n0 ≤ h.length) (hl : lv_has ls (mL mi) (tl ad lv)) (hc : cells + bc ≤ R.cells) (hs : slots + bs ≤ R.slots)
    (he : cE dA (fun k => if k = h.length then q else ad k) c0 = ent) (hP : va_P D kcl (cW dA ad h ++ [(q, ent)]) H1) (hD : va_D (fun q : Nat => β ≤ q) (cW dA ad h ++ [(q, ent)])) (hS : va_S (fun q : Nat => β ≤ q) s.heap H1 locs)
    (k : AW X mi pc' lv (.ref kn :: rest) (h ++ [c0]) (bc - 1) (bs - N) Q) : W p l e R s m args below meth c H1 locs (cells + 1) (slots + N) Qf (F0 m pc' ls (.ref q :: rest.map (tv ad))) := by
  subst hk
  simp only [wfa, Bool.and_eq_true] at hwf
  obtain ⟨⟨w1, w2⟩, w3⟩ := hwf
  have e1 : ∀ k, (k < h.length ∨ 1000 ≤ k) → (fun k => if k = h.length then q else ad k) k = ad k := fun k hk => if_neg (by omega)
  rw [← cW_push w1 hlt he] at hP hD
  have kk := k n0 p l e R s m args below meth c β D dA ad0 sa Qf C (fun k => if k = h.length then q else ad k) H1 locs (cells + 1) (slots + N) ls ⟨fun z => (absurd (hm.symm.trans z) (by decide)), fun k hk => (e1 k (hk.imp (fun y => Nat.lt_of_lt_of_le y hn) (fun z => z))).trans (ha.2 k hk)⟩ (by rw [List.length_append]; omega) ⟨hP, hD, hS⟩ (by rw [wfl_tl w2 e1]; exact hl) (by omega) (by omega)
  rw [List.map_cons, wfs_tv w3 e1] at kk
  have e2 : tv (fun k => if k = h.length then q else ad k) (.ref h.length) = .ref q := by simp [tv]
  rw [e2] at kk
  exact kk
def nwB (mi pc i a : Nat) : Bool := decide (mi < 235) && decide (decode (mB mi) pc = .ok (.new i, 3)) && (lks (mD mi)).contains (i, 5, a, 0) && decide (a < 9) && decide (mA mi = 1)
theorem a_new {i a kn : Nat} (q : nwB mi pc i a = true) (hk : h.length = kn) (hlt : Nat.ble (kn + 1) 1000 = true) (hwf : wfa h lv rest = true) (hb : Nat.ble 1 bc = true ∧ Nat.ble (kC a).2.2 bs = true) (k : AW X mi (pc + 3) lv (.ref kn :: rest) (h ++ [.inl (a, dfl a)]) (bc - 1) (bs - (kC a).2.2) Q) : AW X mi pc lv rest h bc bs Q := by
  intro n0 p l e R s m args below meth c β D dA ad0 sa Qf C ad H locs cells slots ls ha hn hR hl hc hs
  simp only [nwB, Bool.and_eq_true, decide_eq_true_eq] at q
  obtain ⟨⟨⟨⟨hm, d⟩, hlk⟩, ha9⟩, hA⟩ := q
  obtain ⟨hk1, hk2, hk3, -, hk5, hk6, -⟩ := kok a ha9
  have hlink := lk_bef hm hlk (Nat.le_of_ble_eq_true rfl) C.2.2.2.2.1
  simp only [lkw] at hlink
  rw [dN_ok2 mi hm, if_pos (by omega)] at hlink
  have b1 := Nat.le_of_ble_eq_true hb.1
  have b2 := Nat.le_of_ble_eq_true hb.2
  refine va_new C.1 C.2.1 C.2.2.2.2.1 hk2 (kT a) hk3 C.2.2.2.1 hlink (C.2.2.2.2.1 _ hk5) (C.2.2.2.2.1 _ hk6) C.2.2.2.2.2.2.1.1 hR.1 hR.2.1 hR.2.2 (fun q h1 => Nat.le_trans C.2.2.2.2.2.2.2.1 h1) hk1 (fs := dfl a) (fun j hj => dfl_V a j hj) (by omega) (by omega) d (fun q H1 hP1 hD1 hS1 => ?_)
  exact grow C hA hk (Nat.le_of_ble_eq_true hlt) hwf ⟨b1, b2⟩ ha hn hl hc hs (by simp only [cE]; rw [tv_dfl]) hP1 hD1 hS1 k
def zc (a : Nat) : (Nat → Int32) ⊕ (Nat → Int64) ⊕ (Nat → UInt32) ⊕ (Nat → UInt64) ⊕ (Nat → Option Nat) := match a with
  | 1 => .inr (.inl (fun _ => 0))
  | 2 => .inr (.inr (.inr (.inl (fun _ => 0))))
  | _ => .inl (fun _ => 0)
def naB (mi pc a : Nat) : Bool := decide (mi < 235) && decide (decode (mB mi) pc = .ok (.newarray (aTy a), 2)) && decide (a < 5) && decide (mA mi = 1)
theorem ac_ok (a : Nat) (h : a < 5) : Cond.arrayClass (aty a) ∈ XU := by
  match a, h with
  | 0, _ => exact xu_t (by decide +kernel) rfl
  | 1, _ => exact xu_t (by decide +kernel) rfl
  | 2, _ => exact xu_t (by decide +kernel) rfl
  | 3, _ => exact xu_t (by decide +kernel) rfl
  | 4, _ => exact xu_t (by decide +kernel) rfl
  | a + 5, h => exact absurd h (by omega)
theorem aTy_ok (a : Nat) : newarray.typeOf (aTy a) = aty a := by
  unfold aTy aty
  split <;> rfl
theorem zc_ok (a N : Nat) (h : a < 5) (cA : ClassId) : vp_cell cA (N, zc a) = arrV cA N (fun _ => defaultValue (aty a)) := by
  match a, h with
  | 0, _ => rfl
  | 1, _ => rfl
  | 2, _ => rfl
  | 3, _ => rfl
  | 4, _ => rfl
  | a + 5, h => exact absurd h (by omega)
theorem tyl_at (dA : Nat → ClassId) (a : Nat) (h : a < 5) : (tyl dA)[a]? = some (dA a, aty a) := by
  match a, h with
  | 0, _ => rfl
  | 1, _ => rfl
  | 2, _ => rfl
  | 3, _ => rfl
  | 4, _ => rfl
  | a + 5, h => exact absurd h (by omega)
theorem ra_one {U : State} {c1 c2 : ClassId} {a : Nat} (h : a < 5) (h1 : va_RA U c1 (aty a)) (h2 : va_RA U c2 (aty a)) : c1 = c2 := by
  match a, h with
  | 0, _ => exact Option.some.inj (h1.symm.trans h2)
  | 1, _ => exact Option.some.inj (h1.symm.trans h2)
  | 2, _ => exact Option.some.inj (h1.symm.trans h2)
  | 3, _ => exact Option.some.inj (h1.symm.trans h2)
  | 4, _ => exact Option.some.inj (h1.symm.trans h2)
  | a + 5, h => exact absurd h (by omega)
theorem a_newarray {a kn N : Nat} {n : Int32} (q : naB mi pc a = true) (hnn : ¬ n < 0) (hN : n.toNatClampNeg = N) (hN2 : Nat.ble N 100000 = true) (hk : h.length = kn) (hlt : Nat.ble (kn + 1) 1000 = true) (hwf : wfa h lv rest = true) (hb : Nat.ble 1 bc = true ∧ Nat.ble N bs = true) (k : AW X mi (pc + 2) lv (.ref kn :: rest) (h ++ [.inr (a, N, zc a)]) (bc - 1) (bs - N) Q) : AW X mi pc lv (.int n :: rest) h bc bs Q := by
  intro n0 p l e R s m args below meth c β D dA ad0 sa Qf C ad H locs cells slots ls ha hn hR hl hc hs
  simp only [naB, Bool.and_eq_true, decide_eq_true_eq] at q
  obtain ⟨⟨⟨hm, d⟩, ha5⟩, hA⟩ := q
  have b1 := Nat.le_of_ble_eq_true hb.1
  have b2 := Nat.le_of_ble_eq_true hb.2
  have b3 := Nat.le_of_ble_eq_true hN2
  refine va_newa (ty := aty a) (a0 := (N, zc a)) C.1 C.2.1 (by rw [aTy_ok]; exact C.2.2.2.2.1 _ (ac_ok a ha5)) (aTy_ok a) C.2.2.2.2.2.2.1.1 hR.1 hR.2.1 hR.2.2 (fun q h1 => Nat.le_trans C.2.2.2.2.2.2.2.1 h1) (fun cA => zc_ok a N ha5 cA) hnn hN (by
    have : componentBytes (aty a) ≤ 8 := by
      match a, ha5 with
      | 0, _ => decide
      | 1, _ => decide
      | 2, _ => decide
      | 3, _ => decide
      | 4, _ => decide
      | a + 5, h => exact absurd h (by omega)
    calc N * componentBytes (aty a) ≤ 100000 * 8 := Nat.mul_le_mul b3 this
      _ ≤ 536870912 := by decide) (by omega) (by omega) d (fun q cA H1 hK1 hP1 hD1 hS1 => ?_)
  have hcA : cA = dA a := by
    have h1 := (hK1.2 (tyl dA).length (cA, aty a) (by rw [List.getElem?_append_right (Nat.le_refl _), Nat.sub_self]; rfl)).2
    have h2 := (C.2.2.2.2.2.2.1.1.2 a _ (tyl_at dA a ha5)).2
    exact ra_one ha5 h1 h2
  subst hcA
  exact grow (c0 := .inr (a, N, zc a)) C hA hk (Nat.le_of_ble_eq_true hlt) hwf ⟨b1, b2⟩ ha hn hl hc hs rfl hP1 hD1 hS1 k
theorem a_objInit {i o : Nat} (q : (decide (mi < 235) && decide (decode (mB mi) pc = .ok (.invokespecial i, 3)) && (lks (mD mi)).contains (i, 2, 0, 0) && decide (1 ≤ mV mi)) = true) (hw : Nat.ble (rest.map fun v => v.category).sum 8 = true) (k : AW X mi (pc + 3) lv rest h bc bs Q) : AW X mi pc lv (.ref o :: rest) h bc bs Q := by
  intro n0 p l e R s m args below meth c β D dA ad0 sa Qf C ad H locs cells slots ls ha hn hR hl hc hs
  simp only [Bool.and_eq_true, decide_eq_true_eq] at q
  obtain ⟨⟨⟨hm, d⟩, hlk⟩, hv⟩ := q
  have hlink := lk_bef hm hlk (Nat.le_of_ble_eq_true rfl) C.2.2.2.2.1
  simp only [lkw] at hlink
  rw [dN_ok2 mi hm] at hlink
  have hrest : ((rest.map (tv ad)).map fun v => v.category).sum ≤ 8 := by
    rw [List.map_map]
    have := Nat.le_of_ble_eq_true hw
    simpa [Function.comp_def, tv_cat] using this
  have hfr := C.2.2.2.2.2.2.2.2.2.1
  refine W.objInit C.1 C.2.1 C.2.2.2.1 hlink (C.2.2.2.2.1 _ (xu_t (by decide +kernel) (by decide +kernel))) (C.2.2.2.2.1 _ (xu_t (by decide +kernel) (by decide +kernel))) rfl (by rw [C.2.2.1]; exact hl.1) rfl d (by omega) (by show 2 * 0 + ((rest.map (tv ad)).map fun v => v.category).sum + 12 ≤ R.locals; omega) ?_
  exact k n0 p l e R s m args below meth c β D dA ad0 sa Qf C ad H locs cells slots ls ha hn hR hl hc hs
theorem a_clone {i kn : Nat} (q : (decide (mi < 235) && decide (decode (mB mi) pc = .ok (.invokevirtual i, 3)) && (lks (mD mi)).contains (i, 3, 0, 0) && decide (1 ≤ mV mi) && decide (mA mi = 1)) = true) (hw : Nat.ble (rest.map fun v => v.category).sum 8 = true) (hk : h.length = kn) (hlt : Nat.ble (kn + 1) 1000 = true) (hwf : wfa h lv rest = true) (hb : Nat.ble 1 bc = true ∧ Nat.ble 8 bs = true) (k : AW X mi (pc + 3) lv (.ref kn :: rest) (h ++ [.inr (0, 8, .inl ro_w)]) (bc - 1) (bs - 8) Q) : AW X mi pc lv (.ref 1001 :: rest) h bc bs Q := by
  intro n0 p l e R s m args below meth c β D dA ad0 sa Qf C ad H locs cells slots ls ha hn hR hl hc hs
  simp only [Bool.and_eq_true, decide_eq_true_eq] at q
  obtain ⟨⟨⟨⟨hm, d⟩, hlk⟩, hv⟩, hA⟩ := q
  have hlink := lk_bef hm hlk (Nat.le_of_ble_eq_true rfl) C.2.2.2.2.1
  simp only [lkw] at hlink
  rw [dN_ok2 mi hm] at hlink
  have b1 := Nat.le_of_ble_eq_true hb.1
  have b2 := Nat.le_of_ble_eq_true hb.2
  have hrest : ((rest.map (tv ad)).map fun v => v.category).sum ≤ 8 := by
    rw [List.map_map]
    have := Nat.le_of_ble_eq_true hw
    simpa [Function.comp_def, tv_cat] using this
  have hfr := C.2.2.2.2.2.2.2.2.2.1
  have hsw := C.2.2.2.2.2.2.1
  have had : ad 1001 = ad0 1001 := ha.2 _ (Or.inr (by omega))
  obtain ⟨cell, w1, w2, w3, w4⟩ := hsw.2.2.2.2.2.2.2.2
  obtain ⟨cell', t1, t2, t3, -, -, t6, -⟩ := hsw.2.1 1 (by omega)
  cases Option.some.inj (w1.symm.trans t1)
  have w1H : H[ad 1001]? = some cell := by rw [had, hR.2.2.2.1 _ (Array.getElem?_eq_some_iff.mp w1).1 w4]; exact w1
  have hci := hsw.2.2.2.2.2.2.1 (Cond.castable "[I" "java/lang/Cloneable") (List.mem_filter.mpr ⟨by decide +kernel, rfl⟩)
  obtain ⟨c0, t0', f1, f2, f3⟩ := Cond.castable_spec (va_Nw.use (A := args) rfl hci)
  cases Option.some.inj (w3.symm.trans f1)
  have hdA : dA 0 = cell.cls := Option.some.inj ((va_nm_int ((hsw.1.2 0 _ (tyl_at dA 0 (by omega))).2)).symm.trans w3)
  have hsl : ({ cls := cell.cls, slots := cell.slots } : Cell) = vp_cell (dA 0) (8, .inl ro_w) := by
    have hs8 : cell.slots = (vp_cell (dA 0) (8, .inl ro_w)).slots := by
      apply Array.ext_getElem?
      intro j
      by_cases hj : j < 8
      · rw [t6 j hj, vp_cell_i, arrV_read _ _ hj]
        rfl
      · rw [Array.getElem?_eq_none (by omega), Array.getElem?_eq_none (by rw [vp_cell_i, arrV_size]; omega)]
    rw [hs8, ← hdA]
    rfl
  intro T hT Y
  obtain ⟨hst0, kA, hkA, comp, hkind⟩ := State.isArrayOf_alike Y.warmed.alike t2
  obtain ⟨vm', Y', st⟩ := Y.cloneArray C.1 C.2.2.2.1 hlink (C.2.2.2.2.1 _ (xu_t (by decide +kernel) (by decide +kernel))) (C.2.2.2.2.1 _ (xu_t (by decide +kernel) (by decide +kernel))) (C.2.2.2.2.1 _ (xu_t (by decide +kernel) (by decide +kernel))) (C.2.2.2.2.1 _ (xu_t (by decide +kernel) (by decide +kernel))) (a := ad 1001) (cell := cell) (by rw [hT]; exact w1H) t2.1 t3 w3 f2 f3
    (fun i v hv => by
      have hk' : T.vm.classes[cell.cls]? = some kA := hkA
      have hv2 : fits .int v = true := by
        by_cases hi : i < 8
        · rw [t6 i hi] at hv; cases hv; rfl
        · rw [Array.getElem?_eq_none (by omega)] at hv; cases hv
      simpa [State.fitsSlot, State.slotType?, hk', hkind, roT] using hv2)
    (g := F0 m pc ls (.ref (ad 1001) :: rest.map (tv ad))) rfl (by rw [C.2.2.1]; exact hl.1) rfl (by rw [C.2.1]; exact d) (by omega) (by show 2 * 0 + _ + 14 ≤ _; omega) (by omega) (by rw [w2]; omega) (hloader := by
      obtain ⟨-, kS, hkS, compS, hkindS⟩ := t2
      exact Vm.clonesLoader_of_array hkS hkindS)
  rw [w2, hsl] at Y'
  generalize hH1 : H.push (vp_cell (dA 0) (8, .inl ro_w)) = H1
  have z1 : H1.size = H.size + 1 := by rw [← hH1, Array.size_push]
  have e1 : H1[H.size]? = some (vp_cell (dA 0) (8, .inl ro_w)) := by rw [← hH1, Array.getElem?_push_size]
  have o1 : ∀ q : Nat, q < H.size → H1[q]? = H[q]? := fun q hq => by rw [← hH1, Array.getElem?_push, if_neg (Nat.ne_of_lt hq)]
  have hP1 : va_P D kcl (cW dA ad h ++ [(H.size, .inl (dA 0, (8, .inl ro_w)))]) H1 := (hR.1.kept (fun k y hy => o1 y.1 ((hR.1 k y hy).lt))).app (fun k y hy => by
    have hz : k < 1 := (List.getElem?_eq_some_iff.mp hy).1
    rw [show k = 0 by omega] at hy
    cases hy
    exact e1)
  have hD1 : va_D (fun q : Nat => β ≤ q) (cW dA ad h ++ [(H.size, .inl (dA 0, (8, .inl ro_w)))]) := hR.2.1.push hR.1 rfl (Nat.le_trans C.2.2.2.2.2.2.2.1 hR.2.2.1)
  have hS1 : va_S (fun q : Nat => β ≤ q) s.heap H1 locs := ⟨Nat.le_trans hR.2.2.1 (by omega), fun y h1 h2 => (o1 y (Nat.lt_of_lt_of_le h1 hR.2.2.1)).trans (hR.2.2.2.1 y h1 h2), hR.2.2.2.2⟩
  have K := grow (N := 8) C hA hk (Nat.le_of_ble_eq_true hlt) hwf ⟨b1, b2⟩ ha hn hl hc hs (c0 := .inr (0, 8, .inl ro_w)) rfl hP1 hD1 hS1 k
  obtain ⟨t, b1, b2⟩ := K ((T.setVm vm').pushCell (vp_cell (dA 0) (8, .inl ro_w))) (by rw [← hH1, ← hT]; rfl) Y'
  refine ⟨t, st t ?_, b2⟩
  rw [hsl, hT]
  exact b1
theorem a_castI {i o : Nat} {x : vp_A} (q : (decide (mi < 235) && decide (decode (mB mi) pc = .ok (.checkcast i, 3)) && decide (Cond.classLink (mY mi).cls i "[I" ∈ tables_1)) = true) (ho : h[o]? = some (.inr (0, x))) (k : AW X mi (pc + 3) lv (.ref o :: rest) h bc bs Q) : AW X mi pc lv (.ref o :: rest) h bc bs Q := by
  intro n0 p l e R s m args below meth c β D dA ad0 sa Qf C ad H locs cells slots ls ha hn hR hl hc hs
  simp only [Bool.and_eq_true, decide_eq_true_eq] at q
  obtain ⟨⟨hm, d⟩, hlk⟩ := q
  refine va_castA C.1 C.2.1 C.2.2.2.1 (C.2.2.2.2.1 _ (xu_t hlk rfl)) hR.1 o (cW_get ho) (va_nm_int ((C.2.2.2.2.2.2.1.1.2 0 _ (tyl_at dA 0 (by omega))).2)) d ?_
  exact k n0 p l e R s m args below meth c β D dA ad0 sa Qf C ad H locs cells slots ls ha hn hR hl hc hs
end ALLOC
end
section
/-! a call whose exceptions the method catches: each handler keeps the exception in a local that nobody reads -/
/-- a handler: its exception, its place, the local, the length of the store -/
abbrev hT : Type := Nat × Nat × Nat × Nat
def hB (mi pc : Nat) (z : hT) (x : Nat × Nat × Nat × Nat) : Bool := Nat.ble x.1 pc && Nat.ble (pc + 1) x.2.1 && decide (x.2.2.1 = z.2.1) && !(decide (x.2.2.2 = 0)) && (lks (mD mi)).contains (x.2.2.2, 5, 100 + z.1, 0) && decide (z.1 < 6) && Nat.ble (z.2.2.1 + 1) (mL mi) &&
  ((decide (z.2.2.2 = 2) && decide (decode (mB mi) z.2.1 = .ok (.astore z.2.2.1, 2))) || (decide (z.2.2.2 = 1) && ((decide (z.2.2.1 = 2) && decide (decode (mB mi) z.2.1 = .ok (.astore_n 2, 1))) || (decide (z.2.2.1 = 3) && decide (decode (mB mi) z.2.1 = .ok (.astore_n 3, 1))))))
/-- the handlers that a call at pc has: one or two -/
def hC (mi pc : Nat) (zs : List hT) : Bool := match mH mi, zs with
  | [x], [z] => hB mi pc z x
  | [x, y], [z, w] => hB mi pc z x && hB mi pc w y && decide ((exN.getD w.1 "", exN.getD z.1 "") ∈ NCL)
  | _, _ => false
def HK (X : XS) (mi pc : Nat) (lv : List (Nat × Value)) (rest : List Value) (bc bs : Nat) (zs : List hT) (Q : AO → AH → Prop) (o : AO) (h : AH) : Prop := match o with
  | .inl none => AW X mi (pc + 3) lv rest h bc bs Q
  | .inl (some v) => AW X mi (pc + 3) lv (v :: rest) h bc bs Q
  | .inr en => ∃ z ∈ zs, z.1 = en ∧ AW X mi (z.2.1 + z.2.2.2) (stf 1 z.2.2.1 lv) [] h bc bs Q
section HRUN
variable {X : XS} {mi mj pc : Nat} {lv : List (Nat × Value)} {rest : List Value} {h : AH} {bc bs : Nat} {Q : AO → AH → Prop} {n0 : Nat} {p : Program} {l : Launch} {e : Env} {R : Room} {s : State} {m : MethodId} {args : Array Value} {below : List Frame} {meth : Method} {c : Code} {β : Nat} {D : va_G} {dA : Nat → ClassId} {ad0 sa : Nat → Nat} {Qf : State → Prop}
/-- one handler takes what it is for -/
theorem h_take (C : Cx X mi Q n0 p l e R s m args below meth c β D dA ad0 sa Qf) (hm : mi < 235) {z : hT} {x : Nat × Nat × Nat × Nat} {pre suf : List ExceptionTableEntry} (hB1 : hB mi pc z x = true) (hsp : tableOf (mH mi) = pre ++ ⟨x.1, x.2.1, x.2.2.1, x.2.2.2⟩ :: suf)
    (hpass : ∀ y ∈ pre, covers y pc = false ∨ (y.catchType ≠ 0 ∧ ∃ nm : String, (Cond.classLink (mY mi).cls y.catchType nm).before args s = true ∧ va_Nc (exN.getD z.1 "") nm s)) {ad : Nat → Nat} {H : Heap} {locs : List Loc} {cells slots : Nat} {ls : Array Slot} {st : List Value} {q : Nat} {ce : Cell}
    (ha : adOk mi n0 ad0 ad) (hn : n0 ≤ h.length) (hR : HR D dA β ad h s.heap H locs) (hl : lv_has ls (mL mi) (tl ad lv)) (hc : cells + bc ≤ R.cells) (hs : slots + bs ≤ R.slots) (hce : H[q]? = some ce) (hcv : ce.vm = .none) (hcl : s.vm.findClass (exN.getD z.1 "") = some ce.cls)
    (k : AW X mi (z.2.1 + z.2.2.2) (stf 1 z.2.2.1 lv) [] h bc bs Q) : vx_W p l e R s m args below meth c H locs cells slots Qf (F0 m pc ls st) q := by
  simp only [hB, Bool.and_eq_true, Bool.or_eq_true, decide_eq_true_eq, Bool.not_eq_true', decide_eq_false_iff_not] at hB1
  obtain ⟨⟨⟨⟨⟨⟨⟨b1, b2⟩, b3⟩, b4⟩, b5⟩, b6⟩, b7⟩, b8⟩ := hB1
  have hlink := lk_bef hm b5 (Nat.le_of_ble_eq_true rfl) C.2.2.2.2.1
  simp only [lkw] at hlink
  rw [if_neg (by omega), show 100 + z.1 - 100 = z.1 by omega, dN_ok2 mi hm] at hlink
  have hat := at_ok z.1 b6
  simp only [atB, Bool.and_eq_true, decide_eq_true_eq] at hat
  have hcast : (Cond.castable (exN.getD z.1 "") (exN.getD z.1 "")).before args s = true := va_Nw.use rfl (C.2.2.2.2.2.2.1.2.2.2.2.2.2.1 _ (List.mem_filter.mpr ⟨hat.1.2, rfl⟩))
  refine vx_catch C.2.2.2.1 pre ⟨x.1, x.2.1, x.2.2.1, x.2.2.2⟩ suf (by rw [C.2.2.2.2.2.2.2.2.2.2.1]; exact hsp) hpass (by
      show (decide (x.1 ≤ pc) && decide (pc < x.2.1)) = true
      have c1 := Nat.le_of_ble_eq_true b1
      have c2 := Nat.le_of_ble_eq_true b2
      simp only [Bool.and_eq_true, decide_eq_true_eq]
      omega) b4 hlink hcast hce hcv hcl ?_
  show W p l e R s m args below meth c H locs cells slots Qf (F0 m x.2.2.1 ls [.ref q])
  rw [b3]
  have fin : ∀ ls' : Array Slot, lv_has ls' (mL mi) ((z.2.2.1, Value.ref q) :: (tl ad lv).filter (fun q => !(q.1 == z.2.2.1) && !(q.1 + 1 == z.2.2.1 && q.2.category == 2))) → lv_has ls' (mL mi) (tl ad (stf 1 z.2.2.1 lv)) := by
    intro ls' hl'
    refine ⟨hl'.1, hl'.2.1, fun y hy => ?_⟩
    obtain ⟨w, hw, rfl⟩ := List.mem_map.mp hy
    obtain ⟨g1, g2⟩ := stf_in hw
    refine hl'.2.2 _ (List.mem_cons_of_mem _ (List.mem_filter.mpr ⟨List.mem_map.mpr ⟨w, g1, rfl⟩, ?_⟩))
    simp only [klp, Bool.or_eq_false_iff, Bool.and_eq_false_iff] at g2
    obtain ⟨⟨h1, h2⟩, -⟩ := g2
    have e1 : ¬ w.1 = z.2.2.1 := Nat.ne_of_beq_eq_false h1
    simp only [Bool.and_eq_true, Bool.not_eq_true', beq_eq_false_iff_ne, ne_eq, Bool.and_eq_false_iff]
    refine ⟨e1, ?_⟩
    rcases h2 with h2 | h2
    · exact Or.inl (Nat.ne_of_beq_eq_false h2)
    · exact Or.inr (by rw [tv_cat]; exact Nat.ne_of_beq_eq_false h2)
  have kk := fun ls' hl' => k n0 p l e R s m args below meth c β D dA ad0 sa Qf C ad H locs cells slots ls' ha hn hR (fin ls' hl') hc hs
  rcases b8 with ⟨d2, d3⟩ | ⟨d2, ⟨d3, d4⟩ | ⟨d3, d4⟩⟩
  · rw [d2] at kk
    exact lv_astore C.1 C.2.1 d3 hl (Nat.le_of_ble_eq_true b7) rfl kk
  · rw [d2] at kk
    exact lv_astore_n C.1 C.2.1 d4 d3.symm hl (Nat.le_of_ble_eq_true b7) rfl kk
  · rw [d2] at kk
    exact lv_astore_n C.1 C.2.1 d4 d3.symm hl (Nat.le_of_ble_eq_true b7) rfl kk
theorem run_goH {zs : List hT} (hz : hC mi pc zs = true) (hm : mi < 235) (C : Cx X mi Q n0 p l e R s m args below meth c β D dA ad0 sa Qf) {ad : Nat → Nat} {H : Heap} {locs : List Loc} {cells slots : Nat} {ls : Array Slot} {st0 : List Value} {a : Array Value} (ha : adOk mi n0 ad0 ad) (hn : n0 ≤ h.length) (hR : HR D dA β ad h s.heap H locs) (hl : lv_has ls (mL mi) (tl ad lv)) (hc : cells + bc ≤ R.cells) (hs : slots + bs ≤ R.slots) (hb : mC mj ≤ bc ∧ mS mj ≤ bs) (hA : mA mj = 0)
    (hr : vx_Run p l e R s m args below meth c H locs cells slots (mC mj) (mS mj) (F0 m pc ls st0) (rest.map (tv ad)) (CQ mj h.length β D dA ad (HK X mi pc lv rest (bc - mC mj) (bs - mS mj) zs Q) a) (CX mj h.length β D dA ad (HK X mi pc lv rest (bc - mC mj) (bs - mS mj) zs Q)) (fun q : Nat => β ≤ q)) :
    W p l e R s m args below meth c H locs cells slots Qf (F0 m pc ls st0) := by
  intro T hT Y
  rcases hr T hT Y with ⟨v, st₀, t, T', L, h0, Y', hL, e1, e2, ⟨⟨v', h', ad', hv, hQ, hadk, hlen', hP', hD'⟩, hF⟩, st⟩ | ⟨q, st₀, t, T', L, E, ce, h0, Y', hL, e1, e2, ⟨⟨en, h', ad', hE, hQ, hadk, hlen', hP', hD'⟩, hF⟩, hce, hcv, hcl, st⟩
  · obtain ⟨k1, k2, k3⟩ := vx_keep h0 e1 hR.2.2 (fun _ _ z => z) (fun _ z => z) hL hF
    have e9 := hadk.1 hA
    subst e9
    have hR' : HR D dA β ad' h' s.heap T'.heap (locs ++ L) := ⟨by rw [e1]; exact hP', hD', k3⟩
    cases v' with
    | none =>
      cases hv
      have k : AW X mi (pc + 3) lv rest h' (bc - mC mj) (bs - mS mj) Q := hQ
      obtain ⟨t2, a1, b1⟩ := k n0 p l e R s m args below meth c β D dA ad0 sa Qf C ad' T'.heap (locs ++ L) (cells + mC mj) (slots + mS mj) ls ha (Nat.le_trans hn hlen') hR' hl (by omega) (by omega) T' rfl Y'
      exact ⟨t2, st t2 a1, b1⟩
    | some v1 =>
      cases hv
      have k : AW X mi (pc + 3) lv (v1 :: rest) h' (bc - mC mj) (bs - mS mj) Q := hQ
      obtain ⟨t2, a1, b1⟩ := k n0 p l e R s m args below meth c β D dA ad0 sa Qf C ad' T'.heap (locs ++ L) (cells + mC mj) (slots + mS mj) ls ha (Nat.le_trans hn hlen') hR' hl (by omega) (by omega) T' rfl Y'
      exact ⟨t2, st t2 a1, b1⟩
  · obtain ⟨k1, k2, k3⟩ := vx_keep h0 e1 hR.2.2 (fun _ _ z => z) (fun _ z => z) hL hF
    have e9 := hadk.1 hA
    subst e9
    have hR' : HR D dA β ad' h' s.heap T'.heap (locs ++ L) := ⟨by rw [e1]; exact hP', hD', k3⟩
    obtain ⟨z, hzs, rfl, k⟩ : ∃ z ∈ zs, z.1 = en ∧ AW X mi (z.2.1 + z.2.2.2) (stf 1 z.2.2.1 lv) [] h' (bc - mC mj) (bs - mS mj) Q := hQ
    have go : vx_W p l e R s m args below meth c T'.heap (locs ++ L) (cells + mC mj) (slots + mS mj) Qf (F0 m pc ls (rest.map (tv ad'))) q := by
      have hce' : T'.heap[q]? = some ce := by rw [e1]; exact hce
      have hcl' : s.vm.findClass (exN.getD z.1 "") = some ce.cls := by rw [← hE]; exact hcl
      unfold hC at hz
      split at hz
      · rename_i x z1 hmH
        rw [List.mem_singleton] at hzs
        subst hzs
        exact h_take C hm (pre := []) (suf := []) hz (by rw [hmH]; rfl) (fun y hy => nomatch hy) ha (Nat.le_trans hn hlen') hR' hl (by omega) (by omega) hce' hcv hcl' k
      · rename_i x y z1 w1 hmH
        simp only [Bool.and_eq_true, decide_eq_true_eq] at hz
        obtain ⟨⟨hz1, hz2⟩, hz3⟩ := hz
        rcases List.mem_cons.mp hzs with rfl | hzs
        · exact h_take C hm (pre := []) (suf := [⟨y.1, y.2.1, y.2.2.1, y.2.2.2⟩]) hz1 (by rw [hmH]; rfl) (fun y hy => nomatch hy) ha (Nat.le_trans hn hlen') hR' hl (by omega) (by omega) hce' hcv hcl' k
        · rw [List.mem_singleton] at hzs
          subst hzs
          refine h_take C hm (pre := [⟨x.1, x.2.1, x.2.2.1, x.2.2.2⟩]) (suf := []) hz2 (by rw [hmH]; rfl) (fun y hy => ?_) ha (Nat.le_trans hn hlen') hR' hl (by omega) (by omega) hce' hcv hcl' k
          rw [List.mem_singleton] at hy
          subst hy
          simp only [hB, Bool.and_eq_true, Bool.or_eq_true, decide_eq_true_eq, Bool.not_eq_true', decide_eq_false_iff_not] at hz1
          obtain ⟨⟨⟨⟨⟨⟨⟨b1, b2⟩, b3⟩, b4⟩, b5⟩, b6⟩, b7⟩, b8⟩ := hz1
          have hlink := lk_bef hm b5 (Nat.le_of_ble_eq_true rfl) C.2.2.2.2.1
          simp only [lkw] at hlink
          rw [if_neg (by omega), show 100 + z1.1 - 100 = z1.1 by omega, dN_ok2 mi hm] at hlink
          exact Or.inr ⟨b4, _, hlink, C.2.2.2.2.2.2.1.2.2.2.2.2.2.2.1 _ hz3⟩
      · cases hz
    obtain ⟨t2, a1, b1⟩ := go T' rfl Y'
    exact ⟨t2, st.trans a1, b1⟩
end HRUN
theorem a_callVH {X : XS} {mi mj pc i n : Nat} {lv : List (Nat × Value)} {rest : List Value} {h : AH} {bc bs : Nat} {Q : AO → AH → Prop} {as : List Value} {o : Nat} {fs : List Value} {zs : List hT} (q : (cfB mi pc i mj 1 4 n && hC mi pc zs) = true) (hn' : as.length = n) (ho : h[o]? = some (.inl (mO mj, fs))) (hw : Nat.ble (rest.map fun v => v.category).sum 8 = true) (hb : Nat.ble (mC mj) bc = true ∧ Nat.ble (mS mj) bs = true)
    (hA : mA mj = 0) (k : Call X mj (.ref o :: as) h (HK X mi pc lv rest (bc - mC mj) (bs - mS mj) zs Q)) : AW X mi pc lv (as.reverse ++ .ref o :: rest) h bc bs Q := by
  intro n0 p l e R s m args below meth c β D dA ad0 sa Qf C ad H locs cells slots ls ha hn hR hl hc hs
  rw [Bool.and_eq_true] at q
  obtain ⟨q, hz⟩ := q
  simp only [cfB, Bool.and_eq_true, decide_eq_true_eq] at q
  obtain ⟨⟨⟨⟨⟨⟨⟨⟨hm, hj⟩, d⟩, hlk⟩, hkd⟩, hnn⟩, hv⟩, hH⟩, hne⟩ := q
  have hts := C.2.2.2.2.1
  obtain ⟨-, hy2, hy3, hy4⟩ := yw mj hj
  have hy5 : Cond.instanceMethod (mY mj) ∈ XU ∧ Cond.selects (mY mj).cls (mY mj) (mY mj) ∈ XU ∧ (kC (mO mj)).1 = (mY mj).cls ∧ mO mj < 9 := by
    unfold yw_k at hy4
    rw [hkd] at hy4
    exact hy4
  obtain ⟨hi1, hi2, hi3, hi4⟩ := hy5
  have hrm := room_ok (R := R) hj hv C.2.2.2.2.2.2.2.2.2.1
  have hM := k l β D dA ad sa C.2.2.2.2.2.1
  have hstk : List.map (tv ad) (as.reverse ++ .ref o :: rest) = (as.map (tv ad)).reverse ++ .ref (ad o) :: rest.map (tv ad) := by rw [List.map_append, List.map_reverse, List.map_cons]; rfl
  rw [hstk]
  refine run_goH (lv := lv) (rest := rest) (bc := bc) (bs := bs) hz hm C ha hn hR hl hc hs ⟨Nat.le_of_ble_eq_true hb.1, Nat.le_of_ble_eq_true hb.2⟩ hA (a := (Value.ref (ad o) :: as.map (tv ad)).toArray) ?_
  have hrv := va_recv C.2.2.2.2.2.2.1.1 hR.1 (kok (mO mj) hi4).1 (cW_get ho)
  rw [hi3] at hrv
  have hp : PreV s H (mY mj).cls (ad o) (va_Pc ((Value.ref o :: as).map (tv ad)) (CP X β D dA ad sa h)) (as.map (tv ad)) := ⟨CP_blind, hrv, fun U hU hW => ⟨rfl, CP_at C ha hR U hU hW⟩⟩
  have hrest : ((rest.map (tv ad)).map fun v => v.category).sum ≤ 8 := by
    rw [List.map_map]
    have := Nat.le_of_ble_eq_true hw
    simpa [Function.comp_def, tv_cat] using this
  have hf : cells + mC mj ≤ R.cells ∧ slots + mS mj ≤ R.slots := ⟨by have := Nat.le_of_ble_eq_true hb.1; omega, by have := Nat.le_of_ble_eq_true hb.2; omega⟩
  have hlink := lk_bef hm hlk (Nat.le_of_ble_eq_true rfl) hts
  simp only [lkw] at hlink
  rw [dN_ok2 mi hm] at hlink
  exact vx_runV ⟨C.1, C.2.1, C.2.2.1, C.2.2.2.1, hts⟩ hM ⟨callB_of n hts (mW_good hj) (by rw [mW_code hH]) rfl rfl (hts _ hy3) hlink (desc_ok hj hnn) hrm, hts _ hi1, hts _ hi2⟩ hp rfl (by rw [List.length_map]; exact hn') hl.1 rfl (lv_room hrest) d hf
/-- a static call of a method with handlers of its own -/
def cfW (mi pc i mj n : Nat) : Bool := decide (mi < 235) && decide (mj < 234) && decide (decode (mB mi) pc = .ok (.invokestatic i, 3)) && (lks (mD mi)).contains (i, 4, mj, 0) && decide (mK mj = 0) && decide (mN mj = n) && decide (mV mj + 1 ≤ mV mi) && !(decide (mH mj = []))
theorem a_callSW {X : XS} {mi mj pc i n : Nat} {lv : List (Nat × Value)} {rest : List Value} {h : AH} {bc bs : Nat} {Q : AO → AH → Prop} {as : List Value} (q : cfW mi pc i mj n = true) (hn' : as.length = n) (hw : Nat.ble (rest.map fun v => v.category).sum 8 = true) (hb : Nat.ble (mC mj) bc = true ∧ Nat.ble (mS mj) bs = true) (hA : mA mj = 0)
    (k : Call X mj as h (CK X mi pc lv rest (bc - mC mj) (bs - mS mj) Q)) : AW X mi pc lv (as.reverse ++ rest) h bc bs Q := by
  intro n0 p l e R s m args below meth c β D dA ad0 sa Qf C ad H locs cells slots ls ha hn hR hl hc hs
  simp only [cfW, Bool.and_eq_true, decide_eq_true_eq, Bool.not_eq_true', decide_eq_false_iff_not] at q
  obtain ⟨⟨⟨⟨⟨⟨⟨hm, hj⟩, d⟩, hlk⟩, hkd⟩, hnn⟩, hv⟩, hH⟩ := q
  have hts := C.2.2.2.2.1
  obtain ⟨-, hy2, hy3, hy4⟩ := yw mj hj
  have hstt : (Cond.static (mY mj)).before args s = true := by
    unfold yw_k at hy4
    rw [hkd] at hy4
    exact hts _ hy4
  have hrm := room_ok (R := R) hj hv C.2.2.2.2.2.2.2.2.2.1
  have hM := k l β D dA ad sa C.2.2.2.2.2.1
  have hstk : List.map (tv ad) (as.reverse ++ rest) = (as.map (tv ad)).reverse ++ rest.map (tv ad) := by rw [List.map_append, List.map_reverse]
  rw [hstk]
  refine run_go (lv := lv) (rest := rest) (bc := bc) (bs := bs) C ha hn hR hl hc hs ⟨Nat.le_of_ble_eq_true hb.1, Nat.le_of_ble_eq_true hb.2⟩ (Or.inl hA) (a := (as.map (tv ad)).toArray) ?_
  have hp : PreS s H (va_Pc (as.map (tv ad)) (CP X β D dA ad sa h)) (as.map (tv ad)) := ⟨CP_blind, fun U hU hW => ⟨rfl, CP_at C ha hR U hU hW⟩⟩
  have hrest : ((rest.map (tv ad)).map fun v => v.category).sum ≤ 8 := by
    rw [List.map_map]
    have := Nat.le_of_ble_eq_true hw
    simpa [Function.comp_def, tv_cat] using this
  have hf : cells + mC mj ≤ R.cells ∧ slots + mS mj ≤ R.slots := ⟨by have := Nat.le_of_ble_eq_true hb.1; omega, by have := Nat.le_of_ble_eq_true hb.2; omega⟩
  have hlink := lk_bef hm hlk (Nat.le_of_ble_eq_true rfl) hts
  simp only [lkw] at hlink
  rw [dN_ok2 mi hm] at hlink
  have hcw : Cond.codeWith (mY mj) (mB mj) (mL mj) (mR mj) (mH mj) ∈ mW mj :: XU := by rw [← mW_with hH]; exact List.mem_cons_self
  have hdk := desc_ok hj hnn
  exact vx_runSX ⟨C.1, C.2.1, C.2.2.1, C.2.2.2.1, hts⟩ hM ⟨⟨rfl, rfl, hrm.1, hrm.2, pay_in hts (mW_good hj), hcw⟩, by rw [← mW_with hH]; exact hts _ hy2, hts _ hy3, ⟨hdk.1, hdk.2.1⟩, fun sig hsg => by
    have h2 := hdk.2.2
    rw [hsg] at h2
    exact (Option.some.inj h2).symm, hlink, hstt⟩ hp rfl (by rw [List.length_map]; exact hn') hl.1 rfl (lv_room hrest) d hf
end
section
/-! what each instruction is, method by method (by program) -/
def thB (mi pc en si ik is : Nat) (w : Bool) : Bool := decide (en < 6) && (match stN[si]? with | some z => decide (z.1 = (mY mi).cls) && decide (z.2.1 = is) | none => false) && decide ((mY mi).cls = "Plotwise") && decide (mH mi = []) && decide (6 ≤ mV mi) && decide ((ik, 5, 100 + en, 0) ∈ lks (mD mi)) && decide (dN (mD mi) = (mY mi).cls) &&
  decide (decode (mB mi) pc = .ok (.new ik, 3)) && decide (decode (mB mi) (pc + 3) = .ok (.dup, 1)) &&
  (if w then decide (decode (mB mi) (pc + 4) = .ok (.ldc_w is, 3)) && decide (decode (mB mi) (pc + 7) = .ok (.invokespecial (exI.getD en 0), 3)) && decide (decode (mB mi) (pc + 10) = .ok (.athrow, 1))
   else decide (decode (mB mi) (pc + 4) = .ok (.ldc is, 2)) && decide (decode (mB mi) (pc + 6) = .ok (.invokespecial (exI.getD en 0), 3)) && decide (decode (mB mi) (pc + 9) = .ok (.athrow, 1)))
theorem th_of {mi pc en si ik is : Nat} {w : Bool} (h : thB mi pc en si ik is w = true) : thI mi pc en si := by
  simp only [thB, Bool.and_eq_true, decide_eq_true_eq] at h
  obtain ⟨⟨⟨⟨⟨⟨⟨⟨⟨h1, h2⟩, h3⟩, h4⟩, h5⟩, h6⟩, h7⟩, h8⟩, h9⟩, h10⟩ := h
  cases hz : stN[si]? with
  | none => rw [hz] at h2; cases h2
  | some z =>
    obtain ⟨z1, z2, z3⟩ := z
    rw [hz] at h2
    simp only [Bool.and_eq_true, decide_eq_true_eq] at h2
    obtain ⟨rfl, rfl⟩ := h2
    refine ⟨ik, z2, z3, h1, hz, h3, h4, h5, h6, h7, h8, h9, ?_⟩
    cases w with
    | true => simp only [if_true, Bool.and_eq_true, decide_eq_true_eq] at h10; exact Or.inr ⟨h10.1.1, h10.1.2, h10.2⟩
    | false => simp only [Bool.false_eq_true, if_false, Bool.and_eq_true, decide_eq_true_eq] at h10; exact Or.inl ⟨h10.1.1, h10.1.2, h10.2⟩

theorem q0_0 : decode (mB 0) 0 = .ok (.aload_n 0, 1) := by decide +kernel
theorem q0_1 : (decide (0 < 235) && decide (decode (mB 0) 1 = .ok (.invokespecial 1, 3)) && (lks (mD 0)).contains (1, 2, 0, 0) && decide (1 ≤ mV 0)) = true := by decide +kernel
theorem q0_4 : decode (mB 0) 4 = .ok (.aload_n 0, 1) := by decide +kernel
theorem q0_5 : decode (mB 0) 5 = .ok (.iconst 5, 1) := by decide +kernel
theorem q0_6 : naB 0 6 1 = true := by decide +kernel
theorem q0_8 : pfB 0 8 9 0 0 = true := by decide +kernel
theorem q0_11 : decode (mB 0) 11 = .ok (.return_, 1) := by decide +kernel
theorem q1_0 : decode (mB 1) 0 = .ok (.aload_n 0, 1) := by decide +kernel
theorem q1_1 : gfB 1 1 13 0 1 = true := by decide +kernel
theorem q1_4 : decode (mB 1) 4 = .ok (.ireturn, 1) := by decide +kernel
theorem q2_0 : decode (mB 2) 0 = .ok (.iload_n 1, 1) := by decide +kernel
theorem q2_1 : decode (mB 2) 1 = .ok (.ifCond .lt 24, 3) := by decide +kernel
theorem q2_4 : decode (mB 2) 4 = .ok (.iload_n 1, 1) := by decide +kernel
theorem q2_5 : decode (mB 2) 5 = .ok (.aload_n 0, 1) := by decide +kernel
theorem q2_6 : gfB 2 6 13 0 1 = true := by decide +kernel
theorem q2_9 : decode (mB 2) 9 = .ok (.if_icmp .ge 16, 3) := by decide +kernel
theorem q2_12 : decode (mB 2) 12 = .ok (.iload_n 1, 1) := by decide +kernel
theorem q2_13 : decode (mB 2) 13 = .ok (.aload_n 0, 1) := by decide +kernel
theorem q2_14 : gfB 2 14 9 0 0 = true := by decide +kernel
theorem q2_17 : decode (mB 2) 17 = .ok (.arraylength, 1) := by decide +kernel
theorem q2_18 : decode (mB 2) 18 = .ok (.if_icmp .ge 7, 3) := by decide +kernel
theorem q2_21 : decode (mB 2) 21 = .ok (.iconst 1, 1) := by decide +kernel
theorem q2_22 : decode (mB 2) 22 = .ok (.goto 4, 3) := by decide +kernel
theorem q2_25 : decode (mB 2) 25 = .ok (.iconst 0, 1) := by decide +kernel
theorem q2_26 : decode (mB 2) 26 = .ok (.ireturn, 1) := by decide +kernel
theorem q3_0 : decode (mB 3) 0 = .ok (.aload_n 0, 1) := by decide +kernel
theorem q3_1 : decode (mB 3) 1 = .ok (.iload_n 1, 1) := by decide +kernel
theorem q3_2 : cfB 3 2 17 2 1 4 1 = true := by decide +kernel
theorem q3_5 : decode (mB 3) 5 = .ok (.ifCond .eq 12, 3) := by decide +kernel
theorem q3_8 : decode (mB 3) 8 = .ok (.aload_n 0, 1) := by decide +kernel
theorem q3_9 : gfB 3 9 9 0 0 = true := by decide +kernel
theorem q3_12 : decode (mB 3) 12 = .ok (.iload_n 1, 1) := by decide +kernel
theorem q3_13 : decode (mB 3) 13 = .ok (.laload, 1) := by decide +kernel
theorem q3_14 : decode (mB 3) 14 = .ok (.goto 4, 3) := by decide +kernel
theorem q3_17 : decode (mB 3) 17 = .ok (.lconst 0, 1) := by decide +kernel
theorem q3_18 : decode (mB 3) 18 = .ok (.lreturn, 1) := by decide +kernel
theorem q4_0 : decode (mB 4) 0 = .ok (.aload_n 0, 1) := by decide +kernel
theorem q4_1 : decode (mB 4) 1 = .ok (.iload_n 1, 1) := by decide +kernel
theorem q4_2 : cfB 4 2 21 3 1 4 1 = true := by decide +kernel
theorem q4_5 : cfB 4 5 25 45 0 4 1 = true := by decide +kernel
theorem q4_8 : decode (mB 4) 8 = .ok (.ireturn, 1) := by decide +kernel
theorem q5_0 : decode (mB 5) 0 = .ok (.aload_n 0, 1) := by decide +kernel
theorem q5_1 : decode (mB 5) 1 = .ok (.iconst 0, 1) := by decide +kernel
theorem q5_2 : pfB 5 2 13 0 1 = true := by decide +kernel
theorem q5_5 : decode (mB 5) 5 = .ok (.return_, 1) := by decide +kernel
theorem q6_0 : decode (mB 6) 0 = .ok (.aload_n 0, 1) := by decide +kernel
theorem q6_1 : gfB 6 1 13 0 1 = true := by decide +kernel
theorem q6_4 : decode (mB 6) 4 = .ok (.iconst 5, 1) := by decide +kernel
theorem q6_5 : decode (mB 6) 5 = .ok (.if_icmp .lt 18, 3) := by decide +kernel
theorem q6_8 : decode (mB 6) 8 = .ok (.lload_n 1, 1) := by decide +kernel
theorem q6_9 : decode (mB 6) 9 = .ok (.aload_n 0, 1) := by decide +kernel
theorem q6_10 : gfB 6 10 9 0 0 = true := by decide +kernel
theorem q6_13 : decode (mB 6) 13 = .ok (.iconst 4, 1) := by decide +kernel
theorem q6_14 : decode (mB 6) 14 = .ok (.laload, 1) := by decide +kernel
theorem q6_15 : decode (mB 6) 15 = .ok (.lcmp, 1) := by decide +kernel
theorem q6_16 : decode (mB 6) 16 = .ok (.ifCond .lt 7, 3) := by decide +kernel
theorem q6_19 : decode (mB 6) 19 = .ok (.iconst 1, 1) := by decide +kernel
theorem q6_20 : decode (mB 6) 20 = .ok (.goto 4, 3) := by decide +kernel
theorem q6_23 : decode (mB 6) 23 = .ok (.iconst 0, 1) := by decide +kernel
theorem q6_24 : decode (mB 6) 24 = .ok (.ireturn, 1) := by decide +kernel
theorem q7_0 : decode (mB 7) 0 = .ok (.aload_n 0, 1) := by decide +kernel
theorem q7_1 : decode (mB 7) 1 = .ok (.lload_n 1, 1) := by decide +kernel
theorem q7_2 : cfB 7 2 31 6 1 4 1 = true := by decide +kernel
theorem q7_5 : decode (mB 7) 5 = .ok (.ifCond .eq 4, 3) := by decide +kernel
theorem q7_8 : decode (mB 7) 8 = .ok (.return_, 1) := by decide +kernel
theorem q7_9 : decode (mB 7) 9 = .ok (.aload_n 0, 1) := by decide +kernel
theorem q7_10 : gfB 7 10 13 0 1 = true := by decide +kernel
theorem q7_13 : decode (mB 7) 13 = .ok (.iconst 5, 1) := by decide +kernel
theorem q7_14 : decode (mB 7) 14 = .ok (.if_icmp .ge 13, 3) := by decide +kernel
theorem q7_17 : decode (mB 7) 17 = .ok (.aload_n 0, 1) := by decide +kernel
theorem q7_18 : decode (mB 7) 18 = .ok (.dup, 1) := by decide +kernel
theorem q7_19 : gfB 7 19 13 0 1 = true := by decide +kernel
theorem q7_22 : decode (mB 7) 22 = .ok (.iconst 1, 1) := by decide +kernel
theorem q7_23 : decode (mB 7) 23 = .ok (.iadd, 1) := by decide +kernel
theorem q7_24 : pfB 7 24 13 0 1 = true := by decide +kernel
theorem q7_27 : decode (mB 7) 27 = .ok (.aload_n 0, 1) := by decide +kernel
theorem q7_28 : gfB 7 28 13 0 1 = true := by decide +kernel
theorem q7_31 : decode (mB 7) 31 = .ok (.iconst 1, 1) := by decide +kernel
theorem q7_32 : decode (mB 7) 32 = .ok (.isub, 1) := by decide +kernel
theorem q7_33 : decode (mB 7) 33 = .ok (.istore_n 3, 1) := by decide +kernel
theorem q7_34 : decode (mB 7) 34 = .ok (.iload_n 3, 1) := by decide +kernel
theorem q7_35 : decode (mB 7) 35 = .ok (.ifCond .le 45, 3) := by decide +kernel
theorem q7_38 : decode (mB 7) 38 = .ok (.iload_n 3, 1) := by decide +kernel
theorem q7_39 : decode (mB 7) 39 = .ok (.aload_n 0, 1) := by decide +kernel
theorem q7_40 : gfB 7 40 9 0 0 = true := by decide +kernel
theorem q7_43 : decode (mB 7) 43 = .ok (.arraylength, 1) := by decide +kernel
theorem q7_44 : decode (mB 7) 44 = .ok (.if_icmp .ge 36, 3) := by decide +kernel
theorem q7_47 : decode (mB 7) 47 = .ok (.aload_n 0, 1) := by decide +kernel
theorem q7_48 : gfB 7 48 9 0 0 = true := by decide +kernel
theorem q7_51 : decode (mB 7) 51 = .ok (.iload_n 3, 1) := by decide +kernel
theorem q7_52 : decode (mB 7) 52 = .ok (.iconst 1, 1) := by decide +kernel
theorem q7_53 : decode (mB 7) 53 = .ok (.isub, 1) := by decide +kernel
theorem q7_54 : decode (mB 7) 54 = .ok (.laload, 1) := by decide +kernel
theorem q7_55 : decode (mB 7) 55 = .ok (.lload_n 1, 1) := by decide +kernel
theorem q7_56 : decode (mB 7) 56 = .ok (.lcmp, 1) := by decide +kernel
theorem q7_57 : decode (mB 7) 57 = .ok (.ifCond .le 23, 3) := by decide +kernel
theorem q7_60 : decode (mB 7) 60 = .ok (.aload_n 0, 1) := by decide +kernel
theorem q7_61 : gfB 7 61 9 0 0 = true := by decide +kernel
theorem q7_64 : decode (mB 7) 64 = .ok (.iload_n 3, 1) := by decide +kernel
theorem q7_65 : decode (mB 7) 65 = .ok (.aload_n 0, 1) := by decide +kernel
theorem q7_66 : gfB 7 66 9 0 0 = true := by decide +kernel
theorem q7_69 : decode (mB 7) 69 = .ok (.iload_n 3, 1) := by decide +kernel
theorem q7_70 : decode (mB 7) 70 = .ok (.iconst 1, 1) := by decide +kernel
theorem q7_71 : decode (mB 7) 71 = .ok (.isub, 1) := by decide +kernel
theorem q7_72 : decode (mB 7) 72 = .ok (.laload, 1) := by decide +kernel
theorem q7_73 : decode (mB 7) 73 = .ok (.lastore, 1) := by decide +kernel
theorem q7_74 : decode (mB 7) 74 = .ok (.iinc 3 (-1), 3) := by decide +kernel
theorem q7_77 : decode (mB 7) 77 = .ok (.goto (-43), 3) := by decide +kernel
theorem q7_80 : decode (mB 7) 80 = .ok (.aload_n 0, 1) := by decide +kernel
theorem q7_81 : decode (mB 7) 81 = .ok (.iload_n 3, 1) := by decide +kernel
theorem q7_82 : cfB 7 82 17 2 1 4 1 = true := by decide +kernel
theorem q7_85 : decode (mB 7) 85 = .ok (.ifCond .eq 10, 3) := by decide +kernel
theorem q7_88 : decode (mB 7) 88 = .ok (.aload_n 0, 1) := by decide +kernel
theorem q7_89 : gfB 7 89 9 0 0 = true := by decide +kernel
theorem q7_92 : decode (mB 7) 92 = .ok (.iload_n 3, 1) := by decide +kernel
theorem q7_93 : decode (mB 7) 93 = .ok (.lload_n 1, 1) := by decide +kernel
theorem q7_94 : decode (mB 7) 94 = .ok (.lastore, 1) := by decide +kernel
theorem q7_95 : decode (mB 7) 95 = .ok (.return_, 1) := by decide +kernel
theorem q8_0 : decode (mB 8) 0 = .ok (.iload_n 0, 1) := by decide +kernel
theorem q8_1 : decode (mB 8) 1 = .ok (.bipush 14, 2) := by decide +kernel
theorem q8_3 : decode (mB 8) 3 = .ok (.ishl, 1) := by decide +kernel
theorem q8_4 : decode (mB 8) 4 = .ok (.iload_n 1, 1) := by decide +kernel
theorem q8_5 : decode (mB 8) 5 = .ok (.bipush 12, 2) := by decide +kernel
theorem q8_7 : decode (mB 8) 7 = .ok (.ishl, 1) := by decide +kernel
theorem q8_8 : decode (mB 8) 8 = .ok (.ior, 1) := by decide +kernel
theorem q8_9 : decode (mB 8) 9 = .ok (.ireturn, 1) := by decide +kernel
theorem q9_0 : decode (mB 9) 0 = .ok (.iload_n 0, 1) := by decide +kernel
theorem q9_1 : decode (mB 9) 1 = .ok (.bipush 14, 2) := by decide +kernel
theorem q9_3 : decode (mB 9) 3 = .ok (.ishr, 1) := by decide +kernel
theorem q9_4 : decode (mB 9) 4 = .ok (.bipush 127, 2) := by decide +kernel
theorem q9_6 : decode (mB 9) 6 = .ok (.iand, 1) := by decide +kernel
theorem q9_7 : decode (mB 9) 7 = .ok (.i2c, 1) := by decide +kernel
theorem q9_8 : decode (mB 9) 8 = .ok (.ireturn, 1) := by decide +kernel
theorem q10_0 : decode (mB 10) 0 = .ok (.iload_n 0, 1) := by decide +kernel
theorem q10_1 : decode (mB 10) 1 = .ok (.bipush 12, 2) := by decide +kernel
theorem q10_3 : decode (mB 10) 3 = .ok (.ishr, 1) := by decide +kernel
theorem q10_4 : decode (mB 10) 4 = .ok (.iconst 3, 1) := by decide +kernel
theorem q10_5 : decode (mB 10) 5 = .ok (.iand, 1) := by decide +kernel
theorem q10_6 : decode (mB 10) 6 = .ok (.ireturn, 1) := by decide +kernel
theorem q11_0 : decode (mB 11) 0 = .ok (.iload_n 0, 1) := by decide +kernel
theorem q11_1 : decode (mB 11) 1 = .ok (.iconst 3, 1) := by decide +kernel
theorem q11_2 : decode (mB 11) 2 = .ok (.iload_n 1, 1) := by decide +kernel
theorem q11_3 : decode (mB 11) 3 = .ok (.isub, 1) := by decide +kernel
theorem q11_4 : decode (mB 11) 4 = .ok (.iconst 3, 1) := by decide +kernel
theorem q11_5 : decode (mB 11) 5 = .ok (.imul, 1) := by decide +kernel
theorem q11_6 : decode (mB 11) 6 = .ok (.ishr, 1) := by decide +kernel
theorem q11_7 : decode (mB 11) 7 = .ok (.bipush 7, 2) := by decide +kernel
theorem q11_9 : decode (mB 11) 9 = .ok (.iand, 1) := by decide +kernel
theorem q11_10 : decode (mB 11) 10 = .ok (.iconst 1, 1) := by decide +kernel
theorem q11_11 : decode (mB 11) 11 = .ok (.isub, 1) := by decide +kernel
theorem q11_12 : decode (mB 11) 12 = .ok (.ireturn, 1) := by decide +kernel
theorem q12_0 : decode (mB 12) 0 = .ok (.iload_n 0, 1) := by decide +kernel
theorem q12_1 : decode (mB 12) 1 = .ok (.ldc 11, 2) := by decide +kernel
theorem q12_3 : decode (mB 12) 3 = .ok (.iand, 1) := by decide +kernel
theorem q12_4 : decode (mB 12) 4 = .ok (.iload_n 1, 1) := by decide +kernel
theorem q12_5 : decode (mB 12) 5 = .ok (.bipush 14, 2) := by decide +kernel
theorem q12_7 : decode (mB 12) 7 = .ok (.ishl, 1) := by decide +kernel
theorem q12_8 : decode (mB 12) 8 = .ok (.ior, 1) := by decide +kernel
theorem q12_9 : decode (mB 12) 9 = .ok (.ireturn, 1) := by decide +kernel
theorem q13_0 : decode (mB 13) 0 = .ok (.iload_n 0, 1) := by decide +kernel
theorem q13_1 : decode (mB 13) 1 = .ok (.sipush (-12289), 3) := by decide +kernel
theorem q13_4 : decode (mB 13) 4 = .ok (.iand, 1) := by decide +kernel
theorem q13_5 : decode (mB 13) 5 = .ok (.iload_n 1, 1) := by decide +kernel
theorem q13_6 : decode (mB 13) 6 = .ok (.bipush 12, 2) := by decide +kernel
theorem q13_8 : decode (mB 13) 8 = .ok (.ishl, 1) := by decide +kernel
theorem q13_9 : decode (mB 13) 9 = .ok (.ior, 1) := by decide +kernel
theorem q13_10 : decode (mB 13) 10 = .ok (.ireturn, 1) := by decide +kernel
theorem q14_0 : decode (mB 14) 0 = .ok (.iconst 3, 1) := by decide +kernel
theorem q14_1 : decode (mB 14) 1 = .ok (.iload_n 1, 1) := by decide +kernel
theorem q14_2 : decode (mB 14) 2 = .ok (.isub, 1) := by decide +kernel
theorem q14_3 : decode (mB 14) 3 = .ok (.iconst 3, 1) := by decide +kernel
theorem q14_4 : decode (mB 14) 4 = .ok (.imul, 1) := by decide +kernel
theorem q14_5 : decode (mB 14) 5 = .ok (.istore_n 3, 1) := by decide +kernel
theorem q14_6 : decode (mB 14) 6 = .ok (.iload_n 0, 1) := by decide +kernel
theorem q14_7 : decode (mB 14) 7 = .ok (.bipush 7, 2) := by decide +kernel
theorem q14_9 : decode (mB 14) 9 = .ok (.iload_n 3, 1) := by decide +kernel
theorem q14_10 : decode (mB 14) 10 = .ok (.ishl, 1) := by decide +kernel
theorem q14_11 : decode (mB 14) 11 = .ok (.iconst (-1), 1) := by decide +kernel
theorem q14_12 : decode (mB 14) 12 = .ok (.ixor, 1) := by decide +kernel
theorem q14_13 : decode (mB 14) 13 = .ok (.iand, 1) := by decide +kernel
theorem q14_14 : decode (mB 14) 14 = .ok (.iload_n 2, 1) := by decide +kernel
theorem q14_15 : decode (mB 14) 15 = .ok (.iconst 1, 1) := by decide +kernel
theorem q14_16 : decode (mB 14) 16 = .ok (.iadd, 1) := by decide +kernel
theorem q14_17 : decode (mB 14) 17 = .ok (.iload_n 3, 1) := by decide +kernel
theorem q14_18 : decode (mB 14) 18 = .ok (.ishl, 1) := by decide +kernel
theorem q14_19 : decode (mB 14) 19 = .ok (.ior, 1) := by decide +kernel
theorem q14_20 : decode (mB 14) 20 = .ok (.ireturn, 1) := by decide +kernel
theorem q15_0 : decode (mB 15) 0 = .ok (.iconst 0, 1) := by decide +kernel
theorem q15_1 : decode (mB 15) 1 = .ok (.istore_n 1, 1) := by decide +kernel
theorem q15_2 : decode (mB 15) 2 = .ok (.iconst 0, 1) := by decide +kernel
theorem q15_3 : decode (mB 15) 3 = .ok (.istore_n 2, 1) := by decide +kernel
theorem q15_4 : decode (mB 15) 4 = .ok (.iload_n 2, 1) := by decide +kernel
theorem q15_5 : decode (mB 15) 5 = .ok (.bipush 12, 2) := by decide +kernel
theorem q15_7 : decode (mB 15) 7 = .ok (.if_icmp .ge 20, 3) := by decide +kernel
theorem q15_10 : decode (mB 15) 10 = .ok (.iload_n 1, 1) := by decide +kernel
theorem q15_11 : decode (mB 15) 11 = .ok (.iconst 1, 1) := by decide +kernel
theorem q15_12 : decode (mB 15) 12 = .ok (.iload_n 0, 1) := by decide +kernel
theorem q15_13 : decode (mB 15) 13 = .ok (.iload_n 2, 1) := by decide +kernel
theorem q15_14 : decode (mB 15) 14 = .ok (.ishr, 1) := by decide +kernel
theorem q15_15 : decode (mB 15) 15 = .ok (.bipush 7, 2) := by decide +kernel
theorem q15_17 : decode (mB 15) 17 = .ok (.iand, 1) := by decide +kernel
theorem q15_18 : decode (mB 15) 18 = .ok (.ishl, 1) := by decide +kernel
theorem q15_19 : decode (mB 15) 19 = .ok (.ior, 1) := by decide +kernel
theorem q15_20 : decode (mB 15) 20 = .ok (.istore_n 1, 1) := by decide +kernel
theorem q15_21 : decode (mB 15) 21 = .ok (.iinc 2 3, 3) := by decide +kernel
theorem q15_24 : decode (mB 15) 24 = .ok (.goto (-20), 3) := by decide +kernel
theorem q15_27 : decode (mB 15) 27 = .ok (.iload_n 1, 1) := by decide +kernel
theorem q15_28 : decode (mB 15) 28 = .ok (.iconst 1, 1) := by decide +kernel
theorem q15_29 : decode (mB 15) 29 = .ok (.ishr, 1) := by decide +kernel
theorem q15_30 : decode (mB 15) 30 = .ok (.ireturn, 1) := by decide +kernel
theorem q16_0 : decode (mB 16) 0 = .ok (.iload_n 1, 1) := by decide +kernel
theorem q16_1 : decode (mB 16) 1 = .ok (.iconst (-1), 1) := by decide +kernel
theorem q16_2 : decode (mB 16) 2 = .ok (.if_icmp .eq 18, 3) := by decide +kernel
theorem q16_5 : decode (mB 16) 5 = .ok (.iload_n 0, 1) := by decide +kernel
theorem q16_6 : cfB 16 6 12 15 0 4 1 = true := by decide +kernel
theorem q16_9 : decode (mB 16) 9 = .ok (.iload_n 1, 1) := by decide +kernel
theorem q16_10 : decode (mB 16) 10 = .ok (.ishr, 1) := by decide +kernel
theorem q16_11 : decode (mB 16) 11 = .ok (.iconst 1, 1) := by decide +kernel
theorem q16_12 : decode (mB 16) 12 = .ok (.iand, 1) := by decide +kernel
theorem q16_13 : decode (mB 16) 13 = .ok (.ifCond .eq 7, 3) := by decide +kernel
theorem q16_16 : decode (mB 16) 16 = .ok (.iconst 1, 1) := by decide +kernel
theorem q16_17 : decode (mB 16) 17 = .ok (.goto 4, 3) := by decide +kernel
theorem q16_20 : decode (mB 16) 20 = .ok (.iconst 0, 1) := by decide +kernel
theorem q16_21 : decode (mB 16) 21 = .ok (.ireturn, 1) := by decide +kernel
theorem q17_0 : decode (mB 17) 0 = .ok (.iconst 0, 1) := by decide +kernel
theorem q17_1 : decode (mB 17) 1 = .ok (.istore_n 1, 1) := by decide +kernel
theorem q17_2 : decode (mB 17) 2 = .ok (.iconst 0, 1) := by decide +kernel
theorem q17_3 : decode (mB 17) 3 = .ok (.istore_n 2, 1) := by decide +kernel
theorem q17_4 : decode (mB 17) 4 = .ok (.iload_n 2, 1) := by decide +kernel
theorem q17_5 : decode (mB 17) 5 = .ok (.iconst 4, 1) := by decide +kernel
theorem q17_6 : decode (mB 17) 6 = .ok (.if_icmp .ge 42, 3) := by decide +kernel
theorem q17_9 : decode (mB 17) 9 = .ok (.iload_n 0, 1) := by decide +kernel
theorem q17_10 : decode (mB 17) 10 = .ok (.iload_n 2, 1) := by decide +kernel
theorem q17_11 : cfB 17 11 16 11 0 4 2 = true := by decide +kernel
theorem q17_14 : decode (mB 17) 14 = .ok (.istore_n 3, 1) := by decide +kernel
theorem q17_15 : decode (mB 17) 15 = .ok (.iload_n 3, 1) := by decide +kernel
theorem q17_16 : decode (mB 17) 16 = .ok (.iconst (-1), 1) := by decide +kernel
theorem q17_17 : decode (mB 17) 17 = .ok (.if_icmp .eq 25, 3) := by decide +kernel
theorem q17_20 : decode (mB 17) 20 = .ok (.iload_n 3, 1) := by decide +kernel
theorem q17_21 : decode (mB 17) 21 = .ok (.bipush 6, 2) := by decide +kernel
theorem q17_23 : decode (mB 17) 23 = .ok (.if_icmp .ge 11, 3) := by decide +kernel
theorem q17_26 : decode (mB 17) 26 = .ok (.iload_n 1, 1) := by decide +kernel
theorem q17_27 : decode (mB 17) 27 = .ok (.iload_n 3, 1) := by decide +kernel
theorem q17_28 : decode (mB 17) 28 = .ok (.ishr, 1) := by decide +kernel
theorem q17_29 : decode (mB 17) 29 = .ok (.iconst 1, 1) := by decide +kernel
theorem q17_30 : decode (mB 17) 30 = .ok (.iand, 1) := by decide +kernel
theorem q17_31 : decode (mB 17) 31 = .ok (.ifCond .eq 5, 3) := by decide +kernel
theorem q17_34 : decode (mB 17) 34 = .ok (.iconst 0, 1) := by decide +kernel
theorem q17_35 : decode (mB 17) 35 = .ok (.ireturn, 1) := by decide +kernel
theorem q17_36 : decode (mB 17) 36 = .ok (.iload_n 1, 1) := by decide +kernel
theorem q17_37 : decode (mB 17) 37 = .ok (.iconst 1, 1) := by decide +kernel
theorem q17_38 : decode (mB 17) 38 = .ok (.iload_n 3, 1) := by decide +kernel
theorem q17_39 : decode (mB 17) 39 = .ok (.ishl, 1) := by decide +kernel
theorem q17_40 : decode (mB 17) 40 = .ok (.ior, 1) := by decide +kernel
theorem q17_41 : decode (mB 17) 41 = .ok (.istore_n 1, 1) := by decide +kernel
theorem q17_42 : decode (mB 17) 42 = .ok (.iinc 2 1, 3) := by decide +kernel
theorem q17_45 : decode (mB 17) 45 = .ok (.goto (-41), 3) := by decide +kernel
theorem q17_48 : decode (mB 17) 48 = .ok (.iconst 1, 1) := by decide +kernel
theorem q17_49 : decode (mB 17) 49 = .ok (.ireturn, 1) := by decide +kernel
theorem q18_0 : decode (mB 18) 0 = .ok (.aload_n 0, 1) := by decide +kernel
theorem q18_1 : (decide (18 < 235) && decide (decode (mB 18) 1 = .ok (.invokespecial 3, 3)) && (lks (mD 18)).contains (3, 2, 0, 0) && decide (1 ≤ mV 18)) = true := by decide +kernel
theorem q18_4 : decode (mB 18) 4 = .ok (.aload_n 0, 1) := by decide +kernel
theorem q18_5 : decode (mB 18) 5 = .ok (.aload_n 1, 1) := by decide +kernel
theorem q18_6 : pfB 18 6 9 1 0 = true := by decide +kernel
theorem q18_9 : decode (mB 18) 9 = .ok (.aload_n 0, 1) := by decide +kernel
theorem q18_10 : gsB 18 10 15 1 1 = true := by decide +kernel
theorem q18_13 : (decide (18 < 235) && decide (decode (mB 18) 13 = .ok (.invokevirtual 19, 3)) && (lks (mD 18)).contains (19, 3, 0, 0) && decide (1 ≤ mV 18) && decide (mA 18 = 1)) = true := by decide +kernel
theorem q18_16 : (decide (18 < 235) && decide (decode (mB 18) 16 = .ok (.checkcast 20, 3)) && decide (Cond.classLink (mY 18).cls 20 "[I" ∈ tables_1)) = true := by decide +kernel
theorem q18_19 : pfB 18 19 24 1 1 = true := by decide +kernel
theorem q18_22 : decode (mB 18) 22 = .ok (.return_, 1) := by decide +kernel
theorem q19_0 : decode (mB 19) 0 = .ok (.iload_n 1, 1) := by decide +kernel
theorem q19_1 : decode (mB 19) 1 = .ok (.ifCond .lt 16, 3) := by decide +kernel
theorem q19_4 : decode (mB 19) 4 = .ok (.iload_n 1, 1) := by decide +kernel
theorem q19_5 : decode (mB 19) 5 = .ok (.aload_n 0, 1) := by decide +kernel
theorem q19_6 : gfB 19 6 24 1 1 = true := by decide +kernel
theorem q19_9 : decode (mB 19) 9 = .ok (.arraylength, 1) := by decide +kernel
theorem q19_10 : decode (mB 19) 10 = .ok (.if_icmp .ge 7, 3) := by decide +kernel
theorem q19_13 : decode (mB 19) 13 = .ok (.iconst 1, 1) := by decide +kernel
theorem q19_14 : decode (mB 19) 14 = .ok (.goto 4, 3) := by decide +kernel
theorem q19_17 : decode (mB 19) 17 = .ok (.iconst 0, 1) := by decide +kernel
theorem q19_18 : decode (mB 19) 18 = .ok (.ireturn, 1) := by decide +kernel
theorem q20_0 : decode (mB 20) 0 = .ok (.aload_n 0, 1) := by decide +kernel
theorem q20_1 : decode (mB 20) 1 = .ok (.iload_n 1, 1) := by decide +kernel
theorem q20_2 : cfB 20 2 27 19 1 4 1 = true := by decide +kernel
theorem q20_5 : decode (mB 20) 5 = .ok (.ifCond .ne 5, 3) := by decide +kernel
theorem q20_8 : decode (mB 20) 8 = .ok (.iconst 0, 1) := by decide +kernel
theorem q20_9 : decode (mB 20) 9 = .ok (.ireturn, 1) := by decide +kernel
theorem q20_10 : decode (mB 20) 10 = .ok (.aload_n 0, 1) := by decide +kernel
theorem q20_11 : gfB 20 11 24 1 1 = true := by decide +kernel
theorem q20_14 : decode (mB 20) 14 = .ok (.iload_n 1, 1) := by decide +kernel
theorem q20_15 : decode (mB 20) 15 = .ok (.iaload, 1) := by decide +kernel
theorem q20_16 : decode (mB 20) 16 = .ok (.istore_n 3, 1) := by decide +kernel
theorem q20_17 : decode (mB 20) 17 = .ok (.aload_n 0, 1) := by decide +kernel
theorem q20_18 : gfB 20 18 24 1 1 = true := by decide +kernel
theorem q20_21 : decode (mB 20) 21 = .ok (.iload_n 1, 1) := by decide +kernel
theorem q20_22 : decode (mB 20) 22 = .ok (.iload_n 2, 1) := by decide +kernel
theorem q20_23 : decode (mB 20) 23 = .ok (.iastore, 1) := by decide +kernel
theorem q20_24 : decode (mB 20) 24 = .ok (.iload_n 3, 1) := by decide +kernel
theorem q20_25 : decode (mB 20) 25 = .ok (.ireturn, 1) := by decide +kernel
theorem q21_0 : decode (mB 21) 0 = .ok (.iconst 0, 1) := by decide +kernel
theorem q21_1 : decode (mB 21) 1 = .ok (.istore_n 2, 1) := by decide +kernel
theorem q21_2 : decode (mB 21) 2 = .ok (.lconst 0, 1) := by decide +kernel
theorem q21_3 : decode (mB 21) 3 = .ok (.lstore_n 3, 1) := by decide +kernel
theorem q21_4 : decode (mB 21) 4 = .ok (.iconst 0, 1) := by decide +kernel
theorem q21_5 : decode (mB 21) 5 = .ok (.istore 5, 2) := by decide +kernel
theorem q21_7 : decode (mB 21) 7 = .ok (.iload 5, 2) := by decide +kernel
theorem q21_9 : decode (mB 21) 9 = .ok (.iconst 4, 1) := by decide +kernel
theorem q21_10 : decode (mB 21) 10 = .ok (.if_icmp .ge 46, 3) := by decide +kernel
theorem q21_13 : decode (mB 21) 13 = .ok (.iload_n 1, 1) := by decide +kernel
theorem q21_14 : decode (mB 21) 14 = .ok (.iload 5, 2) := by decide +kernel
theorem q21_16 : cfB 21 16 31 11 0 4 2 = true := by decide +kernel
theorem q21_19 : decode (mB 21) 19 = .ok (.istore 6, 2) := by decide +kernel
theorem q21_21 : decode (mB 21) 21 = .ok (.iload_n 2, 1) := by decide +kernel
theorem q21_22 : decode (mB 21) 22 = .ok (.aload_n 0, 1) := by decide +kernel
theorem q21_23 : gfB 21 23 9 1 0 = true := by decide +kernel
theorem q21_26 : decode (mB 21) 26 = .ok (.iload 6, 2) := by decide +kernel
theorem q21_28 : cfB 21 28 37 56 1 4 1 = true := by decide +kernel
theorem q21_31 : decode (mB 21) 31 = .ok (.iload 5, 2) := by decide +kernel
theorem q21_33 : cfB 21 33 43 24 0 4 2 = true := by decide +kernel
theorem q21_36 : decode (mB 21) 36 = .ok (.iadd, 1) := by decide +kernel
theorem q21_37 : decode (mB 21) 37 = .ok (.istore_n 2, 1) := by decide +kernel
theorem q21_38 : decode (mB 21) 38 = .ok (.lload_n 3, 1) := by decide +kernel
theorem q21_39 : decode (mB 21) 39 = .ok (.aload_n 0, 1) := by decide +kernel
theorem q21_40 : gfB 21 40 9 1 0 = true := by decide +kernel
theorem q21_43 : decode (mB 21) 43 = .ok (.iload 6, 2) := by decide +kernel
theorem q21_45 : cfB 21 45 46 61 1 4 1 = true := by decide +kernel
theorem q21_48 : decode (mB 21) 48 = .ok (.lor, 1) := by decide +kernel
theorem q21_49 : decode (mB 21) 49 = .ok (.lstore_n 3, 1) := by decide +kernel
theorem q21_50 : decode (mB 21) 50 = .ok (.iinc 5 1, 3) := by decide +kernel
theorem q21_53 : decode (mB 21) 53 = .ok (.goto (-46), 3) := by decide +kernel
theorem q21_56 : decode (mB 21) 56 = .ok (.iload_n 2, 1) := by decide +kernel
theorem q21_57 : decode (mB 21) 57 = .ok (.lload_n 3, 1) := by decide +kernel
theorem q21_58 : cfB 21 58 50 202 0 4 1 = true := by decide +kernel
theorem q21_61 : decode (mB 21) 61 = .ok (.iconst 5, 1) := by decide +kernel
theorem q21_62 : decode (mB 21) 62 = .ok (.idiv, 1) := by decide +kernel
theorem q21_63 : decode (mB 21) 63 = .ok (.iadd, 1) := by decide +kernel
theorem q21_64 : decode (mB 21) 64 = .ok (.istore_n 2, 1) := by decide +kernel
theorem q21_65 : decode (mB 21) 65 = .ok (.aload_n 0, 1) := by decide +kernel
theorem q21_66 : decode (mB 21) 66 = .ok (.iload_n 1, 1) := by decide +kernel
theorem q21_67 : cfB 21 67 56 22 1 4 1 = true := by decide +kernel
theorem q21_70 : decode (mB 21) 70 = .ok (.istore 5, 2) := by decide +kernel
theorem q21_72 : decode (mB 21) 72 = .ok (.iconst 0, 1) := by decide +kernel
theorem q21_73 : decode (mB 21) 73 = .ok (.istore 6, 2) := by decide +kernel
theorem q21_75 : decode (mB 21) 75 = .ok (.iload 6, 2) := by decide +kernel
theorem q21_77 : decode (mB 21) 77 = .ok (.aload_n 0, 1) := by decide +kernel
theorem q21_78 : gfB 21 78 24 1 1 = true := by decide +kernel
theorem q21_81 : decode (mB 21) 81 = .ok (.arraylength, 1) := by decide +kernel
theorem q21_82 : decode (mB 21) 82 = .ok (.if_icmp .ge 29, 3) := by decide +kernel
theorem q21_85 : decode (mB 21) 85 = .ok (.iload 5, 2) := by decide +kernel
theorem q21_87 : decode (mB 21) 87 = .ok (.iload 6, 2) := by decide +kernel
theorem q21_89 : decode (mB 21) 89 = .ok (.ishr, 1) := by decide +kernel
theorem q21_90 : decode (mB 21) 90 = .ok (.iconst 1, 1) := by decide +kernel
theorem q21_91 : decode (mB 21) 91 = .ok (.iand, 1) := by decide +kernel
theorem q21_92 : decode (mB 21) 92 = .ok (.ifCond .eq 13, 3) := by decide +kernel
theorem q21_95 : decode (mB 21) 95 = .ok (.iload_n 2, 1) := by decide +kernel
theorem q21_96 : decode (mB 21) 96 = .ok (.aload_n 0, 1) := by decide +kernel
theorem q21_97 : gfB 21 97 24 1 1 = true := by decide +kernel
theorem q21_100 : decode (mB 21) 100 = .ok (.iload 6, 2) := by decide +kernel
theorem q21_102 : decode (mB 21) 102 = .ok (.iaload, 1) := by decide +kernel
theorem q21_103 : decode (mB 21) 103 = .ok (.iadd, 1) := by decide +kernel
theorem q21_104 : decode (mB 21) 104 = .ok (.istore_n 2, 1) := by decide +kernel
theorem q21_105 : decode (mB 21) 105 = .ok (.iinc 6 1, 3) := by decide +kernel
theorem q21_108 : decode (mB 21) 108 = .ok (.goto (-33), 3) := by decide +kernel
theorem q21_111 : decode (mB 21) 111 = .ok (.iload_n 2, 1) := by decide +kernel
theorem q21_112 : decode (mB 21) 112 = .ok (.ireturn, 1) := by decide +kernel
theorem q22_0 : decode (mB 22) 0 = .ok (.iload_n 1, 1) := by decide +kernel
theorem q22_1 : cfB 22 1 59 9 0 4 1 = true := by decide +kernel
theorem q22_4 : decode (mB 22) 4 = .ok (.istore_n 2, 1) := by decide +kernel
theorem q22_5 : decode (mB 22) 5 = .ok (.iload_n 1, 1) := by decide +kernel
theorem q22_6 : cfB 22 6 63 10 0 4 1 = true := by decide +kernel
theorem q22_9 : decode (mB 22) 9 = .ok (.ifCond .ne 7, 3) := by decide +kernel
theorem q22_12 : decode (mB 22) 12 = .ok (.iconst 1, 1) := by decide +kernel
theorem q22_13 : decode (mB 22) 13 = .ok (.goto 4, 3) := by decide +kernel
theorem q22_16 : decode (mB 22) 16 = .ok (.iconst 0, 1) := by decide +kernel
theorem q22_17 : decode (mB 22) 17 = .ok (.istore_n 3, 1) := by decide +kernel
theorem q22_18 : decode (mB 22) 18 = .ok (.aload_n 0, 1) := by decide +kernel
theorem q22_19 : gfB 22 19 9 1 0 = true := by decide +kernel
theorem q22_22 : decode (mB 22) 22 = .ok (.iload_n 1, 1) := by decide +kernel
theorem q22_23 : decode (mB 22) 23 = .ok (.iconst 0, 1) := by decide +kernel
theorem q22_24 : cfB 22 24 31 11 0 4 2 = true := by decide +kernel
theorem q22_27 : cfB 22 27 37 56 1 4 1 = true := by decide +kernel
theorem q22_30 : decode (mB 22) 30 = .ok (.istore 4, 2) := by decide +kernel
theorem q22_32 : decode (mB 22) 32 = .ok (.aload_n 0, 1) := by decide +kernel
theorem q22_33 : gfB 22 33 9 1 0 = true := by decide +kernel
theorem q22_36 : decode (mB 22) 36 = .ok (.iload_n 1, 1) := by decide +kernel
theorem q22_37 : decode (mB 22) 37 = .ok (.iconst 1, 1) := by decide +kernel
theorem q22_38 : cfB 22 38 31 11 0 4 2 = true := by decide +kernel
theorem q22_41 : cfB 22 41 37 56 1 4 1 = true := by decide +kernel
theorem q22_44 : decode (mB 22) 44 = .ok (.istore 5, 2) := by decide +kernel
theorem q22_46 : decode (mB 22) 46 = .ok (.iload_n 1, 1) := by decide +kernel
theorem q22_47 : decode (mB 22) 47 = .ok (.iconst 2, 1) := by decide +kernel
theorem q22_48 : cfB 22 48 31 11 0 4 2 = true := by decide +kernel
theorem q22_51 : decode (mB 22) 51 = .ok (.istore 6, 2) := by decide +kernel
theorem q22_53 : decode (mB 22) 53 = .ok (.aload_n 0, 1) := by decide +kernel
theorem q22_54 : gfB 22 54 9 1 0 = true := by decide +kernel
theorem q22_57 : decode (mB 22) 57 = .ok (.iload 6, 2) := by decide +kernel
theorem q22_59 : cfB 22 59 37 56 1 4 1 = true := by decide +kernel
theorem q22_62 : decode (mB 22) 62 = .ok (.istore 7, 2) := by decide +kernel
theorem q22_64 : decode (mB 22) 64 = .ok (.iload_n 1, 1) := by decide +kernel
theorem q22_65 : cfB 22 65 66 15 0 4 1 = true := by decide +kernel
theorem q22_68 : cfB 22 68 69 201 0 4 1 = true := by decide +kernel
theorem q22_71 : decode (mB 22) 71 = .ok (.istore 8, 2) := by decide +kernel
theorem q22_73 : decode (mB 22) 73 = .ok (.iconst 0, 1) := by decide +kernel
theorem q22_74 : decode (mB 22) 74 = .ok (.istore 9, 2) := by decide +kernel
theorem q22_76 : decode (mB 22) 76 = .ok (.iload 9, 2) := by decide +kernel
theorem q22_78 : decode (mB 22) 78 = .ok (.iconst 0, 1) := by decide +kernel
theorem q22_79 : decode (mB 22) 79 = .ok (.iload_n 2, 1) := by decide +kernel
theorem q22_80 : decode (mB 22) 80 = .ok (.bipush 98, 2) := by decide +kernel
theorem q22_82 : decode (mB 22) 82 = .ok (.if_icmp .ne 11, 3) := by decide +kernel
theorem q22_85 : decode (mB 22) 85 = .ok (.iload_n 3, 1) := by decide +kernel
theorem q22_86 : decode (mB 22) 86 = .ok (.ifCond .eq 7, 3) := by decide +kernel
theorem q22_89 : decode (mB 22) 89 = .ok (.iconst 1, 1) := by decide +kernel
theorem q22_90 : decode (mB 22) 90 = .ok (.goto 4, 3) := by decide +kernel
theorem q22_93 : decode (mB 22) 93 = .ok (.iconst 0, 1) := by decide +kernel
theorem q22_94 : cfB 22 94 73 23 0 4 2 = true := by decide +kernel
theorem q22_97 : decode (mB 22) 97 = .ok (.ior, 1) := by decide +kernel
theorem q22_98 : decode (mB 22) 98 = .ok (.istore 9, 2) := by decide +kernel
theorem q22_100 : decode (mB 22) 100 = .ok (.iload 9, 2) := by decide +kernel
theorem q22_102 : decode (mB 22) 102 = .ok (.iconst 1, 1) := by decide +kernel
theorem q22_103 : decode (mB 22) 103 = .ok (.iload 4, 2) := by decide +kernel
theorem q22_105 : decode (mB 22) 105 = .ok (.iconst 3, 1) := by decide +kernel
theorem q22_106 : decode (mB 22) 106 = .ok (.if_icmp .ne 13, 3) := by decide +kernel
theorem q22_109 : decode (mB 22) 109 = .ok (.iload 5, 2) := by decide +kernel
theorem q22_111 : decode (mB 22) 111 = .ok (.iconst 3, 1) := by decide +kernel
theorem q22_112 : decode (mB 22) 112 = .ok (.if_icmp .ne 7, 3) := by decide +kernel
theorem q22_115 : decode (mB 22) 115 = .ok (.iconst 1, 1) := by decide +kernel
theorem q22_116 : decode (mB 22) 116 = .ok (.goto 4, 3) := by decide +kernel
theorem q22_119 : decode (mB 22) 119 = .ok (.iconst 0, 1) := by decide +kernel
theorem q22_120 : cfB 22 120 73 23 0 4 2 = true := by decide +kernel
theorem q22_123 : decode (mB 22) 123 = .ok (.ior, 1) := by decide +kernel
theorem q22_124 : decode (mB 22) 124 = .ok (.istore 9, 2) := by decide +kernel
theorem q22_126 : decode (mB 22) 126 = .ok (.iload 9, 2) := by decide +kernel
theorem q22_128 : decode (mB 22) 128 = .ok (.iconst 2, 1) := by decide +kernel
theorem q22_129 : decode (mB 22) 129 = .ok (.iload 7, 2) := by decide +kernel
theorem q22_131 : decode (mB 22) 131 = .ok (.iconst 4, 1) := by decide +kernel
theorem q22_132 : decode (mB 22) 132 = .ok (.if_icmp .ne 7, 3) := by decide +kernel
theorem q22_135 : decode (mB 22) 135 = .ok (.iconst 1, 1) := by decide +kernel
theorem q22_136 : decode (mB 22) 136 = .ok (.goto 4, 3) := by decide +kernel
theorem q22_139 : decode (mB 22) 139 = .ok (.iconst 0, 1) := by decide +kernel
theorem q22_140 : cfB 22 140 73 23 0 4 2 = true := by decide +kernel
theorem q22_143 : decode (mB 22) 143 = .ok (.ior, 1) := by decide +kernel
theorem q22_144 : decode (mB 22) 144 = .ok (.istore 9, 2) := by decide +kernel
theorem q22_146 : decode (mB 22) 146 = .ok (.iload 9, 2) := by decide +kernel
theorem q22_148 : decode (mB 22) 148 = .ok (.iconst 3, 1) := by decide +kernel
theorem q22_149 : decode (mB 22) 149 = .ok (.iload_n 2, 1) := by decide +kernel
theorem q22_150 : decode (mB 22) 150 = .ok (.bipush 112, 2) := by decide +kernel
theorem q22_152 : decode (mB 22) 152 = .ok (.if_icmp .ne 23, 3) := by decide +kernel
theorem q22_155 : decode (mB 22) 155 = .ok (.iload_n 3, 1) := by decide +kernel
theorem q22_156 : decode (mB 22) 156 = .ok (.ifCond .eq 19, 3) := by decide +kernel
theorem q22_159 : decode (mB 22) 159 = .ok (.aload_n 0, 1) := by decide +kernel
theorem q22_160 : gfB 22 160 9 1 0 = true := by decide +kernel
theorem q22_163 : cfB 22 163 77 53 1 4 0 = true := by decide +kernel
theorem q22_166 : decode (mB 22) 166 = .ok (.bipush 20, 2) := by decide +kernel
theorem q22_168 : decode (mB 22) 168 = .ok (.if_icmp .le 7, 3) := by decide +kernel
theorem q22_171 : decode (mB 22) 171 = .ok (.iconst 1, 1) := by decide +kernel
theorem q22_172 : decode (mB 22) 172 = .ok (.goto 4, 3) := by decide +kernel
theorem q22_175 : decode (mB 22) 175 = .ok (.iconst 0, 1) := by decide +kernel
theorem q22_176 : cfB 22 176 73 23 0 4 2 = true := by decide +kernel
theorem q22_179 : decode (mB 22) 179 = .ok (.ior, 1) := by decide +kernel
theorem q22_180 : decode (mB 22) 180 = .ok (.istore 9, 2) := by decide +kernel
theorem q22_182 : decode (mB 22) 182 = .ok (.iload 9, 2) := by decide +kernel
theorem q22_184 : decode (mB 22) 184 = .ok (.iconst 4, 1) := by decide +kernel
theorem q22_185 : decode (mB 22) 185 = .ok (.iload_n 2, 1) := by decide +kernel
theorem q22_186 : decode (mB 22) 186 = .ok (.bipush 112, 2) := by decide +kernel
theorem q22_188 : decode (mB 22) 188 = .ok (.if_icmp .ne 11, 3) := by decide +kernel
theorem q22_191 : decode (mB 22) 191 = .ok (.iload_n 3, 1) := by decide +kernel
theorem q22_192 : decode (mB 22) 192 = .ok (.ifCond .ne 7, 3) := by decide +kernel
theorem q22_195 : decode (mB 22) 195 = .ok (.iconst 1, 1) := by decide +kernel
theorem q22_196 : decode (mB 22) 196 = .ok (.goto 4, 3) := by decide +kernel
theorem q22_199 : decode (mB 22) 199 = .ok (.iconst 0, 1) := by decide +kernel
theorem q22_200 : cfB 22 200 73 23 0 4 2 = true := by decide +kernel
theorem q22_203 : decode (mB 22) 203 = .ok (.ior, 1) := by decide +kernel
theorem q22_204 : decode (mB 22) 204 = .ok (.istore 9, 2) := by decide +kernel
theorem q22_206 : decode (mB 22) 206 = .ok (.iload 9, 2) := by decide +kernel
theorem q22_208 : decode (mB 22) 208 = .ok (.iconst 5, 1) := by decide +kernel
theorem q22_209 : decode (mB 22) 209 = .ok (.iload 8, 2) := by decide +kernel
theorem q22_211 : decode (mB 22) 211 = .ok (.iconst 3, 1) := by decide +kernel
theorem q22_212 : decode (mB 22) 212 = .ok (.if_icmp .lt 7, 3) := by decide +kernel
theorem q22_215 : decode (mB 22) 215 = .ok (.iconst 1, 1) := by decide +kernel
theorem q22_216 : decode (mB 22) 216 = .ok (.goto 4, 3) := by decide +kernel
theorem q22_219 : decode (mB 22) 219 = .ok (.iconst 0, 1) := by decide +kernel
theorem q22_220 : cfB 22 220 73 23 0 4 2 = true := by decide +kernel
theorem q22_223 : decode (mB 22) 223 = .ok (.ior, 1) := by decide +kernel
theorem q22_224 : decode (mB 22) 224 = .ok (.istore 9, 2) := by decide +kernel
theorem q22_226 : decode (mB 22) 226 = .ok (.iload 9, 2) := by decide +kernel
theorem q22_228 : decode (mB 22) 228 = .ok (.bipush 6, 2) := by decide +kernel
theorem q22_230 : decode (mB 22) 230 = .ok (.iload 7, 2) := by decide +kernel
theorem q22_232 : decode (mB 22) 232 = .ok (.iconst 3, 1) := by decide +kernel
theorem q22_233 : decode (mB 22) 233 = .ok (.if_icmp .ne 20, 3) := by decide +kernel
theorem q22_236 : decode (mB 22) 236 = .ok (.aload_n 0, 1) := by decide +kernel
theorem q22_237 : gfB 22 237 9 1 0 = true := by decide +kernel
theorem q22_240 : decode (mB 22) 240 = .ok (.iload 6, 2) := by decide +kernel
theorem q22_242 : cfB 22 242 81 59 1 4 1 = true := by decide +kernel
theorem q22_245 : decode (mB 22) 245 = .ok (.iconst 4, 1) := by decide +kernel
theorem q22_246 : decode (mB 22) 246 = .ok (.if_icmp .le 7, 3) := by decide +kernel
theorem q22_249 : decode (mB 22) 249 = .ok (.iconst 1, 1) := by decide +kernel
theorem q22_250 : decode (mB 22) 250 = .ok (.goto 4, 3) := by decide +kernel
theorem q22_253 : decode (mB 22) 253 = .ok (.iconst 0, 1) := by decide +kernel
theorem q22_254 : cfB 22 254 73 23 0 4 2 = true := by decide +kernel
theorem q22_257 : decode (mB 22) 257 = .ok (.ior, 1) := by decide +kernel
theorem q22_258 : decode (mB 22) 258 = .ok (.istore 9, 2) := by decide +kernel
theorem q22_260 : decode (mB 22) 260 = .ok (.iload 9, 2) := by decide +kernel
theorem q22_262 : decode (mB 22) 262 = .ok (.bipush 7, 2) := by decide +kernel
theorem q22_264 : decode (mB 22) 264 = .ok (.iload 4, 2) := by decide +kernel
theorem q22_266 : decode (mB 22) 266 = .ok (.iconst (-1), 1) := by decide +kernel
theorem q22_267 : decode (mB 22) 267 = .ok (.if_icmp .eq 9, 3) := by decide +kernel
theorem q22_270 : decode (mB 22) 270 = .ok (.iload 5, 2) := by decide +kernel
theorem q22_272 : decode (mB 22) 272 = .ok (.iconst (-1), 1) := by decide +kernel
theorem q22_273 : decode (mB 22) 273 = .ok (.if_icmp .ne 7, 3) := by decide +kernel
theorem q22_276 : decode (mB 22) 276 = .ok (.iconst 1, 1) := by decide +kernel
theorem q22_277 : decode (mB 22) 277 = .ok (.goto 4, 3) := by decide +kernel
theorem q22_280 : decode (mB 22) 280 = .ok (.iconst 0, 1) := by decide +kernel
theorem q22_281 : cfB 22 281 73 23 0 4 2 = true := by decide +kernel
theorem q22_284 : decode (mB 22) 284 = .ok (.ior, 1) := by decide +kernel
theorem q22_285 : decode (mB 22) 285 = .ok (.istore 9, 2) := by decide +kernel
theorem q22_287 : decode (mB 22) 287 = .ok (.iload 9, 2) := by decide +kernel
theorem q22_289 : decode (mB 22) 289 = .ok (.ireturn, 1) := by decide +kernel
theorem q23_0 : decode (mB 23) 0 = .ok (.iload_n 1, 1) := by decide +kernel
theorem q23_1 : decode (mB 23) 1 = .ok (.ifCond .eq 9, 3) := by decide +kernel
theorem q23_4 : decode (mB 23) 4 = .ok (.iconst 1, 1) := by decide +kernel
theorem q23_5 : decode (mB 23) 5 = .ok (.iload_n 0, 1) := by decide +kernel
theorem q23_6 : decode (mB 23) 6 = .ok (.ishl, 1) := by decide +kernel
theorem q23_7 : decode (mB 23) 7 = .ok (.goto 4, 3) := by decide +kernel
theorem q23_10 : decode (mB 23) 10 = .ok (.iconst 0, 1) := by decide +kernel
theorem q23_11 : decode (mB 23) 11 = .ok (.ireturn, 1) := by decide +kernel
theorem q24_0 : decode (mB 24) 0 = .ok (.iload_n 0, 1) := by decide +kernel
theorem q24_1 : decode (mB 24) 1 = .ok (.iconst 2, 1) := by decide +kernel
theorem q24_2 : decode (mB 24) 2 = .ok (.isub, 1) := by decide +kernel
theorem q24_3 : decode (mB 24) 3 = .ok (.iconst 4, 1) := by decide +kernel
theorem q24_4 : decode (mB 24) 4 = .ok (.imul, 1) := by decide +kernel
theorem q24_5 : decode (mB 24) 5 = .ok (.iload_n 1, 1) := by decide +kernel
theorem q24_6 : decode (mB 24) 6 = .ok (.iadd, 1) := by decide +kernel
theorem q24_7 : decode (mB 24) 7 = .ok (.istore_n 2, 1) := by decide +kernel
theorem q24_8 : decode (mB 24) 8 = .ok (.iload_n 2, 1) := by decide +kernel
theorem q24_9 : decode (mB 24) 9 = .ok (.ifCond .lt 19, 3) := by decide +kernel
theorem q24_12 : decode (mB 24) 12 = .ok (.iload_n 2, 1) := by decide +kernel
theorem q24_13 : gsB 24 13 84 2 1 = true := by decide +kernel
theorem q24_16 : decode (mB 24) 16 = .ok (.arraylength, 1) := by decide +kernel
theorem q24_17 : decode (mB 24) 17 = .ok (.if_icmp .ge 11, 3) := by decide +kernel
theorem q24_20 : gsB 24 20 84 2 1 = true := by decide +kernel
theorem q24_23 : decode (mB 24) 23 = .ok (.iload_n 2, 1) := by decide +kernel
theorem q24_24 : decode (mB 24) 24 = .ok (.iaload, 1) := by decide +kernel
theorem q24_25 : decode (mB 24) 25 = .ok (.goto 4, 3) := by decide +kernel
theorem q24_28 : decode (mB 24) 28 = .ok (.iconst 0, 1) := by decide +kernel
theorem q24_29 : decode (mB 24) 29 = .ok (.ireturn, 1) := by decide +kernel
theorem q25_0 : decode (mB 25) 0 = .ok (.aload_n 0, 1) := by decide +kernel
theorem q25_1 : (decide (25 < 235) && decide (decode (mB 25) 1 = .ok (.invokespecial 3, 3)) && (lks (mD 25)).contains (3, 2, 0, 0) && decide (1 ≤ mV 25)) = true := by decide +kernel
theorem q25_4 : decode (mB 25) 4 = .ok (.aload_n 0, 1) := by decide +kernel
theorem q25_5 : decode (mB 25) 5 = .ok (.aload_n 1, 1) := by decide +kernel
theorem q25_6 : pfB 25 6 9 2 0 = true := by decide +kernel
theorem q25_9 : decode (mB 25) 9 = .ok (.aload_n 0, 1) := by decide +kernel
theorem q25_10 : decode (mB 25) 10 = .ok (.bipush 45, 2) := by decide +kernel
theorem q25_12 : pfB 25 12 15 2 2 = true := by decide +kernel
theorem q25_15 : decode (mB 25) 15 = .ok (.return_, 1) := by decide +kernel
theorem q26_0 : decode (mB 26) 0 = .ok (.iconst 1, 1) := by decide +kernel
theorem q26_1 : decode (mB 26) 1 = .ok (.iload_n 1, 1) := by decide +kernel
theorem q26_2 : decode (mB 26) 2 = .ok (.ishl, 1) := by decide +kernel
theorem q26_3 : decode (mB 26) 3 = .ok (.istore_n 3, 1) := by decide +kernel
theorem q26_4 : decode (mB 26) 4 = .ok (.aload_n 0, 1) := by decide +kernel
theorem q26_5 : decode (mB 26) 5 = .ok (.iload_n 2, 1) := by decide +kernel
theorem q26_6 : decode (mB 26) 6 = .ok (.ifCond .eq 12, 3) := by decide +kernel
theorem q26_9 : decode (mB 26) 9 = .ok (.aload_n 0, 1) := by decide +kernel
theorem q26_10 : gfB 26 10 19 2 1 = true := by decide +kernel
theorem q26_13 : decode (mB 26) 13 = .ok (.iload_n 3, 1) := by decide +kernel
theorem q26_14 : decode (mB 26) 14 = .ok (.ior, 1) := by decide +kernel
theorem q26_15 : decode (mB 26) 15 = .ok (.goto 11, 3) := by decide +kernel
theorem q26_18 : decode (mB 26) 18 = .ok (.aload_n 0, 1) := by decide +kernel
theorem q26_19 : gfB 26 19 19 2 1 = true := by decide +kernel
theorem q26_22 : decode (mB 26) 22 = .ok (.iload_n 3, 1) := by decide +kernel
theorem q26_23 : decode (mB 26) 23 = .ok (.iconst (-1), 1) := by decide +kernel
theorem q26_24 : decode (mB 26) 24 = .ok (.ixor, 1) := by decide +kernel
theorem q26_25 : decode (mB 26) 25 = .ok (.iand, 1) := by decide +kernel
theorem q26_26 : pfB 26 26 19 2 1 = true := by decide +kernel
theorem q26_29 : decode (mB 26) 29 = .ok (.aload_n 0, 1) := by decide +kernel
theorem q26_30 : gfB 26 30 19 2 1 = true := by decide +kernel
theorem q26_33 : cfB 26 33 23 201 0 4 1 = true := by decide +kernel
theorem q26_36 : decode (mB 26) 36 = .ok (.ireturn, 1) := by decide +kernel
theorem q27_0 : decode (mB 27) 0 = .ok (.aload_n 0, 1) := by decide +kernel
theorem q27_1 : gfB 27 1 15 2 2 = true := by decide +kernel
theorem q27_4 : decode (mB 27) 4 = .ok (.istore_n 2, 1) := by decide +kernel
theorem q27_5 : decode (mB 27) 5 = .ok (.aload_n 0, 1) := by decide +kernel
theorem q27_6 : decode (mB 27) 6 = .ok (.iload_n 1, 1) := by decide +kernel
theorem q27_7 : pfB 27 7 15 2 2 = true := by decide +kernel
theorem q27_10 : decode (mB 27) 10 = .ok (.iload_n 2, 1) := by decide +kernel
theorem q27_11 : decode (mB 27) 11 = .ok (.ireturn, 1) := by decide +kernel
theorem q28_0 : decode (mB 28) 0 = .ok (.iload_n 1, 1) := by decide +kernel
theorem q28_1 : decode (mB 28) 1 = .ok (.iconst (-1), 1) := by decide +kernel
theorem q28_2 : decode (mB 28) 2 = .ok (.if_icmp .eq 22, 3) := by decide +kernel
theorem q28_5 : decode (mB 28) 5 = .ok (.aload_n 0, 1) := by decide +kernel
theorem q28_6 : gfB 28 6 29 2 3 = true := by decide +kernel
theorem q28_9 : decode (mB 28) 9 = .ok (.iload_n 1, 1) := by decide +kernel
theorem q28_10 : decode (mB 28) 10 = .ok (.iconst 4, 1) := by decide +kernel
theorem q28_11 : decode (mB 28) 11 = .ok (.imul, 1) := by decide +kernel
theorem q28_12 : decode (mB 28) 12 = .ok (.iload_n 2, 1) := by decide +kernel
theorem q28_13 : decode (mB 28) 13 = .ok (.iadd, 1) := by decide +kernel
theorem q28_14 : decode (mB 28) 14 = .ok (.ishr, 1) := by decide +kernel
theorem q28_15 : decode (mB 28) 15 = .ok (.iconst 1, 1) := by decide +kernel
theorem q28_16 : decode (mB 28) 16 = .ok (.iand, 1) := by decide +kernel
theorem q28_17 : decode (mB 28) 17 = .ok (.ifCond .eq 7, 3) := by decide +kernel
theorem q28_20 : decode (mB 28) 20 = .ok (.iconst 1, 1) := by decide +kernel
theorem q28_21 : decode (mB 28) 21 = .ok (.goto 4, 3) := by decide +kernel
theorem q28_24 : decode (mB 28) 24 = .ok (.iconst 0, 1) := by decide +kernel
theorem q28_25 : decode (mB 28) 25 = .ok (.ireturn, 1) := by decide +kernel
theorem q29_0 : decode (mB 29) 0 = .ok (.aload_n 0, 1) := by decide +kernel
theorem q29_1 : decode (mB 29) 1 = .ok (.dup, 1) := by decide +kernel
theorem q29_2 : gfB 29 2 29 2 3 = true := by decide +kernel
theorem q29_5 : decode (mB 29) 5 = .ok (.iconst 1, 1) := by decide +kernel
theorem q29_6 : decode (mB 29) 6 = .ok (.iload_n 1, 1) := by decide +kernel
theorem q29_7 : decode (mB 29) 7 = .ok (.iconst 4, 1) := by decide +kernel
theorem q29_8 : decode (mB 29) 8 = .ok (.imul, 1) := by decide +kernel
theorem q29_9 : decode (mB 29) 9 = .ok (.iload_n 2, 1) := by decide +kernel
theorem q29_10 : decode (mB 29) 10 = .ok (.iadd, 1) := by decide +kernel
theorem q29_11 : decode (mB 29) 11 = .ok (.ishl, 1) := by decide +kernel
theorem q29_12 : decode (mB 29) 12 = .ok (.ixor, 1) := by decide +kernel
theorem q29_13 : pfB 29 13 29 2 3 = true := by decide +kernel
theorem q29_16 : decode (mB 29) 16 = .ok (.aload_n 0, 1) := by decide +kernel
theorem q29_17 : gfB 29 17 29 2 3 = true := by decide +kernel
theorem q29_20 : cfB 29 20 23 201 0 4 1 = true := by decide +kernel
theorem q29_23 : decode (mB 29) 23 = .ok (.ireturn, 1) := by decide +kernel
theorem q30_0 : decode (mB 30) 0 = .ok (.aload_n 0, 1) := by decide +kernel
theorem q30_1 : decode (mB 30) 1 = .ok (.iload_n 1, 1) := by decide +kernel
theorem q30_2 : cfB 30 2 32 31 1 4 1 = true := by decide +kernel
theorem q30_5 : decode (mB 30) 5 = .ok (.ifCond .ne 7, 3) := by decide +kernel
theorem q30_8 : decode (mB 30) 8 = .ok (.iconst 1, 1) := by decide +kernel
theorem q30_9 : decode (mB 30) 9 = .ok (.goto 4, 3) := by decide +kernel
theorem q30_12 : decode (mB 30) 12 = .ok (.iconst 0, 1) := by decide +kernel
theorem q30_13 : decode (mB 30) 13 = .ok (.ireturn, 1) := by decide +kernel
theorem q31_0 : decode (mB 31) 0 = .ok (.iload_n 1, 1) := by decide +kernel
theorem q31_1 : cfB 31 1 35 9 0 4 1 = true := by decide +kernel
theorem q31_4 : decode (mB 31) 4 = .ok (.istore_n 2, 1) := by decide +kernel
theorem q31_5 : decode (mB 31) 5 = .ok (.iload_n 1, 1) := by decide +kernel
theorem q31_6 : cfB 31 6 41 10 0 4 1 = true := by decide +kernel
theorem q31_9 : decode (mB 31) 9 = .ok (.istore_n 3, 1) := by decide +kernel
theorem q31_10 : decode (mB 31) 10 = .ok (.aload_n 0, 1) := by decide +kernel
theorem q31_11 : gfB 31 11 9 2 0 = true := by decide +kernel
theorem q31_14 : decode (mB 31) 14 = .ok (.iload_n 1, 1) := by decide +kernel
theorem q31_15 : decode (mB 31) 15 = .ok (.iconst 0, 1) := by decide +kernel
theorem q31_16 : cfB 31 16 44 11 0 4 2 = true := by decide +kernel
theorem q31_19 : cfB 31 19 48 56 1 4 1 = true := by decide +kernel
theorem q31_22 : decode (mB 31) 22 = .ok (.istore 4, 2) := by decide +kernel
theorem q31_24 : decode (mB 31) 24 = .ok (.aload_n 0, 1) := by decide +kernel
theorem q31_25 : gfB 31 25 9 2 0 = true := by decide +kernel
theorem q31_28 : decode (mB 31) 28 = .ok (.iload_n 1, 1) := by decide +kernel
theorem q31_29 : decode (mB 31) 29 = .ok (.iconst 1, 1) := by decide +kernel
theorem q31_30 : cfB 31 30 44 11 0 4 2 = true := by decide +kernel
theorem q31_33 : cfB 31 33 48 56 1 4 1 = true := by decide +kernel
theorem q31_36 : decode (mB 31) 36 = .ok (.istore 5, 2) := by decide +kernel
theorem q31_38 : decode (mB 31) 38 = .ok (.aload_n 0, 1) := by decide +kernel
theorem q31_39 : gfB 31 39 9 2 0 = true := by decide +kernel
theorem q31_42 : decode (mB 31) 42 = .ok (.iload_n 1, 1) := by decide +kernel
theorem q31_43 : decode (mB 31) 43 = .ok (.iconst 3, 1) := by decide +kernel
theorem q31_44 : cfB 31 44 44 11 0 4 2 = true := by decide +kernel
theorem q31_47 : cfB 31 47 48 56 1 4 1 = true := by decide +kernel
theorem q31_50 : decode (mB 31) 50 = .ok (.istore 6, 2) := by decide +kernel
theorem q31_52 : decode (mB 31) 52 = .ok (.iload 5, 2) := by decide +kernel
theorem q31_54 : decode (mB 31) 54 = .ok (.iconst 4, 1) := by decide +kernel
theorem q31_55 : decode (mB 31) 55 = .ok (.if_icmp .eq 8, 3) := by decide +kernel
theorem q31_58 : decode (mB 31) 58 = .ok (.iload_n 3, 1) := by decide +kernel
theorem q31_59 : decode (mB 31) 59 = .ok (.iconst 1, 1) := by decide +kernel
theorem q31_60 : decode (mB 31) 60 = .ok (.if_icmp .ne 7, 3) := by decide +kernel
theorem q31_63 : decode (mB 31) 63 = .ok (.iconst 1, 1) := by decide +kernel
theorem q31_64 : decode (mB 31) 64 = .ok (.goto 4, 3) := by decide +kernel
theorem q31_67 : decode (mB 31) 67 = .ok (.iconst 0, 1) := by decide +kernel
theorem q31_68 : decode (mB 31) 68 = .ok (.istore 7, 2) := by decide +kernel
theorem q31_70 : decode (mB 31) 70 = .ok (.iload 4, 2) := by decide +kernel
theorem q31_72 : decode (mB 31) 72 = .ok (.iconst (-1), 1) := by decide +kernel
theorem q31_73 : decode (mB 31) 73 = .ok (.if_icmp .ne 11, 3) := by decide +kernel
theorem q31_76 : decode (mB 31) 76 = .ok (.iload 5, 2) := by decide +kernel
theorem q31_78 : decode (mB 31) 78 = .ok (.iconst (-1), 1) := by decide +kernel
theorem q31_79 : decode (mB 31) 79 = .ok (.if_icmp .ne 5, 3) := by decide +kernel
theorem q31_82 : decode (mB 31) 82 = .ok (.iconst 1, 1) := by decide +kernel
theorem q31_83 : decode (mB 31) 83 = .ok (.ireturn, 1) := by decide +kernel
theorem q31_84 : decode (mB 31) 84 = .ok (.aload_n 0, 1) := by decide +kernel
theorem q31_85 : decode (mB 31) 85 = .ok (.iload_n 1, 1) := by decide +kernel
theorem q31_86 : cfB 31 86 53 32 1 4 1 = true := by decide +kernel
theorem q31_89 : decode (mB 31) 89 = .ok (.ifCond .eq 5, 3) := by decide +kernel
theorem q31_92 : decode (mB 31) 92 = .ok (.iconst 2, 1) := by decide +kernel
theorem q31_93 : decode (mB 31) 93 = .ok (.ireturn, 1) := by decide +kernel
theorem q31_94 : decode (mB 31) 94 = .ok (.iload 6, 2) := by decide +kernel
theorem q31_96 : decode (mB 31) 96 = .ok (.iconst (-1), 1) := by decide +kernel
theorem q31_97 : decode (mB 31) 97 = .ok (.if_icmp .eq 17, 3) := by decide +kernel
theorem q31_100 : decode (mB 31) 100 = .ok (.iload 6, 2) := by decide +kernel
theorem q31_102 : decode (mB 31) 102 = .ok (.iconst 4, 1) := by decide +kernel
theorem q31_103 : decode (mB 31) 103 = .ok (.if_icmp .ne 9, 3) := by decide +kernel
theorem q31_106 : decode (mB 31) 106 = .ok (.iload_n 2, 1) := by decide +kernel
theorem q31_107 : decode (mB 31) 107 = .ok (.bipush 112, 2) := by decide +kernel
theorem q31_109 : decode (mB 31) 109 = .ok (.if_icmp .eq 5, 3) := by decide +kernel
theorem q31_112 : decode (mB 31) 112 = .ok (.iconst 3, 1) := by decide +kernel
theorem q31_113 : decode (mB 31) 113 = .ok (.ireturn, 1) := by decide +kernel
theorem q31_114 : decode (mB 31) 114 = .ok (.iload_n 2, 1) := by decide +kernel
theorem q31_115 : decode (mB 31) 115 = .ok (.bipush 98, 2) := by decide +kernel
theorem q31_117 : decode (mB 31) 117 = .ok (.if_icmp .ne 22, 3) := by decide +kernel
theorem q31_120 : decode (mB 31) 120 = .ok (.iload 4, 2) := by decide +kernel
theorem q31_122 : decode (mB 31) 122 = .ok (.iconst 3, 1) := by decide +kernel
theorem q31_123 : decode (mB 31) 123 = .ok (.if_icmp .eq 9, 3) := by decide +kernel
theorem q31_126 : decode (mB 31) 126 = .ok (.iload 4, 2) := by decide +kernel
theorem q31_128 : decode (mB 31) 128 = .ok (.iconst 2, 1) := by decide +kernel
theorem q31_129 : decode (mB 31) 129 = .ok (.if_icmp .ne 8, 3) := by decide +kernel
theorem q31_132 : decode (mB 31) 132 = .ok (.iload 7, 2) := by decide +kernel
theorem q31_134 : decode (mB 31) 134 = .ok (.ifCond .ne 5, 3) := by decide +kernel
theorem q31_137 : decode (mB 31) 137 = .ok (.iconst 4, 1) := by decide +kernel
theorem q31_138 : decode (mB 31) 138 = .ok (.ireturn, 1) := by decide +kernel
theorem q31_139 : decode (mB 31) 139 = .ok (.iload_n 2, 1) := by decide +kernel
theorem q31_140 : decode (mB 31) 140 = .ok (.bipush 108, 2) := by decide +kernel
theorem q31_142 : decode (mB 31) 142 = .ok (.if_icmp .ne 22, 3) := by decide +kernel
theorem q31_145 : decode (mB 31) 145 = .ok (.iload 4, 2) := by decide +kernel
theorem q31_147 : decode (mB 31) 147 = .ok (.iconst 2, 1) := by decide +kernel
theorem q31_148 : decode (mB 31) 148 = .ok (.if_icmp .eq 9, 3) := by decide +kernel
theorem q31_151 : decode (mB 31) 151 = .ok (.iload 4, 2) := by decide +kernel
theorem q31_153 : decode (mB 31) 153 = .ok (.iconst 4, 1) := by decide +kernel
theorem q31_154 : decode (mB 31) 154 = .ok (.if_icmp .ne 8, 3) := by decide +kernel
theorem q31_157 : decode (mB 31) 157 = .ok (.iload 7, 2) := by decide +kernel
theorem q31_159 : decode (mB 31) 159 = .ok (.ifCond .ne 5, 3) := by decide +kernel
theorem q31_162 : decode (mB 31) 162 = .ok (.iconst 5, 1) := by decide +kernel
theorem q31_163 : decode (mB 31) 163 = .ok (.ireturn, 1) := by decide +kernel
theorem q31_164 : decode (mB 31) 164 = .ok (.iload_n 3, 1) := by decide +kernel
theorem q31_165 : decode (mB 31) 165 = .ok (.iconst 1, 1) := by decide +kernel
theorem q31_166 : decode (mB 31) 166 = .ok (.if_icmp .ne 12, 3) := by decide +kernel
theorem q31_169 : decode (mB 31) 169 = .ok (.iload 5, 2) := by decide +kernel
theorem q31_171 : decode (mB 31) 171 = .ok (.iconst (-1), 1) := by decide +kernel
theorem q31_172 : decode (mB 31) 172 = .ok (.if_icmp .eq 6, 3) := by decide +kernel
theorem q31_175 : decode (mB 31) 175 = .ok (.bipush 6, 2) := by decide +kernel
theorem q31_177 : decode (mB 31) 177 = .ok (.ireturn, 1) := by decide +kernel
theorem q31_178 : decode (mB 31) 178 = .ok (.iload_n 3, 1) := by decide +kernel
theorem q31_179 : decode (mB 31) 179 = .ok (.iconst 2, 1) := by decide +kernel
theorem q31_180 : decode (mB 31) 180 = .ok (.if_icmp .ne 24, 3) := by decide +kernel
theorem q31_183 : decode (mB 31) 183 = .ok (.iload 5, 2) := by decide +kernel
theorem q31_185 : decode (mB 31) 185 = .ok (.iconst 4, 1) := by decide +kernel
theorem q31_186 : decode (mB 31) 186 = .ok (.if_icmp .ne 15, 3) := by decide +kernel
theorem q31_189 : decode (mB 31) 189 = .ok (.iload 4, 2) := by decide +kernel
theorem q31_191 : decode (mB 31) 191 = .ok (.iconst 3, 1) := by decide +kernel
theorem q31_192 : decode (mB 31) 192 = .ok (.if_icmp .eq 12, 3) := by decide +kernel
theorem q31_195 : decode (mB 31) 195 = .ok (.iload 4, 2) := by decide +kernel
theorem q31_197 : decode (mB 31) 197 = .ok (.iconst 2, 1) := by decide +kernel
theorem q31_198 : decode (mB 31) 198 = .ok (.if_icmp .eq 6, 3) := by decide +kernel
theorem q31_201 : decode (mB 31) 201 = .ok (.bipush 7, 2) := by decide +kernel
theorem q31_203 : decode (mB 31) 203 = .ok (.ireturn, 1) := by decide +kernel
theorem q31_204 : decode (mB 31) 204 = .ok (.aload_n 0, 1) := by decide +kernel
theorem q31_205 : decode (mB 31) 205 = .ok (.iload_n 1, 1) := by decide +kernel
theorem q31_206 : cfB 31 206 57 33 1 4 1 = true := by decide +kernel
theorem q31_209 : decode (mB 31) 209 = .ok (.ifCond .eq 6, 3) := by decide +kernel
theorem q31_212 : decode (mB 31) 212 = .ok (.bipush 8, 2) := by decide +kernel
theorem q31_214 : decode (mB 31) 214 = .ok (.ireturn, 1) := by decide +kernel
theorem q31_215 : decode (mB 31) 215 = .ok (.aload_n 0, 1) := by decide +kernel
theorem q31_216 : decode (mB 31) 216 = .ok (.iload_n 1, 1) := by decide +kernel
theorem q31_217 : cfB 31 217 60 34 1 4 1 = true := by decide +kernel
theorem q31_220 : decode (mB 31) 220 = .ok (.ifCond .eq 7, 3) := by decide +kernel
theorem q31_223 : decode (mB 31) 223 = .ok (.iconst 0, 1) := by decide +kernel
theorem q31_224 : decode (mB 31) 224 = .ok (.goto 5, 3) := by decide +kernel
theorem q31_227 : decode (mB 31) 227 = .ok (.bipush 9, 2) := by decide +kernel
theorem q31_229 : decode (mB 31) 229 = .ok (.ireturn, 1) := by decide +kernel
theorem q32_0 : decode (mB 32) 0 = .ok (.iconst 0, 1) := by decide +kernel
theorem q32_1 : decode (mB 32) 1 = .ok (.istore_n 2, 1) := by decide +kernel
theorem q32_2 : decode (mB 32) 2 = .ok (.iload_n 2, 1) := by decide +kernel
theorem q32_3 : decode (mB 32) 3 = .ok (.iconst 4, 1) := by decide +kernel
theorem q32_4 : decode (mB 32) 4 = .ok (.if_icmp .ge 29, 3) := by decide +kernel
theorem q32_7 : decode (mB 32) 7 = .ok (.aload_n 0, 1) := by decide +kernel
theorem q32_8 : gfB 32 8 9 2 0 = true := by decide +kernel
theorem q32_11 : decode (mB 32) 11 = .ok (.iload_n 1, 1) := by decide +kernel
theorem q32_12 : decode (mB 32) 12 = .ok (.iload_n 2, 1) := by decide +kernel
theorem q32_13 : cfB 32 13 44 11 0 4 2 = true := by decide +kernel
theorem q32_16 : cfB 32 16 48 56 1 4 1 = true := by decide +kernel
theorem q32_19 : cfB 32 19 63 62 0 4 1 = true := by decide +kernel
theorem q32_22 : decode (mB 32) 22 = .ok (.ifCond .eq 5, 3) := by decide +kernel
theorem q32_25 : decode (mB 32) 25 = .ok (.iconst 1, 1) := by decide +kernel
theorem q32_26 : decode (mB 32) 26 = .ok (.ireturn, 1) := by decide +kernel
theorem q32_27 : decode (mB 32) 27 = .ok (.iinc 2 1, 3) := by decide +kernel
theorem q32_30 : decode (mB 32) 30 = .ok (.goto (-28), 3) := by decide +kernel
theorem q32_33 : decode (mB 32) 33 = .ok (.iconst 0, 1) := by decide +kernel
theorem q32_34 : decode (mB 32) 34 = .ok (.ireturn, 1) := by decide +kernel
theorem q33_0 : decode (mB 33) 0 = .ok (.iconst 0, 1) := by decide +kernel
theorem q33_1 : decode (mB 33) 1 = .ok (.istore_n 2, 1) := by decide +kernel
theorem q33_2 : decode (mB 33) 2 = .ok (.iload_n 2, 1) := by decide +kernel
theorem q33_3 : decode (mB 33) 3 = .ok (.iconst 4, 1) := by decide +kernel
theorem q33_4 : decode (mB 33) 4 = .ok (.if_icmp .ge 24, 3) := by decide +kernel
theorem q33_7 : decode (mB 33) 7 = .ok (.aload_n 0, 1) := by decide +kernel
theorem q33_8 : decode (mB 33) 8 = .ok (.iload_n 1, 1) := by decide +kernel
theorem q33_9 : decode (mB 33) 9 = .ok (.iload_n 2, 1) := by decide +kernel
theorem q33_10 : cfB 33 10 44 11 0 4 2 = true := by decide +kernel
theorem q33_13 : decode (mB 33) 13 = .ok (.iload_n 2, 1) := by decide +kernel
theorem q33_14 : cfB 33 14 66 28 1 4 2 = true := by decide +kernel
theorem q33_17 : decode (mB 33) 17 = .ok (.ifCond .eq 5, 3) := by decide +kernel
theorem q33_20 : decode (mB 33) 20 = .ok (.iconst 1, 1) := by decide +kernel
theorem q33_21 : decode (mB 33) 21 = .ok (.ireturn, 1) := by decide +kernel
theorem q33_22 : decode (mB 33) 22 = .ok (.iinc 2 1, 3) := by decide +kernel
theorem q33_25 : decode (mB 33) 25 = .ok (.goto (-23), 3) := by decide +kernel
theorem q33_28 : decode (mB 33) 28 = .ok (.iconst 0, 1) := by decide +kernel
theorem q33_29 : decode (mB 33) 29 = .ok (.ireturn, 1) := by decide +kernel
theorem q34_0 : decode (mB 34) 0 = .ok (.aload_n 0, 1) := by decide +kernel
theorem q34_1 : gfB 34 1 15 2 2 = true := by decide +kernel
theorem q34_4 : decode (mB 34) 4 = .ok (.bipush 45, 2) := by decide +kernel
theorem q34_6 : decode (mB 34) 6 = .ok (.if_icmp .eq 14, 3) := by decide +kernel
theorem q34_9 : decode (mB 34) 9 = .ok (.aload_n 0, 1) := by decide +kernel
theorem q34_10 : gfB 34 10 15 2 2 = true := by decide +kernel
theorem q34_13 : decode (mB 34) 13 = .ok (.iload_n 1, 1) := by decide +kernel
theorem q34_14 : cfB 34 14 35 9 0 4 1 = true := by decide +kernel
theorem q34_17 : decode (mB 34) 17 = .ok (.if_icmp .ne 7, 3) := by decide +kernel
theorem q34_20 : decode (mB 34) 20 = .ok (.iconst 1, 1) := by decide +kernel
theorem q34_21 : decode (mB 34) 21 = .ok (.goto 4, 3) := by decide +kernel
theorem q34_24 : decode (mB 34) 24 = .ok (.iconst 0, 1) := by decide +kernel
theorem q34_25 : decode (mB 34) 25 = .ok (.istore_n 2, 1) := by decide +kernel
theorem q34_26 : decode (mB 34) 26 = .ok (.iload_n 2, 1) := by decide +kernel
theorem q34_27 : decode (mB 34) 27 = .ok (.ifCond .eq 21, 3) := by decide +kernel
theorem q34_30 : decode (mB 34) 30 = .ok (.aload_n 0, 1) := by decide +kernel
theorem q34_31 : gfB 34 31 19 2 1 = true := by decide +kernel
theorem q34_34 : decode (mB 34) 34 = .ok (.iload_n 1, 1) := by decide +kernel
theorem q34_35 : cfB 34 35 70 15 0 4 1 = true := by decide +kernel
theorem q34_38 : decode (mB 34) 38 = .ok (.iconst (-1), 1) := by decide +kernel
theorem q34_39 : decode (mB 34) 39 = .ok (.ixor, 1) := by decide +kernel
theorem q34_40 : decode (mB 34) 40 = .ok (.iand, 1) := by decide +kernel
theorem q34_41 : decode (mB 34) 41 = .ok (.ifCond .ne 7, 3) := by decide +kernel
theorem q34_44 : decode (mB 34) 44 = .ok (.iconst 1, 1) := by decide +kernel
theorem q34_45 : decode (mB 34) 45 = .ok (.goto 4, 3) := by decide +kernel
theorem q34_48 : decode (mB 34) 48 = .ok (.iconst 0, 1) := by decide +kernel
theorem q34_49 : decode (mB 34) 49 = .ok (.ireturn, 1) := by decide +kernel
theorem q35_0 : decode (mB 35) 0 = .ok (.aload_n 0, 1) := by decide +kernel
theorem q35_1 : (decide (35 < 235) && decide (decode (mB 35) 1 = .ok (.invokespecial 3, 3)) && (lks (mD 35)).contains (3, 2, 0, 0) && decide (1 ≤ mV 35)) = true := by decide +kernel
theorem q35_4 : decode (mB 35) 4 = .ok (.aload_n 0, 1) := by decide +kernel
theorem q35_5 : decode (mB 35) 5 = .ok (.iconst 4, 1) := by decide +kernel
theorem q35_6 : naB 35 6 0 = true := by decide +kernel
theorem q35_8 : pfB 35 8 11 3 0 = true := by decide +kernel
theorem q35_11 : decode (mB 35) 11 = .ok (.aload_n 0, 1) := by decide +kernel
theorem q35_12 : decode (mB 35) 12 = .ok (.iconst (-1), 1) := by decide +kernel
theorem q35_13 : pfB 35 13 15 3 2 = true := by decide +kernel
theorem q35_16 : decode (mB 35) 16 = .ok (.return_, 1) := by decide +kernel
theorem q36_0 : decode (mB 36) 0 = .ok (.aload_n 0, 1) := by decide +kernel
theorem q36_1 : gfB 36 1 15 3 2 = true := by decide +kernel
theorem q36_4 : decode (mB 36) 4 = .ok (.iconst (-1), 1) := by decide +kernel
theorem q36_5 : decode (mB 36) 5 = .ok (.if_icmp .eq 7, 3) := by decide +kernel
theorem q36_8 : decode (mB 36) 8 = .ok (.iconst 1, 1) := by decide +kernel
theorem q36_9 : decode (mB 36) 9 = .ok (.goto 4, 3) := by decide +kernel
theorem q36_12 : decode (mB 36) 12 = .ok (.iconst 0, 1) := by decide +kernel
theorem q36_13 : decode (mB 36) 13 = .ok (.ireturn, 1) := by decide +kernel
theorem q37_0 : decode (mB 37) 0 = .ok (.aload_n 0, 1) := by decide +kernel
theorem q37_1 : gfB 37 1 15 3 2 = true := by decide +kernel
theorem q37_4 : decode (mB 37) 4 = .ok (.ireturn, 1) := by decide +kernel
theorem q38_0 : decode (mB 38) 0 = .ok (.aload_n 0, 1) := by decide +kernel
theorem q38_1 : gfB 38 1 19 3 1 = true := by decide +kernel
theorem q38_4 : decode (mB 38) 4 = .ok (.ireturn, 1) := by decide +kernel
theorem q39_0 : decode (mB 39) 0 = .ok (.aload_n 0, 1) := by decide +kernel
theorem q39_1 : cfB 39 1 22 36 1 4 0 = true := by decide +kernel
theorem q39_4 : decode (mB 39) 4 = .ok (.ifCond .eq 7, 3) := by decide +kernel
theorem q39_7 : decode (mB 39) 7 = .ok (.aload_n 0, 1) := by decide +kernel
theorem q39_8 : cfB 39 8 26 42 1 4 0 = true := by decide +kernel
theorem q39_11 : decode (mB 39) 11 = .ok (.aload_n 0, 1) := by decide +kernel
theorem q39_12 : decode (mB 39) 12 = .ok (.iload_n 1, 1) := by decide +kernel
theorem q39_13 : pfB 39 13 15 3 2 = true := by decide +kernel
theorem q39_16 : decode (mB 39) 16 = .ok (.return_, 1) := by decide +kernel
theorem q40_0 : decode (mB 40) 0 = .ok (.aload_n 0, 1) := by decide +kernel
theorem q40_1 : gfB 40 1 19 3 1 = true := by decide +kernel
theorem q40_4 : decode (mB 40) 4 = .ok (.ifCond .ne 4, 3) := by decide +kernel
theorem q40_7 : decode (mB 40) 7 = .ok (.return_, 1) := by decide +kernel
theorem q40_8 : decode (mB 40) 8 = .ok (.aload_n 0, 1) := by decide +kernel
theorem q40_9 : decode (mB 40) 9 = .ok (.aload_n 0, 1) := by decide +kernel
theorem q40_10 : gfB 40 10 11 3 0 = true := by decide +kernel
theorem q40_13 : decode (mB 40) 13 = .ok (.iconst 0, 1) := by decide +kernel
theorem q40_14 : decode (mB 40) 14 = .ok (.iaload, 1) := by decide +kernel
theorem q40_15 : pfB 40 15 15 3 2 = true := by decide +kernel
theorem q40_18 : decode (mB 40) 18 = .ok (.aload_n 0, 1) := by decide +kernel
theorem q40_19 : decode (mB 40) 19 = .ok (.dup, 1) := by decide +kernel
theorem q40_20 : gfB 40 20 19 3 1 = true := by decide +kernel
theorem q40_23 : decode (mB 40) 23 = .ok (.iconst 1, 1) := by decide +kernel
theorem q40_24 : decode (mB 40) 24 = .ok (.isub, 1) := by decide +kernel
theorem q40_25 : pfB 40 25 19 3 1 = true := by decide +kernel
theorem q40_28 : decode (mB 40) 28 = .ok (.iconst 0, 1) := by decide +kernel
theorem q40_29 : decode (mB 40) 29 = .ok (.istore_n 1, 1) := by decide +kernel
theorem q40_30 : decode (mB 40) 30 = .ok (.iload_n 1, 1) := by decide +kernel
theorem q40_31 : decode (mB 40) 31 = .ok (.aload_n 0, 1) := by decide +kernel
theorem q40_32 : gfB 40 32 19 3 1 = true := by decide +kernel
theorem q40_35 : decode (mB 40) 35 = .ok (.if_icmp .ge 34, 3) := by decide +kernel
theorem q40_38 : decode (mB 40) 38 = .ok (.iload_n 1, 1) := by decide +kernel
theorem q40_39 : decode (mB 40) 39 = .ok (.iconst 1, 1) := by decide +kernel
theorem q40_40 : decode (mB 40) 40 = .ok (.iadd, 1) := by decide +kernel
theorem q40_41 : decode (mB 40) 41 = .ok (.aload_n 0, 1) := by decide +kernel
theorem q40_42 : gfB 40 42 11 3 0 = true := by decide +kernel
theorem q40_45 : decode (mB 40) 45 = .ok (.arraylength, 1) := by decide +kernel
theorem q40_46 : decode (mB 40) 46 = .ok (.if_icmp .ge 23, 3) := by decide +kernel
theorem q40_49 : decode (mB 40) 49 = .ok (.aload_n 0, 1) := by decide +kernel
theorem q40_50 : gfB 40 50 11 3 0 = true := by decide +kernel
theorem q40_53 : decode (mB 40) 53 = .ok (.iload_n 1, 1) := by decide +kernel
theorem q40_54 : decode (mB 40) 54 = .ok (.aload_n 0, 1) := by decide +kernel
theorem q40_55 : gfB 40 55 11 3 0 = true := by decide +kernel
theorem q40_58 : decode (mB 40) 58 = .ok (.iload_n 1, 1) := by decide +kernel
theorem q40_59 : decode (mB 40) 59 = .ok (.iconst 1, 1) := by decide +kernel
theorem q40_60 : decode (mB 40) 60 = .ok (.iadd, 1) := by decide +kernel
theorem q40_61 : decode (mB 40) 61 = .ok (.iaload, 1) := by decide +kernel
theorem q40_62 : decode (mB 40) 62 = .ok (.iastore, 1) := by decide +kernel
theorem q40_63 : decode (mB 40) 63 = .ok (.iinc 1 1, 3) := by decide +kernel
theorem q40_66 : decode (mB 40) 66 = .ok (.goto (-36), 3) := by decide +kernel
theorem q40_69 : decode (mB 40) 69 = .ok (.return_, 1) := by decide +kernel
theorem q41_0 : decode (mB 41) 0 = .ok (.iconst 0, 1) := by decide +kernel
theorem q41_1 : decode (mB 41) 1 = .ok (.istore_n 2, 1) := by decide +kernel
theorem q41_2 : decode (mB 41) 2 = .ok (.iconst 0, 1) := by decide +kernel
theorem q41_3 : decode (mB 41) 3 = .ok (.istore_n 3, 1) := by decide +kernel
theorem q41_4 : decode (mB 41) 4 = .ok (.iload_n 3, 1) := by decide +kernel
theorem q41_5 : decode (mB 41) 5 = .ok (.aload_n 0, 1) := by decide +kernel
theorem q41_6 : gfB 41 6 19 3 1 = true := by decide +kernel
theorem q41_9 : decode (mB 41) 9 = .ok (.if_icmp .ge 46, 3) := by decide +kernel
theorem q41_12 : decode (mB 41) 12 = .ok (.iload_n 3, 1) := by decide +kernel
theorem q41_13 : decode (mB 41) 13 = .ok (.aload_n 0, 1) := by decide +kernel
theorem q41_14 : gfB 41 14 11 3 0 = true := by decide +kernel
theorem q41_17 : decode (mB 41) 17 = .ok (.arraylength, 1) := by decide +kernel
theorem q41_18 : decode (mB 41) 18 = .ok (.if_icmp .ge 37, 3) := by decide +kernel
theorem q41_21 : decode (mB 41) 21 = .ok (.aload_n 1, 1) := by decide +kernel
theorem q41_22 : decode (mB 41) 22 = .ok (.aload_n 0, 1) := by decide +kernel
theorem q41_23 : gfB 41 23 11 3 0 = true := by decide +kernel
theorem q41_26 : decode (mB 41) 26 = .ok (.iload_n 3, 1) := by decide +kernel
theorem q41_27 : decode (mB 41) 27 = .ok (.iaload, 1) := by decide +kernel
theorem q41_28 : cfB 41 28 29 30 1 4 1 = true := by decide +kernel
theorem q41_31 : decode (mB 41) 31 = .ok (.ifCond .eq 18, 3) := by decide +kernel
theorem q41_34 : decode (mB 41) 34 = .ok (.aload_n 0, 1) := by decide +kernel
theorem q41_35 : gfB 41 35 11 3 0 = true := by decide +kernel
theorem q41_38 : decode (mB 41) 38 = .ok (.iload_n 2, 1) := by decide +kernel
theorem q41_39 : decode (mB 41) 39 = .ok (.aload_n 0, 1) := by decide +kernel
theorem q41_40 : gfB 41 40 11 3 0 = true := by decide +kernel
theorem q41_43 : decode (mB 41) 43 = .ok (.iload_n 3, 1) := by decide +kernel
theorem q41_44 : decode (mB 41) 44 = .ok (.iaload, 1) := by decide +kernel
theorem q41_45 : decode (mB 41) 45 = .ok (.iastore, 1) := by decide +kernel
theorem q41_46 : decode (mB 41) 46 = .ok (.iinc 2 1, 3) := by decide +kernel
theorem q41_49 : decode (mB 41) 49 = .ok (.iinc 3 1, 3) := by decide +kernel
theorem q41_52 : decode (mB 41) 52 = .ok (.goto (-48), 3) := by decide +kernel
theorem q41_55 : decode (mB 41) 55 = .ok (.aload_n 0, 1) := by decide +kernel
theorem q41_56 : gfB 41 56 19 3 1 = true := by decide +kernel
theorem q41_59 : decode (mB 41) 59 = .ok (.iload_n 2, 1) := by decide +kernel
theorem q41_60 : decode (mB 41) 60 = .ok (.isub, 1) := by decide +kernel
theorem q41_61 : decode (mB 41) 61 = .ok (.istore_n 3, 1) := by decide +kernel
theorem q41_62 : decode (mB 41) 62 = .ok (.aload_n 0, 1) := by decide +kernel
theorem q41_63 : decode (mB 41) 63 = .ok (.iload_n 2, 1) := by decide +kernel
theorem q41_64 : pfB 41 64 19 3 1 = true := by decide +kernel
theorem q41_67 : decode (mB 41) 67 = .ok (.iload_n 3, 1) := by decide +kernel
theorem q41_68 : decode (mB 41) 68 = .ok (.ireturn, 1) := by decide +kernel
theorem q42_0 : decode (mB 42) 0 = .ok (.aload_n 0, 1) := by decide +kernel
theorem q42_1 : gfB 42 1 19 3 1 = true := by decide +kernel
theorem q42_4 : decode (mB 42) 4 = .ok (.iconst 4, 1) := by decide +kernel
theorem q42_5 : decode (mB 42) 5 = .ok (.if_icmp .ge 13, 3) := by decide +kernel
theorem q42_8 : decode (mB 42) 8 = .ok (.aload_n 0, 1) := by decide +kernel
theorem q42_9 : decode (mB 42) 9 = .ok (.dup, 1) := by decide +kernel
theorem q42_10 : gfB 42 10 19 3 1 = true := by decide +kernel
theorem q42_13 : decode (mB 42) 13 = .ok (.iconst 1, 1) := by decide +kernel
theorem q42_14 : decode (mB 42) 14 = .ok (.iadd, 1) := by decide +kernel
theorem q42_15 : pfB 42 15 19 3 1 = true := by decide +kernel
theorem q42_18 : decode (mB 42) 18 = .ok (.aload_n 0, 1) := by decide +kernel
theorem q42_19 : gfB 42 19 19 3 1 = true := by decide +kernel
theorem q42_22 : decode (mB 42) 22 = .ok (.iconst 1, 1) := by decide +kernel
theorem q42_23 : decode (mB 42) 23 = .ok (.isub, 1) := by decide +kernel
theorem q42_24 : decode (mB 42) 24 = .ok (.istore_n 1, 1) := by decide +kernel
theorem q42_25 : decode (mB 42) 25 = .ok (.iload_n 1, 1) := by decide +kernel
theorem q42_26 : decode (mB 42) 26 = .ok (.ifCond .le 32, 3) := by decide +kernel
theorem q42_29 : decode (mB 42) 29 = .ok (.iload_n 1, 1) := by decide +kernel
theorem q42_30 : decode (mB 42) 30 = .ok (.aload_n 0, 1) := by decide +kernel
theorem q42_31 : gfB 42 31 11 3 0 = true := by decide +kernel
theorem q42_34 : decode (mB 42) 34 = .ok (.arraylength, 1) := by decide +kernel
theorem q42_35 : decode (mB 42) 35 = .ok (.if_icmp .ge 23, 3) := by decide +kernel
theorem q42_38 : decode (mB 42) 38 = .ok (.aload_n 0, 1) := by decide +kernel
theorem q42_39 : gfB 42 39 11 3 0 = true := by decide +kernel
theorem q42_42 : decode (mB 42) 42 = .ok (.iload_n 1, 1) := by decide +kernel
theorem q42_43 : decode (mB 42) 43 = .ok (.aload_n 0, 1) := by decide +kernel
theorem q42_44 : gfB 42 44 11 3 0 = true := by decide +kernel
theorem q42_47 : decode (mB 42) 47 = .ok (.iload_n 1, 1) := by decide +kernel
theorem q42_48 : decode (mB 42) 48 = .ok (.iconst 1, 1) := by decide +kernel
theorem q42_49 : decode (mB 42) 49 = .ok (.isub, 1) := by decide +kernel
theorem q42_50 : decode (mB 42) 50 = .ok (.iaload, 1) := by decide +kernel
theorem q42_51 : decode (mB 42) 51 = .ok (.iastore, 1) := by decide +kernel
theorem q42_52 : decode (mB 42) 52 = .ok (.iinc 1 (-1), 3) := by decide +kernel
theorem q42_55 : decode (mB 42) 55 = .ok (.goto (-30), 3) := by decide +kernel
theorem q42_58 : decode (mB 42) 58 = .ok (.aload_n 0, 1) := by decide +kernel
theorem q42_59 : gfB 42 59 11 3 0 = true := by decide +kernel
theorem q42_62 : decode (mB 42) 62 = .ok (.iconst 0, 1) := by decide +kernel
theorem q42_63 : decode (mB 42) 63 = .ok (.aload_n 0, 1) := by decide +kernel
theorem q42_64 : gfB 42 64 15 3 2 = true := by decide +kernel
theorem q42_67 : decode (mB 42) 67 = .ok (.iastore, 1) := by decide +kernel
theorem q42_68 : decode (mB 42) 68 = .ok (.return_, 1) := by decide +kernel
theorem q43_0 : decode (mB 43) 0 = .ok (.iload_n 0, 1) := by decide +kernel
theorem q43_1 : decode (mB 43) 1 = .ok (.i2l, 1) := by decide +kernel
theorem q43_2 : decode (mB 43) 2 = .ok (.bipush 24, 2) := by decide +kernel
theorem q43_4 : decode (mB 43) 4 = .ok (.lshl, 1) := by decide +kernel
theorem q43_5 : decode (mB 43) 5 = .ok (.iload_n 1, 1) := by decide +kernel
theorem q43_6 : decode (mB 43) 6 = .ok (.i2l, 1) := by decide +kernel
theorem q43_7 : decode (mB 43) 7 = .ok (.lor, 1) := by decide +kernel
theorem q43_8 : decode (mB 43) 8 = .ok (.lreturn, 1) := by decide +kernel
theorem q44_0 : decode (mB 44) 0 = .ok (.lload_n 0, 1) := by decide +kernel
theorem q44_1 : decode (mB 44) 1 = .ok (.bipush 24, 2) := by decide +kernel
theorem q44_3 : decode (mB 44) 3 = .ok (.lshr, 1) := by decide +kernel
theorem q44_4 : decode (mB 44) 4 = .ok (.l2i, 1) := by decide +kernel
theorem q44_5 : decode (mB 44) 5 = .ok (.ireturn, 1) := by decide +kernel
theorem q45_0 : decode (mB 45) 0 = .ok (.lload_n 0, 1) := by decide +kernel
theorem q45_1 : (decide (45 < 235) && decide (decode (mB 45) 1 = .ok (.ldc2_w 9, 3)) && (lks (mD 45)).contains (9, 7, 16777215, 0)) = true := by decide +kernel
theorem q45_4 : decode (mB 45) 4 = .ok (.land, 1) := by decide +kernel
theorem q45_5 : decode (mB 45) 5 = .ok (.l2i, 1) := by decide +kernel
theorem q45_6 : decode (mB 45) 6 = .ok (.ireturn, 1) := by decide +kernel
theorem q46_0 : decode (mB 46) 0 = .ok (.aload_n 0, 1) := by decide +kernel
theorem q46_1 : (decide (46 < 235) && decide (decode (mB 46) 1 = .ok (.invokespecial 3, 3)) && (lks (mD 46)).contains (3, 2, 0, 0) && decide (1 ≤ mV 46)) = true := by decide +kernel
theorem q46_4 : decode (mB 46) 4 = .ok (.aload_n 0, 1) := by decide +kernel
theorem q46_5 : nwB 46 5 9 0 = true := by decide +kernel
theorem q46_8 : decode (mB 46) 8 = .ok (.dup, 1) := by decide +kernel
theorem q46_9 : cfB 46 9 11 0 2 4 0 = true := by decide +kernel
theorem q46_12 : pfB 46 12 12 4 2 = true := by decide +kernel
theorem q46_15 : decode (mB 46) 15 = .ok (.aload_n 0, 1) := by decide +kernel
theorem q46_16 : decode (mB 46) 16 = .ok (.iconst 1, 1) := by decide +kernel
theorem q46_17 : pfB 46 17 18 4 3 = true := by decide +kernel
theorem q46_20 : decode (mB 46) 20 = .ok (.aload_n 0, 1) := by decide +kernel
theorem q46_21 : decode (mB 46) 21 = .ok (.aload_n 1, 1) := by decide +kernel
theorem q46_22 : pfB 46 22 22 4 0 = true := by decide +kernel
theorem q46_25 : decode (mB 46) 25 = .ok (.aload_n 0, 1) := by decide +kernel
theorem q46_26 : decode (mB 46) 26 = .ok (.aload_n 2, 1) := by decide +kernel
theorem q46_27 : pfB 46 27 26 4 1 = true := by decide +kernel
theorem q46_30 : decode (mB 46) 30 = .ok (.return_, 1) := by decide +kernel
theorem q47_0 : decode (mB 47) 0 = .ok (.aload_n 0, 1) := by decide +kernel
theorem q47_1 : decode (mB 47) 1 = .ok (.iconst 1, 1) := by decide +kernel
theorem q47_2 : pfB 47 2 18 4 3 = true := by decide +kernel
theorem q47_5 : decode (mB 47) 5 = .ok (.return_, 1) := by decide +kernel
theorem q48_0 : decode (mB 48) 0 = .ok (.aload_n 0, 1) := by decide +kernel
theorem q48_1 : gfB 48 1 18 4 3 = true := by decide +kernel
theorem q48_4 : decode (mB 48) 4 = .ok (.ifCond .eq 66, 3) := by decide +kernel
theorem q48_7 : decode (mB 48) 7 = .ok (.aload_n 0, 1) := by decide +kernel
theorem q48_8 : gfB 48 8 12 4 2 = true := by decide +kernel
theorem q48_11 : cfB 48 11 30 5 1 4 0 = true := by decide +kernel
theorem q48_14 : gsB 48 14 33 0 8 = true := by decide +kernel
theorem q48_17 : decode (mB 48) 17 = .ok (.astore_n 1, 1) := by decide +kernel
theorem q48_18 : decode (mB 48) 18 = .ok (.aload_n 1, 1) := by decide +kernel
theorem q48_19 : decode (mB 48) 19 = .ok (.arraylength, 1) := by decide +kernel
theorem q48_20 : decode (mB 48) 20 = .ok (.istore_n 2, 1) := by decide +kernel
theorem q48_21 : decode (mB 48) 21 = .ok (.iconst 0, 1) := by decide +kernel
theorem q48_22 : decode (mB 48) 22 = .ok (.istore_n 3, 1) := by decide +kernel
theorem q48_23 : decode (mB 48) 23 = .ok (.iload_n 3, 1) := by decide +kernel
theorem q48_24 : decode (mB 48) 24 = .ok (.iload_n 2, 1) := by decide +kernel
theorem q48_25 : decode (mB 48) 25 = .ok (.if_icmp .ge 40, 3) := by decide +kernel
theorem q48_28 : decode (mB 48) 28 = .ok (.aload_n 1, 1) := by decide +kernel
theorem q48_29 : decode (mB 48) 29 = .ok (.iload_n 3, 1) := by decide +kernel
theorem q48_30 : decode (mB 48) 30 = .ok (.caload, 1) := by decide +kernel
theorem q48_31 : decode (mB 48) 31 = .ok (.istore 4, 2) := by decide +kernel
theorem q48_33 : decode (mB 48) 33 = .ok (.iconst 0, 1) := by decide +kernel
theorem q48_34 : decode (mB 48) 34 = .ok (.istore 5, 2) := by decide +kernel
theorem q48_36 : decode (mB 48) 36 = .ok (.iload 5, 2) := by decide +kernel
theorem q48_38 : decode (mB 48) 38 = .ok (.iconst 2, 1) := by decide +kernel
theorem q48_39 : decode (mB 48) 39 = .ok (.if_icmp .gt 20, 3) := by decide +kernel
theorem q48_42 : decode (mB 48) 42 = .ok (.aload_n 0, 1) := by decide +kernel
theorem q48_43 : decode (mB 48) 43 = .ok (.iload 4, 2) := by decide +kernel
theorem q48_45 : decode (mB 48) 45 = .ok (.iload 5, 2) := by decide +kernel
theorem q48_47 : cfB 48 47 37 8 0 4 2 = true := by decide +kernel
theorem q48_50 : cfB 48 50 43 49 1 4 1 = true := by decide +kernel
theorem q48_53 : decode (mB 48) 53 = .ok (.iinc 5 1, 3) := by decide +kernel
theorem q48_56 : decode (mB 48) 56 = .ok (.goto (-20), 3) := by decide +kernel
theorem q48_59 : decode (mB 48) 59 = .ok (.iinc 3 1, 3) := by decide +kernel
theorem q48_62 : decode (mB 48) 62 = .ok (.goto (-39), 3) := by decide +kernel
theorem q48_65 : decode (mB 48) 65 = .ok (.aload_n 0, 1) := by decide +kernel
theorem q48_66 : decode (mB 48) 66 = .ok (.iconst 0, 1) := by decide +kernel
theorem q48_67 : pfB 48 67 18 4 3 = true := by decide +kernel
theorem q48_70 : decode (mB 48) 70 = .ok (.aload_n 0, 1) := by decide +kernel
theorem q48_71 : gfB 48 71 12 4 2 = true := by decide +kernel
theorem q48_74 : decode (mB 48) 74 = .ok (.areturn, 1) := by decide +kernel
theorem q49_0 : decode (mB 49) 0 = .ok (.iconst (-1), 1) := by decide +kernel
theorem q49_1 : decode (mB 49) 1 = .ok (.istore_n 2, 1) := by decide +kernel
theorem q49_2 : decode (mB 49) 2 = .ok (.iload_n 2, 1) := by decide +kernel
theorem q49_3 : decode (mB 49) 3 = .ok (.bipush 6, 2) := by decide +kernel
theorem q49_5 : decode (mB 49) 5 = .ok (.if_icmp .ge 110, 3) := by decide +kernel
theorem q49_8 : decode (mB 49) 8 = .ok (.iload_n 1, 1) := by decide +kernel
theorem q49_9 : decode (mB 49) 9 = .ok (.iconst 0, 1) := by decide +kernel
theorem q49_10 : decode (mB 49) 10 = .ok (.iload_n 2, 1) := by decide +kernel
theorem q49_11 : cfB 49 11 47 14 0 4 3 = true := by decide +kernel
theorem q49_14 : decode (mB 49) 14 = .ok (.istore_n 3, 1) := by decide +kernel
theorem q49_15 : decode (mB 49) 15 = .ok (.iconst (-1), 1) := by decide +kernel
theorem q49_16 : decode (mB 49) 16 = .ok (.istore 4, 2) := by decide +kernel
theorem q49_18 : decode (mB 49) 18 = .ok (.iload 4, 2) := by decide +kernel
theorem q49_20 : decode (mB 49) 20 = .ok (.bipush 6, 2) := by decide +kernel
theorem q49_22 : decode (mB 49) 22 = .ok (.if_icmp .ge 87, 3) := by decide +kernel
theorem q49_25 : decode (mB 49) 25 = .ok (.iload_n 3, 1) := by decide +kernel
theorem q49_26 : decode (mB 49) 26 = .ok (.iconst 1, 1) := by decide +kernel
theorem q49_27 : decode (mB 49) 27 = .ok (.iload 4, 2) := by decide +kernel
theorem q49_29 : cfB 49 29 47 14 0 4 3 = true := by decide +kernel
theorem q49_32 : decode (mB 49) 32 = .ok (.istore 5, 2) := by decide +kernel
theorem q49_34 : decode (mB 49) 34 = .ok (.iload_n 2, 1) := by decide +kernel
theorem q49_35 : decode (mB 49) 35 = .ok (.iload 4, 2) := by decide +kernel
theorem q49_37 : decode (mB 49) 37 = .ok (.if_icmp .eq 66, 3) := by decide +kernel
theorem q49_40 : decode (mB 49) 40 = .ok (.aload_n 0, 1) := by decide +kernel
theorem q49_41 : decode (mB 49) 41 = .ok (.iload 5, 2) := by decide +kernel
theorem q49_43 : cfB 49 43 51 51 1 4 1 = true := by decide +kernel
theorem q49_46 : decode (mB 49) 46 = .ok (.ifCond .eq 6, 3) := by decide +kernel
theorem q49_49 : decode (mB 49) 49 = .ok (.goto 54, 3) := by decide +kernel
theorem q49_52 : decode (mB 49) 52 = .ok (.iconst (-1), 1) := by decide +kernel
theorem q49_53 : decode (mB 49) 53 = .ok (.istore 6, 2) := by decide +kernel
theorem q49_55 : decode (mB 49) 55 = .ok (.iload 6, 2) := by decide +kernel
theorem q49_57 : decode (mB 49) 57 = .ok (.bipush 6, 2) := by decide +kernel
theorem q49_59 : decode (mB 49) 59 = .ok (.if_icmp .ge 44, 3) := by decide +kernel
theorem q49_62 : decode (mB 49) 62 = .ok (.iload 5, 2) := by decide +kernel
theorem q49_64 : decode (mB 49) 64 = .ok (.iconst 2, 1) := by decide +kernel
theorem q49_65 : decode (mB 49) 65 = .ok (.iload 6, 2) := by decide +kernel
theorem q49_67 : cfB 49 67 47 14 0 4 3 = true := by decide +kernel
theorem q49_70 : decode (mB 49) 70 = .ok (.istore 7, 2) := by decide +kernel
theorem q49_72 : decode (mB 49) 72 = .ok (.iload 5, 2) := by decide +kernel
theorem q49_74 : decode (mB 49) 74 = .ok (.iload 6, 2) := by decide +kernel
theorem q49_76 : cfB 49 76 55 16 0 4 2 = true := by decide +kernel
theorem q49_79 : decode (mB 49) 79 = .ok (.ifCond .ne 18, 3) := by decide +kernel
theorem q49_82 : decode (mB 49) 82 = .ok (.aload_n 0, 1) := by decide +kernel
theorem q49_83 : decode (mB 49) 83 = .ok (.iload 7, 2) := by decide +kernel
theorem q49_85 : cfB 49 85 51 51 1 4 1 = true := by decide +kernel
theorem q49_88 : decode (mB 49) 88 = .ok (.ifCond .ne 9, 3) := by decide +kernel
theorem q49_91 : decode (mB 49) 91 = .ok (.aload_n 0, 1) := by decide +kernel
theorem q49_92 : decode (mB 49) 92 = .ok (.iload 7, 2) := by decide +kernel
theorem q49_94 : cfB 49 94 59 50 1 4 1 = true := by decide +kernel
theorem q49_97 : decode (mB 49) 97 = .ok (.iinc 6 1, 3) := by decide +kernel
theorem q49_100 : decode (mB 49) 100 = .ok (.goto (-45), 3) := by decide +kernel
theorem q49_103 : decode (mB 49) 103 = .ok (.iinc 4 1, 3) := by decide +kernel
theorem q49_106 : decode (mB 49) 106 = .ok (.goto (-88), 3) := by decide +kernel
theorem q49_109 : decode (mB 49) 109 = .ok (.iinc 2 1, 3) := by decide +kernel
theorem q49_112 : decode (mB 49) 112 = .ok (.goto (-110), 3) := by decide +kernel
theorem q49_115 : decode (mB 49) 115 = .ok (.return_, 1) := by decide +kernel
theorem q50_0 : decode (mB 50) 0 = .ok (.iconst (-1), 1) := by decide +kernel
theorem q50_1 : decode (mB 50) 1 = .ok (.istore_n 2, 1) := by decide +kernel
theorem q50_2 : decode (mB 50) 2 = .ok (.iload_n 2, 1) := by decide +kernel
theorem q50_3 : decode (mB 50) 3 = .ok (.bipush 6, 2) := by decide +kernel
theorem q50_5 : decode (mB 50) 5 = .ok (.if_icmp .ge 54, 3) := by decide +kernel
theorem q50_8 : decode (mB 50) 8 = .ok (.iload_n 1, 1) := by decide +kernel
theorem q50_9 : decode (mB 50) 9 = .ok (.iconst 3, 1) := by decide +kernel
theorem q50_10 : decode (mB 50) 10 = .ok (.iload_n 2, 1) := by decide +kernel
theorem q50_11 : cfB 50 11 47 14 0 4 3 = true := by decide +kernel
theorem q50_14 : decode (mB 50) 14 = .ok (.istore_n 3, 1) := by decide +kernel
theorem q50_15 : decode (mB 50) 15 = .ok (.iload_n 1, 1) := by decide +kernel
theorem q50_16 : decode (mB 50) 16 = .ok (.iload_n 2, 1) := by decide +kernel
theorem q50_17 : cfB 50 17 55 16 0 4 2 = true := by decide +kernel
theorem q50_20 : decode (mB 50) 20 = .ok (.ifCond .ne 33, 3) := by decide +kernel
theorem q50_23 : decode (mB 50) 23 = .ok (.aload_n 0, 1) := by decide +kernel
theorem q50_24 : gfB 50 24 22 4 0 = true := by decide +kernel
theorem q50_27 : decode (mB 50) 27 = .ok (.iload_n 3, 1) := by decide +kernel
theorem q50_28 : cfB 50 28 62 31 1 4 1 = true := by decide +kernel
theorem q50_31 : decode (mB 50) 31 = .ok (.ifCond .ne 22, 3) := by decide +kernel
theorem q50_34 : decode (mB 50) 34 = .ok (.aload_n 0, 1) := by decide +kernel
theorem q50_35 : gfB 50 35 12 4 2 = true := by decide +kernel
theorem q50_38 : decode (mB 50) 38 = .ok (.aload_n 0, 1) := by decide +kernel
theorem q50_39 : gfB 50 39 26 4 1 = true := by decide +kernel
theorem q50_42 : decode (mB 50) 42 = .ok (.iload_n 3, 1) := by decide +kernel
theorem q50_43 : cfB 50 43 68 21 1 4 1 = true := by decide +kernel
theorem q50_46 : decode (mB 50) 46 = .ok (.iload_n 3, 1) := by decide +kernel
theorem q50_47 : cfB 50 47 73 43 0 4 2 = true := by decide +kernel
theorem q50_50 : cfB 50 50 79 7 1 4 1 = true := by decide +kernel
theorem q50_53 : decode (mB 50) 53 = .ok (.iinc 2 1, 3) := by decide +kernel
theorem q50_56 : decode (mB 50) 56 = .ok (.goto (-54), 3) := by decide +kernel
theorem q50_59 : decode (mB 50) 59 = .ok (.return_, 1) := by decide +kernel
theorem q51_0 : decode (mB 51) 0 = .ok (.aload_n 0, 1) := by decide +kernel
theorem q51_1 : gfB 51 1 22 4 0 = true := by decide +kernel
theorem q51_4 : decode (mB 51) 4 = .ok (.iload_n 1, 1) := by decide +kernel
theorem q51_5 : cfB 51 5 62 31 1 4 1 = true := by decide +kernel
theorem q51_8 : decode (mB 51) 8 = .ok (.istore_n 2, 1) := by decide +kernel
theorem q51_9 : decode (mB 51) 9 = .ok (.iload_n 2, 1) := by decide +kernel
theorem q51_10 : decode (mB 51) 10 = .ok (.ifCond .eq 11, 3) := by decide +kernel
theorem q51_13 : decode (mB 51) 13 = .ok (.iload_n 2, 1) := by decide +kernel
theorem q51_14 : decode (mB 51) 14 = .ok (.bipush 9, 2) := by decide +kernel
theorem q51_16 : decode (mB 51) 16 = .ok (.if_icmp .eq 5, 3) := by decide +kernel
theorem q51_19 : decode (mB 51) 19 = .ok (.iconst 1, 1) := by decide +kernel
theorem q51_20 : decode (mB 51) 20 = .ok (.ireturn, 1) := by decide +kernel
theorem q51_21 : decode (mB 51) 21 = .ok (.aload_n 0, 1) := by decide +kernel
theorem q51_22 : gfB 51 22 12 4 2 = true := by decide +kernel
theorem q51_25 : decode (mB 51) 25 = .ok (.aload_n 0, 1) := by decide +kernel
theorem q51_26 : gfB 51 26 26 4 1 = true := by decide +kernel
theorem q51_29 : decode (mB 51) 29 = .ok (.iload_n 1, 1) := by decide +kernel
theorem q51_30 : cfB 51 30 68 21 1 4 1 = true := by decide +kernel
theorem q51_33 : decode (mB 51) 33 = .ok (.iload_n 1, 1) := by decide +kernel
theorem q51_34 : cfB 51 34 73 43 0 4 2 = true := by decide +kernel
theorem q51_37 : cfB 51 37 83 6 1 4 1 = true := by decide +kernel
theorem q51_40 : decode (mB 51) 40 = .ok (.ireturn, 1) := by decide +kernel
theorem q52_0 : decode (mB 52) 0 = .ok (.aload_n 0, 1) := by decide +kernel
theorem q52_1 : (decide (52 < 235) && decide (decode (mB 52) 1 = .ok (.invokespecial 3, 3)) && (lks (mD 52)).contains (3, 2, 0, 0) && decide (1 ≤ mV 52)) = true := by decide +kernel
theorem q52_4 : decode (mB 52) 4 = .ok (.aload_n 0, 1) := by decide +kernel
theorem q52_5 : decode (mB 52) 5 = .ok (.sipush 240, 3) := by decide +kernel
theorem q52_8 : naB 52 8 0 = true := by decide +kernel
theorem q52_10 : pfB 52 10 9 5 0 = true := by decide +kernel
theorem q52_13 : decode (mB 52) 13 = .ok (.aload_n 0, 1) := by decide +kernel
theorem q52_14 : decode (mB 52) 14 = .ok (.bipush 6, 2) := by decide +kernel
theorem q52_16 : naB 52 16 0 = true := by decide +kernel
theorem q52_18 : pfB 52 18 15 5 1 = true := by decide +kernel
theorem q52_21 : decode (mB 52) 21 = .ok (.aload_n 0, 1) := by decide +kernel
theorem q52_22 : decode (mB 52) 22 = .ok (.bipush 6, 2) := by decide +kernel
theorem q52_24 : naB 52 24 0 = true := by decide +kernel
theorem q52_26 : pfB 52 26 18 5 2 = true := by decide +kernel
theorem q52_29 : decode (mB 52) 29 = .ok (.aload_n 0, 1) := by decide +kernel
theorem q52_30 : decode (mB 52) 30 = .ok (.bipush 6, 2) := by decide +kernel
theorem q52_32 : naB 52 32 0 = true := by decide +kernel
theorem q52_34 : pfB 52 34 21 5 3 = true := by decide +kernel
theorem q52_37 : decode (mB 52) 37 = .ok (.aload_n 0, 1) := by decide +kernel
theorem q52_38 : decode (mB 52) 38 = .ok (.bipush 6, 2) := by decide +kernel
theorem q52_40 : naB 52 40 0 = true := by decide +kernel
theorem q52_42 : pfB 52 42 24 5 4 = true := by decide +kernel
theorem q52_45 : decode (mB 52) 45 = .ok (.aload_n 0, 1) := by decide +kernel
theorem q52_46 : decode (mB 52) 46 = .ok (.bipush 6, 2) := by decide +kernel
theorem q52_48 : naB 52 48 1 = true := by decide +kernel
theorem q52_50 : pfB 52 50 27 5 5 = true := by decide +kernel
theorem q52_53 : decode (mB 52) 53 = .ok (.aload_n 0, 1) := by decide +kernel
theorem q52_54 : decode (mB 52) 54 = .ok (.bipush 6, 2) := by decide +kernel
theorem q52_56 : naB 52 56 1 = true := by decide +kernel
theorem q52_58 : pfB 52 58 31 5 6 = true := by decide +kernel
theorem q52_61 : decode (mB 52) 61 = .ok (.iconst 0, 1) := by decide +kernel
theorem q52_62 : decode (mB 52) 62 = .ok (.istore_n 1, 1) := by decide +kernel
theorem q52_63 : decode (mB 52) 63 = .ok (.iload_n 1, 1) := by decide +kernel
theorem q52_64 : decode (mB 52) 64 = .ok (.bipush 6, 2) := by decide +kernel
theorem q52_66 : decode (mB 52) 66 = .ok (.if_icmp .ge 23, 3) := by decide +kernel
theorem q52_69 : decode (mB 52) 69 = .ok (.aload_n 0, 1) := by decide +kernel
theorem q52_70 : gfB 52 70 15 5 1 = true := by decide +kernel
theorem q52_73 : decode (mB 52) 73 = .ok (.iload_n 1, 1) := by decide +kernel
theorem q52_74 : decode (mB 52) 74 = .ok (.iconst (-1), 1) := by decide +kernel
theorem q52_75 : decode (mB 52) 75 = .ok (.iastore, 1) := by decide +kernel
theorem q52_76 : decode (mB 52) 76 = .ok (.aload_n 0, 1) := by decide +kernel
theorem q52_77 : gfB 52 77 18 5 2 = true := by decide +kernel
theorem q52_80 : decode (mB 52) 80 = .ok (.iload_n 1, 1) := by decide +kernel
theorem q52_81 : decode (mB 52) 81 = .ok (.iconst 0, 1) := by decide +kernel
theorem q52_82 : decode (mB 52) 82 = .ok (.iastore, 1) := by decide +kernel
theorem q52_83 : decode (mB 52) 83 = .ok (.iinc 1 1, 3) := by decide +kernel
theorem q52_86 : decode (mB 52) 86 = .ok (.goto (-23), 3) := by decide +kernel
theorem q52_89 : decode (mB 52) 89 = .ok (.return_, 1) := by decide +kernel
theorem q53_0 : decode (mB 53) 0 = .ok (.aload_n 0, 1) := by decide +kernel
theorem q53_1 : gfB 53 1 34 5 7 = true := by decide +kernel
theorem q53_4 : decode (mB 53) 4 = .ok (.ireturn, 1) := by decide +kernel
theorem q54_0 : decode (mB 54) 0 = .ok (.iload_n 1, 1) := by decide +kernel
theorem q54_1 : decode (mB 54) 1 = .ok (.ifCond .lt 21, 3) := by decide +kernel
theorem q54_4 : decode (mB 54) 4 = .ok (.iload_n 1, 1) := by decide +kernel
theorem q54_5 : decode (mB 54) 5 = .ok (.aload_n 0, 1) := by decide +kernel
theorem q54_6 : gfB 54 6 34 5 7 = true := by decide +kernel
theorem q54_9 : decode (mB 54) 9 = .ok (.if_icmp .ge 13, 3) := by decide +kernel
theorem q54_12 : decode (mB 54) 12 = .ok (.iload_n 1, 1) := by decide +kernel
theorem q54_13 : decode (mB 54) 13 = .ok (.bipush 40, 2) := by decide +kernel
theorem q54_15 : decode (mB 54) 15 = .ok (.if_icmp .ge 7, 3) := by decide +kernel
theorem q54_18 : decode (mB 54) 18 = .ok (.iconst 1, 1) := by decide +kernel
theorem q54_19 : decode (mB 54) 19 = .ok (.goto 4, 3) := by decide +kernel
theorem q54_22 : decode (mB 54) 22 = .ok (.iconst 0, 1) := by decide +kernel
theorem q54_23 : decode (mB 54) 23 = .ok (.ireturn, 1) := by decide +kernel
theorem q55_0 : decode (mB 55) 0 = .ok (.aload_n 0, 1) := by decide +kernel
theorem q55_1 : decode (mB 55) 1 = .ok (.iload_n 1, 1) := by decide +kernel
theorem q55_2 : cfB 55 2 38 54 1 4 1 = true := by decide +kernel
theorem q55_5 : decode (mB 55) 5 = .ok (.ifCond .eq 24, 3) := by decide +kernel
theorem q55_8 : decode (mB 55) 8 = .ok (.iload_n 2, 1) := by decide +kernel
theorem q55_9 : cfB 55 9 42 121 0 9 1 = true := by decide +kernel
theorem q55_12 : decode (mB 55) 12 = .ok (.ifCond .eq 17, 3) := by decide +kernel
theorem q55_15 : decode (mB 55) 15 = .ok (.aload_n 0, 1) := by decide +kernel
theorem q55_16 : gfB 55 16 9 5 0 = true := by decide +kernel
theorem q55_19 : decode (mB 55) 19 = .ok (.iload_n 2, 1) := by decide +kernel
theorem q55_20 : decode (mB 55) 20 = .ok (.bipush 40, 2) := by decide +kernel
theorem q55_22 : decode (mB 55) 22 = .ok (.imul, 1) := by decide +kernel
theorem q55_23 : decode (mB 55) 23 = .ok (.iload_n 1, 1) := by decide +kernel
theorem q55_24 : decode (mB 55) 24 = .ok (.iadd, 1) := by decide +kernel
theorem q55_25 : decode (mB 55) 25 = .ok (.iaload, 1) := by decide +kernel
theorem q55_26 : decode (mB 55) 26 = .ok (.goto 6, 3) := by decide +kernel
theorem q55_29 : decode (mB 55) 29 = .ok (.sipush (-10000), 3) := by decide +kernel
theorem q55_32 : decode (mB 55) 32 = .ok (.ireturn, 1) := by decide +kernel
theorem q56_0 : decode (mB 56) 0 = .ok (.iload_n 1, 1) := by decide +kernel
theorem q56_1 : decode (mB 56) 1 = .ok (.ifCond .lt 18, 3) := by decide +kernel
theorem q56_4 : decode (mB 56) 4 = .ok (.iload_n 1, 1) := by decide +kernel
theorem q56_5 : decode (mB 56) 5 = .ok (.bipush 6, 2) := by decide +kernel
theorem q56_7 : decode (mB 56) 7 = .ok (.if_icmp .ge 12, 3) := by decide +kernel
theorem q56_10 : decode (mB 56) 10 = .ok (.aload_n 0, 1) := by decide +kernel
theorem q56_11 : gfB 56 11 18 5 2 = true := by decide +kernel
theorem q56_14 : decode (mB 56) 14 = .ok (.iload_n 1, 1) := by decide +kernel
theorem q56_15 : decode (mB 56) 15 = .ok (.iaload, 1) := by decide +kernel
theorem q56_16 : decode (mB 56) 16 = .ok (.goto 4, 3) := by decide +kernel
theorem q56_19 : decode (mB 56) 19 = .ok (.iconst (-1), 1) := by decide +kernel
theorem q56_20 : decode (mB 56) 20 = .ok (.ireturn, 1) := by decide +kernel
theorem q57_0 : decode (mB 57) 0 = .ok (.iload_n 1, 1) := by decide +kernel
theorem q57_1 : cfB 57 1 42 121 0 9 1 = true := by decide +kernel
theorem q57_4 : decode (mB 57) 4 = .ok (.ifCond .eq 12, 3) := by decide +kernel
theorem q57_7 : decode (mB 57) 7 = .ok (.aload_n 0, 1) := by decide +kernel
theorem q57_8 : gfB 57 8 15 5 1 = true := by decide +kernel
theorem q57_11 : decode (mB 57) 11 = .ok (.iload_n 1, 1) := by decide +kernel
theorem q57_12 : decode (mB 57) 12 = .ok (.iaload, 1) := by decide +kernel
theorem q57_13 : decode (mB 57) 13 = .ok (.goto 4, 3) := by decide +kernel
theorem q57_16 : decode (mB 57) 16 = .ok (.iconst (-1), 1) := by decide +kernel
theorem q57_17 : decode (mB 57) 17 = .ok (.ireturn, 1) := by decide +kernel
theorem q58_0 : decode (mB 58) 0 = .ok (.iload_n 1, 1) := by decide +kernel
theorem q58_1 : cfB 58 1 42 121 0 9 1 = true := by decide +kernel
theorem q58_4 : decode (mB 58) 4 = .ok (.ifCond .eq 12, 3) := by decide +kernel
theorem q58_7 : decode (mB 58) 7 = .ok (.aload_n 0, 1) := by decide +kernel
theorem q58_8 : gfB 58 8 21 5 3 = true := by decide +kernel
theorem q58_11 : decode (mB 58) 11 = .ok (.iload_n 1, 1) := by decide +kernel
theorem q58_12 : decode (mB 58) 12 = .ok (.iaload, 1) := by decide +kernel
theorem q58_13 : decode (mB 58) 13 = .ok (.goto 4, 3) := by decide +kernel
theorem q58_16 : decode (mB 58) 16 = .ok (.iconst 0, 1) := by decide +kernel
theorem q58_17 : decode (mB 58) 17 = .ok (.ireturn, 1) := by decide +kernel
theorem q59_0 : decode (mB 59) 0 = .ok (.iload_n 1, 1) := by decide +kernel
theorem q59_1 : cfB 59 1 42 121 0 9 1 = true := by decide +kernel
theorem q59_4 : decode (mB 59) 4 = .ok (.ifCond .eq 12, 3) := by decide +kernel
theorem q59_7 : decode (mB 59) 7 = .ok (.aload_n 0, 1) := by decide +kernel
theorem q59_8 : gfB 59 8 24 5 4 = true := by decide +kernel
theorem q59_11 : decode (mB 59) 11 = .ok (.iload_n 1, 1) := by decide +kernel
theorem q59_12 : decode (mB 59) 12 = .ok (.iaload, 1) := by decide +kernel
theorem q59_13 : decode (mB 59) 13 = .ok (.goto 4, 3) := by decide +kernel
theorem q59_16 : decode (mB 59) 16 = .ok (.iconst 0, 1) := by decide +kernel
theorem q59_17 : decode (mB 59) 17 = .ok (.ireturn, 1) := by decide +kernel
theorem q60_0 : decode (mB 60) 0 = .ok (.iload_n 1, 1) := by decide +kernel
theorem q60_1 : cfB 60 1 42 121 0 9 1 = true := by decide +kernel
theorem q60_4 : decode (mB 60) 4 = .ok (.ifCond .eq 12, 3) := by decide +kernel
theorem q60_7 : decode (mB 60) 7 = .ok (.aload_n 0, 1) := by decide +kernel
theorem q60_8 : gfB 60 8 27 5 5 = true := by decide +kernel
theorem q60_11 : decode (mB 60) 11 = .ok (.iload_n 1, 1) := by decide +kernel
theorem q60_12 : decode (mB 60) 12 = .ok (.laload, 1) := by decide +kernel
theorem q60_13 : decode (mB 60) 13 = .ok (.goto 4, 3) := by decide +kernel
theorem q60_16 : decode (mB 60) 16 = .ok (.lconst 0, 1) := by decide +kernel
theorem q60_17 : decode (mB 60) 17 = .ok (.lreturn, 1) := by decide +kernel
theorem q61_0 : decode (mB 61) 0 = .ok (.iload_n 1, 1) := by decide +kernel
theorem q61_1 : cfB 61 1 42 121 0 9 1 = true := by decide +kernel
theorem q61_4 : decode (mB 61) 4 = .ok (.ifCond .eq 12, 3) := by decide +kernel
theorem q61_7 : decode (mB 61) 7 = .ok (.aload_n 0, 1) := by decide +kernel
theorem q61_8 : gfB 61 8 31 5 6 = true := by decide +kernel
theorem q61_11 : decode (mB 61) 11 = .ok (.iload_n 1, 1) := by decide +kernel
theorem q61_12 : decode (mB 61) 12 = .ok (.laload, 1) := by decide +kernel
theorem q61_13 : decode (mB 61) 13 = .ok (.goto 4, 3) := by decide +kernel
theorem q61_16 : decode (mB 61) 16 = .ok (.lconst 0, 1) := by decide +kernel
theorem q61_17 : decode (mB 61) 17 = .ok (.lreturn, 1) := by decide +kernel
theorem q62_0 : decode (mB 62) 0 = .ok (.iload_n 0, 1) := by decide +kernel
theorem q62_1 : decode (mB 62) 1 = .ok (.ifCond .eq 8, 3) := by decide +kernel
theorem q62_4 : decode (mB 62) 4 = .ok (.iload_n 0, 1) := by decide +kernel
theorem q62_5 : decode (mB 62) 5 = .ok (.iconst 1, 1) := by decide +kernel
theorem q62_6 : decode (mB 62) 6 = .ok (.if_icmp .ne 7, 3) := by decide +kernel
theorem q62_9 : decode (mB 62) 9 = .ok (.iconst 1, 1) := by decide +kernel
theorem q62_10 : decode (mB 62) 10 = .ok (.goto 4, 3) := by decide +kernel
theorem q62_13 : decode (mB 62) 13 = .ok (.iconst 0, 1) := by decide +kernel
theorem q62_14 : decode (mB 62) 14 = .ok (.ireturn, 1) := by decide +kernel
theorem q63_0 : decode (mB 63) 0 = .ok (.iconst 0, 1) := by decide +kernel
theorem q63_1 : decode (mB 63) 1 = .ok (.istore_n 1, 1) := by decide +kernel
theorem q63_2 : decode (mB 63) 2 = .ok (.iconst 0, 1) := by decide +kernel
theorem q63_3 : decode (mB 63) 3 = .ok (.istore_n 2, 1) := by decide +kernel
theorem q63_4 : decode (mB 63) 4 = .ok (.iload_n 2, 1) := by decide +kernel
theorem q63_5 : decode (mB 63) 5 = .ok (.bipush 6, 2) := by decide +kernel
theorem q63_7 : decode (mB 63) 7 = .ok (.if_icmp .ge 24, 3) := by decide +kernel
theorem q63_10 : decode (mB 63) 10 = .ok (.aload_n 0, 1) := by decide +kernel
theorem q63_11 : gfB 63 11 18 5 2 = true := by decide +kernel
theorem q63_14 : decode (mB 63) 14 = .ok (.iload_n 2, 1) := by decide +kernel
theorem q63_15 : decode (mB 63) 15 = .ok (.iaload, 1) := by decide +kernel
theorem q63_16 : cfB 63 16 45 62 0 4 1 = true := by decide +kernel
theorem q63_19 : decode (mB 63) 19 = .ok (.ifCond .ne 6, 3) := by decide +kernel
theorem q63_22 : decode (mB 63) 22 = .ok (.iinc 1 1, 3) := by decide +kernel
theorem q63_25 : decode (mB 63) 25 = .ok (.iinc 2 1, 3) := by decide +kernel
theorem q63_28 : decode (mB 63) 28 = .ok (.goto (-24), 3) := by decide +kernel
theorem q63_31 : decode (mB 63) 31 = .ok (.iload_n 1, 1) := by decide +kernel
theorem q63_32 : decode (mB 63) 32 = .ok (.ireturn, 1) := by decide +kernel
theorem q64_0 : decode (mB 64) 0 = .ok (.aload_n 0, 1) := by decide +kernel
theorem q64_1 : gfB 64 1 34 5 7 = true := by decide +kernel
theorem q64_4 : decode (mB 64) 4 = .ok (.bipush 40, 2) := by decide +kernel
theorem q64_6 : decode (mB 64) 6 = .ok (.if_icmp .lt 4, 3) := by decide +kernel
theorem q64_9 : decode (mB 64) 9 = .ok (.return_, 1) := by decide +kernel
theorem q64_10 : decode (mB 64) 10 = .ok (.aload_n 0, 1) := by decide +kernel
theorem q64_11 : gfB 64 11 34 5 7 = true := by decide +kernel
theorem q64_14 : decode (mB 64) 14 = .ok (.istore 7, 2) := by decide +kernel
theorem q64_16 : decode (mB 64) 16 = .ok (.aload_n 0, 1) := by decide +kernel
theorem q64_17 : decode (mB 64) 17 = .ok (.dup, 1) := by decide +kernel
theorem q64_18 : gfB 64 18 34 5 7 = true := by decide +kernel
theorem q64_21 : decode (mB 64) 21 = .ok (.iconst 1, 1) := by decide +kernel
theorem q64_22 : decode (mB 64) 22 = .ok (.iadd, 1) := by decide +kernel
theorem q64_23 : pfB 64 23 34 5 7 = true := by decide +kernel
theorem q64_26 : decode (mB 64) 26 = .ok (.aload_n 0, 1) := by decide +kernel
theorem q64_27 : decode (mB 64) 27 = .ok (.iload 7, 2) := by decide +kernel
theorem q64_29 : decode (mB 64) 29 = .ok (.iconst 0, 1) := by decide +kernel
theorem q64_30 : decode (mB 64) 30 = .ok (.iload_n 1, 1) := by decide +kernel
theorem q64_31 : cfB 64 31 48 68 1 4 3 = true := by decide +kernel
theorem q64_34 : decode (mB 64) 34 = .ok (.aload_n 0, 1) := by decide +kernel
theorem q64_35 : decode (mB 64) 35 = .ok (.iload 7, 2) := by decide +kernel
theorem q64_37 : decode (mB 64) 37 = .ok (.iconst 1, 1) := by decide +kernel
theorem q64_38 : decode (mB 64) 38 = .ok (.iload_n 2, 1) := by decide +kernel
theorem q64_39 : cfB 64 39 48 68 1 4 3 = true := by decide +kernel
theorem q64_42 : decode (mB 64) 42 = .ok (.aload_n 0, 1) := by decide +kernel
theorem q64_43 : decode (mB 64) 43 = .ok (.iload 7, 2) := by decide +kernel
theorem q64_45 : decode (mB 64) 45 = .ok (.iconst 2, 1) := by decide +kernel
theorem q64_46 : decode (mB 64) 46 = .ok (.iload_n 3, 1) := by decide +kernel
theorem q64_47 : cfB 64 47 48 68 1 4 3 = true := by decide +kernel
theorem q64_50 : decode (mB 64) 50 = .ok (.aload_n 0, 1) := by decide +kernel
theorem q64_51 : decode (mB 64) 51 = .ok (.iload 7, 2) := by decide +kernel
theorem q64_53 : decode (mB 64) 53 = .ok (.iconst 3, 1) := by decide +kernel
theorem q64_54 : decode (mB 64) 54 = .ok (.iload 4, 2) := by decide +kernel
theorem q64_56 : cfB 64 56 48 68 1 4 3 = true := by decide +kernel
theorem q64_59 : decode (mB 64) 59 = .ok (.aload_n 0, 1) := by decide +kernel
theorem q64_60 : decode (mB 64) 60 = .ok (.iload 7, 2) := by decide +kernel
theorem q64_62 : decode (mB 64) 62 = .ok (.iconst 4, 1) := by decide +kernel
theorem q64_63 : decode (mB 64) 63 = .ok (.iload 5, 2) := by decide +kernel
theorem q64_65 : cfB 64 65 48 68 1 4 3 = true := by decide +kernel
theorem q64_68 : decode (mB 64) 68 = .ok (.aload_n 0, 1) := by decide +kernel
theorem q64_69 : decode (mB 64) 69 = .ok (.iload 7, 2) := by decide +kernel
theorem q64_71 : decode (mB 64) 71 = .ok (.iconst 5, 1) := by decide +kernel
theorem q64_72 : decode (mB 64) 72 = .ok (.iload 6, 2) := by decide +kernel
theorem q64_74 : cfB 64 74 48 68 1 4 3 = true := by decide +kernel
theorem q64_77 : decode (mB 64) 77 = .ok (.aload_n 0, 1) := by decide +kernel
theorem q64_78 : cfB 64 78 52 69 1 4 0 = true := by decide +kernel
theorem q64_81 : decode (mB 64) 81 = .ok (.return_, 1) := by decide +kernel
theorem q65_0 : decode (mB 65) 0 = .ok (.aload_n 0, 1) := by decide +kernel
theorem q65_1 : decode (mB 65) 1 = .ok (.iload_n 1, 1) := by decide +kernel
theorem q65_2 : cfB 65 2 38 54 1 4 1 = true := by decide +kernel
theorem q65_5 : decode (mB 65) 5 = .ok (.ifCond .ne 4, 3) := by decide +kernel
theorem q65_8 : decode (mB 65) 8 = .ok (.return_, 1) := by decide +kernel
theorem q65_9 : decode (mB 65) 9 = .ok (.iconst 0, 1) := by decide +kernel
theorem q65_10 : decode (mB 65) 10 = .ok (.istore_n 2, 1) := by decide +kernel
theorem q65_11 : decode (mB 65) 11 = .ok (.iload_n 2, 1) := by decide +kernel
theorem q65_12 : decode (mB 65) 12 = .ok (.bipush 6, 2) := by decide +kernel
theorem q65_14 : decode (mB 65) 14 = .ok (.if_icmp .ge 41, 3) := by decide +kernel
theorem q65_17 : decode (mB 65) 17 = .ok (.iload_n 1, 1) := by decide +kernel
theorem q65_18 : decode (mB 65) 18 = .ok (.istore_n 3, 1) := by decide +kernel
theorem q65_19 : decode (mB 65) 19 = .ok (.iload_n 3, 1) := by decide +kernel
theorem q65_20 : decode (mB 65) 20 = .ok (.aload_n 0, 1) := by decide +kernel
theorem q65_21 : gfB 65 21 34 5 7 = true := by decide +kernel
theorem q65_24 : decode (mB 65) 24 = .ok (.iconst 1, 1) := by decide +kernel
theorem q65_25 : decode (mB 65) 25 = .ok (.isub, 1) := by decide +kernel
theorem q65_26 : decode (mB 65) 26 = .ok (.if_icmp .ge 23, 3) := by decide +kernel
theorem q65_29 : decode (mB 65) 29 = .ok (.aload_n 0, 1) := by decide +kernel
theorem q65_30 : decode (mB 65) 30 = .ok (.iload_n 3, 1) := by decide +kernel
theorem q65_31 : decode (mB 65) 31 = .ok (.iload_n 2, 1) := by decide +kernel
theorem q65_32 : decode (mB 65) 32 = .ok (.aload_n 0, 1) := by decide +kernel
theorem q65_33 : decode (mB 65) 33 = .ok (.iload_n 3, 1) := by decide +kernel
theorem q65_34 : decode (mB 65) 34 = .ok (.iconst 1, 1) := by decide +kernel
theorem q65_35 : decode (mB 65) 35 = .ok (.iadd, 1) := by decide +kernel
theorem q65_36 : decode (mB 65) 36 = .ok (.iload_n 2, 1) := by decide +kernel
theorem q65_37 : cfB 65 37 55 55 1 4 2 = true := by decide +kernel
theorem q65_40 : cfB 65 40 48 68 1 4 3 = true := by decide +kernel
theorem q65_43 : decode (mB 65) 43 = .ok (.iinc 3 1, 3) := by decide +kernel
theorem q65_46 : decode (mB 65) 46 = .ok (.goto (-27), 3) := by decide +kernel
theorem q65_49 : decode (mB 65) 49 = .ok (.iinc 2 1, 3) := by decide +kernel
theorem q65_52 : decode (mB 65) 52 = .ok (.goto (-41), 3) := by decide +kernel
theorem q65_55 : decode (mB 65) 55 = .ok (.aload_n 0, 1) := by decide +kernel
theorem q65_56 : decode (mB 65) 56 = .ok (.dup, 1) := by decide +kernel
theorem q65_57 : gfB 65 57 34 5 7 = true := by decide +kernel
theorem q65_60 : decode (mB 65) 60 = .ok (.iconst 1, 1) := by decide +kernel
theorem q65_61 : decode (mB 65) 61 = .ok (.isub, 1) := by decide +kernel
theorem q65_62 : pfB 65 62 34 5 7 = true := by decide +kernel
theorem q65_65 : decode (mB 65) 65 = .ok (.aload_n 0, 1) := by decide +kernel
theorem q65_66 : cfB 65 66 52 69 1 4 0 = true := by decide +kernel
theorem q65_69 : decode (mB 65) 69 = .ok (.return_, 1) := by decide +kernel
theorem q66_0 : decode (mB 66) 0 = .ok (.aload_n 0, 1) := by decide +kernel
theorem q66_1 : decode (mB 66) 1 = .ok (.iload_n 1, 1) := by decide +kernel
theorem q66_2 : decode (mB 66) 2 = .ok (.iload_n 2, 1) := by decide +kernel
theorem q66_3 : decode (mB 66) 3 = .ok (.iload_n 3, 1) := by decide +kernel
theorem q66_4 : cfB 66 4 48 68 1 4 3 = true := by decide +kernel
theorem q66_7 : decode (mB 66) 7 = .ok (.aload_n 0, 1) := by decide +kernel
theorem q66_8 : decode (mB 66) 8 = .ok (.iload_n 2, 1) := by decide +kernel
theorem q66_9 : cfB 66 9 59 70 1 4 1 = true := by decide +kernel
theorem q66_12 : decode (mB 66) 12 = .ok (.return_, 1) := by decide +kernel
theorem q67_0 : decode (mB 67) 0 = .ok (.iload_n 1, 1) := by decide +kernel
theorem q67_1 : cfB 67 1 42 121 0 9 1 = true := by decide +kernel
theorem q67_4 : decode (mB 67) 4 = .ok (.ifCond .eq 15, 3) := by decide +kernel
theorem q67_7 : decode (mB 67) 7 = .ok (.aload_n 0, 1) := by decide +kernel
theorem q67_8 : gfB 67 8 15 5 1 = true := by decide +kernel
theorem q67_11 : decode (mB 67) 11 = .ok (.iload_n 1, 1) := by decide +kernel
theorem q67_12 : decode (mB 67) 12 = .ok (.iload_n 2, 1) := by decide +kernel
theorem q67_13 : decode (mB 67) 13 = .ok (.iastore, 1) := by decide +kernel
theorem q67_14 : decode (mB 67) 14 = .ok (.aload_n 0, 1) := by decide +kernel
theorem q67_15 : decode (mB 67) 15 = .ok (.iload_n 1, 1) := by decide +kernel
theorem q67_16 : cfB 67 16 59 70 1 4 1 = true := by decide +kernel
theorem q67_19 : decode (mB 67) 19 = .ok (.return_, 1) := by decide +kernel
theorem q68_0 : decode (mB 68) 0 = .ok (.aload_n 0, 1) := by decide +kernel
theorem q68_1 : decode (mB 68) 1 = .ok (.iload_n 1, 1) := by decide +kernel
theorem q68_2 : cfB 68 2 38 54 1 4 1 = true := by decide +kernel
theorem q68_5 : decode (mB 68) 5 = .ok (.ifCond .eq 22, 3) := by decide +kernel
theorem q68_8 : decode (mB 68) 8 = .ok (.iload_n 2, 1) := by decide +kernel
theorem q68_9 : cfB 68 9 42 121 0 9 1 = true := by decide +kernel
theorem q68_12 : decode (mB 68) 12 = .ok (.ifCond .eq 15, 3) := by decide +kernel
theorem q68_15 : decode (mB 68) 15 = .ok (.aload_n 0, 1) := by decide +kernel
theorem q68_16 : gfB 68 16 9 5 0 = true := by decide +kernel
theorem q68_19 : decode (mB 68) 19 = .ok (.iload_n 2, 1) := by decide +kernel
theorem q68_20 : decode (mB 68) 20 = .ok (.bipush 40, 2) := by decide +kernel
theorem q68_22 : decode (mB 68) 22 = .ok (.imul, 1) := by decide +kernel
theorem q68_23 : decode (mB 68) 23 = .ok (.iload_n 1, 1) := by decide +kernel
theorem q68_24 : decode (mB 68) 24 = .ok (.iadd, 1) := by decide +kernel
theorem q68_25 : decode (mB 68) 25 = .ok (.iload_n 3, 1) := by decide +kernel
theorem q68_26 : decode (mB 68) 26 = .ok (.iastore, 1) := by decide +kernel
theorem q68_27 : decode (mB 68) 27 = .ok (.return_, 1) := by decide +kernel
theorem q69_0 : decode (mB 69) 0 = .ok (.iconst 0, 1) := by decide +kernel
theorem q69_1 : decode (mB 69) 1 = .ok (.istore_n 1, 1) := by decide +kernel
theorem q69_2 : decode (mB 69) 2 = .ok (.iload_n 1, 1) := by decide +kernel
theorem q69_3 : decode (mB 69) 3 = .ok (.bipush 6, 2) := by decide +kernel
theorem q69_5 : decode (mB 69) 5 = .ok (.if_icmp .ge 14, 3) := by decide +kernel
theorem q69_8 : decode (mB 69) 8 = .ok (.aload_n 0, 1) := by decide +kernel
theorem q69_9 : decode (mB 69) 9 = .ok (.iload_n 1, 1) := by decide +kernel
theorem q69_10 : cfB 69 10 59 70 1 4 1 = true := by decide +kernel
theorem q69_13 : decode (mB 69) 13 = .ok (.iinc 1 1, 3) := by decide +kernel
theorem q69_16 : decode (mB 69) 16 = .ok (.goto (-14), 3) := by decide +kernel
theorem q69_19 : decode (mB 69) 19 = .ok (.return_, 1) := by decide +kernel
theorem q70_0 : decode (mB 70) 0 = .ok (.iload_n 1, 1) := by decide +kernel
theorem q70_1 : cfB 70 1 42 121 0 9 1 = true := by decide +kernel
theorem q70_4 : decode (mB 70) 4 = .ok (.ifCond .ne 4, 3) := by decide +kernel
theorem q70_7 : decode (mB 70) 7 = .ok (.return_, 1) := by decide +kernel
theorem q70_8 : decode (mB 70) 8 = .ok (.iconst 0, 1) := by decide +kernel
theorem q70_9 : decode (mB 70) 9 = .ok (.istore_n 2, 1) := by decide +kernel
theorem q70_10 : decode (mB 70) 10 = .ok (.iconst 0, 1) := by decide +kernel
theorem q70_11 : decode (mB 70) 11 = .ok (.istore_n 3, 1) := by decide +kernel
theorem q70_12 : decode (mB 70) 12 = .ok (.lconst 0, 1) := by decide +kernel
theorem q70_13 : decode (mB 70) 13 = .ok (.lstore 4, 2) := by decide +kernel
theorem q70_15 : decode (mB 70) 15 = .ok (.lconst 0, 1) := by decide +kernel
theorem q70_16 : decode (mB 70) 16 = .ok (.lstore 6, 2) := by decide +kernel
theorem q70_18 : decode (mB 70) 18 = .ok (.iconst 1, 1) := by decide +kernel
theorem q70_19 : decode (mB 70) 19 = .ok (.istore 8, 2) := by decide +kernel
theorem q70_21 : decode (mB 70) 21 = .ok (.sipush (-10000), 3) := by decide +kernel
theorem q70_24 : decode (mB 70) 24 = .ok (.istore 9, 2) := by decide +kernel
theorem q70_26 : decode (mB 70) 26 = .ok (.iconst 0, 1) := by decide +kernel
theorem q70_27 : decode (mB 70) 27 = .ok (.istore 10, 2) := by decide +kernel
theorem q70_29 : decode (mB 70) 29 = .ok (.iload 10, 2) := by decide +kernel
theorem q70_31 : decode (mB 70) 31 = .ok (.aload_n 0, 1) := by decide +kernel
theorem q70_32 : gfB 70 32 34 5 7 = true := by decide +kernel
theorem q70_35 : decode (mB 70) 35 = .ok (.if_icmp .ge 90, 3) := by decide +kernel
theorem q70_38 : decode (mB 70) 38 = .ok (.aload_n 0, 1) := by decide +kernel
theorem q70_39 : decode (mB 70) 39 = .ok (.iload 10, 2) := by decide +kernel
theorem q70_41 : decode (mB 70) 41 = .ok (.iload_n 1, 1) := by decide +kernel
theorem q70_42 : cfB 70 42 55 55 1 4 2 = true := by decide +kernel
theorem q70_45 : decode (mB 70) 45 = .ok (.istore 11, 2) := by decide +kernel
theorem q70_47 : decode (mB 70) 47 = .ok (.iload 11, 2) := by decide +kernel
theorem q70_49 : decode (mB 70) 49 = .ok (.sipush (-10000), 3) := by decide +kernel
theorem q70_52 : decode (mB 70) 52 = .ok (.if_icmp .ne 15, 3) := by decide +kernel
theorem q70_55 : decode (mB 70) 55 = .ok (.lload 6, 2) := by decide +kernel
theorem q70_57 : decode (mB 70) 57 = .ok (.lconst 1, 1) := by decide +kernel
theorem q70_58 : decode (mB 70) 58 = .ok (.iload 10, 2) := by decide +kernel
theorem q70_60 : decode (mB 70) 60 = .ok (.lshl, 1) := by decide +kernel
theorem q70_61 : decode (mB 70) 61 = .ok (.lor, 1) := by decide +kernel
theorem q70_62 : decode (mB 70) 62 = .ok (.lstore 6, 2) := by decide +kernel
theorem q70_64 : decode (mB 70) 64 = .ok (.goto 55, 3) := by decide +kernel
theorem q70_67 : decode (mB 70) 67 = .ok (.iinc 2 1, 3) := by decide +kernel
theorem q70_70 : decode (mB 70) 70 = .ok (.lload 4, 2) := by decide +kernel
theorem q70_72 : decode (mB 70) 72 = .ok (.iload 11, 2) := by decide +kernel
theorem q70_74 : decode (mB 70) 74 = .ok (.i2l, 1) := by decide +kernel
theorem q70_75 : decode (mB 70) 75 = .ok (.ladd, 1) := by decide +kernel
theorem q70_76 : decode (mB 70) 76 = .ok (.lstore 4, 2) := by decide +kernel
theorem q70_78 : decode (mB 70) 78 = .ok (.iload_n 3, 1) := by decide +kernel
theorem q70_79 : decode (mB 70) 79 = .ok (.aload_n 0, 1) := by decide +kernel
theorem q70_80 : decode (mB 70) 80 = .ok (.iload 10, 2) := by decide +kernel
theorem q70_82 : decode (mB 70) 82 = .ok (.iload_n 1, 1) := by decide +kernel
theorem q70_83 : cfB 70 83 63 71 1 4 2 = true := by decide +kernel
theorem q70_86 : decode (mB 70) 86 = .ok (.ifCond .eq 7, 3) := by decide +kernel
theorem q70_89 : decode (mB 70) 89 = .ok (.iconst 1, 1) := by decide +kernel
theorem q70_90 : decode (mB 70) 90 = .ok (.goto 4, 3) := by decide +kernel
theorem q70_93 : decode (mB 70) 93 = .ok (.iconst 0, 1) := by decide +kernel
theorem q70_94 : decode (mB 70) 94 = .ok (.iadd, 1) := by decide +kernel
theorem q70_95 : decode (mB 70) 95 = .ok (.istore_n 3, 1) := by decide +kernel
theorem q70_96 : decode (mB 70) 96 = .ok (.iload 8, 2) := by decide +kernel
theorem q70_98 : decode (mB 70) 98 = .ok (.ifCond .eq 14, 3) := by decide +kernel
theorem q70_101 : decode (mB 70) 101 = .ok (.iload 11, 2) := by decide +kernel
theorem q70_103 : decode (mB 70) 103 = .ok (.iload 9, 2) := by decide +kernel
theorem q70_105 : decode (mB 70) 105 = .ok (.if_icmp .le 7, 3) := by decide +kernel
theorem q70_108 : decode (mB 70) 108 = .ok (.iconst 1, 1) := by decide +kernel
theorem q70_109 : decode (mB 70) 109 = .ok (.goto 4, 3) := by decide +kernel
theorem q70_112 : decode (mB 70) 112 = .ok (.iconst 0, 1) := by decide +kernel
theorem q70_113 : decode (mB 70) 113 = .ok (.istore 8, 2) := by decide +kernel
theorem q70_115 : decode (mB 70) 115 = .ok (.iload 11, 2) := by decide +kernel
theorem q70_117 : decode (mB 70) 117 = .ok (.istore 9, 2) := by decide +kernel
theorem q70_119 : decode (mB 70) 119 = .ok (.iinc 10 1, 3) := by decide +kernel
theorem q70_122 : decode (mB 70) 122 = .ok (.goto (-93), 3) := by decide +kernel
theorem q70_125 : decode (mB 70) 125 = .ok (.aload_n 0, 1) := by decide +kernel
theorem q70_126 : gfB 70 126 21 5 3 = true := by decide +kernel
theorem q70_129 : decode (mB 70) 129 = .ok (.iload_n 1, 1) := by decide +kernel
theorem q70_130 : decode (mB 70) 130 = .ok (.iload_n 2, 1) := by decide +kernel
theorem q70_131 : decode (mB 70) 131 = .ok (.iastore, 1) := by decide +kernel
theorem q70_132 : decode (mB 70) 132 = .ok (.aload_n 0, 1) := by decide +kernel
theorem q70_133 : gfB 70 133 24 5 4 = true := by decide +kernel
theorem q70_136 : decode (mB 70) 136 = .ok (.iload_n 1, 1) := by decide +kernel
theorem q70_137 : decode (mB 70) 137 = .ok (.iload_n 3, 1) := by decide +kernel
theorem q70_138 : decode (mB 70) 138 = .ok (.iastore, 1) := by decide +kernel
theorem q70_139 : decode (mB 70) 139 = .ok (.aload_n 0, 1) := by decide +kernel
theorem q70_140 : gfB 70 140 27 5 5 = true := by decide +kernel
theorem q70_143 : decode (mB 70) 143 = .ok (.iload_n 1, 1) := by decide +kernel
theorem q70_144 : decode (mB 70) 144 = .ok (.lload 4, 2) := by decide +kernel
theorem q70_146 : decode (mB 70) 146 = .ok (.lastore, 1) := by decide +kernel
theorem q70_147 : decode (mB 70) 147 = .ok (.aload_n 0, 1) := by decide +kernel
theorem q70_148 : gfB 70 148 31 5 6 = true := by decide +kernel
theorem q70_151 : decode (mB 70) 151 = .ok (.iload_n 1, 1) := by decide +kernel
theorem q70_152 : decode (mB 70) 152 = .ok (.lload 6, 2) := by decide +kernel
theorem q70_154 : decode (mB 70) 154 = .ok (.lastore, 1) := by decide +kernel
theorem q70_155 : decode (mB 70) 155 = .ok (.aload_n 0, 1) := by decide +kernel
theorem q70_156 : gfB 70 156 18 5 2 = true := by decide +kernel
theorem q70_159 : decode (mB 70) 159 = .ok (.iload_n 1, 1) := by decide +kernel
theorem q70_160 : decode (mB 70) 160 = .ok (.iload_n 2, 1) := by decide +kernel
theorem q70_161 : decode (mB 70) 161 = .ok (.iload_n 3, 1) := by decide +kernel
theorem q70_162 : decode (mB 70) 162 = .ok (.aload_n 0, 1) := by decide +kernel
theorem q70_163 : gfB 70 163 15 5 1 = true := by decide +kernel
theorem q70_166 : decode (mB 70) 166 = .ok (.iload_n 1, 1) := by decide +kernel
theorem q70_167 : decode (mB 70) 167 = .ok (.iaload, 1) := by decide +kernel
theorem q70_168 : decode (mB 70) 168 = .ok (.iload 8, 2) := by decide +kernel
theorem q70_170 : cfB 70 170 67 72 0 4 4 = true := by decide +kernel
theorem q70_173 : decode (mB 70) 173 = .ok (.iastore, 1) := by decide +kernel
theorem q70_174 : decode (mB 70) 174 = .ok (.return_, 1) := by decide +kernel
theorem q71_0 : decode (mB 71) 0 = .ok (.aload_n 0, 1) := by decide +kernel
theorem q71_1 : decode (mB 71) 1 = .ok (.iload_n 1, 1) := by decide +kernel
theorem q71_2 : decode (mB 71) 2 = .ok (.iload_n 2, 1) := by decide +kernel
theorem q71_3 : cfB 71 3 55 55 1 4 2 = true := by decide +kernel
theorem q71_6 : decode (mB 71) 6 = .ok (.istore_n 3, 1) := by decide +kernel
theorem q71_7 : decode (mB 71) 7 = .ok (.iconst 0, 1) := by decide +kernel
theorem q71_8 : decode (mB 71) 8 = .ok (.istore 4, 2) := by decide +kernel
theorem q71_10 : decode (mB 71) 10 = .ok (.iload 4, 2) := by decide +kernel
theorem q71_12 : decode (mB 71) 12 = .ok (.iload_n 1, 1) := by decide +kernel
theorem q71_13 : decode (mB 71) 13 = .ok (.if_icmp .ge 22, 3) := by decide +kernel
theorem q71_16 : decode (mB 71) 16 = .ok (.aload_n 0, 1) := by decide +kernel
theorem q71_17 : decode (mB 71) 17 = .ok (.iload 4, 2) := by decide +kernel
theorem q71_19 : decode (mB 71) 19 = .ok (.iload_n 2, 1) := by decide +kernel
theorem q71_20 : cfB 71 20 55 55 1 4 2 = true := by decide +kernel
theorem q71_23 : decode (mB 71) 23 = .ok (.iload_n 3, 1) := by decide +kernel
theorem q71_24 : decode (mB 71) 24 = .ok (.if_icmp .ne 5, 3) := by decide +kernel
theorem q71_27 : decode (mB 71) 27 = .ok (.iconst 0, 1) := by decide +kernel
theorem q71_28 : decode (mB 71) 28 = .ok (.ireturn, 1) := by decide +kernel
theorem q71_29 : decode (mB 71) 29 = .ok (.iinc 4 1, 3) := by decide +kernel
theorem q71_32 : decode (mB 71) 32 = .ok (.goto (-22), 3) := by decide +kernel
theorem q71_35 : decode (mB 71) 35 = .ok (.iconst 1, 1) := by decide +kernel
theorem q71_36 : decode (mB 71) 36 = .ok (.ireturn, 1) := by decide +kernel
theorem q72_0 : decode (mB 72) 0 = .ok (.iload_n 0, 1) := by decide +kernel
theorem q72_1 : decode (mB 72) 1 = .ok (.ifCond .ne 5, 3) := by decide +kernel
theorem q72_4 : decode (mB 72) 4 = .ok (.iconst 0, 1) := by decide +kernel
theorem q72_5 : decode (mB 72) 5 = .ok (.ireturn, 1) := by decide +kernel
theorem q72_6 : decode (mB 72) 6 = .ok (.iload_n 1, 1) := by decide +kernel
theorem q72_7 : decode (mB 72) 7 = .ok (.iconst 1, 1) := by decide +kernel
theorem q72_8 : decode (mB 72) 8 = .ok (.if_icmp .ne 5, 3) := by decide +kernel
theorem q72_11 : decode (mB 72) 11 = .ok (.iconst 1, 1) := by decide +kernel
theorem q72_12 : decode (mB 72) 12 = .ok (.ireturn, 1) := by decide +kernel
theorem q72_13 : decode (mB 72) 13 = .ok (.iload_n 2, 1) := by decide +kernel
theorem q72_14 : decode (mB 72) 14 = .ok (.iconst (-1), 1) := by decide +kernel
theorem q72_15 : decode (mB 72) 15 = .ok (.if_icmp .eq 5, 3) := by decide +kernel
theorem q72_18 : decode (mB 72) 18 = .ok (.iload_n 2, 1) := by decide +kernel
theorem q72_19 : decode (mB 72) 19 = .ok (.ireturn, 1) := by decide +kernel
theorem q72_20 : decode (mB 72) 20 = .ok (.iload_n 0, 1) := by decide +kernel
theorem q72_21 : decode (mB 72) 21 = .ok (.iconst 4, 1) := by decide +kernel
theorem q72_22 : decode (mB 72) 22 = .ok (.if_icmp .lt 9, 3) := by decide +kernel
theorem q72_25 : decode (mB 72) 25 = .ok (.iload_n 3, 1) := by decide +kernel
theorem q72_26 : decode (mB 72) 26 = .ok (.ifCond .eq 5, 3) := by decide +kernel
theorem q72_29 : decode (mB 72) 29 = .ok (.iconst 2, 1) := by decide +kernel
theorem q72_30 : decode (mB 72) 30 = .ok (.ireturn, 1) := by decide +kernel
theorem q72_31 : decode (mB 72) 31 = .ok (.iload_n 1, 1) := by decide +kernel
theorem q72_32 : decode (mB 72) 32 = .ok (.bipush 6, 2) := by decide +kernel
theorem q72_34 : decode (mB 72) 34 = .ok (.if_icmp .gt 12, 3) := by decide +kernel
theorem q72_37 : decode (mB 72) 37 = .ok (.iload_n 0, 1) := by decide +kernel
theorem q72_38 : decode (mB 72) 38 = .ok (.iconst 2, 1) := by decide +kernel
theorem q72_39 : decode (mB 72) 39 = .ok (.iload_n 1, 1) := by decide +kernel
theorem q72_40 : decode (mB 72) 40 = .ok (.imul, 1) := by decide +kernel
theorem q72_41 : decode (mB 72) 41 = .ok (.if_icmp .lt 5, 3) := by decide +kernel
theorem q72_44 : decode (mB 72) 44 = .ok (.iconst 3, 1) := by decide +kernel
theorem q72_45 : decode (mB 72) 45 = .ok (.ireturn, 1) := by decide +kernel
theorem q72_46 : decode (mB 72) 46 = .ok (.iconst 4, 1) := by decide +kernel
theorem q72_47 : decode (mB 72) 47 = .ok (.ireturn, 1) := by decide +kernel
theorem q73_0 : decode (mB 73) 0 = .ok (.aload_n 0, 1) := by decide +kernel
theorem q73_1 : (decide (73 < 235) && decide (decode (mB 73) 1 = .ok (.invokespecial 3, 3)) && (lks (mD 73)).contains (3, 2, 0, 0) && decide (1 ≤ mV 73)) = true := by decide +kernel
theorem q73_4 : decode (mB 73) 4 = .ok (.aload_n 0, 1) := by decide +kernel
theorem q73_5 : nwB 73 5 9 0 = true := by decide +kernel
theorem q73_8 : decode (mB 73) 8 = .ok (.dup, 1) := by decide +kernel
theorem q73_9 : cfB 73 9 11 0 2 4 0 = true := by decide +kernel
theorem q73_12 : pfB 73 12 12 6 2 = true := by decide +kernel
theorem q73_15 : decode (mB 73) 15 = .ok (.aload_n 0, 1) := by decide +kernel
theorem q73_16 : decode (mB 73) 16 = .ok (.aload_n 1, 1) := by decide +kernel
theorem q73_17 : pfB 73 17 18 6 0 = true := by decide +kernel
theorem q73_20 : decode (mB 73) 20 = .ok (.aload_n 0, 1) := by decide +kernel
theorem q73_21 : decode (mB 73) 21 = .ok (.aload_n 2, 1) := by decide +kernel
theorem q73_22 : pfB 73 22 22 6 1 = true := by decide +kernel
theorem q73_25 : decode (mB 73) 25 = .ok (.aload_n 0, 1) := by decide +kernel
theorem q73_26 : cfB 73 26 26 80 0 4 0 = true := by decide +kernel
theorem q73_29 : pfB 73 29 30 6 3 = true := by decide +kernel
theorem q73_32 : decode (mB 73) 32 = .ok (.return_, 1) := by decide +kernel
theorem q74_0 : decode (mB 74) 0 = .ok (.aload_n 0, 1) := by decide +kernel
theorem q74_1 : gfB 74 1 12 6 2 = true := by decide +kernel
theorem q74_4 : decode (mB 74) 4 = .ok (.areturn, 1) := by decide +kernel
theorem q75_0 : decode (mB 75) 0 = .ok (.aload_n 0, 1) := by decide +kernel
theorem q75_1 : gfB 75 1 34 6 4 = true := by decide +kernel
theorem q75_4 : decode (mB 75) 4 = .ok (.ireturn, 1) := by decide +kernel
theorem q76_0 : decode (mB 76) 0 = .ok (.aload_n 0, 1) := by decide +kernel
theorem q76_1 : decode (mB 76) 1 = .ok (.aload_n 0, 1) := by decide +kernel
theorem q76_2 : gfB 76 2 22 6 1 = true := by decide +kernel
theorem q76_5 : decode (mB 76) 5 = .ok (.iload_n 1, 1) := by decide +kernel
theorem q76_6 : cfB 76 6 38 21 1 4 1 = true := by decide +kernel
theorem q76_9 : decode (mB 76) 9 = .ok (.iload_n 1, 1) := by decide +kernel
theorem q76_10 : cfB 76 10 44 43 0 4 2 = true := by decide +kernel
theorem q76_13 : cfB 76 13 50 78 1 4 1 = true := by decide +kernel
theorem q76_16 : decode (mB 76) 16 = .ok (.aload_n 0, 1) := by decide +kernel
theorem q76_17 : gfB 76 17 54 6 5 = true := by decide +kernel
theorem q76_20 : decode (mB 76) 20 = .ok (.ireturn, 1) := by decide +kernel
theorem q77_0 : decode (mB 77) 0 = .ok (.aload_n 0, 1) := by decide +kernel
theorem q77_1 : decode (mB 77) 1 = .ok (.lconst 0, 1) := by decide +kernel
theorem q77_2 : cfB 77 2 50 78 1 4 1 = true := by decide +kernel
theorem q77_5 : decode (mB 77) 5 = .ok (.return_, 1) := by decide +kernel
theorem q78_0 : decode (mB 78) 0 = .ok (.aload_n 0, 1) := by decide +kernel
theorem q78_1 : gfB 78 1 12 6 2 = true := by decide +kernel
theorem q78_4 : cfB 78 4 57 5 1 4 0 = true := by decide +kernel
theorem q78_7 : decode (mB 78) 7 = .ok (.aload_n 0, 1) := by decide +kernel
theorem q78_8 : decode (mB 78) 8 = .ok (.iconst 0, 1) := by decide +kernel
theorem q78_9 : pfB 78 9 34 6 4 = true := by decide +kernel
theorem q78_12 : decode (mB 78) 12 = .ok (.aload_n 0, 1) := by decide +kernel
theorem q78_13 : decode (mB 78) 13 = .ok (.iconst 0, 1) := by decide +kernel
theorem q78_14 : pfB 78 14 54 6 5 = true := by decide +kernel
theorem q78_17 : decode (mB 78) 17 = .ok (.aload_n 0, 1) := by decide +kernel
theorem q78_18 : gfB 78 18 30 6 3 = true := by decide +kernel
theorem q78_21 : decode (mB 78) 21 = .ok (.astore_n 3, 1) := by decide +kernel
theorem q78_22 : decode (mB 78) 22 = .ok (.aload_n 3, 1) := by decide +kernel
theorem q78_23 : decode (mB 78) 23 = .ok (.arraylength, 1) := by decide +kernel
theorem q78_24 : decode (mB 78) 24 = .ok (.istore 4, 2) := by decide +kernel
theorem q78_26 : decode (mB 78) 26 = .ok (.iconst 0, 1) := by decide +kernel
theorem q78_27 : decode (mB 78) 27 = .ok (.istore 5, 2) := by decide +kernel
theorem q78_29 : decode (mB 78) 29 = .ok (.iload 5, 2) := by decide +kernel
theorem q78_31 : decode (mB 78) 31 = .ok (.iload 4, 2) := by decide +kernel
theorem q78_33 : decode (mB 78) 33 = .ok (.if_icmp .ge 34, 3) := by decide +kernel
theorem q78_36 : decode (mB 78) 36 = .ok (.aload_n 3, 1) := by decide +kernel
theorem q78_37 : decode (mB 78) 37 = .ok (.iload 5, 2) := by decide +kernel
theorem q78_39 : decode (mB 78) 39 = .ok (.iaload, 1) := by decide +kernel
theorem q78_40 : decode (mB 78) 40 = .ok (.istore 6, 2) := by decide +kernel
theorem q78_42 : decode (mB 78) 42 = .ok (.aload_n 0, 1) := by decide +kernel
theorem q78_43 : gfB 78 43 18 6 0 = true := by decide +kernel
theorem q78_46 : decode (mB 78) 46 = .ok (.iload 6, 2) := by decide +kernel
theorem q78_48 : cfB 78 48 60 32 1 4 1 = true := by decide +kernel
theorem q78_51 : decode (mB 78) 51 = .ok (.ifCond .ne 10, 3) := by decide +kernel
theorem q78_54 : decode (mB 78) 54 = .ok (.aload_n 0, 1) := by decide +kernel
theorem q78_55 : decode (mB 78) 55 = .ok (.iload 6, 2) := by decide +kernel
theorem q78_57 : decode (mB 78) 57 = .ok (.lload_n 1, 1) := by decide +kernel
theorem q78_58 : cfB 78 58 66 79 1 4 2 = true := by decide +kernel
theorem q78_61 : decode (mB 78) 61 = .ok (.iinc 5 1, 3) := by decide +kernel
theorem q78_64 : decode (mB 78) 64 = .ok (.goto (-35), 3) := by decide +kernel
theorem q78_67 : decode (mB 78) 67 = .ok (.return_, 1) := by decide +kernel
theorem q79_0 : gsB 79 0 70 0 8 = true := by decide +kernel
theorem q79_3 : decode (mB 79) 3 = .ok (.astore 4, 2) := by decide +kernel
theorem q79_5 : decode (mB 79) 5 = .ok (.aload 4, 2) := by decide +kernel
theorem q79_7 : decode (mB 79) 7 = .ok (.arraylength, 1) := by decide +kernel
theorem q79_8 : decode (mB 79) 8 = .ok (.istore 5, 2) := by decide +kernel
theorem q79_10 : decode (mB 79) 10 = .ok (.iconst 0, 1) := by decide +kernel
theorem q79_11 : decode (mB 79) 11 = .ok (.istore 6, 2) := by decide +kernel
theorem q79_13 : decode (mB 79) 13 = .ok (.iload 6, 2) := by decide +kernel
theorem q79_15 : decode (mB 79) 15 = .ok (.iload 5, 2) := by decide +kernel
theorem q79_17 : decode (mB 79) 17 = .ok (.if_icmp .ge 110, 3) := by decide +kernel
theorem q79_20 : decode (mB 79) 20 = .ok (.aload 4, 2) := by decide +kernel
theorem q79_22 : decode (mB 79) 22 = .ok (.iload 6, 2) := by decide +kernel
theorem q79_24 : decode (mB 79) 24 = .ok (.caload, 1) := by decide +kernel
theorem q79_25 : decode (mB 79) 25 = .ok (.istore 7, 2) := by decide +kernel
theorem q79_27 : decode (mB 79) 27 = .ok (.iconst 0, 1) := by decide +kernel
theorem q79_28 : decode (mB 79) 28 = .ok (.istore 8, 2) := by decide +kernel
theorem q79_30 : decode (mB 79) 30 = .ok (.iload 8, 2) := by decide +kernel
theorem q79_32 : decode (mB 79) 32 = .ok (.iconst 2, 1) := by decide +kernel
theorem q79_33 : decode (mB 79) 33 = .ok (.if_icmp .gt 88, 3) := by decide +kernel
theorem q79_36 : decode (mB 79) 36 = .ok (.iload 7, 2) := by decide +kernel
theorem q79_38 : decode (mB 79) 38 = .ok (.iload 8, 2) := by decide +kernel
theorem q79_40 : cfB 79 40 74 8 0 4 2 = true := by decide +kernel
theorem q79_43 : decode (mB 79) 43 = .ok (.iload_n 1, 1) := by decide +kernel
theorem q79_44 : decode (mB 79) 44 = .ok (.ior, 1) := by decide +kernel
theorem q79_45 : decode (mB 79) 45 = .ok (.istore 9, 2) := by decide +kernel
theorem q79_47 : decode (mB 79) 47 = .ok (.aload_n 0, 1) := by decide +kernel
theorem q79_48 : gfB 79 48 18 6 0 = true := by decide +kernel
theorem q79_51 : decode (mB 79) 51 = .ok (.iload 9, 2) := by decide +kernel
theorem q79_53 : cfB 79 53 80 31 1 4 1 = true := by decide +kernel
theorem q79_56 : decode (mB 79) 56 = .ok (.ifCond .ne 59, 3) := by decide +kernel
theorem q79_59 : decode (mB 79) 59 = .ok (.aload_n 0, 1) := by decide +kernel
theorem q79_60 : gfB 79 60 22 6 1 = true := by decide +kernel
theorem q79_63 : decode (mB 79) 63 = .ok (.iload 9, 2) := by decide +kernel
theorem q79_65 : cfB 79 65 38 21 1 4 1 = true := by decide +kernel
theorem q79_68 : decode (mB 79) 68 = .ok (.iload 9, 2) := by decide +kernel
theorem q79_70 : cfB 79 70 44 43 0 4 2 = true := by decide +kernel
theorem q79_73 : decode (mB 79) 73 = .ok (.lstore 10, 2) := by decide +kernel
theorem q79_75 : decode (mB 79) 75 = .ok (.aload_n 0, 1) := by decide +kernel
theorem q79_76 : decode (mB 79) 76 = .ok (.dup, 1) := by decide +kernel
theorem q79_77 : gfB 79 77 34 6 4 = true := by decide +kernel
theorem q79_80 : decode (mB 79) 80 = .ok (.iconst 1, 1) := by decide +kernel
theorem q79_81 : decode (mB 79) 81 = .ok (.iadd, 1) := by decide +kernel
theorem q79_82 : pfB 79 82 34 6 4 = true := by decide +kernel
theorem q79_85 : decode (mB 79) 85 = .ok (.aload_n 0, 1) := by decide +kernel
theorem q79_86 : decode (mB 79) 86 = .ok (.dup, 1) := by decide +kernel
theorem q79_87 : gfB 79 87 54 6 5 = true := by decide +kernel
theorem q79_90 : decode (mB 79) 90 = .ok (.lload 10, 2) := by decide +kernel
theorem q79_92 : decode (mB 79) 92 = .ok (.lload_n 2, 1) := by decide +kernel
theorem q79_93 : decode (mB 79) 93 = .ok (.lcmp, 1) := by decide +kernel
theorem q79_94 : decode (mB 79) 94 = .ok (.ifCond .ge 7, 3) := by decide +kernel
theorem q79_97 : decode (mB 79) 97 = .ok (.iconst 1, 1) := by decide +kernel
theorem q79_98 : decode (mB 79) 98 = .ok (.goto 4, 3) := by decide +kernel
theorem q79_101 : decode (mB 79) 101 = .ok (.iconst 0, 1) := by decide +kernel
theorem q79_102 : decode (mB 79) 102 = .ok (.iadd, 1) := by decide +kernel
theorem q79_103 : pfB 79 103 54 6 5 = true := by decide +kernel
theorem q79_106 : decode (mB 79) 106 = .ok (.aload_n 0, 1) := by decide +kernel
theorem q79_107 : gfB 79 107 12 6 2 = true := by decide +kernel
theorem q79_110 : decode (mB 79) 110 = .ok (.lload 10, 2) := by decide +kernel
theorem q79_112 : cfB 79 112 83 7 1 4 1 = true := by decide +kernel
theorem q79_115 : decode (mB 79) 115 = .ok (.iinc 8 1, 3) := by decide +kernel
theorem q79_118 : decode (mB 79) 118 = .ok (.goto (-88), 3) := by decide +kernel
theorem q79_121 : decode (mB 79) 121 = .ok (.iinc 6 1, 3) := by decide +kernel
theorem q79_124 : decode (mB 79) 124 = .ok (.goto (-111), 3) := by decide +kernel
theorem q79_127 : decode (mB 79) 127 = .ok (.return_, 1) := by decide +kernel
theorem q80_0 : decode (mB 80) 0 = .ok (.sipush 1045, 3) := by decide +kernel
theorem q80_3 : naB 80 3 0 = true := by decide +kernel
theorem q80_5 : decode (mB 80) 5 = .ok (.astore_n 0, 1) := by decide +kernel
theorem q80_6 : decode (mB 80) 6 = .ok (.iconst 0, 1) := by decide +kernel
theorem q80_7 : decode (mB 80) 7 = .ok (.istore_n 1, 1) := by decide +kernel
theorem q80_8 : decode (mB 80) 8 = .ok (.iconst 0, 1) := by decide +kernel
theorem q80_9 : decode (mB 80) 9 = .ok (.istore_n 2, 1) := by decide +kernel
theorem q80_10 : decode (mB 80) 10 = .ok (.iload_n 2, 1) := by decide +kernel
theorem q80_11 : decode (mB 80) 11 = .ok (.sipush 4096, 3) := by decide +kernel
theorem q80_14 : decode (mB 80) 14 = .ok (.if_icmp .ge 29, 3) := by decide +kernel
theorem q80_17 : decode (mB 80) 17 = .ok (.iload_n 1, 1) := by decide +kernel
theorem q80_18 : decode (mB 80) 18 = .ok (.aload_n 0, 1) := by decide +kernel
theorem q80_19 : decode (mB 80) 19 = .ok (.arraylength, 1) := by decide +kernel
theorem q80_20 : decode (mB 80) 20 = .ok (.if_icmp .ge 17, 3) := by decide +kernel
theorem q80_23 : decode (mB 80) 23 = .ok (.iload_n 2, 1) := by decide +kernel
theorem q80_24 : cfB 80 24 86 17 0 4 1 = true := by decide +kernel
theorem q80_27 : decode (mB 80) 27 = .ok (.ifCond .eq 10, 3) := by decide +kernel
theorem q80_30 : decode (mB 80) 30 = .ok (.aload_n 0, 1) := by decide +kernel
theorem q80_31 : decode (mB 80) 31 = .ok (.iload_n 1, 1) := by decide +kernel
theorem q80_32 : decode (mB 80) 32 = .ok (.iload_n 2, 1) := by decide +kernel
theorem q80_33 : decode (mB 80) 33 = .ok (.iastore, 1) := by decide +kernel
theorem q80_34 : decode (mB 80) 34 = .ok (.iinc 1 1, 3) := by decide +kernel
theorem q80_37 : decode (mB 80) 37 = .ok (.iinc 2 1, 3) := by decide +kernel
theorem q80_40 : decode (mB 80) 40 = .ok (.goto (-30), 3) := by decide +kernel
theorem q80_43 : decode (mB 80) 43 = .ok (.aload_n 0, 1) := by decide +kernel
theorem q80_44 : decode (mB 80) 44 = .ok (.areturn, 1) := by decide +kernel
end
section
/-! what each instruction is, method by method (by program) -/

theorem q81_0 : decode (mB 81) 0 = .ok (.aload_n 0, 1) := by decide +kernel
theorem q81_1 : (decide (81 < 235) && decide (decode (mB 81) 1 = .ok (.invokespecial 1, 3)) && (lks (mD 81)).contains (1, 2, 0, 0) && decide (1 ≤ mV 81)) = true := by decide +kernel
theorem q81_4 : decode (mB 81) 4 = .ok (.aload_n 0, 1) := by decide +kernel
theorem q81_5 : nwB 81 5 7 5 = true := by decide +kernel
theorem q81_8 : decode (mB 81) 8 = .ok (.dup, 1) := by decide +kernel
theorem q81_9 : cfB 81 9 9 52 2 4 0 = true := by decide +kernel
theorem q81_12 : pfB 81 12 10 7 0 = true := by decide +kernel
theorem q81_15 : decode (mB 81) 15 = .ok (.aload_n 0, 1) := by decide +kernel
theorem q81_16 : nwB 81 16 16 2 = true := by decide +kernel
theorem q81_19 : decode (mB 81) 19 = .ok (.dup, 1) := by decide +kernel
theorem q81_20 : decode (mB 81) 20 = .ok (.aload_n 0, 1) := by decide +kernel
theorem q81_21 : gfB 81 21 10 7 0 = true := by decide +kernel
theorem q81_24 : cfB 81 24 18 25 2 4 1 = true := by decide +kernel
theorem q81_27 : pfB 81 27 21 7 1 = true := by decide +kernel
theorem q81_30 : decode (mB 81) 30 = .ok (.aload_n 0, 1) := by decide +kernel
theorem q81_31 : nwB 81 31 25 1 = true := by decide +kernel
theorem q81_34 : decode (mB 81) 34 = .ok (.dup, 1) := by decide +kernel
theorem q81_35 : decode (mB 81) 35 = .ok (.aload_n 0, 1) := by decide +kernel
theorem q81_36 : gfB 81 36 10 7 0 = true := by decide +kernel
theorem q81_39 : cfB 81 39 27 18 2 4 1 = true := by decide +kernel
theorem q81_42 : pfB 81 42 28 7 2 = true := by decide +kernel
theorem q81_45 : decode (mB 81) 45 = .ok (.aload_n 0, 1) := by decide +kernel
theorem q81_46 : nwB 81 46 32 4 = true := by decide +kernel
theorem q81_49 : decode (mB 81) 49 = .ok (.dup, 1) := by decide +kernel
theorem q81_50 : decode (mB 81) 50 = .ok (.aload_n 0, 1) := by decide +kernel
theorem q81_51 : gfB 81 51 21 7 1 = true := by decide +kernel
theorem q81_54 : decode (mB 81) 54 = .ok (.aload_n 0, 1) := by decide +kernel
theorem q81_55 : gfB 81 55 28 7 2 = true := by decide +kernel
theorem q81_58 : cfB 81 58 34 46 2 4 2 = true := by decide +kernel
theorem q81_61 : pfB 81 61 37 7 3 = true := by decide +kernel
theorem q81_64 : decode (mB 81) 64 = .ok (.aload_n 0, 1) := by decide +kernel
theorem q81_65 : nwB 81 65 41 6 = true := by decide +kernel
theorem q81_68 : decode (mB 81) 68 = .ok (.dup, 1) := by decide +kernel
theorem q81_69 : decode (mB 81) 69 = .ok (.aload_n 0, 1) := by decide +kernel
theorem q81_70 : gfB 81 70 21 7 1 = true := by decide +kernel
theorem q81_73 : decode (mB 81) 73 = .ok (.aload_n 0, 1) := by decide +kernel
theorem q81_74 : gfB 81 74 28 7 2 = true := by decide +kernel
theorem q81_77 : cfB 81 77 43 73 2 4 2 = true := by decide +kernel
theorem q81_80 : pfB 81 80 44 7 4 = true := by decide +kernel
theorem q81_83 : decode (mB 81) 83 = .ok (.aload_n 0, 1) := by decide +kernel
theorem q81_84 : nwB 81 84 48 3 = true := by decide +kernel
theorem q81_87 : decode (mB 81) 87 = .ok (.dup, 1) := by decide +kernel
theorem q81_88 : cfB 81 88 50 35 2 4 0 = true := by decide +kernel
theorem q81_91 : pfB 81 91 51 7 5 = true := by decide +kernel
theorem q81_94 : decode (mB 81) 94 = .ok (.aload_n 0, 1) := by decide +kernel
theorem q81_95 : decode (mB 81) 95 = .ok (.iconst 3, 1) := by decide +kernel
theorem q81_96 : pfB 81 96 55 7 6 = true := by decide +kernel
theorem q81_99 : decode (mB 81) 99 = .ok (.aload_n 0, 1) := by decide +kernel
theorem q81_100 : decode (mB 81) 100 = .ok (.bipush 98, 2) := by decide +kernel
theorem q81_102 : decode (mB 81) 102 = .ok (.iconst 0, 1) := by decide +kernel
theorem q81_103 : cfB 81 103 59 8 0 4 2 = true := by decide +kernel
theorem q81_106 : pfB 81 106 65 7 7 = true := by decide +kernel
theorem q81_109 : decode (mB 81) 109 = .ok (.return_, 1) := by decide +kernel
theorem q82_0 : decode (mB 82) 0 = .ok (.iload_n 1, 1) := by decide +kernel
theorem q82_1 : cfB 82 1 68 120 0 4 1 = true := by decide +kernel
theorem q82_4 : decode (mB 82) 4 = .ok (.ifCond .eq 45, 3) := by decide +kernel
theorem q82_7 : decode (mB 82) 7 = .ok (.iload_n 2, 1) := by decide +kernel
theorem q82_8 : cfB 82 8 68 120 0 4 1 = true := by decide +kernel
theorem q82_11 : decode (mB 82) 11 = .ok (.ifCond .eq 38, 3) := by decide +kernel
theorem q82_14 : decode (mB 82) 14 = .ok (.iload_n 3, 1) := by decide +kernel
theorem q82_15 : cfB 82 15 68 120 0 4 1 = true := by decide +kernel
theorem q82_18 : decode (mB 82) 18 = .ok (.ifCond .eq 31, 3) := by decide +kernel
theorem q82_21 : decode (mB 82) 21 = .ok (.iload 4, 2) := by decide +kernel
theorem q82_23 : cfB 82 23 68 120 0 4 1 = true := by decide +kernel
theorem q82_26 : decode (mB 82) 26 = .ok (.ifCond .eq 23, 3) := by decide +kernel
theorem q82_29 : decode (mB 82) 29 = .ok (.iload 5, 2) := by decide +kernel
theorem q82_31 : cfB 82 31 68 120 0 4 1 = true := by decide +kernel
theorem q82_34 : decode (mB 82) 34 = .ok (.ifCond .eq 15, 3) := by decide +kernel
theorem q82_37 : decode (mB 82) 37 = .ok (.iload 6, 2) := by decide +kernel
theorem q82_39 : cfB 82 39 68 120 0 4 1 = true := by decide +kernel
theorem q82_42 : decode (mB 82) 42 = .ok (.ifCond .eq 7, 3) := by decide +kernel
theorem q82_45 : decode (mB 82) 45 = .ok (.iconst 1, 1) := by decide +kernel
theorem q82_46 : decode (mB 82) 46 = .ok (.goto 4, 3) := by decide +kernel
theorem q82_49 : decode (mB 82) 49 = .ok (.iconst 0, 1) := by decide +kernel
theorem q82_50 : decode (mB 82) 50 = .ok (.istore 7, 2) := by decide +kernel
theorem q82_52 : decode (mB 82) 52 = .ok (.iload 7, 2) := by decide +kernel
theorem q82_54 : decode (mB 82) 54 = .ok (.ifCond .ne 13, 3) := by decide +kernel
theorem q82_57 : thI 82 57 0 0 := th_of (ik := 72) (is := 74) (w := false) (by decide +kernel)
theorem q82_67 : decode (mB 82) 67 = .ok (.aload_n 0, 1) := by decide +kernel
theorem q82_68 : gfB 82 68 10 7 0 = true := by decide +kernel
theorem q82_71 : cfB 82 71 79 53 1 4 0 = true := by decide +kernel
theorem q82_74 : decode (mB 82) 74 = .ok (.bipush 40, 2) := by decide +kernel
theorem q82_76 : decode (mB 82) 76 = .ok (.if_icmp .lt 13, 3) := by decide +kernel
theorem q82_79 : thI 82 79 1 1 := th_of (ik := 83) (is := 85) (w := false) (by decide +kernel)
theorem q82_89 : decode (mB 82) 89 = .ok (.aload_n 0, 1) := by decide +kernel
theorem q82_90 : gfB 82 90 10 7 0 = true := by decide +kernel
theorem q82_93 : decode (mB 82) 93 = .ok (.iload_n 1, 1) := by decide +kernel
theorem q82_94 : decode (mB 82) 94 = .ok (.iload_n 2, 1) := by decide +kernel
theorem q82_95 : decode (mB 82) 95 = .ok (.iload_n 3, 1) := by decide +kernel
theorem q82_96 : decode (mB 82) 96 = .ok (.iload 4, 2) := by decide +kernel
theorem q82_98 : decode (mB 82) 98 = .ok (.iload 5, 2) := by decide +kernel
theorem q82_100 : decode (mB 82) 100 = .ok (.iload 6, 2) := by decide +kernel
theorem q82_102 : cfB 82 102 88 64 1 4 6 = true := by decide +kernel
theorem q82_105 : decode (mB 82) 105 = .ok (.aload_n 0, 1) := by decide +kernel
theorem q82_106 : gfB 82 106 37 7 3 = true := by decide +kernel
theorem q82_109 : cfB 82 109 92 47 1 4 0 = true := by decide +kernel
theorem q82_112 : decode (mB 82) 112 = .ok (.aload_n 0, 1) := by decide +kernel
theorem q82_113 : gfB 82 113 10 7 0 = true := by decide +kernel
theorem q82_116 : cfB 82 116 79 53 1 4 0 = true := by decide +kernel
theorem q82_119 : decode (mB 82) 119 = .ok (.ireturn, 1) := by decide +kernel
theorem q83_0 : decode (mB 83) 0 = .ok (.aload_n 0, 1) := by decide +kernel
theorem q83_1 : gfB 83 1 10 7 0 = true := by decide +kernel
theorem q83_4 : decode (mB 83) 4 = .ok (.iload_n 1, 1) := by decide +kernel
theorem q83_5 : cfB 83 5 95 54 1 4 1 = true := by decide +kernel
theorem q83_8 : decode (mB 83) 8 = .ok (.ifCond .ne 13, 3) := by decide +kernel
theorem q83_11 : thI 83 11 2 2 := th_of (ik := 98) (is := 100) (w := false) (by decide +kernel)
theorem q83_21 : decode (mB 83) 21 = .ok (.aload_n 0, 1) := by decide +kernel
theorem q83_22 : gfB 83 22 10 7 0 = true := by decide +kernel
theorem q83_25 : decode (mB 83) 25 = .ok (.iload_n 1, 1) := by decide +kernel
theorem q83_26 : cfB 83 26 103 65 1 4 1 = true := by decide +kernel
theorem q83_29 : decode (mB 83) 29 = .ok (.aload_n 0, 1) := by decide +kernel
theorem q83_30 : gfB 83 30 37 7 3 = true := by decide +kernel
theorem q83_33 : cfB 83 33 92 47 1 4 0 = true := by decide +kernel
theorem q83_36 : decode (mB 83) 36 = .ok (.aload_n 0, 1) := by decide +kernel
theorem q83_37 : gfB 83 37 10 7 0 = true := by decide +kernel
theorem q83_40 : cfB 83 40 79 53 1 4 0 = true := by decide +kernel
theorem q83_43 : decode (mB 83) 43 = .ok (.ireturn, 1) := by decide +kernel
theorem q84_0 : decode (mB 84) 0 = .ok (.aload_n 0, 1) := by decide +kernel
theorem q84_1 : gfB 84 1 10 7 0 = true := by decide +kernel
theorem q84_4 : decode (mB 84) 4 = .ok (.iload_n 1, 1) := by decide +kernel
theorem q84_5 : cfB 84 5 95 54 1 4 1 = true := by decide +kernel
theorem q84_8 : decode (mB 84) 8 = .ok (.ifCond .eq 10, 3) := by decide +kernel
theorem q84_11 : decode (mB 84) 11 = .ok (.iload_n 2, 1) := by decide +kernel
theorem q84_12 : cfB 84 12 107 121 0 4 1 = true := by decide +kernel
theorem q84_15 : decode (mB 84) 15 = .ok (.ifCond .ne 13, 3) := by decide +kernel
theorem q84_18 : thI 84 18 2 3 := th_of (ik := 98) (is := 110) (w := false) (by decide +kernel)
theorem q84_28 : decode (mB 84) 28 = .ok (.iload_n 3, 1) := by decide +kernel
theorem q84_29 : cfB 84 29 68 120 0 4 1 = true := by decide +kernel
theorem q84_32 : decode (mB 84) 32 = .ok (.ifCond .ne 13, 3) := by decide +kernel
theorem q84_35 : thI 84 35 0 4 := th_of (ik := 72) (is := 112) (w := false) (by decide +kernel)
theorem q84_45 : decode (mB 84) 45 = .ok (.aload_n 0, 1) := by decide +kernel
theorem q84_46 : gfB 84 46 10 7 0 = true := by decide +kernel
theorem q84_49 : decode (mB 84) 49 = .ok (.iload_n 1, 1) := by decide +kernel
theorem q84_50 : decode (mB 84) 50 = .ok (.iload_n 2, 1) := by decide +kernel
theorem q84_51 : cfB 84 51 114 55 1 4 2 = true := by decide +kernel
theorem q84_54 : decode (mB 84) 54 = .ok (.istore 4, 2) := by decide +kernel
theorem q84_56 : decode (mB 84) 56 = .ok (.aload_n 0, 1) := by decide +kernel
theorem q84_57 : gfB 84 57 10 7 0 = true := by decide +kernel
theorem q84_60 : decode (mB 84) 60 = .ok (.iload_n 1, 1) := by decide +kernel
theorem q84_61 : decode (mB 84) 61 = .ok (.iload_n 2, 1) := by decide +kernel
theorem q84_62 : decode (mB 84) 62 = .ok (.iload_n 3, 1) := by decide +kernel
theorem q84_63 : cfB 84 63 118 66 1 4 3 = true := by decide +kernel
theorem q84_66 : decode (mB 84) 66 = .ok (.aload_n 0, 1) := by decide +kernel
theorem q84_67 : gfB 84 67 37 7 3 = true := by decide +kernel
theorem q84_70 : cfB 84 70 92 47 1 4 0 = true := by decide +kernel
theorem q84_73 : decode (mB 84) 73 = .ok (.iload 4, 2) := by decide +kernel
theorem q84_75 : decode (mB 84) 75 = .ok (.ireturn, 1) := by decide +kernel
theorem q85_0 : decode (mB 85) 0 = .ok (.aload_n 0, 1) := by decide +kernel
theorem q85_1 : gfB 85 1 10 7 0 = true := by decide +kernel
theorem q85_4 : cfB 85 4 79 53 1 4 0 = true := by decide +kernel
theorem q85_7 : decode (mB 85) 7 = .ok (.ireturn, 1) := by decide +kernel
theorem q86_0 : decode (mB 86) 0 = .ok (.iload_n 1, 1) := by decide +kernel
theorem q86_1 : cfB 86 1 122 124 0 4 1 = true := by decide +kernel
theorem q86_4 : decode (mB 86) 4 = .ok (.aload_n 0, 1) := by decide +kernel
theorem q86_5 : gfB 86 5 10 7 0 = true := by decide +kernel
theorem q86_8 : decode (mB 86) 8 = .ok (.iload_n 1, 1) := by decide +kernel
theorem q86_9 : cfB 86 9 125 59 1 4 1 = true := by decide +kernel
theorem q86_12 : decode (mB 86) 12 = .ok (.ireturn, 1) := by decide +kernel
theorem q87_0 : decode (mB 87) 0 = .ok (.iload_n 1, 1) := by decide +kernel
theorem q87_1 : cfB 87 1 122 124 0 4 1 = true := by decide +kernel
theorem q87_4 : decode (mB 87) 4 = .ok (.aload_n 0, 1) := by decide +kernel
theorem q87_5 : gfB 87 5 10 7 0 = true := by decide +kernel
theorem q87_8 : decode (mB 87) 8 = .ok (.iload_n 1, 1) := by decide +kernel
theorem q87_9 : cfB 87 9 129 60 1 4 1 = true := by decide +kernel
theorem q87_12 : decode (mB 87) 12 = .ok (.lreturn, 1) := by decide +kernel
theorem q88_0 : decode (mB 88) 0 = .ok (.iload_n 1, 1) := by decide +kernel
theorem q88_1 : cfB 88 1 122 124 0 4 1 = true := by decide +kernel
theorem q88_4 : decode (mB 88) 4 = .ok (.aload_n 0, 1) := by decide +kernel
theorem q88_5 : gfB 88 5 10 7 0 = true := by decide +kernel
theorem q88_8 : decode (mB 88) 8 = .ok (.iload_n 1, 1) := by decide +kernel
theorem q88_9 : cfB 88 9 133 58 1 4 1 = true := by decide +kernel
theorem q88_12 : decode (mB 88) 12 = .ok (.istore_n 2, 1) := by decide +kernel
theorem q88_13 : decode (mB 88) 13 = .ok (.iload_n 2, 1) := by decide +kernel
theorem q88_14 : decode (mB 88) 14 = .ok (.ifCond .ne 13, 3) := by decide +kernel
theorem q88_17 : thI 88 17 3 6 := th_of (ik := 136) (is := 138) (w := false) (by decide +kernel)
theorem q88_27 : decode (mB 88) 27 = .ok (.aload_n 0, 1) := by decide +kernel
theorem q88_28 : gfB 88 28 10 7 0 = true := by decide +kernel
theorem q88_31 : decode (mB 88) 31 = .ok (.iload_n 1, 1) := by decide +kernel
theorem q88_32 : cfB 88 32 129 60 1 4 1 = true := by decide +kernel
theorem q88_35 : decode (mB 88) 35 = .ok (.l2d, 1) := by decide +kernel
theorem q88_36 : decode (mB 88) 36 = .ok (.iload_n 2, 1) := by decide +kernel
theorem q88_37 : decode (mB 88) 37 = .ok (.i2d, 1) := by decide +kernel
theorem q88_38 : decode (mB 88) 38 = .ok (.ddiv, 1) := by decide +kernel
theorem q88_39 : decode (mB 88) 39 = .ok (.dreturn, 1) := by decide +kernel
theorem q89_0 : decode (mB 89) 0 = .ok (.iload_n 1, 1) := by decide +kernel
theorem q89_1 : cfB 89 1 122 124 0 4 1 = true := by decide +kernel
theorem q89_4 : decode (mB 89) 4 = .ok (.aload_n 0, 1) := by decide +kernel
theorem q89_5 : gfB 89 5 10 7 0 = true := by decide +kernel
theorem q89_8 : cfB 89 8 79 53 1 4 0 = true := by decide +kernel
theorem q89_11 : decode (mB 89) 11 = .ok (.istore_n 2, 1) := by decide +kernel
theorem q89_12 : decode (mB 89) 12 = .ok (.iload_n 2, 1) := by decide +kernel
theorem q89_13 : decode (mB 89) 13 = .ok (.ifCond .ne 13, 3) := by decide +kernel
theorem q89_16 : thI 89 16 3 7 := th_of (ik := 136) (is := 141) (w := false) (by decide +kernel)
theorem q89_26 : decode (mB 89) 26 = .ok (.aload_n 0, 1) := by decide +kernel
theorem q89_27 : gfB 89 27 10 7 0 = true := by decide +kernel
theorem q89_30 : decode (mB 89) 30 = .ok (.iload_n 1, 1) := by decide +kernel
theorem q89_31 : cfB 89 31 133 58 1 4 1 = true := by decide +kernel
theorem q89_34 : decode (mB 89) 34 = .ok (.i2f, 1) := by decide +kernel
theorem q89_35 : decode (mB 89) 35 = .ok (.iload_n 2, 1) := by decide +kernel
theorem q89_36 : decode (mB 89) 36 = .ok (.i2f, 1) := by decide +kernel
theorem q89_37 : decode (mB 89) 37 = .ok (.fdiv, 1) := by decide +kernel
theorem q89_38 : decode (mB 89) 38 = .ok (.freturn, 1) := by decide +kernel
theorem q90_0 : decode (mB 90) 0 = .ok (.iload_n 1, 1) := by decide +kernel
theorem q90_1 : cfB 90 1 122 124 0 4 1 = true := by decide +kernel
theorem q90_4 : decode (mB 90) 4 = .ok (.aload_n 0, 1) := by decide +kernel
theorem q90_5 : gfB 90 5 10 7 0 = true := by decide +kernel
theorem q90_8 : decode (mB 90) 8 = .ok (.iload_n 1, 1) := by decide +kernel
theorem q90_9 : cfB 90 9 143 56 1 4 1 = true := by decide +kernel
theorem q90_12 : decode (mB 90) 12 = .ok (.ireturn, 1) := by decide +kernel
theorem q91_0 : decode (mB 91) 0 = .ok (.iload_n 1, 1) := by decide +kernel
theorem q91_1 : cfB 91 1 122 124 0 4 1 = true := by decide +kernel
theorem q91_4 : decode (mB 91) 4 = .ok (.iload_n 2, 1) := by decide +kernel
theorem q91_5 : decode (mB 91) 5 = .ok (.iconst 2, 1) := by decide +kernel
theorem q91_6 : decode (mB 91) 6 = .ok (.if_icmp .eq 23, 3) := by decide +kernel
theorem q91_9 : decode (mB 91) 9 = .ok (.iload_n 2, 1) := by decide +kernel
theorem q91_10 : decode (mB 91) 10 = .ok (.iconst 3, 1) := by decide +kernel
theorem q91_11 : decode (mB 91) 11 = .ok (.if_icmp .eq 18, 3) := by decide +kernel
theorem q91_14 : decode (mB 91) 14 = .ok (.iload_n 2, 1) := by decide +kernel
theorem q91_15 : decode (mB 91) 15 = .ok (.iconst 4, 1) := by decide +kernel
theorem q91_16 : decode (mB 91) 16 = .ok (.if_icmp .eq 13, 3) := by decide +kernel
theorem q91_19 : thI 91 19 0 8 := th_of (ik := 72) (is := 146) (w := false) (by decide +kernel)
theorem q91_29 : decode (mB 91) 29 = .ok (.aload_n 0, 1) := by decide +kernel
theorem q91_30 : gfB 91 30 10 7 0 = true := by decide +kernel
theorem q91_33 : decode (mB 91) 33 = .ok (.iload_n 1, 1) := by decide +kernel
theorem q91_34 : decode (mB 91) 34 = .ok (.iload_n 2, 1) := by decide +kernel
theorem q91_35 : cfB 91 35 148 67 1 4 2 = true := by decide +kernel
theorem q91_38 : decode (mB 91) 38 = .ok (.aload_n 0, 1) := by decide +kernel
theorem q91_39 : gfB 91 39 37 7 3 = true := by decide +kernel
theorem q91_42 : cfB 91 42 92 47 1 4 0 = true := by decide +kernel
theorem q91_45 : decode (mB 91) 45 = .ok (.aload_n 0, 1) := by decide +kernel
theorem q91_46 : gfB 91 46 10 7 0 = true := by decide +kernel
theorem q91_49 : decode (mB 91) 49 = .ok (.iload_n 1, 1) := by decide +kernel
theorem q91_50 : cfB 91 50 143 56 1 4 1 = true := by decide +kernel
theorem q91_53 : decode (mB 91) 53 = .ok (.ireturn, 1) := by decide +kernel
theorem q92_0 : decode (mB 92) 0 = .ok (.iload_n 1, 1) := by decide +kernel
theorem q92_1 : cfB 92 1 122 124 0 4 1 = true := by decide +kernel
theorem q92_4 : decode (mB 92) 4 = .ok (.aload_n 0, 1) := by decide +kernel
theorem q92_5 : gfB 92 5 10 7 0 = true := by decide +kernel
theorem q92_8 : decode (mB 92) 8 = .ok (.iload_n 1, 1) := by decide +kernel
theorem q92_9 : cfB 92 9 152 57 1 4 1 = true := by decide +kernel
theorem q92_12 : decode (mB 92) 12 = .ok (.iconst (-1), 1) := by decide +kernel
theorem q92_13 : decode (mB 92) 13 = .ok (.if_icmp .ne 13, 3) := by decide +kernel
theorem q92_16 : thI 92 16 1 9 := th_of (ik := 83) (is := 155) (w := false) (by decide +kernel)
theorem q92_26 : decode (mB 92) 26 = .ok (.aload_n 0, 1) := by decide +kernel
theorem q92_27 : gfB 92 27 10 7 0 = true := by decide +kernel
theorem q92_30 : decode (mB 92) 30 = .ok (.iload_n 1, 1) := by decide +kernel
theorem q92_31 : decode (mB 92) 31 = .ok (.iconst (-1), 1) := by decide +kernel
theorem q92_32 : cfB 92 32 148 67 1 4 2 = true := by decide +kernel
theorem q92_35 : decode (mB 92) 35 = .ok (.aload_n 0, 1) := by decide +kernel
theorem q92_36 : gfB 92 36 37 7 3 = true := by decide +kernel
theorem q92_39 : cfB 92 39 92 47 1 4 0 = true := by decide +kernel
theorem q92_42 : decode (mB 92) 42 = .ok (.aload_n 0, 1) := by decide +kernel
theorem q92_43 : gfB 92 43 10 7 0 = true := by decide +kernel
theorem q92_46 : decode (mB 92) 46 = .ok (.iload_n 1, 1) := by decide +kernel
theorem q92_47 : cfB 92 47 143 56 1 4 1 = true := by decide +kernel
theorem q92_50 : decode (mB 92) 50 = .ok (.ireturn, 1) := by decide +kernel
theorem q93_0 : decode (mB 93) 0 = .ok (.iload_n 1, 1) := by decide +kernel
theorem q93_1 : cfB 93 1 122 124 0 4 1 = true := by decide +kernel
theorem q93_4 : decode (mB 93) 4 = .ok (.aload_n 0, 1) := by decide +kernel
theorem q93_5 : gfB 93 5 37 7 3 = true := by decide +kernel
theorem q93_8 : cfB 93 8 92 47 1 4 0 = true := by decide +kernel
theorem q93_11 : decode (mB 93) 11 = .ok (.aload_n 0, 1) := by decide +kernel
theorem q93_12 : gfB 93 12 21 7 1 = true := by decide +kernel
theorem q93_15 : decode (mB 93) 15 = .ok (.iload_n 1, 1) := by decide +kernel
theorem q93_16 : decode (mB 93) 16 = .ok (.iload_n 2, 1) := by decide +kernel
theorem q93_17 : cfB 93 17 157 26 1 4 2 = true := by decide +kernel
theorem q93_20 : decode (mB 93) 20 = .ok (.ireturn, 1) := by decide +kernel
theorem q94_0 : decode (mB 94) 0 = .ok (.iload_n 1, 1) := by decide +kernel
theorem q94_1 : cfB 94 1 161 123 0 4 1 = true := by decide +kernel
theorem q94_4 : decode (mB 94) 4 = .ok (.ifCond .ne 19, 3) := by decide +kernel
theorem q94_7 : decode (mB 94) 7 = .ok (.iload_n 1, 1) := by decide +kernel
theorem q94_8 : decode (mB 94) 8 = .ok (.bipush 45, 2) := by decide +kernel
theorem q94_10 : decode (mB 94) 10 = .ok (.if_icmp .eq 13, 3) := by decide +kernel
theorem q94_13 : thI 94 13 0 10 := th_of (ik := 72) (is := 165) (w := false) (by decide +kernel)
theorem q94_23 : decode (mB 94) 23 = .ok (.aload_n 0, 1) := by decide +kernel
theorem q94_24 : gfB 94 24 37 7 3 = true := by decide +kernel
theorem q94_27 : cfB 94 27 92 47 1 4 0 = true := by decide +kernel
theorem q94_30 : decode (mB 94) 30 = .ok (.aload_n 0, 1) := by decide +kernel
theorem q94_31 : gfB 94 31 21 7 1 = true := by decide +kernel
theorem q94_34 : decode (mB 94) 34 = .ok (.iload_n 1, 1) := by decide +kernel
theorem q94_35 : cfB 94 35 167 27 1 4 1 = true := by decide +kernel
theorem q94_38 : decode (mB 94) 38 = .ok (.ireturn, 1) := by decide +kernel
theorem q95_0 : decode (mB 95) 0 = .ok (.iload_n 1, 1) := by decide +kernel
theorem q95_1 : decode (mB 95) 1 = .ok (.iload_n 2, 1) := by decide +kernel
theorem q95_2 : cfB 95 2 171 126 0 4 2 = true := by decide +kernel
theorem q95_5 : decode (mB 95) 5 = .ok (.aload_n 0, 1) := by decide +kernel
theorem q95_6 : gfB 95 6 21 7 1 = true := by decide +kernel
theorem q95_9 : decode (mB 95) 9 = .ok (.iload_n 1, 1) := by decide +kernel
theorem q95_10 : decode (mB 95) 10 = .ok (.iload_n 2, 1) := by decide +kernel
theorem q95_11 : cfB 95 11 174 28 1 4 2 = true := by decide +kernel
theorem q95_14 : decode (mB 95) 14 = .ok (.ifCond .eq 13, 3) := by decide +kernel
theorem q95_17 : thI 95 17 1 12 := th_of (ik := 83) (is := 178) (w := false) (by decide +kernel)
theorem q95_27 : decode (mB 95) 27 = .ok (.aload_n 0, 1) := by decide +kernel
theorem q95_28 : gfB 95 28 37 7 3 = true := by decide +kernel
theorem q95_31 : cfB 95 31 92 47 1 4 0 = true := by decide +kernel
theorem q95_34 : decode (mB 95) 34 = .ok (.aload_n 0, 1) := by decide +kernel
theorem q95_35 : gfB 95 35 21 7 1 = true := by decide +kernel
theorem q95_38 : decode (mB 95) 38 = .ok (.iload_n 1, 1) := by decide +kernel
theorem q95_39 : decode (mB 95) 39 = .ok (.iload_n 2, 1) := by decide +kernel
theorem q95_40 : cfB 95 40 180 29 1 4 2 = true := by decide +kernel
theorem q95_43 : decode (mB 95) 43 = .ok (.ireturn, 1) := by decide +kernel
theorem q96_0 : decode (mB 96) 0 = .ok (.iload_n 1, 1) := by decide +kernel
theorem q96_1 : decode (mB 96) 1 = .ok (.iload_n 2, 1) := by decide +kernel
theorem q96_2 : cfB 96 2 171 126 0 4 2 = true := by decide +kernel
theorem q96_5 : decode (mB 96) 5 = .ok (.aload_n 0, 1) := by decide +kernel
theorem q96_6 : gfB 96 6 21 7 1 = true := by decide +kernel
theorem q96_9 : decode (mB 96) 9 = .ok (.iload_n 1, 1) := by decide +kernel
theorem q96_10 : decode (mB 96) 10 = .ok (.iload_n 2, 1) := by decide +kernel
theorem q96_11 : cfB 96 11 174 28 1 4 2 = true := by decide +kernel
theorem q96_14 : decode (mB 96) 14 = .ok (.ifCond .ne 13, 3) := by decide +kernel
theorem q96_17 : thI 96 17 1 13 := th_of (ik := 83) (is := 183) (w := false) (by decide +kernel)
theorem q96_27 : decode (mB 96) 27 = .ok (.aload_n 0, 1) := by decide +kernel
theorem q96_28 : gfB 96 28 37 7 3 = true := by decide +kernel
theorem q96_31 : cfB 96 31 92 47 1 4 0 = true := by decide +kernel
theorem q96_34 : decode (mB 96) 34 = .ok (.aload_n 0, 1) := by decide +kernel
theorem q96_35 : gfB 96 35 21 7 1 = true := by decide +kernel
theorem q96_38 : decode (mB 96) 38 = .ok (.iload_n 1, 1) := by decide +kernel
theorem q96_39 : decode (mB 96) 39 = .ok (.iload_n 2, 1) := by decide +kernel
theorem q96_40 : cfB 96 40 180 29 1 4 2 = true := by decide +kernel
theorem q96_43 : decode (mB 96) 43 = .ok (.ireturn, 1) := by decide +kernel
theorem q97_0 : decode (mB 97) 0 = .ok (.aload_n 0, 1) := by decide +kernel
theorem q97_1 : gfB 97 1 28 7 2 = true := by decide +kernel
theorem q97_4 : decode (mB 97) 4 = .ok (.iload_n 1, 1) := by decide +kernel
theorem q97_5 : cfB 97 5 185 19 1 4 1 = true := by decide +kernel
theorem q97_8 : decode (mB 97) 8 = .ok (.ifCond .ne 13, 3) := by decide +kernel
theorem q97_11 : thI 97 11 2 14 := th_of (ik := 98) (is := 188) (w := false) (by decide +kernel)
theorem q97_21 : decode (mB 97) 21 = .ok (.iload_n 2, 1) := by decide +kernel
theorem q97_22 : decode (mB 97) 22 = .ok (.ifCond .lt 9, 3) := by decide +kernel
theorem q97_25 : decode (mB 97) 25 = .ok (.iload_n 2, 1) := by decide +kernel
theorem q97_26 : decode (mB 97) 26 = .ok (.bipush 99, 2) := by decide +kernel
theorem q97_28 : decode (mB 97) 28 = .ok (.if_icmp .le 13, 3) := by decide +kernel
theorem q97_31 : thI 97 31 0 15 := th_of (ik := 72) (is := 190) (w := false) (by decide +kernel)
theorem q97_41 : decode (mB 97) 41 = .ok (.aload_n 0, 1) := by decide +kernel
theorem q97_42 : gfB 97 42 37 7 3 = true := by decide +kernel
theorem q97_45 : cfB 97 45 92 47 1 4 0 = true := by decide +kernel
theorem q97_48 : decode (mB 97) 48 = .ok (.aload_n 0, 1) := by decide +kernel
theorem q97_49 : gfB 97 49 28 7 2 = true := by decide +kernel
theorem q97_52 : decode (mB 97) 52 = .ok (.iload_n 1, 1) := by decide +kernel
theorem q97_53 : decode (mB 97) 53 = .ok (.iload_n 2, 1) := by decide +kernel
theorem q97_54 : cfB 97 54 192 20 1 4 2 = true := by decide +kernel
theorem q97_57 : decode (mB 97) 57 = .ok (.ireturn, 1) := by decide +kernel
theorem q98_0 : decode (mB 98) 0 = .ok (.aload_n 0, 1) := by decide +kernel
theorem q98_1 : gfB 98 1 44 7 4 = true := by decide +kernel
theorem q98_4 : cfB 98 4 195 77 1 4 0 = true := by decide +kernel
theorem q98_7 : decode (mB 98) 7 = .ok (.aload_n 0, 1) := by decide +kernel
theorem q98_8 : gfB 98 8 44 7 4 = true := by decide +kernel
theorem q98_11 : cfB 98 11 198 75 1 4 0 = true := by decide +kernel
theorem q98_14 : decode (mB 98) 14 = .ok (.ireturn, 1) := by decide +kernel
theorem q99_0 : decode (mB 99) 0 = .ok (.aload_n 0, 1) := by decide +kernel
theorem q99_1 : gfB 99 1 37 7 3 = true := by decide +kernel
theorem q99_4 : cfB 99 4 201 48 1 4 0 = true := by decide +kernel
theorem q99_7 : decode (mB 99) 7 = .ok (.astore_n 2, 1) := by decide +kernel
theorem q99_8 : decode (mB 99) 8 = .ok (.aload_n 2, 1) := by decide +kernel
theorem q99_9 : decode (mB 99) 9 = .ok (.iload_n 1, 1) := by decide +kernel
theorem q99_10 : cfB 99 10 205 127 0 4 2 = true := by decide +kernel
theorem q99_13 : decode (mB 99) 13 = .ok (.aload_n 2, 1) := by decide +kernel
theorem q99_14 : decode (mB 99) 14 = .ok (.iload_n 1, 1) := by decide +kernel
theorem q99_15 : cfB 99 15 209 3 1 4 1 = true := by decide +kernel
theorem q99_18 : cfB 99 18 214 44 0 4 1 = true := by decide +kernel
theorem q99_21 : decode (mB 99) 21 = .ok (.ireturn, 1) := by decide +kernel
theorem q100_0 : decode (mB 100) 0 = .ok (.aload_n 0, 1) := by decide +kernel
theorem q100_1 : gfB 100 1 10 7 0 = true := by decide +kernel
theorem q100_4 : cfB 100 4 220 63 1 4 0 = true := by decide +kernel
theorem q100_7 : decode (mB 100) 7 = .ok (.iconst 3, 1) := by decide +kernel
theorem q100_8 : decode (mB 100) 8 = .ok (.if_icmp .le 13, 3) := by decide +kernel
theorem q100_11 : thI 100 11 5 17 := th_of (ik := 223) (is := 225) (w := false) (by decide +kernel)
theorem q100_21 : decode (mB 100) 21 = .ok (.aload_n 0, 1) := by decide +kernel
theorem q100_22 : gfB 100 22 44 7 4 = true := by decide +kernel
theorem q100_25 : cfB 100 25 195 77 1 4 0 = true := by decide +kernel
theorem q100_28 : decode (mB 100) 28 = .ok (.aload_n 0, 1) := by decide +kernel
theorem q100_29 : gfB 100 29 44 7 4 = true := by decide +kernel
theorem q100_32 : cfB 100 32 228 74 1 4 0 = true := by decide +kernel
theorem q100_35 : decode (mB 100) 35 = .ok (.astore_n 2, 1) := by decide +kernel
theorem q100_36 : decode (mB 100) 36 = .ok (.aload_n 2, 1) := by decide +kernel
theorem q100_37 : decode (mB 100) 37 = .ok (.iload_n 1, 1) := by decide +kernel
theorem q100_38 : cfB 100 38 205 127 0 4 2 = true := by decide +kernel
theorem q100_41 : decode (mB 100) 41 = .ok (.aload_n 2, 1) := by decide +kernel
theorem q100_42 : decode (mB 100) 42 = .ok (.iload_n 1, 1) := by decide +kernel
theorem q100_43 : cfB 100 43 209 3 1 4 1 = true := by decide +kernel
theorem q100_46 : cfB 100 46 214 44 0 4 1 = true := by decide +kernel
theorem q100_49 : decode (mB 100) 49 = .ok (.ireturn, 1) := by decide +kernel
theorem q101_0 : decode (mB 101) 0 = .ok (.aload_n 0, 1) := by decide +kernel
theorem q101_1 : gfB 101 1 37 7 3 = true := by decide +kernel
theorem q101_4 : cfB 101 4 201 48 1 4 0 = true := by decide +kernel
theorem q101_7 : decode (mB 101) 7 = .ok (.astore_n 2, 1) := by decide +kernel
theorem q101_8 : decode (mB 101) 8 = .ok (.aload_n 2, 1) := by decide +kernel
theorem q101_9 : decode (mB 101) 9 = .ok (.iload_n 1, 1) := by decide +kernel
theorem q101_10 : cfB 101 10 205 127 0 4 2 = true := by decide +kernel
theorem q101_13 : decode (mB 101) 13 = .ok (.aload_n 2, 1) := by decide +kernel
theorem q101_14 : decode (mB 101) 14 = .ok (.iload_n 1, 1) := by decide +kernel
theorem q101_15 : cfB 101 15 229 4 1 4 1 = true := by decide +kernel
theorem q101_18 : cfB 101 18 232 9 0 4 1 = true := by decide +kernel
theorem q101_21 : decode (mB 101) 21 = .ok (.ireturn, 1) := by decide +kernel
theorem q102_0 : decode (mB 102) 0 = .ok (.aload_n 0, 1) := by decide +kernel
theorem q102_1 : gfB 102 1 37 7 3 = true := by decide +kernel
theorem q102_4 : cfB 102 4 201 48 1 4 0 = true := by decide +kernel
theorem q102_7 : decode (mB 102) 7 = .ok (.astore_n 2, 1) := by decide +kernel
theorem q102_8 : decode (mB 102) 8 = .ok (.aload_n 2, 1) := by decide +kernel
theorem q102_9 : decode (mB 102) 9 = .ok (.iload_n 1, 1) := by decide +kernel
theorem q102_10 : cfB 102 10 205 127 0 4 2 = true := by decide +kernel
theorem q102_13 : decode (mB 102) 13 = .ok (.aload_n 2, 1) := by decide +kernel
theorem q102_14 : decode (mB 102) 14 = .ok (.iload_n 1, 1) := by decide +kernel
theorem q102_15 : cfB 102 15 229 4 1 4 1 = true := by decide +kernel
theorem q102_18 : cfB 102 18 236 10 0 4 1 = true := by decide +kernel
theorem q102_21 : decode (mB 102) 21 = .ok (.ireturn, 1) := by decide +kernel
theorem q103_0 : decode (mB 103) 0 = .ok (.aload_n 0, 1) := by decide +kernel
theorem q103_1 : gfB 103 1 37 7 3 = true := by decide +kernel
theorem q103_4 : cfB 103 4 201 48 1 4 0 = true := by decide +kernel
theorem q103_7 : decode (mB 103) 7 = .ok (.astore_n 3, 1) := by decide +kernel
theorem q103_8 : decode (mB 103) 8 = .ok (.aload_n 3, 1) := by decide +kernel
theorem q103_9 : decode (mB 103) 9 = .ok (.iload_n 1, 1) := by decide +kernel
theorem q103_10 : cfB 103 10 205 127 0 4 2 = true := by decide +kernel
theorem q103_13 : decode (mB 103) 13 = .ok (.iload_n 2, 1) := by decide +kernel
theorem q103_14 : cfB 103 14 239 125 0 4 1 = true := by decide +kernel
theorem q103_17 : decode (mB 103) 17 = .ok (.aload_n 3, 1) := by decide +kernel
theorem q103_18 : decode (mB 103) 18 = .ok (.iload_n 1, 1) := by decide +kernel
theorem q103_19 : cfB 103 19 229 4 1 4 1 = true := by decide +kernel
theorem q103_22 : decode (mB 103) 22 = .ok (.iload_n 2, 1) := by decide +kernel
theorem q103_23 : cfB 103 23 242 11 0 4 2 = true := by decide +kernel
theorem q103_26 : decode (mB 103) 26 = .ok (.ireturn, 1) := by decide +kernel
theorem q104_0 : decode (mB 104) 0 = .ok (.iload_n 1, 1) := by decide +kernel
theorem q104_1 : decode (mB 104) 1 = .ok (.ifCond .lt 9, 3) := by decide +kernel
theorem q104_4 : decode (mB 104) 4 = .ok (.iload_n 1, 1) := by decide +kernel
theorem q104_5 : decode (mB 104) 5 = .ok (.bipush 99, 2) := by decide +kernel
theorem q104_7 : decode (mB 104) 7 = .ok (.if_icmp .le 13, 3) := by decide +kernel
theorem q104_10 : thI 104 10 0 18 := th_of (ik := 72) (is := 245) (w := false) (by decide +kernel)
theorem q104_20 : decode (mB 104) 20 = .ok (.aload_n 0, 1) := by decide +kernel
theorem q104_21 : gfB 104 21 55 7 6 = true := by decide +kernel
theorem q104_24 : decode (mB 104) 24 = .ok (.istore_n 2, 1) := by decide +kernel
theorem q104_25 : decode (mB 104) 25 = .ok (.aload_n 0, 1) := by decide +kernel
theorem q104_26 : decode (mB 104) 26 = .ok (.iload_n 1, 1) := by decide +kernel
theorem q104_27 : pfB 104 27 55 7 6 = true := by decide +kernel
theorem q104_30 : decode (mB 104) 30 = .ok (.iload_n 2, 1) := by decide +kernel
theorem q104_31 : decode (mB 104) 31 = .ok (.ireturn, 1) := by decide +kernel
theorem q105_0 : decode (mB 105) 0 = .ok (.aload_n 0, 1) := by decide +kernel
theorem q105_1 : gfB 105 1 37 7 3 = true := by decide +kernel
theorem q105_4 : cfB 105 4 201 48 1 4 0 = true := by decide +kernel
theorem q105_7 : decode (mB 105) 7 = .ok (.astore_n 1, 1) := by decide +kernel
theorem q105_8 : decode (mB 105) 8 = .ok (.aload_n 1, 1) := by decide +kernel
theorem q105_9 : decode (mB 105) 9 = .ok (.iconst 0, 1) := by decide +kernel
theorem q105_10 : cfB 105 10 247 2 1 4 1 = true := by decide +kernel
theorem q105_13 : decode (mB 105) 13 = .ok (.ifCond .ne 13, 3) := by decide +kernel
theorem q105_16 : thI 105 16 4 19 := th_of (ik := 250) (is := 252) (w := false) (by decide +kernel)
theorem q105_26 : decode (mB 105) 26 = .ok (.aload_n 0, 1) := by decide +kernel
theorem q105_27 : gfB 105 27 51 7 5 = true := by decide +kernel
theorem q105_30 : cfB 105 30 255 36 1 4 0 = true := by decide +kernel
theorem q105_33 : decode (mB 105) 33 = .ok (.ifCond .eq 20, 3) := by decide +kernel
theorem q105_36 : decode (mB 105) 36 = .ok (.aload_n 0, 1) := by decide +kernel
theorem q105_37 : decode (mB 105) 37 = .ok (.aload_n 0, 1) := by decide +kernel
theorem q105_38 : gfB 105 38 51 7 5 = true := by decide +kernel
theorem q105_41 : cfB 105 41 259 37 1 4 0 = true := by decide +kernel
theorem q105_44 : decode (mB 105) 44 = .ok (.aload_n 1, 1) := by decide +kernel
theorem q105_45 : cfB 105 45 262 130 1 4 2 = true := by decide +kernel
theorem q105_48 : decode (mB 105) 48 = .ok (.ifCond .eq 5, 3) := by decide +kernel
theorem q105_51 : decode (mB 105) 51 = .ok (.iconst 0, 1) := by decide +kernel
theorem q105_52 : decode (mB 105) 52 = .ok (.ireturn, 1) := by decide +kernel
theorem q105_53 : decode (mB 105) 53 = .ok (.aload_n 0, 1) := by decide +kernel
theorem q105_54 : gfB 105 54 51 7 5 = true := by decide +kernel
theorem q105_57 : decode (mB 105) 57 = .ok (.aload_n 1, 1) := by decide +kernel
theorem q105_58 : decode (mB 105) 58 = .ok (.iconst 0, 1) := by decide +kernel
theorem q105_59 : cfB 105 59 229 4 1 4 1 = true := by decide +kernel
theorem q105_62 : cfB 105 62 266 39 1 4 1 = true := by decide +kernel
theorem q105_65 : decode (mB 105) 65 = .ok (.iconst 1, 1) := by decide +kernel
theorem q105_66 : decode (mB 105) 66 = .ok (.ireturn, 1) := by decide +kernel
theorem q106_0 : decode (mB 106) 0 = .ok (.aload_n 0, 1) := by decide +kernel
theorem q106_1 : cfB 106 1 269 128 1 4 0 = true := by decide +kernel
theorem q106_4 : decode (mB 106) 4 = .ok (.aload_n 0, 1) := by decide +kernel
theorem q106_5 : gfB 106 5 51 7 5 = true := by decide +kernel
theorem q106_8 : cfB 106 8 259 37 1 4 0 = true := by decide +kernel
theorem q106_11 : cfB 106 11 232 9 0 4 1 = true := by decide +kernel
theorem q106_14 : decode (mB 106) 14 = .ok (.ireturn, 1) := by decide +kernel
theorem q107_0 : decode (mB 107) 0 = .ok (.aload_n 0, 1) := by decide +kernel
theorem q107_1 : cfB 107 1 269 128 1 4 0 = true := by decide +kernel
theorem q107_4 : decode (mB 107) 4 = .ok (.aload_n 0, 1) := by decide +kernel
theorem q107_5 : gfB 107 5 51 7 5 = true := by decide +kernel
theorem q107_8 : cfB 107 8 259 37 1 4 0 = true := by decide +kernel
theorem q107_11 : cfB 107 11 236 10 0 4 1 = true := by decide +kernel
theorem q107_14 : decode (mB 107) 14 = .ok (.ireturn, 1) := by decide +kernel
theorem q108_0 : decode (mB 108) 0 = .ok (.iload_n 1, 1) := by decide +kernel
theorem q108_1 : cfB 108 1 239 125 0 4 1 = true := by decide +kernel
theorem q108_4 : decode (mB 108) 4 = .ok (.aload_n 0, 1) := by decide +kernel
theorem q108_5 : cfB 108 5 269 128 1 4 0 = true := by decide +kernel
theorem q108_8 : decode (mB 108) 8 = .ok (.aload_n 0, 1) := by decide +kernel
theorem q108_9 : gfB 108 9 51 7 5 = true := by decide +kernel
theorem q108_12 : cfB 108 12 259 37 1 4 0 = true := by decide +kernel
theorem q108_15 : decode (mB 108) 15 = .ok (.iload_n 1, 1) := by decide +kernel
theorem q108_16 : cfB 108 16 242 11 0 4 2 = true := by decide +kernel
theorem q108_19 : decode (mB 108) 19 = .ok (.ireturn, 1) := by decide +kernel
theorem q109_0 : decode (mB 109) 0 = .ok (.aload_n 0, 1) := by decide +kernel
theorem q109_1 : gfB 109 1 51 7 5 = true := by decide +kernel
theorem q109_4 : cfB 109 4 272 38 1 4 0 = true := by decide +kernel
theorem q109_7 : decode (mB 109) 7 = .ok (.ireturn, 1) := by decide +kernel
theorem q110_0 : decode (mB 110) 0 = .ok (.aload_n 0, 1) := by decide +kernel
theorem q110_1 : gfB 110 1 51 7 5 = true := by decide +kernel
theorem q110_4 : cfB 110 4 272 38 1 4 0 = true := by decide +kernel
theorem q110_7 : decode (mB 110) 7 = .ok (.ifCond .ne 14, 3) := by decide +kernel
theorem q110_10 : thI 110 10 1 21 := th_of (ik := 83) (is := 275) (w := true) (by decide +kernel)
theorem q110_21 : decode (mB 110) 21 = .ok (.aload_n 0, 1) := by decide +kernel
theorem q110_22 : gfB 110 22 51 7 5 = true := by decide +kernel
theorem q110_25 : cfB 110 25 277 40 1 4 0 = true := by decide +kernel
theorem q110_28 : decode (mB 110) 28 = .ok (.aload_n 0, 1) := by decide +kernel
theorem q110_29 : gfB 110 29 51 7 5 = true := by decide +kernel
theorem q110_32 : cfB 110 32 272 38 1 4 0 = true := by decide +kernel
theorem q110_35 : decode (mB 110) 35 = .ok (.ireturn, 1) := by decide +kernel
theorem q111_0 : decode (mB 111) 0 = .ok (.aload_n 0, 1) := by decide +kernel
theorem q111_1 : gfB 111 1 51 7 5 = true := by decide +kernel
theorem q111_4 : decode (mB 111) 4 = .ok (.aload_n 0, 1) := by decide +kernel
theorem q111_5 : gfB 111 5 21 7 1 = true := by decide +kernel
theorem q111_8 : cfB 111 8 280 41 1 4 1 = true := by decide +kernel
theorem q111_11 : decode (mB 111) 11 = .ok (.ireturn, 1) := by decide +kernel
theorem q112_0 : decode (mB 112) 0 = .ok (.iload_n 1, 1) := by decide +kernel
theorem q112_1 : cfB 112 1 161 123 0 4 1 = true := by decide +kernel
theorem q112_4 : decode (mB 112) 4 = .ok (.ifCond .ne 13, 3) := by decide +kernel
theorem q112_7 : thI 112 7 0 10 := th_of (ik := 72) (is := 165) (w := false) (by decide +kernel)
theorem q112_17 : decode (mB 112) 17 = .ok (.aload_n 0, 1) := by decide +kernel
theorem q112_18 : gfB 112 18 65 7 7 = true := by decide +kernel
theorem q112_21 : cfB 112 21 232 9 0 4 1 = true := by decide +kernel
theorem q112_24 : decode (mB 112) 24 = .ok (.istore_n 2, 1) := by decide +kernel
theorem q112_25 : decode (mB 112) 25 = .ok (.aload_n 0, 1) := by decide +kernel
theorem q112_26 : decode (mB 112) 26 = .ok (.aload_n 0, 1) := by decide +kernel
theorem q112_27 : gfB 112 27 65 7 7 = true := by decide +kernel
theorem q112_30 : decode (mB 112) 30 = .ok (.iload_n 1, 1) := by decide +kernel
theorem q112_31 : cfB 112 31 284 12 0 4 2 = true := by decide +kernel
theorem q112_34 : pfB 112 34 65 7 7 = true := by decide +kernel
theorem q112_37 : decode (mB 112) 37 = .ok (.iload_n 2, 1) := by decide +kernel
theorem q112_38 : decode (mB 112) 38 = .ok (.ireturn, 1) := by decide +kernel
theorem q113_0 : decode (mB 113) 0 = .ok (.iload_n 1, 1) := by decide +kernel
theorem q113_1 : decode (mB 113) 1 = .ok (.ifCond .eq 24, 3) := by decide +kernel
theorem q113_4 : decode (mB 113) 4 = .ok (.iload_n 1, 1) := by decide +kernel
theorem q113_5 : decode (mB 113) 5 = .ok (.iconst 1, 1) := by decide +kernel
theorem q113_6 : decode (mB 113) 6 = .ok (.if_icmp .eq 19, 3) := by decide +kernel
theorem q113_9 : decode (mB 113) 9 = .ok (.iload_n 1, 1) := by decide +kernel
theorem q113_10 : decode (mB 113) 10 = .ok (.iconst 2, 1) := by decide +kernel
theorem q113_11 : decode (mB 113) 11 = .ok (.if_icmp .eq 14, 3) := by decide +kernel
theorem q113_14 : thI 113 14 0 22 := th_of (ik := 72) (is := 288) (w := true) (by decide +kernel)
theorem q113_25 : decode (mB 113) 25 = .ok (.aload_n 0, 1) := by decide +kernel
theorem q113_26 : gfB 113 26 65 7 7 = true := by decide +kernel
theorem q113_29 : cfB 113 29 236 10 0 4 1 = true := by decide +kernel
theorem q113_32 : decode (mB 113) 32 = .ok (.istore_n 2, 1) := by decide +kernel
theorem q113_33 : decode (mB 113) 33 = .ok (.aload_n 0, 1) := by decide +kernel
theorem q113_34 : decode (mB 113) 34 = .ok (.aload_n 0, 1) := by decide +kernel
theorem q113_35 : gfB 113 35 65 7 7 = true := by decide +kernel
theorem q113_38 : decode (mB 113) 38 = .ok (.iload_n 1, 1) := by decide +kernel
theorem q113_39 : cfB 113 39 290 13 0 4 2 = true := by decide +kernel
theorem q113_42 : pfB 113 42 65 7 7 = true := by decide +kernel
theorem q113_45 : decode (mB 113) 45 = .ok (.iload_n 2, 1) := by decide +kernel
theorem q113_46 : decode (mB 113) 46 = .ok (.ireturn, 1) := by decide +kernel
theorem q114_0 : decode (mB 114) 0 = .ok (.iload_n 1, 1) := by decide +kernel
theorem q114_1 : cfB 114 1 239 125 0 4 1 = true := by decide +kernel
theorem q114_4 : decode (mB 114) 4 = .ok (.iload_n 2, 1) := by decide +kernel
theorem q114_5 : decode (mB 114) 5 = .ok (.iconst (-1), 1) := by decide +kernel
theorem q114_6 : decode (mB 114) 6 = .ok (.if_icmp .eq 7, 3) := by decide +kernel
theorem q114_9 : decode (mB 114) 9 = .ok (.iload_n 2, 1) := by decide +kernel
theorem q114_10 : cfB 114 10 122 124 0 4 1 = true := by decide +kernel
theorem q114_13 : decode (mB 114) 13 = .ok (.aload_n 0, 1) := by decide +kernel
theorem q114_14 : gfB 114 14 65 7 7 = true := by decide +kernel
theorem q114_17 : decode (mB 114) 17 = .ok (.iload_n 1, 1) := by decide +kernel
theorem q114_18 : cfB 114 18 242 11 0 4 2 = true := by decide +kernel
theorem q114_21 : decode (mB 114) 21 = .ok (.istore_n 3, 1) := by decide +kernel
theorem q114_22 : decode (mB 114) 22 = .ok (.iload_n 2, 1) := by decide +kernel
theorem q114_23 : decode (mB 114) 23 = .ok (.iload_n 3, 1) := by decide +kernel
theorem q114_24 : decode (mB 114) 24 = .ok (.if_icmp .eq 25, 3) := by decide +kernel
theorem q114_27 : decode (mB 114) 27 = .ok (.aload_n 0, 1) := by decide +kernel
theorem q114_28 : gfB 114 28 65 7 7 = true := by decide +kernel
theorem q114_31 : decode (mB 114) 31 = .ok (.iload_n 2, 1) := by decide +kernel
theorem q114_32 : cfB 114 32 293 16 0 4 2 = true := by decide +kernel
theorem q114_35 : decode (mB 114) 35 = .ok (.ifCond .eq 14, 3) := by decide +kernel
theorem q114_38 : thI 114 38 1 23 := th_of (ik := 83) (is := 296) (w := true) (by decide +kernel)
theorem q114_49 : decode (mB 114) 49 = .ok (.aload_n 0, 1) := by decide +kernel
theorem q114_50 : decode (mB 114) 50 = .ok (.aload_n 0, 1) := by decide +kernel
theorem q114_51 : gfB 114 51 65 7 7 = true := by decide +kernel
theorem q114_54 : decode (mB 114) 54 = .ok (.iload_n 1, 1) := by decide +kernel
theorem q114_55 : decode (mB 114) 55 = .ok (.iload_n 2, 1) := by decide +kernel
theorem q114_56 : cfB 114 56 298 14 0 4 3 = true := by decide +kernel
theorem q114_59 : pfB 114 59 65 7 7 = true := by decide +kernel
theorem q114_62 : decode (mB 114) 62 = .ok (.iload_n 3, 1) := by decide +kernel
theorem q114_63 : decode (mB 114) 63 = .ok (.ireturn, 1) := by decide +kernel
theorem q115_0 : decode (mB 115) 0 = .ok (.aload_n 0, 1) := by decide +kernel
theorem q115_1 : gfB 115 1 21 7 1 = true := by decide +kernel
theorem q115_4 : decode (mB 115) 4 = .ok (.aload_n 0, 1) := by decide +kernel
theorem q115_5 : gfB 115 5 65 7 7 = true := by decide +kernel
theorem q115_8 : cfB 115 8 302 31 1 4 1 = true := by decide +kernel
theorem q115_11 : decode (mB 115) 11 = .ok (.ireturn, 1) := by decide +kernel
theorem q116_0 : decode (mB 116) 0 = .ok (.aload_n 0, 1) := by decide +kernel
theorem q116_1 : gfB 116 1 28 7 2 = true := by decide +kernel
theorem q116_4 : decode (mB 116) 4 = .ok (.aload_n 0, 1) := by decide +kernel
theorem q116_5 : gfB 116 5 65 7 7 = true := by decide +kernel
theorem q116_8 : cfB 116 8 305 22 1 4 1 = true := by decide +kernel
theorem q116_11 : decode (mB 116) 11 = .ok (.ireturn, 1) := by decide +kernel
theorem q117_0 : decode (mB 117) 0 = .ok (.aload_n 0, 1) := by decide +kernel
theorem q117_1 : cfB 117 1 308 129 1 4 0 = true := by decide +kernel
theorem q117_4 : decode (mB 117) 4 = .ok (.aload_n 0, 1) := by decide +kernel
theorem q117_5 : gfB 117 5 28 7 2 = true := by decide +kernel
theorem q117_8 : decode (mB 117) 8 = .ok (.aload_n 0, 1) := by decide +kernel
theorem q117_9 : gfB 117 9 65 7 7 = true := by decide +kernel
theorem q117_12 : cfB 117 12 311 21 1 4 1 = true := by decide +kernel
theorem q117_15 : decode (mB 117) 15 = .ok (.ireturn, 1) := by decide +kernel
theorem q118_0 : decode (mB 118) 0 = .ok (.aload_n 0, 1) := by decide +kernel
theorem q118_1 : cfB 118 1 308 129 1 4 0 = true := by decide +kernel
theorem q118_4 : decode (mB 118) 4 = .ok (.aload_n 0, 1) := by decide +kernel
theorem q118_5 : gfB 118 5 44 7 4 = true := by decide +kernel
theorem q118_8 : decode (mB 118) 8 = .ok (.aload_n 0, 1) := by decide +kernel
theorem q118_9 : gfB 118 9 65 7 7 = true := by decide +kernel
theorem q118_12 : cfB 118 12 313 76 1 4 1 = true := by decide +kernel
theorem q118_15 : decode (mB 118) 15 = .ok (.ireturn, 1) := by decide +kernel
theorem q119_0 : decode (mB 119) 0 = .ok (.aload_n 0, 1) := by decide +kernel
theorem q119_1 : gfB 119 1 37 7 3 = true := by decide +kernel
theorem q119_4 : cfB 119 4 201 48 1 4 0 = true := by decide +kernel
theorem q119_7 : decode (mB 119) 7 = .ok (.astore_n 1, 1) := by decide +kernel
theorem q119_8 : decode (mB 119) 8 = .ok (.aload_n 0, 1) := by decide +kernel
theorem q119_9 : gfB 119 9 44 7 4 = true := by decide +kernel
theorem q119_12 : cfB 119 12 195 77 1 4 0 = true := by decide +kernel
theorem q119_15 : decode (mB 119) 15 = .ok (.aload_n 0, 1) := by decide +kernel
theorem q119_16 : decode (mB 119) 16 = .ok (.aload_n 1, 1) := by decide +kernel
theorem q119_17 : cfB 119 17 316 131 1 4 1 = true := by decide +kernel
theorem q119_20 : decode (mB 119) 20 = .ok (.ifCond .eq 30, 3) := by decide +kernel
theorem q119_23 : decode (mB 119) 23 = .ok (.aload_n 0, 1) := by decide +kernel
theorem q119_24 : decode (mB 119) 24 = .ok (.aload_n 1, 1) := by decide +kernel
theorem q119_25 : cfB 119 25 320 132 1 4 1 = true := by decide +kernel
theorem q119_28 : decode (mB 119) 28 = .ok (.ifCond .eq 22, 3) := by decide +kernel
theorem q119_31 : decode (mB 119) 31 = .ok (.aload_n 0, 1) := by decide +kernel
theorem q119_32 : decode (mB 119) 32 = .ok (.aload_n 1, 1) := by decide +kernel
theorem q119_33 : decode (mB 119) 33 = .ok (.aload_n 0, 1) := by decide +kernel
theorem q119_34 : gfB 119 34 44 7 4 = true := by decide +kernel
theorem q119_37 : cfB 119 37 228 74 1 4 0 = true := by decide +kernel
theorem q119_40 : cfB 119 40 323 133 1 4 2 = true := by decide +kernel
theorem q119_43 : decode (mB 119) 43 = .ok (.ifCond .eq 7, 3) := by decide +kernel
theorem q119_46 : decode (mB 119) 46 = .ok (.iconst 1, 1) := by decide +kernel
theorem q119_47 : decode (mB 119) 47 = .ok (.goto 4, 3) := by decide +kernel
theorem q119_50 : decode (mB 119) 50 = .ok (.iconst 0, 1) := by decide +kernel
theorem q119_51 : decode (mB 119) 51 = .ok (.ireturn, 1) := by decide +kernel
theorem q120_0 : decode (mB 120) 0 = .ok (.iload_n 0, 1) := by decide +kernel
theorem q120_1 : decode (mB 120) 1 = .ok (.sipush (-10000), 3) := by decide +kernel
theorem q120_4 : decode (mB 120) 4 = .ok (.if_icmp .eq 17, 3) := by decide +kernel
theorem q120_7 : decode (mB 120) 7 = .ok (.iload_n 0, 1) := by decide +kernel
theorem q120_8 : decode (mB 120) 8 = .ok (.sipush (-9999), 3) := by decide +kernel
theorem q120_11 : decode (mB 120) 11 = .ok (.if_icmp .lt 14, 3) := by decide +kernel
theorem q120_14 : decode (mB 120) 14 = .ok (.iload_n 0, 1) := by decide +kernel
theorem q120_15 : decode (mB 120) 15 = .ok (.sipush 9999, 3) := by decide +kernel
theorem q120_18 : decode (mB 120) 18 = .ok (.if_icmp .gt 7, 3) := by decide +kernel
theorem q120_21 : decode (mB 120) 21 = .ok (.iconst 1, 1) := by decide +kernel
theorem q120_22 : decode (mB 120) 22 = .ok (.goto 4, 3) := by decide +kernel
theorem q120_25 : decode (mB 120) 25 = .ok (.iconst 0, 1) := by decide +kernel
theorem q120_26 : decode (mB 120) 26 = .ok (.ireturn, 1) := by decide +kernel
theorem q121_0 : decode (mB 121) 0 = .ok (.iload_n 0, 1) := by decide +kernel
theorem q121_1 : decode (mB 121) 1 = .ok (.ifCond .lt 13, 3) := by decide +kernel
theorem q121_4 : decode (mB 121) 4 = .ok (.iload_n 0, 1) := by decide +kernel
theorem q121_5 : decode (mB 121) 5 = .ok (.bipush 6, 2) := by decide +kernel
theorem q121_7 : decode (mB 121) 7 = .ok (.if_icmp .ge 7, 3) := by decide +kernel
theorem q121_10 : decode (mB 121) 10 = .ok (.iconst 1, 1) := by decide +kernel
theorem q121_11 : decode (mB 121) 11 = .ok (.goto 4, 3) := by decide +kernel
theorem q121_14 : decode (mB 121) 14 = .ok (.iconst 0, 1) := by decide +kernel
theorem q121_15 : decode (mB 121) 15 = .ok (.ireturn, 1) := by decide +kernel
theorem q122_0 : decode (mB 122) 0 = .ok (.iload_n 0, 1) := by decide +kernel
theorem q122_1 : decode (mB 122) 1 = .ok (.ifCond .lt 12, 3) := by decide +kernel
theorem q122_4 : decode (mB 122) 4 = .ok (.iload_n 0, 1) := by decide +kernel
theorem q122_5 : decode (mB 122) 5 = .ok (.iconst 4, 1) := by decide +kernel
theorem q122_6 : decode (mB 122) 6 = .ok (.if_icmp .ge 7, 3) := by decide +kernel
theorem q122_9 : decode (mB 122) 9 = .ok (.iconst 1, 1) := by decide +kernel
theorem q122_10 : decode (mB 122) 10 = .ok (.goto 4, 3) := by decide +kernel
theorem q122_13 : decode (mB 122) 13 = .ok (.iconst 0, 1) := by decide +kernel
theorem q122_14 : decode (mB 122) 14 = .ok (.ireturn, 1) := by decide +kernel
theorem q123_0 : decode (mB 123) 0 = .ok (.iload_n 0, 1) := by decide +kernel
theorem q123_1 : decode (mB 123) 1 = .ok (.bipush 98, 2) := by decide +kernel
theorem q123_3 : decode (mB 123) 3 = .ok (.if_icmp .eq 15, 3) := by decide +kernel
theorem q123_6 : decode (mB 123) 6 = .ok (.iload_n 0, 1) := by decide +kernel
theorem q123_7 : decode (mB 123) 7 = .ok (.bipush 108, 2) := by decide +kernel
theorem q123_9 : decode (mB 123) 9 = .ok (.if_icmp .eq 9, 3) := by decide +kernel
theorem q123_12 : decode (mB 123) 12 = .ok (.iload_n 0, 1) := by decide +kernel
theorem q123_13 : decode (mB 123) 13 = .ok (.bipush 112, 2) := by decide +kernel
theorem q123_15 : decode (mB 123) 15 = .ok (.if_icmp .ne 7, 3) := by decide +kernel
theorem q123_18 : decode (mB 123) 18 = .ok (.iconst 1, 1) := by decide +kernel
theorem q123_19 : decode (mB 123) 19 = .ok (.goto 4, 3) := by decide +kernel
theorem q123_22 : decode (mB 123) 22 = .ok (.iconst 0, 1) := by decide +kernel
theorem q123_23 : decode (mB 123) 23 = .ok (.ireturn, 1) := by decide +kernel
theorem q124_0 : decode (mB 124) 0 = .ok (.iload_n 0, 1) := by decide +kernel
theorem q124_1 : cfB 124 1 107 121 0 4 1 = true := by decide +kernel
theorem q124_4 : decode (mB 124) 4 = .ok (.ifCond .ne 14, 3) := by decide +kernel
theorem q124_7 : thI 124 7 2 5 := th_of (ik := 98) (is := 327) (w := true) (by decide +kernel)
theorem q124_18 : decode (mB 124) 18 = .ok (.return_, 1) := by decide +kernel
theorem q125_0 : decode (mB 125) 0 = .ok (.iload_n 0, 1) := by decide +kernel
theorem q125_1 : cfB 125 1 329 122 0 4 1 = true := by decide +kernel
theorem q125_4 : decode (mB 125) 4 = .ok (.ifCond .ne 14, 3) := by decide +kernel
theorem q125_7 : thI 125 7 2 11 := th_of (ik := 98) (is := 332) (w := true) (by decide +kernel)
theorem q125_18 : decode (mB 125) 18 = .ok (.return_, 1) := by decide +kernel
theorem q126_0 : decode (mB 126) 0 = .ok (.iload_n 0, 1) := by decide +kernel
theorem q126_1 : cfB 126 1 122 124 0 4 1 = true := by decide +kernel
theorem q126_4 : decode (mB 126) 4 = .ok (.iload_n 1, 1) := by decide +kernel
theorem q126_5 : cfB 126 5 239 125 0 4 1 = true := by decide +kernel
theorem q126_8 : decode (mB 126) 8 = .ok (.return_, 1) := by decide +kernel
theorem q127_0 : decode (mB 127) 0 = .ok (.aload_n 0, 1) := by decide +kernel
theorem q127_1 : decode (mB 127) 1 = .ok (.iload_n 1, 1) := by decide +kernel
theorem q127_2 : cfB 127 2 247 2 1 4 1 = true := by decide +kernel
theorem q127_5 : decode (mB 127) 5 = .ok (.ifCond .ne 14, 3) := by decide +kernel
theorem q127_8 : thI 127 8 4 16 := th_of (ik := 250) (is := 334) (w := true) (by decide +kernel)
theorem q127_19 : decode (mB 127) 19 = .ok (.return_, 1) := by decide +kernel
theorem q128_0 : decode (mB 128) 0 = .ok (.aload_n 0, 1) := by decide +kernel
theorem q128_1 : gfB 128 1 51 7 5 = true := by decide +kernel
theorem q128_4 : cfB 128 4 255 36 1 4 0 = true := by decide +kernel
theorem q128_7 : decode (mB 128) 7 = .ok (.ifCond .ne 14, 3) := by decide +kernel
theorem q128_10 : thI 128 10 1 20 := th_of (ik := 83) (is := 336) (w := true) (by decide +kernel)
theorem q128_21 : decode (mB 128) 21 = .ok (.return_, 1) := by decide +kernel
theorem q129_0 : decode (mB 129) 0 = .ok (.aload_n 0, 1) := by decide +kernel
theorem q129_1 : gfB 129 1 21 7 1 = true := by decide +kernel
theorem q129_4 : decode (mB 129) 4 = .ok (.aload_n 0, 1) := by decide +kernel
theorem q129_5 : gfB 129 5 65 7 7 = true := by decide +kernel
theorem q129_8 : cfB 129 8 338 30 1 4 1 = true := by decide +kernel
theorem q129_11 : decode (mB 129) 11 = .ok (.ifCond .ne 14, 3) := by decide +kernel
theorem q129_14 : thI 129 14 1 24 := th_of (ik := 83) (is := 341) (w := true) (by decide +kernel)
theorem q129_25 : decode (mB 129) 25 = .ok (.return_, 1) := by decide +kernel
theorem q130_0 : decode (mB 130) 0 = .ok (.aload_n 0, 1) := by decide +kernel
theorem q130_1 : gfB 130 1 21 7 1 = true := by decide +kernel
theorem q130_4 : decode (mB 130) 4 = .ok (.iload_n 1, 1) := by decide +kernel
theorem q130_5 : cfB 130 5 338 30 1 4 1 = true := by decide +kernel
theorem q130_8 : decode (mB 130) 8 = .ok (.ifCond .eq 31, 3) := by decide +kernel
theorem q130_11 : decode (mB 130) 11 = .ok (.aload_n 0, 1) := by decide +kernel
theorem q130_12 : gfB 130 12 28 7 2 = true := by decide +kernel
theorem q130_15 : decode (mB 130) 15 = .ok (.iload_n 1, 1) := by decide +kernel
theorem q130_16 : cfB 130 16 311 21 1 4 1 = true := by decide +kernel
theorem q130_19 : decode (mB 130) 19 = .ok (.aload_n 2, 1) := by decide +kernel
theorem q130_20 : decode (mB 130) 20 = .ok (.iconst 0, 1) := by decide +kernel
theorem q130_21 : cfB 130 21 209 3 1 4 1 = true := by decide +kernel
theorem q130_24 : cfB 130 24 214 44 0 4 1 = true := by decide +kernel
theorem q130_27 : decode (mB 130) 27 = .ok (.aload_n 0, 1) := by decide +kernel
theorem q130_28 : gfB 130 28 55 7 6 = true := by decide +kernel
theorem q130_31 : decode (mB 130) 31 = .ok (.iadd, 1) := by decide +kernel
theorem q130_32 : decode (mB 130) 32 = .ok (.if_icmp .gt 7, 3) := by decide +kernel
theorem q130_35 : decode (mB 130) 35 = .ok (.iconst 1, 1) := by decide +kernel
theorem q130_36 : decode (mB 130) 36 = .ok (.goto 4, 3) := by decide +kernel
theorem q130_39 : decode (mB 130) 39 = .ok (.iconst 0, 1) := by decide +kernel
theorem q130_40 : decode (mB 130) 40 = .ok (.ireturn, 1) := by decide +kernel
theorem q131_0 : decode (mB 131) 0 = .ok (.iconst 0, 1) := by decide +kernel
theorem q131_1 : decode (mB 131) 1 = .ok (.istore_n 2, 1) := by decide +kernel
theorem q131_2 : decode (mB 131) 2 = .ok (.iload_n 2, 1) := by decide +kernel
theorem q131_3 : decode (mB 131) 3 = .ok (.aload_n 1, 1) := by decide +kernel
theorem q131_4 : cfB 131 4 343 1 1 4 0 = true := by decide +kernel
theorem q131_7 : decode (mB 131) 7 = .ok (.if_icmp .ge 26, 3) := by decide +kernel
theorem q131_10 : decode (mB 131) 10 = .ok (.aload_n 0, 1) := by decide +kernel
theorem q131_11 : gfB 131 11 21 7 1 = true := by decide +kernel
theorem q131_14 : decode (mB 131) 14 = .ok (.aload_n 1, 1) := by decide +kernel
theorem q131_15 : decode (mB 131) 15 = .ok (.iload_n 2, 1) := by decide +kernel
theorem q131_16 : cfB 131 16 229 4 1 4 1 = true := by decide +kernel
theorem q131_19 : cfB 131 19 338 30 1 4 1 = true := by decide +kernel
theorem q131_22 : decode (mB 131) 22 = .ok (.ifCond .ne 5, 3) := by decide +kernel
theorem q131_25 : decode (mB 131) 25 = .ok (.iconst 0, 1) := by decide +kernel
theorem q131_26 : decode (mB 131) 26 = .ok (.ireturn, 1) := by decide +kernel
theorem q131_27 : decode (mB 131) 27 = .ok (.iinc 2 1, 3) := by decide +kernel
theorem q131_30 : decode (mB 131) 30 = .ok (.goto (-28), 3) := by decide +kernel
theorem q131_33 : decode (mB 131) 33 = .ok (.iconst 1, 1) := by decide +kernel
theorem q131_34 : decode (mB 131) 34 = .ok (.ireturn, 1) := by decide +kernel
theorem q132_0 : decode (mB 132) 0 = .ok (.iconst 1, 1) := by decide +kernel
theorem q132_1 : decode (mB 132) 1 = .ok (.istore_n 2, 1) := by decide +kernel
theorem q132_2 : decode (mB 132) 2 = .ok (.iload_n 2, 1) := by decide +kernel
theorem q132_3 : decode (mB 132) 3 = .ok (.aload_n 1, 1) := by decide +kernel
theorem q132_4 : cfB 132 4 343 1 1 4 0 = true := by decide +kernel
theorem q132_7 : decode (mB 132) 7 = .ok (.if_icmp .ge 56, 3) := by decide +kernel
theorem q132_10 : decode (mB 132) 10 = .ok (.aload_n 1, 1) := by decide +kernel
theorem q132_11 : decode (mB 132) 11 = .ok (.iload_n 2, 1) := by decide +kernel
theorem q132_12 : cfB 132 12 229 4 1 4 1 = true := by decide +kernel
theorem q132_15 : decode (mB 132) 15 = .ok (.istore_n 3, 1) := by decide +kernel
theorem q132_16 : decode (mB 132) 16 = .ok (.aload_n 1, 1) := by decide +kernel
theorem q132_17 : decode (mB 132) 17 = .ok (.iload_n 2, 1) := by decide +kernel
theorem q132_18 : decode (mB 132) 18 = .ok (.iconst 1, 1) := by decide +kernel
theorem q132_19 : decode (mB 132) 19 = .ok (.isub, 1) := by decide +kernel
theorem q132_20 : cfB 132 20 229 4 1 4 1 = true := by decide +kernel
theorem q132_23 : decode (mB 132) 23 = .ok (.istore 4, 2) := by decide +kernel
theorem q132_25 : decode (mB 132) 25 = .ok (.aload_n 0, 1) := by decide +kernel
theorem q132_26 : gfB 132 26 28 7 2 = true := by decide +kernel
theorem q132_29 : decode (mB 132) 29 = .ok (.iload_n 3, 1) := by decide +kernel
theorem q132_30 : cfB 132 30 311 21 1 4 1 = true := by decide +kernel
theorem q132_33 : decode (mB 132) 33 = .ok (.iload_n 3, 1) := by decide +kernel
theorem q132_34 : cfB 132 34 346 43 0 4 2 = true := by decide +kernel
theorem q132_37 : decode (mB 132) 37 = .ok (.aload_n 0, 1) := by decide +kernel
theorem q132_38 : gfB 132 38 28 7 2 = true := by decide +kernel
theorem q132_41 : decode (mB 132) 41 = .ok (.iload 4, 2) := by decide +kernel
theorem q132_43 : cfB 132 43 311 21 1 4 1 = true := by decide +kernel
theorem q132_46 : decode (mB 132) 46 = .ok (.iload 4, 2) := by decide +kernel
theorem q132_48 : cfB 132 48 346 43 0 4 2 = true := by decide +kernel
theorem q132_51 : decode (mB 132) 51 = .ok (.lcmp, 1) := by decide +kernel
theorem q132_52 : decode (mB 132) 52 = .ok (.ifCond .ge 5, 3) := by decide +kernel
theorem q132_55 : decode (mB 132) 55 = .ok (.iconst 0, 1) := by decide +kernel
theorem q132_56 : decode (mB 132) 56 = .ok (.ireturn, 1) := by decide +kernel
theorem q132_57 : decode (mB 132) 57 = .ok (.iinc 2 1, 3) := by decide +kernel
theorem q132_60 : decode (mB 132) 60 = .ok (.goto (-58), 3) := by decide +kernel
theorem q132_63 : decode (mB 132) 63 = .ok (.iconst 1, 1) := by decide +kernel
theorem q132_64 : decode (mB 132) 64 = .ok (.ireturn, 1) := by decide +kernel
theorem q133_0 : decode (mB 133) 0 = .ok (.aload_n 1, 1) := by decide +kernel
theorem q133_1 : decode (mB 133) 1 = .ok (.iconst 0, 1) := by decide +kernel
theorem q133_2 : cfB 133 2 247 2 1 4 1 = true := by decide +kernel
theorem q133_5 : decode (mB 133) 5 = .ok (.ifCond .ne 17, 3) := by decide +kernel
theorem q133_8 : decode (mB 133) 8 = .ok (.aload_n 2, 1) := by decide +kernel
theorem q133_9 : decode (mB 133) 9 = .ok (.iconst 0, 1) := by decide +kernel
theorem q133_10 : cfB 133 10 247 2 1 4 1 = true := by decide +kernel
theorem q133_13 : decode (mB 133) 13 = .ok (.ifCond .ne 7, 3) := by decide +kernel
theorem q133_16 : decode (mB 133) 16 = .ok (.iconst 1, 1) := by decide +kernel
theorem q133_17 : decode (mB 133) 17 = .ok (.goto 4, 3) := by decide +kernel
theorem q133_20 : decode (mB 133) 20 = .ok (.iconst 0, 1) := by decide +kernel
theorem q133_21 : decode (mB 133) 21 = .ok (.ireturn, 1) := by decide +kernel
theorem q133_22 : decode (mB 133) 22 = .ok (.aload_n 2, 1) := by decide +kernel
theorem q133_23 : decode (mB 133) 23 = .ok (.iconst 0, 1) := by decide +kernel
theorem q133_24 : cfB 133 24 247 2 1 4 1 = true := by decide +kernel
theorem q133_27 : decode (mB 133) 27 = .ok (.ifCond .eq 30, 3) := by decide +kernel
theorem q133_30 : decode (mB 133) 30 = .ok (.aload_n 0, 1) := by decide +kernel
theorem q133_31 : gfB 133 31 28 7 2 = true := by decide +kernel
theorem q133_34 : decode (mB 133) 34 = .ok (.aload_n 1, 1) := by decide +kernel
theorem q133_35 : decode (mB 133) 35 = .ok (.iconst 0, 1) := by decide +kernel
theorem q133_36 : cfB 133 36 229 4 1 4 1 = true := by decide +kernel
theorem q133_39 : cfB 133 39 311 21 1 4 1 = true := by decide +kernel
theorem q133_42 : decode (mB 133) 42 = .ok (.aload_n 2, 1) := by decide +kernel
theorem q133_43 : decode (mB 133) 43 = .ok (.iconst 0, 1) := by decide +kernel
theorem q133_44 : cfB 133 44 209 3 1 4 1 = true := by decide +kernel
theorem q133_47 : cfB 133 47 214 44 0 4 1 = true := by decide +kernel
theorem q133_50 : decode (mB 133) 50 = .ok (.if_icmp .ne 7, 3) := by decide +kernel
theorem q133_53 : decode (mB 133) 53 = .ok (.iconst 1, 1) := by decide +kernel
theorem q133_54 : decode (mB 133) 54 = .ok (.goto 4, 3) := by decide +kernel
theorem q133_57 : decode (mB 133) 57 = .ok (.iconst 0, 1) := by decide +kernel
theorem q133_58 : decode (mB 133) 58 = .ok (.ireturn, 1) := by decide +kernel
end
section
/-! what each instruction is, method by method (by program) -/

theorem q134_0 : decode (mB 134) 0 = .ok (.aload_n 0, 1) := by decide +kernel
theorem q134_1 : (decide (134 < 235) && decide (decode (mB 134) 1 = .ok (.invokespecial 1, 3)) && (lks (mD 134)).contains (1, 2, 0, 0) && decide (1 ≤ mV 134)) = true := by decide +kernel
theorem q134_4 : decode (mB 134) 4 = .ok (.aload_n 0, 1) := by decide +kernel
theorem q134_5 : decode (mB 134) 5 = .ok (.sipush 240, 3) := by decide +kernel
theorem q134_8 : naB 134 8 0 = true := by decide +kernel
theorem q134_10 : pfB 134 10 7 8 0 = true := by decide +kernel
theorem q134_13 : decode (mB 134) 13 = .ok (.aload_n 0, 1) := by decide +kernel
theorem q134_14 : decode (mB 134) 14 = .ok (.bipush 6, 2) := by decide +kernel
theorem q134_16 : naB 134 16 0 = true := by decide +kernel
theorem q134_18 : pfB 134 18 13 8 1 = true := by decide +kernel
theorem q134_21 : decode (mB 134) 21 = .ok (.aload_n 0, 1) := by decide +kernel
theorem q134_22 : decode (mB 134) 22 = .ok (.bipush 8, 2) := by decide +kernel
theorem q134_24 : naB 134 24 0 = true := by decide +kernel
theorem q134_26 : decode (mB 134) 26 = .ok (.dup, 1) := by decide +kernel
theorem q134_27 : decode (mB 134) 27 = .ok (.iconst 0, 1) := by decide +kernel
theorem q134_28 : decode (mB 134) 28 = .ok (.iconst 3, 1) := by decide +kernel
theorem q134_29 : decode (mB 134) 29 = .ok (.iastore, 1) := by decide +kernel
theorem q134_30 : decode (mB 134) 30 = .ok (.dup, 1) := by decide +kernel
theorem q134_31 : decode (mB 134) 31 = .ok (.iconst 1, 1) := by decide +kernel
theorem q134_32 : decode (mB 134) 32 = .ok (.iconst 4, 1) := by decide +kernel
theorem q134_33 : decode (mB 134) 33 = .ok (.iastore, 1) := by decide +kernel
theorem q134_34 : decode (mB 134) 34 = .ok (.dup, 1) := by decide +kernel
theorem q134_35 : decode (mB 134) 35 = .ok (.iconst 2, 1) := by decide +kernel
theorem q134_36 : decode (mB 134) 36 = .ok (.iconst 2, 1) := by decide +kernel
theorem q134_37 : decode (mB 134) 37 = .ok (.iastore, 1) := by decide +kernel
theorem q134_38 : decode (mB 134) 38 = .ok (.dup, 1) := by decide +kernel
theorem q134_39 : decode (mB 134) 39 = .ok (.iconst 3, 1) := by decide +kernel
theorem q134_40 : decode (mB 134) 40 = .ok (.iconst 5, 1) := by decide +kernel
theorem q134_41 : decode (mB 134) 41 = .ok (.iastore, 1) := by decide +kernel
theorem q134_42 : decode (mB 134) 42 = .ok (.dup, 1) := by decide +kernel
theorem q134_43 : decode (mB 134) 43 = .ok (.iconst 4, 1) := by decide +kernel
theorem q134_44 : decode (mB 134) 44 = .ok (.iconst 3, 1) := by decide +kernel
theorem q134_45 : decode (mB 134) 45 = .ok (.iastore, 1) := by decide +kernel
theorem q134_46 : decode (mB 134) 46 = .ok (.dup, 1) := by decide +kernel
theorem q134_47 : decode (mB 134) 47 = .ok (.iconst 5, 1) := by decide +kernel
theorem q134_48 : decode (mB 134) 48 = .ok (.iconst 2, 1) := by decide +kernel
theorem q134_49 : decode (mB 134) 49 = .ok (.iastore, 1) := by decide +kernel
theorem q134_50 : decode (mB 134) 50 = .ok (.dup, 1) := by decide +kernel
theorem q134_51 : decode (mB 134) 51 = .ok (.bipush 6, 2) := by decide +kernel
theorem q134_53 : decode (mB 134) 53 = .ok (.bipush 6, 2) := by decide +kernel
theorem q134_55 : decode (mB 134) 55 = .ok (.iastore, 1) := by decide +kernel
theorem q134_56 : decode (mB 134) 56 = .ok (.dup, 1) := by decide +kernel
theorem q134_57 : decode (mB 134) 57 = .ok (.bipush 7, 2) := by decide +kernel
theorem q134_59 : decode (mB 134) 59 = .ok (.iconst 1, 1) := by decide +kernel
theorem q134_60 : decode (mB 134) 60 = .ok (.iastore, 1) := by decide +kernel
theorem q134_61 : pfB 134 61 16 8 2 = true := by decide +kernel
theorem q134_64 : decode (mB 134) 64 = .ok (.aload_n 0, 1) := by decide +kernel
theorem q134_65 : decode (mB 134) 65 = .ok (.bipush 6, 2) := by decide +kernel
theorem q134_67 : naB 134 67 0 = true := by decide +kernel
theorem q134_69 : pfB 134 69 19 8 3 = true := by decide +kernel
theorem q134_72 : decode (mB 134) 72 = .ok (.aload_n 0, 1) := by decide +kernel
theorem q134_73 : decode (mB 134) 73 = .ok (.bipush 6, 2) := by decide +kernel
theorem q134_75 : naB 134 75 0 = true := by decide +kernel
theorem q134_77 : pfB 134 77 22 8 4 = true := by decide +kernel
theorem q134_80 : decode (mB 134) 80 = .ok (.aload_n 0, 1) := by decide +kernel
theorem q134_81 : decode (mB 134) 81 = .ok (.bipush 6, 2) := by decide +kernel
theorem q134_83 : naB 134 83 3 = true := by decide +kernel
theorem q134_85 : pfB 134 85 25 8 5 = true := by decide +kernel
theorem q134_88 : decode (mB 134) 88 = .ok (.aload_n 0, 1) := by decide +kernel
theorem q134_89 : decode (mB 134) 89 = .ok (.bipush 24, 2) := by decide +kernel
theorem q134_91 : naB 134 91 3 = true := by decide +kernel
theorem q134_93 : pfB 134 93 29 8 6 = true := by decide +kernel
theorem q134_96 : decode (mB 134) 96 = .ok (.aload_n 0, 1) := by decide +kernel
theorem q134_97 : decode (mB 134) 97 = .ok (.bipush 6, 2) := by decide +kernel
theorem q134_99 : naB 134 99 0 = true := by decide +kernel
theorem q134_101 : pfB 134 101 32 8 7 = true := by decide +kernel
theorem q134_104 : decode (mB 134) 104 = .ok (.aload_n 0, 1) := by decide +kernel
theorem q134_105 : decode (mB 134) 105 = .ok (.bipush 6, 2) := by decide +kernel
theorem q134_107 : naB 134 107 0 = true := by decide +kernel
theorem q134_109 : pfB 134 109 35 8 8 = true := by decide +kernel
theorem q134_112 : decode (mB 134) 112 = .ok (.aload_n 0, 1) := by decide +kernel
theorem q134_113 : decode (mB 134) 113 = .ok (.bipush 6, 2) := by decide +kernel
theorem q134_115 : naB 134 115 0 = true := by decide +kernel
theorem q134_117 : pfB 134 117 38 8 9 = true := by decide +kernel
theorem q134_120 : decode (mB 134) 120 = .ok (.aload_n 0, 1) := by decide +kernel
theorem q134_121 : decode (mB 134) 121 = .ok (.bipush 30, 2) := by decide +kernel
theorem q134_123 : naB 134 123 0 = true := by decide +kernel
theorem q134_125 : pfB 134 125 41 8 10 = true := by decide +kernel
theorem q134_128 : decode (mB 134) 128 = .ok (.aload_n 0, 1) := by decide +kernel
theorem q134_129 : decode (mB 134) 129 = .ok (.iconst 5, 1) := by decide +kernel
theorem q134_130 : naB 134 130 0 = true := by decide +kernel
theorem q134_132 : pfB 134 132 44 8 11 = true := by decide +kernel
theorem q134_135 : decode (mB 134) 135 = .ok (.aload_n 0, 1) := by decide +kernel
theorem q134_136 : decode (mB 134) 136 = .ok (.bipush 24, 2) := by decide +kernel
theorem q134_138 : naB 134 138 0 = true := by decide +kernel
theorem q134_140 : pfB 134 140 47 8 12 = true := by decide +kernel
theorem q134_143 : decode (mB 134) 143 = .ok (.aload_n 0, 1) := by decide +kernel
theorem q134_144 : decode (mB 134) 144 = .ok (.iconst 3, 1) := by decide +kernel
theorem q134_145 : pfB 134 145 50 8 16 = true := by decide +kernel
theorem q134_148 : decode (mB 134) 148 = .ok (.aload_n 0, 1) := by decide +kernel
theorem q134_149 : decode (mB 134) 149 = .ok (.bipush 45, 2) := by decide +kernel
theorem q134_151 : pfB 134 151 54 8 20 = true := by decide +kernel
theorem q134_154 : decode (mB 134) 154 = .ok (.iconst 0, 1) := by decide +kernel
theorem q134_155 : decode (mB 134) 155 = .ok (.istore_n 1, 1) := by decide +kernel
theorem q134_156 : decode (mB 134) 156 = .ok (.iload_n 1, 1) := by decide +kernel
theorem q134_157 : decode (mB 134) 157 = .ok (.iconst 4, 1) := by decide +kernel
theorem q134_158 : decode (mB 134) 158 = .ok (.if_icmp .ge 18, 3) := by decide +kernel
theorem q134_161 : decode (mB 134) 161 = .ok (.aload_n 0, 1) := by decide +kernel
theorem q134_162 : gfB 134 162 35 8 8 = true := by decide +kernel
theorem q134_165 : decode (mB 134) 165 = .ok (.iconst 2, 1) := by decide +kernel
theorem q134_166 : decode (mB 134) 166 = .ok (.iload_n 1, 1) := by decide +kernel
theorem q134_167 : decode (mB 134) 167 = .ok (.iadd, 1) := by decide +kernel
theorem q134_168 : decode (mB 134) 168 = .ok (.iconst (-1), 1) := by decide +kernel
theorem q134_169 : decode (mB 134) 169 = .ok (.iastore, 1) := by decide +kernel
theorem q134_170 : decode (mB 134) 170 = .ok (.iinc 1 1, 3) := by decide +kernel
theorem q134_173 : decode (mB 134) 173 = .ok (.goto (-17), 3) := by decide +kernel
theorem q134_176 : decode (mB 134) 176 = .ok (.return_, 1) := by decide +kernel
theorem q135_0 : decode (mB 135) 0 = .ok (.aload_n 0, 1) := by decide +kernel
theorem q135_1 : gfB 135 1 58 8 19 = true := by decide +kernel
theorem q135_4 : decode (mB 135) 4 = .ok (.ireturn, 1) := by decide +kernel
theorem q136_0 : decode (mB 136) 0 = .ok (.iload_n 0, 1) := by decide +kernel
theorem q136_1 : decode (mB 136) 1 = .ok (.iload_n 1, 1) := by decide +kernel
theorem q136_2 : decode (mB 136) 2 = .ok (.if_icmp .lt 12, 3) := by decide +kernel
theorem q136_5 : decode (mB 136) 5 = .ok (.iload_n 0, 1) := by decide +kernel
theorem q136_6 : decode (mB 136) 6 = .ok (.iload_n 2, 1) := by decide +kernel
theorem q136_7 : decode (mB 136) 7 = .ok (.if_icmp .gt 7, 3) := by decide +kernel
theorem q136_10 : decode (mB 136) 10 = .ok (.iconst 1, 1) := by decide +kernel
theorem q136_11 : decode (mB 136) 11 = .ok (.goto 4, 3) := by decide +kernel
theorem q136_14 : decode (mB 136) 14 = .ok (.iconst 0, 1) := by decide +kernel
theorem q136_15 : decode (mB 136) 15 = .ok (.ireturn, 1) := by decide +kernel
theorem q137_0 : decode (mB 137) 0 = .ok (.aload_n 0, 1) := by decide +kernel
theorem q137_1 : decode (mB 137) 1 = .ok (.iload_n 1, 1) := by decide +kernel
theorem q137_2 : decode (mB 137) 2 = .ok (.ifCond .eq 7, 3) := by decide +kernel
theorem q137_5 : decode (mB 137) 5 = .ok (.iload_n 2, 1) := by decide +kernel
theorem q137_6 : decode (mB 137) 6 = .ok (.goto 4, 3) := by decide +kernel
theorem q137_9 : decode (mB 137) 9 = .ok (.iconst 0, 1) := by decide +kernel
theorem q137_10 : pfB 137 10 58 8 19 = true := by decide +kernel
theorem q137_13 : decode (mB 137) 13 = .ok (.iload_n 1, 1) := by decide +kernel
theorem q137_14 : decode (mB 137) 14 = .ok (.ireturn, 1) := by decide +kernel
theorem q138_0 : decode (mB 138) 0 = .ok (.aload_n 0, 1) := by decide +kernel
theorem q138_1 : decode (mB 138) 1 = .ok (.iload_n 1, 1) := by decide +kernel
theorem q138_2 : decode (mB 138) 2 = .ok (.iconst 0, 1) := by decide +kernel
theorem q138_3 : decode (mB 138) 3 = .ok (.iconst 5, 1) := by decide +kernel
theorem q138_4 : cfB 138 4 61 136 0 4 3 = true := by decide +kernel
theorem q138_7 : decode (mB 138) 7 = .ok (.ifCond .ne 7, 3) := by decide +kernel
theorem q138_10 : decode (mB 138) 10 = .ok (.iconst 1, 1) := by decide +kernel
theorem q138_11 : decode (mB 138) 11 = .ok (.goto 4, 3) := by decide +kernel
theorem q138_14 : decode (mB 138) 14 = .ok (.iconst 0, 1) := by decide +kernel
theorem q138_15 : decode (mB 138) 15 = .ok (.iconst 1, 1) := by decide +kernel
theorem q138_16 : cfB 138 16 65 137 1 4 2 = true := by decide +kernel
theorem q138_19 : decode (mB 138) 19 = .ok (.ireturn, 1) := by decide +kernel
theorem q139_0 : decode (mB 139) 0 = .ok (.iload_n 0, 1) := by decide +kernel
theorem q139_1 : decode (mB 139) 1 = .ok (.sipush (-9999), 3) := by decide +kernel
theorem q139_4 : decode (mB 139) 4 = .ok (.sipush 9999, 3) := by decide +kernel
theorem q139_7 : cfB 139 7 61 136 0 4 3 = true := by decide +kernel
theorem q139_10 : decode (mB 139) 10 = .ok (.ifCond .ne 10, 3) := by decide +kernel
theorem q139_13 : decode (mB 139) 13 = .ok (.iload_n 0, 1) := by decide +kernel
theorem q139_14 : decode (mB 139) 14 = .ok (.sipush (-10000), 3) := by decide +kernel
theorem q139_17 : decode (mB 139) 17 = .ok (.if_icmp .ne 7, 3) := by decide +kernel
theorem q139_20 : decode (mB 139) 20 = .ok (.iconst 1, 1) := by decide +kernel
theorem q139_21 : decode (mB 139) 21 = .ok (.goto 4, 3) := by decide +kernel
theorem q139_24 : decode (mB 139) 24 = .ok (.iconst 0, 1) := by decide +kernel
theorem q139_25 : decode (mB 139) 25 = .ok (.ireturn, 1) := by decide +kernel
theorem q140_0 : decode (mB 140) 0 = .ok (.aload_n 0, 1) := by decide +kernel
theorem q140_1 : decode (mB 140) 1 = .ok (.iload_n 1, 1) := by decide +kernel
theorem q140_2 : cfB 140 2 69 139 0 4 1 = true := by decide +kernel
theorem q140_5 : decode (mB 140) 5 = .ok (.ifCond .eq 41, 3) := by decide +kernel
theorem q140_8 : decode (mB 140) 8 = .ok (.iload_n 2, 1) := by decide +kernel
theorem q140_9 : cfB 140 9 69 139 0 4 1 = true := by decide +kernel
theorem q140_12 : decode (mB 140) 12 = .ok (.ifCond .eq 34, 3) := by decide +kernel
theorem q140_15 : decode (mB 140) 15 = .ok (.iload_n 3, 1) := by decide +kernel
theorem q140_16 : cfB 140 16 69 139 0 4 1 = true := by decide +kernel
theorem q140_19 : decode (mB 140) 19 = .ok (.ifCond .eq 27, 3) := by decide +kernel
theorem q140_22 : decode (mB 140) 22 = .ok (.iload 4, 2) := by decide +kernel
theorem q140_24 : cfB 140 24 69 139 0 4 1 = true := by decide +kernel
theorem q140_27 : decode (mB 140) 27 = .ok (.ifCond .eq 19, 3) := by decide +kernel
theorem q140_30 : decode (mB 140) 30 = .ok (.iload 5, 2) := by decide +kernel
theorem q140_32 : cfB 140 32 69 139 0 4 1 = true := by decide +kernel
theorem q140_35 : decode (mB 140) 35 = .ok (.ifCond .eq 11, 3) := by decide +kernel
theorem q140_38 : decode (mB 140) 38 = .ok (.iload 6, 2) := by decide +kernel
theorem q140_40 : cfB 140 40 69 139 0 4 1 = true := by decide +kernel
theorem q140_43 : decode (mB 140) 43 = .ok (.ifCond .ne 7, 3) := by decide +kernel
theorem q140_46 : decode (mB 140) 46 = .ok (.iconst 1, 1) := by decide +kernel
theorem q140_47 : decode (mB 140) 47 = .ok (.goto 4, 3) := by decide +kernel
theorem q140_50 : decode (mB 140) 50 = .ok (.iconst 0, 1) := by decide +kernel
theorem q140_51 : decode (mB 140) 51 = .ok (.iconst 1, 1) := by decide +kernel
theorem q140_52 : cfB 140 52 65 137 1 4 2 = true := by decide +kernel
theorem q140_55 : decode (mB 140) 55 = .ok (.ifCond .ne 25, 3) := by decide +kernel
theorem q140_58 : decode (mB 140) 58 = .ok (.aload_n 0, 1) := by decide +kernel
theorem q140_59 : decode (mB 140) 59 = .ok (.aload_n 0, 1) := by decide +kernel
theorem q140_60 : gfB 140 60 73 8 13 = true := by decide +kernel
theorem q140_63 : decode (mB 140) 63 = .ok (.bipush 40, 2) := by decide +kernel
theorem q140_65 : decode (mB 140) 65 = .ok (.if_icmp .ne 7, 3) := by decide +kernel
theorem q140_68 : decode (mB 140) 68 = .ok (.iconst 1, 1) := by decide +kernel
theorem q140_69 : decode (mB 140) 69 = .ok (.goto 4, 3) := by decide +kernel
theorem q140_72 : decode (mB 140) 72 = .ok (.iconst 0, 1) := by decide +kernel
theorem q140_73 : decode (mB 140) 73 = .ok (.iconst 2, 1) := by decide +kernel
theorem q140_74 : cfB 140 74 65 137 1 4 2 = true := by decide +kernel
theorem q140_77 : decode (mB 140) 77 = .ok (.ifCond .eq 5, 3) := by decide +kernel
theorem q140_80 : decode (mB 140) 80 = .ok (.iconst 0, 1) := by decide +kernel
theorem q140_81 : decode (mB 140) 81 = .ok (.ireturn, 1) := by decide +kernel
theorem q140_82 : decode (mB 140) 82 = .ok (.aload_n 0, 1) := by decide +kernel
theorem q140_83 : decode (mB 140) 83 = .ok (.iconst 0, 1) := by decide +kernel
theorem q140_84 : pfB 140 84 76 8 22 = true := by decide +kernel
theorem q140_87 : decode (mB 140) 87 = .ok (.bipush 6, 2) := by decide +kernel
theorem q140_89 : decode (mB 140) 89 = .ok (.aload_n 0, 1) := by decide +kernel
theorem q140_90 : gfB 140 90 73 8 13 = true := by decide +kernel
theorem q140_93 : decode (mB 140) 93 = .ok (.imul, 1) := by decide +kernel
theorem q140_94 : decode (mB 140) 94 = .ok (.istore 7, 2) := by decide +kernel
theorem q140_96 : decode (mB 140) 96 = .ok (.aload_n 0, 1) := by decide +kernel
theorem q140_97 : gfB 140 97 7 8 0 = true := by decide +kernel
theorem q140_100 : decode (mB 140) 100 = .ok (.iload 7, 2) := by decide +kernel
theorem q140_102 : decode (mB 140) 102 = .ok (.iload_n 1, 1) := by decide +kernel
theorem q140_103 : decode (mB 140) 103 = .ok (.iastore, 1) := by decide +kernel
theorem q140_104 : decode (mB 140) 104 = .ok (.aload_n 0, 1) := by decide +kernel
theorem q140_105 : gfB 140 105 7 8 0 = true := by decide +kernel
theorem q140_108 : decode (mB 140) 108 = .ok (.iload 7, 2) := by decide +kernel
theorem q140_110 : decode (mB 140) 110 = .ok (.iconst 1, 1) := by decide +kernel
theorem q140_111 : decode (mB 140) 111 = .ok (.iadd, 1) := by decide +kernel
theorem q140_112 : decode (mB 140) 112 = .ok (.iload_n 2, 1) := by decide +kernel
theorem q140_113 : decode (mB 140) 113 = .ok (.iastore, 1) := by decide +kernel
theorem q140_114 : decode (mB 140) 114 = .ok (.aload_n 0, 1) := by decide +kernel
theorem q140_115 : gfB 140 115 7 8 0 = true := by decide +kernel
theorem q140_118 : decode (mB 140) 118 = .ok (.iload 7, 2) := by decide +kernel
theorem q140_120 : decode (mB 140) 120 = .ok (.iconst 2, 1) := by decide +kernel
theorem q140_121 : decode (mB 140) 121 = .ok (.iadd, 1) := by decide +kernel
theorem q140_122 : decode (mB 140) 122 = .ok (.iload_n 3, 1) := by decide +kernel
theorem q140_123 : decode (mB 140) 123 = .ok (.iastore, 1) := by decide +kernel
theorem q140_124 : decode (mB 140) 124 = .ok (.aload_n 0, 1) := by decide +kernel
theorem q140_125 : gfB 140 125 7 8 0 = true := by decide +kernel
theorem q140_128 : decode (mB 140) 128 = .ok (.iload 7, 2) := by decide +kernel
theorem q140_130 : decode (mB 140) 130 = .ok (.iconst 3, 1) := by decide +kernel
theorem q140_131 : decode (mB 140) 131 = .ok (.iadd, 1) := by decide +kernel
theorem q140_132 : decode (mB 140) 132 = .ok (.iload 4, 2) := by decide +kernel
theorem q140_134 : decode (mB 140) 134 = .ok (.iastore, 1) := by decide +kernel
theorem q140_135 : decode (mB 140) 135 = .ok (.aload_n 0, 1) := by decide +kernel
theorem q140_136 : gfB 140 136 7 8 0 = true := by decide +kernel
theorem q140_139 : decode (mB 140) 139 = .ok (.iload 7, 2) := by decide +kernel
theorem q140_141 : decode (mB 140) 141 = .ok (.iconst 4, 1) := by decide +kernel
theorem q140_142 : decode (mB 140) 142 = .ok (.iadd, 1) := by decide +kernel
theorem q140_143 : decode (mB 140) 143 = .ok (.iload 5, 2) := by decide +kernel
theorem q140_145 : decode (mB 140) 145 = .ok (.iastore, 1) := by decide +kernel
theorem q140_146 : decode (mB 140) 146 = .ok (.aload_n 0, 1) := by decide +kernel
theorem q140_147 : gfB 140 147 7 8 0 = true := by decide +kernel
theorem q140_150 : decode (mB 140) 150 = .ok (.iload 7, 2) := by decide +kernel
theorem q140_152 : decode (mB 140) 152 = .ok (.iconst 5, 1) := by decide +kernel
theorem q140_153 : decode (mB 140) 153 = .ok (.iadd, 1) := by decide +kernel
theorem q140_154 : decode (mB 140) 154 = .ok (.iload 6, 2) := by decide +kernel
theorem q140_156 : decode (mB 140) 156 = .ok (.iastore, 1) := by decide +kernel
theorem q140_157 : decode (mB 140) 157 = .ok (.aload_n 0, 1) := by decide +kernel
theorem q140_158 : decode (mB 140) 158 = .ok (.dup, 1) := by decide +kernel
theorem q140_159 : gfB 140 159 73 8 13 = true := by decide +kernel
theorem q140_162 : decode (mB 140) 162 = .ok (.iconst 1, 1) := by decide +kernel
theorem q140_163 : decode (mB 140) 163 = .ok (.iadd, 1) := by decide +kernel
theorem q140_164 : pfB 140 164 73 8 13 = true := by decide +kernel
theorem q140_167 : decode (mB 140) 167 = .ok (.aload_n 0, 1) := by decide +kernel
theorem q140_168 : gfB 140 168 73 8 13 = true := by decide +kernel
theorem q140_171 : decode (mB 140) 171 = .ok (.ireturn, 1) := by decide +kernel
theorem q141_0 : decode (mB 141) 0 = .ok (.aload_n 0, 1) := by decide +kernel
theorem q141_1 : decode (mB 141) 1 = .ok (.iload_n 1, 1) := by decide +kernel
theorem q141_2 : decode (mB 141) 2 = .ok (.iconst 0, 1) := by decide +kernel
theorem q141_3 : decode (mB 141) 3 = .ok (.aload_n 0, 1) := by decide +kernel
theorem q141_4 : gfB 141 4 73 8 13 = true := by decide +kernel
theorem q141_7 : decode (mB 141) 7 = .ok (.iconst 1, 1) := by decide +kernel
theorem q141_8 : decode (mB 141) 8 = .ok (.isub, 1) := by decide +kernel
theorem q141_9 : cfB 141 9 61 136 0 4 3 = true := by decide +kernel
theorem q141_12 : decode (mB 141) 12 = .ok (.ifCond .ne 7, 3) := by decide +kernel
theorem q141_15 : decode (mB 141) 15 = .ok (.iconst 1, 1) := by decide +kernel
theorem q141_16 : decode (mB 141) 16 = .ok (.goto 4, 3) := by decide +kernel
theorem q141_19 : decode (mB 141) 19 = .ok (.iconst 0, 1) := by decide +kernel
theorem q141_20 : decode (mB 141) 20 = .ok (.iconst 1, 1) := by decide +kernel
theorem q141_21 : cfB 141 21 65 137 1 4 2 = true := by decide +kernel
theorem q141_24 : decode (mB 141) 24 = .ok (.ifCond .eq 5, 3) := by decide +kernel
theorem q141_27 : decode (mB 141) 27 = .ok (.iconst 0, 1) := by decide +kernel
theorem q141_28 : decode (mB 141) 28 = .ok (.ireturn, 1) := by decide +kernel
theorem q141_29 : decode (mB 141) 29 = .ok (.aload_n 0, 1) := by decide +kernel
theorem q141_30 : decode (mB 141) 30 = .ok (.iconst 0, 1) := by decide +kernel
theorem q141_31 : pfB 141 31 76 8 22 = true := by decide +kernel
theorem q141_34 : decode (mB 141) 34 = .ok (.aload_n 0, 1) := by decide +kernel
theorem q141_35 : decode (mB 141) 35 = .ok (.dup, 1) := by decide +kernel
theorem q141_36 : gfB 141 36 73 8 13 = true := by decide +kernel
theorem q141_39 : decode (mB 141) 39 = .ok (.iconst 1, 1) := by decide +kernel
theorem q141_40 : decode (mB 141) 40 = .ok (.isub, 1) := by decide +kernel
theorem q141_41 : pfB 141 41 73 8 13 = true := by decide +kernel
theorem q141_44 : decode (mB 141) 44 = .ok (.bipush 6, 2) := by decide +kernel
theorem q141_46 : decode (mB 141) 46 = .ok (.iload_n 1, 1) := by decide +kernel
theorem q141_47 : decode (mB 141) 47 = .ok (.imul, 1) := by decide +kernel
theorem q141_48 : decode (mB 141) 48 = .ok (.istore_n 2, 1) := by decide +kernel
theorem q141_49 : decode (mB 141) 49 = .ok (.iload_n 2, 1) := by decide +kernel
theorem q141_50 : decode (mB 141) 50 = .ok (.bipush 6, 2) := by decide +kernel
theorem q141_52 : decode (mB 141) 52 = .ok (.aload_n 0, 1) := by decide +kernel
theorem q141_53 : gfB 141 53 73 8 13 = true := by decide +kernel
theorem q141_56 : decode (mB 141) 56 = .ok (.imul, 1) := by decide +kernel
theorem q141_57 : decode (mB 141) 57 = .ok (.if_icmp .ge 24, 3) := by decide +kernel
theorem q141_60 : decode (mB 141) 60 = .ok (.aload_n 0, 1) := by decide +kernel
theorem q141_61 : gfB 141 61 7 8 0 = true := by decide +kernel
theorem q141_64 : decode (mB 141) 64 = .ok (.iload_n 2, 1) := by decide +kernel
theorem q141_65 : decode (mB 141) 65 = .ok (.aload_n 0, 1) := by decide +kernel
theorem q141_66 : gfB 141 66 7 8 0 = true := by decide +kernel
theorem q141_69 : decode (mB 141) 69 = .ok (.iload_n 2, 1) := by decide +kernel
theorem q141_70 : decode (mB 141) 70 = .ok (.bipush 6, 2) := by decide +kernel
theorem q141_72 : decode (mB 141) 72 = .ok (.iadd, 1) := by decide +kernel
theorem q141_73 : decode (mB 141) 73 = .ok (.iaload, 1) := by decide +kernel
theorem q141_74 : decode (mB 141) 74 = .ok (.iastore, 1) := by decide +kernel
theorem q141_75 : decode (mB 141) 75 = .ok (.iinc 2 1, 3) := by decide +kernel
theorem q141_78 : decode (mB 141) 78 = .ok (.goto (-29), 3) := by decide +kernel
theorem q141_81 : decode (mB 141) 81 = .ok (.aload_n 0, 1) := by decide +kernel
theorem q141_82 : gfB 141 82 73 8 13 = true := by decide +kernel
theorem q141_85 : decode (mB 141) 85 = .ok (.ireturn, 1) := by decide +kernel
theorem q142_0 : decode (mB 142) 0 = .ok (.aload_n 0, 1) := by decide +kernel
theorem q142_1 : decode (mB 142) 1 = .ok (.iload_n 1, 1) := by decide +kernel
theorem q142_2 : decode (mB 142) 2 = .ok (.iconst 0, 1) := by decide +kernel
theorem q142_3 : decode (mB 142) 3 = .ok (.aload_n 0, 1) := by decide +kernel
theorem q142_4 : gfB 142 4 73 8 13 = true := by decide +kernel
theorem q142_7 : decode (mB 142) 7 = .ok (.iconst 1, 1) := by decide +kernel
theorem q142_8 : decode (mB 142) 8 = .ok (.isub, 1) := by decide +kernel
theorem q142_9 : cfB 142 9 61 136 0 4 3 = true := by decide +kernel
theorem q142_12 : decode (mB 142) 12 = .ok (.ifCond .eq 12, 3) := by decide +kernel
theorem q142_15 : decode (mB 142) 15 = .ok (.iload_n 2, 1) := by decide +kernel
theorem q142_16 : decode (mB 142) 16 = .ok (.iconst 0, 1) := by decide +kernel
theorem q142_17 : decode (mB 142) 17 = .ok (.iconst 5, 1) := by decide +kernel
theorem q142_18 : cfB 142 18 61 136 0 4 3 = true := by decide +kernel
theorem q142_21 : decode (mB 142) 21 = .ok (.ifCond .ne 7, 3) := by decide +kernel
theorem q142_24 : decode (mB 142) 24 = .ok (.iconst 1, 1) := by decide +kernel
theorem q142_25 : decode (mB 142) 25 = .ok (.goto 4, 3) := by decide +kernel
theorem q142_28 : decode (mB 142) 28 = .ok (.iconst 0, 1) := by decide +kernel
theorem q142_29 : decode (mB 142) 29 = .ok (.iconst 1, 1) := by decide +kernel
theorem q142_30 : cfB 142 30 65 137 1 4 2 = true := by decide +kernel
theorem q142_33 : decode (mB 142) 33 = .ok (.ifCond .ne 23, 3) := by decide +kernel
theorem q142_36 : decode (mB 142) 36 = .ok (.aload_n 0, 1) := by decide +kernel
theorem q142_37 : decode (mB 142) 37 = .ok (.iload_n 3, 1) := by decide +kernel
theorem q142_38 : cfB 142 38 69 139 0 4 1 = true := by decide +kernel
theorem q142_41 : decode (mB 142) 41 = .ok (.ifCond .ne 7, 3) := by decide +kernel
theorem q142_44 : decode (mB 142) 44 = .ok (.iconst 1, 1) := by decide +kernel
theorem q142_45 : decode (mB 142) 45 = .ok (.goto 4, 3) := by decide +kernel
theorem q142_48 : decode (mB 142) 48 = .ok (.iconst 0, 1) := by decide +kernel
theorem q142_49 : decode (mB 142) 49 = .ok (.iconst 2, 1) := by decide +kernel
theorem q142_50 : cfB 142 50 65 137 1 4 2 = true := by decide +kernel
theorem q142_53 : decode (mB 142) 53 = .ok (.ifCond .eq 5, 3) := by decide +kernel
theorem q142_56 : decode (mB 142) 56 = .ok (.iconst 0, 1) := by decide +kernel
theorem q142_57 : decode (mB 142) 57 = .ok (.ireturn, 1) := by decide +kernel
theorem q142_58 : decode (mB 142) 58 = .ok (.aload_n 0, 1) := by decide +kernel
theorem q142_59 : gfB 142 59 7 8 0 = true := by decide +kernel
theorem q142_62 : decode (mB 142) 62 = .ok (.bipush 6, 2) := by decide +kernel
theorem q142_64 : decode (mB 142) 64 = .ok (.iload_n 1, 1) := by decide +kernel
theorem q142_65 : decode (mB 142) 65 = .ok (.imul, 1) := by decide +kernel
theorem q142_66 : decode (mB 142) 66 = .ok (.iload_n 2, 1) := by decide +kernel
theorem q142_67 : decode (mB 142) 67 = .ok (.iadd, 1) := by decide +kernel
theorem q142_68 : decode (mB 142) 68 = .ok (.iaload, 1) := by decide +kernel
theorem q142_69 : decode (mB 142) 69 = .ok (.istore 4, 2) := by decide +kernel
theorem q142_71 : decode (mB 142) 71 = .ok (.aload_n 0, 1) := by decide +kernel
theorem q142_72 : decode (mB 142) 72 = .ok (.iconst 0, 1) := by decide +kernel
theorem q142_73 : pfB 142 73 76 8 22 = true := by decide +kernel
theorem q142_76 : decode (mB 142) 76 = .ok (.aload_n 0, 1) := by decide +kernel
theorem q142_77 : gfB 142 77 7 8 0 = true := by decide +kernel
theorem q142_80 : decode (mB 142) 80 = .ok (.bipush 6, 2) := by decide +kernel
theorem q142_82 : decode (mB 142) 82 = .ok (.iload_n 1, 1) := by decide +kernel
theorem q142_83 : decode (mB 142) 83 = .ok (.imul, 1) := by decide +kernel
theorem q142_84 : decode (mB 142) 84 = .ok (.iload_n 2, 1) := by decide +kernel
theorem q142_85 : decode (mB 142) 85 = .ok (.iadd, 1) := by decide +kernel
theorem q142_86 : decode (mB 142) 86 = .ok (.iload_n 3, 1) := by decide +kernel
theorem q142_87 : decode (mB 142) 87 = .ok (.iastore, 1) := by decide +kernel
theorem q142_88 : decode (mB 142) 88 = .ok (.iload 4, 2) := by decide +kernel
theorem q142_90 : decode (mB 142) 90 = .ok (.ireturn, 1) := by decide +kernel
theorem q143_0 : decode (mB 143) 0 = .ok (.aload_n 0, 1) := by decide +kernel
theorem q143_1 : decode (mB 143) 1 = .ok (.iconst 0, 1) := by decide +kernel
theorem q143_2 : pfB 143 2 58 8 19 = true := by decide +kernel
theorem q143_5 : decode (mB 143) 5 = .ok (.aload_n 0, 1) := by decide +kernel
theorem q143_6 : gfB 143 6 73 8 13 = true := by decide +kernel
theorem q143_9 : decode (mB 143) 9 = .ok (.ireturn, 1) := by decide +kernel
theorem q144_0 : decode (mB 144) 0 = .ok (.aload_n 0, 1) := by decide +kernel
theorem q144_1 : gfB 144 1 7 8 0 = true := by decide +kernel
theorem q144_4 : decode (mB 144) 4 = .ok (.bipush 6, 2) := by decide +kernel
theorem q144_6 : decode (mB 144) 6 = .ok (.iload_n 1, 1) := by decide +kernel
theorem q144_7 : decode (mB 144) 7 = .ok (.imul, 1) := by decide +kernel
theorem q144_8 : decode (mB 144) 8 = .ok (.iload_n 2, 1) := by decide +kernel
theorem q144_9 : decode (mB 144) 9 = .ok (.iadd, 1) := by decide +kernel
theorem q144_10 : decode (mB 144) 10 = .ok (.iaload, 1) := by decide +kernel
theorem q144_11 : decode (mB 144) 11 = .ok (.ireturn, 1) := by decide +kernel
theorem q145_0 : decode (mB 145) 0 = .ok (.iconst 0, 1) := by decide +kernel
theorem q145_1 : decode (mB 145) 1 = .ok (.istore_n 2, 1) := by decide +kernel
theorem q145_2 : decode (mB 145) 2 = .ok (.iconst 0, 1) := by decide +kernel
theorem q145_3 : decode (mB 145) 3 = .ok (.istore_n 3, 1) := by decide +kernel
theorem q145_4 : decode (mB 145) 4 = .ok (.iload_n 3, 1) := by decide +kernel
theorem q145_5 : decode (mB 145) 5 = .ok (.aload_n 0, 1) := by decide +kernel
theorem q145_6 : gfB 145 6 73 8 13 = true := by decide +kernel
theorem q145_9 : decode (mB 145) 9 = .ok (.if_icmp .ge 29, 3) := by decide +kernel
theorem q145_12 : decode (mB 145) 12 = .ok (.iload_n 2, 1) := by decide +kernel
theorem q145_13 : decode (mB 145) 13 = .ok (.aload_n 0, 1) := by decide +kernel
theorem q145_14 : decode (mB 145) 14 = .ok (.iload_n 3, 1) := by decide +kernel
theorem q145_15 : decode (mB 145) 15 = .ok (.iload_n 1, 1) := by decide +kernel
theorem q145_16 : cfB 145 16 80 144 1 4 2 = true := by decide +kernel
theorem q145_19 : decode (mB 145) 19 = .ok (.sipush (-10000), 3) := by decide +kernel
theorem q145_22 : decode (mB 145) 22 = .ok (.if_icmp .ne 7, 3) := by decide +kernel
theorem q145_25 : decode (mB 145) 25 = .ok (.iconst 0, 1) := by decide +kernel
theorem q145_26 : decode (mB 145) 26 = .ok (.goto 4, 3) := by decide +kernel
theorem q145_29 : decode (mB 145) 29 = .ok (.iconst 1, 1) := by decide +kernel
theorem q145_30 : decode (mB 145) 30 = .ok (.iadd, 1) := by decide +kernel
theorem q145_31 : decode (mB 145) 31 = .ok (.istore_n 2, 1) := by decide +kernel
theorem q145_32 : decode (mB 145) 32 = .ok (.iinc 3 1, 3) := by decide +kernel
theorem q145_35 : decode (mB 145) 35 = .ok (.goto (-31), 3) := by decide +kernel
theorem q145_38 : decode (mB 145) 38 = .ok (.iload_n 2, 1) := by decide +kernel
theorem q145_39 : decode (mB 145) 39 = .ok (.ireturn, 1) := by decide +kernel
theorem q146_0 : decode (mB 146) 0 = .ok (.iconst 0, 1) := by decide +kernel
theorem q146_1 : decode (mB 146) 1 = .ok (.istore_n 2, 1) := by decide +kernel
theorem q146_2 : decode (mB 146) 2 = .ok (.iconst 0, 1) := by decide +kernel
theorem q146_3 : decode (mB 146) 3 = .ok (.istore_n 3, 1) := by decide +kernel
theorem q146_4 : decode (mB 146) 4 = .ok (.iload_n 3, 1) := by decide +kernel
theorem q146_5 : decode (mB 146) 5 = .ok (.aload_n 0, 1) := by decide +kernel
theorem q146_6 : gfB 146 6 73 8 13 = true := by decide +kernel
theorem q146_9 : decode (mB 146) 9 = .ok (.if_icmp .ge 82, 3) := by decide +kernel
theorem q146_12 : decode (mB 146) 12 = .ok (.aload_n 0, 1) := by decide +kernel
theorem q146_13 : decode (mB 146) 13 = .ok (.iload_n 3, 1) := by decide +kernel
theorem q146_14 : decode (mB 146) 14 = .ok (.iload_n 1, 1) := by decide +kernel
theorem q146_15 : cfB 146 15 80 144 1 4 2 = true := by decide +kernel
theorem q146_18 : decode (mB 146) 18 = .ok (.sipush (-10000), 3) := by decide +kernel
theorem q146_21 : decode (mB 146) 21 = .ok (.if_icmp .eq 7, 3) := by decide +kernel
theorem q146_24 : decode (mB 146) 24 = .ok (.iconst 1, 1) := by decide +kernel
theorem q146_25 : decode (mB 146) 25 = .ok (.goto 4, 3) := by decide +kernel
theorem q146_28 : decode (mB 146) 28 = .ok (.iconst 0, 1) := by decide +kernel
theorem q146_29 : decode (mB 146) 29 = .ok (.istore 4, 2) := by decide +kernel
theorem q146_31 : decode (mB 146) 31 = .ok (.iconst 0, 1) := by decide +kernel
theorem q146_32 : decode (mB 146) 32 = .ok (.istore 5, 2) := by decide +kernel
theorem q146_34 : decode (mB 146) 34 = .ok (.iload 5, 2) := by decide +kernel
theorem q146_36 : decode (mB 146) 36 = .ok (.iload_n 3, 1) := by decide +kernel
theorem q146_37 : decode (mB 146) 37 = .ok (.if_icmp .ge 35, 3) := by decide +kernel
theorem q146_40 : decode (mB 146) 40 = .ok (.iload 4, 2) := by decide +kernel
theorem q146_42 : decode (mB 146) 42 = .ok (.aload_n 0, 1) := by decide +kernel
theorem q146_43 : decode (mB 146) 43 = .ok (.iload 5, 2) := by decide +kernel
theorem q146_45 : decode (mB 146) 45 = .ok (.iload_n 1, 1) := by decide +kernel
theorem q146_46 : cfB 146 46 80 144 1 4 2 = true := by decide +kernel
theorem q146_49 : decode (mB 146) 49 = .ok (.aload_n 0, 1) := by decide +kernel
theorem q146_50 : decode (mB 146) 50 = .ok (.iload_n 3, 1) := by decide +kernel
theorem q146_51 : decode (mB 146) 51 = .ok (.iload_n 1, 1) := by decide +kernel
theorem q146_52 : cfB 146 52 80 144 1 4 2 = true := by decide +kernel
theorem q146_55 : decode (mB 146) 55 = .ok (.if_icmp .eq 7, 3) := by decide +kernel
theorem q146_58 : decode (mB 146) 58 = .ok (.iconst 1, 1) := by decide +kernel
theorem q146_59 : decode (mB 146) 59 = .ok (.goto 4, 3) := by decide +kernel
theorem q146_62 : decode (mB 146) 62 = .ok (.iconst 0, 1) := by decide +kernel
theorem q146_63 : decode (mB 146) 63 = .ok (.iand, 1) := by decide +kernel
theorem q146_64 : decode (mB 146) 64 = .ok (.istore 4, 2) := by decide +kernel
theorem q146_66 : decode (mB 146) 66 = .ok (.iinc 5 1, 3) := by decide +kernel
theorem q146_69 : decode (mB 146) 69 = .ok (.goto (-35), 3) := by decide +kernel
theorem q146_72 : decode (mB 146) 72 = .ok (.iload_n 2, 1) := by decide +kernel
theorem q146_73 : decode (mB 146) 73 = .ok (.iload 4, 2) := by decide +kernel
theorem q146_75 : decode (mB 146) 75 = .ok (.ifCond .eq 7, 3) := by decide +kernel
theorem q146_78 : decode (mB 146) 78 = .ok (.iconst 1, 1) := by decide +kernel
theorem q146_79 : decode (mB 146) 79 = .ok (.goto 4, 3) := by decide +kernel
theorem q146_82 : decode (mB 146) 82 = .ok (.iconst 0, 1) := by decide +kernel
theorem q146_83 : decode (mB 146) 83 = .ok (.iadd, 1) := by decide +kernel
theorem q146_84 : decode (mB 146) 84 = .ok (.istore_n 2, 1) := by decide +kernel
theorem q146_85 : decode (mB 146) 85 = .ok (.iinc 3 1, 3) := by decide +kernel
theorem q146_88 : decode (mB 146) 88 = .ok (.goto (-84), 3) := by decide +kernel
theorem q146_91 : decode (mB 146) 91 = .ok (.iload_n 2, 1) := by decide +kernel
theorem q146_92 : decode (mB 146) 92 = .ok (.ireturn, 1) := by decide +kernel
theorem q147_0 : decode (mB 147) 0 = .ok (.aload_n 0, 1) := by decide +kernel
theorem q147_1 : decode (mB 147) 1 = .ok (.iload_n 1, 1) := by decide +kernel
theorem q147_2 : cfB 147 2 84 138 1 4 1 = true := by decide +kernel
theorem q147_5 : decode (mB 147) 5 = .ok (.ifCond .eq 7, 3) := by decide +kernel
theorem q147_8 : decode (mB 147) 8 = .ok (.iconst 0, 1) := by decide +kernel
theorem q147_9 : decode (mB 147) 9 = .ok (.goto 8, 3) := by decide +kernel
theorem q147_12 : decode (mB 147) 12 = .ok (.aload_n 0, 1) := by decide +kernel
theorem q147_13 : decode (mB 147) 13 = .ok (.iload_n 1, 1) := by decide +kernel
theorem q147_14 : cfB 147 14 87 146 1 4 1 = true := by decide +kernel
theorem q147_17 : decode (mB 147) 17 = .ok (.ireturn, 1) := by decide +kernel
theorem q148_0 : decode (mB 148) 0 = .ok (.lconst 0, 1) := by decide +kernel
theorem q148_1 : decode (mB 148) 1 = .ok (.lstore_n 2, 1) := by decide +kernel
theorem q148_2 : decode (mB 148) 2 = .ok (.iconst 0, 1) := by decide +kernel
theorem q148_3 : decode (mB 148) 3 = .ok (.istore 4, 2) := by decide +kernel
theorem q148_5 : decode (mB 148) 5 = .ok (.iload 4, 2) := by decide +kernel
theorem q148_7 : decode (mB 148) 7 = .ok (.aload_n 0, 1) := by decide +kernel
theorem q148_8 : gfB 148 8 73 8 13 = true := by decide +kernel
theorem q148_11 : decode (mB 148) 11 = .ok (.if_icmp .ge 37, 3) := by decide +kernel
theorem q148_14 : decode (mB 148) 14 = .ok (.lload_n 2, 1) := by decide +kernel
theorem q148_15 : decode (mB 148) 15 = .ok (.aload_n 0, 1) := by decide +kernel
theorem q148_16 : decode (mB 148) 16 = .ok (.iload 4, 2) := by decide +kernel
theorem q148_18 : decode (mB 148) 18 = .ok (.iload_n 1, 1) := by decide +kernel
theorem q148_19 : cfB 148 19 80 144 1 4 2 = true := by decide +kernel
theorem q148_22 : decode (mB 148) 22 = .ok (.sipush (-10000), 3) := by decide +kernel
theorem q148_25 : decode (mB 148) 25 = .ok (.if_icmp .ne 7, 3) := by decide +kernel
theorem q148_28 : decode (mB 148) 28 = .ok (.lconst 0, 1) := by decide +kernel
theorem q148_29 : decode (mB 148) 29 = .ok (.goto 11, 3) := by decide +kernel
theorem q148_32 : decode (mB 148) 32 = .ok (.aload_n 0, 1) := by decide +kernel
theorem q148_33 : decode (mB 148) 33 = .ok (.iload 4, 2) := by decide +kernel
theorem q148_35 : decode (mB 148) 35 = .ok (.iload_n 1, 1) := by decide +kernel
theorem q148_36 : cfB 148 36 80 144 1 4 2 = true := by decide +kernel
theorem q148_39 : decode (mB 148) 39 = .ok (.i2l, 1) := by decide +kernel
theorem q148_40 : decode (mB 148) 40 = .ok (.ladd, 1) := by decide +kernel
theorem q148_41 : decode (mB 148) 41 = .ok (.lstore_n 2, 1) := by decide +kernel
theorem q148_42 : decode (mB 148) 42 = .ok (.iinc 4 1, 3) := by decide +kernel
theorem q148_45 : decode (mB 148) 45 = .ok (.goto (-40), 3) := by decide +kernel
theorem q148_48 : decode (mB 148) 48 = .ok (.lload_n 2, 1) := by decide +kernel
theorem q148_49 : decode (mB 148) 49 = .ok (.lreturn, 1) := by decide +kernel
theorem q149_0 : decode (mB 149) 0 = .ok (.aload_n 0, 1) := by decide +kernel
theorem q149_1 : decode (mB 149) 1 = .ok (.iload_n 1, 1) := by decide +kernel
theorem q149_2 : cfB 149 2 84 138 1 4 1 = true := by decide +kernel
theorem q149_5 : decode (mB 149) 5 = .ok (.ifCond .eq 7, 3) := by decide +kernel
theorem q149_8 : decode (mB 149) 8 = .ok (.lconst 0, 1) := by decide +kernel
theorem q149_9 : decode (mB 149) 9 = .ok (.goto 8, 3) := by decide +kernel
theorem q149_12 : decode (mB 149) 12 = .ok (.aload_n 0, 1) := by decide +kernel
theorem q149_13 : decode (mB 149) 13 = .ok (.iload_n 1, 1) := by decide +kernel
theorem q149_14 : cfB 149 14 91 148 1 4 1 = true := by decide +kernel
theorem q149_17 : decode (mB 149) 17 = .ok (.lreturn, 1) := by decide +kernel
theorem q150_0 : decode (mB 150) 0 = .ok (.aload_n 0, 1) := by decide +kernel
theorem q150_1 : decode (mB 150) 1 = .ok (.iload_n 1, 1) := by decide +kernel
theorem q150_2 : cfB 150 2 84 138 1 4 1 = true := by decide +kernel
theorem q150_5 : decode (mB 150) 5 = .ok (.ifCond .ne 24, 3) := by decide +kernel
theorem q150_8 : decode (mB 150) 8 = .ok (.aload_n 0, 1) := by decide +kernel
theorem q150_9 : decode (mB 150) 9 = .ok (.aload_n 0, 1) := by decide +kernel
theorem q150_10 : decode (mB 150) 10 = .ok (.iload_n 1, 1) := by decide +kernel
theorem q150_11 : cfB 150 11 95 145 1 4 1 = true := by decide +kernel
theorem q150_14 : decode (mB 150) 14 = .ok (.ifCond .ne 7, 3) := by decide +kernel
theorem q150_17 : decode (mB 150) 17 = .ok (.iconst 1, 1) := by decide +kernel
theorem q150_18 : decode (mB 150) 18 = .ok (.goto 4, 3) := by decide +kernel
theorem q150_21 : decode (mB 150) 21 = .ok (.iconst 0, 1) := by decide +kernel
theorem q150_22 : decode (mB 150) 22 = .ok (.iconst 2, 1) := by decide +kernel
theorem q150_23 : cfB 150 23 65 137 1 4 2 = true := by decide +kernel
theorem q150_26 : decode (mB 150) 26 = .ok (.ifCond .eq 7, 3) := by decide +kernel
theorem q150_29 : decode (mB 150) 29 = .ok (.dconst 0, 1) := by decide +kernel
theorem q150_30 : decode (mB 150) 30 = .ok (.goto 16, 3) := by decide +kernel
theorem q150_33 : decode (mB 150) 33 = .ok (.aload_n 0, 1) := by decide +kernel
theorem q150_34 : decode (mB 150) 34 = .ok (.iload_n 1, 1) := by decide +kernel
theorem q150_35 : cfB 150 35 91 148 1 4 1 = true := by decide +kernel
theorem q150_38 : decode (mB 150) 38 = .ok (.l2d, 1) := by decide +kernel
theorem q150_39 : decode (mB 150) 39 = .ok (.aload_n 0, 1) := by decide +kernel
theorem q150_40 : decode (mB 150) 40 = .ok (.iload_n 1, 1) := by decide +kernel
theorem q150_41 : cfB 150 41 95 145 1 4 1 = true := by decide +kernel
theorem q150_44 : decode (mB 150) 44 = .ok (.i2d, 1) := by decide +kernel
theorem q150_45 : decode (mB 150) 45 = .ok (.ddiv, 1) := by decide +kernel
theorem q150_46 : decode (mB 150) 46 = .ok (.dreturn, 1) := by decide +kernel
theorem q151_0 : decode (mB 151) 0 = .ok (.aload_n 0, 1) := by decide +kernel
theorem q151_1 : decode (mB 151) 1 = .ok (.iload_n 1, 1) := by decide +kernel
theorem q151_2 : cfB 151 2 84 138 1 4 1 = true := by decide +kernel
theorem q151_5 : decode (mB 151) 5 = .ok (.ifCond .ne 23, 3) := by decide +kernel
theorem q151_8 : decode (mB 151) 8 = .ok (.aload_n 0, 1) := by decide +kernel
theorem q151_9 : decode (mB 151) 9 = .ok (.aload_n 0, 1) := by decide +kernel
theorem q151_10 : gfB 151 10 73 8 13 = true := by decide +kernel
theorem q151_13 : decode (mB 151) 13 = .ok (.ifCond .ne 7, 3) := by decide +kernel
theorem q151_16 : decode (mB 151) 16 = .ok (.iconst 1, 1) := by decide +kernel
theorem q151_17 : decode (mB 151) 17 = .ok (.goto 4, 3) := by decide +kernel
theorem q151_20 : decode (mB 151) 20 = .ok (.iconst 0, 1) := by decide +kernel
theorem q151_21 : decode (mB 151) 21 = .ok (.iconst 2, 1) := by decide +kernel
theorem q151_22 : cfB 151 22 65 137 1 4 2 = true := by decide +kernel
theorem q151_25 : decode (mB 151) 25 = .ok (.ifCond .eq 7, 3) := by decide +kernel
theorem q151_28 : decode (mB 151) 28 = .ok (.fconst 0, 1) := by decide +kernel
theorem q151_29 : decode (mB 151) 29 = .ok (.goto 15, 3) := by decide +kernel
theorem q151_32 : decode (mB 151) 32 = .ok (.aload_n 0, 1) := by decide +kernel
theorem q151_33 : decode (mB 151) 33 = .ok (.iload_n 1, 1) := by decide +kernel
theorem q151_34 : cfB 151 34 95 145 1 4 1 = true := by decide +kernel
theorem q151_37 : decode (mB 151) 37 = .ok (.i2f, 1) := by decide +kernel
theorem q151_38 : decode (mB 151) 38 = .ok (.aload_n 0, 1) := by decide +kernel
theorem q151_39 : gfB 151 39 73 8 13 = true := by decide +kernel
theorem q151_42 : decode (mB 151) 42 = .ok (.i2f, 1) := by decide +kernel
theorem q151_43 : decode (mB 151) 43 = .ok (.fdiv, 1) := by decide +kernel
theorem q151_44 : decode (mB 151) 44 = .ok (.freturn, 1) := by decide +kernel
theorem q152_0 : decode (mB 152) 0 = .ok (.iconst 1, 1) := by decide +kernel
theorem q152_1 : decode (mB 152) 1 = .ok (.istore_n 2, 1) := by decide +kernel
theorem q152_2 : decode (mB 152) 2 = .ok (.sipush (-10000), 3) := by decide +kernel
theorem q152_5 : decode (mB 152) 5 = .ok (.istore_n 3, 1) := by decide +kernel
theorem q152_6 : decode (mB 152) 6 = .ok (.iconst 0, 1) := by decide +kernel
theorem q152_7 : decode (mB 152) 7 = .ok (.istore 4, 2) := by decide +kernel
theorem q152_9 : decode (mB 152) 9 = .ok (.iload 4, 2) := by decide +kernel
theorem q152_11 : decode (mB 152) 11 = .ok (.aload_n 0, 1) := by decide +kernel
theorem q152_12 : gfB 152 12 73 8 13 = true := by decide +kernel
theorem q152_15 : decode (mB 152) 15 = .ok (.if_icmp .ge 55, 3) := by decide +kernel
theorem q152_18 : decode (mB 152) 18 = .ok (.aload_n 0, 1) := by decide +kernel
theorem q152_19 : decode (mB 152) 19 = .ok (.iload 4, 2) := by decide +kernel
theorem q152_21 : decode (mB 152) 21 = .ok (.iload_n 1, 1) := by decide +kernel
theorem q152_22 : cfB 152 22 80 144 1 4 2 = true := by decide +kernel
theorem q152_25 : decode (mB 152) 25 = .ok (.istore 5, 2) := by decide +kernel
theorem q152_27 : decode (mB 152) 27 = .ok (.iload_n 2, 1) := by decide +kernel
theorem q152_28 : decode (mB 152) 28 = .ok (.iload 5, 2) := by decide +kernel
theorem q152_30 : decode (mB 152) 30 = .ok (.sipush (-10000), 3) := by decide +kernel
theorem q152_33 : decode (mB 152) 33 = .ok (.if_icmp .eq 9, 3) := by decide +kernel
theorem q152_36 : decode (mB 152) 36 = .ok (.iload 5, 2) := by decide +kernel
theorem q152_38 : decode (mB 152) 38 = .ok (.iload_n 3, 1) := by decide +kernel
theorem q152_39 : decode (mB 152) 39 = .ok (.if_icmp .le 7, 3) := by decide +kernel
theorem q152_42 : decode (mB 152) 42 = .ok (.iconst 1, 1) := by decide +kernel
theorem q152_43 : decode (mB 152) 43 = .ok (.goto 4, 3) := by decide +kernel
theorem q152_46 : decode (mB 152) 46 = .ok (.iconst 0, 1) := by decide +kernel
theorem q152_47 : decode (mB 152) 47 = .ok (.iand, 1) := by decide +kernel
theorem q152_48 : decode (mB 152) 48 = .ok (.istore_n 2, 1) := by decide +kernel
theorem q152_49 : decode (mB 152) 49 = .ok (.iload 5, 2) := by decide +kernel
theorem q152_51 : decode (mB 152) 51 = .ok (.sipush (-10000), 3) := by decide +kernel
theorem q152_54 : decode (mB 152) 54 = .ok (.if_icmp .ne 7, 3) := by decide +kernel
theorem q152_57 : decode (mB 152) 57 = .ok (.iload_n 3, 1) := by decide +kernel
theorem q152_58 : decode (mB 152) 58 = .ok (.goto 5, 3) := by decide +kernel
theorem q152_61 : decode (mB 152) 61 = .ok (.iload 5, 2) := by decide +kernel
theorem q152_63 : decode (mB 152) 63 = .ok (.istore_n 3, 1) := by decide +kernel
theorem q152_64 : decode (mB 152) 64 = .ok (.iinc 4 1, 3) := by decide +kernel
theorem q152_67 : decode (mB 152) 67 = .ok (.goto (-58), 3) := by decide +kernel
theorem q152_70 : decode (mB 152) 70 = .ok (.iload_n 2, 1) := by decide +kernel
theorem q152_71 : decode (mB 152) 71 = .ok (.ireturn, 1) := by decide +kernel
theorem q153_0 : decode (mB 153) 0 = .ok (.aload_n 0, 1) := by decide +kernel
theorem q153_1 : decode (mB 153) 1 = .ok (.iload_n 1, 1) := by decide +kernel
theorem q153_2 : cfB 153 2 95 145 1 4 1 = true := by decide +kernel
theorem q153_5 : decode (mB 153) 5 = .ok (.istore_n 2, 1) := by decide +kernel
theorem q153_6 : decode (mB 153) 6 = .ok (.aload_n 0, 1) := by decide +kernel
theorem q153_7 : decode (mB 153) 7 = .ok (.iload_n 1, 1) := by decide +kernel
theorem q153_8 : cfB 153 8 87 146 1 4 1 = true := by decide +kernel
theorem q153_11 : decode (mB 153) 11 = .ok (.istore_n 3, 1) := by decide +kernel
theorem q153_12 : decode (mB 153) 12 = .ok (.iload_n 3, 1) := by decide +kernel
theorem q153_13 : decode (mB 153) 13 = .ok (.iconst 2, 1) := by decide +kernel
theorem q153_14 : decode (mB 153) 14 = .ok (.if_icmp .ge 13, 3) := by decide +kernel
theorem q153_17 : decode (mB 153) 17 = .ok (.iload_n 2, 1) := by decide +kernel
theorem q153_18 : decode (mB 153) 18 = .ok (.ifCond .ne 7, 3) := by decide +kernel
theorem q153_21 : decode (mB 153) 21 = .ok (.iconst 0, 1) := by decide +kernel
theorem q153_22 : decode (mB 153) 22 = .ok (.goto 4, 3) := by decide +kernel
theorem q153_25 : decode (mB 153) 25 = .ok (.iconst 1, 1) := by decide +kernel
theorem q153_26 : decode (mB 153) 26 = .ok (.ireturn, 1) := by decide +kernel
theorem q153_27 : decode (mB 153) 27 = .ok (.aload_n 0, 1) := by decide +kernel
theorem q153_28 : gfB 153 28 13 8 1 = true := by decide +kernel
theorem q153_31 : decode (mB 153) 31 = .ok (.iload_n 1, 1) := by decide +kernel
theorem q153_32 : decode (mB 153) 32 = .ok (.iaload, 1) := by decide +kernel
theorem q153_33 : decode (mB 153) 33 = .ok (.ifCond .le 12, 3) := by decide +kernel
theorem q153_36 : decode (mB 153) 36 = .ok (.aload_n 0, 1) := by decide +kernel
theorem q153_37 : gfB 153 37 13 8 1 = true := by decide +kernel
theorem q153_40 : decode (mB 153) 40 = .ok (.iload_n 1, 1) := by decide +kernel
theorem q153_41 : decode (mB 153) 41 = .ok (.iaload, 1) := by decide +kernel
theorem q153_42 : decode (mB 153) 42 = .ok (.goto 38, 3) := by decide +kernel
theorem q153_45 : decode (mB 153) 45 = .ok (.iload_n 2, 1) := by decide +kernel
theorem q153_46 : decode (mB 153) 46 = .ok (.iconst 4, 1) := by decide +kernel
theorem q153_47 : decode (mB 153) 47 = .ok (.if_icmp .lt 15, 3) := by decide +kernel
theorem q153_50 : decode (mB 153) 50 = .ok (.aload_n 0, 1) := by decide +kernel
theorem q153_51 : decode (mB 153) 51 = .ok (.iload_n 1, 1) := by decide +kernel
theorem q153_52 : cfB 153 52 98 152 1 4 1 = true := by decide +kernel
theorem q153_55 : decode (mB 153) 55 = .ok (.ifCond .eq 7, 3) := by decide +kernel
theorem q153_58 : decode (mB 153) 58 = .ok (.iconst 2, 1) := by decide +kernel
theorem q153_59 : decode (mB 153) 59 = .ok (.goto 21, 3) := by decide +kernel
theorem q153_62 : decode (mB 153) 62 = .ok (.iload_n 3, 1) := by decide +kernel
theorem q153_63 : decode (mB 153) 63 = .ok (.bipush 6, 2) := by decide +kernel
theorem q153_65 : decode (mB 153) 65 = .ok (.if_icmp .gt 14, 3) := by decide +kernel
theorem q153_68 : decode (mB 153) 68 = .ok (.iload_n 2, 1) := by decide +kernel
theorem q153_69 : decode (mB 153) 69 = .ok (.iconst 2, 1) := by decide +kernel
theorem q153_70 : decode (mB 153) 70 = .ok (.iload_n 3, 1) := by decide +kernel
theorem q153_71 : decode (mB 153) 71 = .ok (.imul, 1) := by decide +kernel
theorem q153_72 : decode (mB 153) 72 = .ok (.if_icmp .lt 7, 3) := by decide +kernel
theorem q153_75 : decode (mB 153) 75 = .ok (.iconst 3, 1) := by decide +kernel
theorem q153_76 : decode (mB 153) 76 = .ok (.goto 4, 3) := by decide +kernel
theorem q153_79 : decode (mB 153) 79 = .ok (.iconst 4, 1) := by decide +kernel
theorem q153_80 : decode (mB 153) 80 = .ok (.ireturn, 1) := by decide +kernel
theorem q154_0 : decode (mB 154) 0 = .ok (.aload_n 0, 1) := by decide +kernel
theorem q154_1 : decode (mB 154) 1 = .ok (.iload_n 1, 1) := by decide +kernel
theorem q154_2 : cfB 154 2 84 138 1 4 1 = true := by decide +kernel
theorem q154_5 : decode (mB 154) 5 = .ok (.ifCond .eq 7, 3) := by decide +kernel
theorem q154_8 : decode (mB 154) 8 = .ok (.iconst 0, 1) := by decide +kernel
theorem q154_9 : decode (mB 154) 9 = .ok (.goto 8, 3) := by decide +kernel
theorem q154_12 : decode (mB 154) 12 = .ok (.aload_n 0, 1) := by decide +kernel
theorem q154_13 : decode (mB 154) 13 = .ok (.iload_n 1, 1) := by decide +kernel
theorem q154_14 : cfB 154 14 101 153 1 4 1 = true := by decide +kernel
theorem q154_17 : decode (mB 154) 17 = .ok (.ireturn, 1) := by decide +kernel
theorem q155_0 : decode (mB 155) 0 = .ok (.aload_n 0, 1) := by decide +kernel
theorem q155_1 : decode (mB 155) 1 = .ok (.iload_n 1, 1) := by decide +kernel
theorem q155_2 : cfB 155 2 84 138 1 4 1 = true := by decide +kernel
theorem q155_5 : decode (mB 155) 5 = .ok (.ifCond .ne 25, 3) := by decide +kernel
theorem q155_8 : decode (mB 155) 8 = .ok (.aload_n 0, 1) := by decide +kernel
theorem q155_9 : decode (mB 155) 9 = .ok (.iload_n 2, 1) := by decide +kernel
theorem q155_10 : decode (mB 155) 10 = .ok (.iconst 2, 1) := by decide +kernel
theorem q155_11 : decode (mB 155) 11 = .ok (.iconst 4, 1) := by decide +kernel
theorem q155_12 : cfB 155 12 61 136 0 4 3 = true := by decide +kernel
theorem q155_15 : decode (mB 155) 15 = .ok (.ifCond .ne 7, 3) := by decide +kernel
theorem q155_18 : decode (mB 155) 18 = .ok (.iconst 1, 1) := by decide +kernel
theorem q155_19 : decode (mB 155) 19 = .ok (.goto 4, 3) := by decide +kernel
theorem q155_22 : decode (mB 155) 22 = .ok (.iconst 0, 1) := by decide +kernel
theorem q155_23 : decode (mB 155) 23 = .ok (.iconst 2, 1) := by decide +kernel
theorem q155_24 : cfB 155 24 65 137 1 4 2 = true := by decide +kernel
theorem q155_27 : decode (mB 155) 27 = .ok (.ifCond .eq 5, 3) := by decide +kernel
theorem q155_30 : decode (mB 155) 30 = .ok (.iconst 0, 1) := by decide +kernel
theorem q155_31 : decode (mB 155) 31 = .ok (.ireturn, 1) := by decide +kernel
theorem q155_32 : decode (mB 155) 32 = .ok (.aload_n 0, 1) := by decide +kernel
theorem q155_33 : decode (mB 155) 33 = .ok (.iconst 0, 1) := by decide +kernel
theorem q155_34 : pfB 155 34 76 8 22 = true := by decide +kernel
theorem q155_37 : decode (mB 155) 37 = .ok (.aload_n 0, 1) := by decide +kernel
theorem q155_38 : gfB 155 38 13 8 1 = true := by decide +kernel
theorem q155_41 : decode (mB 155) 41 = .ok (.iload_n 1, 1) := by decide +kernel
theorem q155_42 : decode (mB 155) 42 = .ok (.iload_n 2, 1) := by decide +kernel
theorem q155_43 : decode (mB 155) 43 = .ok (.iastore, 1) := by decide +kernel
theorem q155_44 : decode (mB 155) 44 = .ok (.aload_n 0, 1) := by decide +kernel
theorem q155_45 : decode (mB 155) 45 = .ok (.iload_n 1, 1) := by decide +kernel
theorem q155_46 : cfB 155 46 101 153 1 4 1 = true := by decide +kernel
theorem q155_49 : decode (mB 155) 49 = .ok (.ireturn, 1) := by decide +kernel
theorem q156_0 : decode (mB 156) 0 = .ok (.aload_n 0, 1) := by decide +kernel
theorem q156_1 : decode (mB 156) 1 = .ok (.iload_n 1, 1) := by decide +kernel
theorem q156_2 : cfB 156 2 84 138 1 4 1 = true := by decide +kernel
theorem q156_5 : decode (mB 156) 5 = .ok (.ifCond .ne 25, 3) := by decide +kernel
theorem q156_8 : decode (mB 156) 8 = .ok (.aload_n 0, 1) := by decide +kernel
theorem q156_9 : decode (mB 156) 9 = .ok (.aload_n 0, 1) := by decide +kernel
theorem q156_10 : gfB 156 10 13 8 1 = true := by decide +kernel
theorem q156_13 : decode (mB 156) 13 = .ok (.iload_n 1, 1) := by decide +kernel
theorem q156_14 : decode (mB 156) 14 = .ok (.iaload, 1) := by decide +kernel
theorem q156_15 : decode (mB 156) 15 = .ok (.ifCond .ne 7, 3) := by decide +kernel
theorem q156_18 : decode (mB 156) 18 = .ok (.iconst 1, 1) := by decide +kernel
theorem q156_19 : decode (mB 156) 19 = .ok (.goto 4, 3) := by decide +kernel
theorem q156_22 : decode (mB 156) 22 = .ok (.iconst 0, 1) := by decide +kernel
theorem q156_23 : decode (mB 156) 23 = .ok (.iconst 2, 1) := by decide +kernel
theorem q156_24 : cfB 156 24 65 137 1 4 2 = true := by decide +kernel
theorem q156_27 : decode (mB 156) 27 = .ok (.ifCond .eq 5, 3) := by decide +kernel
theorem q156_30 : decode (mB 156) 30 = .ok (.iconst 0, 1) := by decide +kernel
theorem q156_31 : decode (mB 156) 31 = .ok (.ireturn, 1) := by decide +kernel
theorem q156_32 : decode (mB 156) 32 = .ok (.aload_n 0, 1) := by decide +kernel
theorem q156_33 : decode (mB 156) 33 = .ok (.iconst 0, 1) := by decide +kernel
theorem q156_34 : pfB 156 34 76 8 22 = true := by decide +kernel
theorem q156_37 : decode (mB 156) 37 = .ok (.aload_n 0, 1) := by decide +kernel
theorem q156_38 : gfB 156 38 13 8 1 = true := by decide +kernel
theorem q156_41 : decode (mB 156) 41 = .ok (.iload_n 1, 1) := by decide +kernel
theorem q156_42 : decode (mB 156) 42 = .ok (.iconst 0, 1) := by decide +kernel
theorem q156_43 : decode (mB 156) 43 = .ok (.iastore, 1) := by decide +kernel
theorem q156_44 : decode (mB 156) 44 = .ok (.aload_n 0, 1) := by decide +kernel
theorem q156_45 : decode (mB 156) 45 = .ok (.iload_n 1, 1) := by decide +kernel
theorem q156_46 : cfB 156 46 101 153 1 4 1 = true := by decide +kernel
theorem q156_49 : decode (mB 156) 49 = .ok (.ireturn, 1) := by decide +kernel
theorem q157_0 : decode (mB 157) 0 = .ok (.aload_n 0, 1) := by decide +kernel
theorem q157_1 : decode (mB 157) 1 = .ok (.iload_n 1, 1) := by decide +kernel
theorem q157_2 : cfB 157 2 84 138 1 4 1 = true := by decide +kernel
theorem q157_5 : decode (mB 157) 5 = .ok (.ifCond .eq 5, 3) := by decide +kernel
theorem q157_8 : decode (mB 157) 8 = .ok (.iconst 0, 1) := by decide +kernel
theorem q157_9 : decode (mB 157) 9 = .ok (.ireturn, 1) := by decide +kernel
theorem q157_10 : decode (mB 157) 10 = .ok (.aload_n 0, 1) := by decide +kernel
theorem q157_11 : decode (mB 157) 11 = .ok (.iconst 0, 1) := by decide +kernel
theorem q157_12 : pfB 157 12 76 8 22 = true := by decide +kernel
theorem q157_15 : decode (mB 157) 15 = .ok (.aload_n 0, 1) := by decide +kernel
theorem q157_16 : gfB 157 16 25 8 5 = true := by decide +kernel
theorem q157_19 : decode (mB 157) 19 = .ok (.iload_n 1, 1) := by decide +kernel
theorem q157_20 : decode (mB 157) 20 = .ok (.iload_n 2, 1) := by decide +kernel
theorem q157_21 : decode (mB 157) 21 = .ok (.bastore, 1) := by decide +kernel
theorem q157_22 : decode (mB 157) 22 = .ok (.iconst 0, 1) := by decide +kernel
theorem q157_23 : decode (mB 157) 23 = .ok (.istore_n 3, 1) := by decide +kernel
theorem q157_24 : decode (mB 157) 24 = .ok (.iconst 0, 1) := by decide +kernel
theorem q157_25 : decode (mB 157) 25 = .ok (.istore 4, 2) := by decide +kernel
theorem q157_27 : decode (mB 157) 27 = .ok (.iload 4, 2) := by decide +kernel
theorem q157_29 : decode (mB 157) 29 = .ok (.bipush 6, 2) := by decide +kernel
theorem q157_31 : decode (mB 157) 31 = .ok (.if_icmp .ge 27, 3) := by decide +kernel
theorem q157_34 : decode (mB 157) 34 = .ok (.iload_n 3, 1) := by decide +kernel
theorem q157_35 : decode (mB 157) 35 = .ok (.aload_n 0, 1) := by decide +kernel
theorem q157_36 : gfB 157 36 25 8 5 = true := by decide +kernel
theorem q157_39 : decode (mB 157) 39 = .ok (.iload 4, 2) := by decide +kernel
theorem q157_41 : decode (mB 157) 41 = .ok (.baload, 1) := by decide +kernel
theorem q157_42 : decode (mB 157) 42 = .ok (.ifCond .eq 7, 3) := by decide +kernel
theorem q157_45 : decode (mB 157) 45 = .ok (.iconst 1, 1) := by decide +kernel
theorem q157_46 : decode (mB 157) 46 = .ok (.goto 4, 3) := by decide +kernel
theorem q157_49 : decode (mB 157) 49 = .ok (.iconst 0, 1) := by decide +kernel
theorem q157_50 : decode (mB 157) 50 = .ok (.iadd, 1) := by decide +kernel
theorem q157_51 : decode (mB 157) 51 = .ok (.istore_n 3, 1) := by decide +kernel
theorem q157_52 : decode (mB 157) 52 = .ok (.iinc 4 1, 3) := by decide +kernel
theorem q157_55 : decode (mB 157) 55 = .ok (.goto (-28), 3) := by decide +kernel
theorem q157_58 : decode (mB 157) 58 = .ok (.iload_n 3, 1) := by decide +kernel
theorem q157_59 : decode (mB 157) 59 = .ok (.ireturn, 1) := by decide +kernel
theorem q158_0 : decode (mB 158) 0 = .ok (.iload_n 0, 1) := by decide +kernel
theorem q158_1 : decode (mB 158) 1 = .ok (.bipush 98, 2) := by decide +kernel
theorem q158_3 : decode (mB 158) 3 = .ok (.if_icmp .eq 15, 3) := by decide +kernel
theorem q158_6 : decode (mB 158) 6 = .ok (.iload_n 0, 1) := by decide +kernel
theorem q158_7 : decode (mB 158) 7 = .ok (.bipush 108, 2) := by decide +kernel
theorem q158_9 : decode (mB 158) 9 = .ok (.if_icmp .eq 9, 3) := by decide +kernel
theorem q158_12 : decode (mB 158) 12 = .ok (.iload_n 0, 1) := by decide +kernel
theorem q158_13 : decode (mB 158) 13 = .ok (.bipush 112, 2) := by decide +kernel
theorem q158_15 : decode (mB 158) 15 = .ok (.if_icmp .ne 7, 3) := by decide +kernel
theorem q158_18 : decode (mB 158) 18 = .ok (.iconst 1, 1) := by decide +kernel
theorem q158_19 : decode (mB 158) 19 = .ok (.goto 4, 3) := by decide +kernel
theorem q158_22 : decode (mB 158) 22 = .ok (.iconst 0, 1) := by decide +kernel
theorem q158_23 : decode (mB 158) 23 = .ok (.ireturn, 1) := by decide +kernel
theorem q159_0 : decode (mB 159) 0 = .ok (.aload_n 0, 1) := by decide +kernel
theorem q159_1 : decode (mB 159) 1 = .ok (.iload_n 1, 1) := by decide +kernel
theorem q159_2 : cfB 159 2 104 158 0 4 1 = true := by decide +kernel
theorem q159_5 : decode (mB 159) 5 = .ok (.ifCond .ne 13, 3) := by decide +kernel
theorem q159_8 : decode (mB 159) 8 = .ok (.iload_n 1, 1) := by decide +kernel
theorem q159_9 : decode (mB 159) 9 = .ok (.bipush 45, 2) := by decide +kernel
theorem q159_11 : decode (mB 159) 11 = .ok (.if_icmp .eq 7, 3) := by decide +kernel
theorem q159_14 : decode (mB 159) 14 = .ok (.iconst 1, 1) := by decide +kernel
theorem q159_15 : decode (mB 159) 15 = .ok (.goto 4, 3) := by decide +kernel
theorem q159_18 : decode (mB 159) 18 = .ok (.iconst 0, 1) := by decide +kernel
theorem q159_19 : decode (mB 159) 19 = .ok (.iconst 1, 1) := by decide +kernel
theorem q159_20 : cfB 159 20 65 137 1 4 2 = true := by decide +kernel
theorem q159_23 : decode (mB 159) 23 = .ok (.ifCond .eq 6, 3) := by decide +kernel
theorem q159_26 : decode (mB 159) 26 = .ok (.bipush 45, 2) := by decide +kernel
theorem q159_28 : decode (mB 159) 28 = .ok (.ireturn, 1) := by decide +kernel
theorem q159_29 : decode (mB 159) 29 = .ok (.aload_n 0, 1) := by decide +kernel
theorem q159_30 : gfB 159 30 54 8 20 = true := by decide +kernel
theorem q159_33 : decode (mB 159) 33 = .ok (.istore_n 2, 1) := by decide +kernel
theorem q159_34 : decode (mB 159) 34 = .ok (.aload_n 0, 1) := by decide +kernel
theorem q159_35 : decode (mB 159) 35 = .ok (.iconst 0, 1) := by decide +kernel
theorem q159_36 : pfB 159 36 76 8 22 = true := by decide +kernel
theorem q159_39 : decode (mB 159) 39 = .ok (.aload_n 0, 1) := by decide +kernel
theorem q159_40 : decode (mB 159) 40 = .ok (.iload_n 1, 1) := by decide +kernel
theorem q159_41 : pfB 159 41 54 8 20 = true := by decide +kernel
theorem q159_44 : decode (mB 159) 44 = .ok (.iload_n 2, 1) := by decide +kernel
theorem q159_45 : decode (mB 159) 45 = .ok (.ireturn, 1) := by decide +kernel
theorem q160_0 : decode (mB 160) 0 = .ok (.aload_n 0, 1) := by decide +kernel
theorem q160_1 : decode (mB 160) 1 = .ok (.iload_n 1, 1) := by decide +kernel
theorem q160_2 : decode (mB 160) 2 = .ok (.iconst 0, 1) := by decide +kernel
theorem q160_3 : decode (mB 160) 3 = .ok (.iconst 5, 1) := by decide +kernel
theorem q160_4 : cfB 160 4 61 136 0 4 3 = true := by decide +kernel
theorem q160_7 : decode (mB 160) 7 = .ok (.ifCond .eq 12, 3) := by decide +kernel
theorem q160_10 : decode (mB 160) 10 = .ok (.iload_n 2, 1) := by decide +kernel
theorem q160_11 : decode (mB 160) 11 = .ok (.iconst 0, 1) := by decide +kernel
theorem q160_12 : decode (mB 160) 12 = .ok (.iconst 3, 1) := by decide +kernel
theorem q160_13 : cfB 160 13 61 136 0 4 3 = true := by decide +kernel
theorem q160_16 : decode (mB 160) 16 = .ok (.ifCond .ne 7, 3) := by decide +kernel
theorem q160_19 : decode (mB 160) 19 = .ok (.iconst 1, 1) := by decide +kernel
theorem q160_20 : decode (mB 160) 20 = .ok (.goto 4, 3) := by decide +kernel
theorem q160_23 : decode (mB 160) 23 = .ok (.iconst 0, 1) := by decide +kernel
theorem q160_24 : decode (mB 160) 24 = .ok (.iconst 1, 1) := by decide +kernel
theorem q160_25 : cfB 160 25 65 137 1 4 2 = true := by decide +kernel
theorem q160_28 : decode (mB 160) 28 = .ok (.ifCond .ne 30, 3) := by decide +kernel
theorem q160_31 : decode (mB 160) 31 = .ok (.aload_n 0, 1) := by decide +kernel
theorem q160_32 : decode (mB 160) 32 = .ok (.aload_n 0, 1) := by decide +kernel
theorem q160_33 : gfB 160 33 29 8 6 = true := by decide +kernel
theorem q160_36 : decode (mB 160) 36 = .ok (.iconst 4, 1) := by decide +kernel
theorem q160_37 : decode (mB 160) 37 = .ok (.iload_n 1, 1) := by decide +kernel
theorem q160_38 : decode (mB 160) 38 = .ok (.imul, 1) := by decide +kernel
theorem q160_39 : decode (mB 160) 39 = .ok (.iload_n 2, 1) := by decide +kernel
theorem q160_40 : decode (mB 160) 40 = .ok (.iadd, 1) := by decide +kernel
theorem q160_41 : decode (mB 160) 41 = .ok (.baload, 1) := by decide +kernel
theorem q160_42 : decode (mB 160) 42 = .ok (.iload_n 3, 1) := by decide +kernel
theorem q160_43 : decode (mB 160) 43 = .ok (.if_icmp .ne 7, 3) := by decide +kernel
theorem q160_46 : decode (mB 160) 46 = .ok (.iconst 1, 1) := by decide +kernel
theorem q160_47 : decode (mB 160) 47 = .ok (.goto 4, 3) := by decide +kernel
theorem q160_50 : decode (mB 160) 50 = .ok (.iconst 0, 1) := by decide +kernel
theorem q160_51 : decode (mB 160) 51 = .ok (.iconst 2, 1) := by decide +kernel
theorem q160_52 : cfB 160 52 65 137 1 4 2 = true := by decide +kernel
theorem q160_55 : decode (mB 160) 55 = .ok (.ifCond .eq 5, 3) := by decide +kernel
theorem q160_58 : decode (mB 160) 58 = .ok (.iconst 0, 1) := by decide +kernel
theorem q160_59 : decode (mB 160) 59 = .ok (.ireturn, 1) := by decide +kernel
theorem q160_60 : decode (mB 160) 60 = .ok (.aload_n 0, 1) := by decide +kernel
theorem q160_61 : decode (mB 160) 61 = .ok (.iconst 0, 1) := by decide +kernel
theorem q160_62 : pfB 160 62 76 8 22 = true := by decide +kernel
theorem q160_65 : decode (mB 160) 65 = .ok (.aload_n 0, 1) := by decide +kernel
theorem q160_66 : gfB 160 66 29 8 6 = true := by decide +kernel
theorem q160_69 : decode (mB 160) 69 = .ok (.iconst 4, 1) := by decide +kernel
theorem q160_70 : decode (mB 160) 70 = .ok (.iload_n 1, 1) := by decide +kernel
theorem q160_71 : decode (mB 160) 71 = .ok (.imul, 1) := by decide +kernel
theorem q160_72 : decode (mB 160) 72 = .ok (.iload_n 2, 1) := by decide +kernel
theorem q160_73 : decode (mB 160) 73 = .ok (.iadd, 1) := by decide +kernel
theorem q160_74 : decode (mB 160) 74 = .ok (.iload_n 3, 1) := by decide +kernel
theorem q160_75 : decode (mB 160) 75 = .ok (.bastore, 1) := by decide +kernel
theorem q160_76 : decode (mB 160) 76 = .ok (.iconst 0, 1) := by decide +kernel
theorem q160_77 : decode (mB 160) 77 = .ok (.istore 4, 2) := by decide +kernel
theorem q160_79 : decode (mB 160) 79 = .ok (.iconst 0, 1) := by decide +kernel
theorem q160_80 : decode (mB 160) 80 = .ok (.istore 5, 2) := by decide +kernel
theorem q160_82 : decode (mB 160) 82 = .ok (.iload 5, 2) := by decide +kernel
theorem q160_84 : decode (mB 160) 84 = .ok (.bipush 24, 2) := by decide +kernel
theorem q160_86 : decode (mB 160) 86 = .ok (.if_icmp .ge 29, 3) := by decide +kernel
theorem q160_89 : decode (mB 160) 89 = .ok (.iload 4, 2) := by decide +kernel
theorem q160_91 : decode (mB 160) 91 = .ok (.aload_n 0, 1) := by decide +kernel
theorem q160_92 : gfB 160 92 29 8 6 = true := by decide +kernel
theorem q160_95 : decode (mB 160) 95 = .ok (.iload 5, 2) := by decide +kernel
theorem q160_97 : decode (mB 160) 97 = .ok (.baload, 1) := by decide +kernel
theorem q160_98 : decode (mB 160) 98 = .ok (.ifCond .eq 7, 3) := by decide +kernel
theorem q160_101 : decode (mB 160) 101 = .ok (.iconst 1, 1) := by decide +kernel
theorem q160_102 : decode (mB 160) 102 = .ok (.goto 4, 3) := by decide +kernel
theorem q160_105 : decode (mB 160) 105 = .ok (.iconst 0, 1) := by decide +kernel
theorem q160_106 : decode (mB 160) 106 = .ok (.iadd, 1) := by decide +kernel
theorem q160_107 : decode (mB 160) 107 = .ok (.istore 4, 2) := by decide +kernel
theorem q160_109 : decode (mB 160) 109 = .ok (.iinc 5 1, 3) := by decide +kernel
theorem q160_112 : decode (mB 160) 112 = .ok (.goto (-30), 3) := by decide +kernel
theorem q160_115 : decode (mB 160) 115 = .ok (.iload 4, 2) := by decide +kernel
theorem q160_117 : decode (mB 160) 117 = .ok (.ireturn, 1) := by decide +kernel
theorem q161_0 : decode (mB 161) 0 = .ok (.aload_n 0, 1) := by decide +kernel
theorem q161_1 : decode (mB 161) 1 = .ok (.iload_n 1, 1) := by decide +kernel
theorem q161_2 : decode (mB 161) 2 = .ok (.iload_n 2, 1) := by decide +kernel
theorem q161_3 : decode (mB 161) 3 = .ok (.iconst 1, 1) := by decide +kernel
theorem q161_4 : cfB 161 4 108 160 1 4 3 = true := by decide +kernel
theorem q161_7 : decode (mB 161) 7 = .ok (.ireturn, 1) := by decide +kernel
theorem q162_0 : decode (mB 162) 0 = .ok (.aload_n 0, 1) := by decide +kernel
theorem q162_1 : decode (mB 162) 1 = .ok (.iload_n 1, 1) := by decide +kernel
theorem q162_2 : decode (mB 162) 2 = .ok (.iload_n 2, 1) := by decide +kernel
theorem q162_3 : decode (mB 162) 3 = .ok (.iconst 0, 1) := by decide +kernel
theorem q162_4 : cfB 162 4 108 160 1 4 3 = true := by decide +kernel
theorem q162_7 : decode (mB 162) 7 = .ok (.ireturn, 1) := by decide +kernel
theorem q163_0 : decode (mB 163) 0 = .ok (.aload_n 0, 1) := by decide +kernel
theorem q163_1 : decode (mB 163) 1 = .ok (.iload_n 1, 1) := by decide +kernel
theorem q163_2 : decode (mB 163) 2 = .ok (.iconst 0, 1) := by decide +kernel
theorem q163_3 : decode (mB 163) 3 = .ok (.bipush 7, 2) := by decide +kernel
theorem q163_5 : cfB 163 5 61 136 0 4 3 = true := by decide +kernel
theorem q163_8 : decode (mB 163) 8 = .ok (.ifCond .ne 7, 3) := by decide +kernel
theorem q163_11 : decode (mB 163) 11 = .ok (.iconst 1, 1) := by decide +kernel
theorem q163_12 : decode (mB 163) 12 = .ok (.goto 4, 3) := by decide +kernel
theorem q163_15 : decode (mB 163) 15 = .ok (.iconst 0, 1) := by decide +kernel
theorem q163_16 : decode (mB 163) 16 = .ok (.iconst 1, 1) := by decide +kernel
theorem q163_17 : cfB 163 17 65 137 1 4 2 = true := by decide +kernel
theorem q163_20 : decode (mB 163) 20 = .ok (.ifCond .ne 26, 3) := by decide +kernel
theorem q163_23 : decode (mB 163) 23 = .ok (.aload_n 0, 1) := by decide +kernel
theorem q163_24 : decode (mB 163) 24 = .ok (.iload_n 2, 1) := by decide +kernel
theorem q163_25 : decode (mB 163) 25 = .ok (.iconst 0, 1) := by decide +kernel
theorem q163_26 : decode (mB 163) 26 = .ok (.bipush 99, 2) := by decide +kernel
theorem q163_28 : cfB 163 28 61 136 0 4 3 = true := by decide +kernel
theorem q163_31 : decode (mB 163) 31 = .ok (.ifCond .ne 7, 3) := by decide +kernel
theorem q163_34 : decode (mB 163) 34 = .ok (.iconst 1, 1) := by decide +kernel
theorem q163_35 : decode (mB 163) 35 = .ok (.goto 4, 3) := by decide +kernel
theorem q163_38 : decode (mB 163) 38 = .ok (.iconst 0, 1) := by decide +kernel
theorem q163_39 : decode (mB 163) 39 = .ok (.iconst 2, 1) := by decide +kernel
theorem q163_40 : cfB 163 40 65 137 1 4 2 = true := by decide +kernel
theorem q163_43 : decode (mB 163) 43 = .ok (.ifCond .eq 5, 3) := by decide +kernel
theorem q163_46 : decode (mB 163) 46 = .ok (.iconst 0, 1) := by decide +kernel
theorem q163_47 : decode (mB 163) 47 = .ok (.ireturn, 1) := by decide +kernel
theorem q163_48 : decode (mB 163) 48 = .ok (.aload_n 0, 1) := by decide +kernel
theorem q163_49 : gfB 163 49 16 8 2 = true := by decide +kernel
theorem q163_52 : decode (mB 163) 52 = .ok (.iload_n 1, 1) := by decide +kernel
theorem q163_53 : decode (mB 163) 53 = .ok (.iaload, 1) := by decide +kernel
theorem q163_54 : decode (mB 163) 54 = .ok (.istore_n 3, 1) := by decide +kernel
theorem q163_55 : decode (mB 163) 55 = .ok (.aload_n 0, 1) := by decide +kernel
theorem q163_56 : decode (mB 163) 56 = .ok (.iconst 0, 1) := by decide +kernel
theorem q163_57 : pfB 163 57 76 8 22 = true := by decide +kernel
theorem q163_60 : decode (mB 163) 60 = .ok (.aload_n 0, 1) := by decide +kernel
theorem q163_61 : gfB 163 61 16 8 2 = true := by decide +kernel
theorem q163_64 : decode (mB 163) 64 = .ok (.iload_n 1, 1) := by decide +kernel
theorem q163_65 : decode (mB 163) 65 = .ok (.iload_n 2, 1) := by decide +kernel
theorem q163_66 : decode (mB 163) 66 = .ok (.iastore, 1) := by decide +kernel
theorem q163_67 : decode (mB 163) 67 = .ok (.iload_n 3, 1) := by decide +kernel
theorem q163_68 : decode (mB 163) 68 = .ok (.ireturn, 1) := by decide +kernel
theorem q164_0 : decode (mB 164) 0 = .ok (.iconst 0, 1) := by decide +kernel
theorem q164_1 : decode (mB 164) 1 = .ok (.istore_n 1, 1) := by decide +kernel
theorem q164_2 : decode (mB 164) 2 = .ok (.iload_n 1, 1) := by decide +kernel
theorem q164_3 : decode (mB 164) 3 = .ok (.bipush 6, 2) := by decide +kernel
theorem q164_5 : decode (mB 164) 5 = .ok (.if_icmp .ge 31, 3) := by decide +kernel
theorem q164_8 : decode (mB 164) 8 = .ok (.aload_n 0, 1) := by decide +kernel
theorem q164_9 : gfB 164 9 19 8 3 = true := by decide +kernel
theorem q164_12 : decode (mB 164) 12 = .ok (.iload_n 1, 1) := by decide +kernel
theorem q164_13 : decode (mB 164) 13 = .ok (.aload_n 0, 1) := by decide +kernel
theorem q164_14 : decode (mB 164) 14 = .ok (.iload_n 1, 1) := by decide +kernel
theorem q164_15 : cfB 164 15 101 153 1 4 1 = true := by decide +kernel
theorem q164_18 : decode (mB 164) 18 = .ok (.iastore, 1) := by decide +kernel
theorem q164_19 : decode (mB 164) 19 = .ok (.aload_n 0, 1) := by decide +kernel
theorem q164_20 : gfB 164 20 22 8 4 = true := by decide +kernel
theorem q164_23 : decode (mB 164) 23 = .ok (.iload_n 1, 1) := by decide +kernel
theorem q164_24 : decode (mB 164) 24 = .ok (.aload_n 0, 1) := by decide +kernel
theorem q164_25 : decode (mB 164) 25 = .ok (.iload_n 1, 1) := by decide +kernel
theorem q164_26 : cfB 164 26 87 146 1 4 1 = true := by decide +kernel
theorem q164_29 : decode (mB 164) 29 = .ok (.iastore, 1) := by decide +kernel
theorem q164_30 : decode (mB 164) 30 = .ok (.iinc 1 1, 3) := by decide +kernel
theorem q164_33 : decode (mB 164) 33 = .ok (.goto (-31), 3) := by decide +kernel
theorem q164_36 : decode (mB 164) 36 = .ok (.return_, 1) := by decide +kernel
theorem q165_0 : decode (mB 165) 0 = .ok (.aload_n 1, 1) := by decide +kernel
theorem q165_1 : decode (mB 165) 1 = .ok (.iconst 2, 1) := by decide +kernel
theorem q165_2 : decode (mB 165) 2 = .ok (.iload_n 2, 1) := by decide +kernel
theorem q165_3 : decode (mB 165) 3 = .ok (.iadd, 1) := by decide +kernel
theorem q165_4 : decode (mB 165) 4 = .ok (.iaload, 1) := by decide +kernel
theorem q165_5 : decode (mB 165) 5 = .ok (.ifCond .ge 7, 3) := by decide +kernel
theorem q165_8 : decode (mB 165) 8 = .ok (.iconst (-1), 1) := by decide +kernel
theorem q165_9 : decode (mB 165) 9 = .ok (.goto 13, 3) := by decide +kernel
theorem q165_12 : decode (mB 165) 12 = .ok (.aload_n 0, 1) := by decide +kernel
theorem q165_13 : gfB 165 13 19 8 3 = true := by decide +kernel
theorem q165_16 : decode (mB 165) 16 = .ok (.aload_n 1, 1) := by decide +kernel
theorem q165_17 : decode (mB 165) 17 = .ok (.iconst 2, 1) := by decide +kernel
theorem q165_18 : decode (mB 165) 18 = .ok (.iload_n 2, 1) := by decide +kernel
theorem q165_19 : decode (mB 165) 19 = .ok (.iadd, 1) := by decide +kernel
theorem q165_20 : decode (mB 165) 20 = .ok (.iaload, 1) := by decide +kernel
theorem q165_21 : decode (mB 165) 21 = .ok (.iaload, 1) := by decide +kernel
theorem q165_22 : decode (mB 165) 22 = .ok (.ireturn, 1) := by decide +kernel
theorem q166_0 : decode (mB 166) 0 = .ok (.aload_n 0, 1) := by decide +kernel
theorem q166_1 : gfB 166 1 54 8 20 = true := by decide +kernel
theorem q166_4 : decode (mB 166) 4 = .ok (.bipush 45, 2) := by decide +kernel
theorem q166_6 : decode (mB 166) 6 = .ok (.if_icmp .eq 35, 3) := by decide +kernel
theorem q166_9 : decode (mB 166) 9 = .ok (.aload_n 0, 1) := by decide +kernel
theorem q166_10 : gfB 166 10 54 8 20 = true := by decide +kernel
theorem q166_13 : decode (mB 166) 13 = .ok (.aload_n 1, 1) := by decide +kernel
theorem q166_14 : decode (mB 166) 14 = .ok (.iconst 0, 1) := by decide +kernel
theorem q166_15 : decode (mB 166) 15 = .ok (.iaload, 1) := by decide +kernel
theorem q166_16 : decode (mB 166) 16 = .ok (.ifCond .ne 8, 3) := by decide +kernel
theorem q166_19 : decode (mB 166) 19 = .ok (.bipush 98, 2) := by decide +kernel
theorem q166_21 : decode (mB 166) 21 = .ok (.goto 17, 3) := by decide +kernel
theorem q166_24 : decode (mB 166) 24 = .ok (.aload_n 1, 1) := by decide +kernel
theorem q166_25 : decode (mB 166) 25 = .ok (.iconst 0, 1) := by decide +kernel
theorem q166_26 : decode (mB 166) 26 = .ok (.iaload, 1) := by decide +kernel
theorem q166_27 : decode (mB 166) 27 = .ok (.iconst 1, 1) := by decide +kernel
theorem q166_28 : decode (mB 166) 28 = .ok (.if_icmp .ne 8, 3) := by decide +kernel
theorem q166_31 : decode (mB 166) 31 = .ok (.bipush 108, 2) := by decide +kernel
theorem q166_33 : decode (mB 166) 33 = .ok (.goto 5, 3) := by decide +kernel
theorem q166_36 : decode (mB 166) 36 = .ok (.bipush 112, 2) := by decide +kernel
theorem q166_38 : decode (mB 166) 38 = .ok (.if_icmp .ne 7, 3) := by decide +kernel
theorem q166_41 : decode (mB 166) 41 = .ok (.iconst 1, 1) := by decide +kernel
theorem q166_42 : decode (mB 166) 42 = .ok (.goto 4, 3) := by decide +kernel
theorem q166_45 : decode (mB 166) 45 = .ok (.iconst 0, 1) := by decide +kernel
theorem q166_46 : decode (mB 166) 46 = .ok (.istore_n 2, 1) := by decide +kernel
theorem q166_47 : decode (mB 166) 47 = .ok (.iconst 0, 1) := by decide +kernel
theorem q166_48 : decode (mB 166) 48 = .ok (.istore_n 3, 1) := by decide +kernel
theorem q166_49 : decode (mB 166) 49 = .ok (.iload_n 3, 1) := by decide +kernel
theorem q166_50 : decode (mB 166) 50 = .ok (.bipush 6, 2) := by decide +kernel
theorem q166_52 : decode (mB 166) 52 = .ok (.if_icmp .ge 54, 3) := by decide +kernel
theorem q166_55 : decode (mB 166) 55 = .ok (.iload_n 2, 1) := by decide +kernel
theorem q166_56 : decode (mB 166) 56 = .ok (.aload_n 0, 1) := by decide +kernel
theorem q166_57 : gfB 166 57 25 8 5 = true := by decide +kernel
theorem q166_60 : decode (mB 166) 60 = .ok (.iload_n 3, 1) := by decide +kernel
theorem q166_61 : decode (mB 166) 61 = .ok (.baload, 1) := by decide +kernel
theorem q166_62 : decode (mB 166) 62 = .ok (.ifCond .eq 31, 3) := by decide +kernel
theorem q166_65 : decode (mB 166) 65 = .ok (.aload_n 1, 1) := by decide +kernel
theorem q166_66 : decode (mB 166) 66 = .ok (.iconst 2, 1) := by decide +kernel
theorem q166_67 : decode (mB 166) 67 = .ok (.iaload, 1) := by decide +kernel
theorem q166_68 : decode (mB 166) 68 = .ok (.iload_n 3, 1) := by decide +kernel
theorem q166_69 : decode (mB 166) 69 = .ok (.if_icmp .eq 24, 3) := by decide +kernel
theorem q166_72 : decode (mB 166) 72 = .ok (.aload_n 1, 1) := by decide +kernel
theorem q166_73 : decode (mB 166) 73 = .ok (.iconst 3, 1) := by decide +kernel
theorem q166_74 : decode (mB 166) 74 = .ok (.iaload, 1) := by decide +kernel
theorem q166_75 : decode (mB 166) 75 = .ok (.iload_n 3, 1) := by decide +kernel
theorem q166_76 : decode (mB 166) 76 = .ok (.if_icmp .eq 17, 3) := by decide +kernel
theorem q166_79 : decode (mB 166) 79 = .ok (.aload_n 1, 1) := by decide +kernel
theorem q166_80 : decode (mB 166) 80 = .ok (.iconst 4, 1) := by decide +kernel
theorem q166_81 : decode (mB 166) 81 = .ok (.iaload, 1) := by decide +kernel
theorem q166_82 : decode (mB 166) 82 = .ok (.iload_n 3, 1) := by decide +kernel
theorem q166_83 : decode (mB 166) 83 = .ok (.if_icmp .eq 10, 3) := by decide +kernel
theorem q166_86 : decode (mB 166) 86 = .ok (.aload_n 1, 1) := by decide +kernel
theorem q166_87 : decode (mB 166) 87 = .ok (.iconst 5, 1) := by decide +kernel
theorem q166_88 : decode (mB 166) 88 = .ok (.iaload, 1) := by decide +kernel
theorem q166_89 : decode (mB 166) 89 = .ok (.iload_n 3, 1) := by decide +kernel
theorem q166_90 : decode (mB 166) 90 = .ok (.if_icmp .ne 7, 3) := by decide +kernel
theorem q166_93 : decode (mB 166) 93 = .ok (.iconst 1, 1) := by decide +kernel
theorem q166_94 : decode (mB 166) 94 = .ok (.goto 4, 3) := by decide +kernel
theorem q166_97 : decode (mB 166) 97 = .ok (.iconst 0, 1) := by decide +kernel
theorem q166_98 : decode (mB 166) 98 = .ok (.iand, 1) := by decide +kernel
theorem q166_99 : decode (mB 166) 99 = .ok (.istore_n 2, 1) := by decide +kernel
theorem q166_100 : decode (mB 166) 100 = .ok (.iinc 3 1, 3) := by decide +kernel
theorem q166_103 : decode (mB 166) 103 = .ok (.goto (-54), 3) := by decide +kernel
theorem q166_106 : decode (mB 166) 106 = .ok (.iload_n 2, 1) := by decide +kernel
theorem q166_107 : decode (mB 166) 107 = .ok (.ireturn, 1) := by decide +kernel
theorem q167_0 : decode (mB 167) 0 = .ok (.iconst 0, 1) := by decide +kernel
theorem q167_1 : decode (mB 167) 1 = .ok (.istore_n 2, 1) := by decide +kernel
theorem q167_2 : decode (mB 167) 2 = .ok (.iconst 0, 1) := by decide +kernel
theorem q167_3 : decode (mB 167) 3 = .ok (.istore_n 3, 1) := by decide +kernel
theorem q167_4 : decode (mB 167) 4 = .ok (.iconst 0, 1) := by decide +kernel
theorem q167_5 : decode (mB 167) 5 = .ok (.istore 4, 2) := by decide +kernel
theorem q167_7 : decode (mB 167) 7 = .ok (.iload 4, 2) := by decide +kernel
theorem q167_9 : decode (mB 167) 9 = .ok (.iconst 4, 1) := by decide +kernel
theorem q167_10 : decode (mB 167) 10 = .ok (.if_icmp .ge 60, 3) := by decide +kernel
theorem q167_13 : decode (mB 167) 13 = .ok (.iload_n 2, 1) := by decide +kernel
theorem q167_14 : decode (mB 167) 14 = .ok (.aload_n 0, 1) := by decide +kernel
theorem q167_15 : decode (mB 167) 15 = .ok (.aload_n 1, 1) := by decide +kernel
theorem q167_16 : decode (mB 167) 16 = .ok (.iload 4, 2) := by decide +kernel
theorem q167_18 : cfB 167 18 112 165 1 4 2 = true := by decide +kernel
theorem q167_21 : decode (mB 167) 21 = .ok (.iconst 0, 1) := by decide +kernel
theorem q167_22 : decode (mB 167) 22 = .ok (.iconst 1, 1) := by decide +kernel
theorem q167_23 : cfB 167 23 61 136 0 4 3 = true := by decide +kernel
theorem q167_26 : decode (mB 167) 26 = .ok (.ior, 1) := by decide +kernel
theorem q167_27 : decode (mB 167) 27 = .ok (.istore_n 2, 1) := by decide +kernel
theorem q167_28 : decode (mB 167) 28 = .ok (.iload_n 3, 1) := by decide +kernel
theorem q167_29 : decode (mB 167) 29 = .ok (.aload_n 1, 1) := by decide +kernel
theorem q167_30 : decode (mB 167) 30 = .ok (.iconst 2, 1) := by decide +kernel
theorem q167_31 : decode (mB 167) 31 = .ok (.iload 4, 2) := by decide +kernel
theorem q167_33 : decode (mB 167) 33 = .ok (.iadd, 1) := by decide +kernel
theorem q167_34 : decode (mB 167) 34 = .ok (.iaload, 1) := by decide +kernel
theorem q167_35 : decode (mB 167) 35 = .ok (.ifCond .lt 26, 3) := by decide +kernel
theorem q167_38 : decode (mB 167) 38 = .ok (.aload_n 0, 1) := by decide +kernel
theorem q167_39 : gfB 167 39 29 8 6 = true := by decide +kernel
theorem q167_42 : decode (mB 167) 42 = .ok (.iconst 4, 1) := by decide +kernel
theorem q167_43 : decode (mB 167) 43 = .ok (.aload_n 1, 1) := by decide +kernel
theorem q167_44 : decode (mB 167) 44 = .ok (.iconst 2, 1) := by decide +kernel
theorem q167_45 : decode (mB 167) 45 = .ok (.iload 4, 2) := by decide +kernel
theorem q167_47 : decode (mB 167) 47 = .ok (.iadd, 1) := by decide +kernel
theorem q167_48 : decode (mB 167) 48 = .ok (.iaload, 1) := by decide +kernel
theorem q167_49 : decode (mB 167) 49 = .ok (.imul, 1) := by decide +kernel
theorem q167_50 : decode (mB 167) 50 = .ok (.iload 4, 2) := by decide +kernel
theorem q167_52 : decode (mB 167) 52 = .ok (.iadd, 1) := by decide +kernel
theorem q167_53 : decode (mB 167) 53 = .ok (.baload, 1) := by decide +kernel
theorem q167_54 : decode (mB 167) 54 = .ok (.ifCond .eq 7, 3) := by decide +kernel
theorem q167_57 : decode (mB 167) 57 = .ok (.iconst 1, 1) := by decide +kernel
theorem q167_58 : decode (mB 167) 58 = .ok (.goto 4, 3) := by decide +kernel
theorem q167_61 : decode (mB 167) 61 = .ok (.iconst 0, 1) := by decide +kernel
theorem q167_62 : decode (mB 167) 62 = .ok (.ior, 1) := by decide +kernel
theorem q167_63 : decode (mB 167) 63 = .ok (.istore_n 3, 1) := by decide +kernel
theorem q167_64 : decode (mB 167) 64 = .ok (.iinc 4 1, 3) := by decide +kernel
theorem q167_67 : decode (mB 167) 67 = .ok (.goto (-60), 3) := by decide +kernel
theorem q167_70 : decode (mB 167) 70 = .ok (.aload_n 1, 1) := by decide +kernel
theorem q167_71 : decode (mB 167) 71 = .ok (.iconst 1, 1) := by decide +kernel
theorem q167_72 : decode (mB 167) 72 = .ok (.iaload, 1) := by decide +kernel
theorem q167_73 : decode (mB 167) 73 = .ok (.iconst 1, 1) := by decide +kernel
theorem q167_74 : decode (mB 167) 74 = .ok (.if_icmp .ne 7, 3) := by decide +kernel
theorem q167_77 : decode (mB 167) 77 = .ok (.iconst 1, 1) := by decide +kernel
theorem q167_78 : decode (mB 167) 78 = .ok (.goto 4, 3) := by decide +kernel
theorem q167_81 : decode (mB 167) 81 = .ok (.iconst 0, 1) := by decide +kernel
theorem q167_82 : decode (mB 167) 82 = .ok (.istore 4, 2) := by decide +kernel
theorem q167_84 : decode (mB 167) 84 = .ok (.aload_n 0, 1) := by decide +kernel
theorem q167_85 : decode (mB 167) 85 = .ok (.aload_n 1, 1) := by decide +kernel
theorem q167_86 : decode (mB 167) 86 = .ok (.iconst 0, 1) := by decide +kernel
theorem q167_87 : cfB 167 87 112 165 1 4 2 = true := by decide +kernel
theorem q167_90 : decode (mB 167) 90 = .ok (.iconst 3, 1) := by decide +kernel
theorem q167_91 : decode (mB 167) 91 = .ok (.if_icmp .eq 13, 3) := by decide +kernel
theorem q167_94 : decode (mB 167) 94 = .ok (.aload_n 0, 1) := by decide +kernel
theorem q167_95 : decode (mB 167) 95 = .ok (.aload_n 1, 1) := by decide +kernel
theorem q167_96 : decode (mB 167) 96 = .ok (.iconst 0, 1) := by decide +kernel
theorem q167_97 : cfB 167 97 112 165 1 4 2 = true := by decide +kernel
theorem q167_100 : decode (mB 167) 100 = .ok (.iconst 2, 1) := by decide +kernel
theorem q167_101 : decode (mB 167) 101 = .ok (.if_icmp .ne 7, 3) := by decide +kernel
theorem q167_104 : decode (mB 167) 104 = .ok (.iconst 1, 1) := by decide +kernel
theorem q167_105 : decode (mB 167) 105 = .ok (.goto 4, 3) := by decide +kernel
theorem q167_108 : decode (mB 167) 108 = .ok (.iconst 0, 1) := by decide +kernel
theorem q167_109 : decode (mB 167) 109 = .ok (.istore 5, 2) := by decide +kernel
theorem q167_111 : decode (mB 167) 111 = .ok (.aload_n 0, 1) := by decide +kernel
theorem q167_112 : decode (mB 167) 112 = .ok (.aload_n 1, 1) := by decide +kernel
theorem q167_113 : decode (mB 167) 113 = .ok (.iconst 1, 1) := by decide +kernel
theorem q167_114 : cfB 167 114 112 165 1 4 2 = true := by decide +kernel
theorem q167_117 : decode (mB 167) 117 = .ok (.iconst 4, 1) := by decide +kernel
theorem q167_118 : decode (mB 167) 118 = .ok (.if_icmp .ne 7, 3) := by decide +kernel
theorem q167_121 : decode (mB 167) 121 = .ok (.iconst 1, 1) := by decide +kernel
theorem q167_122 : decode (mB 167) 122 = .ok (.goto 4, 3) := by decide +kernel
theorem q167_125 : decode (mB 167) 125 = .ok (.iconst 0, 1) := by decide +kernel
theorem q167_126 : decode (mB 167) 126 = .ok (.istore 6, 2) := by decide +kernel
theorem q167_128 : decode (mB 167) 128 = .ok (.aload_n 1, 1) := by decide +kernel
theorem q167_129 : decode (mB 167) 129 = .ok (.iconst 0, 1) := by decide +kernel
theorem q167_130 : decode (mB 167) 130 = .ok (.iaload, 1) := by decide +kernel
theorem q167_131 : decode (mB 167) 131 = .ok (.ifCond .ne 22, 3) := by decide +kernel
theorem q167_134 : decode (mB 167) 134 = .ok (.iload 5, 2) := by decide +kernel
theorem q167_136 : decode (mB 167) 136 = .ok (.ifCond .eq 13, 3) := by decide +kernel
theorem q167_139 : decode (mB 167) 139 = .ok (.iload 6, 2) := by decide +kernel
theorem q167_141 : decode (mB 167) 141 = .ok (.ifCond .ne 12, 3) := by decide +kernel
theorem q167_144 : decode (mB 167) 144 = .ok (.iload 4, 2) := by decide +kernel
theorem q167_146 : decode (mB 167) 146 = .ok (.ifCond .ne 7, 3) := by decide +kernel
theorem q167_149 : decode (mB 167) 149 = .ok (.iconst 1, 1) := by decide +kernel
theorem q167_150 : decode (mB 167) 150 = .ok (.goto 4, 3) := by decide +kernel
theorem q167_153 : decode (mB 167) 153 = .ok (.iconst 0, 1) := by decide +kernel
theorem q167_154 : decode (mB 167) 154 = .ok (.istore 7, 2) := by decide +kernel
theorem q167_156 : decode (mB 167) 156 = .ok (.aload_n 1, 1) := by decide +kernel
theorem q167_157 : decode (mB 167) 157 = .ok (.iconst 0, 1) := by decide +kernel
theorem q167_158 : decode (mB 167) 158 = .ok (.iaload, 1) := by decide +kernel
theorem q167_159 : decode (mB 167) 159 = .ok (.iconst 1, 1) := by decide +kernel
theorem q167_160 : decode (mB 167) 160 = .ok (.if_icmp .ne 37, 3) := by decide +kernel
theorem q167_163 : decode (mB 167) 163 = .ok (.aload_n 0, 1) := by decide +kernel
theorem q167_164 : decode (mB 167) 164 = .ok (.aload_n 1, 1) := by decide +kernel
theorem q167_165 : decode (mB 167) 165 = .ok (.iconst 0, 1) := by decide +kernel
theorem q167_166 : cfB 167 166 112 165 1 4 2 = true := by decide +kernel
theorem q167_169 : decode (mB 167) 169 = .ok (.iconst 2, 1) := by decide +kernel
theorem q167_170 : decode (mB 167) 170 = .ok (.if_icmp .eq 13, 3) := by decide +kernel
theorem q167_173 : decode (mB 167) 173 = .ok (.aload_n 0, 1) := by decide +kernel
theorem q167_174 : decode (mB 167) 174 = .ok (.aload_n 1, 1) := by decide +kernel
theorem q167_175 : decode (mB 167) 175 = .ok (.iconst 0, 1) := by decide +kernel
theorem q167_176 : cfB 167 176 112 165 1 4 2 = true := by decide +kernel
theorem q167_179 : decode (mB 167) 179 = .ok (.iconst 4, 1) := by decide +kernel
theorem q167_180 : decode (mB 167) 180 = .ok (.if_icmp .ne 13, 3) := by decide +kernel
theorem q167_183 : decode (mB 167) 183 = .ok (.iload 6, 2) := by decide +kernel
theorem q167_185 : decode (mB 167) 185 = .ok (.ifCond .ne 12, 3) := by decide +kernel
theorem q167_188 : decode (mB 167) 188 = .ok (.iload 4, 2) := by decide +kernel
theorem q167_190 : decode (mB 167) 190 = .ok (.ifCond .ne 7, 3) := by decide +kernel
theorem q167_193 : decode (mB 167) 193 = .ok (.iconst 1, 1) := by decide +kernel
theorem q167_194 : decode (mB 167) 194 = .ok (.goto 4, 3) := by decide +kernel
theorem q167_197 : decode (mB 167) 197 = .ok (.iconst 0, 1) := by decide +kernel
theorem q167_198 : decode (mB 167) 198 = .ok (.istore 8, 2) := by decide +kernel
theorem q167_200 : decode (mB 167) 200 = .ok (.aload_n 1, 1) := by decide +kernel
theorem q167_201 : decode (mB 167) 201 = .ok (.iconst 2, 1) := by decide +kernel
theorem q167_202 : decode (mB 167) 202 = .ok (.iaload, 1) := by decide +kernel
theorem q167_203 : decode (mB 167) 203 = .ok (.ifCond .ge 9, 3) := by decide +kernel
theorem q167_206 : decode (mB 167) 206 = .ok (.aload_n 1, 1) := by decide +kernel
theorem q167_207 : decode (mB 167) 207 = .ok (.iconst 3, 1) := by decide +kernel
theorem q167_208 : decode (mB 167) 208 = .ok (.iaload, 1) := by decide +kernel
theorem q167_209 : decode (mB 167) 209 = .ok (.ifCond .lt 7, 3) := by decide +kernel
theorem q167_212 : decode (mB 167) 212 = .ok (.iload_n 2, 1) := by decide +kernel
theorem q167_213 : decode (mB 167) 213 = .ok (.ifCond .eq 25, 3) := by decide +kernel
theorem q167_216 : decode (mB 167) 216 = .ok (.iload_n 2, 1) := by decide +kernel
theorem q167_217 : decode (mB 167) 217 = .ok (.ifCond .eq 19, 3) := by decide +kernel
theorem q167_220 : decode (mB 167) 220 = .ok (.aload_n 1, 1) := by decide +kernel
theorem q167_221 : decode (mB 167) 221 = .ok (.iconst 2, 1) := by decide +kernel
theorem q167_222 : decode (mB 167) 222 = .ok (.iaload, 1) := by decide +kernel
theorem q167_223 : decode (mB 167) 223 = .ok (.ifCond .ge 9, 3) := by decide +kernel
theorem q167_226 : decode (mB 167) 226 = .ok (.aload_n 1, 1) := by decide +kernel
theorem q167_227 : decode (mB 167) 227 = .ok (.iconst 3, 1) := by decide +kernel
theorem q167_228 : decode (mB 167) 228 = .ok (.iaload, 1) := by decide +kernel
theorem q167_229 : decode (mB 167) 229 = .ok (.ifCond .lt 7, 3) := by decide +kernel
theorem q167_232 : decode (mB 167) 232 = .ok (.iconst 2, 1) := by decide +kernel
theorem q167_233 : decode (mB 167) 233 = .ok (.goto 4, 3) := by decide +kernel
theorem q167_236 : decode (mB 167) 236 = .ok (.iconst 1, 1) := by decide +kernel
theorem q167_237 : decode (mB 167) 237 = .ok (.ireturn, 1) := by decide +kernel
theorem q167_238 : decode (mB 167) 238 = .ok (.aload_n 1, 1) := by decide +kernel
theorem q167_239 : decode (mB 167) 239 = .ok (.iconst 5, 1) := by decide +kernel
theorem q167_240 : decode (mB 167) 240 = .ok (.iaload, 1) := by decide +kernel
theorem q167_241 : decode (mB 167) 241 = .ok (.ifCond .lt 22, 3) := by decide +kernel
theorem q167_244 : decode (mB 167) 244 = .ok (.aload_n 0, 1) := by decide +kernel
theorem q167_245 : decode (mB 167) 245 = .ok (.aload_n 1, 1) := by decide +kernel
theorem q167_246 : decode (mB 167) 246 = .ok (.iconst 3, 1) := by decide +kernel
theorem q167_247 : cfB 167 247 112 165 1 4 2 = true := by decide +kernel
theorem q167_250 : decode (mB 167) 250 = .ok (.iconst 4, 1) := by decide +kernel
theorem q167_251 : decode (mB 167) 251 = .ok (.if_icmp .ne 10, 3) := by decide +kernel
theorem q167_254 : decode (mB 167) 254 = .ok (.aload_n 1, 1) := by decide +kernel
theorem q167_255 : decode (mB 167) 255 = .ok (.iconst 0, 1) := by decide +kernel
theorem q167_256 : decode (mB 167) 256 = .ok (.iaload, 1) := by decide +kernel
theorem q167_257 : decode (mB 167) 257 = .ok (.iconst 2, 1) := by decide +kernel
theorem q167_258 : decode (mB 167) 258 = .ok (.if_icmp .eq 5, 3) := by decide +kernel
theorem q167_261 : decode (mB 167) 261 = .ok (.iconst 3, 1) := by decide +kernel
theorem q167_262 : decode (mB 167) 262 = .ok (.ireturn, 1) := by decide +kernel
theorem q167_263 : decode (mB 167) 263 = .ok (.iload 7, 2) := by decide +kernel
theorem q167_265 : decode (mB 167) 265 = .ok (.ifCond .ne 8, 3) := by decide +kernel
theorem q167_268 : decode (mB 167) 268 = .ok (.iload 8, 2) := by decide +kernel
theorem q167_270 : decode (mB 167) 270 = .ok (.ifCond .eq 14, 3) := by decide +kernel
theorem q167_273 : decode (mB 167) 273 = .ok (.iload 7, 2) := by decide +kernel
theorem q167_275 : decode (mB 167) 275 = .ok (.ifCond .eq 7, 3) := by decide +kernel
theorem q167_278 : decode (mB 167) 278 = .ok (.iconst 4, 1) := by decide +kernel
theorem q167_279 : decode (mB 167) 279 = .ok (.goto 4, 3) := by decide +kernel
theorem q167_282 : decode (mB 167) 282 = .ok (.iconst 5, 1) := by decide +kernel
theorem q167_283 : decode (mB 167) 283 = .ok (.ireturn, 1) := by decide +kernel
theorem q167_284 : decode (mB 167) 284 = .ok (.iload 4, 2) := by decide +kernel
theorem q167_286 : decode (mB 167) 286 = .ok (.ifCond .eq 12, 3) := by decide +kernel
theorem q167_289 : decode (mB 167) 289 = .ok (.aload_n 1, 1) := by decide +kernel
theorem q167_290 : decode (mB 167) 290 = .ok (.iconst 3, 1) := by decide +kernel
theorem q167_291 : decode (mB 167) 291 = .ok (.iaload, 1) := by decide +kernel
theorem q167_292 : decode (mB 167) 292 = .ok (.ifCond .lt 6, 3) := by decide +kernel
theorem q167_295 : decode (mB 167) 295 = .ok (.bipush 6, 2) := by decide +kernel
theorem q167_297 : decode (mB 167) 297 = .ok (.ireturn, 1) := by decide +kernel
theorem q167_298 : decode (mB 167) 298 = .ok (.aload_n 1, 1) := by decide +kernel
theorem q167_299 : decode (mB 167) 299 = .ok (.iconst 1, 1) := by decide +kernel
theorem q167_300 : decode (mB 167) 300 = .ok (.iaload, 1) := by decide +kernel
theorem q167_301 : decode (mB 167) 301 = .ok (.iconst 2, 1) := by decide +kernel
theorem q167_302 : decode (mB 167) 302 = .ok (.if_icmp .ne 18, 3) := by decide +kernel
theorem q167_305 : decode (mB 167) 305 = .ok (.iload 6, 2) := by decide +kernel
theorem q167_307 : decode (mB 167) 307 = .ok (.ifCond .eq 8, 3) := by decide +kernel
theorem q167_310 : decode (mB 167) 310 = .ok (.iload 5, 2) := by decide +kernel
theorem q167_312 : decode (mB 167) 312 = .ok (.ifCond .ne 8, 3) := by decide +kernel
theorem q167_315 : decode (mB 167) 315 = .ok (.bipush 7, 2) := by decide +kernel
theorem q167_317 : decode (mB 167) 317 = .ok (.goto 26, 3) := by decide +kernel
theorem q167_320 : decode (mB 167) 320 = .ok (.iload_n 3, 1) := by decide +kernel
theorem q167_321 : decode (mB 167) 321 = .ok (.ifCond .eq 8, 3) := by decide +kernel
theorem q167_324 : decode (mB 167) 324 = .ok (.bipush 8, 2) := by decide +kernel
theorem q167_326 : decode (mB 167) 326 = .ok (.goto 17, 3) := by decide +kernel
theorem q167_329 : decode (mB 167) 329 = .ok (.aload_n 0, 1) := by decide +kernel
theorem q167_330 : decode (mB 167) 330 = .ok (.aload_n 1, 1) := by decide +kernel
theorem q167_331 : cfB 167 331 116 166 1 4 1 = true := by decide +kernel
theorem q167_334 : decode (mB 167) 334 = .ok (.ifCond .eq 7, 3) := by decide +kernel
theorem q167_337 : decode (mB 167) 337 = .ok (.iconst 0, 1) := by decide +kernel
theorem q167_338 : decode (mB 167) 338 = .ok (.goto 5, 3) := by decide +kernel
theorem q167_341 : decode (mB 167) 341 = .ok (.bipush 9, 2) := by decide +kernel
theorem q167_343 : decode (mB 167) 343 = .ok (.ireturn, 1) := by decide +kernel
theorem q168_0 : decode (mB 168) 0 = .ok (.iconst 0, 1) := by decide +kernel
theorem q168_1 : decode (mB 168) 1 = .ok (.istore_n 2, 1) := by decide +kernel
theorem q168_2 : decode (mB 168) 2 = .ok (.iconst 0, 1) := by decide +kernel
theorem q168_3 : decode (mB 168) 3 = .ok (.istore_n 3, 1) := by decide +kernel
theorem q168_4 : decode (mB 168) 4 = .ok (.iload_n 3, 1) := by decide +kernel
theorem q168_5 : decode (mB 168) 5 = .ok (.iconst 4, 1) := by decide +kernel
theorem q168_6 : decode (mB 168) 6 = .ok (.if_icmp .ge 25, 3) := by decide +kernel
theorem q168_9 : decode (mB 168) 9 = .ok (.iload_n 2, 1) := by decide +kernel
theorem q168_10 : decode (mB 168) 10 = .ok (.aload_n 1, 1) := by decide +kernel
theorem q168_11 : decode (mB 168) 11 = .ok (.iconst 2, 1) := by decide +kernel
theorem q168_12 : decode (mB 168) 12 = .ok (.iload_n 3, 1) := by decide +kernel
theorem q168_13 : decode (mB 168) 13 = .ok (.iadd, 1) := by decide +kernel
theorem q168_14 : decode (mB 168) 14 = .ok (.iaload, 1) := by decide +kernel
theorem q168_15 : decode (mB 168) 15 = .ok (.ifCond .lt 7, 3) := by decide +kernel
theorem q168_18 : decode (mB 168) 18 = .ok (.iconst 1, 1) := by decide +kernel
theorem q168_19 : decode (mB 168) 19 = .ok (.goto 4, 3) := by decide +kernel
theorem q168_22 : decode (mB 168) 22 = .ok (.iconst 0, 1) := by decide +kernel
theorem q168_23 : decode (mB 168) 23 = .ok (.iadd, 1) := by decide +kernel
theorem q168_24 : decode (mB 168) 24 = .ok (.istore_n 2, 1) := by decide +kernel
theorem q168_25 : decode (mB 168) 25 = .ok (.iinc 3 1, 3) := by decide +kernel
theorem q168_28 : decode (mB 168) 28 = .ok (.goto (-24), 3) := by decide +kernel
theorem q168_31 : decode (mB 168) 31 = .ok (.aload_n 1, 1) := by decide +kernel
theorem q168_32 : decode (mB 168) 32 = .ok (.iconst 0, 1) := by decide +kernel
theorem q168_33 : decode (mB 168) 33 = .ok (.iaload, 1) := by decide +kernel
theorem q168_34 : decode (mB 168) 34 = .ok (.ifCond .ne 13, 3) := by decide +kernel
theorem q168_37 : decode (mB 168) 37 = .ok (.aload_n 1, 1) := by decide +kernel
theorem q168_38 : decode (mB 168) 38 = .ok (.iconst 1, 1) := by decide +kernel
theorem q168_39 : decode (mB 168) 39 = .ok (.iaload, 1) := by decide +kernel
theorem q168_40 : decode (mB 168) 40 = .ok (.ifCond .ne 7, 3) := by decide +kernel
theorem q168_43 : decode (mB 168) 43 = .ok (.iconst 1, 1) := by decide +kernel
theorem q168_44 : decode (mB 168) 44 = .ok (.goto 4, 3) := by decide +kernel
theorem q168_47 : decode (mB 168) 47 = .ok (.iconst 0, 1) := by decide +kernel
theorem q168_48 : decode (mB 168) 48 = .ok (.istore_n 3, 1) := by decide +kernel
theorem q168_49 : decode (mB 168) 49 = .ok (.iload_n 3, 1) := by decide +kernel
theorem q168_50 : decode (mB 168) 50 = .ok (.aload_n 0, 1) := by decide +kernel
theorem q168_51 : decode (mB 168) 51 = .ok (.aload_n 1, 1) := by decide +kernel
theorem q168_52 : decode (mB 168) 52 = .ok (.iconst 0, 1) := by decide +kernel
theorem q168_53 : cfB 168 53 112 165 1 4 2 = true := by decide +kernel
theorem q168_56 : decode (mB 168) 56 = .ok (.iconst 3, 1) := by decide +kernel
theorem q168_57 : decode (mB 168) 57 = .ok (.if_icmp .ne 17, 3) := by decide +kernel
theorem q168_60 : decode (mB 168) 60 = .ok (.aload_n 0, 1) := by decide +kernel
theorem q168_61 : decode (mB 168) 61 = .ok (.aload_n 1, 1) := by decide +kernel
theorem q168_62 : decode (mB 168) 62 = .ok (.iconst 1, 1) := by decide +kernel
theorem q168_63 : cfB 168 63 112 165 1 4 2 = true := by decide +kernel
theorem q168_66 : decode (mB 168) 66 = .ok (.iconst 3, 1) := by decide +kernel
theorem q168_67 : decode (mB 168) 67 = .ok (.if_icmp .ne 7, 3) := by decide +kernel
theorem q168_70 : decode (mB 168) 70 = .ok (.iconst 2, 1) := by decide +kernel
theorem q168_71 : decode (mB 168) 71 = .ok (.goto 4, 3) := by decide +kernel
theorem q168_74 : decode (mB 168) 74 = .ok (.iconst 0, 1) := by decide +kernel
theorem q168_75 : decode (mB 168) 75 = .ok (.ior, 1) := by decide +kernel
theorem q168_76 : decode (mB 168) 76 = .ok (.istore_n 3, 1) := by decide +kernel
theorem q168_77 : decode (mB 168) 77 = .ok (.iload_n 3, 1) := by decide +kernel
theorem q168_78 : decode (mB 168) 78 = .ok (.aload_n 0, 1) := by decide +kernel
theorem q168_79 : decode (mB 168) 79 = .ok (.aload_n 1, 1) := by decide +kernel
theorem q168_80 : decode (mB 168) 80 = .ok (.iconst 2, 1) := by decide +kernel
theorem q168_81 : cfB 168 81 112 165 1 4 2 = true := by decide +kernel
theorem q168_84 : decode (mB 168) 84 = .ok (.iconst 4, 1) := by decide +kernel
theorem q168_85 : decode (mB 168) 85 = .ok (.if_icmp .ne 7, 3) := by decide +kernel
theorem q168_88 : decode (mB 168) 88 = .ok (.iconst 4, 1) := by decide +kernel
theorem q168_89 : decode (mB 168) 89 = .ok (.goto 4, 3) := by decide +kernel
theorem q168_92 : decode (mB 168) 92 = .ok (.iconst 0, 1) := by decide +kernel
theorem q168_93 : decode (mB 168) 93 = .ok (.ior, 1) := by decide +kernel
theorem q168_94 : decode (mB 168) 94 = .ok (.istore_n 3, 1) := by decide +kernel
theorem q168_95 : decode (mB 168) 95 = .ok (.iload_n 3, 1) := by decide +kernel
theorem q168_96 : decode (mB 168) 96 = .ok (.aload_n 1, 1) := by decide +kernel
theorem q168_97 : decode (mB 168) 97 = .ok (.iconst 0, 1) := by decide +kernel
theorem q168_98 : decode (mB 168) 98 = .ok (.iaload, 1) := by decide +kernel
theorem q168_99 : decode (mB 168) 99 = .ok (.iconst 2, 1) := by decide +kernel
theorem q168_100 : decode (mB 168) 100 = .ok (.if_icmp .ne 23, 3) := by decide +kernel
theorem q168_103 : decode (mB 168) 103 = .ok (.aload_n 1, 1) := by decide +kernel
theorem q168_104 : decode (mB 168) 104 = .ok (.iconst 1, 1) := by decide +kernel
theorem q168_105 : decode (mB 168) 105 = .ok (.iaload, 1) := by decide +kernel
theorem q168_106 : decode (mB 168) 106 = .ok (.ifCond .ne 17, 3) := by decide +kernel
theorem q168_109 : decode (mB 168) 109 = .ok (.aload_n 0, 1) := by decide +kernel
theorem q168_110 : gfB 168 110 73 8 13 = true := by decide +kernel
theorem q168_113 : decode (mB 168) 113 = .ok (.bipush 20, 2) := by decide +kernel
theorem q168_115 : decode (mB 168) 115 = .ok (.if_icmp .le 8, 3) := by decide +kernel
theorem q168_118 : decode (mB 168) 118 = .ok (.bipush 8, 2) := by decide +kernel
theorem q168_120 : decode (mB 168) 120 = .ok (.goto 4, 3) := by decide +kernel
theorem q168_123 : decode (mB 168) 123 = .ok (.iconst 0, 1) := by decide +kernel
theorem q168_124 : decode (mB 168) 124 = .ok (.ior, 1) := by decide +kernel
theorem q168_125 : decode (mB 168) 125 = .ok (.istore_n 3, 1) := by decide +kernel
theorem q168_126 : decode (mB 168) 126 = .ok (.iload_n 3, 1) := by decide +kernel
theorem q168_127 : decode (mB 168) 127 = .ok (.aload_n 1, 1) := by decide +kernel
theorem q168_128 : decode (mB 168) 128 = .ok (.iconst 0, 1) := by decide +kernel
theorem q168_129 : decode (mB 168) 129 = .ok (.iaload, 1) := by decide +kernel
theorem q168_130 : decode (mB 168) 130 = .ok (.iconst 2, 1) := by decide +kernel
theorem q168_131 : decode (mB 168) 131 = .ok (.if_icmp .ne 14, 3) := by decide +kernel
theorem q168_134 : decode (mB 168) 134 = .ok (.aload_n 1, 1) := by decide +kernel
theorem q168_135 : decode (mB 168) 135 = .ok (.iconst 1, 1) := by decide +kernel
theorem q168_136 : decode (mB 168) 136 = .ok (.iaload, 1) := by decide +kernel
theorem q168_137 : decode (mB 168) 137 = .ok (.ifCond .eq 8, 3) := by decide +kernel
theorem q168_140 : decode (mB 168) 140 = .ok (.bipush 16, 2) := by decide +kernel
theorem q168_142 : decode (mB 168) 142 = .ok (.goto 4, 3) := by decide +kernel
theorem q168_145 : decode (mB 168) 145 = .ok (.iconst 0, 1) := by decide +kernel
theorem q168_146 : decode (mB 168) 146 = .ok (.ior, 1) := by decide +kernel
theorem q168_147 : decode (mB 168) 147 = .ok (.istore_n 3, 1) := by decide +kernel
theorem q168_148 : decode (mB 168) 148 = .ok (.iload_n 3, 1) := by decide +kernel
theorem q168_149 : decode (mB 168) 149 = .ok (.iload_n 2, 1) := by decide +kernel
theorem q168_150 : decode (mB 168) 150 = .ok (.iconst 3, 1) := by decide +kernel
theorem q168_151 : decode (mB 168) 151 = .ok (.if_icmp .lt 8, 3) := by decide +kernel
theorem q168_154 : decode (mB 168) 154 = .ok (.bipush 32, 2) := by decide +kernel
theorem q168_156 : decode (mB 168) 156 = .ok (.goto 4, 3) := by decide +kernel
theorem q168_159 : decode (mB 168) 159 = .ok (.iconst 0, 1) := by decide +kernel
theorem q168_160 : decode (mB 168) 160 = .ok (.ior, 1) := by decide +kernel
theorem q168_161 : decode (mB 168) 161 = .ok (.istore_n 3, 1) := by decide +kernel
theorem q168_162 : decode (mB 168) 162 = .ok (.iload_n 3, 1) := by decide +kernel
theorem q168_163 : decode (mB 168) 163 = .ok (.aload_n 0, 1) := by decide +kernel
theorem q168_164 : decode (mB 168) 164 = .ok (.aload_n 1, 1) := by decide +kernel
theorem q168_165 : decode (mB 168) 165 = .ok (.iconst 2, 1) := by decide +kernel
theorem q168_166 : cfB 168 166 112 165 1 4 2 = true := by decide +kernel
theorem q168_169 : decode (mB 168) 169 = .ok (.iconst 3, 1) := by decide +kernel
theorem q168_170 : decode (mB 168) 170 = .ok (.if_icmp .ne 20, 3) := by decide +kernel
theorem q168_173 : decode (mB 168) 173 = .ok (.aload_n 0, 1) := by decide +kernel
theorem q168_174 : gfB 168 174 22 8 4 = true := by decide +kernel
theorem q168_177 : decode (mB 168) 177 = .ok (.aload_n 1, 1) := by decide +kernel
theorem q168_178 : decode (mB 168) 178 = .ok (.iconst 4, 1) := by decide +kernel
theorem q168_179 : decode (mB 168) 179 = .ok (.iaload, 1) := by decide +kernel
theorem q168_180 : decode (mB 168) 180 = .ok (.iaload, 1) := by decide +kernel
theorem q168_181 : decode (mB 168) 181 = .ok (.iconst 4, 1) := by decide +kernel
theorem q168_182 : decode (mB 168) 182 = .ok (.if_icmp .le 8, 3) := by decide +kernel
theorem q168_185 : decode (mB 168) 185 = .ok (.bipush 64, 2) := by decide +kernel
theorem q168_187 : decode (mB 168) 187 = .ok (.goto 4, 3) := by decide +kernel
theorem q168_190 : decode (mB 168) 190 = .ok (.iconst 0, 1) := by decide +kernel
theorem q168_191 : decode (mB 168) 191 = .ok (.ior, 1) := by decide +kernel
theorem q168_192 : decode (mB 168) 192 = .ok (.istore_n 3, 1) := by decide +kernel
theorem q168_193 : decode (mB 168) 193 = .ok (.iload_n 3, 1) := by decide +kernel
theorem q168_194 : decode (mB 168) 194 = .ok (.aload_n 1, 1) := by decide +kernel
theorem q168_195 : decode (mB 168) 195 = .ok (.iconst 2, 1) := by decide +kernel
theorem q168_196 : decode (mB 168) 196 = .ok (.iaload, 1) := by decide +kernel
theorem q168_197 : decode (mB 168) 197 = .ok (.ifCond .lt 9, 3) := by decide +kernel
theorem q168_200 : decode (mB 168) 200 = .ok (.aload_n 1, 1) := by decide +kernel
theorem q168_201 : decode (mB 168) 201 = .ok (.iconst 3, 1) := by decide +kernel
theorem q168_202 : decode (mB 168) 202 = .ok (.iaload, 1) := by decide +kernel
theorem q168_203 : decode (mB 168) 203 = .ok (.ifCond .ge 9, 3) := by decide +kernel
theorem q168_206 : decode (mB 168) 206 = .ok (.sipush 128, 3) := by decide +kernel
theorem q168_209 : decode (mB 168) 209 = .ok (.goto 4, 3) := by decide +kernel
theorem q168_212 : decode (mB 168) 212 = .ok (.iconst 0, 1) := by decide +kernel
theorem q168_213 : decode (mB 168) 213 = .ok (.ior, 1) := by decide +kernel
theorem q168_214 : decode (mB 168) 214 = .ok (.ireturn, 1) := by decide +kernel
theorem q169_0 : decode (mB 169) 0 = .ok (.iconst 0, 1) := by decide +kernel
theorem q169_1 : decode (mB 169) 1 = .ok (.istore_n 2, 1) := by decide +kernel
theorem q169_2 : decode (mB 169) 2 = .ok (.iconst 0, 1) := by decide +kernel
theorem q169_3 : decode (mB 169) 3 = .ok (.istore_n 3, 1) := by decide +kernel
theorem q169_4 : decode (mB 169) 4 = .ok (.iload_n 3, 1) := by decide +kernel
theorem q169_5 : decode (mB 169) 5 = .ok (.aload_n 0, 1) := by decide +kernel
theorem q169_6 : gfB 169 6 73 8 13 = true := by decide +kernel
theorem q169_9 : decode (mB 169) 9 = .ok (.if_icmp .ge 73, 3) := by decide +kernel
theorem q169_12 : decode (mB 169) 12 = .ok (.iconst 0, 1) := by decide +kernel
theorem q169_13 : decode (mB 169) 13 = .ok (.istore 4, 2) := by decide +kernel
theorem q169_15 : decode (mB 169) 15 = .ok (.iconst 2, 1) := by decide +kernel
theorem q169_16 : decode (mB 169) 16 = .ok (.istore 5, 2) := by decide +kernel
theorem q169_18 : decode (mB 169) 18 = .ok (.iload 5, 2) := by decide +kernel
theorem q169_20 : decode (mB 169) 20 = .ok (.bipush 6, 2) := by decide +kernel
theorem q169_22 : decode (mB 169) 22 = .ok (.if_icmp .ge 41, 3) := by decide +kernel
theorem q169_25 : decode (mB 169) 25 = .ok (.iload 4, 2) := by decide +kernel
theorem q169_27 : decode (mB 169) 27 = .ok (.aload_n 1, 1) := by decide +kernel
theorem q169_28 : decode (mB 169) 28 = .ok (.iload 5, 2) := by decide +kernel
theorem q169_30 : decode (mB 169) 30 = .ok (.iaload, 1) := by decide +kernel
theorem q169_31 : decode (mB 169) 31 = .ok (.ifCond .lt 22, 3) := by decide +kernel
theorem q169_34 : decode (mB 169) 34 = .ok (.aload_n 0, 1) := by decide +kernel
theorem q169_35 : decode (mB 169) 35 = .ok (.iload_n 3, 1) := by decide +kernel
theorem q169_36 : decode (mB 169) 36 = .ok (.aload_n 1, 1) := by decide +kernel
theorem q169_37 : decode (mB 169) 37 = .ok (.iload 5, 2) := by decide +kernel
theorem q169_39 : decode (mB 169) 39 = .ok (.iaload, 1) := by decide +kernel
theorem q169_40 : cfB 169 40 80 144 1 4 2 = true := by decide +kernel
theorem q169_43 : decode (mB 169) 43 = .ok (.sipush (-10000), 3) := by decide +kernel
theorem q169_46 : decode (mB 169) 46 = .ok (.if_icmp .ne 7, 3) := by decide +kernel
theorem q169_49 : decode (mB 169) 49 = .ok (.iconst 1, 1) := by decide +kernel
theorem q169_50 : decode (mB 169) 50 = .ok (.goto 4, 3) := by decide +kernel
theorem q169_53 : decode (mB 169) 53 = .ok (.iconst 0, 1) := by decide +kernel
theorem q169_54 : decode (mB 169) 54 = .ok (.ior, 1) := by decide +kernel
theorem q169_55 : decode (mB 169) 55 = .ok (.istore 4, 2) := by decide +kernel
theorem q169_57 : decode (mB 169) 57 = .ok (.iinc 5 1, 3) := by decide +kernel
theorem q169_60 : decode (mB 169) 60 = .ok (.goto (-42), 3) := by decide +kernel
theorem q169_63 : decode (mB 169) 63 = .ok (.iload_n 2, 1) := by decide +kernel
theorem q169_64 : decode (mB 169) 64 = .ok (.iload 4, 2) := by decide +kernel
theorem q169_66 : decode (mB 169) 66 = .ok (.ifCond .eq 7, 3) := by decide +kernel
theorem q169_69 : decode (mB 169) 69 = .ok (.iconst 1, 1) := by decide +kernel
theorem q169_70 : decode (mB 169) 70 = .ok (.goto 4, 3) := by decide +kernel
theorem q169_73 : decode (mB 169) 73 = .ok (.iconst 0, 1) := by decide +kernel
theorem q169_74 : decode (mB 169) 74 = .ok (.iadd, 1) := by decide +kernel
theorem q169_75 : decode (mB 169) 75 = .ok (.istore_n 2, 1) := by decide +kernel
theorem q169_76 : decode (mB 169) 76 = .ok (.iinc 3 1, 3) := by decide +kernel
theorem q169_79 : decode (mB 169) 79 = .ok (.goto (-75), 3) := by decide +kernel
theorem q169_82 : decode (mB 169) 82 = .ok (.iload_n 2, 1) := by decide +kernel
theorem q169_83 : decode (mB 169) 83 = .ok (.ireturn, 1) := by decide +kernel
end
section
/-! what each instruction is, method by method (by program) -/

theorem q170_0 : decode (mB 170) 0 = .ok (.aload_n 0, 1) := by decide +kernel
theorem q170_1 : decode (mB 170) 1 = .ok (.aload_n 1, 1) := by decide +kernel
theorem q170_2 : decode (mB 170) 2 = .ok (.iconst 0, 1) := by decide +kernel
theorem q170_3 : cfB 170 3 112 165 1 4 2 = true := by decide +kernel
theorem q170_6 : decode (mB 170) 6 = .ok (.istore_n 2, 1) := by decide +kernel
theorem q170_7 : decode (mB 170) 7 = .ok (.aload_n 0, 1) := by decide +kernel
theorem q170_8 : decode (mB 170) 8 = .ok (.aload_n 1, 1) := by decide +kernel
theorem q170_9 : decode (mB 170) 9 = .ok (.iconst 1, 1) := by decide +kernel
theorem q170_10 : cfB 170 10 112 165 1 4 2 = true := by decide +kernel
theorem q170_13 : decode (mB 170) 13 = .ok (.istore_n 3, 1) := by decide +kernel
theorem q170_14 : decode (mB 170) 14 = .ok (.aload_n 0, 1) := by decide +kernel
theorem q170_15 : decode (mB 170) 15 = .ok (.aload_n 1, 1) := by decide +kernel
theorem q170_16 : decode (mB 170) 16 = .ok (.iconst 2, 1) := by decide +kernel
theorem q170_17 : cfB 170 17 112 165 1 4 2 = true := by decide +kernel
theorem q170_20 : decode (mB 170) 20 = .ok (.istore 4, 2) := by decide +kernel
theorem q170_22 : decode (mB 170) 22 = .ok (.aload_n 0, 1) := by decide +kernel
theorem q170_23 : decode (mB 170) 23 = .ok (.aload_n 1, 1) := by decide +kernel
theorem q170_24 : cfB 170 24 120 169 1 4 1 = true := by decide +kernel
theorem q170_27 : decode (mB 170) 27 = .ok (.iconst 5, 1) := by decide +kernel
theorem q170_28 : decode (mB 170) 28 = .ok (.idiv, 1) := by decide +kernel
theorem q170_29 : decode (mB 170) 29 = .ok (.istore 5, 2) := by decide +kernel
theorem q170_31 : decode (mB 170) 31 = .ok (.iload 5, 2) := by decide +kernel
theorem q170_33 : decode (mB 170) 33 = .ok (.iload_n 2, 1) := by decide +kernel
theorem q170_34 : decode (mB 170) 34 = .ok (.iconst 3, 1) := by decide +kernel
theorem q170_35 : decode (mB 170) 35 = .ok (.if_icmp .eq 8, 3) := by decide +kernel
theorem q170_38 : decode (mB 170) 38 = .ok (.iload_n 2, 1) := by decide +kernel
theorem q170_39 : decode (mB 170) 39 = .ok (.iconst 4, 1) := by decide +kernel
theorem q170_40 : decode (mB 170) 40 = .ok (.if_icmp .ne 7, 3) := by decide +kernel
theorem q170_43 : decode (mB 170) 43 = .ok (.iconst 1, 1) := by decide +kernel
theorem q170_44 : decode (mB 170) 44 = .ok (.goto 4, 3) := by decide +kernel
theorem q170_47 : decode (mB 170) 47 = .ok (.iconst 0, 1) := by decide +kernel
theorem q170_48 : decode (mB 170) 48 = .ok (.iadd, 1) := by decide +kernel
theorem q170_49 : decode (mB 170) 49 = .ok (.istore 5, 2) := by decide +kernel
theorem q170_51 : decode (mB 170) 51 = .ok (.iload 5, 2) := by decide +kernel
theorem q170_53 : decode (mB 170) 53 = .ok (.iload_n 3, 1) := by decide +kernel
theorem q170_54 : decode (mB 170) 54 = .ok (.iconst 2, 1) := by decide +kernel
theorem q170_55 : decode (mB 170) 55 = .ok (.if_icmp .eq 8, 3) := by decide +kernel
theorem q170_58 : decode (mB 170) 58 = .ok (.iload_n 3, 1) := by decide +kernel
theorem q170_59 : decode (mB 170) 59 = .ok (.iconst 3, 1) := by decide +kernel
theorem q170_60 : decode (mB 170) 60 = .ok (.if_icmp .ne 7, 3) := by decide +kernel
theorem q170_63 : decode (mB 170) 63 = .ok (.iconst 2, 1) := by decide +kernel
theorem q170_64 : decode (mB 170) 64 = .ok (.goto 4, 3) := by decide +kernel
theorem q170_67 : decode (mB 170) 67 = .ok (.iconst 0, 1) := by decide +kernel
theorem q170_68 : decode (mB 170) 68 = .ok (.iadd, 1) := by decide +kernel
theorem q170_69 : decode (mB 170) 69 = .ok (.istore 5, 2) := by decide +kernel
theorem q170_71 : decode (mB 170) 71 = .ok (.iload 5, 2) := by decide +kernel
theorem q170_73 : decode (mB 170) 73 = .ok (.iload 4, 2) := by decide +kernel
theorem q170_75 : decode (mB 170) 75 = .ok (.iconst 2, 1) := by decide +kernel
theorem q170_76 : decode (mB 170) 76 = .ok (.if_icmp .ne 8, 3) := by decide +kernel
theorem q170_79 : decode (mB 170) 79 = .ok (.bipush 6, 2) := by decide +kernel
theorem q170_81 : decode (mB 170) 81 = .ok (.goto 24, 3) := by decide +kernel
theorem q170_84 : decode (mB 170) 84 = .ok (.iload 4, 2) := by decide +kernel
theorem q170_86 : decode (mB 170) 86 = .ok (.iconst 3, 1) := by decide +kernel
theorem q170_87 : decode (mB 170) 87 = .ok (.if_icmp .ne 7, 3) := by decide +kernel
theorem q170_90 : decode (mB 170) 90 = .ok (.iconst 2, 1) := by decide +kernel
theorem q170_91 : decode (mB 170) 91 = .ok (.goto 14, 3) := by decide +kernel
theorem q170_94 : decode (mB 170) 94 = .ok (.iload 4, 2) := by decide +kernel
theorem q170_96 : decode (mB 170) 96 = .ok (.iconst 4, 1) := by decide +kernel
theorem q170_97 : decode (mB 170) 97 = .ok (.if_icmp .ne 7, 3) := by decide +kernel
theorem q170_100 : decode (mB 170) 100 = .ok (.iconst 4, 1) := by decide +kernel
theorem q170_101 : decode (mB 170) 101 = .ok (.goto 4, 3) := by decide +kernel
theorem q170_104 : decode (mB 170) 104 = .ok (.iconst 0, 1) := by decide +kernel
theorem q170_105 : decode (mB 170) 105 = .ok (.iadd, 1) := by decide +kernel
theorem q170_106 : decode (mB 170) 106 = .ok (.istore 5, 2) := by decide +kernel
theorem q170_108 : decode (mB 170) 108 = .ok (.iload 5, 2) := by decide +kernel
theorem q170_110 : decode (mB 170) 110 = .ok (.aload_n 0, 1) := by decide +kernel
theorem q170_111 : decode (mB 170) 111 = .ok (.aload_n 1, 1) := by decide +kernel
theorem q170_112 : decode (mB 170) 112 = .ok (.iconst 3, 1) := by decide +kernel
theorem q170_113 : cfB 170 113 112 165 1 4 2 = true := by decide +kernel
theorem q170_116 : decode (mB 170) 116 = .ok (.iconst 4, 1) := by decide +kernel
theorem q170_117 : decode (mB 170) 117 = .ok (.if_icmp .ne 7, 3) := by decide +kernel
theorem q170_120 : decode (mB 170) 120 = .ok (.iconst 3, 1) := by decide +kernel
theorem q170_121 : decode (mB 170) 121 = .ok (.goto 4, 3) := by decide +kernel
theorem q170_124 : decode (mB 170) 124 = .ok (.iconst 0, 1) := by decide +kernel
theorem q170_125 : decode (mB 170) 125 = .ok (.iadd, 1) := by decide +kernel
theorem q170_126 : decode (mB 170) 126 = .ok (.istore 5, 2) := by decide +kernel
theorem q170_128 : decode (mB 170) 128 = .ok (.aload_n 0, 1) := by decide +kernel
theorem q170_129 : decode (mB 170) 129 = .ok (.aload_n 1, 1) := by decide +kernel
theorem q170_130 : cfB 170 130 124 168 1 4 1 = true := by decide +kernel
theorem q170_133 : decode (mB 170) 133 = .ok (.istore 6, 2) := by decide +kernel
theorem q170_135 : decode (mB 170) 135 = .ok (.iconst 0, 1) := by decide +kernel
theorem q170_136 : decode (mB 170) 136 = .ok (.istore 7, 2) := by decide +kernel
theorem q170_138 : decode (mB 170) 138 = .ok (.iload 7, 2) := by decide +kernel
theorem q170_140 : decode (mB 170) 140 = .ok (.bipush 8, 2) := by decide +kernel
theorem q170_142 : decode (mB 170) 142 = .ok (.if_icmp .ge 36, 3) := by decide +kernel
theorem q170_145 : decode (mB 170) 145 = .ok (.iload 5, 2) := by decide +kernel
theorem q170_147 : decode (mB 170) 147 = .ok (.iload 6, 2) := by decide +kernel
theorem q170_149 : decode (mB 170) 149 = .ok (.iload 7, 2) := by decide +kernel
theorem q170_151 : decode (mB 170) 151 = .ok (.ishr, 1) := by decide +kernel
theorem q170_152 : decode (mB 170) 152 = .ok (.iconst 1, 1) := by decide +kernel
theorem q170_153 : decode (mB 170) 153 = .ok (.iand, 1) := by decide +kernel
theorem q170_154 : decode (mB 170) 154 = .ok (.iconst 1, 1) := by decide +kernel
theorem q170_155 : decode (mB 170) 155 = .ok (.if_icmp .ne 13, 3) := by decide +kernel
theorem q170_158 : decode (mB 170) 158 = .ok (.aload_n 0, 1) := by decide +kernel
theorem q170_159 : gfB 170 159 16 8 2 = true := by decide +kernel
theorem q170_162 : decode (mB 170) 162 = .ok (.iload 7, 2) := by decide +kernel
theorem q170_164 : decode (mB 170) 164 = .ok (.iaload, 1) := by decide +kernel
theorem q170_165 : decode (mB 170) 165 = .ok (.goto 4, 3) := by decide +kernel
theorem q170_168 : decode (mB 170) 168 = .ok (.iconst 0, 1) := by decide +kernel
theorem q170_169 : decode (mB 170) 169 = .ok (.iadd, 1) := by decide +kernel
theorem q170_170 : decode (mB 170) 170 = .ok (.istore 5, 2) := by decide +kernel
theorem q170_172 : decode (mB 170) 172 = .ok (.iinc 7 1, 3) := by decide +kernel
theorem q170_175 : decode (mB 170) 175 = .ok (.goto (-37), 3) := by decide +kernel
theorem q170_178 : decode (mB 170) 178 = .ok (.iload 5, 2) := by decide +kernel
theorem q170_180 : decode (mB 170) 180 = .ok (.ireturn, 1) := by decide +kernel
theorem q171_0 : decode (mB 171) 0 = .ok (.aload_n 0, 1) := by decide +kernel
theorem q171_1 : decode (mB 171) 1 = .ok (.aload_n 0, 1) := by decide +kernel
theorem q171_2 : gfB 171 2 32 8 7 = true := by decide +kernel
theorem q171_5 : cfB 171 5 127 170 1 4 1 = true := by decide +kernel
theorem q171_8 : decode (mB 171) 8 = .ok (.istore_n 1, 1) := by decide +kernel
theorem q171_9 : decode (mB 171) 9 = .ok (.aload_n 0, 1) := by decide +kernel
theorem q171_10 : decode (mB 171) 10 = .ok (.dup, 1) := by decide +kernel
theorem q171_11 : gfB 171 11 130 8 17 = true := by decide +kernel
theorem q171_14 : decode (mB 171) 14 = .ok (.iconst 1, 1) := by decide +kernel
theorem q171_15 : decode (mB 171) 15 = .ok (.iadd, 1) := by decide +kernel
theorem q171_16 : pfB 171 16 130 8 17 = true := by decide +kernel
theorem q171_19 : decode (mB 171) 19 = .ok (.aload_n 0, 1) := by decide +kernel
theorem q171_20 : gfB 171 20 133 8 15 = true := by decide +kernel
theorem q171_23 : decode (mB 171) 23 = .ok (.istore_n 2, 1) := by decide +kernel
theorem q171_24 : decode (mB 171) 24 = .ok (.iload_n 2, 1) := by decide +kernel
theorem q171_25 : decode (mB 171) 25 = .ok (.ifCond .le 21, 3) := by decide +kernel
theorem q171_28 : decode (mB 171) 28 = .ok (.aload_n 0, 1) := by decide +kernel
theorem q171_29 : gfB 171 29 44 8 11 = true := by decide +kernel
theorem q171_32 : decode (mB 171) 32 = .ok (.iload_n 2, 1) := by decide +kernel
theorem q171_33 : decode (mB 171) 33 = .ok (.iconst 1, 1) := by decide +kernel
theorem q171_34 : decode (mB 171) 34 = .ok (.isub, 1) := by decide +kernel
theorem q171_35 : decode (mB 171) 35 = .ok (.iaload, 1) := by decide +kernel
theorem q171_36 : decode (mB 171) 36 = .ok (.iload_n 1, 1) := by decide +kernel
theorem q171_37 : decode (mB 171) 37 = .ok (.if_icmp .le 9, 3) := by decide +kernel
theorem q171_40 : decode (mB 171) 40 = .ok (.iinc 2 (-1), 3) := by decide +kernel
theorem q171_43 : decode (mB 171) 43 = .ok (.goto (-19), 3) := by decide +kernel
theorem q171_46 : decode (mB 171) 46 = .ok (.iload_n 2, 1) := by decide +kernel
theorem q171_47 : decode (mB 171) 47 = .ok (.iconst 5, 1) := by decide +kernel
theorem q171_48 : decode (mB 171) 48 = .ok (.if_icmp .ge 147, 3) := by decide +kernel
theorem q171_51 : decode (mB 171) 51 = .ok (.aload_n 0, 1) := by decide +kernel
theorem q171_52 : gfB 171 52 133 8 15 = true := by decide +kernel
theorem q171_55 : decode (mB 171) 55 = .ok (.iconst 4, 1) := by decide +kernel
theorem q171_56 : decode (mB 171) 56 = .ok (.if_icmp .ge 10, 3) := by decide +kernel
theorem q171_59 : decode (mB 171) 59 = .ok (.aload_n 0, 1) := by decide +kernel
theorem q171_60 : gfB 171 60 133 8 15 = true := by decide +kernel
theorem q171_63 : decode (mB 171) 63 = .ok (.goto 4, 3) := by decide +kernel
theorem q171_66 : decode (mB 171) 66 = .ok (.iconst 4, 1) := by decide +kernel
theorem q171_67 : decode (mB 171) 67 = .ok (.istore_n 3, 1) := by decide +kernel
theorem q171_68 : decode (mB 171) 68 = .ok (.iload_n 3, 1) := by decide +kernel
theorem q171_69 : decode (mB 171) 69 = .ok (.iload_n 2, 1) := by decide +kernel
theorem q171_70 : decode (mB 171) 70 = .ok (.if_icmp .le 65, 3) := by decide +kernel
theorem q171_73 : decode (mB 171) 73 = .ok (.aload_n 0, 1) := by decide +kernel
theorem q171_74 : gfB 171 74 44 8 11 = true := by decide +kernel
theorem q171_77 : decode (mB 171) 77 = .ok (.iload_n 3, 1) := by decide +kernel
theorem q171_78 : decode (mB 171) 78 = .ok (.aload_n 0, 1) := by decide +kernel
theorem q171_79 : gfB 171 79 44 8 11 = true := by decide +kernel
theorem q171_82 : decode (mB 171) 82 = .ok (.iload_n 3, 1) := by decide +kernel
theorem q171_83 : decode (mB 171) 83 = .ok (.iconst 1, 1) := by decide +kernel
theorem q171_84 : decode (mB 171) 84 = .ok (.isub, 1) := by decide +kernel
theorem q171_85 : decode (mB 171) 85 = .ok (.iaload, 1) := by decide +kernel
theorem q171_86 : decode (mB 171) 86 = .ok (.iastore, 1) := by decide +kernel
theorem q171_87 : decode (mB 171) 87 = .ok (.iconst 0, 1) := by decide +kernel
theorem q171_88 : decode (mB 171) 88 = .ok (.istore 4, 2) := by decide +kernel
theorem q171_90 : decode (mB 171) 90 = .ok (.iload 4, 2) := by decide +kernel
theorem q171_92 : decode (mB 171) 92 = .ok (.bipush 6, 2) := by decide +kernel
theorem q171_94 : decode (mB 171) 94 = .ok (.if_icmp .ge 35, 3) := by decide +kernel
theorem q171_97 : decode (mB 171) 97 = .ok (.aload_n 0, 1) := by decide +kernel
theorem q171_98 : gfB 171 98 41 8 10 = true := by decide +kernel
theorem q171_101 : decode (mB 171) 101 = .ok (.bipush 6, 2) := by decide +kernel
theorem q171_103 : decode (mB 171) 103 = .ok (.iload_n 3, 1) := by decide +kernel
theorem q171_104 : decode (mB 171) 104 = .ok (.imul, 1) := by decide +kernel
theorem q171_105 : decode (mB 171) 105 = .ok (.iload 4, 2) := by decide +kernel
theorem q171_107 : decode (mB 171) 107 = .ok (.iadd, 1) := by decide +kernel
theorem q171_108 : decode (mB 171) 108 = .ok (.aload_n 0, 1) := by decide +kernel
theorem q171_109 : gfB 171 109 41 8 10 = true := by decide +kernel
theorem q171_112 : decode (mB 171) 112 = .ok (.bipush 6, 2) := by decide +kernel
theorem q171_114 : decode (mB 171) 114 = .ok (.iload_n 3, 1) := by decide +kernel
theorem q171_115 : decode (mB 171) 115 = .ok (.iconst 1, 1) := by decide +kernel
theorem q171_116 : decode (mB 171) 116 = .ok (.isub, 1) := by decide +kernel
theorem q171_117 : decode (mB 171) 117 = .ok (.imul, 1) := by decide +kernel
theorem q171_118 : decode (mB 171) 118 = .ok (.iload 4, 2) := by decide +kernel
theorem q171_120 : decode (mB 171) 120 = .ok (.iadd, 1) := by decide +kernel
theorem q171_121 : decode (mB 171) 121 = .ok (.iaload, 1) := by decide +kernel
theorem q171_122 : decode (mB 171) 122 = .ok (.iastore, 1) := by decide +kernel
theorem q171_123 : decode (mB 171) 123 = .ok (.iinc 4 1, 3) := by decide +kernel
theorem q171_126 : decode (mB 171) 126 = .ok (.goto (-36), 3) := by decide +kernel
theorem q171_129 : decode (mB 171) 129 = .ok (.iinc 3 (-1), 3) := by decide +kernel
theorem q171_132 : decode (mB 171) 132 = .ok (.goto (-64), 3) := by decide +kernel
theorem q171_135 : decode (mB 171) 135 = .ok (.aload_n 0, 1) := by decide +kernel
theorem q171_136 : gfB 171 136 44 8 11 = true := by decide +kernel
theorem q171_139 : decode (mB 171) 139 = .ok (.iload_n 2, 1) := by decide +kernel
theorem q171_140 : decode (mB 171) 140 = .ok (.iload_n 1, 1) := by decide +kernel
theorem q171_141 : decode (mB 171) 141 = .ok (.iastore, 1) := by decide +kernel
theorem q171_142 : decode (mB 171) 142 = .ok (.iconst 0, 1) := by decide +kernel
theorem q171_143 : decode (mB 171) 143 = .ok (.istore_n 3, 1) := by decide +kernel
theorem q171_144 : decode (mB 171) 144 = .ok (.iload_n 3, 1) := by decide +kernel
theorem q171_145 : decode (mB 171) 145 = .ok (.bipush 6, 2) := by decide +kernel
theorem q171_147 : decode (mB 171) 147 = .ok (.if_icmp .ge 26, 3) := by decide +kernel
theorem q171_150 : decode (mB 171) 150 = .ok (.aload_n 0, 1) := by decide +kernel
theorem q171_151 : gfB 171 151 41 8 10 = true := by decide +kernel
theorem q171_154 : decode (mB 171) 154 = .ok (.bipush 6, 2) := by decide +kernel
theorem q171_156 : decode (mB 171) 156 = .ok (.iload_n 2, 1) := by decide +kernel
theorem q171_157 : decode (mB 171) 157 = .ok (.imul, 1) := by decide +kernel
theorem q171_158 : decode (mB 171) 158 = .ok (.iload_n 3, 1) := by decide +kernel
theorem q171_159 : decode (mB 171) 159 = .ok (.iadd, 1) := by decide +kernel
theorem q171_160 : decode (mB 171) 160 = .ok (.aload_n 0, 1) := by decide +kernel
theorem q171_161 : gfB 171 161 32 8 7 = true := by decide +kernel
theorem q171_164 : decode (mB 171) 164 = .ok (.iload_n 3, 1) := by decide +kernel
theorem q171_165 : decode (mB 171) 165 = .ok (.iaload, 1) := by decide +kernel
theorem q171_166 : decode (mB 171) 166 = .ok (.iastore, 1) := by decide +kernel
theorem q171_167 : decode (mB 171) 167 = .ok (.iinc 3 1, 3) := by decide +kernel
theorem q171_170 : decode (mB 171) 170 = .ok (.goto (-26), 3) := by decide +kernel
theorem q171_173 : decode (mB 171) 173 = .ok (.aload_n 0, 1) := by decide +kernel
theorem q171_174 : decode (mB 171) 174 = .ok (.dup, 1) := by decide +kernel
theorem q171_175 : gfB 171 175 133 8 15 = true := by decide +kernel
theorem q171_178 : decode (mB 171) 178 = .ok (.aload_n 0, 1) := by decide +kernel
theorem q171_179 : gfB 171 179 133 8 15 = true := by decide +kernel
theorem q171_182 : decode (mB 171) 182 = .ok (.iconst 5, 1) := by decide +kernel
theorem q171_183 : decode (mB 171) 183 = .ok (.if_icmp .ge 7, 3) := by decide +kernel
theorem q171_186 : decode (mB 171) 186 = .ok (.iconst 1, 1) := by decide +kernel
theorem q171_187 : decode (mB 171) 187 = .ok (.goto 4, 3) := by decide +kernel
theorem q171_190 : decode (mB 171) 190 = .ok (.iconst 0, 1) := by decide +kernel
theorem q171_191 : decode (mB 171) 191 = .ok (.iadd, 1) := by decide +kernel
theorem q171_192 : pfB 171 192 133 8 15 = true := by decide +kernel
theorem q171_195 : decode (mB 171) 195 = .ok (.return_, 1) := by decide +kernel
theorem q172_0 : decode (mB 172) 0 = .ok (.iconst 1, 1) := by decide +kernel
theorem q172_1 : decode (mB 172) 1 = .ok (.istore_n 3, 1) := by decide +kernel
theorem q172_2 : decode (mB 172) 2 = .ok (.iconst 0, 1) := by decide +kernel
theorem q172_3 : decode (mB 172) 3 = .ok (.istore 4, 2) := by decide +kernel
theorem q172_5 : decode (mB 172) 5 = .ok (.iload 4, 2) := by decide +kernel
theorem q172_7 : decode (mB 172) 7 = .ok (.bipush 6, 2) := by decide +kernel
theorem q172_9 : decode (mB 172) 9 = .ok (.if_icmp .ge 28, 3) := by decide +kernel
theorem q172_12 : decode (mB 172) 12 = .ok (.iload_n 3, 1) := by decide +kernel
theorem q172_13 : decode (mB 172) 13 = .ok (.aload_n 1, 1) := by decide +kernel
theorem q172_14 : decode (mB 172) 14 = .ok (.iload 4, 2) := by decide +kernel
theorem q172_16 : decode (mB 172) 16 = .ok (.iaload, 1) := by decide +kernel
theorem q172_17 : decode (mB 172) 17 = .ok (.aload_n 2, 1) := by decide +kernel
theorem q172_18 : decode (mB 172) 18 = .ok (.iload 4, 2) := by decide +kernel
theorem q172_20 : decode (mB 172) 20 = .ok (.iaload, 1) := by decide +kernel
theorem q172_21 : decode (mB 172) 21 = .ok (.if_icmp .ne 7, 3) := by decide +kernel
theorem q172_24 : decode (mB 172) 24 = .ok (.iconst 1, 1) := by decide +kernel
theorem q172_25 : decode (mB 172) 25 = .ok (.goto 4, 3) := by decide +kernel
theorem q172_28 : decode (mB 172) 28 = .ok (.iconst 0, 1) := by decide +kernel
theorem q172_29 : decode (mB 172) 29 = .ok (.iand, 1) := by decide +kernel
theorem q172_30 : decode (mB 172) 30 = .ok (.istore_n 3, 1) := by decide +kernel
theorem q172_31 : decode (mB 172) 31 = .ok (.iinc 4 1, 3) := by decide +kernel
theorem q172_34 : decode (mB 172) 34 = .ok (.goto (-29), 3) := by decide +kernel
theorem q172_37 : decode (mB 172) 37 = .ok (.iload_n 3, 1) := by decide +kernel
theorem q172_38 : decode (mB 172) 38 = .ok (.ireturn, 1) := by decide +kernel
theorem q173_0 : decode (mB 173) 0 = .ok (.aload_n 0, 1) := by decide +kernel
theorem q173_1 : gfB 173 1 76 8 22 = true := by decide +kernel
theorem q173_4 : decode (mB 173) 4 = .ok (.ifCond .eq 4, 3) := by decide +kernel
theorem q173_7 : decode (mB 173) 7 = .ok (.return_, 1) := by decide +kernel
theorem q173_8 : decode (mB 173) 8 = .ok (.aload_n 0, 1) := by decide +kernel
theorem q173_9 : decode (mB 173) 9 = .ok (.iconst 1, 1) := by decide +kernel
theorem q173_10 : pfB 173 10 76 8 22 = true := by decide +kernel
theorem q173_13 : decode (mB 173) 13 = .ok (.aload_n 0, 1) := by decide +kernel
theorem q173_14 : cfB 173 14 136 164 1 4 0 = true := by decide +kernel
theorem q173_17 : decode (mB 173) 17 = .ok (.aload_n 0, 1) := by decide +kernel
theorem q173_18 : decode (mB 173) 18 = .ok (.iconst 0, 1) := by decide +kernel
theorem q173_19 : pfB 173 19 133 8 15 = true := by decide +kernel
theorem q173_22 : decode (mB 173) 22 = .ok (.aload_n 0, 1) := by decide +kernel
theorem q173_23 : decode (mB 173) 23 = .ok (.iconst 0, 1) := by decide +kernel
theorem q173_24 : pfB 173 24 130 8 17 = true := by decide +kernel
theorem q173_27 : decode (mB 173) 27 = .ok (.aload_n 0, 1) := by decide +kernel
theorem q173_28 : decode (mB 173) 28 = .ok (.iconst 0, 1) := by decide +kernel
theorem q173_29 : pfB 173 29 138 8 18 = true := by decide +kernel
theorem q173_32 : decode (mB 173) 32 = .ok (.aload_n 0, 1) := by decide +kernel
theorem q173_33 : decode (mB 173) 33 = .ok (.aload_n 0, 1) := by decide +kernel
theorem q173_34 : gfB 173 34 35 8 8 = true := by decide +kernel
theorem q173_37 : cfB 173 37 127 170 1 4 1 = true := by decide +kernel
theorem q173_40 : decode (mB 173) 40 = .ok (.istore_n 1, 1) := by decide +kernel
theorem q173_41 : decode (mB 173) 41 = .ok (.iconst 1, 1) := by decide +kernel
theorem q173_42 : decode (mB 173) 42 = .ok (.istore_n 2, 1) := by decide +kernel
theorem q173_43 : decode (mB 173) 43 = .ok (.iconst 0, 1) := by decide +kernel
theorem q173_44 : decode (mB 173) 44 = .ok (.istore_n 3, 1) := by decide +kernel
theorem q173_45 : decode (mB 173) 45 = .ok (.iload_n 3, 1) := by decide +kernel
theorem q173_46 : decode (mB 173) 46 = .ok (.sipush 21609, 3) := by decide +kernel
theorem q173_49 : decode (mB 173) 49 = .ok (.if_icmp .ge 153, 3) := by decide +kernel
theorem q173_52 : decode (mB 173) 52 = .ok (.iload_n 3, 1) := by decide +kernel
theorem q173_53 : decode (mB 173) 53 = .ok (.istore 4, 2) := by decide +kernel
theorem q173_55 : decode (mB 173) 55 = .ok (.iconst 5, 1) := by decide +kernel
theorem q173_56 : decode (mB 173) 56 = .ok (.istore 5, 2) := by decide +kernel
theorem q173_58 : decode (mB 173) 58 = .ok (.iload 5, 2) := by decide +kernel
theorem q173_60 : decode (mB 173) 60 = .ok (.iconst 2, 1) := by decide +kernel
theorem q173_61 : decode (mB 173) 61 = .ok (.if_icmp .lt 30, 3) := by decide +kernel
theorem q173_64 : decode (mB 173) 64 = .ok (.aload_n 0, 1) := by decide +kernel
theorem q173_65 : gfB 173 65 32 8 7 = true := by decide +kernel
theorem q173_68 : decode (mB 173) 68 = .ok (.iload 5, 2) := by decide +kernel
theorem q173_70 : decode (mB 173) 70 = .ok (.iload 4, 2) := by decide +kernel
theorem q173_72 : decode (mB 173) 72 = .ok (.bipush 7, 2) := by decide +kernel
theorem q173_74 : decode (mB 173) 74 = .ok (.irem, 1) := by decide +kernel
theorem q173_75 : decode (mB 173) 75 = .ok (.iconst 1, 1) := by decide +kernel
theorem q173_76 : decode (mB 173) 76 = .ok (.isub, 1) := by decide +kernel
theorem q173_77 : decode (mB 173) 77 = .ok (.iastore, 1) := by decide +kernel
theorem q173_78 : decode (mB 173) 78 = .ok (.iload 4, 2) := by decide +kernel
theorem q173_80 : decode (mB 173) 80 = .ok (.bipush 7, 2) := by decide +kernel
theorem q173_82 : decode (mB 173) 82 = .ok (.idiv, 1) := by decide +kernel
theorem q173_83 : decode (mB 173) 83 = .ok (.istore 4, 2) := by decide +kernel
theorem q173_85 : decode (mB 173) 85 = .ok (.iinc 5 (-1), 3) := by decide +kernel
theorem q173_88 : decode (mB 173) 88 = .ok (.goto (-30), 3) := by decide +kernel
theorem q173_91 : decode (mB 173) 91 = .ok (.aload_n 0, 1) := by decide +kernel
theorem q173_92 : gfB 173 92 32 8 7 = true := by decide +kernel
theorem q173_95 : decode (mB 173) 95 = .ok (.iconst 1, 1) := by decide +kernel
theorem q173_96 : decode (mB 173) 96 = .ok (.iload 4, 2) := by decide +kernel
theorem q173_98 : decode (mB 173) 98 = .ok (.iconst 3, 1) := by decide +kernel
theorem q173_99 : decode (mB 173) 99 = .ok (.irem, 1) := by decide +kernel
theorem q173_100 : decode (mB 173) 100 = .ok (.iastore, 1) := by decide +kernel
theorem q173_101 : decode (mB 173) 101 = .ok (.aload_n 0, 1) := by decide +kernel
theorem q173_102 : gfB 173 102 32 8 7 = true := by decide +kernel
theorem q173_105 : decode (mB 173) 105 = .ok (.iconst 0, 1) := by decide +kernel
theorem q173_106 : decode (mB 173) 106 = .ok (.iload 4, 2) := by decide +kernel
theorem q173_108 : decode (mB 173) 108 = .ok (.iconst 3, 1) := by decide +kernel
theorem q173_109 : decode (mB 173) 109 = .ok (.idiv, 1) := by decide +kernel
theorem q173_110 : decode (mB 173) 110 = .ok (.iastore, 1) := by decide +kernel
theorem q173_111 : decode (mB 173) 111 = .ok (.iload_n 2, 1) := by decide +kernel
theorem q173_112 : decode (mB 173) 112 = .ok (.aload_n 0, 1) := by decide +kernel
theorem q173_113 : decode (mB 173) 113 = .ok (.aload_n 0, 1) := by decide +kernel
theorem q173_114 : gfB 173 114 32 8 7 = true := by decide +kernel
theorem q173_117 : decode (mB 173) 117 = .ok (.aload_n 0, 1) := by decide +kernel
theorem q173_118 : gfB 173 118 35 8 8 = true := by decide +kernel
theorem q173_121 : cfB 173 121 141 172 1 4 2 = true := by decide +kernel
theorem q173_124 : decode (mB 173) 124 = .ok (.ifCond .ne 7, 3) := by decide +kernel
theorem q173_127 : decode (mB 173) 127 = .ok (.iconst 1, 1) := by decide +kernel
theorem q173_128 : decode (mB 173) 128 = .ok (.goto 4, 3) := by decide +kernel
theorem q173_131 : decode (mB 173) 131 = .ok (.iconst 0, 1) := by decide +kernel
theorem q173_132 : decode (mB 173) 132 = .ok (.iand, 1) := by decide +kernel
theorem q173_133 : decode (mB 173) 133 = .ok (.istore_n 2, 1) := by decide +kernel
theorem q173_134 : decode (mB 173) 134 = .ok (.aload_n 0, 1) := by decide +kernel
theorem q173_135 : cfB 173 135 145 174 1 4 0 = true := by decide +kernel
theorem q173_138 : decode (mB 173) 138 = .ok (.ifCond .eq 58, 3) := by decide +kernel
theorem q173_141 : decode (mB 173) 141 = .ok (.aload_n 0, 1) := by decide +kernel
theorem q173_142 : decode (mB 173) 142 = .ok (.aload_n 0, 1) := by decide +kernel
theorem q173_143 : gfB 173 143 32 8 7 = true := by decide +kernel
theorem q173_146 : cfB 173 146 149 167 1 4 1 = true := by decide +kernel
theorem q173_149 : decode (mB 173) 149 = .ok (.ifCond .ne 47, 3) := by decide +kernel
theorem q173_152 : decode (mB 173) 152 = .ok (.aload_n 0, 1) := by decide +kernel
theorem q173_153 : cfB 173 153 152 171 1 4 0 = true := by decide +kernel
theorem q173_156 : decode (mB 173) 156 = .ok (.aload_n 0, 1) := by decide +kernel
theorem q173_157 : decode (mB 173) 157 = .ok (.aload_n 0, 1) := by decide +kernel
theorem q173_158 : gfB 173 158 32 8 7 = true := by decide +kernel
theorem q173_161 : cfB 173 161 127 170 1 4 1 = true := by decide +kernel
theorem q173_164 : decode (mB 173) 164 = .ok (.istore 5, 2) := by decide +kernel
theorem q173_166 : decode (mB 173) 166 = .ok (.aload_n 0, 1) := by decide +kernel
theorem q173_167 : decode (mB 173) 167 = .ok (.dup, 1) := by decide +kernel
theorem q173_168 : gfB 173 168 138 8 18 = true := by decide +kernel
theorem q173_171 : decode (mB 173) 171 = .ok (.iload 5, 2) := by decide +kernel
theorem q173_173 : decode (mB 173) 173 = .ok (.iload_n 1, 1) := by decide +kernel
theorem q173_174 : decode (mB 173) 174 = .ok (.if_icmp .lt 13, 3) := by decide +kernel
theorem q173_177 : decode (mB 173) 177 = .ok (.iload 5, 2) := by decide +kernel
theorem q173_179 : decode (mB 173) 179 = .ok (.iload_n 1, 1) := by decide +kernel
theorem q173_180 : decode (mB 173) 180 = .ok (.if_icmp .ne 11, 3) := by decide +kernel
theorem q173_183 : decode (mB 173) 183 = .ok (.iload_n 2, 1) := by decide +kernel
theorem q173_184 : decode (mB 173) 184 = .ok (.ifCond .eq 7, 3) := by decide +kernel
theorem q173_187 : decode (mB 173) 187 = .ok (.iconst 1, 1) := by decide +kernel
theorem q173_188 : decode (mB 173) 188 = .ok (.goto 4, 3) := by decide +kernel
theorem q173_191 : decode (mB 173) 191 = .ok (.iconst 0, 1) := by decide +kernel
theorem q173_192 : decode (mB 173) 192 = .ok (.iadd, 1) := by decide +kernel
theorem q173_193 : pfB 173 193 138 8 18 = true := by decide +kernel
theorem q173_196 : decode (mB 173) 196 = .ok (.iinc 3 1, 3) := by decide +kernel
theorem q173_199 : decode (mB 173) 199 = .ok (.goto (-154), 3) := by decide +kernel
theorem q173_202 : decode (mB 173) 202 = .ok (.return_, 1) := by decide +kernel
theorem q174_0 : decode (mB 174) 0 = .ok (.iconst 1, 1) := by decide +kernel
theorem q174_1 : decode (mB 174) 1 = .ok (.istore_n 1, 1) := by decide +kernel
theorem q174_2 : decode (mB 174) 2 = .ok (.iconst 2, 1) := by decide +kernel
theorem q174_3 : decode (mB 174) 3 = .ok (.istore_n 2, 1) := by decide +kernel
theorem q174_4 : decode (mB 174) 4 = .ok (.iload_n 2, 1) := by decide +kernel
theorem q174_5 : decode (mB 174) 5 = .ok (.bipush 6, 2) := by decide +kernel
theorem q174_7 : decode (mB 174) 7 = .ok (.if_icmp .ge 54, 3) := by decide +kernel
theorem q174_10 : decode (mB 174) 10 = .ok (.iconst 2, 1) := by decide +kernel
theorem q174_11 : decode (mB 174) 11 = .ok (.istore_n 3, 1) := by decide +kernel
theorem q174_12 : decode (mB 174) 12 = .ok (.iload_n 3, 1) := by decide +kernel
theorem q174_13 : decode (mB 174) 13 = .ok (.iload_n 2, 1) := by decide +kernel
theorem q174_14 : decode (mB 174) 14 = .ok (.if_icmp .ge 41, 3) := by decide +kernel
theorem q174_17 : decode (mB 174) 17 = .ok (.iload_n 1, 1) := by decide +kernel
theorem q174_18 : decode (mB 174) 18 = .ok (.aload_n 0, 1) := by decide +kernel
theorem q174_19 : gfB 174 19 32 8 7 = true := by decide +kernel
theorem q174_22 : decode (mB 174) 22 = .ok (.iload_n 2, 1) := by decide +kernel
theorem q174_23 : decode (mB 174) 23 = .ok (.iaload, 1) := by decide +kernel
theorem q174_24 : decode (mB 174) 24 = .ok (.ifCond .lt 18, 3) := by decide +kernel
theorem q174_27 : decode (mB 174) 27 = .ok (.aload_n 0, 1) := by decide +kernel
theorem q174_28 : gfB 174 28 32 8 7 = true := by decide +kernel
theorem q174_31 : decode (mB 174) 31 = .ok (.iload_n 2, 1) := by decide +kernel
theorem q174_32 : decode (mB 174) 32 = .ok (.iaload, 1) := by decide +kernel
theorem q174_33 : decode (mB 174) 33 = .ok (.aload_n 0, 1) := by decide +kernel
theorem q174_34 : gfB 174 34 32 8 7 = true := by decide +kernel
theorem q174_37 : decode (mB 174) 37 = .ok (.iload_n 3, 1) := by decide +kernel
theorem q174_38 : decode (mB 174) 38 = .ok (.iaload, 1) := by decide +kernel
theorem q174_39 : decode (mB 174) 39 = .ok (.if_icmp .eq 7, 3) := by decide +kernel
theorem q174_42 : decode (mB 174) 42 = .ok (.iconst 1, 1) := by decide +kernel
theorem q174_43 : decode (mB 174) 43 = .ok (.goto 4, 3) := by decide +kernel
theorem q174_46 : decode (mB 174) 46 = .ok (.iconst 0, 1) := by decide +kernel
theorem q174_47 : decode (mB 174) 47 = .ok (.iand, 1) := by decide +kernel
theorem q174_48 : decode (mB 174) 48 = .ok (.istore_n 1, 1) := by decide +kernel
theorem q174_49 : decode (mB 174) 49 = .ok (.iinc 3 1, 3) := by decide +kernel
theorem q174_52 : decode (mB 174) 52 = .ok (.goto (-40), 3) := by decide +kernel
theorem q174_55 : decode (mB 174) 55 = .ok (.iinc 2 1, 3) := by decide +kernel
theorem q174_58 : decode (mB 174) 58 = .ok (.goto (-54), 3) := by decide +kernel
theorem q174_61 : decode (mB 174) 61 = .ok (.iload_n 1, 1) := by decide +kernel
theorem q174_62 : decode (mB 174) 62 = .ok (.ireturn, 1) := by decide +kernel
theorem q175_0 : decode (mB 175) 0 = .ok (.aload_n 0, 1) := by decide +kernel
theorem q175_1 : decode (mB 175) 1 = .ok (.iconst 0, 1) := by decide +kernel
theorem q175_2 : pfB 175 2 58 8 19 = true := by decide +kernel
theorem q175_5 : decode (mB 175) 5 = .ok (.aload_n 0, 1) := by decide +kernel
theorem q175_6 : cfB 175 6 155 173 1 4 0 = true := by decide +kernel
theorem q175_9 : decode (mB 175) 9 = .ok (.aload_n 0, 1) := by decide +kernel
theorem q175_10 : gfB 175 10 130 8 17 = true := by decide +kernel
theorem q175_13 : decode (mB 175) 13 = .ok (.ireturn, 1) := by decide +kernel
theorem q176_0 : decode (mB 176) 0 = .ok (.aload_n 0, 1) := by decide +kernel
theorem q176_1 : cfB 176 1 155 173 1 4 0 = true := by decide +kernel
theorem q176_4 : decode (mB 176) 4 = .ok (.aload_n 0, 1) := by decide +kernel
theorem q176_5 : decode (mB 176) 5 = .ok (.iload_n 1, 1) := by decide +kernel
theorem q176_6 : decode (mB 176) 6 = .ok (.iconst 0, 1) := by decide +kernel
theorem q176_7 : decode (mB 176) 7 = .ok (.aload_n 0, 1) := by decide +kernel
theorem q176_8 : gfB 176 8 133 8 15 = true := by decide +kernel
theorem q176_11 : decode (mB 176) 11 = .ok (.iconst 1, 1) := by decide +kernel
theorem q176_12 : decode (mB 176) 12 = .ok (.isub, 1) := by decide +kernel
theorem q176_13 : cfB 176 13 61 136 0 4 3 = true := by decide +kernel
theorem q176_16 : decode (mB 176) 16 = .ok (.ifCond .ne 7, 3) := by decide +kernel
theorem q176_19 : decode (mB 176) 19 = .ok (.iconst 1, 1) := by decide +kernel
theorem q176_20 : decode (mB 176) 20 = .ok (.goto 4, 3) := by decide +kernel
theorem q176_23 : decode (mB 176) 23 = .ok (.iconst 0, 1) := by decide +kernel
theorem q176_24 : decode (mB 176) 24 = .ok (.iload_n 2, 1) := by decide +kernel
theorem q176_25 : cfB 176 25 65 137 1 4 2 = true := by decide +kernel
theorem q176_28 : decode (mB 176) 28 = .ok (.ireturn, 1) := by decide +kernel
theorem q177_0 : decode (mB 177) 0 = .ok (.aload_n 0, 1) := by decide +kernel
theorem q177_1 : decode (mB 177) 1 = .ok (.iload_n 1, 1) := by decide +kernel
theorem q177_2 : decode (mB 177) 2 = .ok (.iconst 1, 1) := by decide +kernel
theorem q177_3 : cfB 177 3 158 176 1 4 2 = true := by decide +kernel
theorem q177_6 : decode (mB 177) 6 = .ok (.ifCond .eq 7, 3) := by decide +kernel
theorem q177_9 : decode (mB 177) 9 = .ok (.iconst 0, 1) := by decide +kernel
theorem q177_10 : decode (mB 177) 10 = .ok (.goto 9, 3) := by decide +kernel
theorem q177_13 : decode (mB 177) 13 = .ok (.aload_n 0, 1) := by decide +kernel
theorem q177_14 : gfB 177 14 44 8 11 = true := by decide +kernel
theorem q177_17 : decode (mB 177) 17 = .ok (.iload_n 1, 1) := by decide +kernel
theorem q177_18 : decode (mB 177) 18 = .ok (.iaload, 1) := by decide +kernel
theorem q177_19 : decode (mB 177) 19 = .ok (.ireturn, 1) := by decide +kernel
theorem q178_0 : decode (mB 178) 0 = .ok (.iconst 0, 1) := by decide +kernel
theorem q178_1 : decode (mB 178) 1 = .ok (.istore_n 2, 1) := by decide +kernel
theorem q178_2 : decode (mB 178) 2 = .ok (.iconst 0, 1) := by decide +kernel
theorem q178_3 : decode (mB 178) 3 = .ok (.istore_n 3, 1) := by decide +kernel
theorem q178_4 : decode (mB 178) 4 = .ok (.iload_n 3, 1) := by decide +kernel
theorem q178_5 : decode (mB 178) 5 = .ok (.bipush 6, 2) := by decide +kernel
theorem q178_7 : decode (mB 178) 7 = .ok (.if_icmp .ge 26, 3) := by decide +kernel
theorem q178_10 : decode (mB 178) 10 = .ok (.iload_n 2, 1) := by decide +kernel
theorem q178_11 : decode (mB 178) 11 = .ok (.aload_n 0, 1) := by decide +kernel
theorem q178_12 : decode (mB 178) 12 = .ok (.iload_n 3, 1) := by decide +kernel
theorem q178_13 : cfB 178 13 101 153 1 4 1 = true := by decide +kernel
theorem q178_16 : decode (mB 178) 16 = .ok (.iconst 1, 1) := by decide +kernel
theorem q178_17 : decode (mB 178) 17 = .ok (.if_icmp .le 7, 3) := by decide +kernel
theorem q178_20 : decode (mB 178) 20 = .ok (.iconst 1, 1) := by decide +kernel
theorem q178_21 : decode (mB 178) 21 = .ok (.goto 4, 3) := by decide +kernel
theorem q178_24 : decode (mB 178) 24 = .ok (.iconst 0, 1) := by decide +kernel
theorem q178_25 : decode (mB 178) 25 = .ok (.iadd, 1) := by decide +kernel
theorem q178_26 : decode (mB 178) 26 = .ok (.istore_n 2, 1) := by decide +kernel
theorem q178_27 : decode (mB 178) 27 = .ok (.iinc 3 1, 3) := by decide +kernel
theorem q178_30 : decode (mB 178) 30 = .ok (.goto (-26), 3) := by decide +kernel
theorem q178_33 : decode (mB 178) 33 = .ok (.aload_n 0, 1) := by decide +kernel
theorem q178_34 : decode (mB 178) 34 = .ok (.iload_n 2, 1) := by decide +kernel
theorem q178_35 : decode (mB 178) 35 = .ok (.iconst 3, 1) := by decide +kernel
theorem q178_36 : decode (mB 178) 36 = .ok (.if_icmp .le 7, 3) := by decide +kernel
theorem q178_39 : decode (mB 178) 39 = .ok (.iconst 1, 1) := by decide +kernel
theorem q178_40 : decode (mB 178) 40 = .ok (.goto 4, 3) := by decide +kernel
theorem q178_43 : decode (mB 178) 43 = .ok (.iconst 0, 1) := by decide +kernel
theorem q178_44 : decode (mB 178) 44 = .ok (.iconst 1, 1) := by decide +kernel
theorem q178_45 : cfB 178 45 65 137 1 4 2 = true := by decide +kernel
theorem q178_48 : decode (mB 178) 48 = .ok (.ifCond .ne 12, 3) := by decide +kernel
theorem q178_51 : decode (mB 178) 51 = .ok (.aload_n 0, 1) := by decide +kernel
theorem q178_52 : decode (mB 178) 52 = .ok (.iload_n 1, 1) := by decide +kernel
theorem q178_53 : decode (mB 178) 53 = .ok (.iconst 2, 1) := by decide +kernel
theorem q178_54 : cfB 178 54 158 176 1 4 2 = true := by decide +kernel
theorem q178_57 : decode (mB 178) 57 = .ok (.ifCond .eq 7, 3) := by decide +kernel
theorem q178_60 : decode (mB 178) 60 = .ok (.iconst 0, 1) := by decide +kernel
theorem q178_61 : decode (mB 178) 61 = .ok (.goto 9, 3) := by decide +kernel
theorem q178_64 : decode (mB 178) 64 = .ok (.aload_n 0, 1) := by decide +kernel
theorem q178_65 : gfB 178 65 44 8 11 = true := by decide +kernel
theorem q178_68 : decode (mB 178) 68 = .ok (.iload_n 1, 1) := by decide +kernel
theorem q178_69 : decode (mB 178) 69 = .ok (.iaload, 1) := by decide +kernel
theorem q178_70 : decode (mB 178) 70 = .ok (.ireturn, 1) := by decide +kernel
theorem q179_0 : decode (mB 179) 0 = .ok (.iload_n 0, 1) := by decide +kernel
theorem q179_1 : decode (mB 179) 1 = .ok (.ifCond .ne 8, 3) := by decide +kernel
theorem q179_4 : decode (mB 179) 4 = .ok (.bipush 98, 2) := by decide +kernel
theorem q179_6 : decode (mB 179) 6 = .ok (.goto 15, 3) := by decide +kernel
theorem q179_9 : decode (mB 179) 9 = .ok (.iload_n 0, 1) := by decide +kernel
theorem q179_10 : decode (mB 179) 10 = .ok (.iconst 1, 1) := by decide +kernel
theorem q179_11 : decode (mB 179) 11 = .ok (.if_icmp .ne 8, 3) := by decide +kernel
theorem q179_14 : decode (mB 179) 14 = .ok (.bipush 108, 2) := by decide +kernel
theorem q179_16 : decode (mB 179) 16 = .ok (.goto 5, 3) := by decide +kernel
theorem q179_19 : decode (mB 179) 19 = .ok (.bipush 112, 2) := by decide +kernel
theorem q179_21 : decode (mB 179) 21 = .ok (.ireturn, 1) := by decide +kernel
theorem q180_0 : decode (mB 180) 0 = .ok (.aload_n 0, 1) := by decide +kernel
theorem q180_1 : decode (mB 180) 1 = .ok (.iload_n 1, 1) := by decide +kernel
theorem q180_2 : decode (mB 180) 2 = .ok (.iconst 1, 1) := by decide +kernel
theorem q180_3 : cfB 180 3 158 176 1 4 2 = true := by decide +kernel
theorem q180_6 : decode (mB 180) 6 = .ok (.ifCond .eq 8, 3) := by decide +kernel
theorem q180_9 : decode (mB 180) 9 = .ok (.bipush 45, 2) := by decide +kernel
theorem q180_11 : decode (mB 180) 11 = .ok (.goto 15, 3) := by decide +kernel
theorem q180_14 : decode (mB 180) 14 = .ok (.aload_n 0, 1) := by decide +kernel
theorem q180_15 : gfB 180 15 41 8 10 = true := by decide +kernel
theorem q180_18 : decode (mB 180) 18 = .ok (.bipush 6, 2) := by decide +kernel
theorem q180_20 : decode (mB 180) 20 = .ok (.iload_n 1, 1) := by decide +kernel
theorem q180_21 : decode (mB 180) 21 = .ok (.imul, 1) := by decide +kernel
theorem q180_22 : decode (mB 180) 22 = .ok (.iaload, 1) := by decide +kernel
theorem q180_23 : cfB 180 23 162 179 0 4 1 = true := by decide +kernel
theorem q180_26 : decode (mB 180) 26 = .ok (.ireturn, 1) := by decide +kernel
theorem q181_0 : decode (mB 181) 0 = .ok (.aload_n 0, 1) := by decide +kernel
theorem q181_1 : decode (mB 181) 1 = .ok (.iload_n 1, 1) := by decide +kernel
theorem q181_2 : decode (mB 181) 2 = .ok (.iconst 1, 1) := by decide +kernel
theorem q181_3 : cfB 181 3 158 176 1 4 2 = true := by decide +kernel
theorem q181_6 : decode (mB 181) 6 = .ok (.ifCond .eq 7, 3) := by decide +kernel
theorem q181_9 : decode (mB 181) 9 = .ok (.iconst 0, 1) := by decide +kernel
theorem q181_10 : decode (mB 181) 10 = .ok (.goto 14, 3) := by decide +kernel
theorem q181_13 : decode (mB 181) 13 = .ok (.aload_n 0, 1) := by decide +kernel
theorem q181_14 : gfB 181 14 41 8 10 = true := by decide +kernel
theorem q181_17 : decode (mB 181) 17 = .ok (.bipush 6, 2) := by decide +kernel
theorem q181_19 : decode (mB 181) 19 = .ok (.iload_n 1, 1) := by decide +kernel
theorem q181_20 : decode (mB 181) 20 = .ok (.imul, 1) := by decide +kernel
theorem q181_21 : decode (mB 181) 21 = .ok (.iconst 1, 1) := by decide +kernel
theorem q181_22 : decode (mB 181) 22 = .ok (.iadd, 1) := by decide +kernel
theorem q181_23 : decode (mB 181) 23 = .ok (.iaload, 1) := by decide +kernel
theorem q181_24 : decode (mB 181) 24 = .ok (.ireturn, 1) := by decide +kernel
theorem q182_0 : decode (mB 182) 0 = .ok (.aload_n 0, 1) := by decide +kernel
theorem q182_1 : decode (mB 182) 1 = .ok (.iload_n 1, 1) := by decide +kernel
theorem q182_2 : decode (mB 182) 2 = .ok (.iconst 0, 1) := by decide +kernel
theorem q182_3 : decode (mB 182) 3 = .ok (.iconst 3, 1) := by decide +kernel
theorem q182_4 : cfB 182 4 61 136 0 4 3 = true := by decide +kernel
theorem q182_7 : decode (mB 182) 7 = .ok (.ifCond .ne 7, 3) := by decide +kernel
theorem q182_10 : decode (mB 182) 10 = .ok (.iconst 1, 1) := by decide +kernel
theorem q182_11 : decode (mB 182) 11 = .ok (.goto 4, 3) := by decide +kernel
theorem q182_14 : decode (mB 182) 14 = .ok (.iconst 0, 1) := by decide +kernel
theorem q182_15 : decode (mB 182) 15 = .ok (.iload_n 2, 1) := by decide +kernel
theorem q182_16 : cfB 182 16 65 137 1 4 2 = true := by decide +kernel
theorem q182_19 : decode (mB 182) 19 = .ok (.ireturn, 1) := by decide +kernel
theorem q183_0 : decode (mB 183) 0 = .ok (.aload_n 0, 1) := by decide +kernel
theorem q183_1 : decode (mB 183) 1 = .ok (.iload_n 1, 1) := by decide +kernel
theorem q183_2 : decode (mB 183) 2 = .ok (.iconst 1, 1) := by decide +kernel
theorem q183_3 : cfB 183 3 158 176 1 4 2 = true := by decide +kernel
theorem q183_6 : decode (mB 183) 6 = .ok (.ifCond .ne 12, 3) := by decide +kernel
theorem q183_9 : decode (mB 183) 9 = .ok (.aload_n 0, 1) := by decide +kernel
theorem q183_10 : decode (mB 183) 10 = .ok (.iload_n 2, 1) := by decide +kernel
theorem q183_11 : decode (mB 183) 11 = .ok (.iconst 2, 1) := by decide +kernel
theorem q183_12 : cfB 183 12 166 182 1 4 2 = true := by decide +kernel
theorem q183_15 : decode (mB 183) 15 = .ok (.ifCond .eq 7, 3) := by decide +kernel
theorem q183_18 : decode (mB 183) 18 = .ok (.iconst 0, 1) := by decide +kernel
theorem q183_19 : decode (mB 183) 19 = .ok (.goto 16, 3) := by decide +kernel
theorem q183_22 : decode (mB 183) 22 = .ok (.aload_n 0, 1) := by decide +kernel
theorem q183_23 : gfB 183 23 41 8 10 = true := by decide +kernel
theorem q183_26 : decode (mB 183) 26 = .ok (.bipush 6, 2) := by decide +kernel
theorem q183_28 : decode (mB 183) 28 = .ok (.iload_n 1, 1) := by decide +kernel
theorem q183_29 : decode (mB 183) 29 = .ok (.imul, 1) := by decide +kernel
theorem q183_30 : decode (mB 183) 30 = .ok (.iconst 2, 1) := by decide +kernel
theorem q183_31 : decode (mB 183) 31 = .ok (.iadd, 1) := by decide +kernel
theorem q183_32 : decode (mB 183) 32 = .ok (.iload_n 2, 1) := by decide +kernel
theorem q183_33 : decode (mB 183) 33 = .ok (.iadd, 1) := by decide +kernel
theorem q183_34 : decode (mB 183) 34 = .ok (.iaload, 1) := by decide +kernel
theorem q183_35 : decode (mB 183) 35 = .ok (.ireturn, 1) := by decide +kernel
theorem q184_0 : decode (mB 184) 0 = .ok (.aload_n 0, 1) := by decide +kernel
theorem q184_1 : decode (mB 184) 1 = .ok (.iload_n 1, 1) := by decide +kernel
theorem q184_2 : decode (mB 184) 2 = .ok (.iconst 0, 1) := by decide +kernel
theorem q184_3 : decode (mB 184) 3 = .ok (.bipush 99, 2) := by decide +kernel
theorem q184_5 : cfB 184 5 61 136 0 4 3 = true := by decide +kernel
theorem q184_8 : decode (mB 184) 8 = .ok (.ifCond .ne 7, 3) := by decide +kernel
theorem q184_11 : decode (mB 184) 11 = .ok (.iconst 1, 1) := by decide +kernel
theorem q184_12 : decode (mB 184) 12 = .ok (.goto 4, 3) := by decide +kernel
theorem q184_15 : decode (mB 184) 15 = .ok (.iconst 0, 1) := by decide +kernel
theorem q184_16 : decode (mB 184) 16 = .ok (.iconst 1, 1) := by decide +kernel
theorem q184_17 : cfB 184 17 65 137 1 4 2 = true := by decide +kernel
theorem q184_20 : decode (mB 184) 20 = .ok (.ifCond .eq 5, 3) := by decide +kernel
theorem q184_23 : decode (mB 184) 23 = .ok (.iconst 0, 1) := by decide +kernel
theorem q184_24 : decode (mB 184) 24 = .ok (.ireturn, 1) := by decide +kernel
theorem q184_25 : decode (mB 184) 25 = .ok (.aload_n 0, 1) := by decide +kernel
theorem q184_26 : gfB 184 26 50 8 16 = true := by decide +kernel
theorem q184_29 : decode (mB 184) 29 = .ok (.istore_n 2, 1) := by decide +kernel
theorem q184_30 : decode (mB 184) 30 = .ok (.aload_n 0, 1) := by decide +kernel
theorem q184_31 : decode (mB 184) 31 = .ok (.iload_n 1, 1) := by decide +kernel
theorem q184_32 : pfB 184 32 50 8 16 = true := by decide +kernel
theorem q184_35 : decode (mB 184) 35 = .ok (.iload_n 2, 1) := by decide +kernel
theorem q184_36 : decode (mB 184) 36 = .ok (.ireturn, 1) := by decide +kernel
theorem q185_0 : decode (mB 185) 0 = .ok (.aload_n 0, 1) := by decide +kernel
theorem q185_1 : cfB 185 1 155 173 1 4 0 = true := by decide +kernel
theorem q185_4 : decode (mB 185) 4 = .ok (.aload_n 0, 1) := by decide +kernel
theorem q185_5 : decode (mB 185) 5 = .ok (.aload_n 0, 1) := by decide +kernel
theorem q185_6 : gfB 185 6 133 8 15 = true := by decide +kernel
theorem q185_9 : decode (mB 185) 9 = .ok (.ifCond .ne 7, 3) := by decide +kernel
theorem q185_12 : decode (mB 185) 12 = .ok (.iconst 1, 1) := by decide +kernel
theorem q185_13 : decode (mB 185) 13 = .ok (.goto 4, 3) := by decide +kernel
theorem q185_16 : decode (mB 185) 16 = .ok (.iconst 0, 1) := by decide +kernel
theorem q185_17 : decode (mB 185) 17 = .ok (.iconst 1, 1) := by decide +kernel
theorem q185_18 : cfB 185 18 65 137 1 4 2 = true := by decide +kernel
theorem q185_21 : decode (mB 185) 21 = .ok (.ifCond .ne 43, 3) := by decide +kernel
theorem q185_24 : decode (mB 185) 24 = .ok (.aload_n 0, 1) := by decide +kernel
theorem q185_25 : gfB 185 25 169 8 21 = true := by decide +kernel
theorem q185_28 : decode (mB 185) 28 = .ok (.ifCond .eq 38, 3) := by decide +kernel
theorem q185_31 : decode (mB 185) 31 = .ok (.aload_n 0, 1) := by decide +kernel
theorem q185_32 : decode (mB 185) 32 = .ok (.aload_n 0, 1) := by decide +kernel
theorem q185_33 : gfB 185 33 38 8 9 = true := by decide +kernel
theorem q185_36 : cfB 185 36 149 167 1 4 1 = true := by decide +kernel
theorem q185_39 : decode (mB 185) 39 = .ok (.ifCond .ne 27, 3) := by decide +kernel
theorem q185_42 : decode (mB 185) 42 = .ok (.aload_n 0, 1) := by decide +kernel
theorem q185_43 : decode (mB 185) 43 = .ok (.aload_n 0, 1) := by decide +kernel
theorem q185_44 : gfB 185 44 38 8 9 = true := by decide +kernel
theorem q185_47 : cfB 185 47 127 170 1 4 1 = true := by decide +kernel
theorem q185_50 : decode (mB 185) 50 = .ok (.aload_n 0, 1) := by decide +kernel
theorem q185_51 : gfB 185 51 44 8 11 = true := by decide +kernel
theorem q185_54 : decode (mB 185) 54 = .ok (.iconst 0, 1) := by decide +kernel
theorem q185_55 : decode (mB 185) 55 = .ok (.iaload, 1) := by decide +kernel
theorem q185_56 : decode (mB 185) 56 = .ok (.aload_n 0, 1) := by decide +kernel
theorem q185_57 : gfB 185 57 50 8 16 = true := by decide +kernel
theorem q185_60 : decode (mB 185) 60 = .ok (.iadd, 1) := by decide +kernel
theorem q185_61 : decode (mB 185) 61 = .ok (.if_icmp .gt 5, 3) := by decide +kernel
theorem q185_64 : decode (mB 185) 64 = .ok (.iconst 0, 1) := by decide +kernel
theorem q185_65 : decode (mB 185) 65 = .ok (.ireturn, 1) := by decide +kernel
theorem q185_66 : decode (mB 185) 66 = .ok (.aload_n 0, 1) := by decide +kernel
theorem q185_67 : gfB 185 67 169 8 21 = true := by decide +kernel
theorem q185_70 : decode (mB 185) 70 = .ok (.ifCond .eq 81, 3) := by decide +kernel
theorem q185_73 : decode (mB 185) 73 = .ok (.bipush 23, 2) := by decide +kernel
theorem q185_75 : decode (mB 185) 75 = .ok (.istore_n 1, 1) := by decide +kernel
theorem q185_76 : decode (mB 185) 76 = .ok (.iload_n 1, 1) := by decide +kernel
theorem q185_77 : decode (mB 185) 77 = .ok (.bipush 6, 2) := by decide +kernel
theorem q185_79 : decode (mB 185) 79 = .ok (.if_icmp .lt 24, 3) := by decide +kernel
theorem q185_82 : decode (mB 185) 82 = .ok (.aload_n 0, 1) := by decide +kernel
theorem q185_83 : gfB 185 83 47 8 12 = true := by decide +kernel
theorem q185_86 : decode (mB 185) 86 = .ok (.iload_n 1, 1) := by decide +kernel
theorem q185_87 : decode (mB 185) 87 = .ok (.aload_n 0, 1) := by decide +kernel
theorem q185_88 : gfB 185 88 47 8 12 = true := by decide +kernel
theorem q185_91 : decode (mB 185) 91 = .ok (.iload_n 1, 1) := by decide +kernel
theorem q185_92 : decode (mB 185) 92 = .ok (.bipush 6, 2) := by decide +kernel
theorem q185_94 : decode (mB 185) 94 = .ok (.isub, 1) := by decide +kernel
theorem q185_95 : decode (mB 185) 95 = .ok (.iaload, 1) := by decide +kernel
theorem q185_96 : decode (mB 185) 96 = .ok (.iastore, 1) := by decide +kernel
theorem q185_97 : decode (mB 185) 97 = .ok (.iinc 1 (-1), 3) := by decide +kernel
theorem q185_100 : decode (mB 185) 100 = .ok (.goto (-24), 3) := by decide +kernel
theorem q185_103 : decode (mB 185) 103 = .ok (.iconst 0, 1) := by decide +kernel
theorem q185_104 : decode (mB 185) 104 = .ok (.istore_n 1, 1) := by decide +kernel
theorem q185_105 : decode (mB 185) 105 = .ok (.iload_n 1, 1) := by decide +kernel
theorem q185_106 : decode (mB 185) 106 = .ok (.bipush 6, 2) := by decide +kernel
theorem q185_108 : decode (mB 185) 108 = .ok (.if_icmp .ge 21, 3) := by decide +kernel
theorem q185_111 : decode (mB 185) 111 = .ok (.aload_n 0, 1) := by decide +kernel
theorem q185_112 : gfB 185 112 47 8 12 = true := by decide +kernel
theorem q185_115 : decode (mB 185) 115 = .ok (.iload_n 1, 1) := by decide +kernel
theorem q185_116 : decode (mB 185) 116 = .ok (.aload_n 0, 1) := by decide +kernel
theorem q185_117 : gfB 185 117 38 8 9 = true := by decide +kernel
theorem q185_120 : decode (mB 185) 120 = .ok (.iload_n 1, 1) := by decide +kernel
theorem q185_121 : decode (mB 185) 121 = .ok (.iaload, 1) := by decide +kernel
theorem q185_122 : decode (mB 185) 122 = .ok (.iastore, 1) := by decide +kernel
theorem q185_123 : decode (mB 185) 123 = .ok (.iinc 1 1, 3) := by decide +kernel
theorem q185_126 : decode (mB 185) 126 = .ok (.goto (-21), 3) := by decide +kernel
theorem q185_129 : decode (mB 185) 129 = .ok (.aload_n 0, 1) := by decide +kernel
theorem q185_130 : decode (mB 185) 130 = .ok (.dup, 1) := by decide +kernel
theorem q185_131 : gfB 185 131 172 8 14 = true := by decide +kernel
theorem q185_134 : decode (mB 185) 134 = .ok (.aload_n 0, 1) := by decide +kernel
theorem q185_135 : gfB 185 135 172 8 14 = true := by decide +kernel
theorem q185_138 : decode (mB 185) 138 = .ok (.iconst 4, 1) := by decide +kernel
theorem q185_139 : decode (mB 185) 139 = .ok (.if_icmp .ge 7, 3) := by decide +kernel
theorem q185_142 : decode (mB 185) 142 = .ok (.iconst 1, 1) := by decide +kernel
theorem q185_143 : decode (mB 185) 143 = .ok (.goto 4, 3) := by decide +kernel
theorem q185_146 : decode (mB 185) 146 = .ok (.iconst 0, 1) := by decide +kernel
theorem q185_147 : decode (mB 185) 147 = .ok (.iadd, 1) := by decide +kernel
theorem q185_148 : pfB 185 148 172 8 14 = true := by decide +kernel
theorem q185_151 : decode (mB 185) 151 = .ok (.iconst 0, 1) := by decide +kernel
theorem q185_152 : decode (mB 185) 152 = .ok (.istore_n 1, 1) := by decide +kernel
theorem q185_153 : decode (mB 185) 153 = .ok (.iload_n 1, 1) := by decide +kernel
theorem q185_154 : decode (mB 185) 154 = .ok (.bipush 6, 2) := by decide +kernel
theorem q185_156 : decode (mB 185) 156 = .ok (.if_icmp .ge 21, 3) := by decide +kernel
theorem q185_159 : decode (mB 185) 159 = .ok (.aload_n 0, 1) := by decide +kernel
theorem q185_160 : gfB 185 160 38 8 9 = true := by decide +kernel
theorem q185_163 : decode (mB 185) 163 = .ok (.iload_n 1, 1) := by decide +kernel
theorem q185_164 : decode (mB 185) 164 = .ok (.aload_n 0, 1) := by decide +kernel
theorem q185_165 : gfB 185 165 41 8 10 = true := by decide +kernel
theorem q185_168 : decode (mB 185) 168 = .ok (.iload_n 1, 1) := by decide +kernel
theorem q185_169 : decode (mB 185) 169 = .ok (.iaload, 1) := by decide +kernel
theorem q185_170 : decode (mB 185) 170 = .ok (.iastore, 1) := by decide +kernel
theorem q185_171 : decode (mB 185) 171 = .ok (.iinc 1 1, 3) := by decide +kernel
theorem q185_174 : decode (mB 185) 174 = .ok (.goto (-21), 3) := by decide +kernel
theorem q185_177 : decode (mB 185) 177 = .ok (.aload_n 0, 1) := by decide +kernel
theorem q185_178 : decode (mB 185) 178 = .ok (.iconst 1, 1) := by decide +kernel
theorem q185_179 : pfB 185 179 169 8 21 = true := by decide +kernel
theorem q185_182 : decode (mB 185) 182 = .ok (.iconst 1, 1) := by decide +kernel
theorem q185_183 : decode (mB 185) 183 = .ok (.ireturn, 1) := by decide +kernel
theorem q186_0 : decode (mB 186) 0 = .ok (.aload_n 0, 1) := by decide +kernel
theorem q186_1 : decode (mB 186) 1 = .ok (.aload_n 0, 1) := by decide +kernel
theorem q186_2 : gfB 186 2 169 8 21 = true := by decide +kernel
theorem q186_5 : decode (mB 186) 5 = .ok (.ifCond .ne 7, 3) := by decide +kernel
theorem q186_8 : decode (mB 186) 8 = .ok (.iconst 1, 1) := by decide +kernel
theorem q186_9 : decode (mB 186) 9 = .ok (.goto 4, 3) := by decide +kernel
theorem q186_12 : decode (mB 186) 12 = .ok (.iconst 0, 1) := by decide +kernel
theorem q186_13 : decode (mB 186) 13 = .ok (.iconst 1, 1) := by decide +kernel
theorem q186_14 : cfB 186 14 65 137 1 4 2 = true := by decide +kernel
theorem q186_17 : decode (mB 186) 17 = .ok (.ifCond .eq 8, 3) := by decide +kernel
theorem q186_20 : decode (mB 186) 20 = .ok (.bipush 45, 2) := by decide +kernel
theorem q186_22 : decode (mB 186) 22 = .ok (.goto 12, 3) := by decide +kernel
theorem q186_25 : decode (mB 186) 25 = .ok (.aload_n 0, 1) := by decide +kernel
theorem q186_26 : gfB 186 26 38 8 9 = true := by decide +kernel
theorem q186_29 : decode (mB 186) 29 = .ok (.iconst 0, 1) := by decide +kernel
theorem q186_30 : decode (mB 186) 30 = .ok (.iaload, 1) := by decide +kernel
theorem q186_31 : cfB 186 31 162 179 0 4 1 = true := by decide +kernel
theorem q186_34 : decode (mB 186) 34 = .ok (.ireturn, 1) := by decide +kernel
theorem q187_0 : decode (mB 187) 0 = .ok (.aload_n 0, 1) := by decide +kernel
theorem q187_1 : decode (mB 187) 1 = .ok (.aload_n 0, 1) := by decide +kernel
theorem q187_2 : gfB 187 2 169 8 21 = true := by decide +kernel
theorem q187_5 : decode (mB 187) 5 = .ok (.ifCond .ne 7, 3) := by decide +kernel
theorem q187_8 : decode (mB 187) 8 = .ok (.iconst 1, 1) := by decide +kernel
theorem q187_9 : decode (mB 187) 9 = .ok (.goto 4, 3) := by decide +kernel
theorem q187_12 : decode (mB 187) 12 = .ok (.iconst 0, 1) := by decide +kernel
theorem q187_13 : decode (mB 187) 13 = .ok (.iconst 1, 1) := by decide +kernel
theorem q187_14 : cfB 187 14 65 137 1 4 2 = true := by decide +kernel
theorem q187_17 : decode (mB 187) 17 = .ok (.ifCond .eq 7, 3) := by decide +kernel
theorem q187_20 : decode (mB 187) 20 = .ok (.iconst 0, 1) := by decide +kernel
theorem q187_21 : decode (mB 187) 21 = .ok (.goto 9, 3) := by decide +kernel
theorem q187_24 : decode (mB 187) 24 = .ok (.aload_n 0, 1) := by decide +kernel
theorem q187_25 : gfB 187 25 38 8 9 = true := by decide +kernel
theorem q187_28 : decode (mB 187) 28 = .ok (.iconst 1, 1) := by decide +kernel
theorem q187_29 : decode (mB 187) 29 = .ok (.iaload, 1) := by decide +kernel
theorem q187_30 : decode (mB 187) 30 = .ok (.ireturn, 1) := by decide +kernel
theorem q188_0 : decode (mB 188) 0 = .ok (.aload_n 0, 1) := by decide +kernel
theorem q188_1 : decode (mB 188) 1 = .ok (.iload_n 1, 1) := by decide +kernel
theorem q188_2 : decode (mB 188) 2 = .ok (.iconst 1, 1) := by decide +kernel
theorem q188_3 : cfB 188 3 166 182 1 4 2 = true := by decide +kernel
theorem q188_6 : decode (mB 188) 6 = .ok (.ifCond .ne 23, 3) := by decide +kernel
theorem q188_9 : decode (mB 188) 9 = .ok (.aload_n 0, 1) := by decide +kernel
theorem q188_10 : decode (mB 188) 10 = .ok (.aload_n 0, 1) := by decide +kernel
theorem q188_11 : gfB 188 11 169 8 21 = true := by decide +kernel
theorem q188_14 : decode (mB 188) 14 = .ok (.ifCond .ne 7, 3) := by decide +kernel
theorem q188_17 : decode (mB 188) 17 = .ok (.iconst 1, 1) := by decide +kernel
theorem q188_18 : decode (mB 188) 18 = .ok (.goto 4, 3) := by decide +kernel
theorem q188_21 : decode (mB 188) 21 = .ok (.iconst 0, 1) := by decide +kernel
theorem q188_22 : decode (mB 188) 22 = .ok (.iconst 2, 1) := by decide +kernel
theorem q188_23 : cfB 188 23 65 137 1 4 2 = true := by decide +kernel
theorem q188_26 : decode (mB 188) 26 = .ok (.ifCond .eq 7, 3) := by decide +kernel
theorem q188_29 : decode (mB 188) 29 = .ok (.iconst 0, 1) := by decide +kernel
theorem q188_30 : decode (mB 188) 30 = .ok (.goto 11, 3) := by decide +kernel
theorem q188_33 : decode (mB 188) 33 = .ok (.aload_n 0, 1) := by decide +kernel
theorem q188_34 : gfB 188 34 38 8 9 = true := by decide +kernel
theorem q188_37 : decode (mB 188) 37 = .ok (.iconst 2, 1) := by decide +kernel
theorem q188_38 : decode (mB 188) 38 = .ok (.iload_n 1, 1) := by decide +kernel
theorem q188_39 : decode (mB 188) 39 = .ok (.iadd, 1) := by decide +kernel
theorem q188_40 : decode (mB 188) 40 = .ok (.iaload, 1) := by decide +kernel
theorem q188_41 : decode (mB 188) 41 = .ok (.ireturn, 1) := by decide +kernel
theorem q189_0 : decode (mB 189) 0 = .ok (.aload_n 0, 1) := by decide +kernel
theorem q189_1 : decode (mB 189) 1 = .ok (.iconst 0, 1) := by decide +kernel
theorem q189_2 : pfB 189 2 58 8 19 = true := by decide +kernel
theorem q189_5 : decode (mB 189) 5 = .ok (.aload_n 0, 1) := by decide +kernel
theorem q189_6 : gfB 189 6 172 8 14 = true := by decide +kernel
theorem q189_9 : decode (mB 189) 9 = .ok (.ireturn, 1) := by decide +kernel
theorem q190_0 : decode (mB 190) 0 = .ok (.aload_n 0, 1) := by decide +kernel
theorem q190_1 : decode (mB 190) 1 = .ok (.dup, 1) := by decide +kernel
theorem q190_2 : gfB 190 2 172 8 14 = true := by decide +kernel
theorem q190_5 : decode (mB 190) 5 = .ok (.iconst 1, 1) := by decide +kernel
theorem q190_6 : decode (mB 190) 6 = .ok (.isub, 1) := by decide +kernel
theorem q190_7 : pfB 190 7 172 8 14 = true := by decide +kernel
theorem q190_10 : decode (mB 190) 10 = .ok (.bipush 6, 2) := by decide +kernel
theorem q190_12 : decode (mB 190) 12 = .ok (.iload_n 1, 1) := by decide +kernel
theorem q190_13 : decode (mB 190) 13 = .ok (.imul, 1) := by decide +kernel
theorem q190_14 : decode (mB 190) 14 = .ok (.istore_n 2, 1) := by decide +kernel
theorem q190_15 : decode (mB 190) 15 = .ok (.iload_n 2, 1) := by decide +kernel
theorem q190_16 : decode (mB 190) 16 = .ok (.bipush 6, 2) := by decide +kernel
theorem q190_18 : decode (mB 190) 18 = .ok (.aload_n 0, 1) := by decide +kernel
theorem q190_19 : gfB 190 19 172 8 14 = true := by decide +kernel
theorem q190_22 : decode (mB 190) 22 = .ok (.imul, 1) := by decide +kernel
theorem q190_23 : decode (mB 190) 23 = .ok (.if_icmp .ge 24, 3) := by decide +kernel
theorem q190_26 : decode (mB 190) 26 = .ok (.aload_n 0, 1) := by decide +kernel
theorem q190_27 : gfB 190 27 47 8 12 = true := by decide +kernel
theorem q190_30 : decode (mB 190) 30 = .ok (.iload_n 2, 1) := by decide +kernel
theorem q190_31 : decode (mB 190) 31 = .ok (.aload_n 0, 1) := by decide +kernel
theorem q190_32 : gfB 190 32 47 8 12 = true := by decide +kernel
theorem q190_35 : decode (mB 190) 35 = .ok (.iload_n 2, 1) := by decide +kernel
theorem q190_36 : decode (mB 190) 36 = .ok (.bipush 6, 2) := by decide +kernel
theorem q190_38 : decode (mB 190) 38 = .ok (.iadd, 1) := by decide +kernel
theorem q190_39 : decode (mB 190) 39 = .ok (.iaload, 1) := by decide +kernel
theorem q190_40 : decode (mB 190) 40 = .ok (.iastore, 1) := by decide +kernel
theorem q190_41 : decode (mB 190) 41 = .ok (.iinc 2 1, 3) := by decide +kernel
theorem q190_44 : decode (mB 190) 44 = .ok (.goto (-29), 3) := by decide +kernel
theorem q190_47 : decode (mB 190) 47 = .ok (.return_, 1) := by decide +kernel
theorem q191_0 : decode (mB 191) 0 = .ok (.aload_n 0, 1) := by decide +kernel
theorem q191_1 : decode (mB 191) 1 = .ok (.aload_n 0, 1) := by decide +kernel
theorem q191_2 : gfB 191 2 172 8 14 = true := by decide +kernel
theorem q191_5 : decode (mB 191) 5 = .ok (.ifCond .ne 7, 3) := by decide +kernel
theorem q191_8 : decode (mB 191) 8 = .ok (.iconst 1, 1) := by decide +kernel
theorem q191_9 : decode (mB 191) 9 = .ok (.goto 4, 3) := by decide +kernel
theorem q191_12 : decode (mB 191) 12 = .ok (.iconst 0, 1) := by decide +kernel
theorem q191_13 : decode (mB 191) 13 = .ok (.iconst 1, 1) := by decide +kernel
theorem q191_14 : cfB 191 14 65 137 1 4 2 = true := by decide +kernel
theorem q191_17 : decode (mB 191) 17 = .ok (.ifCond .eq 5, 3) := by decide +kernel
theorem q191_20 : decode (mB 191) 20 = .ok (.iconst 0, 1) := by decide +kernel
theorem q191_21 : decode (mB 191) 21 = .ok (.ireturn, 1) := by decide +kernel
theorem q191_22 : decode (mB 191) 22 = .ok (.iconst 0, 1) := by decide +kernel
theorem q191_23 : decode (mB 191) 23 = .ok (.istore_n 1, 1) := by decide +kernel
theorem q191_24 : decode (mB 191) 24 = .ok (.iload_n 1, 1) := by decide +kernel
theorem q191_25 : decode (mB 191) 25 = .ok (.bipush 6, 2) := by decide +kernel
theorem q191_27 : decode (mB 191) 27 = .ok (.if_icmp .ge 21, 3) := by decide +kernel
theorem q191_30 : decode (mB 191) 30 = .ok (.aload_n 0, 1) := by decide +kernel
theorem q191_31 : gfB 191 31 38 8 9 = true := by decide +kernel
theorem q191_34 : decode (mB 191) 34 = .ok (.iload_n 1, 1) := by decide +kernel
theorem q191_35 : decode (mB 191) 35 = .ok (.aload_n 0, 1) := by decide +kernel
theorem q191_36 : gfB 191 36 47 8 12 = true := by decide +kernel
theorem q191_39 : decode (mB 191) 39 = .ok (.iload_n 1, 1) := by decide +kernel
theorem q191_40 : decode (mB 191) 40 = .ok (.iaload, 1) := by decide +kernel
theorem q191_41 : decode (mB 191) 41 = .ok (.iastore, 1) := by decide +kernel
theorem q191_42 : decode (mB 191) 42 = .ok (.iinc 1 1, 3) := by decide +kernel
theorem q191_45 : decode (mB 191) 45 = .ok (.goto (-21), 3) := by decide +kernel
theorem q191_48 : decode (mB 191) 48 = .ok (.aload_n 0, 1) := by decide +kernel
theorem q191_49 : decode (mB 191) 49 = .ok (.iconst 0, 1) := by decide +kernel
theorem q191_50 : cfB 191 50 175 190 1 4 1 = true := by decide +kernel
theorem q191_53 : decode (mB 191) 53 = .ok (.aload_n 0, 1) := by decide +kernel
theorem q191_54 : gfB 191 54 172 8 14 = true := by decide +kernel
theorem q191_57 : decode (mB 191) 57 = .ok (.ireturn, 1) := by decide +kernel
theorem q192_0 : decode (mB 192) 0 = .ok (.aload_n 0, 1) := by decide +kernel
theorem q192_1 : decode (mB 192) 1 = .ok (.iconst 0, 1) := by decide +kernel
theorem q192_2 : pfB 192 2 58 8 19 = true := by decide +kernel
theorem q192_5 : decode (mB 192) 5 = .ok (.aload_n 0, 1) := by decide +kernel
theorem q192_6 : cfB 192 6 136 164 1 4 0 = true := by decide +kernel
theorem q192_9 : decode (mB 192) 9 = .ok (.iconst 0, 1) := by decide +kernel
theorem q192_10 : decode (mB 192) 10 = .ok (.istore_n 1, 1) := by decide +kernel
theorem q192_11 : decode (mB 192) 11 = .ok (.aload_n 0, 1) := by decide +kernel
theorem q192_12 : gfB 192 12 172 8 14 = true := by decide +kernel
theorem q192_15 : decode (mB 192) 15 = .ok (.iconst 1, 1) := by decide +kernel
theorem q192_16 : decode (mB 192) 16 = .ok (.isub, 1) := by decide +kernel
theorem q192_17 : decode (mB 192) 17 = .ok (.istore_n 2, 1) := by decide +kernel
theorem q192_18 : decode (mB 192) 18 = .ok (.iload_n 2, 1) := by decide +kernel
theorem q192_19 : decode (mB 192) 19 = .ok (.ifCond .lt 59, 3) := by decide +kernel
theorem q192_22 : decode (mB 192) 22 = .ok (.iconst 0, 1) := by decide +kernel
theorem q192_23 : decode (mB 192) 23 = .ok (.istore_n 3, 1) := by decide +kernel
theorem q192_24 : decode (mB 192) 24 = .ok (.iload_n 3, 1) := by decide +kernel
theorem q192_25 : decode (mB 192) 25 = .ok (.bipush 6, 2) := by decide +kernel
theorem q192_27 : decode (mB 192) 27 = .ok (.if_icmp .ge 26, 3) := by decide +kernel
theorem q192_30 : decode (mB 192) 30 = .ok (.aload_n 0, 1) := by decide +kernel
theorem q192_31 : gfB 192 31 32 8 7 = true := by decide +kernel
theorem q192_34 : decode (mB 192) 34 = .ok (.iload_n 3, 1) := by decide +kernel
theorem q192_35 : decode (mB 192) 35 = .ok (.aload_n 0, 1) := by decide +kernel
theorem q192_36 : gfB 192 36 47 8 12 = true := by decide +kernel
theorem q192_39 : decode (mB 192) 39 = .ok (.bipush 6, 2) := by decide +kernel
theorem q192_41 : decode (mB 192) 41 = .ok (.iload_n 2, 1) := by decide +kernel
theorem q192_42 : decode (mB 192) 42 = .ok (.imul, 1) := by decide +kernel
theorem q192_43 : decode (mB 192) 43 = .ok (.iload_n 3, 1) := by decide +kernel
theorem q192_44 : decode (mB 192) 44 = .ok (.iadd, 1) := by decide +kernel
theorem q192_45 : decode (mB 192) 45 = .ok (.iaload, 1) := by decide +kernel
theorem q192_46 : decode (mB 192) 46 = .ok (.iastore, 1) := by decide +kernel
theorem q192_47 : decode (mB 192) 47 = .ok (.iinc 3 1, 3) := by decide +kernel
theorem q192_50 : decode (mB 192) 50 = .ok (.goto (-26), 3) := by decide +kernel
theorem q192_53 : decode (mB 192) 53 = .ok (.aload_n 0, 1) := by decide +kernel
theorem q192_54 : decode (mB 192) 54 = .ok (.aload_n 0, 1) := by decide +kernel
theorem q192_55 : gfB 192 55 32 8 7 = true := by decide +kernel
theorem q192_58 : cfB 192 58 149 167 1 4 1 = true := by decide +kernel
theorem q192_61 : decode (mB 192) 61 = .ok (.ifCond .eq 11, 3) := by decide +kernel
theorem q192_64 : decode (mB 192) 64 = .ok (.aload_n 0, 1) := by decide +kernel
theorem q192_65 : decode (mB 192) 65 = .ok (.iload_n 2, 1) := by decide +kernel
theorem q192_66 : cfB 192 66 175 190 1 4 1 = true := by decide +kernel
theorem q192_69 : decode (mB 192) 69 = .ok (.iinc 1 1, 3) := by decide +kernel
theorem q192_72 : decode (mB 192) 72 = .ok (.iinc 2 (-1), 3) := by decide +kernel
theorem q192_75 : decode (mB 192) 75 = .ok (.goto (-57), 3) := by decide +kernel
theorem q192_78 : decode (mB 192) 78 = .ok (.iload_n 1, 1) := by decide +kernel
theorem q192_79 : decode (mB 192) 79 = .ok (.ireturn, 1) := by decide +kernel
theorem q193_0 : decode (mB 193) 0 = .ok (.aload_n 0, 1) := by decide +kernel
theorem q193_1 : decode (mB 193) 1 = .ok (.iload_n 1, 1) := by decide +kernel
theorem q193_2 : cfB 193 2 104 158 0 4 1 = true := by decide +kernel
theorem q193_5 : decode (mB 193) 5 = .ok (.ifCond .ne 7, 3) := by decide +kernel
theorem q193_8 : decode (mB 193) 8 = .ok (.iconst 1, 1) := by decide +kernel
theorem q193_9 : decode (mB 193) 9 = .ok (.goto 4, 3) := by decide +kernel
theorem q193_12 : decode (mB 193) 12 = .ok (.iconst 0, 1) := by decide +kernel
theorem q193_13 : decode (mB 193) 13 = .ok (.iconst 1, 1) := by decide +kernel
theorem q193_14 : cfB 193 14 65 137 1 4 2 = true := by decide +kernel
theorem q193_17 : decode (mB 193) 17 = .ok (.ifCond .eq 6, 3) := by decide +kernel
theorem q193_20 : decode (mB 193) 20 = .ok (.bipush 45, 2) := by decide +kernel
theorem q193_22 : decode (mB 193) 22 = .ok (.ireturn, 1) := by decide +kernel
theorem q193_23 : decode (mB 193) 23 = .ok (.aload_n 0, 1) := by decide +kernel
theorem q193_24 : gfB 193 24 35 8 8 = true := by decide +kernel
theorem q193_27 : decode (mB 193) 27 = .ok (.iconst 0, 1) := by decide +kernel
theorem q193_28 : decode (mB 193) 28 = .ok (.iaload, 1) := by decide +kernel
theorem q193_29 : cfB 193 29 162 179 0 4 1 = true := by decide +kernel
theorem q193_32 : decode (mB 193) 32 = .ok (.istore_n 2, 1) := by decide +kernel
theorem q193_33 : decode (mB 193) 33 = .ok (.aload_n 0, 1) := by decide +kernel
theorem q193_34 : decode (mB 193) 34 = .ok (.iconst 0, 1) := by decide +kernel
theorem q193_35 : pfB 193 35 76 8 22 = true := by decide +kernel
theorem q193_38 : decode (mB 193) 38 = .ok (.aload_n 0, 1) := by decide +kernel
theorem q193_39 : gfB 193 39 35 8 8 = true := by decide +kernel
theorem q193_42 : decode (mB 193) 42 = .ok (.iconst 0, 1) := by decide +kernel
theorem q193_43 : decode (mB 193) 43 = .ok (.iload_n 1, 1) := by decide +kernel
theorem q193_44 : decode (mB 193) 44 = .ok (.bipush 98, 2) := by decide +kernel
theorem q193_46 : decode (mB 193) 46 = .ok (.if_icmp .ne 7, 3) := by decide +kernel
theorem q193_49 : decode (mB 193) 49 = .ok (.iconst 0, 1) := by decide +kernel
theorem q193_50 : decode (mB 193) 50 = .ok (.goto 14, 3) := by decide +kernel
theorem q193_53 : decode (mB 193) 53 = .ok (.iload_n 1, 1) := by decide +kernel
theorem q193_54 : decode (mB 193) 54 = .ok (.bipush 108, 2) := by decide +kernel
theorem q193_56 : decode (mB 193) 56 = .ok (.if_icmp .ne 7, 3) := by decide +kernel
theorem q193_59 : decode (mB 193) 59 = .ok (.iconst 1, 1) := by decide +kernel
theorem q193_60 : decode (mB 193) 60 = .ok (.goto 4, 3) := by decide +kernel
theorem q193_63 : decode (mB 193) 63 = .ok (.iconst 2, 1) := by decide +kernel
theorem q193_64 : decode (mB 193) 64 = .ok (.iastore, 1) := by decide +kernel
theorem q193_65 : decode (mB 193) 65 = .ok (.iload_n 2, 1) := by decide +kernel
theorem q193_66 : decode (mB 193) 66 = .ok (.ireturn, 1) := by decide +kernel
theorem q194_0 : decode (mB 194) 0 = .ok (.aload_n 0, 1) := by decide +kernel
theorem q194_1 : decode (mB 194) 1 = .ok (.iload_n 1, 1) := by decide +kernel
theorem q194_2 : decode (mB 194) 2 = .ok (.iconst 0, 1) := by decide +kernel
theorem q194_3 : decode (mB 194) 3 = .ok (.iconst 2, 1) := by decide +kernel
theorem q194_4 : cfB 194 4 61 136 0 4 3 = true := by decide +kernel
theorem q194_7 : decode (mB 194) 7 = .ok (.ifCond .ne 7, 3) := by decide +kernel
theorem q194_10 : decode (mB 194) 10 = .ok (.iconst 1, 1) := by decide +kernel
theorem q194_11 : decode (mB 194) 11 = .ok (.goto 4, 3) := by decide +kernel
theorem q194_14 : decode (mB 194) 14 = .ok (.iconst 0, 1) := by decide +kernel
theorem q194_15 : decode (mB 194) 15 = .ok (.iconst 1, 1) := by decide +kernel
theorem q194_16 : cfB 194 16 65 137 1 4 2 = true := by decide +kernel
theorem q194_19 : decode (mB 194) 19 = .ok (.ifCond .eq 5, 3) := by decide +kernel
theorem q194_22 : decode (mB 194) 22 = .ok (.iconst 0, 1) := by decide +kernel
theorem q194_23 : decode (mB 194) 23 = .ok (.ireturn, 1) := by decide +kernel
theorem q194_24 : decode (mB 194) 24 = .ok (.aload_n 0, 1) := by decide +kernel
theorem q194_25 : gfB 194 25 35 8 8 = true := by decide +kernel
theorem q194_28 : decode (mB 194) 28 = .ok (.iconst 1, 1) := by decide +kernel
theorem q194_29 : decode (mB 194) 29 = .ok (.iaload, 1) := by decide +kernel
theorem q194_30 : decode (mB 194) 30 = .ok (.istore_n 2, 1) := by decide +kernel
theorem q194_31 : decode (mB 194) 31 = .ok (.aload_n 0, 1) := by decide +kernel
theorem q194_32 : decode (mB 194) 32 = .ok (.iconst 0, 1) := by decide +kernel
theorem q194_33 : pfB 194 33 76 8 22 = true := by decide +kernel
theorem q194_36 : decode (mB 194) 36 = .ok (.aload_n 0, 1) := by decide +kernel
theorem q194_37 : gfB 194 37 35 8 8 = true := by decide +kernel
theorem q194_40 : decode (mB 194) 40 = .ok (.iconst 1, 1) := by decide +kernel
theorem q194_41 : decode (mB 194) 41 = .ok (.iload_n 1, 1) := by decide +kernel
theorem q194_42 : decode (mB 194) 42 = .ok (.iastore, 1) := by decide +kernel
theorem q194_43 : decode (mB 194) 43 = .ok (.iload_n 2, 1) := by decide +kernel
theorem q194_44 : decode (mB 194) 44 = .ok (.ireturn, 1) := by decide +kernel
theorem q195_0 : decode (mB 195) 0 = .ok (.aload_n 0, 1) := by decide +kernel
theorem q195_1 : decode (mB 195) 1 = .ok (.iload_n 1, 1) := by decide +kernel
theorem q195_2 : decode (mB 195) 2 = .ok (.iconst 0, 1) := by decide +kernel
theorem q195_3 : decode (mB 195) 3 = .ok (.iconst 3, 1) := by decide +kernel
theorem q195_4 : cfB 195 4 61 136 0 4 3 = true := by decide +kernel
theorem q195_7 : decode (mB 195) 7 = .ok (.ifCond .eq 12, 3) := by decide +kernel
theorem q195_10 : decode (mB 195) 10 = .ok (.iload_n 2, 1) := by decide +kernel
theorem q195_11 : decode (mB 195) 11 = .ok (.iconst (-1), 1) := by decide +kernel
theorem q195_12 : decode (mB 195) 12 = .ok (.iconst 5, 1) := by decide +kernel
theorem q195_13 : cfB 195 13 61 136 0 4 3 = true := by decide +kernel
theorem q195_16 : decode (mB 195) 16 = .ok (.ifCond .ne 7, 3) := by decide +kernel
theorem q195_19 : decode (mB 195) 19 = .ok (.iconst 1, 1) := by decide +kernel
theorem q195_20 : decode (mB 195) 20 = .ok (.goto 4, 3) := by decide +kernel
theorem q195_23 : decode (mB 195) 23 = .ok (.iconst 0, 1) := by decide +kernel
theorem q195_24 : decode (mB 195) 24 = .ok (.iconst 1, 1) := by decide +kernel
theorem q195_25 : cfB 195 25 65 137 1 4 2 = true := by decide +kernel
theorem q195_28 : decode (mB 195) 28 = .ok (.ifCond .eq 5, 3) := by decide +kernel
theorem q195_31 : decode (mB 195) 31 = .ok (.iconst 0, 1) := by decide +kernel
theorem q195_32 : decode (mB 195) 32 = .ok (.ireturn, 1) := by decide +kernel
theorem q195_33 : decode (mB 195) 33 = .ok (.iconst 0, 1) := by decide +kernel
theorem q195_34 : decode (mB 195) 34 = .ok (.istore_n 3, 1) := by decide +kernel
theorem q195_35 : decode (mB 195) 35 = .ok (.iconst 0, 1) := by decide +kernel
theorem q195_36 : decode (mB 195) 36 = .ok (.istore 4, 2) := by decide +kernel
theorem q195_38 : decode (mB 195) 38 = .ok (.iload 4, 2) := by decide +kernel
theorem q195_40 : decode (mB 195) 40 = .ok (.iconst 4, 1) := by decide +kernel
theorem q195_41 : decode (mB 195) 41 = .ok (.if_icmp .ge 40, 3) := by decide +kernel
theorem q195_44 : decode (mB 195) 44 = .ok (.iload_n 3, 1) := by decide +kernel
theorem q195_45 : decode (mB 195) 45 = .ok (.iload 4, 2) := by decide +kernel
theorem q195_47 : decode (mB 195) 47 = .ok (.iload_n 1, 1) := by decide +kernel
theorem q195_48 : decode (mB 195) 48 = .ok (.if_icmp .eq 24, 3) := by decide +kernel
theorem q195_51 : decode (mB 195) 51 = .ok (.iload_n 2, 1) := by decide +kernel
theorem q195_52 : decode (mB 195) 52 = .ok (.ifCond .lt 20, 3) := by decide +kernel
theorem q195_55 : decode (mB 195) 55 = .ok (.aload_n 0, 1) := by decide +kernel
theorem q195_56 : gfB 195 56 35 8 8 = true := by decide +kernel
theorem q195_59 : decode (mB 195) 59 = .ok (.iconst 2, 1) := by decide +kernel
theorem q195_60 : decode (mB 195) 60 = .ok (.iload 4, 2) := by decide +kernel
theorem q195_62 : decode (mB 195) 62 = .ok (.iadd, 1) := by decide +kernel
theorem q195_63 : decode (mB 195) 63 = .ok (.iaload, 1) := by decide +kernel
theorem q195_64 : decode (mB 195) 64 = .ok (.iload_n 2, 1) := by decide +kernel
theorem q195_65 : decode (mB 195) 65 = .ok (.if_icmp .ne 7, 3) := by decide +kernel
theorem q195_68 : decode (mB 195) 68 = .ok (.iconst 1, 1) := by decide +kernel
theorem q195_69 : decode (mB 195) 69 = .ok (.goto 4, 3) := by decide +kernel
theorem q195_72 : decode (mB 195) 72 = .ok (.iconst 0, 1) := by decide +kernel
theorem q195_73 : decode (mB 195) 73 = .ok (.ior, 1) := by decide +kernel
theorem q195_74 : decode (mB 195) 74 = .ok (.istore_n 3, 1) := by decide +kernel
theorem q195_75 : decode (mB 195) 75 = .ok (.iinc 4 1, 3) := by decide +kernel
theorem q195_78 : decode (mB 195) 78 = .ok (.goto (-40), 3) := by decide +kernel
theorem q195_81 : decode (mB 195) 81 = .ok (.aload_n 0, 1) := by decide +kernel
theorem q195_82 : decode (mB 195) 82 = .ok (.iload_n 3, 1) := by decide +kernel
theorem q195_83 : decode (mB 195) 83 = .ok (.iconst 2, 1) := by decide +kernel
theorem q195_84 : cfB 195 84 65 137 1 4 2 = true := by decide +kernel
theorem q195_87 : decode (mB 195) 87 = .ok (.ifCond .eq 5, 3) := by decide +kernel
theorem q195_90 : decode (mB 195) 90 = .ok (.iconst 0, 1) := by decide +kernel
theorem q195_91 : decode (mB 195) 91 = .ok (.ireturn, 1) := by decide +kernel
theorem q195_92 : decode (mB 195) 92 = .ok (.aload_n 0, 1) := by decide +kernel
theorem q195_93 : gfB 195 93 35 8 8 = true := by decide +kernel
theorem q195_96 : decode (mB 195) 96 = .ok (.iconst 2, 1) := by decide +kernel
theorem q195_97 : decode (mB 195) 97 = .ok (.iload_n 1, 1) := by decide +kernel
theorem q195_98 : decode (mB 195) 98 = .ok (.iadd, 1) := by decide +kernel
theorem q195_99 : decode (mB 195) 99 = .ok (.iaload, 1) := by decide +kernel
theorem q195_100 : decode (mB 195) 100 = .ok (.istore 4, 2) := by decide +kernel
theorem q195_102 : decode (mB 195) 102 = .ok (.aload_n 0, 1) := by decide +kernel
theorem q195_103 : decode (mB 195) 103 = .ok (.iconst 0, 1) := by decide +kernel
theorem q195_104 : pfB 195 104 76 8 22 = true := by decide +kernel
theorem q195_107 : decode (mB 195) 107 = .ok (.aload_n 0, 1) := by decide +kernel
theorem q195_108 : gfB 195 108 35 8 8 = true := by decide +kernel
theorem q195_111 : decode (mB 195) 111 = .ok (.iconst 2, 1) := by decide +kernel
theorem q195_112 : decode (mB 195) 112 = .ok (.iload_n 1, 1) := by decide +kernel
theorem q195_113 : decode (mB 195) 113 = .ok (.iadd, 1) := by decide +kernel
theorem q195_114 : decode (mB 195) 114 = .ok (.iload_n 2, 1) := by decide +kernel
theorem q195_115 : decode (mB 195) 115 = .ok (.iastore, 1) := by decide +kernel
theorem q195_116 : decode (mB 195) 116 = .ok (.iload 4, 2) := by decide +kernel
theorem q195_118 : decode (mB 195) 118 = .ok (.ireturn, 1) := by decide +kernel
theorem q196_0 : decode (mB 196) 0 = .ok (.aload_n 0, 1) := by decide +kernel
theorem q196_1 : decode (mB 196) 1 = .ok (.iconst 0, 1) := by decide +kernel
theorem q196_2 : pfB 196 2 58 8 19 = true := by decide +kernel
theorem q196_5 : decode (mB 196) 5 = .ok (.aload_n 0, 1) := by decide +kernel
theorem q196_6 : cfB 196 6 136 164 1 4 0 = true := by decide +kernel
theorem q196_9 : decode (mB 196) 9 = .ok (.aload_n 0, 1) := by decide +kernel
theorem q196_10 : decode (mB 196) 10 = .ok (.aload_n 0, 1) := by decide +kernel
theorem q196_11 : gfB 196 11 35 8 8 = true := by decide +kernel
theorem q196_14 : cfB 196 14 149 167 1 4 1 = true := by decide +kernel
theorem q196_17 : decode (mB 196) 17 = .ok (.ireturn, 1) := by decide +kernel
theorem q197_0 : decode (mB 197) 0 = .ok (.aload_n 0, 1) := by decide +kernel
theorem q197_1 : decode (mB 197) 1 = .ok (.iconst 0, 1) := by decide +kernel
theorem q197_2 : pfB 197 2 58 8 19 = true := by decide +kernel
theorem q197_5 : decode (mB 197) 5 = .ok (.aload_n 0, 1) := by decide +kernel
theorem q197_6 : cfB 197 6 136 164 1 4 0 = true := by decide +kernel
theorem q197_9 : decode (mB 197) 9 = .ok (.aload_n 0, 1) := by decide +kernel
theorem q197_10 : decode (mB 197) 10 = .ok (.aload_n 0, 1) := by decide +kernel
theorem q197_11 : gfB 197 11 35 8 8 = true := by decide +kernel
theorem q197_14 : cfB 197 14 124 168 1 4 1 = true := by decide +kernel
theorem q197_17 : decode (mB 197) 17 = .ok (.ireturn, 1) := by decide +kernel
theorem q198_0 : decode (mB 198) 0 = .ok (.aload_n 0, 1) := by decide +kernel
theorem q198_1 : cfB 198 1 136 164 1 4 0 = true := by decide +kernel
theorem q198_4 : decode (mB 198) 4 = .ok (.aload_n 0, 1) := by decide +kernel
theorem q198_5 : decode (mB 198) 5 = .ok (.aload_n 0, 1) := by decide +kernel
theorem q198_6 : decode (mB 198) 6 = .ok (.aload_n 0, 1) := by decide +kernel
theorem q198_7 : gfB 198 7 35 8 8 = true := by decide +kernel
theorem q198_10 : cfB 198 10 149 167 1 4 1 = true := by decide +kernel
theorem q198_13 : decode (mB 198) 13 = .ok (.ifCond .eq 7, 3) := by decide +kernel
theorem q198_16 : decode (mB 198) 16 = .ok (.iconst 1, 1) := by decide +kernel
theorem q198_17 : decode (mB 198) 17 = .ok (.goto 4, 3) := by decide +kernel
theorem q198_20 : decode (mB 198) 20 = .ok (.iconst 0, 1) := by decide +kernel
theorem q198_21 : decode (mB 198) 21 = .ok (.iconst 1, 1) := by decide +kernel
theorem q198_22 : cfB 198 22 65 137 1 4 2 = true := by decide +kernel
theorem q198_25 : decode (mB 198) 25 = .ok (.ifCond .eq 7, 3) := by decide +kernel
theorem q198_28 : decode (mB 198) 28 = .ok (.iconst 0, 1) := by decide +kernel
theorem q198_29 : decode (mB 198) 29 = .ok (.goto 11, 3) := by decide +kernel
theorem q198_32 : decode (mB 198) 32 = .ok (.aload_n 0, 1) := by decide +kernel
theorem q198_33 : decode (mB 198) 33 = .ok (.aload_n 0, 1) := by decide +kernel
theorem q198_34 : gfB 198 34 35 8 8 = true := by decide +kernel
theorem q198_37 : cfB 198 37 127 170 1 4 1 = true := by decide +kernel
theorem q198_40 : decode (mB 198) 40 = .ok (.ireturn, 1) := by decide +kernel
theorem q199_0 : decode (mB 199) 0 = .ok (.aload_n 0, 1) := by decide +kernel
theorem q199_1 : cfB 199 1 155 173 1 4 0 = true := by decide +kernel
theorem q199_4 : decode (mB 199) 4 = .ok (.aload_n 0, 1) := by decide +kernel
theorem q199_5 : decode (mB 199) 5 = .ok (.aload_n 0, 1) := by decide +kernel
theorem q199_6 : decode (mB 199) 6 = .ok (.aload_n 0, 1) := by decide +kernel
theorem q199_7 : gfB 199 7 35 8 8 = true := by decide +kernel
theorem q199_10 : cfB 199 10 149 167 1 4 1 = true := by decide +kernel
theorem q199_13 : decode (mB 199) 13 = .ok (.ifCond .eq 7, 3) := by decide +kernel
theorem q199_16 : decode (mB 199) 16 = .ok (.iconst 1, 1) := by decide +kernel
theorem q199_17 : decode (mB 199) 17 = .ok (.goto 4, 3) := by decide +kernel
theorem q199_20 : decode (mB 199) 20 = .ok (.iconst 0, 1) := by decide +kernel
theorem q199_21 : decode (mB 199) 21 = .ok (.iconst 1, 1) := by decide +kernel
theorem q199_22 : cfB 199 22 65 137 1 4 2 = true := by decide +kernel
theorem q199_25 : decode (mB 199) 25 = .ok (.ifCond .eq 7, 3) := by decide +kernel
theorem q199_28 : decode (mB 199) 28 = .ok (.iconst 0, 1) := by decide +kernel
theorem q199_29 : decode (mB 199) 29 = .ok (.goto 7, 3) := by decide +kernel
theorem q199_32 : decode (mB 199) 32 = .ok (.aload_n 0, 1) := by decide +kernel
theorem q199_33 : gfB 199 33 138 8 18 = true := by decide +kernel
theorem q199_36 : decode (mB 199) 36 = .ok (.ireturn, 1) := by decide +kernel
theorem q200_0 : decode (mB 200) 0 = .ok (.aload_n 0, 1) := by decide +kernel
theorem q200_1 : decode (mB 200) 1 = .ok (.iconst 0, 1) := by decide +kernel
theorem q200_2 : pfB 200 2 58 8 19 = true := by decide +kernel
theorem q200_5 : decode (mB 200) 5 = .ok (.iconst 1, 1) := by decide +kernel
theorem q200_6 : decode (mB 200) 6 = .ok (.ireturn, 1) := by decide +kernel
theorem q201_0 : decode (mB 201) 0 = .ok (.iload_n 0, 1) := by decide +kernel
theorem q201_1 : decode (mB 201) 1 = .ok (.iload_n 0, 1) := by decide +kernel
theorem q201_2 : decode (mB 201) 2 = .ok (.iconst 1, 1) := by decide +kernel
theorem q201_3 : decode (mB 201) 3 = .ok (.iushr, 1) := by decide +kernel
theorem q201_4 : (decide (201 < 235) && decide (decode (mB 201) 4 = .ok (.ldc_w 265, 3)) && (lks (mD 201)).contains (265, 6, 1431655765, 0)) = true := by decide +kernel
theorem q201_7 : decode (mB 201) 7 = .ok (.iand, 1) := by decide +kernel
theorem q201_8 : decode (mB 201) 8 = .ok (.isub, 1) := by decide +kernel
theorem q201_9 : decode (mB 201) 9 = .ok (.istore_n 0, 1) := by decide +kernel
theorem q201_10 : decode (mB 201) 10 = .ok (.iload_n 0, 1) := by decide +kernel
theorem q201_11 : (decide (201 < 235) && decide (decode (mB 201) 11 = .ok (.ldc_w 266, 3)) && (lks (mD 201)).contains (266, 6, 858993459, 0)) = true := by decide +kernel
theorem q201_14 : decode (mB 201) 14 = .ok (.iand, 1) := by decide +kernel
theorem q201_15 : decode (mB 201) 15 = .ok (.iload_n 0, 1) := by decide +kernel
theorem q201_16 : decode (mB 201) 16 = .ok (.iconst 2, 1) := by decide +kernel
theorem q201_17 : decode (mB 201) 17 = .ok (.iushr, 1) := by decide +kernel
theorem q201_18 : (decide (201 < 235) && decide (decode (mB 201) 18 = .ok (.ldc_w 266, 3)) && (lks (mD 201)).contains (266, 6, 858993459, 0)) = true := by decide +kernel
theorem q201_21 : decode (mB 201) 21 = .ok (.iand, 1) := by decide +kernel
theorem q201_22 : decode (mB 201) 22 = .ok (.iadd, 1) := by decide +kernel
theorem q201_23 : decode (mB 201) 23 = .ok (.istore_n 0, 1) := by decide +kernel
theorem q201_24 : decode (mB 201) 24 = .ok (.iload_n 0, 1) := by decide +kernel
theorem q201_25 : decode (mB 201) 25 = .ok (.iload_n 0, 1) := by decide +kernel
theorem q201_26 : decode (mB 201) 26 = .ok (.iconst 4, 1) := by decide +kernel
theorem q201_27 : decode (mB 201) 27 = .ok (.iushr, 1) := by decide +kernel
theorem q201_28 : decode (mB 201) 28 = .ok (.iadd, 1) := by decide +kernel
theorem q201_29 : (decide (201 < 235) && decide (decode (mB 201) 29 = .ok (.ldc_w 267, 3)) && (lks (mD 201)).contains (267, 6, 252645135, 0)) = true := by decide +kernel
theorem q201_32 : decode (mB 201) 32 = .ok (.iand, 1) := by decide +kernel
theorem q201_33 : decode (mB 201) 33 = .ok (.istore_n 0, 1) := by decide +kernel
theorem q201_34 : decode (mB 201) 34 = .ok (.iload_n 0, 1) := by decide +kernel
theorem q201_35 : decode (mB 201) 35 = .ok (.iload_n 0, 1) := by decide +kernel
theorem q201_36 : decode (mB 201) 36 = .ok (.bipush 8, 2) := by decide +kernel
theorem q201_38 : decode (mB 201) 38 = .ok (.iushr, 1) := by decide +kernel
theorem q201_39 : decode (mB 201) 39 = .ok (.iadd, 1) := by decide +kernel
theorem q201_40 : decode (mB 201) 40 = .ok (.istore_n 0, 1) := by decide +kernel
theorem q201_41 : decode (mB 201) 41 = .ok (.iload_n 0, 1) := by decide +kernel
theorem q201_42 : decode (mB 201) 42 = .ok (.iload_n 0, 1) := by decide +kernel
theorem q201_43 : decode (mB 201) 43 = .ok (.bipush 16, 2) := by decide +kernel
theorem q201_45 : decode (mB 201) 45 = .ok (.iushr, 1) := by decide +kernel
theorem q201_46 : decode (mB 201) 46 = .ok (.iadd, 1) := by decide +kernel
theorem q201_47 : decode (mB 201) 47 = .ok (.istore_n 0, 1) := by decide +kernel
theorem q201_48 : decode (mB 201) 48 = .ok (.iload_n 0, 1) := by decide +kernel
theorem q201_49 : decode (mB 201) 49 = .ok (.bipush 63, 2) := by decide +kernel
theorem q201_51 : decode (mB 201) 51 = .ok (.iand, 1) := by decide +kernel
theorem q201_52 : decode (mB 201) 52 = .ok (.ireturn, 1) := by decide +kernel
theorem q202_0 : decode (mB 202) 0 = .ok (.lload_n 0, 1) := by decide +kernel
theorem q202_1 : decode (mB 202) 1 = .ok (.lload_n 0, 1) := by decide +kernel
theorem q202_2 : decode (mB 202) 2 = .ok (.iconst 1, 1) := by decide +kernel
theorem q202_3 : decode (mB 202) 3 = .ok (.lushr, 1) := by decide +kernel
theorem q202_4 : (decide (202 < 235) && decide (decode (mB 202) 4 = .ok (.ldc2_w 314, 3)) && (lks (mD 202)).contains (314, 7, 6148914691236517205, 0)) = true := by decide +kernel
theorem q202_7 : decode (mB 202) 7 = .ok (.land, 1) := by decide +kernel
theorem q202_8 : decode (mB 202) 8 = .ok (.lsub, 1) := by decide +kernel
theorem q202_9 : decode (mB 202) 9 = .ok (.lstore_n 0, 1) := by decide +kernel
theorem q202_10 : decode (mB 202) 10 = .ok (.lload_n 0, 1) := by decide +kernel
theorem q202_11 : (decide (202 < 235) && decide (decode (mB 202) 11 = .ok (.ldc2_w 316, 3)) && (lks (mD 202)).contains (316, 7, 3689348814741910323, 0)) = true := by decide +kernel
theorem q202_14 : decode (mB 202) 14 = .ok (.land, 1) := by decide +kernel
theorem q202_15 : decode (mB 202) 15 = .ok (.lload_n 0, 1) := by decide +kernel
theorem q202_16 : decode (mB 202) 16 = .ok (.iconst 2, 1) := by decide +kernel
theorem q202_17 : decode (mB 202) 17 = .ok (.lushr, 1) := by decide +kernel
theorem q202_18 : (decide (202 < 235) && decide (decode (mB 202) 18 = .ok (.ldc2_w 316, 3)) && (lks (mD 202)).contains (316, 7, 3689348814741910323, 0)) = true := by decide +kernel
theorem q202_21 : decode (mB 202) 21 = .ok (.land, 1) := by decide +kernel
theorem q202_22 : decode (mB 202) 22 = .ok (.ladd, 1) := by decide +kernel
theorem q202_23 : decode (mB 202) 23 = .ok (.lstore_n 0, 1) := by decide +kernel
theorem q202_24 : decode (mB 202) 24 = .ok (.lload_n 0, 1) := by decide +kernel
theorem q202_25 : decode (mB 202) 25 = .ok (.lload_n 0, 1) := by decide +kernel
theorem q202_26 : decode (mB 202) 26 = .ok (.iconst 4, 1) := by decide +kernel
theorem q202_27 : decode (mB 202) 27 = .ok (.lushr, 1) := by decide +kernel
theorem q202_28 : decode (mB 202) 28 = .ok (.ladd, 1) := by decide +kernel
theorem q202_29 : (decide (202 < 235) && decide (decode (mB 202) 29 = .ok (.ldc2_w 318, 3)) && (lks (mD 202)).contains (318, 7, 1085102592571150095, 0)) = true := by decide +kernel
theorem q202_32 : decode (mB 202) 32 = .ok (.land, 1) := by decide +kernel
theorem q202_33 : decode (mB 202) 33 = .ok (.lstore_n 0, 1) := by decide +kernel
theorem q202_34 : decode (mB 202) 34 = .ok (.lload_n 0, 1) := by decide +kernel
theorem q202_35 : decode (mB 202) 35 = .ok (.lload_n 0, 1) := by decide +kernel
theorem q202_36 : decode (mB 202) 36 = .ok (.bipush 8, 2) := by decide +kernel
theorem q202_38 : decode (mB 202) 38 = .ok (.lushr, 1) := by decide +kernel
theorem q202_39 : decode (mB 202) 39 = .ok (.ladd, 1) := by decide +kernel
theorem q202_40 : decode (mB 202) 40 = .ok (.lstore_n 0, 1) := by decide +kernel
theorem q202_41 : decode (mB 202) 41 = .ok (.lload_n 0, 1) := by decide +kernel
theorem q202_42 : decode (mB 202) 42 = .ok (.lload_n 0, 1) := by decide +kernel
theorem q202_43 : decode (mB 202) 43 = .ok (.bipush 16, 2) := by decide +kernel
theorem q202_45 : decode (mB 202) 45 = .ok (.lushr, 1) := by decide +kernel
theorem q202_46 : decode (mB 202) 46 = .ok (.ladd, 1) := by decide +kernel
theorem q202_47 : decode (mB 202) 47 = .ok (.lstore_n 0, 1) := by decide +kernel
theorem q202_48 : decode (mB 202) 48 = .ok (.lload_n 0, 1) := by decide +kernel
theorem q202_49 : decode (mB 202) 49 = .ok (.lload_n 0, 1) := by decide +kernel
theorem q202_50 : decode (mB 202) 50 = .ok (.bipush 32, 2) := by decide +kernel
theorem q202_52 : decode (mB 202) 52 = .ok (.lushr, 1) := by decide +kernel
theorem q202_53 : decode (mB 202) 53 = .ok (.ladd, 1) := by decide +kernel
theorem q202_54 : decode (mB 202) 54 = .ok (.lstore_n 0, 1) := by decide +kernel
theorem q202_55 : decode (mB 202) 55 = .ok (.lload_n 0, 1) := by decide +kernel
theorem q202_56 : decode (mB 202) 56 = .ok (.l2i, 1) := by decide +kernel
theorem q202_57 : decode (mB 202) 57 = .ok (.bipush 127, 2) := by decide +kernel
theorem q202_59 : decode (mB 202) 59 = .ok (.iand, 1) := by decide +kernel
theorem q202_60 : decode (mB 202) 60 = .ok (.ireturn, 1) := by decide +kernel
theorem q203_0 : decode (mB 203) 0 = .ok (.aload 7, 2) := by decide +kernel
theorem q203_2 : decode (mB 203) 2 = .ok (.iconst 0, 1) := by decide +kernel
theorem q203_3 : decode (mB 203) 3 = .ok (.aload_n 0, 1) := by decide +kernel
theorem q203_4 : decode (mB 203) 4 = .ok (.iload_n 1, 1) := by decide +kernel
theorem q203_5 : decode (mB 203) 5 = .ok (.iload_n 2, 1) := by decide +kernel
theorem q203_6 : decode (mB 203) 6 = .ok (.iload_n 3, 1) := by decide +kernel
theorem q203_7 : decode (mB 203) 7 = .ok (.iload 4, 2) := by decide +kernel
theorem q203_9 : decode (mB 203) 9 = .ok (.iload 5, 2) := by decide +kernel
theorem q203_11 : decode (mB 203) 11 = .ok (.iload 6, 2) := by decide +kernel
theorem q203_13 : (cfB 203 13 7 82 1 4 6 && hC 203 13 [(0, 21, 8, 2), (1, 25, 8, 2)]) = true := by decide +kernel
theorem q203_16 : decode (mB 203) 16 = .ok (.i2l, 1) := by decide +kernel
theorem q203_17 : decode (mB 203) 17 = .ok (.lastore, 1) := by decide +kernel
theorem q203_18 : decode (mB 203) 18 = .ok (.goto 11, 3) := by decide +kernel
theorem q203_21 : decode (mB 203) 21 = .ok (.astore 8, 2) := by decide +kernel
theorem q203_23 : decode (mB 203) 23 = .ok (.iconst 1, 1) := by decide +kernel
theorem q203_24 : decode (mB 203) 24 = .ok (.ireturn, 1) := by decide +kernel
theorem q203_25 : decode (mB 203) 25 = .ok (.astore 8, 2) := by decide +kernel
theorem q203_27 : decode (mB 203) 27 = .ok (.iconst 2, 1) := by decide +kernel
theorem q203_28 : decode (mB 203) 28 = .ok (.ireturn, 1) := by decide +kernel
theorem q203_29 : decode (mB 203) 29 = .ok (.iconst 0, 1) := by decide +kernel
theorem q203_30 : decode (mB 203) 30 = .ok (.ireturn, 1) := by decide +kernel
theorem q204_0 : decode (mB 204) 0 = .ok (.aload_n 2, 1) := by decide +kernel
theorem q204_1 : decode (mB 204) 1 = .ok (.iconst 0, 1) := by decide +kernel
theorem q204_2 : decode (mB 204) 2 = .ok (.aload_n 0, 1) := by decide +kernel
theorem q204_3 : decode (mB 204) 3 = .ok (.iload_n 1, 1) := by decide +kernel
theorem q204_4 : (cfB 204 4 17 83 1 4 1 && hC 204 4 [(2, 12, 3, 1)]) = true := by decide +kernel
theorem q204_7 : decode (mB 204) 7 = .ok (.i2l, 1) := by decide +kernel
theorem q204_8 : decode (mB 204) 8 = .ok (.lastore, 1) := by decide +kernel
theorem q204_9 : decode (mB 204) 9 = .ok (.goto 6, 3) := by decide +kernel
theorem q204_12 : decode (mB 204) 12 = .ok (.astore_n 3, 1) := by decide +kernel
theorem q204_13 : decode (mB 204) 13 = .ok (.iconst 1, 1) := by decide +kernel
theorem q204_14 : decode (mB 204) 14 = .ok (.ireturn, 1) := by decide +kernel
theorem q204_15 : decode (mB 204) 15 = .ok (.iconst 0, 1) := by decide +kernel
theorem q204_16 : decode (mB 204) 16 = .ok (.ireturn, 1) := by decide +kernel
theorem q205_0 : decode (mB 205) 0 = .ok (.aload 4, 2) := by decide +kernel
theorem q205_2 : decode (mB 205) 2 = .ok (.iconst 0, 1) := by decide +kernel
theorem q205_3 : decode (mB 205) 3 = .ok (.aload_n 0, 1) := by decide +kernel
theorem q205_4 : decode (mB 205) 4 = .ok (.iload_n 1, 1) := by decide +kernel
theorem q205_5 : decode (mB 205) 5 = .ok (.iload_n 2, 1) := by decide +kernel
theorem q205_6 : decode (mB 205) 6 = .ok (.iload_n 3, 1) := by decide +kernel
theorem q205_7 : (cfB 205 7 23 84 1 4 3 && hC 205 7 [(2, 15, 5, 2), (0, 19, 5, 2)]) = true := by decide +kernel
theorem q205_10 : decode (mB 205) 10 = .ok (.i2l, 1) := by decide +kernel
theorem q205_11 : decode (mB 205) 11 = .ok (.lastore, 1) := by decide +kernel
theorem q205_12 : decode (mB 205) 12 = .ok (.goto 11, 3) := by decide +kernel
theorem q205_15 : decode (mB 205) 15 = .ok (.astore 5, 2) := by decide +kernel
theorem q205_17 : decode (mB 205) 17 = .ok (.iconst 1, 1) := by decide +kernel
theorem q205_18 : decode (mB 205) 18 = .ok (.ireturn, 1) := by decide +kernel
theorem q205_19 : decode (mB 205) 19 = .ok (.astore 5, 2) := by decide +kernel
theorem q205_21 : decode (mB 205) 21 = .ok (.iconst 2, 1) := by decide +kernel
theorem q205_22 : decode (mB 205) 22 = .ok (.ireturn, 1) := by decide +kernel
theorem q205_23 : decode (mB 205) 23 = .ok (.iconst 0, 1) := by decide +kernel
theorem q205_24 : decode (mB 205) 24 = .ok (.ireturn, 1) := by decide +kernel
theorem q206_0 : decode (mB 206) 0 = .ok (.aload_n 2, 1) := by decide +kernel
theorem q206_1 : decode (mB 206) 1 = .ok (.iconst 0, 1) := by decide +kernel
theorem q206_2 : decode (mB 206) 2 = .ok (.aload_n 0, 1) := by decide +kernel
theorem q206_3 : decode (mB 206) 3 = .ok (.iload_n 1, 1) := by decide +kernel
theorem q206_4 : (cfB 206 4 27 86 1 4 1 && hC 206 4 [(2, 12, 3, 1)]) = true := by decide +kernel
theorem q206_7 : decode (mB 206) 7 = .ok (.i2l, 1) := by decide +kernel
theorem q206_8 : decode (mB 206) 8 = .ok (.lastore, 1) := by decide +kernel
theorem q206_9 : decode (mB 206) 9 = .ok (.goto 6, 3) := by decide +kernel
theorem q206_12 : decode (mB 206) 12 = .ok (.astore_n 3, 1) := by decide +kernel
theorem q206_13 : decode (mB 206) 13 = .ok (.iconst 1, 1) := by decide +kernel
theorem q206_14 : decode (mB 206) 14 = .ok (.ireturn, 1) := by decide +kernel
theorem q206_15 : decode (mB 206) 15 = .ok (.iconst 0, 1) := by decide +kernel
theorem q206_16 : decode (mB 206) 16 = .ok (.ireturn, 1) := by decide +kernel
theorem q207_0 : decode (mB 207) 0 = .ok (.aload_n 2, 1) := by decide +kernel
theorem q207_1 : decode (mB 207) 1 = .ok (.iconst 0, 1) := by decide +kernel
theorem q207_2 : decode (mB 207) 2 = .ok (.aload_n 0, 1) := by decide +kernel
theorem q207_3 : decode (mB 207) 3 = .ok (.iload_n 1, 1) := by decide +kernel
theorem q207_4 : (cfB 207 4 30 87 1 4 1 && hC 207 4 [(2, 11, 3, 1)]) = true := by decide +kernel
theorem q207_7 : decode (mB 207) 7 = .ok (.lastore, 1) := by decide +kernel
theorem q207_8 : decode (mB 207) 8 = .ok (.goto 6, 3) := by decide +kernel
theorem q207_11 : decode (mB 207) 11 = .ok (.astore_n 3, 1) := by decide +kernel
theorem q207_12 : decode (mB 207) 12 = .ok (.iconst 1, 1) := by decide +kernel
theorem q207_13 : decode (mB 207) 13 = .ok (.ireturn, 1) := by decide +kernel
theorem q207_14 : decode (mB 207) 14 = .ok (.iconst 0, 1) := by decide +kernel
theorem q207_15 : decode (mB 207) 15 = .ok (.ireturn, 1) := by decide +kernel
theorem q208_0 : decode (mB 208) 0 = .ok (.aload_n 2, 1) := by decide +kernel
theorem q208_1 : decode (mB 208) 1 = .ok (.iconst 0, 1) := by decide +kernel
theorem q208_2 : decode (mB 208) 2 = .ok (.aload_n 0, 1) := by decide +kernel
theorem q208_3 : decode (mB 208) 3 = .ok (.iload_n 1, 1) := by decide +kernel
theorem q208_4 : (cfB 208 4 34 88 1 4 1 && hC 208 4 [(2, 11, 3, 1), (3, 14, 3, 1)]) = true := by decide +kernel
theorem q208_7 : decode (mB 208) 7 = .ok (.dastore, 1) := by decide +kernel
theorem q208_8 : decode (mB 208) 8 = .ok (.goto 9, 3) := by decide +kernel
theorem q208_11 : decode (mB 208) 11 = .ok (.astore_n 3, 1) := by decide +kernel
theorem q208_12 : decode (mB 208) 12 = .ok (.iconst 1, 1) := by decide +kernel
theorem q208_13 : decode (mB 208) 13 = .ok (.ireturn, 1) := by decide +kernel
theorem q208_14 : decode (mB 208) 14 = .ok (.astore_n 3, 1) := by decide +kernel
theorem q208_15 : decode (mB 208) 15 = .ok (.iconst 2, 1) := by decide +kernel
theorem q208_16 : decode (mB 208) 16 = .ok (.ireturn, 1) := by decide +kernel
theorem q208_17 : decode (mB 208) 17 = .ok (.iconst 0, 1) := by decide +kernel
theorem q208_18 : decode (mB 208) 18 = .ok (.ireturn, 1) := by decide +kernel
theorem q209_0 : decode (mB 209) 0 = .ok (.aload_n 2, 1) := by decide +kernel
theorem q209_1 : decode (mB 209) 1 = .ok (.iconst 0, 1) := by decide +kernel
theorem q209_2 : decode (mB 209) 2 = .ok (.aload_n 0, 1) := by decide +kernel
theorem q209_3 : decode (mB 209) 3 = .ok (.iload_n 1, 1) := by decide +kernel
theorem q209_4 : (cfB 209 4 40 89 1 4 1 && hC 209 4 [(2, 12, 3, 1), (3, 15, 3, 1)]) = true := by decide +kernel
theorem q209_7 : decode (mB 209) 7 = .ok (.f2d, 1) := by decide +kernel
theorem q209_8 : decode (mB 209) 8 = .ok (.dastore, 1) := by decide +kernel
theorem q209_9 : decode (mB 209) 9 = .ok (.goto 9, 3) := by decide +kernel
theorem q209_12 : decode (mB 209) 12 = .ok (.astore_n 3, 1) := by decide +kernel
theorem q209_13 : decode (mB 209) 13 = .ok (.iconst 1, 1) := by decide +kernel
theorem q209_14 : decode (mB 209) 14 = .ok (.ireturn, 1) := by decide +kernel
theorem q209_15 : decode (mB 209) 15 = .ok (.astore_n 3, 1) := by decide +kernel
theorem q209_16 : decode (mB 209) 16 = .ok (.iconst 2, 1) := by decide +kernel
theorem q209_17 : decode (mB 209) 17 = .ok (.ireturn, 1) := by decide +kernel
theorem q209_18 : decode (mB 209) 18 = .ok (.iconst 0, 1) := by decide +kernel
theorem q209_19 : decode (mB 209) 19 = .ok (.ireturn, 1) := by decide +kernel
theorem q210_0 : decode (mB 210) 0 = .ok (.aload_n 2, 1) := by decide +kernel
theorem q210_1 : decode (mB 210) 1 = .ok (.iconst 0, 1) := by decide +kernel
theorem q210_2 : decode (mB 210) 2 = .ok (.aload_n 0, 1) := by decide +kernel
theorem q210_3 : decode (mB 210) 3 = .ok (.iload_n 1, 1) := by decide +kernel
theorem q210_4 : (cfB 210 4 44 90 1 4 1 && hC 210 4 [(2, 12, 3, 1)]) = true := by decide +kernel
theorem q210_7 : decode (mB 210) 7 = .ok (.i2l, 1) := by decide +kernel
theorem q210_8 : decode (mB 210) 8 = .ok (.lastore, 1) := by decide +kernel
theorem q210_9 : decode (mB 210) 9 = .ok (.goto 6, 3) := by decide +kernel
theorem q210_12 : decode (mB 210) 12 = .ok (.astore_n 3, 1) := by decide +kernel
theorem q210_13 : decode (mB 210) 13 = .ok (.iconst 1, 1) := by decide +kernel
theorem q210_14 : decode (mB 210) 14 = .ok (.ireturn, 1) := by decide +kernel
theorem q210_15 : decode (mB 210) 15 = .ok (.iconst 0, 1) := by decide +kernel
theorem q210_16 : decode (mB 210) 16 = .ok (.ireturn, 1) := by decide +kernel
theorem q211_0 : decode (mB 211) 0 = .ok (.aload_n 3, 1) := by decide +kernel
theorem q211_1 : decode (mB 211) 1 = .ok (.iconst 0, 1) := by decide +kernel
theorem q211_2 : decode (mB 211) 2 = .ok (.aload_n 0, 1) := by decide +kernel
theorem q211_3 : decode (mB 211) 3 = .ok (.iload_n 1, 1) := by decide +kernel
theorem q211_4 : decode (mB 211) 4 = .ok (.iload_n 2, 1) := by decide +kernel
theorem q211_5 : (cfB 211 5 47 91 1 4 2 && hC 211 5 [(2, 13, 4, 2), (0, 17, 4, 2)]) = true := by decide +kernel
theorem q211_8 : decode (mB 211) 8 = .ok (.i2l, 1) := by decide +kernel
theorem q211_9 : decode (mB 211) 9 = .ok (.lastore, 1) := by decide +kernel
theorem q211_10 : decode (mB 211) 10 = .ok (.goto 11, 3) := by decide +kernel
theorem q211_13 : decode (mB 211) 13 = .ok (.astore 4, 2) := by decide +kernel
theorem q211_15 : decode (mB 211) 15 = .ok (.iconst 1, 1) := by decide +kernel
theorem q211_16 : decode (mB 211) 16 = .ok (.ireturn, 1) := by decide +kernel
theorem q211_17 : decode (mB 211) 17 = .ok (.astore 4, 2) := by decide +kernel
theorem q211_19 : decode (mB 211) 19 = .ok (.iconst 2, 1) := by decide +kernel
theorem q211_20 : decode (mB 211) 20 = .ok (.ireturn, 1) := by decide +kernel
theorem q211_21 : decode (mB 211) 21 = .ok (.iconst 0, 1) := by decide +kernel
theorem q211_22 : decode (mB 211) 22 = .ok (.ireturn, 1) := by decide +kernel
theorem q212_0 : decode (mB 212) 0 = .ok (.aload_n 2, 1) := by decide +kernel
theorem q212_1 : decode (mB 212) 1 = .ok (.iconst 0, 1) := by decide +kernel
theorem q212_2 : decode (mB 212) 2 = .ok (.aload_n 0, 1) := by decide +kernel
theorem q212_3 : decode (mB 212) 3 = .ok (.iload_n 1, 1) := by decide +kernel
theorem q212_4 : (cfB 212 4 51 92 1 4 1 && hC 212 4 [(2, 12, 3, 1), (1, 15, 3, 1)]) = true := by decide +kernel
theorem q212_7 : decode (mB 212) 7 = .ok (.i2l, 1) := by decide +kernel
theorem q212_8 : decode (mB 212) 8 = .ok (.lastore, 1) := by decide +kernel
theorem q212_9 : decode (mB 212) 9 = .ok (.goto 9, 3) := by decide +kernel
theorem q212_12 : decode (mB 212) 12 = .ok (.astore_n 3, 1) := by decide +kernel
theorem q212_13 : decode (mB 212) 13 = .ok (.iconst 1, 1) := by decide +kernel
theorem q212_14 : decode (mB 212) 14 = .ok (.ireturn, 1) := by decide +kernel
theorem q212_15 : decode (mB 212) 15 = .ok (.astore_n 3, 1) := by decide +kernel
theorem q212_16 : decode (mB 212) 16 = .ok (.iconst 2, 1) := by decide +kernel
theorem q212_17 : decode (mB 212) 17 = .ok (.ireturn, 1) := by decide +kernel
theorem q212_18 : decode (mB 212) 18 = .ok (.iconst 0, 1) := by decide +kernel
theorem q212_19 : decode (mB 212) 19 = .ok (.ireturn, 1) := by decide +kernel
theorem q213_0 : decode (mB 213) 0 = .ok (.aload_n 3, 1) := by decide +kernel
theorem q213_1 : decode (mB 213) 1 = .ok (.iconst 0, 1) := by decide +kernel
theorem q213_2 : decode (mB 213) 2 = .ok (.aload_n 0, 1) := by decide +kernel
theorem q213_3 : decode (mB 213) 3 = .ok (.iload_n 1, 1) := by decide +kernel
theorem q213_4 : decode (mB 213) 4 = .ok (.iload_n 2, 1) := by decide +kernel
theorem q213_5 : (cfB 213 5 54 93 1 4 2 && hC 213 5 [(2, 13, 4, 2)]) = true := by decide +kernel
theorem q213_8 : decode (mB 213) 8 = .ok (.i2l, 1) := by decide +kernel
theorem q213_9 : decode (mB 213) 9 = .ok (.lastore, 1) := by decide +kernel
theorem q213_10 : decode (mB 213) 10 = .ok (.goto 7, 3) := by decide +kernel
theorem q213_13 : decode (mB 213) 13 = .ok (.astore 4, 2) := by decide +kernel
theorem q213_15 : decode (mB 213) 15 = .ok (.iconst 1, 1) := by decide +kernel
theorem q213_16 : decode (mB 213) 16 = .ok (.ireturn, 1) := by decide +kernel
theorem q213_17 : decode (mB 213) 17 = .ok (.iconst 0, 1) := by decide +kernel
theorem q213_18 : decode (mB 213) 18 = .ok (.ireturn, 1) := by decide +kernel
theorem q214_0 : decode (mB 214) 0 = .ok (.aload_n 2, 1) := by decide +kernel
theorem q214_1 : decode (mB 214) 1 = .ok (.iconst 0, 1) := by decide +kernel
theorem q214_2 : decode (mB 214) 2 = .ok (.aload_n 0, 1) := by decide +kernel
theorem q214_3 : decode (mB 214) 3 = .ok (.iload_n 1, 1) := by decide +kernel
theorem q214_4 : (cfB 214 4 58 94 1 4 1 && hC 214 4 [(0, 12, 3, 1)]) = true := by decide +kernel
theorem q214_7 : decode (mB 214) 7 = .ok (.i2l, 1) := by decide +kernel
theorem q214_8 : decode (mB 214) 8 = .ok (.lastore, 1) := by decide +kernel
theorem q214_9 : decode (mB 214) 9 = .ok (.goto 6, 3) := by decide +kernel
theorem q214_12 : decode (mB 214) 12 = .ok (.astore_n 3, 1) := by decide +kernel
theorem q214_13 : decode (mB 214) 13 = .ok (.iconst 1, 1) := by decide +kernel
theorem q214_14 : decode (mB 214) 14 = .ok (.ireturn, 1) := by decide +kernel
theorem q214_15 : decode (mB 214) 15 = .ok (.iconst 0, 1) := by decide +kernel
theorem q214_16 : decode (mB 214) 16 = .ok (.ireturn, 1) := by decide +kernel
theorem q215_0 : decode (mB 215) 0 = .ok (.aload_n 3, 1) := by decide +kernel
theorem q215_1 : decode (mB 215) 1 = .ok (.iconst 0, 1) := by decide +kernel
theorem q215_2 : decode (mB 215) 2 = .ok (.aload_n 0, 1) := by decide +kernel
theorem q215_3 : decode (mB 215) 3 = .ok (.iload_n 1, 1) := by decide +kernel
theorem q215_4 : decode (mB 215) 4 = .ok (.iload_n 2, 1) := by decide +kernel
theorem q215_5 : (cfB 215 5 62 95 1 4 2 && hC 215 5 [(2, 13, 4, 2), (1, 17, 4, 2)]) = true := by decide +kernel
theorem q215_8 : decode (mB 215) 8 = .ok (.i2l, 1) := by decide +kernel
theorem q215_9 : decode (mB 215) 9 = .ok (.lastore, 1) := by decide +kernel
theorem q215_10 : decode (mB 215) 10 = .ok (.goto 11, 3) := by decide +kernel
theorem q215_13 : decode (mB 215) 13 = .ok (.astore 4, 2) := by decide +kernel
theorem q215_15 : decode (mB 215) 15 = .ok (.iconst 1, 1) := by decide +kernel
theorem q215_16 : decode (mB 215) 16 = .ok (.ireturn, 1) := by decide +kernel
theorem q215_17 : decode (mB 215) 17 = .ok (.astore 4, 2) := by decide +kernel
theorem q215_19 : decode (mB 215) 19 = .ok (.iconst 2, 1) := by decide +kernel
theorem q215_20 : decode (mB 215) 20 = .ok (.ireturn, 1) := by decide +kernel
theorem q215_21 : decode (mB 215) 21 = .ok (.iconst 0, 1) := by decide +kernel
theorem q215_22 : decode (mB 215) 22 = .ok (.ireturn, 1) := by decide +kernel
theorem q216_0 : decode (mB 216) 0 = .ok (.aload_n 3, 1) := by decide +kernel
theorem q216_1 : decode (mB 216) 1 = .ok (.iconst 0, 1) := by decide +kernel
theorem q216_2 : decode (mB 216) 2 = .ok (.aload_n 0, 1) := by decide +kernel
theorem q216_3 : decode (mB 216) 3 = .ok (.iload_n 1, 1) := by decide +kernel
theorem q216_4 : decode (mB 216) 4 = .ok (.iload_n 2, 1) := by decide +kernel
theorem q216_5 : (cfB 216 5 65 96 1 4 2 && hC 216 5 [(2, 13, 4, 2), (1, 17, 4, 2)]) = true := by decide +kernel
theorem q216_8 : decode (mB 216) 8 = .ok (.i2l, 1) := by decide +kernel
theorem q216_9 : decode (mB 216) 9 = .ok (.lastore, 1) := by decide +kernel
theorem q216_10 : decode (mB 216) 10 = .ok (.goto 11, 3) := by decide +kernel
theorem q216_13 : decode (mB 216) 13 = .ok (.astore 4, 2) := by decide +kernel
theorem q216_15 : decode (mB 216) 15 = .ok (.iconst 1, 1) := by decide +kernel
theorem q216_16 : decode (mB 216) 16 = .ok (.ireturn, 1) := by decide +kernel
theorem q216_17 : decode (mB 216) 17 = .ok (.astore 4, 2) := by decide +kernel
theorem q216_19 : decode (mB 216) 19 = .ok (.iconst 2, 1) := by decide +kernel
theorem q216_20 : decode (mB 216) 20 = .ok (.ireturn, 1) := by decide +kernel
theorem q216_21 : decode (mB 216) 21 = .ok (.iconst 0, 1) := by decide +kernel
theorem q216_22 : decode (mB 216) 22 = .ok (.ireturn, 1) := by decide +kernel
theorem q217_0 : decode (mB 217) 0 = .ok (.aload_n 3, 1) := by decide +kernel
theorem q217_1 : decode (mB 217) 1 = .ok (.iconst 0, 1) := by decide +kernel
theorem q217_2 : decode (mB 217) 2 = .ok (.aload_n 0, 1) := by decide +kernel
theorem q217_3 : decode (mB 217) 3 = .ok (.iload_n 1, 1) := by decide +kernel
theorem q217_4 : decode (mB 217) 4 = .ok (.iload_n 2, 1) := by decide +kernel
theorem q217_5 : (cfB 217 5 68 97 1 4 2 && hC 217 5 [(2, 13, 4, 2), (0, 17, 4, 2)]) = true := by decide +kernel
theorem q217_8 : decode (mB 217) 8 = .ok (.i2l, 1) := by decide +kernel
theorem q217_9 : decode (mB 217) 9 = .ok (.lastore, 1) := by decide +kernel
theorem q217_10 : decode (mB 217) 10 = .ok (.goto 11, 3) := by decide +kernel
theorem q217_13 : decode (mB 217) 13 = .ok (.astore 4, 2) := by decide +kernel
theorem q217_15 : decode (mB 217) 15 = .ok (.iconst 1, 1) := by decide +kernel
theorem q217_16 : decode (mB 217) 16 = .ok (.ireturn, 1) := by decide +kernel
theorem q217_17 : decode (mB 217) 17 = .ok (.astore 4, 2) := by decide +kernel
theorem q217_19 : decode (mB 217) 19 = .ok (.iconst 2, 1) := by decide +kernel
theorem q217_20 : decode (mB 217) 20 = .ok (.ireturn, 1) := by decide +kernel
theorem q217_21 : decode (mB 217) 21 = .ok (.iconst 0, 1) := by decide +kernel
theorem q217_22 : decode (mB 217) 22 = .ok (.ireturn, 1) := by decide +kernel
theorem q218_0 : decode (mB 218) 0 = .ok (.aload_n 2, 1) := by decide +kernel
theorem q218_1 : decode (mB 218) 1 = .ok (.iconst 0, 1) := by decide +kernel
theorem q218_2 : decode (mB 218) 2 = .ok (.aload_n 0, 1) := by decide +kernel
theorem q218_3 : decode (mB 218) 3 = .ok (.iload_n 1, 1) := by decide +kernel
theorem q218_4 : (cfB 218 4 71 99 1 4 1 && hC 218 4 [(4, 12, 3, 1)]) = true := by decide +kernel
theorem q218_7 : decode (mB 218) 7 = .ok (.i2l, 1) := by decide +kernel
theorem q218_8 : decode (mB 218) 8 = .ok (.lastore, 1) := by decide +kernel
theorem q218_9 : decode (mB 218) 9 = .ok (.goto 6, 3) := by decide +kernel
theorem q218_12 : decode (mB 218) 12 = .ok (.astore_n 3, 1) := by decide +kernel
theorem q218_13 : decode (mB 218) 13 = .ok (.iconst 1, 1) := by decide +kernel
theorem q218_14 : decode (mB 218) 14 = .ok (.ireturn, 1) := by decide +kernel
theorem q218_15 : decode (mB 218) 15 = .ok (.iconst 0, 1) := by decide +kernel
theorem q218_16 : decode (mB 218) 16 = .ok (.ireturn, 1) := by decide +kernel
theorem q219_0 : decode (mB 219) 0 = .ok (.aload_n 2, 1) := by decide +kernel
theorem q219_1 : decode (mB 219) 1 = .ok (.iconst 0, 1) := by decide +kernel
theorem q219_2 : decode (mB 219) 2 = .ok (.aload_n 0, 1) := by decide +kernel
theorem q219_3 : decode (mB 219) 3 = .ok (.iload_n 1, 1) := by decide +kernel
theorem q219_4 : (cfB 219 4 76 100 1 4 1 && hC 219 4 [(5, 12, 3, 1), (4, 15, 3, 1)]) = true := by decide +kernel
theorem q219_7 : decode (mB 219) 7 = .ok (.i2l, 1) := by decide +kernel
theorem q219_8 : decode (mB 219) 8 = .ok (.lastore, 1) := by decide +kernel
theorem q219_9 : decode (mB 219) 9 = .ok (.goto 9, 3) := by decide +kernel
theorem q219_12 : decode (mB 219) 12 = .ok (.astore_n 3, 1) := by decide +kernel
theorem q219_13 : decode (mB 219) 13 = .ok (.iconst 1, 1) := by decide +kernel
theorem q219_14 : decode (mB 219) 14 = .ok (.ireturn, 1) := by decide +kernel
theorem q219_15 : decode (mB 219) 15 = .ok (.astore_n 3, 1) := by decide +kernel
theorem q219_16 : decode (mB 219) 16 = .ok (.iconst 2, 1) := by decide +kernel
theorem q219_17 : decode (mB 219) 17 = .ok (.ireturn, 1) := by decide +kernel
theorem q219_18 : decode (mB 219) 18 = .ok (.iconst 0, 1) := by decide +kernel
theorem q219_19 : decode (mB 219) 19 = .ok (.ireturn, 1) := by decide +kernel
theorem q220_0 : decode (mB 220) 0 = .ok (.aload_n 2, 1) := by decide +kernel
theorem q220_1 : decode (mB 220) 1 = .ok (.iconst 0, 1) := by decide +kernel
theorem q220_2 : decode (mB 220) 2 = .ok (.aload_n 0, 1) := by decide +kernel
theorem q220_3 : decode (mB 220) 3 = .ok (.iload_n 1, 1) := by decide +kernel
theorem q220_4 : (cfB 220 4 81 101 1 4 1 && hC 220 4 [(4, 12, 3, 1)]) = true := by decide +kernel
theorem q220_7 : decode (mB 220) 7 = .ok (.i2l, 1) := by decide +kernel
theorem q220_8 : decode (mB 220) 8 = .ok (.lastore, 1) := by decide +kernel
theorem q220_9 : decode (mB 220) 9 = .ok (.goto 6, 3) := by decide +kernel
theorem q220_12 : decode (mB 220) 12 = .ok (.astore_n 3, 1) := by decide +kernel
theorem q220_13 : decode (mB 220) 13 = .ok (.iconst 1, 1) := by decide +kernel
theorem q220_14 : decode (mB 220) 14 = .ok (.ireturn, 1) := by decide +kernel
theorem q220_15 : decode (mB 220) 15 = .ok (.iconst 0, 1) := by decide +kernel
theorem q220_16 : decode (mB 220) 16 = .ok (.ireturn, 1) := by decide +kernel
theorem q221_0 : decode (mB 221) 0 = .ok (.aload_n 2, 1) := by decide +kernel
theorem q221_1 : decode (mB 221) 1 = .ok (.iconst 0, 1) := by decide +kernel
theorem q221_2 : decode (mB 221) 2 = .ok (.aload_n 0, 1) := by decide +kernel
theorem q221_3 : decode (mB 221) 3 = .ok (.iload_n 1, 1) := by decide +kernel
theorem q221_4 : (cfB 221 4 85 102 1 4 1 && hC 221 4 [(4, 12, 3, 1)]) = true := by decide +kernel
theorem q221_7 : decode (mB 221) 7 = .ok (.i2l, 1) := by decide +kernel
theorem q221_8 : decode (mB 221) 8 = .ok (.lastore, 1) := by decide +kernel
theorem q221_9 : decode (mB 221) 9 = .ok (.goto 6, 3) := by decide +kernel
theorem q221_12 : decode (mB 221) 12 = .ok (.astore_n 3, 1) := by decide +kernel
theorem q221_13 : decode (mB 221) 13 = .ok (.iconst 1, 1) := by decide +kernel
theorem q221_14 : decode (mB 221) 14 = .ok (.ireturn, 1) := by decide +kernel
theorem q221_15 : decode (mB 221) 15 = .ok (.iconst 0, 1) := by decide +kernel
theorem q221_16 : decode (mB 221) 16 = .ok (.ireturn, 1) := by decide +kernel
theorem q222_0 : decode (mB 222) 0 = .ok (.aload_n 3, 1) := by decide +kernel
theorem q222_1 : decode (mB 222) 1 = .ok (.iconst 0, 1) := by decide +kernel
theorem q222_2 : decode (mB 222) 2 = .ok (.aload_n 0, 1) := by decide +kernel
theorem q222_3 : decode (mB 222) 3 = .ok (.iload_n 1, 1) := by decide +kernel
theorem q222_4 : decode (mB 222) 4 = .ok (.iload_n 2, 1) := by decide +kernel
theorem q222_5 : (cfB 222 5 88 103 1 4 2 && hC 222 5 [(4, 13, 4, 2), (2, 17, 4, 2)]) = true := by decide +kernel
theorem q222_8 : decode (mB 222) 8 = .ok (.i2l, 1) := by decide +kernel
theorem q222_9 : decode (mB 222) 9 = .ok (.lastore, 1) := by decide +kernel
theorem q222_10 : decode (mB 222) 10 = .ok (.goto 11, 3) := by decide +kernel
theorem q222_13 : decode (mB 222) 13 = .ok (.astore 4, 2) := by decide +kernel
theorem q222_15 : decode (mB 222) 15 = .ok (.iconst 1, 1) := by decide +kernel
theorem q222_16 : decode (mB 222) 16 = .ok (.ireturn, 1) := by decide +kernel
theorem q222_17 : decode (mB 222) 17 = .ok (.astore 4, 2) := by decide +kernel
theorem q222_19 : decode (mB 222) 19 = .ok (.iconst 2, 1) := by decide +kernel
theorem q222_20 : decode (mB 222) 20 = .ok (.ireturn, 1) := by decide +kernel
theorem q222_21 : decode (mB 222) 21 = .ok (.iconst 0, 1) := by decide +kernel
theorem q222_22 : decode (mB 222) 22 = .ok (.ireturn, 1) := by decide +kernel
theorem q223_0 : decode (mB 223) 0 = .ok (.aload_n 2, 1) := by decide +kernel
theorem q223_1 : decode (mB 223) 1 = .ok (.iconst 0, 1) := by decide +kernel
theorem q223_2 : decode (mB 223) 2 = .ok (.aload_n 0, 1) := by decide +kernel
theorem q223_3 : decode (mB 223) 3 = .ok (.iload_n 1, 1) := by decide +kernel
theorem q223_4 : (cfB 223 4 91 104 1 4 1 && hC 223 4 [(0, 12, 3, 1)]) = true := by decide +kernel
theorem q223_7 : decode (mB 223) 7 = .ok (.i2l, 1) := by decide +kernel
theorem q223_8 : decode (mB 223) 8 = .ok (.lastore, 1) := by decide +kernel
theorem q223_9 : decode (mB 223) 9 = .ok (.goto 6, 3) := by decide +kernel
theorem q223_12 : decode (mB 223) 12 = .ok (.astore_n 3, 1) := by decide +kernel
theorem q223_13 : decode (mB 223) 13 = .ok (.iconst 1, 1) := by decide +kernel
theorem q223_14 : decode (mB 223) 14 = .ok (.ireturn, 1) := by decide +kernel
theorem q223_15 : decode (mB 223) 15 = .ok (.iconst 0, 1) := by decide +kernel
theorem q223_16 : decode (mB 223) 16 = .ok (.ireturn, 1) := by decide +kernel
theorem q224_0 : decode (mB 224) 0 = .ok (.aload_n 1, 1) := by decide +kernel
theorem q224_1 : decode (mB 224) 1 = .ok (.iconst 0, 1) := by decide +kernel
theorem q224_2 : decode (mB 224) 2 = .ok (.aload_n 0, 1) := by decide +kernel
theorem q224_3 : (cfB 224 3 94 105 1 4 0 && hC 224 3 [(4, 18, 2, 1)]) = true := by decide +kernel
theorem q224_6 : decode (mB 224) 6 = .ok (.ifCond .eq 7, 3) := by decide +kernel
theorem q224_9 : decode (mB 224) 9 = .ok (.lconst 1, 1) := by decide +kernel
theorem q224_10 : decode (mB 224) 10 = .ok (.goto 4, 3) := by decide +kernel
theorem q224_13 : decode (mB 224) 13 = .ok (.lconst 0, 1) := by decide +kernel
theorem q224_14 : decode (mB 224) 14 = .ok (.lastore, 1) := by decide +kernel
theorem q224_15 : decode (mB 224) 15 = .ok (.goto 6, 3) := by decide +kernel
theorem q224_18 : decode (mB 224) 18 = .ok (.astore_n 2, 1) := by decide +kernel
theorem q224_19 : decode (mB 224) 19 = .ok (.iconst 1, 1) := by decide +kernel
theorem q224_20 : decode (mB 224) 20 = .ok (.ireturn, 1) := by decide +kernel
theorem q224_21 : decode (mB 224) 21 = .ok (.iconst 0, 1) := by decide +kernel
theorem q224_22 : decode (mB 224) 22 = .ok (.ireturn, 1) := by decide +kernel
theorem q225_0 : decode (mB 225) 0 = .ok (.aload_n 1, 1) := by decide +kernel
theorem q225_1 : decode (mB 225) 1 = .ok (.iconst 0, 1) := by decide +kernel
theorem q225_2 : decode (mB 225) 2 = .ok (.aload_n 0, 1) := by decide +kernel
theorem q225_3 : (cfB 225 3 98 106 1 4 0 && hC 225 3 [(1, 11, 2, 1)]) = true := by decide +kernel
theorem q225_6 : decode (mB 225) 6 = .ok (.i2l, 1) := by decide +kernel
theorem q225_7 : decode (mB 225) 7 = .ok (.lastore, 1) := by decide +kernel
theorem q225_8 : decode (mB 225) 8 = .ok (.goto 6, 3) := by decide +kernel
theorem q225_11 : decode (mB 225) 11 = .ok (.astore_n 2, 1) := by decide +kernel
theorem q225_12 : decode (mB 225) 12 = .ok (.iconst 1, 1) := by decide +kernel
theorem q225_13 : decode (mB 225) 13 = .ok (.ireturn, 1) := by decide +kernel
theorem q225_14 : decode (mB 225) 14 = .ok (.iconst 0, 1) := by decide +kernel
theorem q225_15 : decode (mB 225) 15 = .ok (.ireturn, 1) := by decide +kernel
theorem q226_0 : decode (mB 226) 0 = .ok (.aload_n 1, 1) := by decide +kernel
theorem q226_1 : decode (mB 226) 1 = .ok (.iconst 0, 1) := by decide +kernel
theorem q226_2 : decode (mB 226) 2 = .ok (.aload_n 0, 1) := by decide +kernel
theorem q226_3 : (cfB 226 3 102 107 1 4 0 && hC 226 3 [(1, 11, 2, 1)]) = true := by decide +kernel
theorem q226_6 : decode (mB 226) 6 = .ok (.i2l, 1) := by decide +kernel
theorem q226_7 : decode (mB 226) 7 = .ok (.lastore, 1) := by decide +kernel
theorem q226_8 : decode (mB 226) 8 = .ok (.goto 6, 3) := by decide +kernel
theorem q226_11 : decode (mB 226) 11 = .ok (.astore_n 2, 1) := by decide +kernel
theorem q226_12 : decode (mB 226) 12 = .ok (.iconst 1, 1) := by decide +kernel
theorem q226_13 : decode (mB 226) 13 = .ok (.ireturn, 1) := by decide +kernel
theorem q226_14 : decode (mB 226) 14 = .ok (.iconst 0, 1) := by decide +kernel
theorem q226_15 : decode (mB 226) 15 = .ok (.ireturn, 1) := by decide +kernel
theorem q227_0 : decode (mB 227) 0 = .ok (.aload_n 2, 1) := by decide +kernel
theorem q227_1 : decode (mB 227) 1 = .ok (.iconst 0, 1) := by decide +kernel
theorem q227_2 : decode (mB 227) 2 = .ok (.aload_n 0, 1) := by decide +kernel
theorem q227_3 : decode (mB 227) 3 = .ok (.iload_n 1, 1) := by decide +kernel
theorem q227_4 : (cfB 227 4 106 108 1 4 1 && hC 227 4 [(2, 12, 3, 1), (1, 15, 3, 1)]) = true := by decide +kernel
theorem q227_7 : decode (mB 227) 7 = .ok (.i2l, 1) := by decide +kernel
theorem q227_8 : decode (mB 227) 8 = .ok (.lastore, 1) := by decide +kernel
theorem q227_9 : decode (mB 227) 9 = .ok (.goto 9, 3) := by decide +kernel
theorem q227_12 : decode (mB 227) 12 = .ok (.astore_n 3, 1) := by decide +kernel
theorem q227_13 : decode (mB 227) 13 = .ok (.iconst 1, 1) := by decide +kernel
theorem q227_14 : decode (mB 227) 14 = .ok (.ireturn, 1) := by decide +kernel
theorem q227_15 : decode (mB 227) 15 = .ok (.astore_n 3, 1) := by decide +kernel
theorem q227_16 : decode (mB 227) 16 = .ok (.iconst 2, 1) := by decide +kernel
theorem q227_17 : decode (mB 227) 17 = .ok (.ireturn, 1) := by decide +kernel
theorem q227_18 : decode (mB 227) 18 = .ok (.iconst 0, 1) := by decide +kernel
theorem q227_19 : decode (mB 227) 19 = .ok (.ireturn, 1) := by decide +kernel
theorem q228_0 : decode (mB 228) 0 = .ok (.aload_n 1, 1) := by decide +kernel
theorem q228_1 : decode (mB 228) 1 = .ok (.iconst 0, 1) := by decide +kernel
theorem q228_2 : decode (mB 228) 2 = .ok (.aload_n 0, 1) := by decide +kernel
theorem q228_3 : (cfB 228 3 109 110 1 4 0 && hC 228 3 [(1, 11, 2, 1)]) = true := by decide +kernel
theorem q228_6 : decode (mB 228) 6 = .ok (.i2l, 1) := by decide +kernel
theorem q228_7 : decode (mB 228) 7 = .ok (.lastore, 1) := by decide +kernel
theorem q228_8 : decode (mB 228) 8 = .ok (.goto 6, 3) := by decide +kernel
theorem q228_11 : decode (mB 228) 11 = .ok (.astore_n 2, 1) := by decide +kernel
theorem q228_12 : decode (mB 228) 12 = .ok (.iconst 1, 1) := by decide +kernel
theorem q228_13 : decode (mB 228) 13 = .ok (.ireturn, 1) := by decide +kernel
theorem q228_14 : decode (mB 228) 14 = .ok (.iconst 0, 1) := by decide +kernel
theorem q228_15 : decode (mB 228) 15 = .ok (.ireturn, 1) := by decide +kernel
theorem q229_0 : decode (mB 229) 0 = .ok (.aload_n 2, 1) := by decide +kernel
theorem q229_1 : decode (mB 229) 1 = .ok (.iconst 0, 1) := by decide +kernel
theorem q229_2 : decode (mB 229) 2 = .ok (.aload_n 0, 1) := by decide +kernel
theorem q229_3 : decode (mB 229) 3 = .ok (.iload_n 1, 1) := by decide +kernel
theorem q229_4 : (cfB 229 4 112 112 1 4 1 && hC 229 4 [(0, 12, 3, 1)]) = true := by decide +kernel
theorem q229_7 : decode (mB 229) 7 = .ok (.i2l, 1) := by decide +kernel
theorem q229_8 : decode (mB 229) 8 = .ok (.lastore, 1) := by decide +kernel
theorem q229_9 : decode (mB 229) 9 = .ok (.goto 6, 3) := by decide +kernel
theorem q229_12 : decode (mB 229) 12 = .ok (.astore_n 3, 1) := by decide +kernel
theorem q229_13 : decode (mB 229) 13 = .ok (.iconst 1, 1) := by decide +kernel
theorem q229_14 : decode (mB 229) 14 = .ok (.ireturn, 1) := by decide +kernel
theorem q229_15 : decode (mB 229) 15 = .ok (.iconst 0, 1) := by decide +kernel
theorem q229_16 : decode (mB 229) 16 = .ok (.ireturn, 1) := by decide +kernel
theorem q230_0 : decode (mB 230) 0 = .ok (.aload_n 2, 1) := by decide +kernel
theorem q230_1 : decode (mB 230) 1 = .ok (.iconst 0, 1) := by decide +kernel
theorem q230_2 : decode (mB 230) 2 = .ok (.aload_n 0, 1) := by decide +kernel
theorem q230_3 : decode (mB 230) 3 = .ok (.iload_n 1, 1) := by decide +kernel
theorem q230_4 : (cfB 230 4 115 113 1 4 1 && hC 230 4 [(0, 12, 3, 1)]) = true := by decide +kernel
theorem q230_7 : decode (mB 230) 7 = .ok (.i2l, 1) := by decide +kernel
theorem q230_8 : decode (mB 230) 8 = .ok (.lastore, 1) := by decide +kernel
theorem q230_9 : decode (mB 230) 9 = .ok (.goto 6, 3) := by decide +kernel
theorem q230_12 : decode (mB 230) 12 = .ok (.astore_n 3, 1) := by decide +kernel
theorem q230_13 : decode (mB 230) 13 = .ok (.iconst 1, 1) := by decide +kernel
theorem q230_14 : decode (mB 230) 14 = .ok (.ireturn, 1) := by decide +kernel
theorem q230_15 : decode (mB 230) 15 = .ok (.iconst 0, 1) := by decide +kernel
theorem q230_16 : decode (mB 230) 16 = .ok (.ireturn, 1) := by decide +kernel
theorem q231_0 : decode (mB 231) 0 = .ok (.aload_n 3, 1) := by decide +kernel
theorem q231_1 : decode (mB 231) 1 = .ok (.iconst 0, 1) := by decide +kernel
theorem q231_2 : decode (mB 231) 2 = .ok (.aload_n 0, 1) := by decide +kernel
theorem q231_3 : decode (mB 231) 3 = .ok (.iload_n 1, 1) := by decide +kernel
theorem q231_4 : decode (mB 231) 4 = .ok (.iload_n 2, 1) := by decide +kernel
theorem q231_5 : (cfB 231 5 118 114 1 4 2 && hC 231 5 [(2, 13, 4, 2), (1, 17, 4, 2)]) = true := by decide +kernel
theorem q231_8 : decode (mB 231) 8 = .ok (.i2l, 1) := by decide +kernel
theorem q231_9 : decode (mB 231) 9 = .ok (.lastore, 1) := by decide +kernel
theorem q231_10 : decode (mB 231) 10 = .ok (.goto 11, 3) := by decide +kernel
theorem q231_13 : decode (mB 231) 13 = .ok (.astore 4, 2) := by decide +kernel
theorem q231_15 : decode (mB 231) 15 = .ok (.iconst 1, 1) := by decide +kernel
theorem q231_16 : decode (mB 231) 16 = .ok (.ireturn, 1) := by decide +kernel
theorem q231_17 : decode (mB 231) 17 = .ok (.astore 4, 2) := by decide +kernel
theorem q231_19 : decode (mB 231) 19 = .ok (.iconst 2, 1) := by decide +kernel
theorem q231_20 : decode (mB 231) 20 = .ok (.ireturn, 1) := by decide +kernel
theorem q231_21 : decode (mB 231) 21 = .ok (.iconst 0, 1) := by decide +kernel
theorem q231_22 : decode (mB 231) 22 = .ok (.ireturn, 1) := by decide +kernel
theorem q232_0 : decode (mB 232) 0 = .ok (.aload_n 1, 1) := by decide +kernel
theorem q232_1 : decode (mB 232) 1 = .ok (.iconst 0, 1) := by decide +kernel
theorem q232_2 : decode (mB 232) 2 = .ok (.aload_n 0, 1) := by decide +kernel
theorem q232_3 : (cfB 232 3 121 117 1 4 0 && hC 232 3 [(1, 11, 2, 1)]) = true := by decide +kernel
theorem q232_6 : decode (mB 232) 6 = .ok (.i2l, 1) := by decide +kernel
theorem q232_7 : decode (mB 232) 7 = .ok (.lastore, 1) := by decide +kernel
theorem q232_8 : decode (mB 232) 8 = .ok (.goto 6, 3) := by decide +kernel
theorem q232_11 : decode (mB 232) 11 = .ok (.astore_n 2, 1) := by decide +kernel
theorem q232_12 : decode (mB 232) 12 = .ok (.iconst 1, 1) := by decide +kernel
theorem q232_13 : decode (mB 232) 13 = .ok (.ireturn, 1) := by decide +kernel
theorem q232_14 : decode (mB 232) 14 = .ok (.iconst 0, 1) := by decide +kernel
theorem q232_15 : decode (mB 232) 15 = .ok (.ireturn, 1) := by decide +kernel
theorem q233_0 : decode (mB 233) 0 = .ok (.aload_n 1, 1) := by decide +kernel
theorem q233_1 : decode (mB 233) 1 = .ok (.iconst 0, 1) := by decide +kernel
theorem q233_2 : decode (mB 233) 2 = .ok (.aload_n 0, 1) := by decide +kernel
theorem q233_3 : (cfB 233 3 124 118 1 4 0 && hC 233 3 [(1, 11, 2, 1)]) = true := by decide +kernel
theorem q233_6 : decode (mB 233) 6 = .ok (.i2l, 1) := by decide +kernel
theorem q233_7 : decode (mB 233) 7 = .ok (.lastore, 1) := by decide +kernel
theorem q233_8 : decode (mB 233) 8 = .ok (.goto 6, 3) := by decide +kernel
theorem q233_11 : decode (mB 233) 11 = .ok (.astore_n 2, 1) := by decide +kernel
theorem q233_12 : decode (mB 233) 12 = .ok (.iconst 1, 1) := by decide +kernel
theorem q233_13 : decode (mB 233) 13 = .ok (.ireturn, 1) := by decide +kernel
theorem q233_14 : decode (mB 233) 14 = .ok (.iconst 0, 1) := by decide +kernel
theorem q233_15 : decode (mB 233) 15 = .ok (.ireturn, 1) := by decide +kernel
end
section
/-! the whole world at its handles: scalars I, rows of ints A (by handle), rows of longs L (by handle), the row of one double O -/
def hp (I : Nat → Int32) (A : Nat → Nat → Int32) (L : Nat → Nat → Int64) (O : Nat → UInt64) : AH := [
  .inl (7, [.ref 1, .ref 9, .ref 10, .ref 12, .ref 15, .ref 19, .int (I 0), .int (I 1)]),
  .inl (5, [.ref 2, .ref 3, .ref 4, .ref 5, .ref 6, .ref 7, .ref 8, .int (I 2)]),
  .inr (0, 240, .inl (A 2)), .inr (0, 6, .inl (A 3)), .inr (0, 6, .inl (A 4)), .inr (0, 6, .inl (A 5)), .inr (0, 6, .inl (A 6)), .inr (1, 6, .inr (.inl (L 7))), .inr (1, 6, .inr (.inl (L 8))),
  .inl (2, [.ref 1, .int (I 3), .int (I 4), .int (I 5)]),
  .inl (1, [.ref 1, .ref 11]),
  .inr (0, 8, .inl (A 11)),
  .inl (4, [.ref 9, .ref 10, .ref 13, .int (I 6)]),
  .inl (0, [.ref 14, .int (I 7)]),
  .inr (1, 5, .inr (.inl (L 14))),
  .inl (6, [.ref 9, .ref 10, .ref 16, .ref 18, .int (I 8), .int (I 9)]),
  .inl (0, [.ref 17, .int (I 10)]),
  .inr (1, 5, .inr (.inl (L 17))),
  .inr (0, 1045, .inl (A 18)),
  .inl (3, [.ref 20, .int (I 11), .int (I 12)]),
  .inr (0, 4, .inl (A 20)),
  .inl (8, [.ref 22, .ref 23, .ref 24, .ref 25, .ref 26, .ref 27, .ref 28, .ref 29, .ref 30, .ref 31, .ref 32, .ref 33, .ref 34, .int (I 20), .int (I 21), .int (I 22), .int (I 23), .int (I 24), .int (I 25), .int (I 26), .int (I 27), .int (I 28), .int (I 29)]),
  .inr (0, 240, .inl (A 22)), .inr (0, 6, .inl (A 23)), .inr (0, 8, .inl (A 24)), .inr (0, 6, .inl (A 25)), .inr (0, 6, .inl (A 26)), .inr (3, 6, .inl (A 27)), .inr (3, 24, .inl (A 28)), .inr (0, 6, .inl (A 29)), .inr (0, 6, .inl (A 30)), .inr (0, 6, .inl (A 31)), .inr (0, 30, .inl (A 32)), .inr (0, 5, .inl (A 33)), .inr (0, 24, .inl (A 34)),
  .inr (1, 1, .inr (.inl (L 35))),
  .inr (2, 1, .inr (.inr (.inr (.inl O))))]
theorem AW.hp {X : XS} {mi pc : Nat} {lv : List (Nat × Value)} {st : List Value} {h h' : AH} {bc bs : Nat} {Q : AO → AH → Prop} (e : h = h') (k : AW X mi pc lv st h' bc bs Q) : AW X mi pc lv st h bc bs Q := e ▸ k
theorem ck_v {X : XS} {mi pc : Nat} {lv : List (Nat × Value)} {rest : List Value} {h : AH} {bc bs : Nat} {Q : AO → AH → Prop} (k : AW X mi (pc + 3) lv rest h bc bs Q) : CK X mi pc lv rest bc bs Q (.inl none) h := k
theorem ck_r {X : XS} {mi pc : Nat} {lv : List (Nat × Value)} {rest : List Value} {h : AH} {bc bs : Nat} {Q : AO → AH → Prop} {v : Value} (k : AW X mi (pc + 3) lv (v :: rest) h bc bs Q) : CK X mi pc lv rest bc bs Q (.inl (some v)) h := k
theorem ck_x {X : XS} {mi pc : Nat} {lv : List (Nat × Value)} {rest : List Value} {h : AH} {bc bs : Nat} {Q : AO → AH → Prop} {en : Nat} (hm : mH mi = []) (k : Q (.inr en) h) : CK X mi pc lv rest bc bs Q (.inr en) h := ⟨hm, k⟩
theorem hk_v {X : XS} {mi pc : Nat} {lv : List (Nat × Value)} {rest : List Value} {h : AH} {bc bs : Nat} {zs : List hT} {Q : AO → AH → Prop} (k : AW X mi (pc + 3) lv rest h bc bs Q) : HK X mi pc lv rest bc bs zs Q (.inl none) h := k
theorem hk_r {X : XS} {mi pc : Nat} {lv : List (Nat × Value)} {rest : List Value} {h : AH} {bc bs : Nat} {zs : List hT} {Q : AO → AH → Prop} {v : Value} (k : AW X mi (pc + 3) lv (v :: rest) h bc bs Q) : HK X mi pc lv rest bc bs zs Q (.inl (some v)) h := k
theorem lf {Q : AO → AH → Prop} {o o' : AO} {h : AH} (hq : Q o h) (e : o' = o) : Q o' h := e ▸ hq
theorem lfi {Q : AO → AH → Prop} {x y : Int32} {h : AH} (hq : Q (.inl (some (.int x))) h) (e : y = x) : Q (.inl (some (.int y))) h := e ▸ hq
theorem a_ldcI {X : XS} {mi pc : Nat} {lv : List (Nat × Value)} {rest : List Value} {h : AH} {bc bs : Nat} {Q : AO → AH → Prop} {i : Nat} {v : Int32} (d : decode (mB mi) pc = .ok (.ldc i, 2)) (hw : Cond.constant (mY mi).cls i v ∈ XU) (k : AW X mi (pc + 2) lv (.int v :: rest) h bc bs Q) : AW X mi pc lv rest h bc bs Q :=
  fun n0 p l e R s m args below meth c β D dA ad0 sa Qf C ad H locs cells slots ls ha hn hR hl hc hs => lv_ldc C.1 C.2.1 C.2.2.2.1 (C.2.2.2.2.1 _ hw) d (k n0 p l e R s m args below meth c β D dA ad0 sa Qf C ad H locs cells slots ls ha hn hR hl hc hs)
end
section
theorem c_X1_columnIn {X : XS} {h : AH} {Q : AO → AH → Prop} {c k : Int32} (hq : Q (.inl (some (.int (((c >>> (((3 - k) * 3) &&& 31)) &&& 7) - 1)))) h) : Call X 11 [.int c, .int k] h Q := by
  refine call_of (by decide) rfl rfl ?_
  refine a_iload_n (i := 0) q11_0 rfl rfl ?_
  refine a_iconst (v := 3) q11_1 (by decide) ?_
  refine a_iload_n (i := 1) q11_2 rfl rfl ?_
  refine a_isub q11_3 ?_
  refine a_iconst (v := 3) q11_4 (by decide) ?_
  refine a_imul q11_5 ?_
  refine a_ishr q11_6 ?_
  refine a_bipush (v := 7) q11_7 (by decide) ?_
  refine a_iand q11_9 ?_
  refine a_iconst (v := 1) q11_10 (by decide) ?_
  refine a_isub q11_11 ?_
  refine a_ireturn q11_12 (nr_int rfl _) ?_
  exact hq

theorem c_X7_rowCount {X : XS} {I : Nat → Int32} {A : Nat → Nat → Int32} {L : Nat → Nat → Int64} {O : Nat → UInt64} {Q : AO → AH → Prop} (hq : Q (.inl (some (.int (I 2)))) (hp I A L O)) : Call X 53 [.ref 1] (hp I A L O) Q := by
  refine call_of (by decide) rfl rfl ?_
  refine a_aload_n (i := 0) q53_0 rfl rfl ?_
  refine a_getfield q53_1 rfl rfl ?_
  refine a_ireturn q53_4 (nr_int rfl _) ?_
  exact hq

def f_kindAt (A : Nat → Nat → Int32) (c : Int32) : Int32 := if c < 0 then -1 else if 6 ≤ c then -1 else A 4 c.toNatClampNeg

theorem vpi {x N : Int32} {n : Nat} (h0 : ¬ x < 0) (h1 : ¬ N ≤ x) (hN : N.toInt = n) : vp_in x n := by
  refine vp_in_iff.mpr ?_
  rw [Int32.lt_iff_toInt_lt] at h0
  rw [Int32.le_iff_toInt_le] at h1
  have : (0 : Int32).toInt = 0 := rfl
  omega

theorem c_X7_kindAt {X : XS} {I : Nat → Int32} {A : Nat → Nat → Int32} {L : Nat → Nat → Int64} {O : Nat → UInt64} {Q : AO → AH → Prop} {c : Int32} (hq : Q (.inl (some (.int (f_kindAt A c)))) (hp I A L O)) : Call X 56 [.ref 1, .int c] (hp I A L O) Q := by
  refine call_of (by decide) rfl rfl ?_
  refine a_iload_n (i := 1) q56_0 rfl rfl ?_
  refine a_if_lt (tgt := 19) q56_1 (by decide) (fun c1 => ?_) (fun c1 => ?_)
  · skip
    refine a_iconst (v := (-1)) q56_19 (by decide) ?_
    refine a_ireturn q56_20 (nr_int rfl _) ?_
    exact lfi hq (by simp only [f_kindAt]; rw [if_pos c1])
  · skip
    refine a_iload_n (i := 1) q56_4 rfl rfl ?_
    refine a_bipush (v := 6) q56_5 (by decide) ?_
    refine a_icmp_ge (tgt := 19) q56_7 (by decide) (fun c7 => ?_) (fun c7 => ?_)
    · skip
      refine a_iconst (v := (-1)) q56_19 (by decide) ?_
      refine a_ireturn q56_20 (nr_int rfl _) ?_
      exact lfi hq (by simp only [f_kindAt]; rw [if_neg c1, if_pos c7])
    · skip
      refine a_aload_n (i := 0) q56_10 rfl rfl ?_
      refine a_getfield q56_11 rfl rfl ?_
      refine a_iload_n (i := 1) q56_14 rfl rfl ?_
      refine a_iald q56_15 rfl (vpi (N := 6) c1 c7 rfl) ?_
      refine a_goto (tgt := 20) q56_16 (by decide) ?_
      refine a_ireturn q56_20 (nr_int rfl _) ?_
      exact lfi hq (by simp only [f_kindAt]; rw [if_neg c1, if_neg c7])
end
