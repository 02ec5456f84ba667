-- ===== PART A: goes FIRST, ahead of the names: the tables' words, and 'selects' of the private methods out of them =====
/-- a private method of a class that the tables say can be made, by its rows of tables_1 -/
def lw_okq (q : MethodName × Nat) : Prop := (q.1.cls ≠ "java/lang/invoke/MethodHandle" ∧ q.1.cls ≠ "java/lang/invoke/VarHandle") ∧ Cond.instantiable q.1.cls q.2 ∈ tables_1 ∧ Cond.privateMethod q.1 ∈ tables_1 ∧ Cond.instanceMethod q.1 ∈ tables_1
theorem lw_p0 : lw_okq (⟨"FleetDelegates", "isShip", "(I)Z"⟩, 11) := ⟨⟨by decide +kernel, by decide +kernel⟩, List.mem_of_getElem? (i := 20) (by decide +kernel), List.mem_of_getElem? (i := 348) (by decide +kernel), List.mem_of_getElem? (i := 349) (by decide +kernel)⟩
theorem lw_p1 : lw_okq (⟨"FleetDelegates", "canPass", "(I)Z"⟩, 11) := ⟨⟨by decide +kernel, by decide +kernel⟩, List.mem_of_getElem? (i := 20) (by decide +kernel), List.mem_of_getElem? (i := 393) (by decide +kernel), List.mem_of_getElem? (i := 394) (by decide +kernel)⟩
theorem lw_p2 : lw_okq (⟨"FleetDelegates", "bookOf", "(I)LFleetDelegates$Book;"⟩, 11) := ⟨⟨by decide +kernel, by decide +kernel⟩, List.mem_of_getElem? (i := 20) (by decide +kernel), List.mem_of_getElem? (i := 632) (by decide +kernel), List.mem_of_getElem? (i := 633) (by decide +kernel)⟩
theorem lw_p3 : lw_okq (⟨"FleetDelegates", "voicesFor", "(I)I"⟩, 11) := ⟨⟨by decide +kernel, by decide +kernel⟩, List.mem_of_getElem? (i := 20) (by decide +kernel), List.mem_of_getElem? (i := 694) (by decide +kernel), List.mem_of_getElem? (i := 695) (by decide +kernel)⟩
theorem lw_p4 : lw_okq (⟨"FleetDelegates", "voicesToCarry", "()I"⟩, 11) := ⟨⟨by decide +kernel, by decide +kernel⟩, List.mem_of_getElem? (i := 20) (by decide +kernel), List.mem_of_getElem? (i := 702) (by decide +kernel), List.mem_of_getElem? (i := 703) (by decide +kernel)⟩
theorem lw_p5 : lw_okq (⟨"FleetDelegates", "carries", "(I)Z"⟩, 11) := ⟨⟨by decide +kernel, by decide +kernel⟩, List.mem_of_getElem? (i := 20) (by decide +kernel), List.mem_of_getElem? (i := 710) (by decide +kernel), List.mem_of_getElem? (i := 711) (by decide +kernel)⟩
theorem lw_p6 : lw_okq (⟨"FleetDelegates", "leastThatCarries", "()I"⟩, 11) := ⟨⟨by decide +kernel, by decide +kernel⟩, List.mem_of_getElem? (i := 20) (by decide +kernel), List.mem_of_getElem? (i := 721) (by decide +kernel), List.mem_of_getElem? (i := 722) (by decide +kernel)⟩
theorem lw_p7 : lw_okq (⟨"FleetDelegates", "leastForAll", "(I)I"⟩, 11) := ⟨⟨by decide +kernel, by decide +kernel⟩, List.mem_of_getElem? (i := 20) (by decide +kernel), List.mem_of_getElem? (i := 725) (by decide +kernel), List.mem_of_getElem? (i := 726) (by decide +kernel)⟩
theorem lw_p8 : lw_okq (⟨"FleetDelegates$Officers", "tryWith", "(I)V"⟩, 6) := ⟨⟨by decide +kernel, by decide +kernel⟩, List.mem_of_getElem? (i := 252) (by decide +kernel), List.mem_of_getElem? (i := 817) (by decide +kernel), List.mem_of_getElem? (i := 818) (by decide +kernel)⟩
theorem lw_p9 : lw_okq (⟨"FleetDelegatesModel", "isShip", "(I)Z"⟩, 49) := ⟨⟨by decide +kernel, by decide +kernel⟩, List.mem_of_getElem? (i := 861) (by decide +kernel), List.mem_of_getElem? (i := 1035) (by decide +kernel), List.mem_of_getElem? (i := 1036) (by decide +kernel)⟩
theorem lw_p10 : lw_okq (⟨"FleetDelegatesModel", "beef", "(I)I"⟩, 49) := ⟨⟨by decide +kernel, by decide +kernel⟩, List.mem_of_getElem? (i := 861) (by decide +kernel), List.mem_of_getElem? (i := 1043) (by decide +kernel), List.mem_of_getElem? (i := 1044) (by decide +kernel)⟩
theorem lw_p11 : lw_okq (⟨"FleetDelegatesModel", "water", "(I)I"⟩, 49) := ⟨⟨by decide +kernel, by decide +kernel⟩, List.mem_of_getElem? (i := 861) (by decide +kernel), List.mem_of_getElem? (i := 1047) (by decide +kernel), List.mem_of_getElem? (i := 1048) (by decide +kernel)⟩
theorem lw_p12 : lw_okq (⟨"FleetDelegatesModel", "knowsBy", "(III)Z"⟩, 49) := ⟨⟨by decide +kernel, by decide +kernel⟩, List.mem_of_getElem? (i := 861) (by decide +kernel), List.mem_of_getElem? (i := 1051) (by decide +kernel), List.mem_of_getElem? (i := 1052) (by decide +kernel)⟩
theorem lw_p13 : lw_okq (⟨"FleetDelegatesModel", "hasYielded", "(I)Z"⟩, 49) := ⟨⟨by decide +kernel, by decide +kernel⟩, List.mem_of_getElem? (i := 861) (by decide +kernel), List.mem_of_getElem? (i := 1062) (by decide +kernel), List.mem_of_getElem? (i := 1063) (by decide +kernel)⟩
theorem lw_p14 : lw_okq (⟨"FleetDelegatesModel", "goHour", "(I)V"⟩, 49) := ⟨⟨by decide +kernel, by decide +kernel⟩, List.mem_of_getElem? (i := 861) (by decide +kernel), List.mem_of_getElem? (i := 1070) (by decide +kernel), List.mem_of_getElem? (i := 1071) (by decide +kernel)⟩
theorem lw_p15 : lw_okq (⟨"FleetDelegatesModel", "eatAll", "()V"⟩, 49) := ⟨⟨by decide +kernel, by decide +kernel⟩, List.mem_of_getElem? (i := 861) (by decide +kernel), List.mem_of_getElem? (i := 1074) (by decide +kernel), List.mem_of_getElem? (i := 1075) (by decide +kernel)⟩
def lw_privs_1 : List (MethodName × Nat) := [(⟨"FleetDelegates", "isShip", "(I)Z"⟩, 11), (⟨"FleetDelegates", "canPass", "(I)Z"⟩, 11), (⟨"FleetDelegates", "bookOf", "(I)LFleetDelegates$Book;"⟩, 11), (⟨"FleetDelegates", "voicesFor", "(I)I"⟩, 11), (⟨"FleetDelegates", "voicesToCarry", "()I"⟩, 11), (⟨"FleetDelegates", "carries", "(I)Z"⟩, 11), (⟨"FleetDelegates", "leastThatCarries", "()I"⟩, 11), (⟨"FleetDelegates", "leastForAll", "(I)I"⟩, 11), (⟨"FleetDelegates$Officers", "tryWith", "(I)V"⟩, 6), (⟨"FleetDelegatesModel", "isShip", "(I)Z"⟩, 49), (⟨"FleetDelegatesModel", "beef", "(I)I"⟩, 49), (⟨"FleetDelegatesModel", "water", "(I)I"⟩, 49), (⟨"FleetDelegatesModel", "knowsBy", "(III)Z"⟩, 49), (⟨"FleetDelegatesModel", "hasYielded", "(I)Z"⟩, 49), (⟨"FleetDelegatesModel", "goHour", "(I)V"⟩, 49), (⟨"FleetDelegatesModel", "eatAll", "()V"⟩, 49)]
theorem lw_r1 : ∀ q ∈ lw_privs_1, lw_okq q := List.forall_mem_cons.mpr ⟨lw_p0, List.forall_mem_cons.mpr ⟨lw_p1, List.forall_mem_cons.mpr ⟨lw_p2, List.forall_mem_cons.mpr ⟨lw_p3, List.forall_mem_cons.mpr ⟨lw_p4, List.forall_mem_cons.mpr ⟨lw_p5, List.forall_mem_cons.mpr ⟨lw_p6, List.forall_mem_cons.mpr ⟨lw_p7, List.forall_mem_cons.mpr ⟨lw_p8, List.forall_mem_cons.mpr ⟨lw_p9, List.forall_mem_cons.mpr ⟨lw_p10, List.forall_mem_cons.mpr ⟨lw_p11, List.forall_mem_cons.mpr ⟨lw_p12, List.forall_mem_cons.mpr ⟨lw_p13, List.forall_mem_cons.mpr ⟨lw_p14, List.forall_mem_cons.mpr ⟨lw_p15, fun _ h => absurd h List.not_mem_nil⟩⟩⟩⟩⟩⟩⟩⟩⟩⟩⟩⟩⟩⟩⟩⟩
theorem lw_p16 : lw_okq (⟨"FleetDelegatesModel", "eats", "(I)I"⟩, 49) := ⟨⟨by decide +kernel, by decide +kernel⟩, List.mem_of_getElem? (i := 861) (by decide +kernel), List.mem_of_getElem? (i := 1078) (by decide +kernel), List.mem_of_getElem? (i := 1079) (by decide +kernel)⟩
theorem lw_p17 : lw_okq (⟨"FleetDelegatesModel", "addWill", "(II)V"⟩, 49) := ⟨⟨by decide +kernel, by decide +kernel⟩, List.mem_of_getElem? (i := 861) (by decide +kernel), List.mem_of_getElem? (i := 1082) (by decide +kernel), List.mem_of_getElem? (i := 1083) (by decide +kernel)⟩
theorem lw_p18 : lw_okq (⟨"FleetDelegatesModel", "will", "(I)I"⟩, 49) := ⟨⟨by decide +kernel, by decide +kernel⟩, List.mem_of_getElem? (i := 861) (by decide +kernel), List.mem_of_getElem? (i := 1086) (by decide +kernel), List.mem_of_getElem? (i := 1087) (by decide +kernel)⟩
theorem lw_p19 : lw_okq (⟨"FleetDelegatesModel", "land", "(I)V"⟩, 49) := ⟨⟨by decide +kernel, by decide +kernel⟩, List.mem_of_getElem? (i := 861) (by decide +kernel), List.mem_of_getElem? (i := 1090) (by decide +kernel), List.mem_of_getElem? (i := 1091) (by decide +kernel)⟩
theorem lw_p20 : lw_okq (⟨"FleetDelegatesModel", "readOffer", "(II)V"⟩, 49) := ⟨⟨by decide +kernel, by decide +kernel⟩, List.mem_of_getElem? (i := 861) (by decide +kernel), List.mem_of_getElem? (i := 1094) (by decide +kernel), List.mem_of_getElem? (i := 1095) (by decide +kernel)⟩
theorem lw_p21 : lw_okq (⟨"FleetDelegatesModel", "show", "(I)V"⟩, 49) := ⟨⟨by decide +kernel, by decide +kernel⟩, List.mem_of_getElem? (i := 861) (by decide +kernel), List.mem_of_getElem? (i := 1098) (by decide +kernel), List.mem_of_getElem? (i := 1099) (by decide +kernel)⟩
theorem lw_p22 : lw_okq (⟨"FleetDelegatesModel", "lasts", "(I)I"⟩, 49) := ⟨⟨by decide +kernel, by decide +kernel⟩, List.mem_of_getElem? (i := 861) (by decide +kernel), List.mem_of_getElem? (i := 1106) (by decide +kernel), List.mem_of_getElem? (i := 1107) (by decide +kernel)⟩
theorem lw_p23 : lw_okq (⟨"FleetDelegatesModel", "keep", "(Z)V"⟩, 49) := ⟨⟨by decide +kernel, by decide +kernel⟩, List.mem_of_getElem? (i := 861) (by decide +kernel), List.mem_of_getElem? (i := 1125) (by decide +kernel), List.mem_of_getElem? (i := 1126) (by decide +kernel)⟩
theorem lw_p24 : lw_okq (⟨"FleetDelegatesModel", "yieldedSet", "()I"⟩, 49) := ⟨⟨by decide +kernel, by decide +kernel⟩, List.mem_of_getElem? (i := 861) (by decide +kernel), List.mem_of_getElem? (i := 1129) (by decide +kernel), List.mem_of_getElem? (i := 1130) (by decide +kernel)⟩
theorem lw_p25 : lw_okq (⟨"FleetDelegatesModel", "isRead", "()Z"⟩, 49) := ⟨⟨by decide +kernel, by decide +kernel⟩, List.mem_of_getElem? (i := 861) (by decide +kernel), List.mem_of_getElem? (i := 1146) (by decide +kernel), List.mem_of_getElem? (i := 1147) (by decide +kernel)⟩
theorem lw_p26 : lw_okq (⟨"FleetDelegatesModel", "nextToken", "()V"⟩, 49) := ⟨⟨by decide +kernel, by decide +kernel⟩, List.mem_of_getElem? (i := 861) (by decide +kernel), List.mem_of_getElem? (i := 1150) (by decide +kernel), List.mem_of_getElem? (i := 1151) (by decide +kernel)⟩
theorem lw_p27 : lw_okq (⟨"FleetDelegatesModel", "isArticle", "(I)Z"⟩, 49) := ⟨⟨by decide +kernel, by decide +kernel⟩, List.mem_of_getElem? (i := 861) (by decide +kernel), List.mem_of_getElem? (i := 1160) (by decide +kernel), List.mem_of_getElem? (i := 1161) (by decide +kernel)⟩
theorem lw_p28 : lw_okq (⟨"FleetDelegatesModel", "fails", "()Z"⟩, 49) := ⟨⟨by decide +kernel, by decide +kernel⟩, List.mem_of_getElem? (i := 861) (by decide +kernel), List.mem_of_getElem? (i := 1168) (by decide +kernel), List.mem_of_getElem? (i := 1169) (by decide +kernel)⟩
theorem lw_p29 : lw_okq (⟨"FleetDelegatesModel", "isWhom", "(I)Z"⟩, 49) := ⟨⟨by decide +kernel, by decide +kernel⟩, List.mem_of_getElem? (i := 861) (by decide +kernel), List.mem_of_getElem? (i := 1172) (by decide +kernel), List.mem_of_getElem? (i := 1173) (by decide +kernel)⟩
theorem lw_p30 : lw_okq (⟨"FleetDelegatesModel", "isNumber", "(II)Z"⟩, 49) := ⟨⟨by decide +kernel, by decide +kernel⟩, List.mem_of_getElem? (i := 861) (by decide +kernel), List.mem_of_getElem? (i := 1177) (by decide +kernel), List.mem_of_getElem? (i := 1178) (by decide +kernel)⟩
theorem lw_p31 : lw_okq (⟨"FleetDelegatesModel", "isCount", "(II)Z"⟩, 49) := ⟨⟨by decide +kernel, by decide +kernel⟩, List.mem_of_getElem? (i := 861) (by decide +kernel), List.mem_of_getElem? (i := 1181) (by decide +kernel), List.mem_of_getElem? (i := 1182) (by decide +kernel)⟩
def lw_privs_2 : List (MethodName × Nat) := [(⟨"FleetDelegatesModel", "eats", "(I)I"⟩, 49), (⟨"FleetDelegatesModel", "addWill", "(II)V"⟩, 49), (⟨"FleetDelegatesModel", "will", "(I)I"⟩, 49), (⟨"FleetDelegatesModel", "land", "(I)V"⟩, 49), (⟨"FleetDelegatesModel", "readOffer", "(II)V"⟩, 49), (⟨"FleetDelegatesModel", "show", "(I)V"⟩, 49), (⟨"FleetDelegatesModel", "lasts", "(I)I"⟩, 49), (⟨"FleetDelegatesModel", "keep", "(Z)V"⟩, 49), (⟨"FleetDelegatesModel", "yieldedSet", "()I"⟩, 49), (⟨"FleetDelegatesModel", "isRead", "()Z"⟩, 49), (⟨"FleetDelegatesModel", "nextToken", "()V"⟩, 49), (⟨"FleetDelegatesModel", "isArticle", "(I)Z"⟩, 49), (⟨"FleetDelegatesModel", "fails", "()Z"⟩, 49), (⟨"FleetDelegatesModel", "isWhom", "(I)Z"⟩, 49), (⟨"FleetDelegatesModel", "isNumber", "(II)Z"⟩, 49), (⟨"FleetDelegatesModel", "isCount", "(II)Z"⟩, 49)]
theorem lw_r2 : ∀ q ∈ lw_privs_2, lw_okq q := List.forall_mem_cons.mpr ⟨lw_p16, List.forall_mem_cons.mpr ⟨lw_p17, List.forall_mem_cons.mpr ⟨lw_p18, List.forall_mem_cons.mpr ⟨lw_p19, List.forall_mem_cons.mpr ⟨lw_p20, List.forall_mem_cons.mpr ⟨lw_p21, List.forall_mem_cons.mpr ⟨lw_p22, List.forall_mem_cons.mpr ⟨lw_p23, List.forall_mem_cons.mpr ⟨lw_p24, List.forall_mem_cons.mpr ⟨lw_p25, List.forall_mem_cons.mpr ⟨lw_p26, List.forall_mem_cons.mpr ⟨lw_p27, List.forall_mem_cons.mpr ⟨lw_p28, List.forall_mem_cons.mpr ⟨lw_p29, List.forall_mem_cons.mpr ⟨lw_p30, List.forall_mem_cons.mpr ⟨lw_p31, fun _ h => absurd h List.not_mem_nil⟩⟩⟩⟩⟩⟩⟩⟩⟩⟩⟩⟩⟩⟩⟩⟩
theorem lw_p32 : lw_okq (⟨"FleetDelegatesModel", "isWhen", "(I)Z"⟩, 49) := ⟨⟨by decide +kernel, by decide +kernel⟩, List.mem_of_getElem? (i := 861) (by decide +kernel), List.mem_of_getElem? (i := 1186) (by decide +kernel), List.mem_of_getElem? (i := 1187) (by decide +kernel)⟩
theorem lw_p33 : lw_okq (⟨"FleetDelegatesModel", "owedBy", "(III)I"⟩, 49) := ⟨⟨by decide +kernel, by decide +kernel⟩, List.mem_of_getElem? (i := 861) (by decide +kernel), List.mem_of_getElem? (i := 1203) (by decide +kernel), List.mem_of_getElem? (i := 1204) (by decide +kernel)⟩
theorem lw_p34 : lw_okq (⟨"FleetDelegatesModel", "isInForce", "(IIII)Z"⟩, 49) := ⟨⟨by decide +kernel, by decide +kernel⟩, List.mem_of_getElem? (i := 861) (by decide +kernel), List.mem_of_getElem? (i := 1207) (by decide +kernel), List.mem_of_getElem? (i := 1208) (by decide +kernel)⟩
theorem lw_p35 : lw_okq (⟨"FleetDelegatesModel", "voicesBy", "(III)I"⟩, 49) := ⟨⟨by decide +kernel, by decide +kernel⟩, List.mem_of_getElem? (i := 861) (by decide +kernel), List.mem_of_getElem? (i := 1215) (by decide +kernel), List.mem_of_getElem? (i := 1216) (by decide +kernel)⟩
theorem lw_p36 : lw_okq (⟨"FleetDelegatesModel", "isPardoned", "(III)Z"⟩, 49) := ⟨⟨by decide +kernel, by decide +kernel⟩, List.mem_of_getElem? (i := 861) (by decide +kernel), List.mem_of_getElem? (i := 1231) (by decide +kernel), List.mem_of_getElem? (i := 1232) (by decide +kernel)⟩
theorem lw_p37 : lw_okq (⟨"FleetDelegatesModel", "voicesFor", "(I)I"⟩, 49) := ⟨⟨by decide +kernel, by decide +kernel⟩, List.mem_of_getElem? (i := 861) (by decide +kernel), List.mem_of_getElem? (i := 1243) (by decide +kernel), List.mem_of_getElem? (i := 1244) (by decide +kernel)⟩
theorem lw_p38 : lw_okq (⟨"FleetDelegatesModel", "isFor", "(II)Z"⟩, 49) := ⟨⟨by decide +kernel, by decide +kernel⟩, List.mem_of_getElem? (i := 861) (by decide +kernel), List.mem_of_getElem? (i := 1247) (by decide +kernel), List.mem_of_getElem? (i := 1248) (by decide +kernel)⟩
theorem lw_p39 : lw_okq (⟨"FleetDelegatesModel", "carry", "()I"⟩, 49) := ⟨⟨by decide +kernel, by decide +kernel⟩, List.mem_of_getElem? (i := 861) (by decide +kernel), List.mem_of_getElem? (i := 1251) (by decide +kernel), List.mem_of_getElem? (i := 1252) (by decide +kernel)⟩
theorem lw_p40 : lw_okq (⟨"FleetDelegatesModel", "areFor", "(II)Z"⟩, 49) := ⟨⟨by decide +kernel, by decide +kernel⟩, List.mem_of_getElem? (i := 861) (by decide +kernel), List.mem_of_getElem? (i := 1259) (by decide +kernel), List.mem_of_getElem? (i := 1260) (by decide +kernel)⟩
theorem lw_p41 : lw_okq (⟨"FleetDelegatesModel", "mayGo", "(III)Z"⟩, 49) := ⟨⟨by decide +kernel, by decide +kernel⟩, List.mem_of_getElem? (i := 861) (by decide +kernel), List.mem_of_getElem? (i := 1276) (by decide +kernel), List.mem_of_getElem? (i := 1277) (by decide +kernel)⟩
theorem lw_p42 : lw_okq (⟨"FleetDelegatesModel", "costOf", "(I)I"⟩, 49) := ⟨⟨by decide +kernel, by decide +kernel⟩, List.mem_of_getElem? (i := 861) (by decide +kernel), List.mem_of_getElem? (i := 1280) (by decide +kernel), List.mem_of_getElem? (i := 1281) (by decide +kernel)⟩
theorem lw_p43 : lw_okq (⟨"FleetDelegatesModel", "canSail", "(II)Z"⟩, 49) := ⟨⟨by decide +kernel, by decide +kernel⟩, List.mem_of_getElem? (i := 861) (by decide +kernel), List.mem_of_getElem? (i := 1300) (by decide +kernel), List.mem_of_getElem? (i := 1301) (by decide +kernel)⟩
theorem lw_p44 : lw_okq (⟨"FleetDelegatesModel", "findNeeded", "(II)V"⟩, 49) := ⟨⟨by decide +kernel, by decide +kernel⟩, List.mem_of_getElem? (i := 861) (by decide +kernel), List.mem_of_getElem? (i := 1322) (by decide +kernel), List.mem_of_getElem? (i := 1323) (by decide +kernel)⟩
theorem lw_p45 : lw_okq (⟨"FleetDelegatesModel", "neededBy", "(II)I"⟩, 49) := ⟨⟨by decide +kernel, by decide +kernel⟩, List.mem_of_getElem? (i := 861) (by decide +kernel), List.mem_of_getElem? (i := 1326) (by decide +kernel), List.mem_of_getElem? (i := 1327) (by decide +kernel)⟩
def lw_privs_3 : List (MethodName × Nat) := [(⟨"FleetDelegatesModel", "isWhen", "(I)Z"⟩, 49), (⟨"FleetDelegatesModel", "owedBy", "(III)I"⟩, 49), (⟨"FleetDelegatesModel", "isInForce", "(IIII)Z"⟩, 49), (⟨"FleetDelegatesModel", "voicesBy", "(III)I"⟩, 49), (⟨"FleetDelegatesModel", "isPardoned", "(III)Z"⟩, 49), (⟨"FleetDelegatesModel", "voicesFor", "(I)I"⟩, 49), (⟨"FleetDelegatesModel", "isFor", "(II)Z"⟩, 49), (⟨"FleetDelegatesModel", "carry", "()I"⟩, 49), (⟨"FleetDelegatesModel", "areFor", "(II)Z"⟩, 49), (⟨"FleetDelegatesModel", "mayGo", "(III)Z"⟩, 49), (⟨"FleetDelegatesModel", "costOf", "(I)I"⟩, 49), (⟨"FleetDelegatesModel", "canSail", "(II)Z"⟩, 49), (⟨"FleetDelegatesModel", "findNeeded", "(II)V"⟩, 49), (⟨"FleetDelegatesModel", "neededBy", "(II)I"⟩, 49)]
theorem lw_r3 : ∀ q ∈ lw_privs_3, lw_okq q := List.forall_mem_cons.mpr ⟨lw_p32, List.forall_mem_cons.mpr ⟨lw_p33, List.forall_mem_cons.mpr ⟨lw_p34, List.forall_mem_cons.mpr ⟨lw_p35, List.forall_mem_cons.mpr ⟨lw_p36, List.forall_mem_cons.mpr ⟨lw_p37, List.forall_mem_cons.mpr ⟨lw_p38, List.forall_mem_cons.mpr ⟨lw_p39, List.forall_mem_cons.mpr ⟨lw_p40, List.forall_mem_cons.mpr ⟨lw_p41, List.forall_mem_cons.mpr ⟨lw_p42, List.forall_mem_cons.mpr ⟨lw_p43, List.forall_mem_cons.mpr ⟨lw_p44, List.forall_mem_cons.mpr ⟨lw_p45, fun _ h => absurd h List.not_mem_nil⟩⟩⟩⟩⟩⟩⟩⟩⟩⟩⟩⟩⟩⟩
def lw_privs : List (MethodName × Nat) := lw_privs_1 ++ (lw_privs_2 ++ (lw_privs_3))
def lw_tbl : List Cond := k2_sels lw_privs ++ tables_1
theorem lw_privs_ok : ∀ q ∈ lw_privs, lw_okq q := by
  show ∀ q ∈ lw_privs_1 ++ (lw_privs_2 ++ (lw_privs_3)), lw_okq q
  exact List.forall_mem_append.mpr ⟨lw_r1, List.forall_mem_append.mpr ⟨lw_r2, lw_r3⟩⟩
def RX0 : String := "FleetDelegates$Batteries"
def TX0 : u_T := fun k => match k with
  | 0 => ("FleetDelegates$Batteries", "count", "I", false)
  | 1 => ("FleetDelegates$Batteries", "cell", "[I", true)
  | 2 => ("FleetDelegates$Batteries", "range", "[I", true)
  | 3 => ("FleetDelegates$Batteries", "guns", "[I", true)
  | 4 => ("FleetDelegates$Batteries", "cost", "[I", true)
  | 5 => ("FleetDelegates$Batteries", "evenHits", "[I", true)
  | _ => ("FleetDelegates$Batteries", "oddHits", "[I", true)
def tyX0 : Nat → FieldType := fun k => match k with
  | 0 => .int
  | 1 => .array .int
  | 2 => .array .int
  | 3 => .array .int
  | 4 => .array .int
  | 5 => .array .int
  | _ => .array .int
theorem nmX0 : ∀ a, a < 7 → ∀ b, b < 7 → a ≠ b → (TX0 a).2.1 ≠ (TX0 b).2.1 := by decide +kernel
theorem tyX0_ok : ∀ k, k < 7 → parseFieldDescriptor (TX0 k).2.2.1 = some (tyX0 k) := by decide +kernel
def RX1 : String := "FleetDelegates$Boats"
def TX1 : u_T := fun k => match k with
  | 0 => ("FleetDelegates$Boats", "count", "I", false)
  | 1 => ("FleetDelegates$Boats", "due", "[I", true)
  | 2 => ("FleetDelegates$Boats", "to", "[I", true)
  | 3 => ("FleetDelegates$Boats", "beef", "[I", true)
  | 4 => ("FleetDelegates$Boats", "water", "[I", true)
  | _ => ("FleetDelegates$Boats", "paper", "[I", true)
def tyX1 : Nat → FieldType := fun k => match k with
  | 0 => .int
  | 1 => .array .int
  | 2 => .array .int
  | 3 => .array .int
  | 4 => .array .int
  | _ => .array .int
theorem nmX1 : ∀ a, a < 6 → ∀ b, b < 6 → a ≠ b → (TX1 a).2.1 ≠ (TX1 b).2.1 := by decide +kernel
theorem tyX1_ok : ∀ k, k < 6 → parseFieldDescriptor (TX1 k).2.2.1 = some (tyX1 k) := by decide +kernel
def RX2 : String := "FleetDelegates$Book"
def TX2 : u_T := fun k => match k with
  | 0 => ("FleetDelegates$Book", "count", "I", false)
  | 1 => ("FleetDelegates$Book", "kind", "[I", true)
  | 2 => ("FleetDelegates$Book", "ship", "[I", true)
  | 3 => ("FleetDelegates$Book", "number", "[I", true)
  | 4 => ("FleetDelegates$Book", "from", "[I", true)
  | _ => ("FleetDelegates$Book", "to", "[I", true)
def tyX2 : Nat → FieldType := fun k => match k with
  | 0 => .int
  | 1 => .array .int
  | 2 => .array .int
  | 3 => .array .int
  | 4 => .array .int
  | _ => .array .int
theorem nmX2 : ∀ a, a < 6 → ∀ b, b < 6 → a ≠ b → (TX2 a).2.1 ≠ (TX2 b).2.1 := by decide +kernel
theorem tyX2_ok : ∀ k, k < 6 → parseFieldDescriptor (TX2 k).2.2.1 = some (tyX2 k) := by decide +kernel
def RX3 : String := "FleetDelegates$Fellows"
def TX3 : u_T := fun k => match k with
  | 0 => ("FleetDelegates$Fellows", "count", "I", false)
  | 1 => ("FleetDelegates$Fellows", "ship", "[I", true)
  | _ => ("FleetDelegates$Fellows", "doings", "[I", true)
def tyX3 : Nat → FieldType := fun k => match k with
  | 0 => .int
  | 1 => .array .int
  | _ => .array .int
theorem nmX3 : ∀ a, a < 3 → ∀ b, b < 3 → a ≠ b → (TX3 a).2.1 ≠ (TX3 b).2.1 := by decide +kernel
theorem tyX3_ok : ∀ k, k < 3 → parseFieldDescriptor (TX3 k).2.2.1 = some (tyX3 k) := by decide +kernel
def RX4 : String := "FleetDelegates$Fleet"
def TX4 : u_T := fun k => match k with
  | 0 => ("FleetDelegates$Fleet", "hour", "I", false)
  | 1 => ("FleetDelegates$Fleet", "ships", "I", false)
  | 2 => ("FleetDelegates$Fleet", "papers", "I", false)
  | 3 => ("FleetDelegates$Fleet", "told", "[I", true)
  | 4 => ("FleetDelegates$Fleet", "cell", "[I", true)
  | 5 => ("FleetDelegates$Fleet", "men", "[I", true)
  | 6 => ("FleetDelegates$Fleet", "beef", "[I", true)
  | 7 => ("FleetDelegates$Fleet", "water", "[I", true)
  | 8 => ("FleetDelegates$Fleet", "want", "[I", true)
  | 9 => ("FleetDelegates$Fleet", "will", "[I", true)
  | 10 => ("FleetDelegates$Fleet", "yielded", "[I", true)
  | 11 => ("FleetDelegates$Fleet", "shown", "[I", true)
  | 12 => ("FleetDelegates$Fleet", "lastSaw", "[I", true)
  | 13 => ("FleetDelegates$Fleet", "offer", "[I", true)
  | 14 => ("FleetDelegates$Fleet", "knownFrom", "[I", true)
  | _ => ("FleetDelegates$Fleet", "boats", "LFleetDelegates$Boats;", true)
def tyX4 : Nat → FieldType := fun k => match k with
  | 0 => .int
  | 1 => .int
  | 2 => .int
  | 3 => .array .int
  | 4 => .array .int
  | 5 => .array .int
  | 6 => .array .int
  | 7 => .array .int
  | 8 => .array .int
  | 9 => .array .int
  | 10 => .array .int
  | 11 => .array .int
  | 12 => .array .int
  | 13 => .array .int
  | 14 => .array .int
  | _ => .object "FleetDelegates$Boats"
theorem nmX4 : ∀ a, a < 16 → ∀ b, b < 16 → a ≠ b → (TX4 a).2.1 ≠ (TX4 b).2.1 := by decide +kernel
theorem tyX4_ok : ∀ k, k < 16 → parseFieldDescriptor (TX4 k).2.2.1 = some (tyX4 k) := by decide +kernel
def RX5 : String := "FleetDelegates$Officers"
def TX5 : u_T := fun k => match k with
  | 0 => ("FleetDelegates$Officers", "count", "I", false)
  | 1 => ("FleetDelegates$Officers", "ashore", "I", false)
  | 2 => ("FleetDelegates$Officers", "ship", "[I", true)
  | 3 => ("FleetDelegates$Officers", "skills", "[I", true)
  | 4 => ("FleetDelegates$Officers", "needs", "[I", true)
  | _ => ("FleetDelegates$Officers", "cost", "[I", true)
def tyX5 : Nat → FieldType := fun k => match k with
  | 0 => .int
  | 1 => .int
  | 2 => .array .int
  | 3 => .array .int
  | 4 => .array .int
  | _ => .array .int
theorem nmX5 : ∀ a, a < 6 → ∀ b, b < 6 → a ≠ b → (TX5 a).2.1 ≠ (TX5 b).2.1 := by decide +kernel
theorem tyX5_ok : ∀ k, k < 6 → parseFieldDescriptor (TX5 k).2.2.1 = some (tyX5 k) := by decide +kernel
def RX6 : String := "FleetDelegates$Plan"
def TX6 : u_T := fun k => match k with
  | _ => ("FleetDelegates$Plan", "worse", "[I", true)
def tyX6 : Nat → FieldType := fun k => match k with
  | _ => .array .int
theorem nmX6 : ∀ a, a < 1 → ∀ b, b < 1 → a ≠ b → (TX6 a).2.1 ≠ (TX6 b).2.1 := by decide +kernel
theorem tyX6_ok : ∀ k, k < 1 → parseFieldDescriptor (TX6 k).2.2.1 = some (tyX6 k) := by decide +kernel
def RX7 : String := "FleetDelegates$Reader"
def TX7 : u_T := fun k => match k with
  | 0 => ("FleetDelegates$Reader", "text", "LFleetDelegates$Text;", true)
  | 1 => ("FleetDelegates$Reader", "ships", "I", false)
  | 2 => ("FleetDelegates$Reader", "start", "I", false)
  | 3 => ("FleetDelegates$Reader", "end", "I", false)
  | 4 => ("FleetDelegates$Reader", "row", "I", false)
  | 5 => ("FleetDelegates$Reader", "ship", "I", false)
  | 6 => ("FleetDelegates$Reader", "number", "I", false)
  | 7 => ("FleetDelegates$Reader", "from", "I", false)
  | _ => ("FleetDelegates$Reader", "to", "I", false)
def tyX7 : Nat → FieldType := fun k => match k with
  | 0 => .object "FleetDelegates$Text"
  | 1 => .int
  | 2 => .int
  | 3 => .int
  | 4 => .int
  | 5 => .int
  | 6 => .int
  | 7 => .int
  | _ => .int
theorem nmX7 : ∀ a, a < 9 → ∀ b, b < 9 → a ≠ b → (TX7 a).2.1 ≠ (TX7 b).2.1 := by decide +kernel
theorem tyX7_ok : ∀ k, k < 9 → parseFieldDescriptor (TX7 k).2.2.1 = some (tyX7 k) := by decide +kernel
def RX8 : String := "FleetDelegates$Text"
def TX8 : u_T := fun k => match k with
  | 0 => ("FleetDelegates$Text", "bytes", "[I", true)
  | _ => ("FleetDelegates$Text", "length", "I", false)
def tyX8 : Nat → FieldType := fun k => match k with
  | 0 => .array .int
  | _ => .int
theorem nmX8 : ∀ a, a < 2 → ∀ b, b < 2 → a ≠ b → (TX8 a).2.1 ≠ (TX8 b).2.1 := by decide +kernel
theorem tyX8_ok : ∀ k, k < 2 → parseFieldDescriptor (TX8 k).2.2.1 = some (tyX8 k) := by decide +kernel
def RX9 : String := "FleetDelegates"
def TX9 : u_T := fun k => match k with
  | 0 => ("FleetDelegates", "fleet", "LFleetDelegates$Fleet;", true)
  | 1 => ("FleetDelegates", "trial", "LFleetDelegates$Fleet;", true)
  | 2 => ("FleetDelegates", "text", "LFleetDelegates$Text;", true)
  | 3 => ("FleetDelegates", "reader", "LFleetDelegates$Reader;", true)
  | 4 => ("FleetDelegates", "fleetBook", "LFleetDelegates$Book;", false)
  | 5 => ("FleetDelegates", "boardBook", "LFleetDelegates$Book;", false)
  | 6 => ("FleetDelegates", "draft", "LFleetDelegates$Book;", false)
  | 7 => ("FleetDelegates", "fellows", "LFleetDelegates$Fellows;", true)
  | 8 => ("FleetDelegates", "batteries", "LFleetDelegates$Batteries;", true)
  | 9 => ("FleetDelegates", "officers", "LFleetDelegates$Officers;", true)
  | _ => ("FleetDelegates", "plan", "LFleetDelegates$Plan;", true)
def tyX9 : Nat → FieldType := fun k => match k with
  | 0 => .object "FleetDelegates$Fleet"
  | 1 => .object "FleetDelegates$Fleet"
  | 2 => .object "FleetDelegates$Text"
  | 3 => .object "FleetDelegates$Reader"
  | 4 => .object "FleetDelegates$Book"
  | 5 => .object "FleetDelegates$Book"
  | 6 => .object "FleetDelegates$Book"
  | 7 => .object "FleetDelegates$Fellows"
  | 8 => .object "FleetDelegates$Batteries"
  | 9 => .object "FleetDelegates$Officers"
  | _ => .object "FleetDelegates$Plan"
theorem nmX9 : ∀ a, a < 11 → ∀ b, b < 11 → a ≠ b → (TX9 a).2.1 ≠ (TX9 b).2.1 := by decide +kernel
theorem tyX9_ok : ∀ k, k < 11 → parseFieldDescriptor (TX9 k).2.2.1 = some (tyX9 k) := by decide +kernel
def RX10 : String := "FleetDelegatesModel"
def TX10 : u_T := fun k => match k with
  | 0 => ("FleetDelegatesModel", "hour", "I", false)
  | 1 => ("FleetDelegatesModel", "sight", "I", false)
  | 2 => ("FleetDelegatesModel", "wind", "I", false)
  | 3 => ("FleetDelegatesModel", "line", "I", false)
  | 4 => ("FleetDelegatesModel", "fog", "I", false)
  | 5 => ("FleetDelegatesModel", "ships", "I", false)
  | 6 => ("FleetDelegatesModel", "cellOf", "[I", true)
  | 7 => ("FleetDelegatesModel", "men", "[I", true)
  | 8 => ("FleetDelegatesModel", "want", "[I", true)
  | 9 => ("FleetDelegatesModel", "needsOf", "[I", true)
  | 10 => ("FleetDelegatesModel", "state", "[I", true)
  | 11 => ("FleetDelegatesModel", "stateWas", "[I", true)
  | 12 => ("FleetDelegatesModel", "papers", "I", false)
  | 13 => ("FleetDelegatesModel", "offers", "[I", true)
  | 14 => ("FleetDelegatesModel", "known", "[I", true)
  | 15 => ("FleetDelegatesModel", "knownWas", "[I", true)
  | 16 => ("FleetDelegatesModel", "seen", "[I", true)
  | 17 => ("FleetDelegatesModel", "seenWas", "[I", true)
  | 18 => ("FleetDelegatesModel", "boats", "I", false)
  | 19 => ("FleetDelegatesModel", "boatsWas", "I", false)
  | 20 => ("FleetDelegatesModel", "boat", "[I", true)
  | 21 => ("FleetDelegatesModel", "boatWas", "[I", true)
  | 22 => ("FleetDelegatesModel", "bytes", "I", false)
  | 23 => ("FleetDelegatesModel", "text", "[I", true)
  | 24 => ("FleetDelegatesModel", "position", "I", false)
  | 25 => ("FleetDelegatesModel", "tokenAt", "I", false)
  | 26 => ("FleetDelegatesModel", "token", "J", false)
  | 27 => ("FleetDelegatesModel", "digits", "I", false)
  | 28 => ("FleetDelegatesModel", "number", "I", false)
  | 29 => ("FleetDelegatesModel", "faultAt", "I", false)
  | 30 => ("FleetDelegatesModel", "readMany", "I", false)
  | 31 => ("FleetDelegatesModel", "read", "[I", true)
  | 32 => ("FleetDelegatesModel", "many", "[I", true)
  | 33 => ("FleetDelegatesModel", "article", "[I", true)
  | 34 => ("FleetDelegatesModel", "fellows", "I", false)
  | 35 => ("FleetDelegatesModel", "fellowShip", "[I", true)
  | 36 => ("FleetDelegatesModel", "doings", "[I", true)
  | 37 => ("FleetDelegatesModel", "batteries", "I", false)
  | 38 => ("FleetDelegatesModel", "batteryCell", "[I", true)
  | 39 => ("FleetDelegatesModel", "range", "[I", true)
  | 40 => ("FleetDelegatesModel", "guns", "[I", true)
  | 41 => ("FleetDelegatesModel", "hits", "[I", true)
  | 42 => ("FleetDelegatesModel", "hitsNext", "[I", true)
  | 43 => ("FleetDelegatesModel", "officers", "I", false)
  | 44 => ("FleetDelegatesModel", "officerShip", "[I", true)
  | 45 => ("FleetDelegatesModel", "skills", "[I", true)
  | 46 => ("FleetDelegatesModel", "isAshore", "[Z", true)
  | 47 => ("FleetDelegatesModel", "answers", "[I", true)
  | _ => ("FleetDelegatesModel", "needed", "[I", true)
def tyX10 : Nat → FieldType := fun k => match k with
  | 0 => .int
  | 1 => .int
  | 2 => .int
  | 3 => .int
  | 4 => .int
  | 5 => .int
  | 6 => .array .int
  | 7 => .array .int
  | 8 => .array .int
  | 9 => .array .int
  | 10 => .array .int
  | 11 => .array .int
  | 12 => .int
  | 13 => .array .int
  | 14 => .array .int
  | 15 => .array .int
  | 16 => .array .int
  | 17 => .array .int
  | 18 => .int
  | 19 => .int
  | 20 => .array .int
  | 21 => .array .int
  | 22 => .int
  | 23 => .array .int
  | 24 => .int
  | 25 => .int
  | 26 => .long
  | 27 => .int
  | 28 => .int
  | 29 => .int
  | 30 => .int
  | 31 => .array .int
  | 32 => .array .int
  | 33 => .array .int
  | 34 => .int
  | 35 => .array .int
  | 36 => .array .int
  | 37 => .int
  | 38 => .array .int
  | 39 => .array .int
  | 40 => .array .int
  | 41 => .array .int
  | 42 => .array .int
  | 43 => .int
  | 44 => .array .int
  | 45 => .array .int
  | 46 => .array .boolean
  | 47 => .array .int
  | _ => .array .int
theorem nmX10 : ∀ a, a < 49 → ∀ b, b < 49 → a ≠ b → (TX10 a).2.1 ≠ (TX10 b).2.1 := by decide +kernel
theorem tyX10_ok : ∀ k, k < 49 → parseFieldDescriptor (TX10 k).2.2.1 = some (tyX10 k) := by decide +kernel
def RJ6 : String := "java/lang/Integer"
def RJ0 : String := "java/lang/String"
def RJ1 : String := "java/lang/StringLatin1"
def RJ3 : String := "jdk/internal/util/Preconditions"
def RL : String := "FleetDelegatesLaw"
abbrev cX0_init : ByteArray := prog_2_method_1_code
def yX0_init : MethodName := ⟨RX0, "<init>", "()V"⟩
abbrev cX0_add : ByteArray := prog_2_method_2_code
def yX0_add : MethodName := ⟨RX0, "add", "(III)I"⟩
abbrev cX0_leastHits : ByteArray := prog_2_method_3_code
def yX0_leastHits : MethodName := ⟨RX0, "leastHits", "(IIII)I"⟩
abbrev cX0_gunsAt : ByteArray := prog_2_method_4_code
def yX0_gunsAt : MethodName := ⟨RX0, "gunsAt", "(I)I"⟩
abbrev cX0_leastBefore : ByteArray := prog_2_method_5_code
def yX0_leastBefore : MethodName := ⟨RX0, "leastBefore", "([III)I"⟩
abbrev cX0_takeAway : ByteArray := prog_2_method_6_code
def yX0_takeAway : MethodName := ⟨RX0, "takeAway", "([I)I"⟩
abbrev cX1_init : ByteArray := prog_3_method_1_code
def yX1_init : MethodName := ⟨RX1, "<init>", "()V"⟩
abbrev cX1_add : ByteArray := prog_3_method_2_code
def yX1_add : MethodName := ⟨RX1, "add", "(IIIII)Z"⟩
abbrev cX1_dropDue : ByteArray := prog_3_method_3_code
def yX1_dropDue : MethodName := ⟨RX1, "dropDue", "(I)V"⟩
abbrev cX1_become : ByteArray := prog_3_method_4_code
def yX1_become : MethodName := ⟨RX1, "become", "(LFleetDelegates$Boats;)V"⟩
abbrev cX2_init : ByteArray := prog_4_method_1_code
def yX2_init : MethodName := ⟨RX2, "<init>", "()V"⟩
abbrev cX2_add : ByteArray := prog_4_method_2_code
def yX2_add : MethodName := ⟨RX2, "add", "(IIIII)V"⟩
abbrev cX2_isFor : ByteArray := prog_4_method_3_code
def yX2_isFor : MethodName := ⟨RX2, "isFor", "(IIII)Z"⟩
abbrev cX2_owedEach : ByteArray := prog_4_method_4_code
def yX2_owedEach : MethodName := ⟨RX2, "owedEach", "(II)I"⟩
abbrev cX2_voicesOf : ByteArray := prog_4_method_5_code
def yX2_voicesOf : MethodName := ⟨RX2, "voicesOf", "(II)I"⟩
abbrev cX2_carry : ByteArray := prog_4_method_6_code
def yX2_carry : MethodName := ⟨RX2, "carry", "(I)I"⟩
abbrev cX2_pardons : ByteArray := prog_4_method_7_code
def yX2_pardons : MethodName := ⟨RX2, "pardons", "(III)Z"⟩
abbrev cX2_leastBut : ByteArray := prog_4_method_8_code
def yX2_leastBut : MethodName := ⟨RX2, "leastBut", "(II)I"⟩
abbrev cX2_changeAfter : ByteArray := prog_4_method_9_code
def yX2_changeAfter : MethodName := ⟨RX2, "changeAfter", "(I)I"⟩
abbrev cX3_init : ByteArray := prog_5_method_1_code
def yX3_init : MethodName := ⟨RX3, "<init>", "()V"⟩
abbrev cX3_add : ByteArray := prog_5_method_2_code
def yX3_add : MethodName := ⟨RX3, "add", "(II)I"⟩
abbrev cX3_isPardoned : ByteArray := prog_5_method_3_code
def yX3_isPardoned : MethodName := ⟨RX3, "isPardoned", "(ILFleetDelegates$Book;I)Z"⟩
abbrev cX4_init : ByteArray := prog_6_method_1_code
def yX4_init : MethodName := ⟨RX4, "<init>", "()V"⟩
abbrev cX4_addShip : ByteArray := prog_6_method_2_code
def yX4_addShip : MethodName := ⟨RX4, "addShip", "(IIIIII)I"⟩
abbrev cX4_addPaper : ByteArray := prog_6_method_3_code
def yX4_addPaper : MethodName := ⟨RX4, "addPaper", "(II)I"⟩
abbrev cX4_sendBoat : ByteArray := prog_6_method_4_code
def yX4_sendBoat : MethodName := ⟨RX4, "sendBoat", "(IIIII)I"⟩
abbrev cX4_hasYielded : ByteArray := prog_6_method_5_code
def yX4_hasYielded : MethodName := ⟨RX4, "hasYielded", "(I)Z"⟩
abbrev cX4_isKnown : ByteArray := prog_6_method_6_code
def yX4_isKnown : MethodName := ⟨RX4, "isKnown", "(III)Z"⟩
abbrev cX4_eats : ByteArray := prog_6_method_7_code
def yX4_eats : MethodName := ⟨RX4, "eats", "(I)I"⟩
abbrev cX4_leastOffer : ByteArray := prog_6_method_8_code
def yX4_leastOffer : MethodName := ⟨RX4, "leastOffer", "(I)I"⟩
abbrev cX4_yieldedSet : ByteArray := prog_6_method_9_code
def yX4_yieldedSet : MethodName := ⟨RX4, "yieldedSet", "()I"⟩
abbrev cX4_become : ByteArray := prog_6_method_10_code
def yX4_become : MethodName := ⟨RX4, "become", "(LFleetDelegates$Fleet;)V"⟩
abbrev cX4_passHours : ByteArray := prog_6_method_11_code
def yX4_passHours : MethodName := ⟨RX4, "passHours", "(I)V"⟩
abbrev cX4_passHour : ByteArray := prog_6_method_12_code
def yX4_passHour : MethodName := ⟨RX4, "passHour", "()V"⟩
abbrev cX4_eat : ByteArray := prog_6_method_13_code
def yX4_eat : MethodName := ⟨RX4, "eat", "(I)V"⟩
abbrev cX4_landBoats : ByteArray := prog_6_method_14_code
def yX4_landBoats : MethodName := ⟨RX4, "landBoats", "()V"⟩
abbrev cX4_read : ByteArray := prog_6_method_15_code
def yX4_read : MethodName := ⟨RX4, "read", "(II)V"⟩
abbrev cX4_showSignals : ByteArray := prog_6_method_16_code
def yX4_showSignals : MethodName := ⟨RX4, "showSignals", "()V"⟩
abbrev cX4_see : ByteArray := prog_6_method_17_code
def yX4_see : MethodName := ⟨RX4, "see", "(III)V"⟩
abbrev cX4_changeWill : ByteArray := prog_6_method_18_code
def yX4_changeWill : MethodName := ⟨RX4, "changeWill", "(II)V"⟩
abbrev cX5_init : ByteArray := prog_7_method_1_code
def yX5_init : MethodName := ⟨RX5, "<init>", "()V"⟩
abbrev cX5_add : ByteArray := prog_7_method_2_code
def yX5_add : MethodName := ⟨RX5, "add", "(II)I"⟩
abbrev cX5_sendAshore : ByteArray := prog_7_method_3_code
def yX5_sendAshore : MethodName := ⟨RX5, "sendAshore", "(I)I"⟩
abbrev cX5_bringBack : ByteArray := prog_7_method_4_code
def yX5_bringBack : MethodName := ⟨RX5, "bringBack", "(I)I"⟩
abbrev cX5_missing : ByteArray := prog_7_method_5_code
def yX5_missing : MethodName := ⟨RX5, "missing", "(I)I"⟩
abbrev cX5_askedBack : ByteArray := prog_7_method_6_code
def yX5_askedBack : MethodName := ⟨RX5, "askedBack", "(I)I"⟩
abbrev cX5_tryWith : ByteArray := prog_7_method_7_code
def yX5_tryWith : MethodName := ⟨RX5, "tryWith", "(I)V"⟩
abbrev cX6_init : ByteArray := prog_8_method_1_code
def yX6_init : MethodName := ⟨RX6, "<init>", "()V"⟩
abbrev cX6_answer : ByteArray := prog_8_method_2_code
def yX6_answer : MethodName := ⟨RX6, "answer", "(III)V"⟩
abbrev cX6_sure : ByteArray := prog_8_method_3_code
def yX6_sure : MethodName := ⟨RX6, "sure", "(II)I"⟩
abbrev cX6_bestBut : ByteArray := prog_8_method_4_code
def yX6_bestBut : MethodName := ⟨RX6, "bestBut", "(I)I"⟩
abbrev cX6_firstAsk : ByteArray := prog_8_method_5_code
def yX6_firstAsk : MethodName := ⟨RX6, "firstAsk", "(II)I"⟩
abbrev cX7_init : ByteArray := prog_9_method_1_code
def yX7_init : MethodName := ⟨RX7, "<init>", "(LFleetDelegates$Text;)V"⟩
abbrev cX7_faultOf : ByteArray := prog_9_method_2_code
def yX7_faultOf : MethodName := ⟨RX7, "faultOf", "(ILFleetDelegates$Book;)I"⟩
abbrev cX7_takeArticle : ByteArray := prog_9_method_3_code
def yX7_takeArticle : MethodName := ⟨RX7, "takeArticle", "(LFleetDelegates$Book;)Z"⟩
abbrev cX7_takeKind : ByteArray := prog_9_method_4_code
def yX7_takeKind : MethodName := ⟨RX7, "takeKind", "()I"⟩
abbrev cX7_takeShip : ByteArray := prog_9_method_5_code
def yX7_takeShip : MethodName := ⟨RX7, "takeShip", "()Z"⟩
abbrev cX7_takeBut : ByteArray := prog_9_method_6_code
def yX7_takeBut : MethodName := ⟨RX7, "takeBut", "()Z"⟩
abbrev cX7_takeHours : ByteArray := prog_9_method_7_code
def yX7_takeHours : MethodName := ⟨RX7, "takeHours", "()Z"⟩
abbrev cX7_takeWord : ByteArray := prog_9_method_8_code
def yX7_takeWord : MethodName := ⟨RX7, "takeWord", "(Ljava/lang/String;)Z"⟩
abbrev cX7_takeNumber : ByteArray := prog_9_method_9_code
def yX7_takeNumber : MethodName := ⟨RX7, "takeNumber", "(II)Z"⟩
abbrev cX7_takeSemicolon : ByteArray := prog_9_method_10_code
def yX7_takeSemicolon : MethodName := ⟨RX7, "takeSemicolon", "()Z"⟩
abbrev cX7_atEnd : ByteArray := prog_9_method_11_code
def yX7_atEnd : MethodName := ⟨RX7, "atEnd", "()Z"⟩
abbrev cX7_next : ByteArray := prog_9_method_12_code
def yX7_next : MethodName := ⟨RX7, "next", "()V"⟩
abbrev cX7_rowOf : ByteArray := prog_9_method_13_code
def yX7_rowOf : MethodName := ⟨RX7, "rowOf", "(I)I"⟩
abbrev cX8_init : ByteArray := prog_10_method_1_code
def yX8_init : MethodName := ⟨RX8, "<init>", "()V"⟩
abbrev cX8_append : ByteArray := prog_10_method_2_code
def yX8_append : MethodName := ⟨RX8, "append", "(I)V"⟩
abbrev cX8_byteAt : ByteArray := prog_10_method_3_code
def yX8_byteAt : MethodName := ⟨RX8, "byteAt", "(I)I"⟩
abbrev cX9_init : ByteArray := prog_1_method_1_code
def yX9_init : MethodName := ⟨RX9, "<init>", "()V"⟩
abbrev cX9_ship : ByteArray := prog_1_method_2_code
def yX9_ship : MethodName := ⟨RX9, "ship", "(IIIIII)I"⟩
abbrev cX9_set : ByteArray := prog_1_method_3_code
def yX9_set : MethodName := ⟨RX9, "set", "(II)I"⟩
abbrev cX9_paper : ByteArray := prog_1_method_4_code
def yX9_paper : MethodName := ⟨RX9, "paper", "(II)I"⟩
abbrev cX9_boat : ByteArray := prog_1_method_5_code
def yX9_boat : MethodName := ⟨RX9, "boat", "(IIIII)I"⟩
abbrev cX9_signal : ByteArray := prog_1_method_6_code
def yX9_signal : MethodName := ⟨RX9, "signal", "(II)I"⟩
abbrev cX9_hours : ByteArray := prog_1_method_7_code
def yX9_hours : MethodName := ⟨RX9, "hours", "(I)I"⟩
abbrev cX9_at : ByteArray := prog_1_method_8_code
def yX9_at : MethodName := ⟨RX9, "at", "(II)I"⟩
abbrev cX9_knows : ByteArray := prog_1_method_9_code
def yX9_knows : MethodName := ⟨RX9, "knows", "(II)I"⟩
abbrev cX9_saw : ByteArray := prog_1_method_10_code
def yX9_saw : MethodName := ⟨RX9, "saw", "(II)I"⟩
abbrev cX9_would : ByteArray := prog_1_method_11_code
def yX9_would : MethodName := ⟨RX9, "would", "(III)I"⟩
abbrev cX9_write : ByteArray := prog_1_method_12_code
def yX9_write : MethodName := ⟨RX9, "write", "(JI)I"⟩
abbrev cX9_erase : ByteArray := prog_1_method_13_code
def yX9_erase : MethodName := ⟨RX9, "erase", "()I"⟩
abbrev cX9_fault : ByteArray := prog_1_method_14_code
def yX9_fault : MethodName := ⟨RX9, "fault", "()I"⟩
abbrev cX9_articles : ByteArray := prog_1_method_15_code
def yX9_articles : MethodName := ⟨RX9, "articles", "(I)I"⟩
abbrev cX9_owed : ByteArray := prog_1_method_16_code
def yX9_owed : MethodName := ⟨RX9, "owed", "(III)I"⟩
abbrev cX9_voices : ByteArray := prog_1_method_17_code
def yX9_voices : MethodName := ⟨RX9, "voices", "(III)I"⟩
abbrev cX9_unlike : ByteArray := prog_1_method_18_code
def yX9_unlike : MethodName := ⟨RX9, "unlike", "(II)I"⟩
abbrev cX9_fellow : ByteArray := prog_1_method_19_code
def yX9_fellow : MethodName := ⟨RX9, "fellow", "(II)I"⟩
abbrev cX9_named : ByteArray := prog_1_method_20_code
def yX9_named : MethodName := ⟨RX9, "named", "(II)I"⟩
abbrev cX9_word : ByteArray := prog_1_method_21_code
def yX9_word : MethodName := ⟨RX9, "word", "(III)I"⟩
abbrev cX9_vote : ByteArray := prog_1_method_22_code
def yX9_vote : MethodName := ⟨RX9, "vote", "(II)I"⟩
abbrev cX9_least : ByteArray := prog_1_method_23_code
def yX9_least : MethodName := ⟨RX9, "least", "(I)I"⟩
abbrev cX9_sharing : ByteArray := prog_1_method_24_code
def yX9_sharing : MethodName := ⟨RX9, "sharing", "(I)I"⟩
abbrev cX9_battery : ByteArray := prog_1_method_25_code
def yX9_battery : MethodName := ⟨RX9, "battery", "(III)I"⟩
abbrev cX9_slip : ByteArray := prog_1_method_26_code
def yX9_slip : MethodName := ⟨RX9, "slip", "(II)I"⟩
abbrev cX9_officer : ByteArray := prog_1_method_27_code
def yX9_officer : MethodName := ⟨RX9, "officer", "(II)I"⟩
abbrev cX9_list : ByteArray := prog_1_method_28_code
def yX9_list : MethodName := ⟨RX9, "list", "(IZ)I"⟩
abbrev cX9_needs : ByteArray := prog_1_method_29_code
def yX9_needs : MethodName := ⟨RX9, "needs", "(II)I"⟩
abbrev cX9_sailed : ByteArray := prog_1_method_30_code
def yX9_sailed : MethodName := ⟨RX9, "sailed", "()I"⟩
abbrev cX9_asked : ByteArray := prog_1_method_31_code
def yX9_asked : MethodName := ⟨RX9, "asked", "(I)I"⟩
abbrev cX9_ask : ByteArray := prog_1_method_32_code
def yX9_ask : MethodName := ⟨RX9, "ask", "(III)I"⟩
abbrev cX9_reaches : ByteArray := prog_1_method_33_code
def yX9_reaches : MethodName := ⟨RX9, "reaches", "(II)I"⟩
abbrev cX9_begin : ByteArray := prog_1_method_34_code
def yX9_begin : MethodName := ⟨RX9, "begin", "(II)I"⟩
abbrev cX9_count : ByteArray := prog_1_method_35_code
def yX9_count : MethodName := ⟨RX9, "count", "(I)I"⟩
abbrev cX9_within : ByteArray := prog_1_method_36_code
def yX9_within : MethodName := ⟨RX9, "within", "(III)Z"⟩
abbrev cX9_isCell : ByteArray := prog_1_method_37_code
def yX9_isCell : MethodName := ⟨RX9, "isCell", "(I)Z"⟩
abbrev cX9_isHour : ByteArray := prog_1_method_38_code
def yX9_isHour : MethodName := ⟨RX9, "isHour", "(I)Z"⟩
abbrev cX9_isBook : ByteArray := prog_1_method_39_code
def yX9_isBook : MethodName := ⟨RX9, "isBook", "(I)Z"⟩
abbrev cX9_isGoal : ByteArray := prog_1_method_40_code
def yX9_isGoal : MethodName := ⟨RX9, "isGoal", "(II)Z"⟩
abbrev cX9_isSet : ByteArray := prog_1_method_41_code
def yX9_isSet : MethodName := ⟨RX9, "isSet", "(II)Z"⟩
abbrev cX9_has : ByteArray := prog_1_method_42_code
def yX9_has : MethodName := ⟨RX9, "has", "(II)Z"⟩
abbrev cX9_isShip : ByteArray := prog_1_method_43_code
def yX9_isShip : MethodName := ⟨RX9, "isShip", "(I)Z"⟩
abbrev cX9_canPass : ByteArray := prog_1_method_44_code
def yX9_canPass : MethodName := ⟨RX9, "canPass", "(I)Z"⟩
abbrev cX9_bookOf : ByteArray := prog_1_method_45_code
def yX9_bookOf : MethodName := ⟨RX9, "bookOf", "(I)LFleetDelegates$Book;"⟩
abbrev cX9_far : ByteArray := prog_1_method_46_code
def yX9_far : MethodName := ⟨RX9, "far", "(II)I"⟩
abbrev cX9_hoursOf : ByteArray := prog_1_method_47_code
def yX9_hoursOf : MethodName := ⟨RX9, "hoursOf", "(III)I"⟩
abbrev cX9_copy : ByteArray := prog_1_method_48_code
def yX9_copy : MethodName := ⟨RX9, "copy", "([I[I)V"⟩
abbrev cX9_voicesFor : ByteArray := prog_1_method_49_code
def yX9_voicesFor : MethodName := ⟨RX9, "voicesFor", "(I)I"⟩
abbrev cX9_voicesToCarry : ByteArray := prog_1_method_50_code
def yX9_voicesToCarry : MethodName := ⟨RX9, "voicesToCarry", "()I"⟩
abbrev cX9_carries : ByteArray := prog_1_method_51_code
def yX9_carries : MethodName := ⟨RX9, "carries", "(I)Z"⟩
abbrev cX9_leastThatCarries : ByteArray := prog_1_method_52_code
def yX9_leastThatCarries : MethodName := ⟨RX9, "leastThatCarries", "()I"⟩
abbrev cX9_leastForAll : ByteArray := prog_1_method_53_code
def yX9_leastForAll : MethodName := ⟨RX9, "leastForAll", "(I)I"⟩
abbrev cX10_init : ByteArray := prog_12_method_1_code
def yX10_init : MethodName := ⟨RX10, "<init>", "()V"⟩
abbrev cX10_in : ByteArray := prog_12_method_2_code
def yX10_in : MethodName := ⟨RX10, "in", "(III)Z"⟩
abbrev cX10_isCell : ByteArray := prog_12_method_3_code
def yX10_isCell : MethodName := ⟨RX10, "isCell", "(I)Z"⟩
abbrev cX10_isShip : ByteArray := prog_12_method_4_code
def yX10_isShip : MethodName := ⟨RX10, "isShip", "(I)Z"⟩
abbrev cX10_isHour : ByteArray := prog_12_method_5_code
def yX10_isHour : MethodName := ⟨RX10, "isHour", "(I)Z"⟩
abbrev cX10_isBook : ByteArray := prog_12_method_6_code
def yX10_isBook : MethodName := ⟨RX10, "isBook", "(I)Z"⟩
abbrev cX10_far : ByteArray := prog_12_method_7_code
def yX10_far : MethodName := ⟨RX10, "far", "(II)I"⟩
abbrev cX10_beef : ByteArray := prog_12_method_8_code
def yX10_beef : MethodName := ⟨RX10, "beef", "(I)I"⟩
abbrev cX10_water : ByteArray := prog_12_method_9_code
def yX10_water : MethodName := ⟨RX10, "water", "(I)I"⟩
abbrev cX10_will : ByteArray := prog_12_method_10_code
def yX10_will : MethodName := ⟨RX10, "will", "(I)I"⟩
abbrev cX10_hasYielded : ByteArray := prog_12_method_11_code
def yX10_hasYielded : MethodName := ⟨RX10, "hasYielded", "(I)Z"⟩
abbrev cX10_ship : ByteArray := prog_12_method_12_code
def yX10_ship : MethodName := ⟨RX10, "ship", "(IIIIII)I"⟩
abbrev cX10_set : ByteArray := prog_12_method_13_code
def yX10_set : MethodName := ⟨RX10, "set", "(II)I"⟩
abbrev cX10_paper : ByteArray := prog_12_method_14_code
def yX10_paper : MethodName := ⟨RX10, "paper", "(II)I"⟩
abbrev cX10_knowsBy : ByteArray := prog_12_method_15_code
def yX10_knowsBy : MethodName := ⟨RX10, "knowsBy", "(III)Z"⟩
abbrev cX10_boat : ByteArray := prog_12_method_16_code
def yX10_boat : MethodName := ⟨RX10, "boat", "(IIIII)I"⟩
abbrev cX10_signal : ByteArray := prog_12_method_17_code
def yX10_signal : MethodName := ⟨RX10, "signal", "(II)I"⟩
abbrev cX10_addWill : ByteArray := prog_12_method_18_code
def yX10_addWill : MethodName := ⟨RX10, "addWill", "(II)V"⟩
abbrev cX10_eats : ByteArray := prog_12_method_19_code
def yX10_eats : MethodName := ⟨RX10, "eats", "(I)I"⟩
abbrev cX10_eatAll : ByteArray := prog_12_method_20_code
def yX10_eatAll : MethodName := ⟨RX10, "eatAll", "()V"⟩
abbrev cX10_readOffer : ByteArray := prog_12_method_21_code
def yX10_readOffer : MethodName := ⟨RX10, "readOffer", "(II)V"⟩
abbrev cX10_land : ByteArray := prog_12_method_22_code
def yX10_land : MethodName := ⟨RX10, "land", "(I)V"⟩
abbrev cX10_show : ByteArray := prog_12_method_23_code
def yX10_show : MethodName := ⟨RX10, "show", "(I)V"⟩
abbrev cX10_goHour : ByteArray := prog_12_method_24_code
def yX10_goHour : MethodName := ⟨RX10, "goHour", "(I)V"⟩
abbrev cX10_hours : ByteArray := prog_12_method_25_code
def yX10_hours : MethodName := ⟨RX10, "hours", "(I)I"⟩
abbrev cX10_lasts : ByteArray := prog_12_method_26_code
def yX10_lasts : MethodName := ⟨RX10, "lasts", "(I)I"⟩
abbrev cX10_at : ByteArray := prog_12_method_27_code
def yX10_at : MethodName := ⟨RX10, "at", "(II)I"⟩
abbrev cX10_knows : ByteArray := prog_12_method_28_code
def yX10_knows : MethodName := ⟨RX10, "knows", "(II)I"⟩
abbrev cX10_saw : ByteArray := prog_12_method_29_code
def yX10_saw : MethodName := ⟨RX10, "saw", "(II)I"⟩
abbrev cX10_yieldedSet : ByteArray := prog_12_method_30_code
def yX10_yieldedSet : MethodName := ⟨RX10, "yieldedSet", "()I"⟩
abbrev cX10_keep : ByteArray := prog_12_method_31_code
def yX10_keep : MethodName := ⟨RX10, "keep", "(Z)V"⟩
abbrev cX10_would : ByteArray := prog_12_method_32_code
def yX10_would : MethodName := ⟨RX10, "would", "(III)I"⟩
abbrev cX10_write : ByteArray := prog_12_method_33_code
def yX10_write : MethodName := ⟨RX10, "write", "(JI)I"⟩
abbrev cX10_erase : ByteArray := prog_12_method_34_code
def yX10_erase : MethodName := ⟨RX10, "erase", "()I"⟩
abbrev cX10_nextToken : ByteArray := prog_12_method_35_code
def yX10_nextToken : MethodName := ⟨RX10, "nextToken", "()V"⟩
abbrev cX10_isNumber : ByteArray := prog_12_method_36_code
def yX10_isNumber : MethodName := ⟨RX10, "isNumber", "(II)Z"⟩
abbrev cX10_fails : ByteArray := prog_12_method_37_code
def yX10_fails : MethodName := ⟨RX10, "fails", "()Z"⟩
abbrev cX10_isWhom : ByteArray := prog_12_method_38_code
def yX10_isWhom : MethodName := ⟨RX10, "isWhom", "(I)Z"⟩
abbrev cX10_isCount : ByteArray := prog_12_method_39_code
def yX10_isCount : MethodName := ⟨RX10, "isCount", "(II)Z"⟩
abbrev cX10_isArticle : ByteArray := prog_12_method_40_code
def yX10_isArticle : MethodName := ⟨RX10, "isArticle", "(I)Z"⟩
abbrev cX10_isWhen : ByteArray := prog_12_method_41_code
def yX10_isWhen : MethodName := ⟨RX10, "isWhen", "(I)Z"⟩
abbrev cX10_isRead : ByteArray := prog_12_method_42_code
def yX10_isRead : MethodName := ⟨RX10, "isRead", "()Z"⟩
abbrev cX10_fault : ByteArray := prog_12_method_43_code
def yX10_fault : MethodName := ⟨RX10, "fault", "()I"⟩
abbrev cX10_articles : ByteArray := prog_12_method_44_code
def yX10_articles : MethodName := ⟨RX10, "articles", "(I)I"⟩
abbrev cX10_isInForce : ByteArray := prog_12_method_45_code
def yX10_isInForce : MethodName := ⟨RX10, "isInForce", "(IIII)Z"⟩
abbrev cX10_owedBy : ByteArray := prog_12_method_46_code
def yX10_owedBy : MethodName := ⟨RX10, "owedBy", "(III)I"⟩
abbrev cX10_owed : ByteArray := prog_12_method_47_code
def yX10_owed : MethodName := ⟨RX10, "owed", "(III)I"⟩
abbrev cX10_voicesBy : ByteArray := prog_12_method_48_code
def yX10_voicesBy : MethodName := ⟨RX10, "voicesBy", "(III)I"⟩
abbrev cX10_voices : ByteArray := prog_12_method_49_code
def yX10_voices : MethodName := ⟨RX10, "voices", "(III)I"⟩
abbrev cX10_unlike : ByteArray := prog_12_method_50_code
def yX10_unlike : MethodName := ⟨RX10, "unlike", "(II)I"⟩
abbrev cX10_fellow : ByteArray := prog_12_method_51_code
def yX10_fellow : MethodName := ⟨RX10, "fellow", "(II)I"⟩
abbrev cX10_isPardoned : ByteArray := prog_12_method_52_code
def yX10_isPardoned : MethodName := ⟨RX10, "isPardoned", "(III)Z"⟩
abbrev cX10_named : ByteArray := prog_12_method_53_code
def yX10_named : MethodName := ⟨RX10, "named", "(II)I"⟩
abbrev cX10_word : ByteArray := prog_12_method_54_code
def yX10_word : MethodName := ⟨RX10, "word", "(III)I"⟩
abbrev cX10_isFor : ByteArray := prog_12_method_55_code
def yX10_isFor : MethodName := ⟨RX10, "isFor", "(II)Z"⟩
abbrev cX10_voicesFor : ByteArray := prog_12_method_56_code
def yX10_voicesFor : MethodName := ⟨RX10, "voicesFor", "(I)I"⟩
abbrev cX10_carry : ByteArray := prog_12_method_57_code
def yX10_carry : MethodName := ⟨RX10, "carry", "()I"⟩
abbrev cX10_vote : ByteArray := prog_12_method_58_code
def yX10_vote : MethodName := ⟨RX10, "vote", "(II)I"⟩
abbrev cX10_areFor : ByteArray := prog_12_method_59_code
def yX10_areFor : MethodName := ⟨RX10, "areFor", "(II)Z"⟩
abbrev cX10_least : ByteArray := prog_12_method_60_code
def yX10_least : MethodName := ⟨RX10, "least", "(I)I"⟩
abbrev cX10_sharing : ByteArray := prog_12_method_61_code
def yX10_sharing : MethodName := ⟨RX10, "sharing", "(I)I"⟩
abbrev cX10_battery : ByteArray := prog_12_method_62_code
def yX10_battery : MethodName := ⟨RX10, "battery", "(III)I"⟩
abbrev cX10_costOf : ByteArray := prog_12_method_63_code
def yX10_costOf : MethodName := ⟨RX10, "costOf", "(I)I"⟩
abbrev cX10_mayGo : ByteArray := prog_12_method_64_code
def yX10_mayGo : MethodName := ⟨RX10, "mayGo", "(III)Z"⟩
abbrev cX10_slip : ByteArray := prog_12_method_65_code
def yX10_slip : MethodName := ⟨RX10, "slip", "(II)I"⟩
abbrev cX10_officer : ByteArray := prog_12_method_66_code
def yX10_officer : MethodName := ⟨RX10, "officer", "(II)I"⟩
abbrev cX10_list : ByteArray := prog_12_method_67_code
def yX10_list : MethodName := ⟨RX10, "list", "(IZ)I"⟩
abbrev cX10_needs : ByteArray := prog_12_method_68_code
def yX10_needs : MethodName := ⟨RX10, "needs", "(II)I"⟩
abbrev cX10_canSail : ByteArray := prog_12_method_69_code
def yX10_canSail : MethodName := ⟨RX10, "canSail", "(II)Z"⟩
abbrev cX10_sailed : ByteArray := prog_12_method_70_code
def yX10_sailed : MethodName := ⟨RX10, "sailed", "()I"⟩
abbrev cX10_bits : ByteArray := prog_12_method_71_code
def yX10_bits : MethodName := ⟨RX10, "bits", "(I)I"⟩
abbrev cX10_asked : ByteArray := prog_12_method_72_code
def yX10_asked : MethodName := ⟨RX10, "asked", "(I)I"⟩
abbrev cX10_ask : ByteArray := prog_12_method_73_code
def yX10_ask : MethodName := ⟨RX10, "ask", "(III)I"⟩
abbrev cX10_findNeeded : ByteArray := prog_12_method_74_code
def yX10_findNeeded : MethodName := ⟨RX10, "findNeeded", "(II)V"⟩
abbrev cX10_neededBy : ByteArray := prog_12_method_75_code
def yX10_neededBy : MethodName := ⟨RX10, "neededBy", "(II)I"⟩
abbrev cX10_isPlan : ByteArray := prog_12_method_76_code
def yX10_isPlan : MethodName := ⟨RX10, "isPlan", "(II)Z"⟩
abbrev cX10_reaches : ByteArray := prog_12_method_77_code
def yX10_reaches : MethodName := ⟨RX10, "reaches", "(II)I"⟩
abbrev cX10_begin : ByteArray := prog_12_method_78_code
def yX10_begin : MethodName := ⟨RX10, "begin", "(II)I"⟩
abbrev cX10_count : ByteArray := prog_12_method_79_code
def yX10_count : MethodName := ⟨RX10, "count", "(I)I"⟩
abbrev cJ6_bitCount_0f7a4 : ByteArray := prog_13_method_49_code
def yJ6_bitCount_0f7a4 : MethodName := ⟨RJ6, "bitCount", "(I)I"⟩
abbrev cL_law : ByteArray := code
def yL_law : MethodName := ⟨RL, "law", "([I)Z"⟩
abbrev cJ0_length_8abf5 : ByteArray := prog_15_method_54_code
def yJ0_length_8abf5 : MethodName := ⟨RJ0, "length", "()I"⟩
abbrev cJ0_charAt_5068e : ByteArray := prog_15_method_56_code
def yJ0_charAt_5068e : MethodName := ⟨RJ0, "charAt", "(I)C"⟩
abbrev cJ0_isLatin1_aae02 : ByteArray := prog_15_method_154_code
def yJ0_isLatin1_aae02 : MethodName := ⟨RJ0, "isLatin1", "()Z"⟩
abbrev cJ0_coder_7d493 : ByteArray := prog_15_method_152_code
def yJ0_coder_7d493 : MethodName := ⟨RJ0, "coder", "()B"⟩
abbrev cJ1_charAt_3b067 : ByteArray := prog_16_method_2_code
def yJ1_charAt_3b067 : MethodName := ⟨RJ1, "charAt", "([BI)C"⟩
abbrev cJ0_checkIndex_df160 : ByteArray := prog_15_method_155_code
def yJ0_checkIndex_df160 : MethodName := ⟨RJ0, "checkIndex", "(II)V"⟩
abbrev cJ3_checkIndex_8e157 : ByteArray := prog_19_method_11_code
def yJ3_checkIndex_8e157 : MethodName := ⟨RJ3, "checkIndex", "(IILjava/util/function/BiFunction;)I"⟩
abbrev vwCl : List vw_C := [(RX0, TX0, 7), (RX1, TX1, 6), (RX2, TX2, 6), (RX3, TX3, 3), (RX4, TX4, 16), (RX5, TX5, 6), (RX6, TX6, 1), (RX7, TX7, 9), (RX8, TX8, 2), (RX9, TX9, 11), (RX10, TX10, 49)]
