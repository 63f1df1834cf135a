section
-- ===== PART A: goes FIRST, ahead of the names: the tables' words, and 'selects' of the private methods out of them =====
/-- a private method of a class that the tables say can be made, by its rows of tables_1 -/
def lw_okq (q : MethodName × Nat) : Prop := (q.1.cls ≠ "java/lang/invoke/MethodHandle" ∧ q.1.cls ≠ "java/lang/invoke/VarHandle") ∧ Cond.instantiable q.1.cls q.2 ∈ tables_1 ∧ Cond.privateMethod q.1 ∈ tables_1 ∧ Cond.instanceMethod q.1 ∈ tables_1
theorem lw_p0 : lw_okq (⟨"SlideBonfire", "mixSlide", "(JI)J"⟩, 6) := ⟨⟨by decide +kernel, by decide +kernel⟩, List.mem_of_getElem? (i := 19) (by decide +kernel), List.mem_of_getElem? (i := 469) (by decide +kernel), List.mem_of_getElem? (i := 470) (by decide +kernel)⟩
theorem lw_p1 : lw_okq (⟨"SlideBonfire", "mixProgramme", "(J)J"⟩, 6) := ⟨⟨by decide +kernel, by decide +kernel⟩, List.mem_of_getElem? (i := 19) (by decide +kernel), List.mem_of_getElem? (i := 521) (by decide +kernel), List.mem_of_getElem? (i := 522) (by decide +kernel)⟩
theorem lw_p2 : lw_okq (⟨"SlideBonfire", "mixLoading", "(J)J"⟩, 6) := ⟨⟨by decide +kernel, by decide +kernel⟩, List.mem_of_getElem? (i := 19) (by decide +kernel), List.mem_of_getElem? (i := 525) (by decide +kernel), List.mem_of_getElem? (i := 526) (by decide +kernel)⟩
theorem lw_p3 : lw_okq (⟨"SlideBonfire", "waitOnTrial", "()I"⟩, 6) := ⟨⟨by decide +kernel, by decide +kernel⟩, List.mem_of_getElem? (i := 19) (by decide +kernel), List.mem_of_getElem? (i := 529) (by decide +kernel), List.mem_of_getElem? (i := 530) (by decide +kernel)⟩
theorem lw_p4 : lw_okq (⟨"SlideBonfire", "mixAccounts", "(J)J"⟩, 6) := ⟨⟨by decide +kernel, by decide +kernel⟩, List.mem_of_getElem? (i := 19) (by decide +kernel), List.mem_of_getElem? (i := 655) (by decide +kernel), List.mem_of_getElem? (i := 656) (by decide +kernel)⟩
theorem lw_p5 : lw_okq (⟨"SlideBonfire", "hasSnapshot", "(I)Z"⟩, 6) := ⟨⟨by decide +kernel, by decide +kernel⟩, List.mem_of_getElem? (i := 19) (by decide +kernel), List.mem_of_getElem? (i := 664) (by decide +kernel), List.mem_of_getElem? (i := 665) (by decide +kernel)⟩
theorem lw_p6 : lw_okq (⟨"java/lang/Throwable", "fillInStackTrace", "(I)Ljava/lang/Throwable;"⟩, 6) := ⟨⟨by decide +kernel, by decide +kernel⟩, List.mem_of_getElem? (i := 721) (by decide +kernel), List.mem_of_getElem? (i := 719) (by decide +kernel), List.mem_of_getElem? (i := 720) (by decide +kernel)⟩
theorem lw_p7 : lw_okq (⟨"SlideBonfire", "missesOnTrial", "(I)I"⟩, 6) := ⟨⟨by decide +kernel, by decide +kernel⟩, List.mem_of_getElem? (i := 19) (by decide +kernel), List.mem_of_getElem? (i := 1133) (by decide +kernel), List.mem_of_getElem? (i := 1134) (by decide +kernel)⟩
theorem lw_p8 : lw_okq (⟨"SlideBonfireModel", "throwing", "(I)I"⟩, 15) := ⟨⟨by decide +kernel, by decide +kernel⟩, List.mem_of_getElem? (i := 1144) (by decide +kernel), List.mem_of_getElem? (i := 1207) (by decide +kernel), List.mem_of_getElem? (i := 1208) (by decide +kernel)⟩
theorem lw_p9 : lw_okq (⟨"SlideBonfireModel", "save", "()V"⟩, 15) := ⟨⟨by decide +kernel, by decide +kernel⟩, List.mem_of_getElem? (i := 1144) (by decide +kernel), List.mem_of_getElem? (i := 1211) (by decide +kernel), List.mem_of_getElem? (i := 1212) (by decide +kernel)⟩
theorem lw_p10 : lw_okq (⟨"SlideBonfireModel", "lay", "(III)V"⟩, 15) := ⟨⟨by decide +kernel, by decide +kernel⟩, List.mem_of_getElem? (i := 1144) (by decide +kernel), List.mem_of_getElem? (i := 1215) (by decide +kernel), List.mem_of_getElem? (i := 1216) (by decide +kernel)⟩
theorem lw_p11 : lw_okq (⟨"SlideBonfireModel", "isThere", "(I)Z"⟩, 15) := ⟨⟨by decide +kernel, by decide +kernel⟩, List.mem_of_getElem? (i := 1144) (by decide +kernel), List.mem_of_getElem? (i := 1223) (by decide +kernel), List.mem_of_getElem? (i := 1224) (by decide +kernel)⟩
theorem lw_p12 : lw_okq (⟨"SlideBonfireModel", "inserts", "(II)I"⟩, 15) := ⟨⟨by decide +kernel, by decide +kernel⟩, List.mem_of_getElem? (i := 1144) (by decide +kernel), List.mem_of_getElem? (i := 1227) (by decide +kernel), List.mem_of_getElem? (i := 1228) (by decide +kernel)⟩
theorem lw_p13 : lw_okq (⟨"SlideBonfireModel", "begins", "()V"⟩, 15) := ⟨⟨by decide +kernel, by decide +kernel⟩, List.mem_of_getElem? (i := 1144) (by decide +kernel), List.mem_of_getElem? (i := 1231) (by decide +kernel), List.mem_of_getElem? (i := 1232) (by decide +kernel)⟩
theorem lw_p14 : lw_okq (⟨"SlideBonfireModel", "starts", "(I)V"⟩, 15) := ⟨⟨by decide +kernel, by decide +kernel⟩, List.mem_of_getElem? (i := 1144) (by decide +kernel), List.mem_of_getElem? (i := 1235) (by decide +kernel), List.mem_of_getElem? (i := 1236) (by decide +kernel)⟩
theorem lw_p15 : lw_okq (⟨"SlideBonfireModel", "of", "(II)I"⟩, 15) := ⟨⟨by decide +kernel, by decide +kernel⟩, List.mem_of_getElem? (i := 1144) (by decide +kernel), List.mem_of_getElem? (i := 1239) (by decide +kernel), List.mem_of_getElem? (i := 1240) (by decide +kernel)⟩
def lw_privs_1 : List (MethodName × Nat) := [(⟨"SlideBonfire", "mixSlide", "(JI)J"⟩, 6), (⟨"SlideBonfire", "mixProgramme", "(J)J"⟩, 6), (⟨"SlideBonfire", "mixLoading", "(J)J"⟩, 6), (⟨"SlideBonfire", "waitOnTrial", "()I"⟩, 6), (⟨"SlideBonfire", "mixAccounts", "(J)J"⟩, 6), (⟨"SlideBonfire", "hasSnapshot", "(I)Z"⟩, 6), (⟨"java/lang/Throwable", "fillInStackTrace", "(I)Ljava/lang/Throwable;"⟩, 6), (⟨"SlideBonfire", "missesOnTrial", "(I)I"⟩, 6), (⟨"SlideBonfireModel", "throwing", "(I)I"⟩, 15), (⟨"SlideBonfireModel", "save", "()V"⟩, 15), (⟨"SlideBonfireModel", "lay", "(III)V"⟩, 15), (⟨"SlideBonfireModel", "isThere", "(I)Z"⟩, 15), (⟨"SlideBonfireModel", "inserts", "(II)I"⟩, 15), (⟨"SlideBonfireModel", "begins", "()V"⟩, 15), (⟨"SlideBonfireModel", "starts", "(I)V"⟩, 15), (⟨"SlideBonfireModel", "of", "(II)I"⟩, 15)]
theorem lw_r1 : ∀ q ∈ lw_privs_1, lw_okq q := List.forall_mem_cons.mpr ⟨lw_p0, List.forall_mem_cons.mpr ⟨lw_p1, List.forall_mem_cons.mpr ⟨lw_p2, List.forall_mem_cons.mpr ⟨lw_p3, List.forall_mem_cons.mpr ⟨lw_p4, List.forall_mem_cons.mpr ⟨lw_p5, List.forall_mem_cons.mpr ⟨lw_p6, List.forall_mem_cons.mpr ⟨lw_p7, List.forall_mem_cons.mpr ⟨lw_p8, List.forall_mem_cons.mpr ⟨lw_p9, List.forall_mem_cons.mpr ⟨lw_p10, List.forall_mem_cons.mpr ⟨lw_p11, List.forall_mem_cons.mpr ⟨lw_p12, List.forall_mem_cons.mpr ⟨lw_p13, List.forall_mem_cons.mpr ⟨lw_p14, List.forall_mem_cons.mpr ⟨lw_p15, fun _ h => absurd h List.not_mem_nil⟩⟩⟩⟩⟩⟩⟩⟩⟩⟩⟩⟩⟩⟩⟩⟩
theorem lw_p16 : lw_okq (⟨"SlideBonfireModel", "makesRoom", "(I)I"⟩, 15) := ⟨⟨by decide +kernel, by decide +kernel⟩, List.mem_of_getElem? (i := 1144) (by decide +kernel), List.mem_of_getElem? (i := 1243) (by decide +kernel), List.mem_of_getElem? (i := 1244) (by decide +kernel)⟩
theorem lw_p17 : lw_okq (⟨"SlideBonfireModel", "taken", "()I"⟩, 15) := ⟨⟨by decide +kernel, by decide +kernel⟩, List.mem_of_getElem? (i := 1144) (by decide +kernel), List.mem_of_getElem? (i := 1247) (by decide +kernel), List.mem_of_getElem? (i := 1248) (by decide +kernel)⟩
theorem lw_p18 : lw_okq (⟨"SlideBonfireModel", "loaded", "(I)Z"⟩, 15) := ⟨⟨by decide +kernel, by decide +kernel⟩, List.mem_of_getElem? (i := 1144) (by decide +kernel), List.mem_of_getElem? (i := 1251) (by decide +kernel), List.mem_of_getElem? (i := 1252) (by decide +kernel)⟩
theorem lw_p19 : lw_okq (⟨"SlideBonfireModel", "nextToBurn", "()I"⟩, 15) := ⟨⟨by decide +kernel, by decide +kernel⟩, List.mem_of_getElem? (i := 1144) (by decide +kernel), List.mem_of_getElem? (i := 1255) (by decide +kernel), List.mem_of_getElem? (i := 1256) (by decide +kernel)⟩
theorem lw_p20 : lw_okq (⟨"SlideBonfireModel", "canBurn", "(I)Z"⟩, 15) := ⟨⟨by decide +kernel, by decide +kernel⟩, List.mem_of_getElem? (i := 1144) (by decide +kernel), List.mem_of_getElem? (i := 1259) (by decide +kernel), List.mem_of_getElem? (i := 1260) (by decide +kernel)⟩
theorem lw_p21 : lw_okq (⟨"SlideBonfireModel", "onShow", "(I)Z"⟩, 15) := ⟨⟨by decide +kernel, by decide +kernel⟩, List.mem_of_getElem? (i := 1144) (by decide +kernel), List.mem_of_getElem? (i := 1263) (by decide +kernel), List.mem_of_getElem? (i := 1264) (by decide +kernel)⟩
theorem lw_p22 : lw_okq (⟨"SlideBonfireModel", "isFirst", "(II)Z"⟩, 15) := ⟨⟨by decide +kernel, by decide +kernel⟩, List.mem_of_getElem? (i := 1144) (by decide +kernel), List.mem_of_getElem? (i := 1267) (by decide +kernel), List.mem_of_getElem? (i := 1268) (by decide +kernel)⟩
theorem lw_p23 : lw_okq (⟨"SlideBonfireModel", "nextOf", "(I)I"⟩, 15) := ⟨⟨by decide +kernel, by decide +kernel⟩, List.mem_of_getElem? (i := 1144) (by decide +kernel), List.mem_of_getElem? (i := 1271) (by decide +kernel), List.mem_of_getElem? (i := 1272) (by decide +kernel)⟩
theorem lw_p24 : lw_okq (⟨"SlideBonfireModel", "burns", "(I)I"⟩, 15) := ⟨⟨by decide +kernel, by decide +kernel⟩, List.mem_of_getElem? (i := 1144) (by decide +kernel), List.mem_of_getElem? (i := 1275) (by decide +kernel), List.mem_of_getElem? (i := 1276) (by decide +kernel)⟩
theorem lw_p25 : lw_okq (⟨"SlideBonfireModel", "due", "(I)I"⟩, 15) := ⟨⟨by decide +kernel, by decide +kernel⟩, List.mem_of_getElem? (i := 1144) (by decide +kernel), List.mem_of_getElem? (i := 1279) (by decide +kernel), List.mem_of_getElem? (i := 1280) (by decide +kernel)⟩
theorem lw_p26 : lw_okq (⟨"SlideBonfireModel", "forgets", "(I)V"⟩, 15) := ⟨⟨by decide +kernel, by decide +kernel⟩, List.mem_of_getElem? (i := 1144) (by decide +kernel), List.mem_of_getElem? (i := 1283) (by decide +kernel), List.mem_of_getElem? (i := 1284) (by decide +kernel)⟩
theorem lw_p27 : lw_okq (⟨"SlideBonfireModel", "canGoOn", "()Z"⟩, 15) := ⟨⟨by decide +kernel, by decide +kernel⟩, List.mem_of_getElem? (i := 1144) (by decide +kernel), List.mem_of_getElem? (i := 1295) (by decide +kernel), List.mem_of_getElem? (i := 1296) (by decide +kernel)⟩
theorem lw_p28 : lw_okq (⟨"SlideBonfireModel", "goesOn", "()Z"⟩, 15) := ⟨⟨by decide +kernel, by decide +kernel⟩, List.mem_of_getElem? (i := 1144) (by decide +kernel), List.mem_of_getElem? (i := 1299) (by decide +kernel), List.mem_of_getElem? (i := 1300) (by decide +kernel)⟩
theorem lw_p29 : lw_okq (⟨"SlideBonfireModel", "shows", "(I)V"⟩, 15) := ⟨⟨by decide +kernel, by decide +kernel⟩, List.mem_of_getElem? (i := 1144) (by decide +kernel), List.mem_of_getElem? (i := 1303) (by decide +kernel), List.mem_of_getElem? (i := 1304) (by decide +kernel)⟩
theorem lw_p30 : lw_okq (⟨"SlideBonfireModel", "uses", "(I)V"⟩, 15) := ⟨⟨by decide +kernel, by decide +kernel⟩, List.mem_of_getElem? (i := 1144) (by decide +kernel), List.mem_of_getElem? (i := 1307) (by decide +kernel), List.mem_of_getElem? (i := 1308) (by decide +kernel)⟩
theorem lw_p31 : lw_okq (⟨"SlideBonfireModel", "canAsk", "(I)Z"⟩, 15) := ⟨⟨by decide +kernel, by decide +kernel⟩, List.mem_of_getElem? (i := 1144) (by decide +kernel), List.mem_of_getElem? (i := 1315) (by decide +kernel), List.mem_of_getElem? (i := 1316) (by decide +kernel)⟩
def lw_privs_2 : List (MethodName × Nat) := [(⟨"SlideBonfireModel", "makesRoom", "(I)I"⟩, 15), (⟨"SlideBonfireModel", "taken", "()I"⟩, 15), (⟨"SlideBonfireModel", "loaded", "(I)Z"⟩, 15), (⟨"SlideBonfireModel", "nextToBurn", "()I"⟩, 15), (⟨"SlideBonfireModel", "canBurn", "(I)Z"⟩, 15), (⟨"SlideBonfireModel", "onShow", "(I)Z"⟩, 15), (⟨"SlideBonfireModel", "isFirst", "(II)Z"⟩, 15), (⟨"SlideBonfireModel", "nextOf", "(I)I"⟩, 15), (⟨"SlideBonfireModel", "burns", "(I)I"⟩, 15), (⟨"SlideBonfireModel", "due", "(I)I"⟩, 15), (⟨"SlideBonfireModel", "forgets", "(I)V"⟩, 15), (⟨"SlideBonfireModel", "canGoOn", "()Z"⟩, 15), (⟨"SlideBonfireModel", "goesOn", "()Z"⟩, 15), (⟨"SlideBonfireModel", "shows", "(I)V"⟩, 15), (⟨"SlideBonfireModel", "uses", "(I)V"⟩, 15), (⟨"SlideBonfireModel", "canAsk", "(I)Z"⟩, 15)]
theorem lw_r2 : ∀ q ∈ lw_privs_2, lw_okq q := List.forall_mem_cons.mpr ⟨lw_p16, List.forall_mem_cons.mpr ⟨lw_p17, List.forall_mem_cons.mpr ⟨lw_p18, List.forall_mem_cons.mpr ⟨lw_p19, List.forall_mem_cons.mpr ⟨lw_p20, List.forall_mem_cons.mpr ⟨lw_p21, List.forall_mem_cons.mpr ⟨lw_p22, List.forall_mem_cons.mpr ⟨lw_p23, List.forall_mem_cons.mpr ⟨lw_p24, List.forall_mem_cons.mpr ⟨lw_p25, List.forall_mem_cons.mpr ⟨lw_p26, List.forall_mem_cons.mpr ⟨lw_p27, List.forall_mem_cons.mpr ⟨lw_p28, List.forall_mem_cons.mpr ⟨lw_p29, List.forall_mem_cons.mpr ⟨lw_p30, List.forall_mem_cons.mpr ⟨lw_p31, fun _ h => absurd h List.not_mem_nil⟩⟩⟩⟩⟩⟩⟩⟩⟩⟩⟩⟩⟩⟩⟩⟩
theorem lw_p32 : lw_okq (⟨"SlideBonfireModel", "isAsked", "(I)Z"⟩, 15) := ⟨⟨by decide +kernel, by decide +kernel⟩, List.mem_of_getElem? (i := 1144) (by decide +kernel), List.mem_of_getElem? (i := 1319) (by decide +kernel), List.mem_of_getElem? (i := 1320) (by decide +kernel)⟩
theorem lw_p33 : lw_okq (⟨"SlideBonfireModel", "asks", "(I)I"⟩, 15) := ⟨⟨by decide +kernel, by decide +kernel⟩, List.mem_of_getElem? (i := 1144) (by decide +kernel), List.mem_of_getElem? (i := 1323) (by decide +kernel), List.mem_of_getElem? (i := 1324) (by decide +kernel)⟩
theorem lw_p34 : lw_okq (⟨"SlideBonfireModel", "passes", "(I)I"⟩, 15) := ⟨⟨by decide +kernel, by decide +kernel⟩, List.mem_of_getElem? (i := 1144) (by decide +kernel), List.mem_of_getElem? (i := 1335) (by decide +kernel), List.mem_of_getElem? (i := 1336) (by decide +kernel)⟩
theorem lw_p35 : lw_okq (⟨"SlideBonfireModel", "ticks", "()V"⟩, 15) := ⟨⟨by decide +kernel, by decide +kernel⟩, List.mem_of_getElem? (i := 1144) (by decide +kernel), List.mem_of_getElem? (i := 1339) (by decide +kernel), List.mem_of_getElem? (i := 1340) (by decide +kernel)⟩
theorem lw_p36 : lw_okq (⟨"SlideBonfireModel", "changes", "(IIII)I"⟩, 15) := ⟨⟨by decide +kernel, by decide +kernel⟩, List.mem_of_getElem? (i := 1144) (by decide +kernel), List.mem_of_getElem? (i := 1347) (by decide +kernel), List.mem_of_getElem? (i := 1348) (by decide +kernel)⟩
theorem lw_p37 : lw_okq (⟨"SlideBonfireModel", "go", "(Z)Z"⟩, 15) := ⟨⟨by decide +kernel, by decide +kernel⟩, List.mem_of_getElem? (i := 1144) (by decide +kernel), List.mem_of_getElem? (i := 1379) (by decide +kernel), List.mem_of_getElem? (i := 1380) (by decide +kernel)⟩
theorem lw_p38 : lw_okq (⟨"SlideBonfireModel", "isOrdered", "(Z)Z"⟩, 15) := ⟨⟨by decide +kernel, by decide +kernel⟩, List.mem_of_getElem? (i := 1144) (by decide +kernel), List.mem_of_getElem? (i := 1383) (by decide +kernel), List.mem_of_getElem? (i := 1384) (by decide +kernel)⟩
theorem lw_p39 : lw_okq (⟨"SlideBonfireModel", "number", "(II)I"⟩, 15) := ⟨⟨by decide +kernel, by decide +kernel⟩, List.mem_of_getElem? (i := 1144) (by decide +kernel), List.mem_of_getElem? (i := 1387) (by decide +kernel), List.mem_of_getElem? (i := 1388) (by decide +kernel)⟩
theorem lw_p40 : lw_okq (⟨"SlideBonfireModel", "sign", "(II)I"⟩, 15) := ⟨⟨by decide +kernel, by decide +kernel⟩, List.mem_of_getElem? (i := 1144) (by decide +kernel), List.mem_of_getElem? (i := 1391) (by decide +kernel), List.mem_of_getElem? (i := 1392) (by decide +kernel)⟩
theorem lw_p41 : lw_okq (⟨"SlideBonfireModel", "isFollowed", "(II)Z"⟩, 15) := ⟨⟨by decide +kernel, by decide +kernel⟩, List.mem_of_getElem? (i := 1144) (by decide +kernel), List.mem_of_getElem? (i := 1395) (by decide +kernel), List.mem_of_getElem? (i := 1396) (by decide +kernel)⟩
theorem lw_p42 : lw_okq (⟨"SlideBonfireModel", "keepsAside", "()V"⟩, 15) := ⟨⟨by decide +kernel, by decide +kernel⟩, List.mem_of_getElem? (i := 1144) (by decide +kernel), List.mem_of_getElem? (i := 1403) (by decide +kernel), List.mem_of_getElem? (i := 1404) (by decide +kernel)⟩
theorem lw_p43 : lw_okq (⟨"SlideBonfireModel", "putsBack", "()V"⟩, 15) := ⟨⟨by decide +kernel, by decide +kernel⟩, List.mem_of_getElem? (i := 1144) (by decide +kernel), List.mem_of_getElem? (i := 1407) (by decide +kernel), List.mem_of_getElem? (i := 1408) (by decide +kernel)⟩
theorem lw_p44 : lw_okq (⟨"SlideBonfireModel", "rule", "(I)I"⟩, 15) := ⟨⟨by decide +kernel, by decide +kernel⟩, List.mem_of_getElem? (i := 1144) (by decide +kernel), List.mem_of_getElem? (i := 1431) (by decide +kernel), List.mem_of_getElem? (i := 1432) (by decide +kernel)⟩
theorem lw_p45 : lw_okq (⟨"SlideBonfireModel", "inOrder", "(I)I"⟩, 15) := ⟨⟨by decide +kernel, by decide +kernel⟩, List.mem_of_getElem? (i := 1144) (by decide +kernel), List.mem_of_getElem? (i := 1471) (by decide +kernel), List.mem_of_getElem? (i := 1472) (by decide +kernel)⟩
theorem lw_p46 : lw_okq (⟨"SlideBonfireModel", "told", "(I)I"⟩, 15) := ⟨⟨by decide +kernel, by decide +kernel⟩, List.mem_of_getElem? (i := 1144) (by decide +kernel), List.mem_of_getElem? (i := 1487) (by decide +kernel), List.mem_of_getElem? (i := 1488) (by decide +kernel)⟩
theorem lw_p47 : lw_okq (⟨"SlideBonfireModel", "toldTicks", "()I"⟩, 15) := ⟨⟨by decide +kernel, by decide +kernel⟩, List.mem_of_getElem? (i := 1144) (by decide +kernel), List.mem_of_getElem? (i := 1559) (by decide +kernel), List.mem_of_getElem? (i := 1560) (by decide +kernel)⟩
def lw_privs_3 : List (MethodName × Nat) := [(⟨"SlideBonfireModel", "isAsked", "(I)Z"⟩, 15), (⟨"SlideBonfireModel", "asks", "(I)I"⟩, 15), (⟨"SlideBonfireModel", "passes", "(I)I"⟩, 15), (⟨"SlideBonfireModel", "ticks", "()V"⟩, 15), (⟨"SlideBonfireModel", "changes", "(IIII)I"⟩, 15), (⟨"SlideBonfireModel", "go", "(Z)Z"⟩, 15), (⟨"SlideBonfireModel", "isOrdered", "(Z)Z"⟩, 15), (⟨"SlideBonfireModel", "number", "(II)I"⟩, 15), (⟨"SlideBonfireModel", "sign", "(II)I"⟩, 15), (⟨"SlideBonfireModel", "isFollowed", "(II)Z"⟩, 15), (⟨"SlideBonfireModel", "keepsAside", "()V"⟩, 15), (⟨"SlideBonfireModel", "putsBack", "()V"⟩, 15), (⟨"SlideBonfireModel", "rule", "(I)I"⟩, 15), (⟨"SlideBonfireModel", "inOrder", "(I)I"⟩, 15), (⟨"SlideBonfireModel", "told", "(I)I"⟩, 15), (⟨"SlideBonfireModel", "toldTicks", "()I"⟩, 15)]
theorem lw_r3 : ∀ q ∈ lw_privs_3, lw_okq q := List.forall_mem_cons.mpr ⟨lw_p32, List.forall_mem_cons.mpr ⟨lw_p33, List.forall_mem_cons.mpr ⟨lw_p34, List.forall_mem_cons.mpr ⟨lw_p35, List.forall_mem_cons.mpr ⟨lw_p36, List.forall_mem_cons.mpr ⟨lw_p37, List.forall_mem_cons.mpr ⟨lw_p38, List.forall_mem_cons.mpr ⟨lw_p39, List.forall_mem_cons.mpr ⟨lw_p40, List.forall_mem_cons.mpr ⟨lw_p41, List.forall_mem_cons.mpr ⟨lw_p42, List.forall_mem_cons.mpr ⟨lw_p43, List.forall_mem_cons.mpr ⟨lw_p44, List.forall_mem_cons.mpr ⟨lw_p45, List.forall_mem_cons.mpr ⟨lw_p46, List.forall_mem_cons.mpr ⟨lw_p47, fun _ h => absurd h List.not_mem_nil⟩⟩⟩⟩⟩⟩⟩⟩⟩⟩⟩⟩⟩⟩⟩⟩
theorem lw_p48 : lw_okq (⟨"SlideBonfireModel", "untilShown", "()I"⟩, 15) := ⟨⟨by decide +kernel, by decide +kernel⟩, List.mem_of_getElem? (i := 1144) (by decide +kernel), List.mem_of_getElem? (i := 1563) (by decide +kernel), List.mem_of_getElem? (i := 1564) (by decide +kernel)⟩
theorem lw_p49 : lw_okq (⟨"SlideBonfireModel", "burningsOf", "(I)I"⟩, 15) := ⟨⟨by decide +kernel, by decide +kernel⟩, List.mem_of_getElem? (i := 1144) (by decide +kernel), List.mem_of_getElem? (i := 1575) (by decide +kernel), List.mem_of_getElem? (i := 1576) (by decide +kernel)⟩
theorem lw_p50 : lw_okq (⟨"SlideBonfireModel", "missing", "(I)I"⟩, 15) := ⟨⟨by decide +kernel, by decide +kernel⟩, List.mem_of_getElem? (i := 1144) (by decide +kernel), List.mem_of_getElem? (i := 1583) (by decide +kernel), List.mem_of_getElem? (i := 1584) (by decide +kernel)⟩
theorem lw_p51 : lw_okq (⟨"SlideBonfireModel", "share", "()D"⟩, 15) := ⟨⟨by decide +kernel, by decide +kernel⟩, List.mem_of_getElem? (i := 1144) (by decide +kernel), List.mem_of_getElem? (i := 1623) (by decide +kernel), List.mem_of_getElem? (i := 1624) (by decide +kernel)⟩
theorem lw_p52 : lw_okq (⟨"SlideBonfireModel", "mix", "(J)V"⟩, 15) := ⟨⟨by decide +kernel, by decide +kernel⟩, List.mem_of_getElem? (i := 1144) (by decide +kernel), List.mem_of_getElem? (i := 1632) (by decide +kernel), List.mem_of_getElem? (i := 1633) (by decide +kernel)⟩
theorem lw_p53 : lw_okq (⟨"SlideBonfireModel", "mixesSlide", "(I)V"⟩, 15) := ⟨⟨by decide +kernel, by decide +kernel⟩, List.mem_of_getElem? (i := 1144) (by decide +kernel), List.mem_of_getElem? (i := 1637) (by decide +kernel), List.mem_of_getElem? (i := 1638) (by decide +kernel)⟩
def lw_privs_4 : List (MethodName × Nat) := [(⟨"SlideBonfireModel", "untilShown", "()I"⟩, 15), (⟨"SlideBonfireModel", "burningsOf", "(I)I"⟩, 15), (⟨"SlideBonfireModel", "missing", "(I)I"⟩, 15), (⟨"SlideBonfireModel", "share", "()D"⟩, 15), (⟨"SlideBonfireModel", "mix", "(J)V"⟩, 15), (⟨"SlideBonfireModel", "mixesSlide", "(I)V"⟩, 15)]
theorem lw_r4 : ∀ q ∈ lw_privs_4, lw_okq q := List.forall_mem_cons.mpr ⟨lw_p48, List.forall_mem_cons.mpr ⟨lw_p49, List.forall_mem_cons.mpr ⟨lw_p50, List.forall_mem_cons.mpr ⟨lw_p51, List.forall_mem_cons.mpr ⟨lw_p52, List.forall_mem_cons.mpr ⟨lw_p53, fun _ h => absurd h List.not_mem_nil⟩⟩⟩⟩⟩⟩
def lw_privs : List (MethodName × Nat) := lw_privs_1 ++ (lw_privs_2 ++ (lw_privs_3 ++ (lw_privs_4)))
def lw_tbl : List Cond := k2_sels lw_privs ++ tables_1
theorem lw_privs_ok : ∀ q ∈ lw_privs, lw_okq q := by
  show ∀ q ∈ lw_privs_1 ++ (lw_privs_2 ++ (lw_privs_3 ++ (lw_privs_4))), lw_okq q
  exact List.forall_mem_append.mpr ⟨lw_r1, List.forall_mem_append.mpr ⟨lw_r2, List.forall_mem_append.mpr ⟨lw_r3, lw_r4⟩⟩⟩
/-- the streams that the claim lets the run draw from -/
abbrev lw_cs : List Choice := [Jvm.Choice.named "NaN.bits"]
theorem lw_bits : nanBits ∈ lw_cs := by first | decide | exact List.mem_cons_self | simp [lw_cs, nanBits]
-- ===== end of PART A; then your names; then what follows =====
end
section
/-! ===== BEGIN words of one list among another's, by their places ===== -/
theorem goodIn_r {big : List Cond} (ws : List Cond) (ps : List Nat) (hp : ws = ps.filterMap (fun i => big[i]?)) (h : ws.all goodWord = true) : GoodIn big ws := by
  intro w hw
  have h1 := List.all_eq_true.mp h w hw
  rw [hp] at hw
  obtain ⟨i, -, hi⟩ := List.mem_filterMap.mp hw
  have hm : w ∈ big := by first | exact List.mem_of_getElem? hi | exact List.getElem?_mem hi
  exact ⟨hm, good_of_word h1⟩
theorem goodIn_app {big a b : List Cond} (ha : GoodIn big a) (hb : GoodIn big b) : GoodIn big (a ++ b) := fun w h => (List.mem_append.mp h).elim (ha w) (hb w)
theorem goodIn_ca {big a b : List Cond} {c : Cond} (ha : GoodIn big (c :: a)) (hb : GoodIn big b) : GoodIn big (c :: (a ++ b)) := fun w h => (List.mem_cons.mp h).elim (fun e => ha w (List.mem_cons.mpr (Or.inl e))) (fun h => (List.mem_append.mp h).elim (fun h => ha w (List.mem_cons.mpr (Or.inr h))) (hb w))
theorem goodIn_sub {big ws : List Cond} (hm : ∀ w ∈ ws, w ∈ big) (h : ws.all goodWord = true) : GoodIn big ws := fun w hw => ⟨hm w hw, good_of_word (List.all_eq_true.mp h w hw)⟩
/-! ===== END ===== -/

/-! ===== BEGIN exceptions that leave a method, and their catching by the caller (launches without stack traces) ===== -/
section VXA
/-! The laws vx_back, vx_callV, vx_callS, vx_callSW, vx_throw0, vx_throwS follow proofs of the library, with one case more: JvmDerived/Free/Laws.lean (Back.of_free), Shelf42/LK1.lean (callV, callS), Shelf/KitTraced.lean (throwNew0V, throwNewS). -/
/-- where a method has thrown q: the class by its name, the cell, what was written, the world -/
def vx_T (XC : String → State → State → Prop) (st : State) (q : Addr) (t : State) (mc ms : Nat) (free : Addr → Prop) : Prop :=
  ∃ (E : String) (ce : Cell) (L : List Loc), XC E st t ∧ t.heap[q]? = some ce ∧ ce.vm = .none ∧ st.vm.findClass E = some ce.cls ∧ st.WarmedH t.vm ∧ st.sameButNew ({ t with vm := st.vm } : State) L mc ms ∧ ∀ z ∈ L, free z.base
def vx_Q (Qc : Array Value → State → Outcome → State → Prop) (XC : String → State → State → Prop) (mc ms : Nat) (free : Addr → Prop) : Array Value → State → Outcome → State → Prop := fun a st o t =>
  (Qc a st o t ∧ ∃ L, FrameEnd st o t L mc ms ∧ ∀ q ∈ L, free q.base) ∨ ∃ q, o = .threw q ∧ vx_T XC st q t mc ms free
/-- a callee that returns or throws -/
def vx_Met (l : Launch) (y : MethodName) (ws : List Cond) (rm : Room) (Pc : Array Value → State → Prop) (Qc : Array Value → State → Outcome → State → Prop) (XC : String → State → State → Prop) (mc ms : Nat) (free : Addr → Prop) : Prop :=
  MetFree l y (headSpec ws rm) Pc (fun _ _ _ _ _ => True) (vx_Q Qc XC mc ms free)
def vx_Post (XC : String → State → State → Prop) (mc ms : Nat) (free : Addr → Prop) : Pt → Array Value → Addr → Pt → Prop := fun A a q B =>
  ∃ (g : JFrame) (mk : MethodId) (t : State) (L : List Loc) (E : String) (ce : Cell), B.U.heap = t.heap ∧ B.U.vm = t.vm ∧ XC E (A.U.calling g mk a) t ∧ t.heap[q]? = some ce ∧ ce.vm = .none ∧ A.U.vm.findClass E = some ce.cls ∧ B.locs = A.locs ++ L ∧ (∀ z ∈ L, free z.base) ∧ B.cells = A.cells + mc ∧ B.slots = A.slots + ms
def vx_Back (l : Launch) (R : Room) (p : Program) (e : Env) (below : List Frame) (s : State) (sargs : Array Value) (y : MethodName) (len W9 : Nat)
    (Pre : Pt → Array Value → Prop) (Post : Pt → Array Value → Option Value → Pt → Prop) (PostX : Pt → Array Value → Addr → Pt → Prop) : Prop :=
  ∀ (m : MethodId) (meth : Method) (c : Code) (A : Pt) (g : JFrame) (ig : Instr) (mk : MethodId) (a : Array Value),
    Stand p l e R s m sargs below meth c A.U A.locs A.cells A.slots → g.method = m → g.locals.size = c.maxLocals → decode c.code g.pc = .ok (ig, len) →
    2 * g.monitorRoom + (g.stack.map fun v => v.category).sum ≤ W9 → A.U.methodNamed? y = some mk → Pre A a →
    (∃ (v : Option Value) (B : Pt), Stand p l e R s m sargs below meth c B.U B.locs B.cells B.slots ∧ Post A a v B ∧
      Steps p.tables e below (doInvoke e (A.U.setTop g) [] mk a).1 (B.U.setTop { g with pc := g.pc + len, stack := v.toList ++ g.stack })) ∨
    (∃ (q : Addr) (B : Pt), Stand p l e R s m sargs below meth c B.U B.locs B.cells B.slots ∧ PostX A a q B ∧
      Steps p.tables e below (doInvoke e (A.U.setTop g) [] mk a).1 ((B.U.setTop g).pushFrame (.throwing q)))
section Payer
variable {l : Launch} {R : Room} {p : Program} {e : Env} {below : List Frame} {s : State} {sargs : Array Value} {y : MethodName} {len W9 : Nat}
theorem vx_back {ws : List Cond} {rm : Room} {Pc : Array Value → State → Prop} {Qc : Array Value → State → Outcome → State → Prop} {XC : String → State → State → Prop} {mc ms : Nat} {free : Addr → Prop} {bytes : ByteArray} {maxL : Nat} {ret : Option FieldType}
    (hM : vx_Met l y ws rm Pc Qc XC mc ms free) (hblind : FrameBlind Pc) (hrc : rm.cells = mc) (hrs : rm.slots = ms)
    (hframes : rm.frames + 1 ≤ R.frames) (hlocals : W9 + (maxL + 11) + rm.locals ≤ R.locals)
    (hws : ∀ w ∈ ws, ∀ a' U, s.WarmedH U.vm → w.before a' U = true) (hcode : Cond.code y bytes maxL ret ∈ ws) (hinit : ∀ a' U, s.WarmedH U.vm → (Cond.initialized y.cls).before a' U = true) :
    vx_Back l R p e below s sargs y len W9 (PreOf R mc ms Pc) (PostOf Qc mc ms free) (vx_Post XC mc ms free) := by
  intro m meth c A g ig mk a X hg hsize hdg hW hn hp
  have h1 : (headSpec ws rm).pre.before a A.U = true := atoms_intro fun w hw => hws w hw _ _ X.warmed
  have h2 : (Cond.code y bytes maxL ret).before a A.U = true := hws _ hcode _ _ X.warmed
  have h3 : (Cond.initialized y.cls).before a A.U = true := hinit _ _ X.warmed
  have h4 : A.cells + (headSpec ws rm).room.cells ≤ R.cells := by rw [show (headSpec ws rm).room.cells = mc from hrc]; exact hp.1
  have h5 : A.slots + (headSpec ws rm).room.slots ≤ R.slots := by rw [show (headSpec ws rm).room.slots = ms from hrs]; exact hp.2.1
  have hPc : Pc a (A.U.calling g mk a) := hblind _ _ _ _ hp.2.2
  obtain ⟨U, Ls, c0, s0⟩ := A
  dsimp only [Pt.U, Pt.locs, Pt.cells, Pt.slots] at h1 h2 h3 h4 h5 X hn hPc ⊢
  obtain ⟨methY, cY, hmY, hcY, -, hlY, -, -, -, -⟩ := Cond.code_spec hn h2
  obtain ⟨kY, hkY, -⟩ := className_of_methodNamed hn
  have hinitY : kY.init = .initialized := Cond.initialized_spec (findClass_of_methodNamed hn) hkY h3
  have h : At U g.method c below := by rw [hg]; exact X.here
  have hlocals9 : W9 + (maxL + 11) + (headSpec ws rm).room.locals ≤ R.locals := hlocals
  have happ : (headSpec ws rm).appliesLoose y e.platform (U.calling g mk a) = true :=
    Spec.appliesLoose_calling (g := g) h hdg hn hkY hinitY
      (X.room_calling (g := g) (R' := (headSpec ws rm).room) hsize hmY hcY hframes (by rw [hlY]; omega) h4 h5) h1
  obtain ⟨mid, hmid⟩ := h.above
  have hfr : (U.setTop g).frames = (.java g :: mid) ++ below := by rw [State.frames_setTop' g h.top, hmid]; rfl
  obtain ⟨o, s₂, hsteps, -, hend, hq⟩ := Steps.callFree hM p X.admits X.cas X.clock (acts := []) hfr happ hPc trivial
  have hq' : vx_Q Qc XC mc ms free a (U.calling g mk a) o s₂ := hq
  rw [State.frames_setTop' g h.top] at hend
  obtain ⟨g₀, hg0⟩ := Option.isSome_iff_exists.mp h.top
  obtain ⟨r, hr⟩ := State.topJava?_eq_some.mp hg0
  have hr' : (({ U with heap := s₂.heap, slotsUsed := s₂.slotsUsed } : State).setVm s₂.vm).frames = .java g₀ :: r := hr
  rcases hq' with ⟨hqc, L, hfe, hL⟩ | ⟨q, rfl, E, ce, L, hx, hce, hcv, hcl, hW₂, hsm, hL⟩
  · obtain ⟨⟨v, rfl⟩, hW₂, e2, q2, q3, q4, q5, q6⟩ := id hfe
    have e3 : s₂ = ({ (U.calling g mk a).setFrames s₂.frames with heap := s₂.heap, slotsUsed := s₂.slotsUsed } : State).setVm s₂.vm := by
      have : s₂ = ({ s₂ with vm := (U.calling g mk a).vm } : State).setVm s₂.vm := rfl
      rw [e2] at this
      exact this
    obtain ⟨c₂, i₂, len₂, hc₂, hd₂, hf₂⟩ := hend
    have hW' : U.WarmedH s₂.vm := hW₂
    have hcc : c₂ = c := by
      have h1 : s₂.code? g.method = U.code? g.method := by
        rw [State.code?_eq, State.code?_eq, hW'.alike.method?]
      exact Option.some.inj (hc₂.symm.trans (h1.trans h.code))
    subst hcc
    have hlen : len₂ = len := by rw [hdg] at hd₂; cases hd₂; rfl
    subst hlen
    have hs₂ : s₂ = (({ U with heap := s₂.heap, slotsUsed := s₂.slotsUsed } : State).setVm s₂.vm).setTop { g with pc := g.pc + len₂, stack := v.toList ++ g.stack } := by
      refine e3.trans ?_
      rw [hf₂, State.calling_eq h.top, State.setFrames_setFrames, State.setTop_of_frames _ hr', hr]
      rfl
    have hsame : U.sameButNew ({ U with heap := s₂.heap, slotsUsed := s₂.slotsUsed } : State) L mc ms := by
      refine ⟨?_, q2, q3, q4, q5, q6⟩
      obtain ⟨t, ht, -⟩ := State.frames_cons hr
      show ({ U with heap := s₂.heap, slotsUsed := s₂.slotsUsed } : State) = { U.setFrames U.frames with heap := s₂.heap, slotsUsed := s₂.slotsUsed }
      rw [State.setFrames_self ht]
    subst hg
    refine Or.inl ⟨v, ⟨(({ U with heap := s₂.heap, slotsUsed := s₂.slotsUsed } : State).setVm s₂.vm), Ls ++ L, c0 + mc, s0 + ms⟩,
      ⟨X.admits, X.cas, X.clock, X.frames, X.room, X.hears, X.method, X.code, (X.here.setHeapUsed s₂.heap s₂.slotsUsed).setVm hW'.alike, X.tail, State.WarmedH.trans X.warmed hW', X.limits, X.bytes, X.same.trans (hsame.setVm s.vm)⟩,
      ⟨g, mk, s₂, L, rfl, rfl, hqc, rfl, hL, rfl, rfl⟩, ?_⟩
    show Steps p.tables e below _ ((({ U with heap := s₂.heap, slotsUsed := s₂.slotsUsed } : State).setVm s₂.vm).setTop { g with pc := g.pc + len₂, stack := v.toList ++ g.stack })
    rw [← hs₂]
    exact hsteps
  · obtain ⟨e2, q2, q3, q4, q5, q6⟩ := id hsm
    have e3 : s₂ = ({ (U.calling g mk a).setFrames s₂.frames with heap := s₂.heap, slotsUsed := s₂.slotsUsed } : State).setVm s₂.vm := by
      have : s₂ = ({ s₂ with vm := (U.calling g mk a).vm } : State).setVm s₂.vm := rfl
      rw [e2] at this
      exact this
    have hf₂ : s₂.frames = .throwing q :: .java g :: U.frames.tail := hend
    have hW' : U.WarmedH s₂.vm := hW₂
    have hs₂ : s₂ = ((({ U with heap := s₂.heap, slotsUsed := s₂.slotsUsed } : State).setVm s₂.vm).setTop g).pushFrame (.throwing q) := by
      refine e3.trans ?_
      rw [hf₂, State.calling_eq h.top, State.setFrames_setFrames, State.pushFrame, State.frames_setTop _ hr', State.setTop_of_frames _ hr', State.setFrames_setFrames, hr]
      rfl
    have hsame : U.sameButNew ({ U with heap := s₂.heap, slotsUsed := s₂.slotsUsed } : State) L mc ms := by
      refine ⟨?_, q2, q3, q4, q5, q6⟩
      obtain ⟨t, ht, -⟩ := State.frames_cons hr
      show ({ U with heap := s₂.heap, slotsUsed := s₂.slotsUsed } : State) = { U.setFrames U.frames with heap := s₂.heap, slotsUsed := s₂.slotsUsed }
      rw [State.setFrames_self ht]
    subst hg
    refine Or.inr ⟨q, ⟨(({ U with heap := s₂.heap, slotsUsed := s₂.slotsUsed } : State).setVm s₂.vm), Ls ++ L, c0 + mc, s0 + ms⟩,
      ⟨X.admits, X.cas, X.clock, X.frames, X.room, X.hears, X.method, X.code, (X.here.setHeapUsed s₂.heap s₂.slotsUsed).setVm hW'.alike, X.tail, State.WarmedH.trans X.warmed hW', X.limits, X.bytes, X.same.trans (hsame.setVm s.vm)⟩,
      ⟨g, mk, s₂, L, E, ce, rfl, rfl, hx, hce, hcv, hcl, rfl, hL, rfl, rfl⟩, ?_⟩
    show Steps p.tables e below _ (((({ U with heap := s₂.heap, slotsUsed := s₂.slotsUsed } : State).setVm s₂.vm).setTop g).pushFrame (.throwing q))
    rw [← hs₂]
    exact hsteps
end Payer
section Calls
variable {p : Program} {l : Launch} {e : Env} {R : Room} {s : State} {m : MethodId} {args : Array Value} {below : List Frame} {meth : Method} {c : Code} {T : State} {locs : List Loc} {cells slots : Nat}
theorem vx_callV (X : Stand p l e R s m args below meth c T locs cells slots) (hexec : p.tables.exec = Jvm.exec) {own C : String} {index : Nat} {y : MethodName} {bytes : ByteArray} {maxL : Nat} {ret : Option FieldType}
    (hown : s.vm.findClass own = some m.cls) (hlink : (Cond.methodLink own index y).before args s = true) (hinst : (Cond.instanceMethod y).before args s = true) (hsel : (Cond.selects C y y).before args s = true)
    (hcode : (Cond.code y bytes maxL ret).before args s = true) (hy : y.cls ≠ "java/lang/invoke/MethodHandle" ∧ y.cls ≠ "java/lang/invoke/VarHandle")
    {W9 : Nat} {Pre : Pt → Array Value → Prop} {Post : Pt → Array Value → Option Value → Pt → Prop} {PostX : Pt → Array Value → Addr → Pt → Prop} (hK : vx_Back l R p e below s args y 3 W9 Pre Post PostX)
    {b : Addr} {cellB : Cell} (hcell : T.heap[b]? = some cellB) (hobj : cellB.vm.isStatics = false) (hcls : s.vm.findClass C = some cellB.cls)
    {g : JFrame} (hg : g.method = m) (hsize : g.locals.size = c.maxLocals) {argsL rest : List Value} (hlen : ∀ sig, parseMethodDescriptor y.desc = some sig → argsL.length = sig.parameters.length)
    (hstack : g.stack = argsL.reverse ++ .ref b :: rest) (hW : 2 * g.monitorRoom + (rest.map fun v => v.category).sum ≤ W9) (hdg : decode c.code g.pc = .ok (.invokevirtual index, 3))
    (hpre : ∀ vm₁, s.WarmedH vm₁ → Pre ⟨T.setVm vm₁, locs, cells, slots⟩ (Value.ref b :: argsL).toArray) :
    (∃ (v : Option Value) (vm₁ : Vm) (B : Pt), s.WarmedH vm₁ ∧ Stand p l e R s m args below meth c B.U B.locs B.cells B.slots ∧ Post ⟨T.setVm vm₁, locs, cells, slots⟩ (Value.ref b :: argsL).toArray v B ∧
      ∀ target, Steps p.tables e below (B.U.setTop { g with pc := g.pc + 3, stack := v.toList ++ rest }) target → Steps p.tables e below (T.setTop g) target) ∨
    (∃ (q : Addr) (vm₁ : Vm) (B : Pt), s.WarmedH vm₁ ∧ Stand p l e R s m args below meth c B.U B.locs B.cells B.slots ∧ PostX ⟨T.setVm vm₁, locs, cells, slots⟩ (Value.ref b :: argsL).toArray q B ∧
      Steps p.tables e below (T.setTop g) ((B.U.setTop { g with stack := rest }).pushFrame (.throwing q))) := by
  obtain ⟨mk, methM, hnamed, hmethM, hstM, habM⟩ := Cond.instanceMethod_spec hinst
  obtain ⟨methM', cM, hmethM', -, -, -, -, -, -, hsigM⟩ := Cond.code_spec hnamed hcode
  cases hmethM.symm.trans hmethM'
  obtain ⟨c2, r2, m2, q1, q2, q3, q4, kP, hkP, hkPi⟩ := Cond.selects_spec hsel
  cases hcls.symm.trans q1
  cases (State.methodFound?_of_named hnamed hy).symm.trans q2
  cases hnamed.symm.trans q3
  have hselP : selectMethod e.platform s.vm cellB.cls mk = .method mk := by rw [Launch.admits_selectMethod X.admits]; exact q4
  obtain ⟨vm₁, X₁, hstep₁⟩ := X.invokevirtual hexec hown hlink hnamed hmethM hstM hkP hkPi hy (a := b) (cell := cellB) hcell
    (fun z h => by rw [h] at hobj; cases hobj) hselP hmethM habM hkP hkPi (g := g) hg (argsL := argsL) (rest := rest) (hlen _ hsigM) hstack hdg
  rcases hK m meth c ⟨T.setVm vm₁, locs, cells, slots⟩ { g with stack := rest } (.invokevirtual index) mk (Value.ref b :: argsL).toArray X₁ hg hsize hdg hW (X₁.named hnamed) (hpre vm₁ X₁.warmed) with ⟨v, B, X', hpost, hsteps⟩ | ⟨q, B, X', hpost, hsteps⟩
  · exact Or.inl ⟨v, vm₁, B, X₁.warmed, X', hpost, fun target h => hstep₁ _ fun acts => by rw [doInvoke_state]; exact hsteps.trans h⟩
  · exact Or.inr ⟨q, vm₁, B, X₁.warmed, X', hpost, hstep₁ _ fun acts => by rw [doInvoke_state]; exact hsteps⟩
theorem vx_callS (X : Stand p l e R s m args below meth c T locs cells slots) (hexec : p.tables.exec = Jvm.exec) {own : String} {index : Nat} {y : MethodName} {bytes : ByteArray} {maxL : Nat} {ret : Option FieldType}
    (hown : s.vm.findClass own = some m.cls) (hlink : (Cond.methodLink own index y).before args s = true) (hstat : (Cond.static y).before args s = true) (hinit : (Cond.initialized y.cls).before args s = true)
    (hcode : (Cond.code y bytes maxL ret).before args s = true) (hy : y.cls ≠ "java/lang/invoke/MethodHandle" ∧ y.cls ≠ "java/lang/invoke/VarHandle")
    {W9 : Nat} {Pre : Pt → Array Value → Prop} {Post : Pt → Array Value → Option Value → Pt → Prop} {PostX : Pt → Array Value → Addr → Pt → Prop} (hK : vx_Back l R p e below s args y 3 W9 Pre Post PostX)
    {g : JFrame} (hg : g.method = m) (hsize : g.locals.size = c.maxLocals) {argsL rest : List Value} (hlen : ∀ sig, parseMethodDescriptor y.desc = some sig → argsL.length = sig.parameters.length)
    (hstack : g.stack = argsL.reverse ++ rest) (hW : 2 * g.monitorRoom + (rest.map fun v => v.category).sum ≤ W9) (hdg : decode c.code g.pc = .ok (.invokestatic index, 3))
    (hpre : ∀ vm₁, s.WarmedH vm₁ → Pre ⟨T.setVm vm₁, locs, cells, slots⟩ argsL.toArray) :
    (∃ (v : Option Value) (vm₁ : Vm) (B : Pt), s.WarmedH vm₁ ∧ Stand p l e R s m args below meth c B.U B.locs B.cells B.slots ∧ Post ⟨T.setVm vm₁, locs, cells, slots⟩ argsL.toArray v B ∧
      ∀ target, Steps p.tables e below (B.U.setTop { g with pc := g.pc + 3, stack := v.toList ++ rest }) target → Steps p.tables e below (T.setTop g) target) ∨
    (∃ (q : Addr) (vm₁ : Vm) (B : Pt), s.WarmedH vm₁ ∧ Stand p l e R s m args below meth c B.U B.locs B.cells B.slots ∧ PostX ⟨T.setVm vm₁, locs, cells, slots⟩ argsL.toArray q B ∧
      Steps p.tables e below (T.setTop g) ((B.U.setTop { g with stack := rest }).pushFrame (.throwing q))) := by
  obtain ⟨mk, hnamed⟩ := Cond.code_named hcode
  obtain ⟨methM, cM, hmethM, -, -, -, -, -, -, hsigM⟩ := Cond.code_spec hnamed hcode
  have hstatic : methM.isStatic = true := Cond.static_spec hnamed hmethM hstat
  obtain ⟨kP, hkP, -⟩ := className_of_methodNamed hnamed
  have hinitP : kP.init = .initialized := Cond.initialized_spec (findClass_of_methodNamed hnamed) hkP hinit
  obtain ⟨vm₁, X₁, hstep₁⟩ := X.invokestatic hexec hown hlink hnamed hmethM hstatic hkP hinitP hy (g := g) hg (argsL := argsL) (rest := rest) (hlen _ hsigM) hstack hdg
  rcases hK m meth c ⟨T.setVm vm₁, locs, cells, slots⟩ { g with stack := rest } (.invokestatic index) mk argsL.toArray X₁ hg hsize hdg hW (X₁.named hnamed) (hpre vm₁ X₁.warmed) with ⟨v, B, X', hpost, hsteps⟩ | ⟨q, B, X', hpost, hsteps⟩
  · exact Or.inl ⟨v, vm₁, B, X₁.warmed, X', hpost, fun target h => hstep₁ _ fun acts => by rw [doInvoke_state]; exact hsteps.trans h⟩
  · exact Or.inr ⟨q, vm₁, B, X₁.warmed, X', hpost, hstep₁ _ fun acts => by rw [doInvoke_state]; exact hsteps⟩
end Calls
theorem vx_cls {s : State} {T : State} {vm₁ : Vm} {E : String} {k : ClassId} (hW : s.WarmedH vm₁) (h : (T.setVm vm₁).vm.findClass E = some k) : s.vm.findClass E = some k := by
  have h1 : vm₁.findClass E = some k := h
  rw [hW.alike.findClass] at h1
  exact h1
/-- the method's frame g, with q thrown over it -/
def vx_W (p : Program) (l : Launch) (e : Env) (R : Room) (s : State) (m : MethodId) (args : Array Value) (below : List Frame) (meth : Method) (c : Code) (H : Heap) (locs : List Loc) (cells slots : Nat) (Q : State → Prop) (g : JFrame) (q : Addr) : Prop :=
  ∀ T : State, T.heap = H → Stand p l e R s m args below meth c T locs cells slots → ∃ t, Steps p.tables e below ((T.setTop g).pushFrame (.throwing q)) t ∧ Q t
def vx_Run (p : Program) (l : Launch) (e : Env) (R : Room) (s : State) (m : MethodId) (args : Array Value) (below : List Frame) (meth : Method) (c : Code) (H : Heap) (locs : List Loc) (cells slots mc ms : Nat) (g : JFrame) (rest : List Value) (Qa : State → Outcome → State → Prop) (XC : String → State → State → Prop) (free : Addr → Prop) : Prop :=
  ∀ T : State, T.heap = H → Stand p l e R s m args below meth c T locs cells slots →
    (∃ (v : Option Value) (st₀ t T' : State) (L : List Loc), st₀.heap = H ∧ Stand p l e R s m args below meth c T' (locs ++ L) (cells + mc) (slots + ms) ∧ (∀ q ∈ L, free q.base) ∧ T'.heap = t.heap ∧ T'.vm = t.vm ∧ Qa st₀ (.returned v) t ∧
      Goes p e below T g T' { g with pc := g.pc + 3, stack := v.toList ++ rest }) ∨
    (∃ (q : Addr) (st₀ t T' : State) (L : List Loc) (E : String) (ce : Cell), st₀.heap = H ∧ Stand p l e R s m args below meth c T' (locs ++ L) (cells + mc) (slots + ms) ∧ (∀ z ∈ L, free z.base) ∧ T'.heap = t.heap ∧ T'.vm = t.vm ∧ XC E st₀ t ∧ t.heap[q]? = some ce ∧ ce.vm = .none ∧ s.vm.findClass E = some ce.cls ∧
      Steps p.tables e below (T.setTop g) ((T'.setTop { g with stack := rest }).pushFrame (.throwing q)))
def vx_X {S : Type} (px : S → Prop) (B : String → S → State → Prop) (A : Nat → Prop) : String → State → State → Prop := fun E st t => ∃ u : S, px u ∧ B E u t ∧ va_F A st t
section Runs
variable {p : Program} {l : Launch} {e : Env} {R : Room} {s : State} {m : MethodId} {args : Array Value} {below : List Frame} {meth : Method} {c : Code} {H : Heap} {locs : List Loc} {cells slots : Nat}
variable {y : MethodName} {bytes cc : ByteArray} {maxL nL mc ms n index : Nat} {ret : Option FieldType} {ws : List Cond} {rm : Room} {Pc : Array Value → State → Prop} {Qc : Array Value → State → Outcome → State → Prop} {XC : String → State → State → Prop} {free : Addr → Prop} {Ts : List Cond} {own C : String} {b : Addr} {As rest : List Value} {g : JFrame}
theorem vx_callBack (cb : CallB R s args own index y bytes maxL ret ws rm mc ms n) (hM : vx_Met l y ws rm Pc Qc XC mc ms free) (hbl : FrameBlind Pc) : vx_Back l R p e below s args y 3 8 (PreOf R mc ms Pc) (PostOf Qc mc ms free) (vx_Post XC mc ms free) := by
  obtain ⟨hrc, hrs, hfr, hlo, hws, hcw, -, hini, -⟩ := cb
  exact vx_back (bytes := bytes) (maxL := maxL) (ret := ret) hM hbl hrc hrs hfr hlo hws hcw (fun a' U hW => word_at hW (Or.inl (by first | rfl | simp [Cond.onTables, Cond.keeps, Cond.steady])) hini)
theorem vx_runV (S : CallFix p m c cc nL s args Ts own) (hM : vx_Met l y ws rm Pc Qc XC mc ms free) (cw : CallW R s args own C index y bytes maxL ret ws rm mc ms n) (hp : PreV s H C b Pc As)
    (hg : g.method = m) (hn : As.length = n) (hsize : g.locals.size = nL) (hstack : g.stack = As.reverse ++ .ref b :: rest) (hW : 2 * g.monitorRoom + (rest.map fun v => v.category).sum ≤ 8) (hdg : decode cc g.pc = .ok (.invokevirtual index, 3)) (hf : cells + mc ≤ R.cells ∧ slots + ms ≤ R.slots) :
    vx_Run p l e R s m args below meth c H locs cells slots mc ms g rest (Qc (Value.ref b :: As).toArray) XC free := by
  have hK : vx_Back l R p e below s args y 3 8 (PreOf R mc ms Pc) (PostOf Qc mc ms free) (vx_Post XC mc ms free) := vx_callBack cw.1 hM hp.1
  obtain ⟨⟨-, -, -, -, -, -, hcode, -, hy, hlen, hl⟩, hin, hse⟩ := cw
  obtain ⟨hx, hb, hml, ho, -⟩ := S
  obtain ⟨-, ⟨cellB, hcB, hoB, hclB⟩, hPc⟩ := hp
  intro T hT X
  rcases vx_callV X hx (C := C) (bytes := bytes) (maxL := maxL) (ret := ret) ho hl hin hse hcode hy hK (by rw [hT]; exact hcB) hoB hclB hg (hsize.trans hml.symm) (argsL := As) (rest := rest) (fun sig h => hn.trans (hlen sig h)) hstack hW (by rw [hb]; exact hdg)
    (fun vm₁ hW₁ => ⟨hf.1, hf.2, hPc (T.setVm vm₁) hT hW₁⟩) with ⟨v, vm₁, ⟨U', l2, c2, s2⟩, hW₁, X', ⟨g', mk, t, L, e1, e2, hq, h1, hL, h2, h3⟩, st⟩ | ⟨q, vm₁, ⟨U', l2, c2, s2⟩, hW₁, X', ⟨g', mk, t, L, E, ce, e1, e2, hq, hce, hcv, hcl, h1, hL, h2, h3⟩, st⟩
  · dsimp only [Pt.U, Pt.locs, Pt.cells, Pt.slots] at X' e1 e2 h1 h2 h3 st
    subst h1; subst h2; subst h3
    exact Or.inl ⟨v, (T.setVm vm₁).calling g' mk (Value.ref b :: As).toArray, t, U', L, hT, X', hL, e1, e2, hq, st⟩
  · dsimp only [Pt.U, Pt.locs, Pt.cells, Pt.slots] at X' e1 e2 h1 h2 h3 st hcl
    subst h1; subst h2; subst h3
    exact Or.inr ⟨q, (T.setVm vm₁).calling g' mk (Value.ref b :: As).toArray, t, U', L, E, ce, hT, X', hL, e1, e2, hq, hce, hcv, vx_cls hW₁ hcl, st⟩
theorem vx_runS (S : CallFix p m c cc nL s args Ts own) (hM : vx_Met l y ws rm Pc Qc XC mc ms free) (cw : CallB R s args own index y bytes maxL ret ws rm mc ms n ∧ (Cond.static y).before args s = true) (hp : PreS s H Pc As)
    (hg : g.method = m) (hn : As.length = n) (hsize : g.locals.size = nL) (hstack : g.stack = As.reverse ++ rest) (hW : 2 * g.monitorRoom + (rest.map fun v => v.category).sum ≤ 8) (hdg : decode cc g.pc = .ok (.invokestatic index, 3)) (hf : cells + mc ≤ R.cells ∧ slots + ms ≤ R.slots) :
    vx_Run p l e R s m args below meth c H locs cells slots mc ms g rest (Qc As.toArray) XC free := by
  have hK : vx_Back l R p e below s args y 3 8 (PreOf R mc ms Pc) (PostOf Qc mc ms free) (vx_Post XC mc ms free) := vx_callBack cw.1 hM hp.1
  obtain ⟨⟨-, -, -, -, -, -, hcode, hini, hy, hlen, hl⟩, hstt⟩ := cw
  obtain ⟨hx, hb, hml, ho, -⟩ := S
  intro T hT X
  rcases vx_callS X hx (bytes := bytes) (maxL := maxL) (ret := ret) ho hl hstt hini hcode hy hK hg (hsize.trans hml.symm) (argsL := As) (rest := rest) (fun sig h => hn.trans (hlen sig h)) hstack hW (by rw [hb]; exact hdg)
    (fun vm₁ hW₁ => ⟨hf.1, hf.2, hp.2 (T.setVm vm₁) hT hW₁⟩) with ⟨v, vm₁, ⟨U', l2, c2, s2⟩, hW₁, X', ⟨g', mk, t, L, e1, e2, hq, h1, hL, h2, h3⟩, st⟩ | ⟨q, vm₁, ⟨U', l2, c2, s2⟩, hW₁, X', ⟨g', mk, t, L, E, ce, e1, e2, hq, hce, hcv, hcl, h1, hL, h2, h3⟩, st⟩
  · dsimp only [Pt.U, Pt.locs, Pt.cells, Pt.slots] at X' e1 e2 h1 h2 h3 st
    subst h1; subst h2; subst h3
    exact Or.inl ⟨v, (T.setVm vm₁).calling g' mk As.toArray, t, U', L, hT, X', hL, e1, e2, hq, st⟩
  · dsimp only [Pt.U, Pt.locs, Pt.cells, Pt.slots] at X' e1 e2 h1 h2 h3 st hcl
    subst h1; subst h2; subst h3
    exact Or.inr ⟨q, (T.setVm vm₁).calling g' mk As.toArray, t, U', L, E, ce, hT, X', hL, e1, e2, hq, hce, hcv, vx_cls hW₁ hcl, st⟩
end Runs
section Rows
variable {p : Program} {l : Launch} {e : Env} {R : Room} {s : State} {m : MethodId} {args : Array Value} {below : List Frame} {meth : Method} {c : Code} {H : Heap} {locs : List Loc} {cells slots : Nat} {Q : State → Prop}
variable {mc ms : Nat} {free : Addr → Prop} {A0 A1 : Nat → Prop} {H0 : Heap} {a : Array Value} {pc : Nat} {ls : Array Slot} {st0 rest : List Value}
theorem vx_keep {st₀ t T' : State} {L : List Loc} (h0 : st₀.heap = H) (e1 : T'.heap = t.heap) (hS : va_S A0 H0 H locs) (hA : ∀ q, q < H.size → A1 q → A0 q) (hf : ∀ q, free q → A0 q) (hL : ∀ q ∈ L, free q.base) (hF : va_F A1 st₀ t) :
    H.size ≤ T'.heap.size ∧ (∀ q : Nat, q < H.size → ¬ A1 q → T'.heap[q]? = H[q]?) ∧ va_S A0 H0 T'.heap (locs ++ L) := by
  obtain ⟨hz, hk⟩ := hF
  rw [h0] at hz hk
  exact ⟨by rw [e1]; exact hz, fun q h1 h2 => by rw [e1]; exact hk q h1 h2,
    ⟨Nat.le_trans hS.1 (by rw [e1]; exact hz), fun q h1 h2 => by rw [e1, hk q (Nat.lt_of_lt_of_le h1 hS.1) (fun z => h2 (hA q (Nat.lt_of_lt_of_le h1 hS.1) z))]; exact hS.2.1 q h1 h2, fun q hq => by
      rcases List.mem_append.mp hq with h | h
      · exact hS.2.2 q h
      · exact hf _ (hL q h)⟩⟩
theorem vx_calli {S SX : Type} {post : Int32 → S → Prop} {px : SX → Prop} {B : S → State → Prop} {BX : String → SX → State → Prop} {AX : Nat → Prop} (hr : vx_Run p l e R s m args below meth c H locs cells slots mc ms (F0 m pc ls st0) rest (va_Qi post B A1 a) (vx_X px BX AX) free) (hS : va_S A0 H0 H locs) (hA : ∀ q, q < H.size → A1 q → A0 q) (hf : ∀ q, free q → A0 q) (hAX : ∀ q, q < H.size → AX q → A0 q)
    (kx : ∀ (E : String) (ce : Cell) (q9 : Addr) (u : SX) (t : State) (H1 : Heap) (locs1 : List Loc), t.heap = H1 → s.vm.Alike t.vm → px u → BX E u t → H.size ≤ H1.size → (∀ q : Nat, q < H.size → ¬ AX q → H1[q]? = H[q]?) → va_S A0 H0 H1 locs1 → H1[q9]? = some ce → ce.vm = .none → s.vm.findClass E = some ce.cls → vx_W p l e R s m args below meth c H1 locs1 (cells + mc) (slots + ms) Q (F0 m pc ls rest) q9)
    (kk : ∀ (r : Int32) (u : S) (t : State) (H1 : Heap) (locs1 : List Loc), t.heap = H1 → s.vm.Alike t.vm → post r u → B u t → H.size ≤ H1.size → (∀ q : Nat, q < H.size → ¬ A1 q → H1[q]? = H[q]?) → va_S A0 H0 H1 locs1 → W p l e R s m args below meth c H1 locs1 (cells + mc) (slots + ms) Q (F0 m (pc + 3) ls (.int r :: rest))) : W p l e R s m args below meth c H locs cells slots Q (F0 m pc ls st0) := by
  intro T hT X
  rcases hr T hT X with ⟨v, st₀, t, T', L, h0, X', hL, e1, e2, ⟨⟨r, u, hv, hp, hb⟩, hF⟩, st⟩ | ⟨q, st₀, t, T', L, E, ce, h0, X', hL, e1, e2, ⟨u, hp, hb, hF⟩, hce, hcv, hcl, st⟩
  · cases hv
    obtain ⟨k1, k2, k3⟩ := vx_keep h0 e1 hS hA hf hL hF
    obtain ⟨t2, a1, b1⟩ := kk r u t T'.heap (locs ++ L) e1.symm (by rw [← e2]; exact X'.warmed.alike) hp hb k1 k2 k3 T' rfl X'
    exact ⟨t2, st t2 a1, b1⟩
  · obtain ⟨k1, k2, k3⟩ := vx_keep h0 e1 hS hAX hf hL hF
    obtain ⟨t2, a1, b1⟩ := kx E ce q u t T'.heap (locs ++ L) e1.symm (by rw [← e2]; exact X'.warmed.alike) hp hb k1 k2 k3 (by rw [e1]; exact hce) hcv hcl T' rfl X'
    exact ⟨t2, st.trans a1, b1⟩
theorem vx_calll {S SX : Type} {post : Int64 → S → Prop} {px : SX → Prop} {B : S → State → Prop} {BX : String → SX → State → Prop} {AX : Nat → Prop} (hr : vx_Run p l e R s m args below meth c H locs cells slots mc ms (F0 m pc ls st0) rest (va_Ql post B A1 a) (vx_X px BX AX) free) (hS : va_S A0 H0 H locs) (hA : ∀ q, q < H.size → A1 q → A0 q) (hf : ∀ q, free q → A0 q) (hAX : ∀ q, q < H.size → AX q → A0 q)
    (kx : ∀ (E : String) (ce : Cell) (q9 : Addr) (u : SX) (t : State) (H1 : Heap) (locs1 : List Loc), t.heap = H1 → s.vm.Alike t.vm → px u → BX E u t → H.size ≤ H1.size → (∀ q : Nat, q < H.size → ¬ AX q → H1[q]? = H[q]?) → va_S A0 H0 H1 locs1 → H1[q9]? = some ce → ce.vm = .none → s.vm.findClass E = some ce.cls → vx_W p l e R s m args below meth c H1 locs1 (cells + mc) (slots + ms) Q (F0 m pc ls rest) q9)
    (kk : ∀ (r : Int64) (u : S) (t : State) (H1 : Heap) (locs1 : List Loc), t.heap = H1 → s.vm.Alike t.vm → post r u → B u t → H.size ≤ H1.size → (∀ q : Nat, q < H.size → ¬ A1 q → H1[q]? = H[q]?) → va_S A0 H0 H1 locs1 → W p l e R s m args below meth c H1 locs1 (cells + mc) (slots + ms) Q (F0 m (pc + 3) ls (.long r :: rest))) : W p l e R s m args below meth c H locs cells slots Q (F0 m pc ls st0) := by
  intro T hT X
  rcases hr T hT X with ⟨v, st₀, t, T', L, h0, X', hL, e1, e2, ⟨⟨r, u, hv, hp, hb⟩, hF⟩, st⟩ | ⟨q, st₀, t, T', L, E, ce, h0, X', hL, e1, e2, ⟨u, hp, hb, hF⟩, hce, hcv, hcl, st⟩
  · cases hv
    obtain ⟨k1, k2, k3⟩ := vx_keep h0 e1 hS hA hf hL hF
    obtain ⟨t2, a1, b1⟩ := kk r u t T'.heap (locs ++ L) e1.symm (by rw [← e2]; exact X'.warmed.alike) hp hb k1 k2 k3 T' rfl X'
    exact ⟨t2, st t2 a1, b1⟩
  · obtain ⟨k1, k2, k3⟩ := vx_keep h0 e1 hS hAX hf hL hF
    obtain ⟨t2, a1, b1⟩ := kx E ce q u t T'.heap (locs ++ L) e1.symm (by rw [← e2]; exact X'.warmed.alike) hp hb k1 k2 k3 (by rw [e1]; exact hce) hcv hcl T' rfl X'
    exact ⟨t2, st.trans a1, b1⟩
theorem vx_callf {S SX : Type} {post : UInt32 → S → Prop} {px : SX → Prop} {B : S → State → Prop} {BX : String → SX → State → Prop} {AX : Nat → Prop} (hr : vx_Run p l e R s m args below meth c H locs cells slots mc ms (F0 m pc ls st0) rest (va_Qf post B A1 a) (vx_X px BX AX) free) (hS : va_S A0 H0 H locs) (hA : ∀ q, q < H.size → A1 q → A0 q) (hf : ∀ q, free q → A0 q) (hAX : ∀ q, q < H.size → AX q → A0 q)
    (kx : ∀ (E : String) (ce : Cell) (q9 : Addr) (u : SX) (t : State) (H1 : Heap) (locs1 : List Loc), t.heap = H1 → s.vm.Alike t.vm → px u → BX E u t → H.size ≤ H1.size → (∀ q : Nat, q < H.size → ¬ AX q → H1[q]? = H[q]?) → va_S A0 H0 H1 locs1 → H1[q9]? = some ce → ce.vm = .none → s.vm.findClass E = some ce.cls → vx_W p l e R s m args below meth c H1 locs1 (cells + mc) (slots + ms) Q (F0 m pc ls rest) q9)
    (kk : ∀ (r : UInt32) (u : S) (t : State) (H1 : Heap) (locs1 : List Loc), t.heap = H1 → s.vm.Alike t.vm → post r u → B u t → H.size ≤ H1.size → (∀ q : Nat, q < H.size → ¬ A1 q → H1[q]? = H[q]?) → va_S A0 H0 H1 locs1 → W p l e R s m args below meth c H1 locs1 (cells + mc) (slots + ms) Q (F0 m (pc + 3) ls (.float r :: rest))) : W p l e R s m args below meth c H locs cells slots Q (F0 m pc ls st0) := by
  intro T hT X
  rcases hr T hT X with ⟨v, st₀, t, T', L, h0, X', hL, e1, e2, ⟨⟨r, u, hv, hp, hb⟩, hF⟩, st⟩ | ⟨q, st₀, t, T', L, E, ce, h0, X', hL, e1, e2, ⟨u, hp, hb, hF⟩, hce, hcv, hcl, st⟩
  · cases hv
    obtain ⟨k1, k2, k3⟩ := vx_keep h0 e1 hS hA hf hL hF
    obtain ⟨t2, a1, b1⟩ := kk r u t T'.heap (locs ++ L) e1.symm (by rw [← e2]; exact X'.warmed.alike) hp hb k1 k2 k3 T' rfl X'
    exact ⟨t2, st t2 a1, b1⟩
  · obtain ⟨k1, k2, k3⟩ := vx_keep h0 e1 hS hAX hf hL hF
    obtain ⟨t2, a1, b1⟩ := kx E ce q u t T'.heap (locs ++ L) e1.symm (by rw [← e2]; exact X'.warmed.alike) hp hb k1 k2 k3 (by rw [e1]; exact hce) hcv hcl T' rfl X'
    exact ⟨t2, st.trans a1, b1⟩
theorem vx_calld {S SX : Type} {post : UInt64 → S → Prop} {px : SX → Prop} {B : S → State → Prop} {BX : String → SX → State → Prop} {AX : Nat → Prop} (hr : vx_Run p l e R s m args below meth c H locs cells slots mc ms (F0 m pc ls st0) rest (va_Qd post B A1 a) (vx_X px BX AX) free) (hS : va_S A0 H0 H locs) (hA : ∀ q, q < H.size → A1 q → A0 q) (hf : ∀ q, free q → A0 q) (hAX : ∀ q, q < H.size → AX q → A0 q)
    (kx : ∀ (E : String) (ce : Cell) (q9 : Addr) (u : SX) (t : State) (H1 : Heap) (locs1 : List Loc), t.heap = H1 → s.vm.Alike t.vm → px u → BX E u t → H.size ≤ H1.size → (∀ q : Nat, q < H.size → ¬ AX q → H1[q]? = H[q]?) → va_S A0 H0 H1 locs1 → H1[q9]? = some ce → ce.vm = .none → s.vm.findClass E = some ce.cls → vx_W p l e R s m args below meth c H1 locs1 (cells + mc) (slots + ms) Q (F0 m pc ls rest) q9)
    (kk : ∀ (r : UInt64) (u : S) (t : State) (H1 : Heap) (locs1 : List Loc), t.heap = H1 → s.vm.Alike t.vm → post r u → B u t → H.size ≤ H1.size → (∀ q : Nat, q < H.size → ¬ A1 q → H1[q]? = H[q]?) → va_S A0 H0 H1 locs1 → W p l e R s m args below meth c H1 locs1 (cells + mc) (slots + ms) Q (F0 m (pc + 3) ls (.double r :: rest))) : W p l e R s m args below meth c H locs cells slots Q (F0 m pc ls st0) := by
  intro T hT X
  rcases hr T hT X with ⟨v, st₀, t, T', L, h0, X', hL, e1, e2, ⟨⟨r, u, hv, hp, hb⟩, hF⟩, st⟩ | ⟨q, st₀, t, T', L, E, ce, h0, X', hL, e1, e2, ⟨u, hp, hb, hF⟩, hce, hcv, hcl, st⟩
  · cases hv
    obtain ⟨k1, k2, k3⟩ := vx_keep h0 e1 hS hA hf hL hF
    obtain ⟨t2, a1, b1⟩ := kk r u t T'.heap (locs ++ L) e1.symm (by rw [← e2]; exact X'.warmed.alike) hp hb k1 k2 k3 T' rfl X'
    exact ⟨t2, st t2 a1, b1⟩
  · obtain ⟨k1, k2, k3⟩ := vx_keep h0 e1 hS hAX hf hL hF
    obtain ⟨t2, a1, b1⟩ := kx E ce q u t T'.heap (locs ++ L) e1.symm (by rw [← e2]; exact X'.warmed.alike) hp hb k1 k2 k3 (by rw [e1]; exact hce) hcv hcl T' rfl X'
    exact ⟨t2, st.trans a1, b1⟩
theorem vx_callv {S SX : Type} {post : S → Prop} {px : SX → Prop} {B : S → State → Prop} {BX : String → SX → State → Prop} {AX : Nat → Prop} (hr : vx_Run p l e R s m args below meth c H locs cells slots mc ms (F0 m pc ls st0) rest (va_Qv post B A1 a) (vx_X px BX AX) free) (hS : va_S A0 H0 H locs) (hA : ∀ q, q < H.size → A1 q → A0 q) (hf : ∀ q, free q → A0 q) (hAX : ∀ q, q < H.size → AX q → A0 q)
    (kx : ∀ (E : String) (ce : Cell) (q9 : Addr) (u : SX) (t : State) (H1 : Heap) (locs1 : List Loc), t.heap = H1 → s.vm.Alike t.vm → px u → BX E u t → H.size ≤ H1.size → (∀ q : Nat, q < H.size → ¬ AX q → H1[q]? = H[q]?) → va_S A0 H0 H1 locs1 → H1[q9]? = some ce → ce.vm = .none → s.vm.findClass E = some ce.cls → vx_W p l e R s m args below meth c H1 locs1 (cells + mc) (slots + ms) Q (F0 m pc ls rest) q9)
    (kk : ∀ (u : S) (t : State) (H1 : Heap) (locs1 : List Loc), t.heap = H1 → s.vm.Alike t.vm → post u → B u t → H.size ≤ H1.size → (∀ q : Nat, q < H.size → ¬ A1 q → H1[q]? = H[q]?) → va_S A0 H0 H1 locs1 → W p l e R s m args below meth c H1 locs1 (cells + mc) (slots + ms) Q (F0 m (pc + 3) ls (rest))) : W p l e R s m args below meth c H locs cells slots Q (F0 m pc ls st0) := by
  intro T hT X
  rcases hr T hT X with ⟨v, st₀, t, T', L, h0, X', hL, e1, e2, ⟨⟨u, hv, hp, hb⟩, hF⟩, st⟩ | ⟨q, st₀, t, T', L, E, ce, h0, X', hL, e1, e2, ⟨u, hp, hb, hF⟩, hce, hcv, hcl, st⟩
  · cases hv
    obtain ⟨k1, k2, k3⟩ := vx_keep h0 e1 hS hA hf hL hF
    obtain ⟨t2, a1, b1⟩ := kk u t T'.heap (locs ++ L) e1.symm (by rw [← e2]; exact X'.warmed.alike) hp hb k1 k2 k3 T' rfl X'
    exact ⟨t2, st t2 a1, b1⟩
  · obtain ⟨k1, k2, k3⟩ := vx_keep h0 e1 hS hAX hf hL hF
    obtain ⟨t2, a1, b1⟩ := kx E ce q u t T'.heap (locs ++ L) e1.symm (by rw [← e2]; exact X'.warmed.alike) hp hb k1 k2 k3 (by rw [e1]; exact hce) hcv hcl T' rfl X'
    exact ⟨t2, st.trans a1, b1⟩
/-- caught by the row x of this method's table; the rows ahead don't take it -/
theorem vx_catch {own name : String} {E : String} {ce : Cell} {q : Addr} (hown : s.vm.findClass own = some m.cls) (pre : List ExceptionTableEntry) (x : ExceptionTableEntry) (suf : List ExceptionTableEntry) (hsplit : c.exceptionTable.toList = pre ++ x :: suf)
    (hpass : ∀ z ∈ pre, covers z pc = false ∨ (z.catchType ≠ 0 ∧ ∃ nm : String, (Cond.classLink own z.catchType nm).before args s = true ∧ va_Nc E nm s)) (hx : covers x pc = true) (h0 : x.catchType ≠ 0)
    (hlink : (Cond.classLink own x.catchType name).before args s = true) (hcast : (Cond.castable E name).before args s = true) (hcell : H[q]? = some ce) (hv : ce.vm = .none) (hcl : s.vm.findClass E = some ce.cls)
    (kk : W p l e R s m args below meth c H locs cells slots Q (F0 m x.handlerPc ls [.ref q])) : vx_W p l e R s m args below meth c H locs cells slots Q (F0 m pc ls rest) q := by
  intro T hT X
  have hpl : e.platform.magicAccessors = ({} : Platform).magicAccessors := by rw [X.admits.platform]
  obtain ⟨c3, c4, hc3, hc4, hasg⟩ := Cond.castable_spec hcast
  cases Option.some.inj (hc3.symm.trans hcl)
  obtain ⟨c5, hc5, hcl5⟩ := Cond.classLink_spec hown hlink e.platform hpl
  cases Option.some.inj (hc4.symm.trans hc5)
  obtain ⟨vm', X', st⟩ := X.thenCaughtThrough q (g := F0 m pc ls rest) rfl (Steps.refl _) (by rw [hT]; exact hcell) (by rw [hv]; rfl) (by obtain ⟨k9, h9, -⟩ := Vm.findClass_spec hcl; exact ⟨k9, h9⟩) pre x suf hsplit
    (fun z hz => by
      rcases hpass z hz with h | ⟨hz0, nm, hl1, hn1⟩
      · exact Or.inl h
      · obtain ⟨c6, hc6, hcl6⟩ := Cond.classLink_spec hown hl1 e.platform hpl
        obtain ⟨a8, b8, h1, h2, h3⟩ := hn1
        cases Option.some.inj (h1.symm.trans hcl)
        cases Option.some.inj (h2.symm.trans hc6)
        exact Or.inr ⟨hz0, _, hcl6, h3⟩) hx (Or.inr ⟨h0, c4, hcl5, hasg⟩)
  obtain ⟨t, a1, b1⟩ := kk (T.setVm vm') hT X'
  exact ⟨t, st.trans a1, b1⟩
end Rows
section Ends
variable {p : Program} {l : Launch} {e : Env} {R : Room} {s : State} {m : MethodId} {args : Array Value} {below : List Frame} {meth : Method} {c : Code} {H : Heap} {locs : List Loc} {cells slots : Nat} {Q : State → Prop}
variable {mc ms : Nat} {free : Addr → Prop} {A0 A1 : Nat → Prop} {H0 : Heap} {a : Array Value} {ls : Array Slot} {st0 rest : List Value}
variable {Qc : Array Value → State → Outcome → State → Prop} {XC : String → State → State → Prop}
/-- what a body that may throw owes at its end -/
def vx_MQ (below : List Frame) (Qc : Array Value → State → Outcome → State → Prop) (XC : String → State → State → Prop) (a : Array Value) (s : State) (mc ms : Nat) (free : Addr → Prop) : State → Prop := fun t =>
  ∃ o, t.status = .running ∧ Ended t below o ∧ vx_Q Qc XC mc ms free a s o t
theorem vx_ret {g : JFrame} {mc ms : Nat} (k : W p l e R s m args below meth c H locs cells slots (MQ below Qc args s mc ms free) g) : W p l e R s m args below meth c H locs cells slots (vx_MQ below Qc XC args s mc ms free) g := by
  intro T hT X
  obtain ⟨t, a1, o, b1, b2, b3, b4⟩ := k T hT X
  exact ⟨t, a1, o, b1, b2, Or.inl ⟨b3, b4⟩⟩
/-- not caught here: it goes on to the caller -/
theorem vx_widen {g : JFrame} {q : Addr} {k n : Nat} (h1 : cells ≤ k) (h2 : slots ≤ n) (kk : vx_W p l e R s m args below meth c H locs k n Q g q) : vx_W p l e R s m args below meth c H locs cells slots Q g q := fun T hT X => kk T hT (stand_widen X h1 h2)
theorem vx_out {pc : Nat} {E : String} {ce : Cell} {q : Addr} {mc ms : Nat} (hout : ∀ x ∈ c.exceptionTable.toList, covers x pc = false) (hlocks : meth.locks = false) (hcell : H[q]? = some ce) (hv : ce.vm = .none) (hcl : s.vm.findClass E = some ce.cls)
    (hx : ∀ t : State, t.heap = H → s.vm.Alike t.vm → XC E s t) (hf : ∀ z ∈ locs, free z.base) (hc : cells ≤ mc) (hs : slots ≤ ms) :
    vx_W p l e R s m args below meth c H locs cells slots (vx_MQ below Qc XC args s mc ms free) (F0 m pc ls rest) q := by
  intro T hT X
  obtain ⟨st1, hrun, hend, hW, hsm⟩ := X.leaveThrown q (g := F0 m pc ls rest) rfl rfl rfl hout hlocks
  have hcell9 : (T.setFrames (.throwing q :: below)).heap[q]? = some ce := by
    show T.heap[q]? = some ce
    rw [hT]; exact hcell
  exact ⟨_, st1, .threw q, hrun, hend, Or.inr ⟨q, rfl, E, ce, locs, hx _ hT hW.alike, hcell9, hv, hcl, hW, hsm.mono hc hs, hf⟩⟩
theorem vx_frame {U : State} {k n : Nat} (h : s.sameButNew ({ U with vm := s.vm } : State) locs k n) : s.heap.size ≤ U.heap.size ∧ ∀ q : Nat, q < s.heap.size → (∀ z ∈ locs, z.base ≠ q) → U.heap[q]? = s.heap[q]? := by
  obtain ⟨-, h2, -, -, -, h6⟩ := h
  refine ⟨h2, fun q hq hz => ?_⟩
  obtain ⟨c9, e1, e2, e3, e4⟩ := h6 q _ (Array.getElem?_eq_getElem hq)
  have hs : c9.slots = (s.heap[q]).slots := Array.ext_getElem? fun i => e4 i fun hm => hz _ hm rfl
  have h9 : c9 = s.heap[q] := by
    rw [hs] at e2
    exact e2
  have e5 : U.heap[q]? = some c9 := e1
  rw [e5, h9, Array.getElem?_eq_getElem hq]
/-- the words of a throw but the four that speak of the heap -/
def vx_no (w : Cond) : Bool := decide (w ≠ .isRef (.static Bundle.tN "UNASSIGNED_STACK" Bundle.steD)) && decide (w ≠ .isRef (.static Bundle.tN "SUPPRESSED_SENTINEL" Bundle.listD)) && decide (w ≠ .laysStatic Bundle.tN "UNASSIGNED_STACK" Bundle.steD) && decide (w ≠ .laysStatic Bundle.tN "SUPPRESSED_SENTINEL" Bundle.listD)
def vx_at0 (own : String) (ic : Nat) (X : String) (names : List String) : List Cond := (Bundle.ownAtoms0 own ic X names).filter vx_no
def vx_atS (own : String) (ic : Nat) (X : String) (names : List String) : List Cond := (Bundle.ownAtoms own ic X names).filter vx_no
/-- a word that the tables alone decide, or a good one -/
def vx_ot (w : Cond) : Bool := w.onTables || goodWord w
theorem vx_ot_at {args a' : Array Value} {s U : State} {w : Cond} (hW : s.WarmedH U.vm) (hvm : s.vm = U.vm) (hg : vx_ot w = true) (h : w.before args s = true) : w.before a' U = true := by
  simp only [vx_ot, Bool.or_eq_true] at hg
  rcases hg with hg | hg
  · exact va_tabs hg hvm h
  · exact word_at hW (good_of_word hg) h
/-- a list's words: the good ones out of the method's own list, the others by premises of their own -/
theorem vx_hat {args : Array Value} {s : State} {L B : List Cond} (h1 : ∀ w ∈ L.filter goodWord, w.before args s = true) (h2 : ∀ w ∈ L.filter (fun w => !goodWord w), w ∈ B) (h3 : ∀ w ∈ B, w.before args s = true) : ∀ w ∈ L, w.before args s = true := by
  intro w hw
  by_cases g : goodWord w = true
  · exact h1 w (List.mem_filter.mpr ⟨hw, g⟩)
  · refine h3 w (h2 w (List.mem_filter.mpr ⟨hw, ?_⟩))
    show (!goodWord w) = true
    cases hgw : goodWord w
    · rfl
    · exact absurd hgw g
theorem vx_c {args : Array Value} {s : State} {w : Cond} {B : List Cond} (h : w.before args s = true) (t : ∀ w ∈ B, w.before args s = true) : ∀ w' ∈ w :: B, w'.before args s = true := fun w' h' => (List.mem_cons.mp h').elim (fun e => by rw [e]; exact h) (t w')
theorem vx_n {args : Array Value} {s : State} : ∀ w ∈ ([] : List Cond), w.before args s = true := fun _ h => nomatch h
theorem vx_own {args : Array Value} {s : State} {L : List Cond} (h1 : ∀ w ∈ L.filter vx_no, w.before args s = true)
    (hU : (Cond.isRef (.static Bundle.tN "UNASSIGNED_STACK" Bundle.steD)).before args s = true) (hN : (Cond.isRef (.static Bundle.tN "SUPPRESSED_SENTINEL" Bundle.listD)).before args s = true)
    (lU : (Cond.laysStatic Bundle.tN "UNASSIGNED_STACK" Bundle.steD).before args s = true) (lN : (Cond.laysStatic Bundle.tN "SUPPRESSED_SENTINEL" Bundle.listD).before args s = true) : ∀ w ∈ L, w.before args s = true := by
  intro w hw
  by_cases e1 : w = .isRef (.static Bundle.tN "UNASSIGNED_STACK" Bundle.steD)
  · rw [e1]; exact hU
  · by_cases e2 : w = .isRef (.static Bundle.tN "SUPPRESSED_SENTINEL" Bundle.listD)
    · rw [e2]; exact hN
    · by_cases e3 : w = .laysStatic Bundle.tN "UNASSIGNED_STACK" Bundle.steD
      · rw [e3]; exact lU
      · by_cases e4 : w = .laysStatic Bundle.tN "SUPPRESSED_SENTINEL" Bundle.listD
        · rw [e4]; exact lN
        · exact h1 w (List.mem_filter.mpr ⟨hw, by unfold vx_no; rw [decide_eq_true e1, decide_eq_true e2, decide_eq_true e3, decide_eq_true e4]; rfl⟩)
/-- where a static field lies, its class's statics cell in H -/
def vx_L (C n d : String) (A : Nat → Prop) (U : State) (H : Heap) : Prop := ∃ (c : ClassId) (k : Class) (i : Nat) (f : Field) (a : Nat) (cell : Cell), U.vm.findClass C = some c ∧ U.fieldFound? C n d = some (c, k, i, f) ∧ f.isStatic = true ∧ k.statics = some a ∧ H[a]? = some cell ∧ cell.vm.isStatics = true ∧ cell.cls = c ∧ f.slot < cell.slots.size ∧ k.staticTypes[f.slot]? = some f.type ∧ ¬ A a
theorem vx_L.moved {C n d : String} {A : Nat → Prop} {u U : State} {H : Heap} (hvm : u.vm.Alike U.vm) (h : vx_L C n d A u H) : vx_L C n d A U H := by
  obtain ⟨c, k, i, f, a, cell, h1, h2, h3, h4, h5, h6, h7, h8, h9, h10⟩ := h
  obtain ⟨k', hi', he⟩ := State.fieldFound?_setVm hvm h2
  exact ⟨c, k', i, f, a, cell, by rw [hvm.findClass]; exact h1, hi', h3, by rw [he]; exact h4, h5, h6, h7, h8, by rw [he]; exact h9, h10⟩
theorem vx_L.kept {C n d : String} {A : Nat → Prop} {U : State} {H H1 : Heap} (h : vx_L C n d A U H) (hq : ∀ a : Nat, a < H.size → ¬ A a → H1[a]? = H[a]?) : vx_L C n d A U H1 := by
  obtain ⟨c, k, i, f, a, cell, h1, h2, h3, h4, h5, h6, h7, h8, h9, h10⟩ := h
  exact ⟨c, k, i, f, a, cell, h1, h2, h3, h4, by rw [hq a (Array.getElem?_eq_some_iff.mp h5).1 h10]; exact h5, h6, h7, h8, h9, h10⟩
theorem vx_L.narrow {C n d : String} {A B : Nat → Prop} {U : State} {H : Heap} (h : vx_L C n d A U H) (hAB : ∀ q, B q → A q) : vx_L C n d B U H := by
  obtain ⟨c, k, i, f, a, cell, h1, h2, h3, h4, h5, h6, h7, h8, h9, h10⟩ := h
  exact ⟨c, k, i, f, a, cell, h1, h2, h3, h4, h5, h6, h7, h8, h9, fun z => h10 (hAB _ z)⟩
theorem vx_L.word {C n d : String} {A : Nat → Prop} {s : State} {args : Array Value} (h : vx_L C n d A s s.heap) : (Cond.laysStatic C n d).before args s = true := by
  obtain ⟨c, k, i, f, a, cell, h1, h2, h3, h4, h5, h6, h7, h8, h9, -⟩ := h
  show (Cond.laysStatic C n d).holds args s none s [] = true
  exact Cond.laysStatic_of h1 h2 h3 h4 h5 h6 h7 h8 h9
/-- .. and what it holds: null or some reference -/
def vx_Zq (C n d : String) (A : Nat → Prop) (U : State) (H : Heap) : Prop := va_Zq C n d A U H ∧ vx_L C n d A U H
theorem vx_Zq.moved {C n d : String} {A : Nat → Prop} {u U : State} {H : Heap} (hvm : u.vm.Alike U.vm) (h : vx_Zq C n d A u H) : vx_Zq C n d A U H := ⟨va_Zq.moved hvm h.1, vx_L.moved hvm h.2⟩
theorem vx_Zq.kept {C n d : String} {A : Nat → Prop} {U : State} {H H1 : Heap} (h : vx_Zq C n d A U H) (hq : ∀ a : Nat, a < H.size → ¬ A a → H1[a]? = H[a]?) : vx_Zq C n d A U H1 := ⟨va_Zq.kept h.1 hq, vx_L.kept h.2 hq⟩
theorem vx_Zq.narrow {C n d : String} {A B : Nat → Prop} {U : State} {H : Heap} (h : vx_Zq C n d A U H) (hAB : ∀ q, B q → A q) : vx_Zq C n d B U H := ⟨va_Zq.narrow h.1 hAB, vx_L.narrow h.2 hAB⟩
theorem vx_Zqof {args : Array Value} {s : State} {C n d : String} {A : Nat → Prop} (hl : (Cond.laysStatic C n d).before args s = true) (hini : (Cond.initialized C).before args s = true) (h : (Cond.isRef (.static C n d)).before args s = true) (hA : ∀ a : Nat, a < s.heap.size → ¬ A a) : vx_Zq C n d A s s.heap := by
  refine ⟨va_Zqof hl hini h hA, ?_⟩
  obtain ⟨c, k, i, f, a, cell, h1, h2, h3, h4, h5, h6, h7, h8, h9⟩ := Cond.laysStatic_spec hl
  exact ⟨c, k, i, f, a, cell, h1, h2, h3, h4, h5, h6, h7, h8, h9, hA a (Array.getElem?_eq_some_iff.mp h5).1⟩
theorem vx_isRef {C n d : String} {v : Value} {A : Nat → Prop} {s : State} {args : Array Value} (h : va_Z C n d v A s s.heap) (hv : v.isRef = true) : (Cond.isRef (.static C n d)).before args s = true := by
  obtain ⟨cf, kf, fi, f, a, cell, h1, h2, h3, h4, h5, h6, h7, -⟩ := h
  have he : (Term.static C n d).eval args s none [] s = some v := by
    simp [Term.eval, State.fieldNamed?, h1, h2, h4, h5, h6, h7]
  simp only [Cond.before, Cond.holds, Cond.value, he]
  cases v <;> simp_all [Value.isRef]
theorem vx_isRefq {C n d : String} {A : Nat → Prop} {s : State} {args : Array Value} (h : va_Zq C n d A s s.heap) : (Cond.isRef (.static C n d)).before args s = true := by
  rcases h with h | ⟨t, h⟩
  · exact vx_isRef h rfl
  · exact vx_isRef h rfl
/-- the same frame, seen from here: as if the method were called anew in this heap -/
theorem vx_rebase {T : State} (X : Stand p l e R s m args below meth c T locs cells slots) {R' : Room} (hf : R'.frames ≤ R.frames) (hl : R'.locals ≤ R.locals) (hc : cells + R'.cells ≤ R.cells) (hs : slots + R'.slots ≤ R.slots) :
    Stand p l e R' ((T.setVm s.vm).setFrames (.invoking m args :: below)) m args below meth c T [] 0 0 := by
  have htop : (T.setVm s.vm).topJava?.isSome := X.here.top
  have hF : ((T.setVm s.vm).setFrames (.invoking m args :: below)).frames = .invoking m args :: below := State.frames_setFrames _ (State.cur_lt_of_top htop)
  obtain ⟨g₀, hg0⟩ := Option.isSome_iff_exists.mp htop
  obtain ⟨r, hr⟩ := State.topJava?_eq_some.mp hg0
  have hl9 : e.platform.stackLimits (T.setVm s.vm).me = e.platform.stackLimits s.me := X.limits
  have hb9 : (T.setVm s.vm).me.stackBytes = s.me.stackBytes := X.bytes
  refine ⟨X.admits, X.cas, X.clock, hF, ?_, X.hears, X.method, X.code, X.here, X.tail, X.warmed, ?_, ?_, ?_⟩
  · have h := X.room
    have hU : ((T.setVm s.vm).setFrames (.invoking m args :: below)).localsInUse = s.localsInUse := by
      rw [State.localsInUse_invoking hF (meth := meth) (c := c) X.method X.code, State.localsInUse_invoking X.frames X.method X.code]
    simp only [State.hasRoom, Bool.and_eq_true, decide_eq_true_eq] at h ⊢
    obtain ⟨⟨⟨⟨h1, h2, h3, h4, h5, h6⟩, h7⟩, h8⟩, h9⟩ := h
    rw [X.frames, List.length_cons] at h2 h3
    have q1 := X.heapSize
    have q2 := X.used
    simp only [hF, hU, List.length_cons, State.stackLimits_setFrames, State.stackBytes_setFrames, hl9, hb9]
    refine ⟨⟨⟨⟨by omega, by omega, by omega, by omega, by omega, h6⟩, ?_⟩, ?_⟩, X.book⟩
    · show T.heap.size + R'.cells ≤ e.platform.maxCells
      omega
    · show T.slotsUsed + R'.slots ≤ e.platform.maxSlots
      omega
  · rw [State.stackLimits_setFrames]; rfl
  · rw [State.stackBytes_setFrames]; rfl
  · refine ⟨?_, Nat.le_refl _, Nat.le_refl _, ?_, ?_, fun a c9 h9 => ⟨c9, h9, rfl, rfl, fun _ _ => rfl⟩⟩
    · obtain ⟨t, ht, -⟩ := State.frames_cons hr
      show T.setVm s.vm = { ((T.setVm s.vm).setFrames (.invoking m args :: below)).setFrames (T.setVm s.vm).frames with heap := T.heap, slotsUsed := T.slotsUsed }
      rw [State.setFrames_setFrames, State.setFrames_self ht]
      rfl
    · show T.slotsUsed = T.slotsUsed + ((T.heap.toList.drop T.heap.size).map (·.slots.size)).sum
      rw [List.drop_eq_nil_of_le (Nat.le_of_eq Array.length_toList)]
      rfl
    · show ((T.heap.toList.drop T.heap.size).map (·.slots.size)).sum ≤ 0
      rw [List.drop_eq_nil_of_le (Nat.le_of_eq Array.length_toList)]
      exact Nat.le_refl _
/-- 'throw new E()': new; dup; invokespecial; athrow -/
theorem vx_throw0 {cc : ByteArray} {pc : Nat} (hexec : p.tables.exec = Jvm.exec) (hb : c.code = cc) (hl : l.stackTraces = false) {own cls : String} {names : List String} {ik ic mc ms : Nat} {A : Nat → Prop}
    (hown : s.vm.findClass own = some m.cls) (hcls : Bundle.fit cls = true) (hnames : ∀ n ∈ names, Bundle.fit n = true)
    (hk : (Cond.classLink own ik cls).before args s = true) (hini : (Cond.initialized cls).before args s = true) (hat : ∀ w ∈ vx_at0 own ic cls names, w.before args s = true)
    (hgood : ∀ w ∈ Cond.classLink own ik cls :: Cond.initialized cls :: vx_at0 own ic cls names, vx_ot w = true)
    (hU : vx_Zq Bundle.tN "UNASSIGNED_STACK" Bundle.steD A s s.heap) (hN : vx_Zq Bundle.tN "SUPPRESSED_SENTINEL" Bundle.listD A s s.heap) (hS : va_S A s.heap H locs) (hsize : ls.size = c.maxLocals)
    (d0 : decode cc pc = .ok (.new ik, 3)) (d3 : decode cc (pc + 3) = .ok (.dup, 1)) (d4 : decode cc (pc + 4) = .ok (.invokespecial ic, 3)) (d7 : decode cc (pc + 7) = .ok (.athrow, 1))
    (hout : ∀ x ∈ c.exceptionTable.toList, covers x (pc + 7) = false)
    (hRframes : names.length + 3 < R.frames) (hRlocals : (rest.map fun v => v.category).sum + (13 * (names.length + 1) + 42) ≤ R.locals) (hRcells : cells + 1 ≤ R.cells) (hRslots : slots + 6 ≤ R.slots) (hlocks : meth.locks = false)
    (hx : ∀ t : State, s.vm.Alike t.vm → H.size ≤ t.heap.size → (∀ q : Nat, q < H.size → t.heap[q]? = H[q]?) → XC cls s t)
    (hf : ∀ z ∈ locs, free z.base) (hc : cells + 1 ≤ mc) (hs : slots + 6 ≤ ms) :
    W p l e R s m args below meth c H locs cells slots (vx_MQ below Qc XC args s mc ms free) (F0 m pc ls rest) := by
  intro T hT X
  have htr : e.platform.stackTraces = false := (show e.platform.stackTraces = l.stackTraces by rw [X.admits.platform]).trans hl
  have Y := vx_rebase X (R' := { frames := R.frames, locals := R.locals, cells := 1, slots := 6 }) (Nat.le_refl _) (Nat.le_refl _) hRcells hRslots
  obtain ⟨s', hA⟩ : ∃ z, z = (T.setVm s.vm).setFrames (.invoking m args :: below) := ⟨_, rfl⟩
  rw [← hA] at Y
  have hvm : s'.vm = s.vm := by rw [hA]; rfl
  have hhp : s'.heap = H := by rw [hA]; exact hT
  have hW0 : s.WarmedH s'.vm := by rw [hvm]; exact State.WarmedH.refl s
  have hat' : ∀ w ∈ vx_at0 own ic cls names, w.before args s' = true := fun w hw => vx_ot_at hW0 hvm.symm (hgood w (List.mem_cons_of_mem _ (List.mem_cons_of_mem _ hw))) (hat w hw)
  have hk' : (Cond.classLink own ik cls).before args s' = true := vx_ot_at hW0 hvm.symm (hgood _ List.mem_cons_self) hk
  have hini' : (Cond.initialized cls).before args s' = true := vx_ot_at hW0 hvm.symm (hgood _ (List.mem_cons_of_mem _ List.mem_cons_self)) hini
  have hU' : vx_Zq Bundle.tN "UNASSIGNED_STACK" Bundle.steD A s' s'.heap := by rw [hhp]; exact vx_Zq.moved hW0.alike (hU.kept hS.2.1)
  have hN' : vx_Zq Bundle.tN "SUPPRESSED_SENTINEL" Bundle.listD A s' s'.heap := by rw [hhp]; exact vx_Zq.moved hW0.alike (hN.kept hS.2.1)
  have h : ∀ w ∈ Bundle.ownAtoms0 own ic cls names, w.before args s' = true := vx_own hat' (vx_isRefq hU'.1) (vx_isRefq hN'.1) hU'.2.word hN'.2.word
  have hown' : s'.vm.findClass own = some m.cls := by rw [hvm]; exact hown
  have hins : (Cond.instantiable cls 6).before args s' = true := h _ (by simp [Bundle.ownAtoms0])
  obtain ⟨vm₁, cX, kX, hfX, hkX, -, -, X₁, st1⟩ := Y.newCold hexec (own := own) (C := cls) (index := ik) (n := 6) hown' hk' hins hini'
    (g := F0 m pc ls rest) rfl (by rw [hb]; exact d0) (Nat.le_refl _) (Nat.le_refl _)
  generalize hT1 : (T.setVm vm₁).pushCell { cls := cX, slots := kX.instanceTypes.map defaultValue, vm := .none } = T1 at X₁ st1
  have hcat : (Value.ref T.heap.size).category = 1 := rfl
  have hcellA : T1.heap[T.heap.size]? = some (freshCell cX kX) := by rw [← hT1]; exact State.heap_pushCell_size _ _
  have d3' : decode c.code (pc + 3) = .ok (.dup, 1) := by rw [hb]; exact d3
  obtain ⟨U, hsteps, hrun, hend, hW, hsame, ce, hce, hO⟩ := X₁.ctorThrow0 hexec htr (own := own) (cls := cls) (names := names) (ic := ic) hown' hcls hnames h (fun x hx => nomatch hx) hfX hkX hcellA (by rw [hhp, hT]; exact Nat.le_refl _)
    (g := { method := m, pc := pc + 4, locals := ls, stack := .ref T.heap.size :: .ref T.heap.size :: rest, locked := none }) rfl hsize rfl rfl (rest := rest) rfl
    (by rw [hb]; exact d4) (by rw [hb]; exact d7) hout hRframes (by simp only [List.map_cons, List.sum_cons, hcat]; omega) hlocks
  obtain ⟨f1, f2⟩ := vx_frame hsame
  rw [hhp] at f1 f2
  have hWs : s.WarmedH U.vm := State.WarmedH.trans hW0 hW
  have hcl : s.vm.findClass cls = some ce.cls := by
    have h9 := hO.cls
    rw [hvm] at h9
    exact h9
  have hall : s.sameButNew ({ U with vm := s.vm } : State) locs mc ms := by
    subst hA
    obtain ⟨e1, e2⟩ := hsame
    rw [State.setFrames_setFrames] at e1
    have h2 : (T.setVm s.vm).sameButNew ({ U with vm := s.vm } : State) [] (0 + 1) (0 + 6) := ⟨e1, e2⟩
    have h3 := X.same.trans h2
    rw [List.append_nil] at h3
    exact h3.mono hc hs
  refine ⟨U, ?_, .threw T.heap.size, hrun, hend, Or.inr ⟨T.heap.size, rfl, cls, ce, locs, hx U hWs.alike f1 (fun q hq => f2 q hq (fun z hz => nomatch hz)), hce, hO.vm, hcl, hWs, hall, hf⟩⟩
  refine st1 _ ?_
  show Steps p.tables e below (T1.setTop { method := m, pc := pc + 3, locals := ls, stack := .ref T.heap.size :: rest, locked := none }) _
  jvm_step X₁.here [X₁.here.top, hexec, d3', Value.category]
  exact hsteps
/-- 'throw new E("text")': new; dup; ldc; invokespecial; athrow -/
theorem vx_throwS {cc : ByteArray} {pc : Nat} (hexec : p.tables.exec = Jvm.exec) (hb : c.code = cc) (hl : l.stackTraces = false) {own cls text : String} {names : List String} {ik is ic mc ms sa : Nat} {A : Nat → Prop}
    (hown : s.vm.findClass own = some m.cls) (hcls : Bundle.fit cls = true) (hnames : ∀ n ∈ names, Bundle.fit n = true)
    (hk : (Cond.classLink own ik cls).before args s = true) (hini : (Cond.initialized cls).before args s = true) (hstr : vk_R own is text sa s) (hat : ∀ w ∈ vx_atS own ic cls names, w.before args s = true)
    (hgood : ∀ w ∈ Cond.classLink own ik cls :: Cond.initialized cls :: vx_atS own ic cls names, vx_ot w = true)
    (hU : vx_Zq Bundle.tN "UNASSIGNED_STACK" Bundle.steD A s s.heap) (hN : vx_Zq Bundle.tN "SUPPRESSED_SENTINEL" Bundle.listD A s s.heap) (hS : va_S A s.heap H locs) (hsize : ls.size = c.maxLocals)
    (d0 : decode cc pc = .ok (.new ik, 3)) (d3 : decode cc (pc + 3) = .ok (.dup, 1)) (d4 : decode cc (pc + 4) = .ok (.ldc is, 2)) (d6 : decode cc (pc + 6) = .ok (.invokespecial ic, 3)) (d9 : decode cc (pc + 9) = .ok (.athrow, 1))
    (hout : ∀ x ∈ c.exceptionTable.toList, covers x (pc + 9) = false)
    (hRframes : names.length + 3 < R.frames) (hRlocals : (rest.map fun v => v.category).sum + (13 * (names.length + 1) + 43) ≤ R.locals) (hRcells : cells + 1 ≤ R.cells) (hRslots : slots + 6 ≤ R.slots) (hlocks : meth.locks = false)
    (hx : ∀ t : State, s.vm.Alike t.vm → H.size ≤ t.heap.size → (∀ q : Nat, q < H.size → t.heap[q]? = H[q]?) → XC cls s t)
    (hf : ∀ z ∈ locs, free z.base) (hc : cells + 1 ≤ mc) (hs : slots + 6 ≤ ms) :
    W p l e R s m args below meth c H locs cells slots (vx_MQ below Qc XC args s mc ms free) (F0 m pc ls rest) := by
  intro T hT X
  have htr : e.platform.stackTraces = false := (show e.platform.stackTraces = l.stackTraces by rw [X.admits.platform]).trans hl
  have Y := vx_rebase X (R' := { frames := R.frames, locals := R.locals, cells := 1, slots := 6 }) (Nat.le_refl _) (Nat.le_refl _) hRcells hRslots
  obtain ⟨s', hA⟩ : ∃ z, z = (T.setVm s.vm).setFrames (.invoking m args :: below) := ⟨_, rfl⟩
  rw [← hA] at Y
  have hvm : s'.vm = s.vm := by rw [hA]; rfl
  have hhp : s'.heap = H := by rw [hA]; exact hT
  have hW0 : s.WarmedH s'.vm := by rw [hvm]; exact State.WarmedH.refl s
  have hat' : ∀ w ∈ vx_atS own ic cls names, w.before args s' = true := fun w hw => vx_ot_at hW0 hvm.symm (hgood w (List.mem_cons_of_mem _ (List.mem_cons_of_mem _ hw))) (hat w hw)
  have hk' : (Cond.classLink own ik cls).before args s' = true := vx_ot_at hW0 hvm.symm (hgood _ List.mem_cons_self) hk
  have hini' : (Cond.initialized cls).before args s' = true := vx_ot_at hW0 hvm.symm (hgood _ (List.mem_cons_of_mem _ List.mem_cons_self)) hini
  have hU' : vx_Zq Bundle.tN "UNASSIGNED_STACK" Bundle.steD A s' s'.heap := by rw [hhp]; exact vx_Zq.moved hW0.alike (hU.kept hS.2.1)
  have hN' : vx_Zq Bundle.tN "SUPPRESSED_SENTINEL" Bundle.listD A s' s'.heap := by rw [hhp]; exact vx_Zq.moved hW0.alike (hN.kept hS.2.1)
  have h : ∀ w ∈ Bundle.ownAtoms own ic cls names, w.before args s' = true := vx_own hat' (vx_isRefq hU'.1) (vx_isRefq hN'.1) hU'.2.word hN'.2.word
  have hown' : s'.vm.findClass own = some m.cls := by rw [hvm]; exact hown
  have hins : (Cond.instantiable cls 6).before args s' = true := h _ (by simp [Bundle.ownAtoms])
  obtain ⟨vm₁, cX, kX, hfX, hkX, -, -, X₁, st1⟩ := Y.newCold hexec (own := own) (C := cls) (index := ik) (n := 6) hown' hk' hins hini'
    (g := F0 m pc ls rest) rfl (by rw [hb]; exact d0) (Nat.le_refl _) (Nat.le_refl _)
  generalize hT1 : (T.setVm vm₁).pushCell { cls := cX, slots := kX.instanceTypes.map defaultValue, vm := .none } = T1 at X₁ st1
  have hcat : (Value.ref T.heap.size).category = 1 := rfl
  have hcellA : T1.heap[T.heap.size]? = some (freshCell cX kX) := by rw [← hT1]; exact State.heap_pushCell_size _ _
  have d3' : decode c.code (pc + 3) = .ok (.dup, 1) := by rw [hb]; exact d3
  have d4' : decode c.code (pc + 4) = .ok (.ldc is, 2) := by rw [hb]; exact d4
  have hstr' : vk_R own is text sa s' := vk_R.warm hW0 hstr
  obtain ⟨U, hsteps, hrun, hend, hW, hsame, ce, hce, hO⟩ := X₁.ctorThrowS hexec htr (own := own) (cls := cls) (names := names) (ic := ic) hown' hcls hnames h (fun x hx => nomatch hx) hfX hkX hcellA (by rw [hhp, hT]; exact Nat.le_refl _) (msg := .ref sa) rfl
    (g := { method := m, pc := pc + 6, locals := ls, stack := .ref sa :: .ref T.heap.size :: .ref T.heap.size :: rest, locked := none }) rfl hsize rfl rfl (rest := rest) rfl
    (by rw [hb]; exact d6) (by rw [hb]; exact d9) hout hRframes (by simp only [List.map_cons, List.sum_cons, hcat]; omega) hlocks
  obtain ⟨f1, f2⟩ := vx_frame hsame
  rw [hhp] at f1 f2
  have hWs : s.WarmedH U.vm := State.WarmedH.trans hW0 hW
  have hcl : s.vm.findClass cls = some ce.cls := by
    have h9 := hO.cls
    rw [hvm] at h9
    exact h9
  have hall : s.sameButNew ({ U with vm := s.vm } : State) locs mc ms := by
    subst hA
    obtain ⟨e1, e2⟩ := hsame
    rw [State.setFrames_setFrames] at e1
    have h2 : (T.setVm s.vm).sameButNew ({ U with vm := s.vm } : State) [] (0 + 1) (0 + 6) := ⟨e1, e2⟩
    have h3 := X.same.trans h2
    rw [List.append_nil] at h3
    exact h3.mono hc hs
  refine ⟨U, ?_, .threw T.heap.size, hrun, hend, Or.inr ⟨T.heap.size, rfl, cls, ce, locs, hx U hWs.alike f1 (fun q hq => f2 q hq (fun z hz => nomatch hz)), hce, hO.vm, hcl, hWs, hall, hf⟩⟩
  refine st1 _ ?_
  show Steps p.tables e below (T1.setTop { method := m, pc := pc + 3, locals := ls, stack := .ref T.heap.size :: rest, locked := none }) _
  jvm_step X₁.here [X₁.here.top, hexec, d3', Value.category]
  exact X₁.ldcString hexec (own := own) (text := text) (index := is) (a := sa) hown' hstr'.1 hstr'.2
    (g := { method := m, pc := pc + 4, locals := ls, stack := .ref T.heap.size :: .ref T.heap.size :: rest, locked := none }) rfl d4' _ hsteps
/-- 'throw new E("text")', the text by a wide index -/
theorem vx_throwSW {cc : ByteArray} {pc : Nat} (hexec : p.tables.exec = Jvm.exec) (hb : c.code = cc) (hl : l.stackTraces = false) {own cls text : String} {names : List String} {ik is ic mc ms sa : Nat} {A : Nat → Prop}
    (hown : s.vm.findClass own = some m.cls) (hcls : Bundle.fit cls = true) (hnames : ∀ n ∈ names, Bundle.fit n = true)
    (hk : (Cond.classLink own ik cls).before args s = true) (hini : (Cond.initialized cls).before args s = true) (hstr : vk_R own is text sa s) (hat : ∀ w ∈ vx_atS own ic cls names, w.before args s = true)
    (hgood : ∀ w ∈ Cond.classLink own ik cls :: Cond.initialized cls :: vx_atS own ic cls names, vx_ot w = true)
    (hU : vx_Zq Bundle.tN "UNASSIGNED_STACK" Bundle.steD A s s.heap) (hN : vx_Zq Bundle.tN "SUPPRESSED_SENTINEL" Bundle.listD A s s.heap) (hS : va_S A s.heap H locs) (hsize : ls.size = c.maxLocals)
    (d0 : decode cc pc = .ok (.new ik, 3)) (d3 : decode cc (pc + 3) = .ok (.dup, 1)) (d4 : decode cc (pc + 4) = .ok (.ldc_w is, 3)) (d7 : decode cc (pc + 7) = .ok (.invokespecial ic, 3)) (d10 : decode cc (pc + 10) = .ok (.athrow, 1))
    (hout : ∀ x ∈ c.exceptionTable.toList, covers x (pc + 10) = false)
    (hRframes : names.length + 3 < R.frames) (hRlocals : (rest.map fun v => v.category).sum + (13 * (names.length + 1) + 43) ≤ R.locals) (hRcells : cells + 1 ≤ R.cells) (hRslots : slots + 6 ≤ R.slots) (hlocks : meth.locks = false)
    (hx : ∀ t : State, s.vm.Alike t.vm → H.size ≤ t.heap.size → (∀ q : Nat, q < H.size → t.heap[q]? = H[q]?) → XC cls s t)
    (hf : ∀ z ∈ locs, free z.base) (hc : cells + 1 ≤ mc) (hs : slots + 6 ≤ ms) :
    W p l e R s m args below meth c H locs cells slots (vx_MQ below Qc XC args s mc ms free) (F0 m pc ls rest) := by
  intro T hT X
  have htr : e.platform.stackTraces = false := (show e.platform.stackTraces = l.stackTraces by rw [X.admits.platform]).trans hl
  have Y := vx_rebase X (R' := { frames := R.frames, locals := R.locals, cells := 1, slots := 6 }) (Nat.le_refl _) (Nat.le_refl _) hRcells hRslots
  obtain ⟨s', hA⟩ : ∃ z, z = (T.setVm s.vm).setFrames (.invoking m args :: below) := ⟨_, rfl⟩
  rw [← hA] at Y
  have hvm : s'.vm = s.vm := by rw [hA]; rfl
  have hhp : s'.heap = H := by rw [hA]; exact hT
  have hW0 : s.WarmedH s'.vm := by rw [hvm]; exact State.WarmedH.refl s
  have hat' : ∀ w ∈ vx_atS own ic cls names, w.before args s' = true := fun w hw => vx_ot_at hW0 hvm.symm (hgood w (List.mem_cons_of_mem _ (List.mem_cons_of_mem _ hw))) (hat w hw)
  have hk' : (Cond.classLink own ik cls).before args s' = true := vx_ot_at hW0 hvm.symm (hgood _ List.mem_cons_self) hk
  have hini' : (Cond.initialized cls).before args s' = true := vx_ot_at hW0 hvm.symm (hgood _ (List.mem_cons_of_mem _ List.mem_cons_self)) hini
  have hU' : vx_Zq Bundle.tN "UNASSIGNED_STACK" Bundle.steD A s' s'.heap := by rw [hhp]; exact vx_Zq.moved hW0.alike (hU.kept hS.2.1)
  have hN' : vx_Zq Bundle.tN "SUPPRESSED_SENTINEL" Bundle.listD A s' s'.heap := by rw [hhp]; exact vx_Zq.moved hW0.alike (hN.kept hS.2.1)
  have h : ∀ w ∈ Bundle.ownAtoms own ic cls names, w.before args s' = true := vx_own hat' (vx_isRefq hU'.1) (vx_isRefq hN'.1) hU'.2.word hN'.2.word
  have hown' : s'.vm.findClass own = some m.cls := by rw [hvm]; exact hown
  have hins : (Cond.instantiable cls 6).before args s' = true := h _ (by simp [Bundle.ownAtoms])
  obtain ⟨vm₁, cX, kX, hfX, hkX, -, -, X₁, st1⟩ := Y.newCold hexec (own := own) (C := cls) (index := ik) (n := 6) hown' hk' hins hini'
    (g := F0 m pc ls rest) rfl (by rw [hb]; exact d0) (Nat.le_refl _) (Nat.le_refl _)
  generalize hT1 : (T.setVm vm₁).pushCell { cls := cX, slots := kX.instanceTypes.map defaultValue, vm := .none } = T1 at X₁ st1
  have hcat : (Value.ref T.heap.size).category = 1 := rfl
  have hcellA : T1.heap[T.heap.size]? = some (freshCell cX kX) := by rw [← hT1]; exact State.heap_pushCell_size _ _
  have d3' : decode c.code (pc + 3) = .ok (.dup, 1) := by rw [hb]; exact d3
  have d4' : decode c.code (pc + 4) = .ok (.ldc_w is, 3) := by rw [hb]; exact d4
  have hstr' : vk_R own is text sa s' := vk_R.warm hW0 hstr
  obtain ⟨U, hsteps, hrun, hend, hW, hsame, ce, hce, hO⟩ := X₁.ctorThrowS hexec htr (own := own) (cls := cls) (names := names) (ic := ic) hown' hcls hnames h (fun x hx => nomatch hx) hfX hkX hcellA (by rw [hhp, hT]; exact Nat.le_refl _) (msg := .ref sa) rfl
    (g := { method := m, pc := pc + 7, locals := ls, stack := .ref sa :: .ref T.heap.size :: .ref T.heap.size :: rest, locked := none }) rfl hsize rfl rfl (rest := rest) rfl
    (by rw [hb]; exact d7) (by rw [hb]; exact d10) hout hRframes (by simp only [List.map_cons, List.sum_cons, hcat]; omega) hlocks
  obtain ⟨f1, f2⟩ := vx_frame hsame
  rw [hhp] at f1 f2
  have hWs : s.WarmedH U.vm := State.WarmedH.trans hW0 hW
  have hcl : s.vm.findClass cls = some ce.cls := by
    have h9 := hO.cls
    rw [hvm] at h9
    exact h9
  have hall : s.sameButNew ({ U with vm := s.vm } : State) locs mc ms := by
    subst hA
    obtain ⟨e1, e2⟩ := hsame
    rw [State.setFrames_setFrames] at e1
    have h2 : (T.setVm s.vm).sameButNew ({ U with vm := s.vm } : State) [] (0 + 1) (0 + 6) := ⟨e1, e2⟩
    have h3 := X.same.trans h2
    rw [List.append_nil] at h3
    exact h3.mono hc hs
  refine ⟨U, ?_, .threw T.heap.size, hrun, hend, Or.inr ⟨T.heap.size, rfl, cls, ce, locs, hx U hWs.alike f1 (fun q hq => f2 q hq (fun z hz => nomatch hz)), hce, hO.vm, hcl, hWs, hall, hf⟩⟩
  refine st1 _ ?_
  show Steps p.tables e below (T1.setTop { method := m, pc := pc + 3, locals := ls, stack := .ref T.heap.size :: rest, locked := none }) _
  jvm_step X₁.here [X₁.here.top, hexec, d3', Value.category]
  exact X₁.ldcStringW hexec (own := own) (text := text) (index := is) (a := sa) hown' hstr'.1 hstr'.2
    (g := { method := m, pc := pc + 4, locals := ls, stack := .ref T.heap.size :: .ref T.heap.size :: rest, locked := none }) rfl d4' _ hsteps
end Ends
section Bodies
variable {l : Launch}
theorem vx_ofW {y : MethodName} {ws ws' : List Cond} {rm : Room} {Pc : Array Value → State → Prop} {Qc : Array Value → State → Outcome → State → Prop} {XC : String → State → State → Prop} {mc ms : Nat} {free : Addr → Prop} {cc : ByteArray} {maxL : Nat} {ret : Option FieldType}
    (hy : plainName y.cls = true) (hw : ws = Cond.code y cc maxL ret :: ws')
    (body : ∀ p e s m args below meth c s₁, BodyLoose p l y (headSpec ws rm) cc maxL ret e s m args below meth c s₁ → c.maxLocals = maxL → (∀ x ∈ c.exceptionTable.toList, False) → Pc args s →
      W p l e (headSpec ws rm).room s m args below meth c s.heap [] 0 0 (vx_MQ below Qc XC args s mc ms free) (entryFrame m args maxL)) : vx_Met l y ws rm Pc Qc XC mc ms free := by
  refine MetFree.of_bodyS (code := cc) (maxLocals := maxL) (ret := ret) hy ?_ ?_
  · intro args s m h hn
    obtain ⟨meth, c, h1, h2, h3, h4, h5, h6, -, -⟩ := Cond.code_spec hn (atoms_spec (ws := ws) h _ (by rw [hw]; exact List.mem_cons_self))
    exact ⟨meth, c, h1, h2, h3, h4, h5, h6⟩
  · intro p e s m args below meth c s₁ B hml hP _
    have hh0 : s₁.heap = s.heap := by rw [B.state]; rfl
    have ht : ∀ x ∈ c.exceptionTable.toList, False := by
      obtain ⟨meth9, c9, h1, h2, -, -, -, -, h7, -⟩ := Cond.code_spec B.named (atoms_spec (ws := ws) B.pre _ (by rw [hw]; exact List.mem_cons_self))
      cases Option.some.inj (h1.symm.trans B.method)
      cases Option.some.inj (h2.symm.trans (Stand.of_body B).code)
      intro x hx
      rw [Array.isEmpty_iff.mp h7] at hx
      cases hx
    obtain ⟨t, a1, o, b1, b2, b3⟩ := body p e s m args below meth c s₁ B hml ht hP s₁ hh0 (Stand.of_body B)
    exact ⟨t, o, a1, b1, b2, b3⟩
/-- the table of a body with handlers -/
theorem vx_table {p : Program} {x y : MethodName} {S : Spec} {cc bytes : ByteArray} {maxL maxL' : Nat} {ret ret' : Option FieldType} {e : Env} {s s₁ : State} {m : MethodId} {args : Array Value} {below : List Frame} {meth : Method} {c : Code} {hh : List (Nat × Nat × Nat × Nat)}
    (B : BodyLoose p l y S cc maxL ret e s m args below meth c s₁) (h : (Cond.codeWith y bytes maxL' ret' hh).before args s = true) : c.exceptionTable.toList = tableOf hh := by
  obtain ⟨m9, meth9, c9, hn9, h1, h2, -, -, h6, -⟩ := Cond.codeWith_spec h
  cases Option.some.inj (hn9.symm.trans B.named)
  cases Option.some.inj (h1.symm.trans B.method)
  cases Option.some.inj (h2.symm.trans (Stand.of_body B).code)
  rw [← h6, table_eq]
end Bodies
end VXA
/-! ===== END ===== -/
/-! ===== BEGIN a static call of a method with an exception table ===== -/
section VXS
variable {p : Program} {l : Launch} {e : Env} {R : Room} {s : State} {m : MethodId} {args : Array Value} {below : List Frame} {meth : Method} {c : Code} {T : State} {H : Heap} {locs : List Loc} {cells slots : Nat}
abbrev vx_CSW (R : Room) (s : State) (args : Array Value) (own : String) (index : Nat) (y : MethodName) (bytes : ByteArray) (maxL : Nat) (ret : Option FieldType) (hh : List (Nat × Nat × Nat × Nat)) (ws : List Cond) (rm : Room) (mc ms n : Nat) : Prop :=
  (rm.cells = mc ∧ rm.slots = ms ∧ rm.frames + 1 ≤ R.frames ∧ 8 + (maxL + 11) + rm.locals ≤ R.locals ∧ (∀ w ∈ ws, ∀ (a' : Array Value) (U : State), s.WarmedH U.vm → w.before a' U = true) ∧ Cond.codeWith y bytes maxL ret hh ∈ ws) ∧
  (Cond.codeWith y bytes maxL ret hh).before args s = true ∧ (Cond.initialized y.cls).before args s = true ∧ (y.cls ≠ "java/lang/invoke/MethodHandle" ∧ y.cls ≠ "java/lang/invoke/VarHandle") ∧
  (∀ sig, parseMethodDescriptor y.desc = some sig → n = sig.parameters.length) ∧ (Cond.methodLink own index y).before args s = true ∧ (Cond.static y).before args s = true
theorem vx_cwSW {own : String} {index maxL mc ms : Nat} {y : MethodName} {bytes : ByteArray} {ret : Option FieldType} {hh : List (Nat × Nat × Nat × Nat)} {Ts ws ws' : List Cond} {rm : Room} (n : Nat) (ht : ∀ w ∈ Ts, w.before args s = true) (hT : GoodIn Ts (va_wsS own index y ws)) (hw : ws = Cond.codeWith y bytes maxL ret hh :: ws') (hrc : rm.cells = mc) (hrs : rm.slots = ms)
    (hd : y.cls ≠ "java/lang/invoke/MethodHandle" ∧ y.cls ≠ "java/lang/invoke/VarHandle" ∧ (parseMethodDescriptor y.desc).map (fun d => d.parameters.length) = some n) (hR : rm.frames + 1 ≤ R.frames ∧ 8 + (maxL + 11) + rm.locals ≤ R.locals) :
    vx_CSW R s args own index y bytes maxL ret hh ws rm mc ms n := by
  have ok : ∀ w ∈ va_wsS own index y ws, w.before args s = true := fun w h => ht w (hT w h).1
  have hG : GoodIn Ts ws := fun w h => hT w (by unfold va_wsS; exact List.mem_append_right _ h)
  have hc : Cond.codeWith y bytes maxL ret hh ∈ ws := by rw [hw]; exact List.mem_cons_self
  refine ⟨⟨hrc, hrs, hR.1, hR.2, pay_in ht hG, hc⟩, ht _ (hG _ hc).1, ok _ (by simp [va_wsS]), ⟨hd.1, hd.2.1⟩, fun sig h => ?_, ok _ (by simp [va_wsS]), ok _ (by simp [va_wsS])⟩
  have h2 := hd.2.2
  rw [h] at h2
  exact (Option.some.inj h2).symm
theorem vx_callSW (X : Stand p l e R s m args below meth c T locs cells slots) (hexec : p.tables.exec = Jvm.exec) {own : String} {index : Nat} {y : MethodName} {bytes : ByteArray} {maxL : Nat} {ret : Option FieldType} {hh : List (Nat × Nat × Nat × Nat)}
    (hown : s.vm.findClass own = some m.cls) (hlink : (Cond.methodLink own index y).before args s = true) (hstat : (Cond.static y).before args s = true) (hinit : (Cond.initialized y.cls).before args s = true)
    (hcode : (Cond.codeWith y bytes maxL ret hh).before args s = true) (hy : y.cls ≠ "java/lang/invoke/MethodHandle" ∧ y.cls ≠ "java/lang/invoke/VarHandle")
    {W9 : Nat} {Pre : Pt → Array Value → Prop} {Post : Pt → Array Value → Option Value → Pt → Prop} (hK : Back l R p e below s args y 3 W9 Pre Post)
    {g : JFrame} (hg : g.method = m) (hsize : g.locals.size = c.maxLocals) {argsL rest : List Value} (hlen : ∀ sig, parseMethodDescriptor y.desc = some sig → argsL.length = sig.parameters.length)
    (hstack : g.stack = argsL.reverse ++ rest) (hW : 2 * g.monitorRoom + (rest.map fun v => v.category).sum ≤ W9) (hdg : decode c.code g.pc = .ok (.invokestatic index, 3))
    (hpre : ∀ vm₁, s.WarmedH vm₁ → Pre ⟨T.setVm vm₁, locs, cells, slots⟩ argsL.toArray) :
    ∃ (v : Option Value) (vm₁ : Vm) (B : Pt), s.WarmedH vm₁ ∧ Stand p l e R s m args below meth c B.U B.locs B.cells B.slots ∧ Post ⟨T.setVm vm₁, locs, cells, slots⟩ argsL.toArray v B ∧
      ∀ target, Steps p.tables e below (B.U.setTop { g with pc := g.pc + 3, stack := v.toList ++ rest }) target → Steps p.tables e below (T.setTop g) target := by
  obtain ⟨mk, methM, cM, hnamed, hmethM, -, -, -, -, -, -, hsigM⟩ := Cond.codeWith_spec hcode
  have hstatic : methM.isStatic = true := Cond.static_spec hnamed hmethM hstat
  obtain ⟨kP, hkP, -⟩ := className_of_methodNamed hnamed
  have hinitP : kP.init = .initialized := Cond.initialized_spec (findClass_of_methodNamed hnamed) hkP hinit
  obtain ⟨vm₁, X₁, hstep₁⟩ := X.invokestatic hexec hown hlink hnamed hmethM hstatic hkP hinitP hy (g := g) hg (argsL := argsL) (rest := rest) (hlen _ hsigM) hstack hdg
  obtain ⟨v, B, X', hpost, hsteps⟩ := hK m meth c ⟨T.setVm vm₁, locs, cells, slots⟩ { g with stack := rest } (.invokestatic index) mk argsL.toArray X₁ hg hsize hdg hW (X₁.named hnamed) (hpre vm₁ X₁.warmed)
  exact ⟨v, vm₁, B, X₁.warmed, X', hpost, fun target h => hstep₁ _ fun acts => by rw [doInvoke_state]; exact hsteps.trans h⟩
theorem vx_runSW {y : MethodName} {bytes cc : ByteArray} {maxL nL mc ms n index : Nat} {ret : Option FieldType} {hh : List (Nat × Nat × Nat × Nat)} {ws : List Cond} {rm : Room} {Pc : Array Value → State → Prop} {Qc : Array Value → State → Outcome → State → Prop} {free : Addr → Prop} {Ts : List Cond} {own : String} {As rest : List Value} {g : JFrame}
    (S : CallFix p m c cc nL s args Ts own) (hM : Met l y ws rm Pc Qc mc ms free) (cw : vx_CSW R s args own index y bytes maxL ret hh ws rm mc ms n) (hp : PreS s H Pc As)
    (hg : g.method = m) (hn : As.length = n) (hsize : g.locals.size = nL) (hstack : g.stack = As.reverse ++ rest) (hW : 2 * g.monitorRoom + (rest.map fun v => v.category).sum ≤ 8) (hdg : decode cc g.pc = .ok (.invokestatic index, 3)) (hf : cells + mc ≤ R.cells ∧ slots + ms ≤ R.slots) :
    va_Run p l e R s m args below meth c H locs cells slots mc ms g rest (Qc As.toArray) (free) := by
  obtain ⟨⟨hrc, hrs, hfr, hlo, hws, hcw⟩, hcode, hini, hy, hlen, hl, hstt⟩ := cw
  have hK : Back l R p e below s args y 3 8 (PreOf R mc ms Pc) (PostOf Qc mc ms free) := va_backW (hh := hh) (bytes := bytes) (maxL := maxL) (ret := ret) hM hp.1 hrc hrs hfr hlo hws hcw (fun a' U hW => word_at hW (Or.inl (by first | rfl | simp [Cond.onTables, Cond.keeps, Cond.steady])) hini)
  obtain ⟨hx, hb, hml, ho, -⟩ := S
  intro T hT X
  obtain ⟨v, vm₁, ⟨U', l2, c2, s2⟩, hW₁, X', ⟨g', mk, t, L, e1, e2, hq, h1, hL, h2, h3⟩, st⟩ := vx_callSW X hx (hh := hh) (bytes := bytes) (maxL := maxL) (ret := ret) ho hl hstt hini hcode hy hK hg (hsize.trans hml.symm) (argsL := As) (rest := rest) (fun sig h => hn.trans (hlen sig h)) hstack hW (by rw [hb]; exact hdg)
    (fun vm₁ hW₁ => ⟨hf.1, hf.2, hp.2 (T.setVm vm₁) hT hW₁⟩)
  dsimp only [Pt.U, Pt.locs, Pt.cells, Pt.slots] at X' e1 e2 h1 h2 h3 st
  subst h1; subst h2; subst h3
  exact ⟨v, (T.setVm vm₁).calling g' mk As.toArray, t, U', L, hT, X', hL, e1, e2, hq, st⟩
/-- not caught here, past rows that name other classes: it goes on to the caller -/
theorem vx_outP {p : Program} {l : Launch} {e : Env} {R : Room} {s : State} {m : MethodId} {args : Array Value} {below : List Frame} {meth : Method} {c : Code} {H : Heap} {locs : List Loc} {cells slots : Nat} {free : Addr → Prop} {ls : Array Slot} {rest : List Value} {Qc : Array Value → State → Outcome → State → Prop} {XC : String → State → State → Prop}
    {pc : Nat} {own E : String} {ce : Cell} {q : Addr} {mc ms : Nat} (hown : s.vm.findClass own = some m.cls) (hlocks : meth.locks = false)
    (hpass : ∀ z ∈ c.exceptionTable.toList, covers z pc = false ∨ (z.catchType ≠ 0 ∧ ∃ nm : String, (Cond.classLink own z.catchType nm).before args s = true ∧ va_Nc E nm s)) (hcell : H[q]? = some ce) (hv : ce.vm = .none) (hcl : s.vm.findClass E = some ce.cls)
    (hx : ∀ t : State, t.heap = H → s.vm.Alike t.vm → XC E s t) (hf : ∀ z ∈ locs, free z.base) (hc : cells ≤ mc) (hs : slots ≤ ms) :
    vx_W p l e R s m args below meth c H locs cells slots (vx_MQ below Qc XC args s mc ms free) (F0 m pc ls rest) q := by
  intro T hT X
  have hpl : e.platform.magicAccessors = ({} : Platform).magicAccessors := by rw [X.admits.platform]
  obtain ⟨vm', hW', X', st⟩ := X.outThrough hlocks q (g := F0 m pc ls rest) rfl rfl rfl (cell := ce) (by rw [hT]; exact hcell) (by rw [hv]; rfl)
    (by obtain ⟨k9, h9, -⟩ := Vm.findClass_spec hcl; exact ⟨k9, h9⟩) (fun z hz => by
      rcases hpass z hz with h | ⟨hz0, nm, hl1, hn1⟩
      · exact Or.inl h
      · obtain ⟨c6, hc6, hcl6⟩ := Cond.classLink_spec hown hl1 e.platform hpl
        obtain ⟨a8, b8, h1, h2, h3⟩ := hn1
        cases Option.some.inj (h1.symm.trans hcl)
        cases Option.some.inj (h2.symm.trans hc6)
        exact Or.inr ⟨hz0, _, hcl6, h3⟩)
  obtain ⟨g₀, hfr⟩ := X'.frames_eq
  have hcell9 : ((T.setVm vm').setFrames (.throwing q :: below)).heap[q]? = some ce := by
    show T.heap[q]? = some ce
    rw [hT]; exact hcell
  have hend : Ended ((T.setVm vm').setFrames (.throwing q :: below)) below (.threw q) := State.frames_setFrames _ (State.cur_lt_of_frames hfr)
  refine ⟨(T.setVm vm').setFrames (.throwing q :: below), ?_, .threw q, X'.here.running, hend, Or.inr ⟨q, rfl, E, ce, locs, hx _ hT (X'.ends _).1.alike, hcell9, hv, hcl, (X'.ends _).1, (X'.ends _).2.mono hc hs, hf⟩⟩
  rw [X.pushThrowing_eq]
  exact st
/-- a thing of a world lies in the heap -/
theorem vx_lt {D : va_G} {cl : List vw_C} {ws : va_W} {H1 : Heap} (h : va_P D cl ws H1) {k : Nat} {q : Nat × va_E} (hk : ws[k]? = some q) : q.1 < H1.size := (h k q hk).lt
end VXS
/-! ===== END ===== -/
/-! ===== BEGIN methods with a table of their own: called by a name, returning or throwing ===== -/
section VXH
/-! vx_backW, vx_callVX, vx_callSX, vx_callVW, vx_runVW, vx_runVX, vx_runSX, vx_ofWH follow the same proofs as their sisters above (Free/Laws.lean, Shelf42/LK1.lean); vx_outP calls Shelf42/NT130.lean (outThrough). -/
section
variable {l : Launch} {R : Room} {p : Program} {e : Env} {below : List Frame} {s : State} {sargs : Array Value} {y : MethodName} {len W9 : Nat}
theorem vx_backW {ws : List Cond} {rm : Room} {Pc : Array Value → State → Prop} {Qc : Array Value → State → Outcome → State → Prop} {XC : String → State → State → Prop} {mc ms : Nat} {free : Addr → Prop} {bytes : ByteArray} {maxL : Nat} {ret : Option FieldType} {hh : List (Nat × Nat × Nat × Nat)}
    (hM : vx_Met l y ws rm Pc Qc XC mc ms free) (hblind : FrameBlind Pc) (hrc : rm.cells = mc) (hrs : rm.slots = ms)
    (hframes : rm.frames + 1 ≤ R.frames) (hlocals : W9 + (maxL + 11) + rm.locals ≤ R.locals)
    (hws : ∀ w ∈ ws, ∀ a' U, s.WarmedH U.vm → w.before a' U = true) (hcode : Cond.codeWith y bytes maxL ret hh ∈ ws) (hinit : ∀ a' U, s.WarmedH U.vm → (Cond.initialized y.cls).before a' U = true) :
    vx_Back l R p e below s sargs y len W9 (PreOf R mc ms Pc) (PostOf Qc mc ms free) (vx_Post XC mc ms free) := by
  intro m meth c A g ig mk a X hg hsize hdg hW hn hp
  have h1 : (headSpec ws rm).pre.before a A.U = true := atoms_intro fun w hw => hws w hw _ _ X.warmed
  have h2 : (Cond.codeWith y bytes maxL ret hh).before a A.U = true := hws _ hcode _ _ X.warmed
  have h3 : (Cond.initialized y.cls).before a A.U = true := hinit _ _ X.warmed
  have h4 : A.cells + (headSpec ws rm).room.cells ≤ R.cells := by rw [show (headSpec ws rm).room.cells = mc from hrc]; exact hp.1
  have h5 : A.slots + (headSpec ws rm).room.slots ≤ R.slots := by rw [show (headSpec ws rm).room.slots = ms from hrs]; exact hp.2.1
  have hPc : Pc a (A.U.calling g mk a) := hblind _ _ _ _ hp.2.2
  obtain ⟨U, Ls, c0, s0⟩ := A
  dsimp only [Pt.U, Pt.locs, Pt.cells, Pt.slots] at h1 h2 h3 h4 h5 X hn hPc ⊢
  obtain ⟨m9, methY, cY, hn9, hmY, hcY, -, hlY, -⟩ := Cond.codeWith_spec h2
  cases Option.some.inj (hn9.symm.trans hn)
  obtain ⟨kY, hkY, -⟩ := className_of_methodNamed hn
  have hinitY : kY.init = .initialized := Cond.initialized_spec (findClass_of_methodNamed hn) hkY h3
  have h : At U g.method c below := by rw [hg]; exact X.here
  have hlocals9 : W9 + (maxL + 11) + (headSpec ws rm).room.locals ≤ R.locals := hlocals
  have happ : (headSpec ws rm).appliesLoose y e.platform (U.calling g mk a) = true :=
    Spec.appliesLoose_calling (g := g) h hdg hn hkY hinitY
      (X.room_calling (g := g) (R' := (headSpec ws rm).room) hsize hmY hcY hframes (by rw [hlY]; omega) h4 h5) h1
  obtain ⟨mid, hmid⟩ := h.above
  have hfr : (U.setTop g).frames = (.java g :: mid) ++ below := by rw [State.frames_setTop' g h.top, hmid]; rfl
  obtain ⟨o, s₂, hsteps, -, hend, hq⟩ := Steps.callFree hM p X.admits X.cas X.clock (acts := []) hfr happ hPc trivial
  have hq' : vx_Q Qc XC mc ms free a (U.calling g mk a) o s₂ := hq
  rw [State.frames_setTop' g h.top] at hend
  obtain ⟨g₀, hg0⟩ := Option.isSome_iff_exists.mp h.top
  obtain ⟨r, hr⟩ := State.topJava?_eq_some.mp hg0
  have hr' : (({ U with heap := s₂.heap, slotsUsed := s₂.slotsUsed } : State).setVm s₂.vm).frames = .java g₀ :: r := hr
  rcases hq' with ⟨hqc, L, hfe, hL⟩ | ⟨q, rfl, E, ce, L, hx, hce, hcv, hcl, hW₂, hsm, hL⟩
  · obtain ⟨⟨v, rfl⟩, hW₂, e2, q2, q3, q4, q5, q6⟩ := id hfe
    have e3 : s₂ = ({ (U.calling g mk a).setFrames s₂.frames with heap := s₂.heap, slotsUsed := s₂.slotsUsed } : State).setVm s₂.vm := by
      have : s₂ = ({ s₂ with vm := (U.calling g mk a).vm } : State).setVm s₂.vm := rfl
      rw [e2] at this
      exact this
    obtain ⟨c₂, i₂, len₂, hc₂, hd₂, hf₂⟩ := hend
    have hW' : U.WarmedH s₂.vm := hW₂
    have hcc : c₂ = c := by
      have h1 : s₂.code? g.method = U.code? g.method := by
        rw [State.code?_eq, State.code?_eq, hW'.alike.method?]
      exact Option.some.inj (hc₂.symm.trans (h1.trans h.code))
    subst hcc
    have hlen : len₂ = len := by rw [hdg] at hd₂; cases hd₂; rfl
    subst hlen
    have hs₂ : s₂ = (({ U with heap := s₂.heap, slotsUsed := s₂.slotsUsed } : State).setVm s₂.vm).setTop { g with pc := g.pc + len₂, stack := v.toList ++ g.stack } := by
      refine e3.trans ?_
      rw [hf₂, State.calling_eq h.top, State.setFrames_setFrames, State.setTop_of_frames _ hr', hr]
      rfl
    have hsame : U.sameButNew ({ U with heap := s₂.heap, slotsUsed := s₂.slotsUsed } : State) L mc ms := by
      refine ⟨?_, q2, q3, q4, q5, q6⟩
      obtain ⟨t, ht, -⟩ := State.frames_cons hr
      show ({ U with heap := s₂.heap, slotsUsed := s₂.slotsUsed } : State) = { U.setFrames U.frames with heap := s₂.heap, slotsUsed := s₂.slotsUsed }
      rw [State.setFrames_self ht]
    subst hg
    refine Or.inl ⟨v, ⟨(({ U with heap := s₂.heap, slotsUsed := s₂.slotsUsed } : State).setVm s₂.vm), Ls ++ L, c0 + mc, s0 + ms⟩,
      ⟨X.admits, X.cas, X.clock, X.frames, X.room, X.hears, X.method, X.code, (X.here.setHeapUsed s₂.heap s₂.slotsUsed).setVm hW'.alike, X.tail, State.WarmedH.trans X.warmed hW', X.limits, X.bytes, X.same.trans (hsame.setVm s.vm)⟩,
      ⟨g, mk, s₂, L, rfl, rfl, hqc, rfl, hL, rfl, rfl⟩, ?_⟩
    show Steps p.tables e below _ ((({ U with heap := s₂.heap, slotsUsed := s₂.slotsUsed } : State).setVm s₂.vm).setTop { g with pc := g.pc + len₂, stack := v.toList ++ g.stack })
    rw [← hs₂]
    exact hsteps
  · obtain ⟨e2, q2, q3, q4, q5, q6⟩ := id hsm
    have e3 : s₂ = ({ (U.calling g mk a).setFrames s₂.frames with heap := s₂.heap, slotsUsed := s₂.slotsUsed } : State).setVm s₂.vm := by
      have : s₂ = ({ s₂ with vm := (U.calling g mk a).vm } : State).setVm s₂.vm := rfl
      rw [e2] at this
      exact this
    have hf₂ : s₂.frames = .throwing q :: .java g :: U.frames.tail := hend
    have hW' : U.WarmedH s₂.vm := hW₂
    have hs₂ : s₂ = ((({ U with heap := s₂.heap, slotsUsed := s₂.slotsUsed } : State).setVm s₂.vm).setTop g).pushFrame (.throwing q) := by
      refine e3.trans ?_
      rw [hf₂, State.calling_eq h.top, State.setFrames_setFrames, State.pushFrame, State.frames_setTop _ hr', State.setTop_of_frames _ hr', State.setFrames_setFrames, hr]
      rfl
    have hsame : U.sameButNew ({ U with heap := s₂.heap, slotsUsed := s₂.slotsUsed } : State) L mc ms := by
      refine ⟨?_, q2, q3, q4, q5, q6⟩
      obtain ⟨t, ht, -⟩ := State.frames_cons hr
      show ({ U with heap := s₂.heap, slotsUsed := s₂.slotsUsed } : State) = { U.setFrames U.frames with heap := s₂.heap, slotsUsed := s₂.slotsUsed }
      rw [State.setFrames_self ht]
    subst hg
    refine Or.inr ⟨q, ⟨(({ U with heap := s₂.heap, slotsUsed := s₂.slotsUsed } : State).setVm s₂.vm), Ls ++ L, c0 + mc, s0 + ms⟩,
      ⟨X.admits, X.cas, X.clock, X.frames, X.room, X.hears, X.method, X.code, (X.here.setHeapUsed s₂.heap s₂.slotsUsed).setVm hW'.alike, X.tail, State.WarmedH.trans X.warmed hW', X.limits, X.bytes, X.same.trans (hsame.setVm s.vm)⟩,
      ⟨g, mk, s₂, L, E, ce, rfl, rfl, hx, hce, hcv, hcl, rfl, hL, rfl, rfl⟩, ?_⟩
    show Steps p.tables e below _ (((({ U with heap := s₂.heap, slotsUsed := s₂.slotsUsed } : State).setVm s₂.vm).setTop g).pushFrame (.throwing q))
    rw [← hs₂]
    exact hsteps
end
variable {p : Program} {l : Launch} {e : Env} {R : Room} {s : State} {m : MethodId} {args : Array Value} {below : List Frame} {meth : Method} {c : Code} {T : State} {H : Heap} {locs : List Loc} {cells slots : Nat}
theorem vx_callVX (X : Stand p l e R s m args below meth c T locs cells slots) (hexec : p.tables.exec = Jvm.exec) {own C : String} {index : Nat} {y : MethodName} {bytes : ByteArray} {maxL : Nat} {ret : Option FieldType} {hh : List (Nat × Nat × Nat × Nat)}
    (hown : s.vm.findClass own = some m.cls) (hlink : (Cond.methodLink own index y).before args s = true) (hinst : (Cond.instanceMethod y).before args s = true) (hsel : (Cond.selects C y y).before args s = true)
    (hcode : (Cond.codeWith y bytes maxL ret hh).before args s = true) (hy : y.cls ≠ "java/lang/invoke/MethodHandle" ∧ y.cls ≠ "java/lang/invoke/VarHandle")
    {W9 : Nat} {Pre : Pt → Array Value → Prop} {Post : Pt → Array Value → Option Value → Pt → Prop} {PostX : Pt → Array Value → Addr → Pt → Prop} (hK : vx_Back l R p e below s args y 3 W9 Pre Post PostX)
    {b : Addr} {cellB : Cell} (hcell : T.heap[b]? = some cellB) (hobj : cellB.vm.isStatics = false) (hcls : s.vm.findClass C = some cellB.cls)
    {g : JFrame} (hg : g.method = m) (hsize : g.locals.size = c.maxLocals) {argsL rest : List Value} (hlen : ∀ sig, parseMethodDescriptor y.desc = some sig → argsL.length = sig.parameters.length)
    (hstack : g.stack = argsL.reverse ++ .ref b :: rest) (hW : 2 * g.monitorRoom + (rest.map fun v => v.category).sum ≤ W9) (hdg : decode c.code g.pc = .ok (.invokevirtual index, 3))
    (hpre : ∀ vm₁, s.WarmedH vm₁ → Pre ⟨T.setVm vm₁, locs, cells, slots⟩ (Value.ref b :: argsL).toArray) :
    (∃ (v : Option Value) (vm₁ : Vm) (B : Pt), s.WarmedH vm₁ ∧ Stand p l e R s m args below meth c B.U B.locs B.cells B.slots ∧ Post ⟨T.setVm vm₁, locs, cells, slots⟩ (Value.ref b :: argsL).toArray v B ∧
      ∀ target, Steps p.tables e below (B.U.setTop { g with pc := g.pc + 3, stack := v.toList ++ rest }) target → Steps p.tables e below (T.setTop g) target) ∨
    (∃ (q : Addr) (vm₁ : Vm) (B : Pt), s.WarmedH vm₁ ∧ Stand p l e R s m args below meth c B.U B.locs B.cells B.slots ∧ PostX ⟨T.setVm vm₁, locs, cells, slots⟩ (Value.ref b :: argsL).toArray q B ∧
      Steps p.tables e below (T.setTop g) ((B.U.setTop { g with stack := rest }).pushFrame (.throwing q))) := by
  obtain ⟨mk, methM, hnamed, hmethM, hstM, habM⟩ := Cond.instanceMethod_spec hinst
  obtain ⟨m8, methM', cM, hn8, hmethM', -, -, -, -, -, -, hsigM⟩ := Cond.codeWith_spec hcode
  cases Option.some.inj (hn8.symm.trans hnamed)
  cases hmethM.symm.trans hmethM'
  obtain ⟨c2, r2, m2, q1, q2, q3, q4, kP, hkP, hkPi⟩ := Cond.selects_spec hsel
  cases hcls.symm.trans q1
  cases (State.methodFound?_of_named hnamed hy).symm.trans q2
  cases hnamed.symm.trans q3
  have hselP : selectMethod e.platform s.vm cellB.cls mk = .method mk := by rw [Launch.admits_selectMethod X.admits]; exact q4
  obtain ⟨vm₁, X₁, hstep₁⟩ := X.invokevirtual hexec hown hlink hnamed hmethM hstM hkP hkPi hy (a := b) (cell := cellB) hcell
    (fun z h => by rw [h] at hobj; cases hobj) hselP hmethM habM hkP hkPi (g := g) hg (argsL := argsL) (rest := rest) (hlen _ hsigM) hstack hdg
  rcases hK m meth c ⟨T.setVm vm₁, locs, cells, slots⟩ { g with stack := rest } (.invokevirtual index) mk (Value.ref b :: argsL).toArray X₁ hg hsize hdg hW (X₁.named hnamed) (hpre vm₁ X₁.warmed) with ⟨v, B, X', hpost, hsteps⟩ | ⟨q, B, X', hpost, hsteps⟩
  · exact Or.inl ⟨v, vm₁, B, X₁.warmed, X', hpost, fun target h => hstep₁ _ fun acts => by rw [doInvoke_state]; exact hsteps.trans h⟩
  · exact Or.inr ⟨q, vm₁, B, X₁.warmed, X', hpost, hstep₁ _ fun acts => by rw [doInvoke_state]; exact hsteps⟩
theorem vx_callSX (X : Stand p l e R s m args below meth c T locs cells slots) (hexec : p.tables.exec = Jvm.exec) {own : String} {index : Nat} {y : MethodName} {bytes : ByteArray} {maxL : Nat} {ret : Option FieldType} {hh : List (Nat × Nat × Nat × Nat)}
    (hown : s.vm.findClass own = some m.cls) (hlink : (Cond.methodLink own index y).before args s = true) (hstat : (Cond.static y).before args s = true) (hinit : (Cond.initialized y.cls).before args s = true)
    (hcode : (Cond.codeWith y bytes maxL ret hh).before args s = true) (hy : y.cls ≠ "java/lang/invoke/MethodHandle" ∧ y.cls ≠ "java/lang/invoke/VarHandle")
    {W9 : Nat} {Pre : Pt → Array Value → Prop} {Post : Pt → Array Value → Option Value → Pt → Prop} {PostX : Pt → Array Value → Addr → Pt → Prop} (hK : vx_Back l R p e below s args y 3 W9 Pre Post PostX)
    {g : JFrame} (hg : g.method = m) (hsize : g.locals.size = c.maxLocals) {argsL rest : List Value} (hlen : ∀ sig, parseMethodDescriptor y.desc = some sig → argsL.length = sig.parameters.length)
    (hstack : g.stack = argsL.reverse ++ rest) (hW : 2 * g.monitorRoom + (rest.map fun v => v.category).sum ≤ W9) (hdg : decode c.code g.pc = .ok (.invokestatic index, 3))
    (hpre : ∀ vm₁, s.WarmedH vm₁ → Pre ⟨T.setVm vm₁, locs, cells, slots⟩ argsL.toArray) :
    (∃ (v : Option Value) (vm₁ : Vm) (B : Pt), s.WarmedH vm₁ ∧ Stand p l e R s m args below meth c B.U B.locs B.cells B.slots ∧ Post ⟨T.setVm vm₁, locs, cells, slots⟩ argsL.toArray v B ∧
      ∀ target, Steps p.tables e below (B.U.setTop { g with pc := g.pc + 3, stack := v.toList ++ rest }) target → Steps p.tables e below (T.setTop g) target) ∨
    (∃ (q : Addr) (vm₁ : Vm) (B : Pt), s.WarmedH vm₁ ∧ Stand p l e R s m args below meth c B.U B.locs B.cells B.slots ∧ PostX ⟨T.setVm vm₁, locs, cells, slots⟩ argsL.toArray q B ∧
      Steps p.tables e below (T.setTop g) ((B.U.setTop { g with stack := rest }).pushFrame (.throwing q))) := by
  obtain ⟨mk, methM, cM, hnamed, hmethM, -, -, -, -, -, -, hsigM⟩ := Cond.codeWith_spec hcode
  have hstatic : methM.isStatic = true := Cond.static_spec hnamed hmethM hstat
  obtain ⟨kP, hkP, -⟩ := className_of_methodNamed hnamed
  have hinitP : kP.init = .initialized := Cond.initialized_spec (findClass_of_methodNamed hnamed) hkP hinit
  obtain ⟨vm₁, X₁, hstep₁⟩ := X.invokestatic hexec hown hlink hnamed hmethM hstatic hkP hinitP hy (g := g) hg (argsL := argsL) (rest := rest) (hlen _ hsigM) hstack hdg
  rcases hK m meth c ⟨T.setVm vm₁, locs, cells, slots⟩ { g with stack := rest } (.invokestatic index) mk argsL.toArray X₁ hg hsize hdg hW (X₁.named hnamed) (hpre vm₁ X₁.warmed) with ⟨v, B, X', hpost, hsteps⟩ | ⟨q, B, X', hpost, hsteps⟩
  · exact Or.inl ⟨v, vm₁, B, X₁.warmed, X', hpost, fun target h => hstep₁ _ fun acts => by rw [doInvoke_state]; exact hsteps.trans h⟩
  · exact Or.inr ⟨q, vm₁, B, X₁.warmed, X', hpost, hstep₁ _ fun acts => by rw [doInvoke_state]; exact hsteps⟩
theorem vx_callVW (X : Stand p l e R s m args below meth c T locs cells slots) (hexec : p.tables.exec = Jvm.exec) {own C : String} {index : Nat} {y : MethodName} {bytes : ByteArray} {maxL : Nat} {ret : Option FieldType} {hh : List (Nat × Nat × Nat × Nat)}
    (hown : s.vm.findClass own = some m.cls) (hlink : (Cond.methodLink own index y).before args s = true) (hinst : (Cond.instanceMethod y).before args s = true) (hsel : (Cond.selects C y y).before args s = true)
    (hcode : (Cond.codeWith y bytes maxL ret hh).before args s = true) (hy : y.cls ≠ "java/lang/invoke/MethodHandle" ∧ y.cls ≠ "java/lang/invoke/VarHandle")
    {W9 : Nat} {Pre : Pt → Array Value → Prop} {Post : Pt → Array Value → Option Value → Pt → Prop} (hK : Back l R p e below s args y 3 W9 Pre Post)
    {b : Addr} {cellB : Cell} (hcell : T.heap[b]? = some cellB) (hobj : cellB.vm.isStatics = false) (hcls : s.vm.findClass C = some cellB.cls)
    {g : JFrame} (hg : g.method = m) (hsize : g.locals.size = c.maxLocals) {argsL rest : List Value} (hlen : ∀ sig, parseMethodDescriptor y.desc = some sig → argsL.length = sig.parameters.length)
    (hstack : g.stack = argsL.reverse ++ .ref b :: rest) (hW : 2 * g.monitorRoom + (rest.map fun v => v.category).sum ≤ W9) (hdg : decode c.code g.pc = .ok (.invokevirtual index, 3))
    (hpre : ∀ vm₁, s.WarmedH vm₁ → Pre ⟨T.setVm vm₁, locs, cells, slots⟩ (Value.ref b :: argsL).toArray) :
    ∃ (v : Option Value) (vm₁ : Vm) (B : Pt), s.WarmedH vm₁ ∧ Stand p l e R s m args below meth c B.U B.locs B.cells B.slots ∧ Post ⟨T.setVm vm₁, locs, cells, slots⟩ (Value.ref b :: argsL).toArray v B ∧
      ∀ target, Steps p.tables e below (B.U.setTop { g with pc := g.pc + 3, stack := v.toList ++ rest }) target → Steps p.tables e below (T.setTop g) target := by
  obtain ⟨mk, methM, hnamed, hmethM, hstM, habM⟩ := Cond.instanceMethod_spec hinst
  obtain ⟨m8, methM', cM, hn8, hmethM', -, -, -, -, -, -, hsigM⟩ := Cond.codeWith_spec hcode
  cases Option.some.inj (hn8.symm.trans hnamed)
  cases hmethM.symm.trans hmethM'
  obtain ⟨c2, r2, m2, q1, q2, q3, q4, kP, hkP, hkPi⟩ := Cond.selects_spec hsel
  cases hcls.symm.trans q1
  cases (State.methodFound?_of_named hnamed hy).symm.trans q2
  cases hnamed.symm.trans q3
  have hselP : selectMethod e.platform s.vm cellB.cls mk = .method mk := by rw [Launch.admits_selectMethod X.admits]; exact q4
  obtain ⟨vm₁, X₁, hstep₁⟩ := X.invokevirtual hexec hown hlink hnamed hmethM hstM hkP hkPi hy (a := b) (cell := cellB) hcell
    (fun z h => by rw [h] at hobj; cases hobj) hselP hmethM habM hkP hkPi (g := g) hg (argsL := argsL) (rest := rest) (hlen _ hsigM) hstack hdg
  obtain ⟨v, B, X', hpost, hsteps⟩ := hK m meth c ⟨T.setVm vm₁, locs, cells, slots⟩ { g with stack := rest } (.invokevirtual index) mk (Value.ref b :: argsL).toArray X₁ hg hsize hdg hW (X₁.named hnamed) (hpre vm₁ X₁.warmed)
  exact ⟨v, vm₁, B, X₁.warmed, X', hpost, fun target h => hstep₁ _ fun acts => by rw [doInvoke_state]; exact hsteps.trans h⟩
abbrev vx_CVW (R : Room) (s : State) (args : Array Value) (own C : String) (index : Nat) (y : MethodName) (bytes : ByteArray) (maxL : Nat) (ret : Option FieldType) (hh : List (Nat × Nat × Nat × Nat)) (ws : List Cond) (rm : Room) (mc ms n : Nat) : Prop :=
  (rm.cells = mc ∧ rm.slots = ms ∧ rm.frames + 1 ≤ R.frames ∧ 8 + (maxL + 11) + rm.locals ≤ R.locals ∧ (∀ w ∈ ws, ∀ (a' : Array Value) (U : State), s.WarmedH U.vm → w.before a' U = true) ∧ Cond.codeWith y bytes maxL ret hh ∈ ws) ∧
  (Cond.codeWith y bytes maxL ret hh).before args s = true ∧ (Cond.initialized y.cls).before args s = true ∧ (y.cls ≠ "java/lang/invoke/MethodHandle" ∧ y.cls ≠ "java/lang/invoke/VarHandle") ∧
  (∀ sig, parseMethodDescriptor y.desc = some sig → n = sig.parameters.length) ∧ (Cond.methodLink own index y).before args s = true ∧ (Cond.instanceMethod y).before args s = true ∧ (Cond.selects C y y).before args s = true
theorem vx_cwVW {own C : String} {index maxL mc ms : Nat} {y : MethodName} {bytes : ByteArray} {ret : Option FieldType} {hh : List (Nat × Nat × Nat × Nat)} {Ts ws ws' : List Cond} {rm : Room} (n : Nat) (ht : ∀ w ∈ Ts, w.before args s = true) (hT : GoodIn Ts (wsV own index C y ws)) (hw : ws = Cond.codeWith y bytes maxL ret hh :: ws') (hrc : rm.cells = mc) (hrs : rm.slots = ms)
    (hd : y.cls = C ∧ y.cls ≠ "java/lang/invoke/MethodHandle" ∧ y.cls ≠ "java/lang/invoke/VarHandle" ∧ (parseMethodDescriptor y.desc).map (fun d => d.parameters.length) = some n) (hR : rm.frames + 1 ≤ R.frames ∧ 8 + (maxL + 11) + rm.locals ≤ R.locals) :
    vx_CVW R s args own C index y bytes maxL ret hh ws rm mc ms n := by
  obtain ⟨hC, hd⟩ := hd
  subst hC
  have ok : ∀ w ∈ wsV own index y.cls y ws, w.before args s = true := fun w h => ht w (hT w h).1
  have hG : GoodIn Ts ws := fun w h => hT w (by unfold wsV; exact List.mem_append_right _ h)
  have hc : Cond.codeWith y bytes maxL ret hh ∈ ws := by rw [hw]; exact List.mem_cons_self
  refine ⟨⟨hrc, hrs, hR.1, hR.2, pay_in ht hG, hc⟩, ht _ (hG _ hc).1, ok _ (by simp [wsV]), ⟨hd.1, hd.2.1⟩, fun sig h => ?_, ok _ (by simp [wsV]), ok _ (by simp [wsV]), ok _ (by simp [wsV])⟩
  have h2 := hd.2.2
  rw [h] at h2
  exact (Option.some.inj h2).symm
theorem vx_runVW {y : MethodName} {bytes cc : ByteArray} {maxL nL mc ms n index : Nat} {ret : Option FieldType} {hh : List (Nat × Nat × Nat × Nat)} {ws : List Cond} {rm : Room} {Pc : Array Value → State → Prop} {Qc : Array Value → State → Outcome → State → Prop} {free : Addr → Prop} {Ts : List Cond} {own C : String} {b : Addr} {As rest : List Value} {g : JFrame}
    (S : CallFix p m c cc nL s args Ts own) (hM : Met l y ws rm Pc Qc mc ms free) (cw : vx_CVW R s args own C index y bytes maxL ret hh ws rm mc ms n) (hp : PreV s H C b Pc As)
    (hg : g.method = m) (hn : As.length = n) (hsize : g.locals.size = nL) (hstack : g.stack = As.reverse ++ .ref b :: rest) (hW : 2 * g.monitorRoom + (rest.map fun v => v.category).sum ≤ 8) (hdg : decode cc g.pc = .ok (.invokevirtual index, 3)) (hf : cells + mc ≤ R.cells ∧ slots + ms ≤ R.slots) :
    va_Run p l e R s m args below meth c H locs cells slots mc ms g rest (Qc (Value.ref b :: As).toArray) free := by
  obtain ⟨⟨hrc, hrs, hfr, hlo, hws, hcw⟩, hcode, hini, hy, hlen, hl, hin, hse⟩ := cw
  have hK : Back l R p e below s args y 3 8 (PreOf R mc ms Pc) (PostOf Qc mc ms free) := va_backW (hh := hh) (bytes := bytes) (maxL := maxL) (ret := ret) hM hp.1 hrc hrs hfr hlo hws hcw (fun a' U hW => word_at hW (Or.inl (by first | rfl | simp [Cond.onTables, Cond.keeps, Cond.steady])) hini)
  obtain ⟨hx, hb, hml, ho, -⟩ := S
  obtain ⟨-, ⟨cellB, hcB, hoB, hclB⟩, hPc⟩ := hp
  intro T hT X
  obtain ⟨v, vm₁, ⟨U', l2, c2, s2⟩, hW₁, X', ⟨g', mk, t, L, e1, e2, hq, h1, hL, h2, h3⟩, st⟩ := vx_callVW X hx (C := C) (hh := hh) (bytes := bytes) (maxL := maxL) (ret := ret) ho hl hin hse hcode hy hK (by rw [hT]; exact hcB) hoB hclB hg (hsize.trans hml.symm) (argsL := As) (rest := rest) (fun sig h => hn.trans (hlen sig h)) hstack hW (by rw [hb]; exact hdg)
    (fun vm₁ hW₁ => ⟨hf.1, hf.2, hPc (T.setVm vm₁) hT hW₁⟩)
  dsimp only [Pt.U, Pt.locs, Pt.cells, Pt.slots] at X' e1 e2 h1 h2 h3 st
  subst h1; subst h2; subst h3
  exact ⟨v, (T.setVm vm₁).calling g' mk (Value.ref b :: As).toArray, t, U', L, hT, X', hL, e1, e2, hq, st⟩
section
variable {y : MethodName} {bytes cc : ByteArray} {maxL nL mc ms n index : Nat} {ret : Option FieldType} {ws : List Cond} {rm : Room} {Pc : Array Value → State → Prop} {Qc : Array Value → State → Outcome → State → Prop} {XC : String → State → State → Prop} {free : Addr → Prop} {Ts : List Cond} {own C : String} {b : Addr} {As rest : List Value} {g : JFrame}
theorem vx_runVX {hh : List (Nat × Nat × Nat × Nat)} (S : CallFix p m c cc nL s args Ts own) (hM : vx_Met l y ws rm Pc Qc XC mc ms free) (cw : vx_CVW R s args own C index y bytes maxL ret hh ws rm mc ms n) (hp : PreV s H C b Pc As)
    (hg : g.method = m) (hn : As.length = n) (hsize : g.locals.size = nL) (hstack : g.stack = As.reverse ++ .ref b :: rest) (hW : 2 * g.monitorRoom + (rest.map fun v => v.category).sum ≤ 8) (hdg : decode cc g.pc = .ok (.invokevirtual index, 3)) (hf : cells + mc ≤ R.cells ∧ slots + ms ≤ R.slots) :
    vx_Run p l e R s m args below meth c H locs cells slots mc ms g rest (Qc (Value.ref b :: As).toArray) XC free := by
  obtain ⟨⟨hrc, hrs, hfr, hlo, hws, hcw⟩, hcode, hini, hy, hlen, hl, hin, hse⟩ := cw
  have hK : vx_Back l R p e below s args y 3 8 (PreOf R mc ms Pc) (PostOf Qc mc ms free) (vx_Post XC mc ms free) := vx_backW (hh := hh) (bytes := bytes) (maxL := maxL) (ret := ret) hM hp.1 hrc hrs hfr hlo hws hcw (fun a' U hW => word_at hW (Or.inl (by first | rfl | simp [Cond.onTables, Cond.keeps, Cond.steady])) hini)
  obtain ⟨hx, hb, hml, ho, -⟩ := S
  obtain ⟨-, ⟨cellB, hcB, hoB, hclB⟩, hPc⟩ := hp
  intro T hT X
  rcases vx_callVX X hx (C := C) (hh := hh) (bytes := bytes) (maxL := maxL) (ret := ret) ho hl hin hse hcode hy hK (by rw [hT]; exact hcB) hoB hclB hg (hsize.trans hml.symm) (argsL := As) (rest := rest) (fun sig h => hn.trans (hlen sig h)) hstack hW (by rw [hb]; exact hdg)
    (fun vm₁ hW₁ => ⟨hf.1, hf.2, hPc (T.setVm vm₁) hT hW₁⟩) with ⟨v, vm₁, ⟨U', l2, c2, s2⟩, hW₁, X', ⟨g', mk, t, L, e1, e2, hq, h1, hL, h2, h3⟩, st⟩ | ⟨q, vm₁, ⟨U', l2, c2, s2⟩, hW₁, X', ⟨g', mk, t, L, E, ce, e1, e2, hq, hce, hcv, hcl, h1, hL, h2, h3⟩, st⟩
  · dsimp only [Pt.U, Pt.locs, Pt.cells, Pt.slots] at X' e1 e2 h1 h2 h3 st
    subst h1; subst h2; subst h3
    exact Or.inl ⟨v, (T.setVm vm₁).calling g' mk (Value.ref b :: As).toArray, t, U', L, hT, X', hL, e1, e2, hq, st⟩
  · dsimp only [Pt.U, Pt.locs, Pt.cells, Pt.slots] at X' e1 e2 h1 h2 h3 st hcl
    subst h1; subst h2; subst h3
    exact Or.inr ⟨q, (T.setVm vm₁).calling g' mk (Value.ref b :: As).toArray, t, U', L, E, ce, hT, X', hL, e1, e2, hq, hce, hcv, vx_cls hW₁ hcl, st⟩
theorem vx_runSX {hh : List (Nat × Nat × Nat × Nat)} (S : CallFix p m c cc nL s args Ts own) (hM : vx_Met l y ws rm Pc Qc XC mc ms free) (cw : vx_CSW R s args own index y bytes maxL ret hh ws rm mc ms n) (hp : PreS s H Pc As)
    (hg : g.method = m) (hn : As.length = n) (hsize : g.locals.size = nL) (hstack : g.stack = As.reverse ++ rest) (hW : 2 * g.monitorRoom + (rest.map fun v => v.category).sum ≤ 8) (hdg : decode cc g.pc = .ok (.invokestatic index, 3)) (hf : cells + mc ≤ R.cells ∧ slots + ms ≤ R.slots) :
    vx_Run p l e R s m args below meth c H locs cells slots mc ms g rest (Qc As.toArray) XC free := by
  obtain ⟨⟨hrc, hrs, hfr, hlo, hws, hcw⟩, hcode, hini, hy, hlen, hl, hstt⟩ := cw
  have hK : vx_Back l R p e below s args y 3 8 (PreOf R mc ms Pc) (PostOf Qc mc ms free) (vx_Post XC mc ms free) := vx_backW (hh := hh) (bytes := bytes) (maxL := maxL) (ret := ret) hM hp.1 hrc hrs hfr hlo hws hcw (fun a' U hW => word_at hW (Or.inl (by first | rfl | simp [Cond.onTables, Cond.keeps, Cond.steady])) hini)
  obtain ⟨hx, hb, hml, ho, -⟩ := S
  intro T hT X
  rcases vx_callSX X hx (hh := hh) (bytes := bytes) (maxL := maxL) (ret := ret) ho hl hstt hini hcode hy hK hg (hsize.trans hml.symm) (argsL := As) (rest := rest) (fun sig h => hn.trans (hlen sig h)) hstack hW (by rw [hb]; exact hdg)
    (fun vm₁ hW₁ => ⟨hf.1, hf.2, hp.2 (T.setVm vm₁) hT hW₁⟩) with ⟨v, vm₁, ⟨U', l2, c2, s2⟩, hW₁, X', ⟨g', mk, t, L, e1, e2, hq, h1, hL, h2, h3⟩, st⟩ | ⟨q, vm₁, ⟨U', l2, c2, s2⟩, hW₁, X', ⟨g', mk, t, L, E, ce, e1, e2, hq, hce, hcv, hcl, h1, hL, h2, h3⟩, st⟩
  · dsimp only [Pt.U, Pt.locs, Pt.cells, Pt.slots] at X' e1 e2 h1 h2 h3 st
    subst h1; subst h2; subst h3
    exact Or.inl ⟨v, (T.setVm vm₁).calling g' mk As.toArray, t, U', L, hT, X', hL, e1, e2, hq, st⟩
  · dsimp only [Pt.U, Pt.locs, Pt.cells, Pt.slots] at X' e1 e2 h1 h2 h3 st hcl
    subst h1; subst h2; subst h3
    exact Or.inr ⟨q, (T.setVm vm₁).calling g' mk As.toArray, t, U', L, E, ce, hT, X', hL, e1, e2, hq, hce, hcv, vx_cls hW₁ hcl, st⟩
end
end VXH
theorem vx_ofWH {l : Launch} {y : MethodName} {ws ws' : List Cond} {rm : Room} {Pc : Array Value → State → Prop} {Qc : Array Value → State → Outcome → State → Prop} {XC : String → State → State → Prop} {mc ms : Nat} {free : Addr → Prop} {cc : ByteArray} {maxL : Nat} {ret : Option FieldType} {hh : List (Nat × Nat × Nat × Nat)}
    (hy : plainName y.cls = true) (hw : ws = Cond.codeWith y cc maxL ret hh :: ws')
    (body : ∀ p e s m args below meth c s₁, BodyLoose p l y (headSpec ws rm) cc maxL ret e s m args below meth c s₁ → c.maxLocals = maxL → Pc args s →
      W p l e (headSpec ws rm).room s m args below meth c s.heap [] 0 0 (vx_MQ below Qc XC args s mc ms free) (entryFrame m args maxL)) : vx_Met l y ws rm Pc Qc XC mc ms free := by
  refine MetFree.of_bodyS (code := cc) (maxLocals := maxL) (ret := ret) hy ?_ ?_
  · intro args s m h hn
    obtain ⟨m9, meth, c, hn9, h1, h2, h3, h4, -, h5, h6, -⟩ := Cond.codeWith_spec (atoms_spec (ws := ws) h _ (by rw [hw]; exact List.mem_cons_self))
    cases hn.symm.trans hn9
    exact ⟨meth, c, h1, h2, h3, h4, h5, h6⟩
  · intro p e s m args below meth c s₁ B hml hP _
    have hh0 : s₁.heap = s.heap := by rw [B.state]; rfl
    obtain ⟨t, a1, o, b1, b2, b3⟩ := body p e s m args below meth c s₁ B hml hP s₁ hh0 (Stand.of_body B)
    exact ⟨t, o, a1, b1, b2, b3⟩
/-! ===== END ===== -/
end
section
def RX0 : String := "SlideBonfire$Accounts"
def TX0 : u_T := fun k => match k with
  | 0 => ("SlideBonfire$Accounts", "time", "I", false)
  | 1 => ("SlideBonfire$Accounts", "hits", "I", false)
  | 2 => ("SlideBonfire$Accounts", "misses", "I", false)
  | 3 => ("SlideBonfire$Accounts", "loads", "I", false)
  | 4 => ("SlideBonfire$Accounts", "warmLoads", "I", false)
  | 5 => ("SlideBonfire$Accounts", "burnings", "I", false)
  | _ => ("SlideBonfire$Accounts", "waited", "I", false)
def tyX0 : Nat → FieldType := fun k => match k with
  | 0 => .int
  | 1 => .int
  | 2 => .int
  | 3 => .int
  | 4 => .int
  | 5 => .int
  | _ => .int
abbrev wsX00 : List Cond := u_ws RX0 TX0 7
theorem nmX0 : ∀ a, a < 7 → ∀ b, b < 7 → a ≠ b → (TX0 a).2.1 ≠ (TX0 b).2.1 := by decide +kernel
theorem tyX0_ok : ∀ k, k < 7 → parseFieldDescriptor (TX0 k).2.2.1 = some (tyX0 k) := by decide +kernel
abbrev cX0_init : ByteArray := prog_2_method_1_code
def yX0_init : MethodName := ⟨RX0, "<init>", "()V"⟩
abbrev cX0_copyFrom : ByteArray := prog_2_method_2_code
def yX0_copyFrom : MethodName := ⟨RX0, "copyFrom", "(LSlideBonfire$Accounts;)V"⟩
abbrev cX0_shareOfHits : ByteArray := prog_2_method_3_code
def yX0_shareOfHits : MethodName := ⟨RX0, "shareOfHits", "()D"⟩
def RX1 : String := "SlideBonfire$Bonfire"
def TX1 : u_T := fun k => match k with
  | 0 => ("SlideBonfire$Bonfire", "slides", "LSlideBonfire$Slides;", true)
  | 1 => ("SlideBonfire$Bonfire", "programme", "LSlideBonfire$Programme;", true)
  | 2 => ("SlideBonfire$Bonfire", "stage", "LSlideBonfire$Stage;", true)
  | 3 => ("SlideBonfire$Bonfire", "loader", "LSlideBonfire$Loader;", true)
  | 4 => ("SlideBonfire$Bonfire", "settings", "LSlideBonfire$Settings;", true)
  | 5 => ("SlideBonfire$Bonfire", "accounts", "LSlideBonfire$Accounts;", true)
  | 6 => ("SlideBonfire$Bonfire", "weight", "[I", true)
  | _ => ("SlideBonfire$Bonfire", "line", "[I", true)
def tyX1 : Nat → FieldType := fun k => match k with
  | 0 => .object "SlideBonfire$Slides"
  | 1 => .object "SlideBonfire$Programme"
  | 2 => .object "SlideBonfire$Stage"
  | 3 => .object "SlideBonfire$Loader"
  | 4 => .object "SlideBonfire$Settings"
  | 5 => .object "SlideBonfire$Accounts"
  | 6 => .array .int
  | _ => .array .int
abbrev wsX10 : List Cond := u_ws RX1 TX1 8
theorem nmX1 : ∀ a, a < 8 → ∀ b, b < 8 → a ≠ b → (TX1 a).2.1 ≠ (TX1 b).2.1 := by decide +kernel
theorem tyX1_ok : ∀ k, k < 8 → parseFieldDescriptor (TX1 k).2.2.1 = some (tyX1 k) := by decide +kernel
abbrev cX1_init : ByteArray := prog_3_method_1_code
def yX1_init : MethodName := ⟨RX1, "<init>", "()V"⟩
abbrev cX1_copyFrom : ByteArray := prog_3_method_2_code
def yX1_copyFrom : MethodName := ⟨RX1, "copyFrom", "(LSlideBonfire$Bonfire;)V"⟩
abbrev cX1_mayGoOn : ByteArray := prog_3_method_3_code
def yX1_mayGoOn : MethodName := ⟨RX1, "mayGoOn", "()Z"⟩
abbrev cX1_mayAsk : ByteArray := prog_3_method_4_code
def yX1_mayAsk : MethodName := ⟨RX1, "mayAsk", "(I)Z"⟩
abbrev cX1_mayBurn : ByteArray := prog_3_method_5_code
def yX1_mayBurn : MethodName := ⟨RX1, "mayBurn", "(I)Z"⟩
abbrev cX1_obey : ByteArray := prog_3_method_6_code
def yX1_obey : MethodName := ⟨RX1, "obey", "(II)Z"⟩
abbrev cX1_obeyGoOn : ByteArray := prog_3_method_7_code
def yX1_obeyGoOn : MethodName := ⟨RX1, "obeyGoOn", "()Z"⟩
abbrev cX1_obeyAsk : ByteArray := prog_3_method_8_code
def yX1_obeyAsk : MethodName := ⟨RX1, "obeyAsk", "(I)Z"⟩
abbrev cX1_obeyBurn : ByteArray := prog_3_method_9_code
def yX1_obeyBurn : MethodName := ⟨RX1, "obeyBurn", "(I)Z"⟩
abbrev cX1_obeyInsert : ByteArray := prog_3_method_10_code
def yX1_obeyInsert : MethodName := ⟨RX1, "obeyInsert", "(I)Z"⟩
abbrev cX1_proceed : ByteArray := prog_3_method_11_code
def yX1_proceed : MethodName := ⟨RX1, "proceed", "()Z"⟩
abbrev cX1_bringOn : ByteArray := prog_3_method_12_code
def yX1_bringOn : MethodName := ⟨RX1, "bringOn", "(I)V"⟩
abbrev cX1_passTicks : ByteArray := prog_3_method_13_code
def yX1_passTicks : MethodName := ⟨RX1, "passTicks", "(I)I"⟩
abbrev cX1_passTick : ByteArray := prog_3_method_14_code
def yX1_passTick : MethodName := ⟨RX1, "passTick", "()I"⟩
abbrev cX1_paceIsReached : ByteArray := prog_3_method_15_code
def yX1_paceIsReached : MethodName := ⟨RX1, "paceIsReached", "()Z"⟩
abbrev cX1_loadOnce : ByteArray := prog_3_method_16_code
def yX1_loadOnce : MethodName := ⟨RX1, "loadOnce", "()Z"⟩
abbrev cX1_beginLoading : ByteArray := prog_3_method_17_code
def yX1_beginLoading : MethodName := ⟨RX1, "beginLoading", "()V"⟩
abbrev cX1_nextToLoad : ByteArray := prog_3_method_18_code
def yX1_nextToLoad : MethodName := ⟨RX1, "nextToLoad", "()I"⟩
abbrev cX1_nextInGoodTime : ByteArray := prog_3_method_19_code
def yX1_nextInGoodTime : MethodName := ⟨RX1, "nextInGoodTime", "()I"⟩
abbrev cX1_putOnFire : ByteArray := prog_3_method_20_code
def yX1_putOnFire : MethodName := ⟨RX1, "putOnFire", "(I)V"⟩
abbrev cX1_burnDownTo : ByteArray := prog_3_method_21_code
def yX1_burnDownTo : MethodName := ⟨RX1, "burnDownTo", "(I)V"⟩
abbrev cX1_lineUp : ByteArray := prog_3_method_22_code
def yX1_lineUp : MethodName := ⟨RX1, "lineUp", "()I"⟩
abbrev cX1_weighByUseOrCost : ByteArray := prog_3_method_23_code
def yX1_weighByUseOrCost : MethodName := ⟨RX1, "weighByUseOrCost", "()V"⟩
abbrev cX1_weighByNextUse : ByteArray := prog_3_method_24_code
def yX1_weighByNextUse : MethodName := ⟨RX1, "weighByNextUse", "()V"⟩
abbrev cX1_placeInLine : ByteArray := prog_3_method_25_code
def yX1_placeInLine : MethodName := ⟨RX1, "placeInLine", "(I)I"⟩
abbrev cX1_burningsToLoad : ByteArray := prog_3_method_26_code
def yX1_burningsToLoad : MethodName := ⟨RX1, "burningsToLoad", "(I)I"⟩
abbrev cX1_sumOfCosts : ByteArray := prog_3_method_27_code
def yX1_sumOfCosts : MethodName := ⟨RX1, "sumOfCosts", "()I"⟩
abbrev cX1_sumOfWait : ByteArray := prog_3_method_28_code
def yX1_sumOfWait : MethodName := ⟨RX1, "sumOfWait", "()I"⟩
def RX2 : String := "SlideBonfire$Loader"
def TX2 : u_T := fun k => match k with
  | 0 => ("SlideBonfire$Loader", "slide", "I", false)
  | 1 => ("SlideBonfire$Loader", "left", "I", false)
  | 2 => ("SlideBonfire$Loader", "queued", "I", false)
  | 3 => ("SlideBonfire$Loader", "row", "[I", true)
  | _ => ("SlideBonfire$Loader", "taken", "I", false)
def tyX2 : Nat → FieldType := fun k => match k with
  | 0 => .int
  | 1 => .int
  | 2 => .int
  | 3 => .array .int
  | _ => .int
abbrev wsX20 : List Cond := u_ws RX2 TX2 5
theorem nmX2 : ∀ a, a < 5 → ∀ b, b < 5 → a ≠ b → (TX2 a).2.1 ≠ (TX2 b).2.1 := by decide +kernel
theorem tyX2_ok : ∀ k, k < 5 → parseFieldDescriptor (TX2 k).2.2.1 = some (tyX2 k) := by decide +kernel
abbrev cX2_init : ByteArray := prog_4_method_1_code
def yX2_init : MethodName := ⟨RX2, "<init>", "()V"⟩
abbrev cX2_copyFrom : ByteArray := prog_4_method_2_code
def yX2_copyFrom : MethodName := ⟨RX2, "copyFrom", "(LSlideBonfire$Loader;)V"⟩
abbrev cX2_queuePlace : ByteArray := prog_4_method_3_code
def yX2_queuePlace : MethodName := ⟨RX2, "queuePlace", "(I)I"⟩
abbrev cX2_queue : ByteArray := prog_4_method_4_code
def yX2_queue : MethodName := ⟨RX2, "queue", "(I)V"⟩
abbrev cX2_unqueue : ByteArray := prog_4_method_5_code
def yX2_unqueue : MethodName := ⟨RX2, "unqueue", "(I)V"⟩
def RX3 : String := "SlideBonfire$Programme"
def TX3 : u_T := fun k => match k with
  | 0 => ("SlideBonfire$Programme", "count", "I", false)
  | 1 => ("SlideBonfire$Programme", "place", "I", false)
  | _ => ("SlideBonfire$Programme", "row", "[I", true)
def tyX3 : Nat → FieldType := fun k => match k with
  | 0 => .int
  | 1 => .int
  | _ => .array .int
abbrev wsX30 : List Cond := u_ws RX3 TX3 3
theorem nmX3 : ∀ a, a < 3 → ∀ b, b < 3 → a ≠ b → (TX3 a).2.1 ≠ (TX3 b).2.1 := by decide +kernel
theorem tyX3_ok : ∀ k, k < 3 → parseFieldDescriptor (TX3 k).2.2.1 = some (tyX3 k) := by decide +kernel
abbrev cX3_init : ByteArray := prog_5_method_1_code
def yX3_init : MethodName := ⟨RX3, "<init>", "()V"⟩
abbrev cX3_copyFrom : ByteArray := prog_5_method_2_code
def yX3_copyFrom : MethodName := ⟨RX3, "copyFrom", "(LSlideBonfire$Programme;)V"⟩
abbrev cX3_has : ByteArray := prog_5_method_3_code
def yX3_has : MethodName := ⟨RX3, "has", "(I)Z"⟩
abbrev cX3_put : ByteArray := prog_5_method_4_code
def yX3_put : MethodName := ⟨RX3, "put", "(II)V"⟩
abbrev cX3_remove : ByteArray := prog_5_method_5_code
def yX3_remove : MethodName := ⟨RX3, "remove", "(I)I"⟩
abbrev cX3_advance : ByteArray := prog_5_method_6_code
def yX3_advance : MethodName := ⟨RX3, "advance", "()I"⟩
abbrev cX3_slideAhead : ByteArray := prog_5_method_7_code
def yX3_slideAhead : MethodName := ⟨RX3, "slideAhead", "(I)I"⟩
abbrev cX3_placesUntil : ByteArray := prog_5_method_8_code
def yX3_placesUntil : MethodName := ⟨RX3, "placesUntil", "(I)I"⟩
def RX4 : String := "SlideBonfire$Settings"
def TX4 : u_T := fun k => match k with
  | 0 => ("SlideBonfire$Settings", "memory", "I", false)
  | 1 => ("SlideBonfire$Settings", "ahead", "I", false)
  | 2 => ("SlideBonfire$Settings", "order", "I", false)
  | 3 => ("SlideBonfire$Settings", "glow", "I", false)
  | _ => ("SlideBonfire$Settings", "pace", "I", false)
def tyX4 : Nat → FieldType := fun k => match k with
  | 0 => .int
  | 1 => .int
  | 2 => .int
  | 3 => .int
  | _ => .int
abbrev wsX40 : List Cond := u_ws RX4 TX4 5
theorem nmX4 : ∀ a, a < 5 → ∀ b, b < 5 → a ≠ b → (TX4 a).2.1 ≠ (TX4 b).2.1 := by decide +kernel
theorem tyX4_ok : ∀ k, k < 5 → parseFieldDescriptor (TX4 k).2.2.1 = some (tyX4 k) := by decide +kernel
abbrev cX4_init : ByteArray := prog_6_method_1_code
def yX4_init : MethodName := ⟨RX4, "<init>", "()V"⟩
abbrev cX4_copyFrom : ByteArray := prog_6_method_2_code
def yX4_copyFrom : MethodName := ⟨RX4, "copyFrom", "(LSlideBonfire$Settings;)V"⟩
def RX5 : String := "SlideBonfire$Shelf"
def TX5 : u_T := fun k => match k with
  | 0 => ("SlideBonfire$Shelf", "first", "I", false)
  | 1 => ("SlideBonfire$Shelf", "count", "I", false)
  | _ => ("SlideBonfire$Shelf", "ring", "[LSlideBonfire$Bonfire;", true)
def tyX5 : Nat → FieldType := fun k => match k with
  | 0 => .int
  | 1 => .int
  | _ => .array (.object "SlideBonfire$Bonfire")
abbrev wsX50 : List Cond := u_ws RX5 TX5 3
theorem nmX5 : ∀ a, a < 3 → ∀ b, b < 3 → a ≠ b → (TX5 a).2.1 ≠ (TX5 b).2.1 := by decide +kernel
theorem tyX5_ok : ∀ k, k < 3 → parseFieldDescriptor (TX5 k).2.2.1 = some (tyX5 k) := by decide +kernel
abbrev cX5_init : ByteArray := prog_7_method_1_code
def yX5_init : MethodName := ⟨RX5, "<init>", "()V"⟩
abbrev cX5_push : ByteArray := prog_7_method_2_code
def yX5_push : MethodName := ⟨RX5, "push", "(LSlideBonfire$Bonfire;)V"⟩
abbrev cX5_popInto : ByteArray := prog_7_method_3_code
def yX5_popInto : MethodName := ⟨RX5, "popInto", "(LSlideBonfire$Bonfire;)V"⟩
def RX6 : String := "SlideBonfire$Slides"
def TX6 : u_T := fun k => match k with
  | 0 => ("SlideBonfire$Slides", "count", "I", false)
  | 1 => ("SlideBonfire$Slides", "cost", "[I", true)
  | 2 => ("SlideBonfire$Slides", "load", "[I", true)
  | 3 => ("SlideBonfire$Slides", "fade", "[I", true)
  | 4 => ("SlideBonfire$Slides", "ready", "[Z", true)
  | 5 => ("SlideBonfire$Slides", "ember", "[I", true)
  | 6 => ("SlideBonfire$Slides", "burnt", "[I", true)
  | 7 => ("SlideBonfire$Slides", "usedAt", "[I", true)
  | _ => ("SlideBonfire$Slides", "uses", "I", false)
def tyX6 : Nat → FieldType := fun k => match k with
  | 0 => .int
  | 1 => .array .int
  | 2 => .array .int
  | 3 => .array .int
  | 4 => .array .boolean
  | 5 => .array .int
  | 6 => .array .int
  | 7 => .array .int
  | _ => .int
abbrev wsX60 : List Cond := u_ws RX6 TX6 9
theorem nmX6 : ∀ a, a < 9 → ∀ b, b < 9 → a ≠ b → (TX6 a).2.1 ≠ (TX6 b).2.1 := by decide +kernel
theorem tyX6_ok : ∀ k, k < 9 → parseFieldDescriptor (TX6 k).2.2.1 = some (tyX6 k) := by decide +kernel
abbrev cX6_init : ByteArray := prog_8_method_1_code
def yX6_init : MethodName := ⟨RX6, "<init>", "()V"⟩
abbrev cX6_copyFrom : ByteArray := prog_8_method_2_code
def yX6_copyFrom : MethodName := ⟨RX6, "copyFrom", "(LSlideBonfire$Slides;)V"⟩
abbrev cX6_has : ByteArray := prog_8_method_3_code
def yX6_has : MethodName := ⟨RX6, "has", "(I)Z"⟩
abbrev cX6_isReady : ByteArray := prog_8_method_4_code
def yX6_isReady : MethodName := ⟨RX6, "isReady", "(I)Z"⟩
abbrev cX6_setReady : ByteArray := prog_8_method_5_code
def yX6_setReady : MethodName := ⟨RX6, "setReady", "(IZ)V"⟩
abbrev cX6_add : ByteArray := prog_8_method_6_code
def yX6_add : MethodName := ⟨RX6, "add", "(III)I"⟩
abbrev cX6_ticksToLoad : ByteArray := prog_8_method_7_code
def yX6_ticksToLoad : MethodName := ⟨RX6, "ticksToLoad", "(II)I"⟩
abbrev cX6_use : ByteArray := prog_8_method_8_code
def yX6_use : MethodName := ⟨RX6, "use", "(I)V"⟩
abbrev cX6_coolEmbers : ByteArray := prog_8_method_9_code
def yX6_coolEmbers : MethodName := ⟨RX6, "coolEmbers", "()V"⟩
def RX7 : String := "SlideBonfire$Stage"
def TX7 : u_T := fun k => match k with
  | 0 => ("SlideBonfire$Stage", "shown", "I", false)
  | 1 => ("SlideBonfire$Stage", "shownFor", "I", false)
  | 2 => ("SlideBonfire$Stage", "fading", "I", false)
  | 3 => ("SlideBonfire$Stage", "fadeLeft", "I", false)
  | _ => ("SlideBonfire$Stage", "awaited", "I", false)
def tyX7 : Nat → FieldType := fun k => match k with
  | 0 => .int
  | 1 => .int
  | 2 => .int
  | 3 => .int
  | _ => .int
abbrev wsX70 : List Cond := u_ws RX7 TX7 5
theorem nmX7 : ∀ a, a < 5 → ∀ b, b < 5 → a ≠ b → (TX7 a).2.1 ≠ (TX7 b).2.1 := by decide +kernel
theorem tyX7_ok : ∀ k, k < 5 → parseFieldDescriptor (TX7 k).2.2.1 = some (tyX7 k) := by decide +kernel
abbrev cX7_init : ByteArray := prog_9_method_1_code
def yX7_init : MethodName := ⟨RX7, "<init>", "()V"⟩
abbrev cX7_copyFrom : ByteArray := prog_9_method_2_code
def yX7_copyFrom : MethodName := ⟨RX7, "copyFrom", "(LSlideBonfire$Stage;)V"⟩
abbrev cX7_bears : ByteArray := prog_9_method_3_code
def yX7_bears : MethodName := ⟨RX7, "bears", "(I)Z"⟩
abbrev cX7_bring : ByteArray := prog_9_method_4_code
def yX7_bring : MethodName := ⟨RX7, "bring", "(II)V"⟩
abbrev cX7_fadeOnce : ByteArray := prog_9_method_5_code
def yX7_fadeOnce : MethodName := ⟨RX7, "fadeOnce", "()V"⟩
abbrev cX7_countShown : ByteArray := prog_9_method_6_code
def yX7_countShown : MethodName := ⟨RX7, "countShown", "()V"⟩
def RX8 : String := "SlideBonfire$Text"
def TX8 : u_T := fun k => match k with
  | 0 => ("SlideBonfire$Text", "length", "I", false)
  | 1 => ("SlideBonfire$Text", "codes", "[I", true)
  | 2 => ("SlideBonfire$Text", "letter", "I", false)
  | 3 => ("SlideBonfire$Text", "number", "I", false)
  | _ => ("SlideBonfire$Text", "nextPart", "I", false)
def tyX8 : Nat → FieldType := fun k => match k with
  | 0 => .int
  | 1 => .array .int
  | 2 => .int
  | 3 => .int
  | _ => .int
abbrev wsX80 : List Cond := u_ws RX8 TX8 5
theorem nmX8 : ∀ a, a < 5 → ∀ b, b < 5 → a ≠ b → (TX8 a).2.1 ≠ (TX8 b).2.1 := by decide +kernel
theorem tyX8_ok : ∀ k, k < 5 → parseFieldDescriptor (TX8 k).2.2.1 = some (tyX8 k) := by decide +kernel
abbrev cX8_init : ByteArray := prog_10_method_1_code
def yX8_init : MethodName := ⟨RX8, "<init>", "()V"⟩
abbrev cX8_add : ByteArray := prog_10_method_2_code
def yX8_add : MethodName := ⟨RX8, "add", "(I)V"⟩
abbrev cX8_startReading : ByteArray := prog_10_method_3_code
def yX8_startReading : MethodName := ⟨RX8, "startReading", "()V"⟩
abbrev cX8_startPart : ByteArray := prog_10_method_4_code
def yX8_startPart : MethodName := ⟨RX8, "startPart", "()V"⟩
abbrev cX8_readPart : ByteArray := prog_10_method_5_code
def yX8_readPart : MethodName := ⟨RX8, "readPart", "()Z"⟩
abbrev cX8_readToError : ByteArray := prog_10_method_6_code
def yX8_readToError : MethodName := ⟨RX8, "readToError", "()I"⟩
abbrev cX8_tellsOrders : ByteArray := prog_10_method_7_code
def yX8_tellsOrders : MethodName := ⟨RX8, "tellsOrders", "()Z"⟩
abbrev cX8_partMayEnd : ByteArray := prog_10_method_8_code
def yX8_partMayEnd : MethodName := ⟨RX8, "partMayEnd", "()Z"⟩
abbrev cX8_accept : ByteArray := prog_10_method_9_code
def yX8_accept : MethodName := ⟨RX8, "accept", "(I)Z"⟩
abbrev cX8_acceptDigit : ByteArray := prog_10_method_10_code
def yX8_acceptDigit : MethodName := ⟨RX8, "acceptDigit", "(I)Z"⟩
def RX9 : String := "SlideBonfire"
def TX9 : u_T := fun k => match k with
  | 0 => ("SlideBonfire", "now", "LSlideBonfire$Bonfire;", true)
  | 1 => ("SlideBonfire", "trial", "LSlideBonfire$Bonfire;", true)
  | 2 => ("SlideBonfire", "saved", "LSlideBonfire$Shelf;", true)
  | 3 => ("SlideBonfire", "kept", "[LSlideBonfire$Bonfire;", true)
  | 4 => ("SlideBonfire", "isKept", "[Z", true)
  | _ => ("SlideBonfire", "buffer", "LSlideBonfire$Text;", true)
def tyX9 : Nat → FieldType := fun k => match k with
  | 0 => .object "SlideBonfire$Bonfire"
  | 1 => .object "SlideBonfire$Bonfire"
  | 2 => .object "SlideBonfire$Shelf"
  | 3 => .array (.object "SlideBonfire$Bonfire")
  | 4 => .array .boolean
  | _ => .object "SlideBonfire$Text"
abbrev wsX90 : List Cond := u_ws RX9 TX9 6
theorem nmX9 : ∀ a, a < 6 → ∀ b, b < 6 → a ≠ b → (TX9 a).2.1 ≠ (TX9 b).2.1 := by decide +kernel
theorem tyX9_ok : ∀ k, k < 6 → parseFieldDescriptor (TX9 k).2.2.1 = some (tyX9 k) := by decide +kernel
abbrev cX9_init : ByteArray := prog_1_method_1_code
def yX9_init : MethodName := ⟨RX9, "<init>", "()V"⟩
abbrev cX9_addSlide : ByteArray := prog_1_method_2_code
def yX9_addSlide : MethodName := ⟨RX9, "addSlide", "(III)I"⟩
abbrev cX9_insert : ByteArray := prog_1_method_3_code
def yX9_insert : MethodName := ⟨RX9, "insert", "(II)I"⟩
abbrev cX9_takeOut : ByteArray := prog_1_method_4_code
def yX9_takeOut : MethodName := ⟨RX9, "takeOut", "(I)I"⟩
abbrev cX9_goOn : ByteArray := prog_1_method_5_code
def yX9_goOn : MethodName := ⟨RX9, "goOn", "()Z"⟩
abbrev cX9_ask : ByteArray := prog_1_method_6_code
def yX9_ask : MethodName := ⟨RX9, "ask", "(I)I"⟩
abbrev cX9_burn : ByteArray := prog_1_method_7_code
def yX9_burn : MethodName := ⟨RX9, "burn", "(I)I"⟩
abbrev cX9_tick : ByteArray := prog_1_method_8_code
def yX9_tick : MethodName := ⟨RX9, "tick", "(I)I"⟩
abbrev cX9_changeMemory : ByteArray := prog_1_method_9_code
def yX9_changeMemory : MethodName := ⟨RX9, "changeMemory", "(I)I"⟩
abbrev cX9_changeAhead : ByteArray := prog_1_method_10_code
def yX9_changeAhead : MethodName := ⟨RX9, "changeAhead", "(I)I"⟩
abbrev cX9_changeOrder : ByteArray := prog_1_method_11_code
def yX9_changeOrder : MethodName := ⟨RX9, "changeOrder", "(I)I"⟩
abbrev cX9_changeGlow : ByteArray := prog_1_method_12_code
def yX9_changeGlow : MethodName := ⟨RX9, "changeGlow", "(I)I"⟩
abbrev cX9_changePace : ByteArray := prog_1_method_13_code
def yX9_changePace : MethodName := ⟨RX9, "changePace", "(I)I"⟩
abbrev cX9_append : ByteArray := prog_1_method_14_code
def yX9_append : MethodName := ⟨RX9, "append", "(I)I"⟩
abbrev cX9_clearBuffer : ByteArray := prog_1_method_15_code
def yX9_clearBuffer : MethodName := ⟨RX9, "clearBuffer", "()I"⟩
abbrev cX9_firstError : ByteArray := prog_1_method_16_code
def yX9_firstError : MethodName := ⟨RX9, "firstError", "()I"⟩
abbrev cX9_follow : ByteArray := prog_1_method_17_code
def yX9_follow : MethodName := ⟨RX9, "follow", "()I"⟩
abbrev cX9_keep : ByteArray := prog_1_method_18_code
def yX9_keep : MethodName := ⟨RX9, "keep", "(I)V"⟩
abbrev cX9_goBack : ByteArray := prog_1_method_19_code
def yX9_goBack : MethodName := ⟨RX9, "goBack", "(I)V"⟩
abbrev cX9_undo : ByteArray := prog_1_method_20_code
def yX9_undo : MethodName := ⟨RX9, "undo", "()V"⟩
abbrev cX9_savedStates : ByteArray := prog_1_method_21_code
def yX9_savedStates : MethodName := ⟨RX9, "savedStates", "()I"⟩
abbrev cX9_slides : ByteArray := prog_1_method_22_code
def yX9_slides : MethodName := ⟨RX9, "slides", "()I"⟩
abbrev cX9_costOf : ByteArray := prog_1_method_23_code
def yX9_costOf : MethodName := ⟨RX9, "costOf", "(I)I"⟩
abbrev cX9_loadOf : ByteArray := prog_1_method_24_code
def yX9_loadOf : MethodName := ⟨RX9, "loadOf", "(I)I"⟩
abbrev cX9_fadeOf : ByteArray := prog_1_method_25_code
def yX9_fadeOf : MethodName := ⟨RX9, "fadeOf", "(I)I"⟩
abbrev cX9_isLoaded : ByteArray := prog_1_method_26_code
def yX9_isLoaded : MethodName := ⟨RX9, "isLoaded", "(I)Z"⟩
abbrev cX9_isOnShow : ByteArray := prog_1_method_27_code
def yX9_isOnShow : MethodName := ⟨RX9, "isOnShow", "(I)Z"⟩
abbrev cX9_glowOf : ByteArray := prog_1_method_28_code
def yX9_glowOf : MethodName := ⟨RX9, "glowOf", "(I)I"⟩
abbrev cX9_burntTimes : ByteArray := prog_1_method_29_code
def yX9_burntTimes : MethodName := ⟨RX9, "burntTimes", "(I)I"⟩
abbrev cX9_nextUse : ByteArray := prog_1_method_30_code
def yX9_nextUse : MethodName := ⟨RX9, "nextUse", "(I)I"⟩
abbrev cX9_burnPlace : ByteArray := prog_1_method_31_code
def yX9_burnPlace : MethodName := ⟨RX9, "burnPlace", "(I)I"⟩
abbrev cX9_places : ByteArray := prog_1_method_32_code
def yX9_places : MethodName := ⟨RX9, "places", "()I"⟩
abbrev cX9_slideAt : ByteArray := prog_1_method_33_code
def yX9_slideAt : MethodName := ⟨RX9, "slideAt", "(I)I"⟩
abbrev cX9_showPlace : ByteArray := prog_1_method_34_code
def yX9_showPlace : MethodName := ⟨RX9, "showPlace", "()I"⟩
abbrev cX9_shown : ByteArray := prog_1_method_35_code
def yX9_shown : MethodName := ⟨RX9, "shown", "()I"⟩
abbrev cX9_fading : ByteArray := prog_1_method_36_code
def yX9_fading : MethodName := ⟨RX9, "fading", "()I"⟩
abbrev cX9_fadeLeft : ByteArray := prog_1_method_37_code
def yX9_fadeLeft : MethodName := ⟨RX9, "fadeLeft", "()I"⟩
abbrev cX9_awaited : ByteArray := prog_1_method_38_code
def yX9_awaited : MethodName := ⟨RX9, "awaited", "()I"⟩
abbrev cX9_shownFor : ByteArray := prog_1_method_39_code
def yX9_shownFor : MethodName := ⟨RX9, "shownFor", "()I"⟩
abbrev cX9_loading : ByteArray := prog_1_method_40_code
def yX9_loading : MethodName := ⟨RX9, "loading", "()I"⟩
abbrev cX9_loadLeft : ByteArray := prog_1_method_41_code
def yX9_loadLeft : MethodName := ⟨RX9, "loadLeft", "()I"⟩
abbrev cX9_asked : ByteArray := prog_1_method_42_code
def yX9_asked : MethodName := ⟨RX9, "asked", "()I"⟩
abbrev cX9_askedAt : ByteArray := prog_1_method_43_code
def yX9_askedAt : MethodName := ⟨RX9, "askedAt", "(I)I"⟩
abbrev cX9_takenBySlides : ByteArray := prog_1_method_44_code
def yX9_takenBySlides : MethodName := ⟨RX9, "takenBySlides", "()I"⟩
abbrev cX9_takenByAccount : ByteArray := prog_1_method_45_code
def yX9_takenByAccount : MethodName := ⟨RX9, "takenByAccount", "()I"⟩
abbrev cX9_memory : ByteArray := prog_1_method_46_code
def yX9_memory : MethodName := ⟨RX9, "memory", "()I"⟩
abbrev cX9_ahead : ByteArray := prog_1_method_47_code
def yX9_ahead : MethodName := ⟨RX9, "ahead", "()I"⟩
abbrev cX9_order : ByteArray := prog_1_method_48_code
def yX9_order : MethodName := ⟨RX9, "order", "()I"⟩
abbrev cX9_glow : ByteArray := prog_1_method_49_code
def yX9_glow : MethodName := ⟨RX9, "glow", "()I"⟩
abbrev cX9_pace : ByteArray := prog_1_method_50_code
def yX9_pace : MethodName := ⟨RX9, "pace", "()I"⟩
abbrev cX9_ticksToShowByTicks : ByteArray := prog_1_method_51_code
def yX9_ticksToShowByTicks : MethodName := ⟨RX9, "ticksToShowByTicks", "()I"⟩
abbrev cX9_ticksToShowBySums : ByteArray := prog_1_method_52_code
def yX9_ticksToShowBySums : MethodName := ⟨RX9, "ticksToShowBySums", "()I"⟩
abbrev cX9_burningsFor : ByteArray := prog_1_method_53_code
def yX9_burningsFor : MethodName := ⟨RX9, "burningsFor", "(I)I"⟩
abbrev cX9_missesWith : ByteArray := prog_1_method_54_code
def yX9_missesWith : MethodName := ⟨RX9, "missesWith", "(I)I"⟩
abbrev cX9_bestOrder : ByteArray := prog_1_method_55_code
def yX9_bestOrder : MethodName := ⟨RX9, "bestOrder", "()I"⟩
abbrev cX9_time : ByteArray := prog_1_method_56_code
def yX9_time : MethodName := ⟨RX9, "time", "()I"⟩
abbrev cX9_hits : ByteArray := prog_1_method_57_code
def yX9_hits : MethodName := ⟨RX9, "hits", "()I"⟩
abbrev cX9_misses : ByteArray := prog_1_method_58_code
def yX9_misses : MethodName := ⟨RX9, "misses", "()I"⟩
abbrev cX9_loads : ByteArray := prog_1_method_59_code
def yX9_loads : MethodName := ⟨RX9, "loads", "()I"⟩
abbrev cX9_warmLoads : ByteArray := prog_1_method_60_code
def yX9_warmLoads : MethodName := ⟨RX9, "warmLoads", "()I"⟩
abbrev cX9_burnings : ByteArray := prog_1_method_61_code
def yX9_burnings : MethodName := ⟨RX9, "burnings", "()I"⟩
abbrev cX9_waited : ByteArray := prog_1_method_62_code
def yX9_waited : MethodName := ⟨RX9, "waited", "()I"⟩
abbrev cX9_hitShare : ByteArray := prog_1_method_63_code
def yX9_hitShare : MethodName := ⟨RX9, "hitShare", "()D"⟩
abbrev cX9_digest : ByteArray := prog_1_method_64_code
def yX9_digest : MethodName := ⟨RX9, "digest", "()J"⟩
abbrev cX9_mix : ByteArray := prog_1_method_65_code
def yX9_mix : MethodName := ⟨RX9, "mix", "(JJ)J"⟩
abbrev cX9_mixSlide : ByteArray := prog_1_method_66_code
def yX9_mixSlide : MethodName := ⟨RX9, "mixSlide", "(JI)J"⟩
abbrev cX9_mixProgramme : ByteArray := prog_1_method_67_code
def yX9_mixProgramme : MethodName := ⟨RX9, "mixProgramme", "(J)J"⟩
abbrev cX9_mixLoading : ByteArray := prog_1_method_68_code
def yX9_mixLoading : MethodName := ⟨RX9, "mixLoading", "(J)J"⟩
abbrev cX9_mixAccounts : ByteArray := prog_1_method_69_code
def yX9_mixAccounts : MethodName := ⟨RX9, "mixAccounts", "(J)J"⟩
abbrev cX9_bitsOfShare : ByteArray := prog_1_method_70_code
def yX9_bitsOfShare : MethodName := ⟨RX9, "bitsOfShare", "(D)J"⟩
abbrev cX9_waitOnTrial : ByteArray := prog_1_method_71_code
def yX9_waitOnTrial : MethodName := ⟨RX9, "waitOnTrial", "()I"⟩
abbrev cX9_missesOnTrial : ByteArray := prog_1_method_72_code
def yX9_missesOnTrial : MethodName := ⟨RX9, "missesOnTrial", "(I)I"⟩
abbrev cX9_hasSnapshot : ByteArray := prog_1_method_73_code
def yX9_hasSnapshot : MethodName := ⟨RX9, "hasSnapshot", "(I)Z"⟩
abbrev cX9_needArgument : ByteArray := prog_1_method_74_code
def yX9_needArgument : MethodName := ⟨RX9, "needArgument", "(Z)V"⟩
abbrev cX9_needIndex : ByteArray := prog_1_method_75_code
def yX9_needIndex : MethodName := ⟨RX9, "needIndex", "(Z)V"⟩
abbrev cX9_needState : ByteArray := prog_1_method_76_code
def yX9_needState : MethodName := ⟨RX9, "needState", "(Z)V"⟩
abbrev cX9_isWithin : ByteArray := prog_1_method_77_code
def yX9_isWithin : MethodName := ⟨RX9, "isWithin", "(III)Z"⟩
abbrev cX9_at : ByteArray := prog_1_method_78_code
def yX9_at : MethodName := ⟨RX9, "at", "([II)I"⟩
abbrev cX9_set : ByteArray := prog_1_method_79_code
def yX9_set : MethodName := ⟨RX9, "set", "([III)V"⟩
abbrev cX9_copyRow : ByteArray := prog_1_method_80_code
def yX9_copyRow : MethodName := ⟨RX9, "copyRow", "([I[I)V"⟩
def RX10 : String := "SlideBonfireModel"
def TX10 : u_T := fun k => match k with
  | 0 => ("SlideBonfireModel", "s", "[I", true)
  | 1 => ("SlideBonfireModel", "before", "[I", true)
  | 2 => ("SlideBonfireModel", "known", "I", false)
  | 3 => ("SlideBonfireModel", "slots", "[I", true)
  | 4 => ("SlideBonfireModel", "isKept", "[Z", true)
  | 5 => ("SlideBonfireModel", "aside", "[I", true)
  | 6 => ("SlideBonfireModel", "trial", "[I", true)
  | 7 => ("SlideBonfireModel", "buffer", "[I", true)
  | 8 => ("SlideBonfireModel", "length", "I", false)
  | 9 => ("SlideBonfireModel", "thrown", "I", false)
  | 10 => ("SlideBonfireModel", "showings", "I", false)
  | 11 => ("SlideBonfireModel", "at", "I", false)
  | 12 => ("SlideBonfireModel", "isWrong", "Z", false)
  | 13 => ("SlideBonfireModel", "orders", "I", false)
  | _ => ("SlideBonfireModel", "hash", "J", false)
def tyX10 : Nat → FieldType := fun k => match k with
  | 0 => .array .int
  | 1 => .array .int
  | 2 => .int
  | 3 => .array .int
  | 4 => .array .boolean
  | 5 => .array .int
  | 6 => .array .int
  | 7 => .array .int
  | 8 => .int
  | 9 => .int
  | 10 => .int
  | 11 => .int
  | 12 => .boolean
  | 13 => .int
  | _ => .long
abbrev wsX100 : List Cond := u_ws RX10 TX10 15
theorem nmX10 : ∀ a, a < 15 → ∀ b, b < 15 → a ≠ b → (TX10 a).2.1 ≠ (TX10 b).2.1 := by decide +kernel
theorem tyX10_ok : ∀ k, k < 15 → parseFieldDescriptor (TX10 k).2.2.1 = some (tyX10 k) := by decide +kernel
abbrev cX10_init : ByteArray := prog_12_method_1_code
def yX10_init : MethodName := ⟨RX10, "<init>", "()V"⟩
abbrev cX10_thrown : ByteArray := prog_12_method_2_code
def yX10_thrown : MethodName := ⟨RX10, "thrown", "()I"⟩
abbrev cX10_throwing : ByteArray := prog_12_method_3_code
def yX10_throwing : MethodName := ⟨RX10, "throwing", "(I)I"⟩
abbrev cX10_in : ByteArray := prog_12_method_4_code
def yX10_in : MethodName := ⟨RX10, "in", "(III)Z"⟩
abbrev cX10_save : ByteArray := prog_12_method_5_code
def yX10_save : MethodName := ⟨RX10, "save", "()V"⟩
abbrev cX10_of : ByteArray := prog_12_method_6_code
def yX10_of : MethodName := ⟨RX10, "of", "(II)I"⟩
abbrev cX10_lay : ByteArray := prog_12_method_7_code
def yX10_lay : MethodName := ⟨RX10, "lay", "(III)V"⟩
abbrev cX10_isThere : ByteArray := prog_12_method_8_code
def yX10_isThere : MethodName := ⟨RX10, "isThere", "(I)Z"⟩
abbrev cX10_loaded : ByteArray := prog_12_method_9_code
def yX10_loaded : MethodName := ⟨RX10, "loaded", "(I)Z"⟩
abbrev cX10_onShow : ByteArray := prog_12_method_10_code
def yX10_onShow : MethodName := ⟨RX10, "onShow", "(I)Z"⟩
abbrev cX10_taken : ByteArray := prog_12_method_11_code
def yX10_taken : MethodName := ⟨RX10, "taken", "()I"⟩
abbrev cX10_nextOf : ByteArray := prog_12_method_12_code
def yX10_nextOf : MethodName := ⟨RX10, "nextOf", "(I)I"⟩
abbrev cX10_isFirst : ByteArray := prog_12_method_13_code
def yX10_isFirst : MethodName := ⟨RX10, "isFirst", "(II)Z"⟩
abbrev cX10_canBurn : ByteArray := prog_12_method_14_code
def yX10_canBurn : MethodName := ⟨RX10, "canBurn", "(I)Z"⟩
abbrev cX10_nextToBurn : ByteArray := prog_12_method_15_code
def yX10_nextToBurn : MethodName := ⟨RX10, "nextToBurn", "()I"⟩
abbrev cX10_burns : ByteArray := prog_12_method_16_code
def yX10_burns : MethodName := ⟨RX10, "burns", "(I)I"⟩
abbrev cX10_makesRoom : ByteArray := prog_12_method_17_code
def yX10_makesRoom : MethodName := ⟨RX10, "makesRoom", "(I)I"⟩
abbrev cX10_due : ByteArray := prog_12_method_18_code
def yX10_due : MethodName := ⟨RX10, "due", "(I)I"⟩
abbrev cX10_starts : ByteArray := prog_12_method_19_code
def yX10_starts : MethodName := ⟨RX10, "starts", "(I)V"⟩
abbrev cX10_forgets : ByteArray := prog_12_method_20_code
def yX10_forgets : MethodName := ⟨RX10, "forgets", "(I)V"⟩
abbrev cX10_begins : ByteArray := prog_12_method_21_code
def yX10_begins : MethodName := ⟨RX10, "begins", "()V"⟩
abbrev cX10_uses : ByteArray := prog_12_method_22_code
def yX10_uses : MethodName := ⟨RX10, "uses", "(I)V"⟩
abbrev cX10_shows : ByteArray := prog_12_method_23_code
def yX10_shows : MethodName := ⟨RX10, "shows", "(I)V"⟩
abbrev cX10_goesOn : ByteArray := prog_12_method_24_code
def yX10_goesOn : MethodName := ⟨RX10, "goesOn", "()Z"⟩
abbrev cX10_ticks : ByteArray := prog_12_method_25_code
def yX10_ticks : MethodName := ⟨RX10, "ticks", "()V"⟩
abbrev cX10_inserts : ByteArray := prog_12_method_26_code
def yX10_inserts : MethodName := ⟨RX10, "inserts", "(II)I"⟩
abbrev cX10_canGoOn : ByteArray := prog_12_method_27_code
def yX10_canGoOn : MethodName := ⟨RX10, "canGoOn", "()Z"⟩
abbrev cX10_isAsked : ByteArray := prog_12_method_28_code
def yX10_isAsked : MethodName := ⟨RX10, "isAsked", "(I)Z"⟩
abbrev cX10_canAsk : ByteArray := prog_12_method_29_code
def yX10_canAsk : MethodName := ⟨RX10, "canAsk", "(I)Z"⟩
abbrev cX10_asks : ByteArray := prog_12_method_30_code
def yX10_asks : MethodName := ⟨RX10, "asks", "(I)I"⟩
abbrev cX10_passes : ByteArray := prog_12_method_31_code
def yX10_passes : MethodName := ⟨RX10, "passes", "(I)I"⟩
abbrev cX10_addSlide : ByteArray := prog_12_method_32_code
def yX10_addSlide : MethodName := ⟨RX10, "addSlide", "(III)I"⟩
abbrev cX10_insert : ByteArray := prog_12_method_33_code
def yX10_insert : MethodName := ⟨RX10, "insert", "(II)I"⟩
abbrev cX10_takeOut : ByteArray := prog_12_method_34_code
def yX10_takeOut : MethodName := ⟨RX10, "takeOut", "(I)I"⟩
abbrev cX10_goOn : ByteArray := prog_12_method_35_code
def yX10_goOn : MethodName := ⟨RX10, "goOn", "()Z"⟩
abbrev cX10_ask : ByteArray := prog_12_method_36_code
def yX10_ask : MethodName := ⟨RX10, "ask", "(I)I"⟩
abbrev cX10_burn : ByteArray := prog_12_method_37_code
def yX10_burn : MethodName := ⟨RX10, "burn", "(I)I"⟩
abbrev cX10_tick : ByteArray := prog_12_method_38_code
def yX10_tick : MethodName := ⟨RX10, "tick", "(I)I"⟩
abbrev cX10_changes : ByteArray := prog_12_method_39_code
def yX10_changes : MethodName := ⟨RX10, "changes", "(IIII)I"⟩
abbrev cX10_changeMemory : ByteArray := prog_12_method_40_code
def yX10_changeMemory : MethodName := ⟨RX10, "changeMemory", "(I)I"⟩
abbrev cX10_changeAhead : ByteArray := prog_12_method_41_code
def yX10_changeAhead : MethodName := ⟨RX10, "changeAhead", "(I)I"⟩
abbrev cX10_changeOrder : ByteArray := prog_12_method_42_code
def yX10_changeOrder : MethodName := ⟨RX10, "changeOrder", "(I)I"⟩
abbrev cX10_changeGlow : ByteArray := prog_12_method_43_code
def yX10_changeGlow : MethodName := ⟨RX10, "changeGlow", "(I)I"⟩
abbrev cX10_changePace : ByteArray := prog_12_method_44_code
def yX10_changePace : MethodName := ⟨RX10, "changePace", "(I)I"⟩
abbrev cX10_append : ByteArray := prog_12_method_45_code
def yX10_append : MethodName := ⟨RX10, "append", "(I)I"⟩
abbrev cX10_clearBuffer : ByteArray := prog_12_method_46_code
def yX10_clearBuffer : MethodName := ⟨RX10, "clearBuffer", "()I"⟩
abbrev cX10_sign : ByteArray := prog_12_method_47_code
def yX10_sign : MethodName := ⟨RX10, "sign", "(II)I"⟩
abbrev cX10_number : ByteArray := prog_12_method_48_code
def yX10_number : MethodName := ⟨RX10, "number", "(II)I"⟩
abbrev cX10_isOrdered : ByteArray := prog_12_method_49_code
def yX10_isOrdered : MethodName := ⟨RX10, "isOrdered", "(Z)Z"⟩
abbrev cX10_isFollowed : ByteArray := prog_12_method_50_code
def yX10_isFollowed : MethodName := ⟨RX10, "isFollowed", "(II)Z"⟩
abbrev cX10_go : ByteArray := prog_12_method_51_code
def yX10_go : MethodName := ⟨RX10, "go", "(Z)Z"⟩
abbrev cX10_firstError : ByteArray := prog_12_method_52_code
def yX10_firstError : MethodName := ⟨RX10, "firstError", "()I"⟩
abbrev cX10_keepsAside : ByteArray := prog_12_method_53_code
def yX10_keepsAside : MethodName := ⟨RX10, "keepsAside", "()V"⟩
abbrev cX10_putsBack : ByteArray := prog_12_method_54_code
def yX10_putsBack : MethodName := ⟨RX10, "putsBack", "()V"⟩
abbrev cX10_follow : ByteArray := prog_12_method_55_code
def yX10_follow : MethodName := ⟨RX10, "follow", "()I"⟩
abbrev cX10_keep : ByteArray := prog_12_method_56_code
def yX10_keep : MethodName := ⟨RX10, "keep", "(I)V"⟩
abbrev cX10_goBack : ByteArray := prog_12_method_57_code
def yX10_goBack : MethodName := ⟨RX10, "goBack", "(I)V"⟩
abbrev cX10_undo : ByteArray := prog_12_method_58_code
def yX10_undo : MethodName := ⟨RX10, "undo", "()V"⟩
abbrev cX10_savedStates : ByteArray := prog_12_method_59_code
def yX10_savedStates : MethodName := ⟨RX10, "savedStates", "()I"⟩
abbrev cX10_rule : ByteArray := prog_12_method_60_code
def yX10_rule : MethodName := ⟨RX10, "rule", "(I)I"⟩
abbrev cX10_slides : ByteArray := prog_12_method_61_code
def yX10_slides : MethodName := ⟨RX10, "slides", "()I"⟩
abbrev cX10_costOf : ByteArray := prog_12_method_62_code
def yX10_costOf : MethodName := ⟨RX10, "costOf", "(I)I"⟩
abbrev cX10_loadOf : ByteArray := prog_12_method_63_code
def yX10_loadOf : MethodName := ⟨RX10, "loadOf", "(I)I"⟩
abbrev cX10_fadeOf : ByteArray := prog_12_method_64_code
def yX10_fadeOf : MethodName := ⟨RX10, "fadeOf", "(I)I"⟩
abbrev cX10_isLoaded : ByteArray := prog_12_method_65_code
def yX10_isLoaded : MethodName := ⟨RX10, "isLoaded", "(I)Z"⟩
abbrev cX10_isOnShow : ByteArray := prog_12_method_66_code
def yX10_isOnShow : MethodName := ⟨RX10, "isOnShow", "(I)Z"⟩
abbrev cX10_glowOf : ByteArray := prog_12_method_67_code
def yX10_glowOf : MethodName := ⟨RX10, "glowOf", "(I)I"⟩
abbrev cX10_burntTimes : ByteArray := prog_12_method_68_code
def yX10_burntTimes : MethodName := ⟨RX10, "burntTimes", "(I)I"⟩
abbrev cX10_nextUse : ByteArray := prog_12_method_69_code
def yX10_nextUse : MethodName := ⟨RX10, "nextUse", "(I)I"⟩
abbrev cX10_inOrder : ByteArray := prog_12_method_70_code
def yX10_inOrder : MethodName := ⟨RX10, "inOrder", "(I)I"⟩
abbrev cX10_burnPlace : ByteArray := prog_12_method_71_code
def yX10_burnPlace : MethodName := ⟨RX10, "burnPlace", "(I)I"⟩
abbrev cX10_places : ByteArray := prog_12_method_72_code
def yX10_places : MethodName := ⟨RX10, "places", "()I"⟩
abbrev cX10_slideAt : ByteArray := prog_12_method_73_code
def yX10_slideAt : MethodName := ⟨RX10, "slideAt", "(I)I"⟩
abbrev cX10_told : ByteArray := prog_12_method_74_code
def yX10_told : MethodName := ⟨RX10, "told", "(I)I"⟩
abbrev cX10_showPlace : ByteArray := prog_12_method_75_code
def yX10_showPlace : MethodName := ⟨RX10, "showPlace", "()I"⟩
abbrev cX10_shown : ByteArray := prog_12_method_76_code
def yX10_shown : MethodName := ⟨RX10, "shown", "()I"⟩
abbrev cX10_fading : ByteArray := prog_12_method_77_code
def yX10_fading : MethodName := ⟨RX10, "fading", "()I"⟩
abbrev cX10_fadeLeft : ByteArray := prog_12_method_78_code
def yX10_fadeLeft : MethodName := ⟨RX10, "fadeLeft", "()I"⟩
abbrev cX10_awaited : ByteArray := prog_12_method_79_code
def yX10_awaited : MethodName := ⟨RX10, "awaited", "()I"⟩
abbrev cX10_shownFor : ByteArray := prog_12_method_80_code
def yX10_shownFor : MethodName := ⟨RX10, "shownFor", "()I"⟩
abbrev cX10_loading : ByteArray := prog_12_method_81_code
def yX10_loading : MethodName := ⟨RX10, "loading", "()I"⟩
abbrev cX10_loadLeft : ByteArray := prog_12_method_82_code
def yX10_loadLeft : MethodName := ⟨RX10, "loadLeft", "()I"⟩
abbrev cX10_asked : ByteArray := prog_12_method_83_code
def yX10_asked : MethodName := ⟨RX10, "asked", "()I"⟩
abbrev cX10_askedAt : ByteArray := prog_12_method_84_code
def yX10_askedAt : MethodName := ⟨RX10, "askedAt", "(I)I"⟩
abbrev cX10_takenBySlides : ByteArray := prog_12_method_85_code
def yX10_takenBySlides : MethodName := ⟨RX10, "takenBySlides", "()I"⟩
abbrev cX10_takenByAccount : ByteArray := prog_12_method_86_code
def yX10_takenByAccount : MethodName := ⟨RX10, "takenByAccount", "()I"⟩
abbrev cX10_memory : ByteArray := prog_12_method_87_code
def yX10_memory : MethodName := ⟨RX10, "memory", "()I"⟩
abbrev cX10_ahead : ByteArray := prog_12_method_88_code
def yX10_ahead : MethodName := ⟨RX10, "ahead", "()I"⟩
abbrev cX10_order : ByteArray := prog_12_method_89_code
def yX10_order : MethodName := ⟨RX10, "order", "()I"⟩
abbrev cX10_glow : ByteArray := prog_12_method_90_code
def yX10_glow : MethodName := ⟨RX10, "glow", "()I"⟩
abbrev cX10_pace : ByteArray := prog_12_method_91_code
def yX10_pace : MethodName := ⟨RX10, "pace", "()I"⟩
abbrev cX10_untilShown : ByteArray := prog_12_method_92_code
def yX10_untilShown : MethodName := ⟨RX10, "untilShown", "()I"⟩
abbrev cX10_toldTicks : ByteArray := prog_12_method_93_code
def yX10_toldTicks : MethodName := ⟨RX10, "toldTicks", "()I"⟩
abbrev cX10_ticksToShowByTicks : ByteArray := prog_12_method_94_code
def yX10_ticksToShowByTicks : MethodName := ⟨RX10, "ticksToShowByTicks", "()I"⟩
abbrev cX10_ticksToShowBySums : ByteArray := prog_12_method_95_code
def yX10_ticksToShowBySums : MethodName := ⟨RX10, "ticksToShowBySums", "()I"⟩
abbrev cX10_burningsOf : ByteArray := prog_12_method_96_code
def yX10_burningsOf : MethodName := ⟨RX10, "burningsOf", "(I)I"⟩
abbrev cX10_burningsFor : ByteArray := prog_12_method_97_code
def yX10_burningsFor : MethodName := ⟨RX10, "burningsFor", "(I)I"⟩
abbrev cX10_missing : ByteArray := prog_12_method_98_code
def yX10_missing : MethodName := ⟨RX10, "missing", "(I)I"⟩
abbrev cX10_missesWith : ByteArray := prog_12_method_99_code
def yX10_missesWith : MethodName := ⟨RX10, "missesWith", "(I)I"⟩
abbrev cX10_bestOrder : ByteArray := prog_12_method_100_code
def yX10_bestOrder : MethodName := ⟨RX10, "bestOrder", "()I"⟩
abbrev cX10_loads : ByteArray := prog_12_method_101_code
def yX10_loads : MethodName := ⟨RX10, "loads", "()I"⟩
abbrev cX10_burnings : ByteArray := prog_12_method_102_code
def yX10_burnings : MethodName := ⟨RX10, "burnings", "()I"⟩
abbrev cX10_time : ByteArray := prog_12_method_103_code
def yX10_time : MethodName := ⟨RX10, "time", "()I"⟩
abbrev cX10_hits : ByteArray := prog_12_method_104_code
def yX10_hits : MethodName := ⟨RX10, "hits", "()I"⟩
abbrev cX10_misses : ByteArray := prog_12_method_105_code
def yX10_misses : MethodName := ⟨RX10, "misses", "()I"⟩
abbrev cX10_warmLoads : ByteArray := prog_12_method_106_code
def yX10_warmLoads : MethodName := ⟨RX10, "warmLoads", "()I"⟩
abbrev cX10_waited : ByteArray := prog_12_method_107_code
def yX10_waited : MethodName := ⟨RX10, "waited", "()I"⟩
abbrev cX10_share : ByteArray := prog_12_method_108_code
def yX10_share : MethodName := ⟨RX10, "share", "()D"⟩
abbrev cX10_hitShare : ByteArray := prog_12_method_109_code
def yX10_hitShare : MethodName := ⟨RX10, "hitShare", "()D"⟩
abbrev cX10_bitsOf : ByteArray := prog_12_method_110_code
def yX10_bitsOf : MethodName := ⟨RX10, "bitsOf", "(DII)J"⟩
abbrev cX10_mix : ByteArray := prog_12_method_111_code
def yX10_mix : MethodName := ⟨RX10, "mix", "(J)V"⟩
abbrev cX10_mixesSlide : ByteArray := prog_12_method_112_code
def yX10_mixesSlide : MethodName := ⟨RX10, "mixesSlide", "(I)V"⟩
abbrev cX10_digest : ByteArray := prog_12_method_113_code
def yX10_digest : MethodName := ⟨RX10, "digest", "()J"⟩
def RL : String := "SlideBonfireLaw"
abbrev cL_addSlide : ByteArray := method_3_code
def yL_addSlide : MethodName := ⟨RL, "addSlide", "(LSlideBonfire;III[J)I"⟩
abbrev cL_insert : ByteArray := method_4_code
def yL_insert : MethodName := ⟨RL, "insert", "(LSlideBonfire;II[J)I"⟩
abbrev cL_takeOut : ByteArray := method_5_code
def yL_takeOut : MethodName := ⟨RL, "takeOut", "(LSlideBonfire;I[J)I"⟩
abbrev cL_goOn : ByteArray := method_6_code
def yL_goOn : MethodName := ⟨RL, "goOn", "(LSlideBonfire;[J)I"⟩
abbrev cL_ask : ByteArray := method_7_code
def yL_ask : MethodName := ⟨RL, "ask", "(LSlideBonfire;I[J)I"⟩
abbrev cL_burn : ByteArray := method_8_code
def yL_burn : MethodName := ⟨RL, "burn", "(LSlideBonfire;I[J)I"⟩
abbrev cL_tick : ByteArray := method_9_code
def yL_tick : MethodName := ⟨RL, "tick", "(LSlideBonfire;I[J)I"⟩
abbrev cL_changeMemory : ByteArray := method_10_code
def yL_changeMemory : MethodName := ⟨RL, "changeMemory", "(LSlideBonfire;I[J)I"⟩
abbrev cL_changeAhead : ByteArray := method_11_code
def yL_changeAhead : MethodName := ⟨RL, "changeAhead", "(LSlideBonfire;I[J)I"⟩
abbrev cL_changeOrder : ByteArray := method_12_code
def yL_changeOrder : MethodName := ⟨RL, "changeOrder", "(LSlideBonfire;I[J)I"⟩
abbrev cL_changeGlow : ByteArray := method_13_code
def yL_changeGlow : MethodName := ⟨RL, "changeGlow", "(LSlideBonfire;I[J)I"⟩
abbrev cL_changePace : ByteArray := method_14_code
def yL_changePace : MethodName := ⟨RL, "changePace", "(LSlideBonfire;I[J)I"⟩
abbrev cL_append : ByteArray := method_15_code
def yL_append : MethodName := ⟨RL, "append", "(LSlideBonfire;I[J)I"⟩
abbrev cL_follow : ByteArray := method_16_code
def yL_follow : MethodName := ⟨RL, "follow", "(LSlideBonfire;[J)I"⟩
abbrev cL_keep : ByteArray := method_17_code
def yL_keep : MethodName := ⟨RL, "keep", "(LSlideBonfire;I)I"⟩
abbrev cL_goBack : ByteArray := method_18_code
def yL_goBack : MethodName := ⟨RL, "goBack", "(LSlideBonfire;I)I"⟩
abbrev cL_undo : ByteArray := method_19_code
def yL_undo : MethodName := ⟨RL, "undo", "(LSlideBonfire;)I"⟩
abbrev cL_costOf : ByteArray := method_20_code
def yL_costOf : MethodName := ⟨RL, "costOf", "(LSlideBonfire;I[J)I"⟩
abbrev cL_loadOf : ByteArray := method_21_code
def yL_loadOf : MethodName := ⟨RL, "loadOf", "(LSlideBonfire;I[J)I"⟩
abbrev cL_fadeOf : ByteArray := method_22_code
def yL_fadeOf : MethodName := ⟨RL, "fadeOf", "(LSlideBonfire;I[J)I"⟩
abbrev cL_isLoaded : ByteArray := method_23_code
def yL_isLoaded : MethodName := ⟨RL, "isLoaded", "(LSlideBonfire;I[J)I"⟩
abbrev cL_isOnShow : ByteArray := method_24_code
def yL_isOnShow : MethodName := ⟨RL, "isOnShow", "(LSlideBonfire;I[J)I"⟩
abbrev cL_glowOf : ByteArray := method_25_code
def yL_glowOf : MethodName := ⟨RL, "glowOf", "(LSlideBonfire;I[J)I"⟩
abbrev cL_burntTimes : ByteArray := method_26_code
def yL_burntTimes : MethodName := ⟨RL, "burntTimes", "(LSlideBonfire;I[J)I"⟩
abbrev cL_nextUse : ByteArray := method_27_code
def yL_nextUse : MethodName := ⟨RL, "nextUse", "(LSlideBonfire;I[J)I"⟩
abbrev cL_burnPlace : ByteArray := method_28_code
def yL_burnPlace : MethodName := ⟨RL, "burnPlace", "(LSlideBonfire;I[J)I"⟩
abbrev cL_slideAt : ByteArray := method_29_code
def yL_slideAt : MethodName := ⟨RL, "slideAt", "(LSlideBonfire;I[J)I"⟩
abbrev cL_showPlace : ByteArray := method_30_code
def yL_showPlace : MethodName := ⟨RL, "showPlace", "(LSlideBonfire;[J)I"⟩
abbrev cL_shown : ByteArray := method_31_code
def yL_shown : MethodName := ⟨RL, "shown", "(LSlideBonfire;[J)I"⟩
abbrev cL_fading : ByteArray := method_32_code
def yL_fading : MethodName := ⟨RL, "fading", "(LSlideBonfire;[J)I"⟩
abbrev cL_awaited : ByteArray := method_33_code
def yL_awaited : MethodName := ⟨RL, "awaited", "(LSlideBonfire;[J)I"⟩
abbrev cL_shownFor : ByteArray := method_34_code
def yL_shownFor : MethodName := ⟨RL, "shownFor", "(LSlideBonfire;[J)I"⟩
abbrev cL_loading : ByteArray := method_35_code
def yL_loading : MethodName := ⟨RL, "loading", "(LSlideBonfire;[J)I"⟩
abbrev cL_askedAt : ByteArray := method_36_code
def yL_askedAt : MethodName := ⟨RL, "askedAt", "(LSlideBonfire;I[J)I"⟩
abbrev cL_ticksToShowByTicks : ByteArray := method_37_code
def yL_ticksToShowByTicks : MethodName := ⟨RL, "ticksToShowByTicks", "(LSlideBonfire;[J)I"⟩
abbrev cL_ticksToShowBySums : ByteArray := method_38_code
def yL_ticksToShowBySums : MethodName := ⟨RL, "ticksToShowBySums", "(LSlideBonfire;[J)I"⟩
abbrev cL_burningsFor : ByteArray := method_39_code
def yL_burningsFor : MethodName := ⟨RL, "burningsFor", "(LSlideBonfire;I[J)I"⟩
abbrev cL_missesWith : ByteArray := method_40_code
def yL_missesWith : MethodName := ⟨RL, "missesWith", "(LSlideBonfire;I[J)I"⟩
abbrev cL_bestOrder : ByteArray := method_41_code
def yL_bestOrder : MethodName := ⟨RL, "bestOrder", "(LSlideBonfire;[J)I"⟩
abbrev cL_law : ByteArray := code
def yL_law : MethodName := ⟨RL, "law", "([I)Z"⟩
abbrev vwCl : List vw_C := [(RX0, TX0, 7), (RX1, TX1, 8), (RX2, TX2, 5), (RX3, TX3, 3), (RX4, TX4, 5), (RX5, TX5, 3), (RX6, TX6, 9), (RX7, TX7, 5), (RX8, TX8, 5), (RX9, TX9, 6), (RX10, TX10, 15)]
end
section
/-! A small machine of my own for the program's bytecode (qa_): its words. Positions of cells are pairs (region, place). -/
abbrev qa_P : Type := Nat × Nat
/-- a value: a reference by its position, or a value of the machine that is none -/
abbrev qa_V : Type := qa_P ⊕ Value
abbrev qa_R : Type := (Nat → Int32) ⊕ (Nat → Int64) ⊕ (Nat → Option qa_P)
/-- a cell: an object (class, fields by slot) or an array (kind of its elements, length, elements) -/
abbrev qa_C : Type := (Nat × (Nat → qa_V)) ⊕ (Nat × Nat × qa_R)
/-- the heap: the next free position, the cells -/
abbrev qa_H : Type := qa_P × (qa_P → qa_C)
abbrev qa_L : Type := List (Nat × qa_V)
/-- a method: name, bytes, locals, return type, class, instructions, arguments with the receiver, kind (0 constructor, 1 static, 2 of an object), frames, locals' room, handlers, places of its words in lw_tbl -/
abbrev qa_M : Type := MethodName × ByteArray × Nat × Option FieldType × Nat × List (Nat × Instr × Nat) × Nat × Nat × Nat × Nat × List (Nat × Nat × Nat × Nat) × Nat × Nat × Nat
def qa_nm (M : qa_M) : MethodName := M.1
def qa_by (M : qa_M) : ByteArray := M.2.1
def qa_ml (M : qa_M) : Nat := M.2.2.1
def qa_rt (M : qa_M) : Option FieldType := M.2.2.2.1
def qa_cl (M : qa_M) : Nat := M.2.2.2.2.1
def qa_is (M : qa_M) : List (Nat × Instr × Nat) := M.2.2.2.2.2.1
def qa_na (M : qa_M) : Nat := M.2.2.2.2.2.2.1
def qa_sk (M : qa_M) : Nat := M.2.2.2.2.2.2.2.1
def qa_fr (M : qa_M) : Nat := M.2.2.2.2.2.2.2.2.1
def qa_lo (M : qa_M) : Nat := M.2.2.2.2.2.2.2.2.2.1
def qa_hh (M : qa_M) : List (Nat × Nat × Nat × Nat) := M.2.2.2.2.2.2.2.2.2.2.1
def qa_wp (M : qa_M) : Nat × Nat × Nat := M.2.2.2.2.2.2.2.2.2.2.2
def qa_lk {α : Type} : List (Nat × α) → Nat → Option α
  | [], _ => none
  | (k, a) :: l, n => if k = n then some a else qa_lk l n
theorem qa_lk_mem {α : Type} {l : List (Nat × α)} {n : Nat} {a : α} (h : qa_lk l n = some a) : (n, a) ∈ l := by
  induction l with
  | nil => cases h
  | cons q l ih =>
    obtain ⟨k, b⟩ := q
    unfold qa_lk at h
    split at h
    · next e => cases h; rw [e]; exact List.mem_cons_self
    · exact List.mem_cons_of_mem _ (ih h)
/-- each instruction stands where the listing says -/
def qa_de (M : qa_M) : Bool := (qa_is M).all (fun q => decide (decode (qa_by M) q.1 = .ok (q.2.1, q.2.2)))
end
section
/-! the tables of the program, by class number and number of the pool (written by wip/tools/mk_tab.py) -/
def qa_cn : Nat → String := fun k => match k with
  | 0 => RX0
  | 1 => RX1
  | 2 => RX2
  | 3 => RX3
  | 4 => RX4
  | 5 => RX5
  | 6 => RX6
  | 7 => RX7
  | 8 => RX8
  | 9 => RX9
  | 10 => RX10
  | _ => RL
def qa_fl0 : List (Nat × (Nat × Nat × Nat)) := [(7, (0, 0, 253)), (13, (0, 1, 256)), (16, (0, 2, 259)), (19, (0, 3, 262)), (22, (0, 4, 265)), (25, (0, 5, 268)), (28, (0, 6, 271))]
def qa_fl1 : List (Nat × (Nat × Nat × Nat)) := [(12, (1, 0, 289)), (21, (1, 1, 291)), (28, (1, 2, 293)), (35, (1, 3, 295)), (42, (1, 4, 297)), (49, (1, 5, 299)), (53, (1, 6, 301)), (57, (1, 7, 302)), (79, (3, 0, 140)), (83, (7, 4, 170)), (90, (2, 0, 190)), (149, (0, 1, 257)), (155, (0, 2, 260)), (161, (6, 3, 100)), (174, (0, 0, 254)), (177, (0, 6, 272)), (195, (4, 4, 235)), (198, (7, 0, 160)), (201, (7, 1, 163)), (204, (2, 1, 193)), (214, (6, 1, 97)), (217, (4, 0, 223)), (223, (6, 5, 104)), (226, (0, 4, 266)), (229, (0, 3, 263)), (236, (2, 4, 202)), (243, (2, 2, 197)), (246, (2, 3, 199)), (252, (4, 1, 226)), (258, (4, 3, 232)), (261, (6, 6, 107)), (264, (0, 5, 269)), (270, (4, 2, 229)), (279, (6, 0, 94)), (280, (6, 7, 110))]
def qa_fl2 : List (Nat × (Nat × Nat × Nat)) := [(9, (2, 0, 189)), (15, (2, 3, 198)), (19, (2, 1, 192)), (22, (2, 2, 195)), (29, (2, 4, 201))]
def qa_fl3 : List (Nat × (Nat × Nat × Nat)) := [(9, (3, 1, 142)), (15, (3, 2, 144)), (19, (3, 0, 139))]
def qa_fl4 : List (Nat × (Nat × Nat × Nat)) := [(9, (4, 0, 221)), (15, (4, 1, 224)), (18, (4, 3, 230)), (21, (4, 2, 227)), (24, (4, 4, 233))]
def qa_fl5 : List (Nat × (Nat × Nat × Nat)) := [(11, (5, 2, 332)), (18, (5, 0, 329)), (22, (5, 1, 330))]
def qa_fl6 : List (Nat × (Nat × Nat × Nat)) := [(9, (6, 1, 95)), (15, (6, 2, 98)), (18, (6, 3, 99)), (21, (6, 4, 102)), (25, (6, 5, 103)), (28, (6, 6, 106)), (31, (6, 7, 109)), (34, (6, 0, 92)), (42, (6, 8, 111))]
def qa_fl7 : List (Nat × (Nat × Nat × Nat)) := [(9, (7, 0, 159)), (15, (7, 2, 165)), (18, (7, 4, 169)), (21, (7, 1, 162)), (24, (7, 3, 167))]
def qa_fl8 : List (Nat × (Nat × Nat × Nat)) := [(9, (8, 1, 348)), (15, (8, 0, 346)), (26, (8, 4, 354)), (29, (8, 2, 350)), (32, (8, 3, 352))]
def qa_fl9 : List (Nat × (Nat × Nat × Nat)) := [(10, (9, 0, 366)), (16, (9, 1, 367)), (22, (9, 2, 368)), (26, (9, 3, 369)), (30, (9, 4, 370)), (37, (9, 5, 371)), (49, (1, 0, 290)), (53, (6, 0, 93)), (73, (1, 1, 292)), (77, (3, 0, 141)), (106, (1, 3, 296)), (116, (2, 2, 196)), (125, (6, 1, 96)), (136, (1, 4, 298)), (140, (4, 0, 222)), (148, (4, 1, 225)), (151, (4, 2, 228)), (154, (4, 3, 231)), (157, (4, 4, 234)), (160, (8, 0, 347)), (181, (8, 2, 351)), (184, (8, 3, 353)), (194, (5, 1, 331)), (202, (6, 3, 101)), (208, (1, 2, 294)), (217, (6, 5, 105)), (220, (6, 6, 108)), (229, (3, 2, 145)), (232, (3, 1, 143)), (235, (7, 0, 161)), (238, (7, 2, 166)), (241, (7, 3, 168)), (244, (7, 4, 171)), (247, (7, 1, 164)), (250, (2, 0, 191)), (253, (2, 1, 194)), (256, (2, 3, 200)), (260, (2, 4, 203)), (275, (1, 5, 300)), (279, (0, 0, 255)), (284, (0, 1, 258)), (287, (0, 2, 261)), (290, (0, 3, 264)), (293, (0, 4, 267)), (296, (0, 5, 270)), (299, (0, 6, 273)), (326, (8, 1, 349))]
def qa_fl10 : List (Nat × (Nat × Nat × Nat)) := [(7, (10, 0, 1203)), (13, (10, 1, 1204)), (16, (10, 3, 1206)), (19, (10, 4, 1207)), (23, (10, 5, 1208)), (26, (10, 6, 1209)), (29, (10, 7, 1210)), (32, (10, 9, 1212)), (36, (10, 2, 1205)), (95, (10, 10, 1213)), (142, (10, 8, 1211)), (145, (10, 11, 1214)), (148, (10, 12, 1215)), (161, (10, 13, 1216)), (208, (10, 14, 1217))]
def qa_fl11 : List (Nat × (Nat × Nat × Nat)) := []
def qa_fl : Nat → List (Nat × (Nat × Nat × Nat)) := fun k => match k with
  | 0 => qa_fl0
  | 1 => qa_fl1
  | 2 => qa_fl2
  | 3 => qa_fl3
  | 4 => qa_fl4
  | 5 => qa_fl5
  | 6 => qa_fl6
  | 7 => qa_fl7
  | 8 => qa_fl8
  | 9 => qa_fl9
  | 10 => qa_fl10
  | _ => qa_fl11
def qa_nw0 : List (Nat × (Nat × Nat)) := []
def qa_nw1 : List (Nat × (Nat × Nat)) := [(9, (6, 86)), (18, (3, 133)), (25, (7, 153)), (32, (2, 183)), (39, (4, 215)), (46, (0, 247))]
def qa_nw2 : List (Nat × (Nat × Nat)) := []
def qa_nw3 : List (Nat × (Nat × Nat)) := []
def qa_nw4 : List (Nat × (Nat × Nat)) := []
def qa_nw5 : List (Nat × (Nat × Nat)) := [(9, (1, 326))]
def qa_nw6 : List (Nat × (Nat × Nat)) := []
def qa_nw7 : List (Nat × (Nat × Nat)) := []
def qa_nw8 : List (Nat × (Nat × Nat)) := []
def qa_nw9 : List (Nat × (Nat × Nat)) := [(7, (1, 80)), (19, (5, 320)), (34, (8, 340))]
def qa_nw10 : List (Nat × (Nat × Nat)) := []
def qa_nw11 : List (Nat × (Nat × Nat)) := [(8, (9, 72)), (140, (10, 1197))]
def qa_nw : Nat → List (Nat × (Nat × Nat)) := fun k => match k with
  | 0 => qa_nw0
  | 1 => qa_nw1
  | 2 => qa_nw2
  | 3 => qa_nw3
  | 4 => qa_nw4
  | 5 => qa_nw5
  | 6 => qa_nw6
  | 7 => qa_nw7
  | 8 => qa_nw8
  | 9 => qa_nw9
  | 10 => qa_nw10
  | _ => qa_nw11
def qa_kl0 : List (Nat × (Value × Nat)) := []
def qa_kl1 : List (Nat × (Value × Nat)) := []
def qa_kl2 : List (Nat × (Value × Nat)) := []
def qa_kl3 : List (Nat × (Value × Nat)) := []
def qa_kl4 : List (Nat × (Value × Nat)) := []
def qa_kl5 : List (Nat × (Value × Nat)) := []
def qa_kl6 : List (Nat × (Value × Nat)) := []
def qa_kl7 : List (Nat × (Value × Nat)) := []
def qa_kl8 : List (Nat × (Value × Nat)) := []
def qa_kl9 : List (Nat × (Value × Nat)) := [(306, (.long 4447, 517)), (329, (.long 31, 521)), (335, (.double 4611686018427387904, 715)), (337, (.double 4841369599423283200, 716))]
def qa_kl10 : List (Nat × (Value × Nat)) := [(202, (.double 4611686018427387904, 1697)), (204, (.long 2, 1698)), (206, (.long 31, 1689)), (216, (.long 4447, 1684))]
def qa_kl11 : List (Nat × (Value × Nat)) := []
def qa_kl : Nat → List (Nat × (Value × Nat)) := fun k => match k with
  | 0 => qa_kl0
  | 1 => qa_kl1
  | 2 => qa_kl2
  | 3 => qa_kl3
  | 4 => qa_kl4
  | 5 => qa_kl5
  | 6 => qa_kl6
  | 7 => qa_kl7
  | 8 => qa_kl8
  | 9 => qa_kl9
  | 10 => qa_kl10
  | _ => qa_kl11
def qa_iX0_init : List (Nat × Instr × Nat) := [(0, .aload_n 0, 1), (1, .invokespecial 1, 3), (4, .return_, 1)]
def qa_mX0_init : qa_M := (yX0_init, cX0_init, 1, none, 0, qa_iX0_init, 1, 0, 1, 20, [], 251, 250, 0)
def qa_iX0_copyFrom : List (Nat × Instr × Nat) := [(0, .aload_n 0, 1), (1, .aload_n 1, 1), (2, .getfield 7, 3), (5, .putfield 7, 3), (8, .aload_n 0, 1), (9, .aload_n 1, 1), (10, .getfield 13, 3), (13, .putfield 13, 3), (16, .aload_n 0, 1), (17, .aload_n 1, 1), (18, .getfield 16, 3), (21, .putfield 16, 3), (24, .aload_n 0, 1), (25, .aload_n 1, 1), (26, .getfield 19, 3), (29, .putfield 19, 3), (32, .aload_n 0, 1), (33, .aload_n 1, 1), (34, .getfield 22, 3), (37, .putfield 22, 3), (40, .aload_n 0, 1), (41, .aload_n 1, 1), (42, .getfield 25, 3), (45, .putfield 25, 3), (48, .aload_n 0, 1), (49, .aload_n 1, 1), (50, .getfield 28, 3), (53, .putfield 28, 3), (56, .return_, 1)]
def qa_mX0_copyFrom : qa_M := (yX0_copyFrom, cX0_copyFrom, 2, none, 0, qa_iX0_copyFrom, 2, 2, 0, 0, [], 618, 616, 617)
def qa_iX0_shareOfHits : List (Nat × Instr × Nat) := [(0, .aload_n 0, 1), (1, .getfield 13, 3), (4, .aload_n 0, 1), (5, .getfield 16, 3), (8, .iadd, 1), (9, .istore_n 1, 1), (10, .iload_n 1, 1), (11, .ifCond .le 14, 3), (14, .aload_n 0, 1), (15, .getfield 13, 3), (18, .i2d, 1), (19, .iload_n 1, 1), (20, .i2d, 1), (21, .ddiv, 1), (22, .goto 4, 3), (25, .dconst 0, 1), (26, .dreturn, 1)]
def qa_mX0_shareOfHits : qa_M := (yX0_shareOfHits, cX0_shareOfHits, 2, (some .double), 0, qa_iX0_shareOfHits, 1, 2, 0, 0, [], 512, 510, 511)
def qa_iX1_init : List (Nat × Instr × Nat) := [(0, .aload_n 0, 1), (1, .invokespecial 3, 3), (4, .aload_n 0, 1), (5, .new 9, 3), (8, .dup, 1), (9, .invokespecial 11, 3), (12, .putfield 12, 3), (15, .aload_n 0, 1), (16, .new 18, 3), (19, .dup, 1), (20, .invokespecial 20, 3), (23, .putfield 21, 3), (26, .aload_n 0, 1), (27, .new 25, 3), (30, .dup, 1), (31, .invokespecial 27, 3), (34, .putfield 28, 3), (37, .aload_n 0, 1), (38, .new 32, 3), (41, .dup, 1), (42, .invokespecial 34, 3), (45, .putfield 35, 3), (48, .aload_n 0, 1), (49, .new 39, 3), (52, .dup, 1), (53, .invokespecial 41, 3), (56, .putfield 42, 3), (59, .aload_n 0, 1), (60, .new 46, 3), (63, .dup, 1), (64, .invokespecial 48, 3), (67, .putfield 49, 3), (70, .aload_n 0, 1), (71, .bipush 16, 2), (73, .newarray .int, 2), (75, .putfield 53, 3), (78, .aload_n 0, 1), (79, .bipush 16, 2), (81, .newarray .int, 2), (83, .putfield 57, 3), (86, .return_, 1)]
def qa_mX1_init : qa_M := (yX1_init, cX1_init, 1, none, 1, qa_iX1_init, 1, 0, 2, 40, [], 84, 83, 0)
def qa_iX1_copyFrom : List (Nat × Instr × Nat) := [(0, .aload_n 0, 1), (1, .getfield 12, 3), (4, .aload_n 1, 1), (5, .getfield 12, 3), (8, .invokevirtual 60, 3), (11, .aload_n 0, 1), (12, .getfield 21, 3), (15, .aload_n 1, 1), (16, .getfield 21, 3), (19, .invokevirtual 64, 3), (22, .aload_n 0, 1), (23, .getfield 28, 3), (26, .aload_n 1, 1), (27, .getfield 28, 3), (30, .invokevirtual 67, 3), (33, .aload_n 0, 1), (34, .getfield 35, 3), (37, .aload_n 1, 1), (38, .getfield 35, 3), (41, .invokevirtual 70, 3), (44, .aload_n 0, 1), (45, .getfield 42, 3), (48, .aload_n 1, 1), (49, .getfield 42, 3), (52, .invokevirtual 73, 3), (55, .aload_n 0, 1), (56, .getfield 49, 3), (59, .aload_n 1, 1), (60, .getfield 49, 3), (63, .invokevirtual 76, 3), (66, .return_, 1)]
def qa_mX1_copyFrom : qa_M := (yX1_copyFrom, cX1_copyFrom, 2, none, 1, qa_iX1_copyFrom, 2, 2, 2, 44, [], 589, 587, 588)
def qa_iX1_mayGoOn : List (Nat × Instr × Nat) := [(0, .aload_n 0, 1), (1, .getfield 21, 3), (4, .getfield 79, 3), (7, .ifCond .le 18, 3), (10, .aload_n 0, 1), (11, .getfield 28, 3), (14, .getfield 83, 3), (17, .iconst (-1), 1), (18, .if_icmp .ne 7, 3), (21, .iconst 1, 1), (22, .goto 4, 3), (25, .iconst 0, 1), (26, .ireturn, 1)]
def qa_mX1_mayGoOn : qa_M := (yX1_mayGoOn, cX1_mayGoOn, 1, (some .boolean), 1, qa_iX1_mayGoOn, 1, 2, 0, 0, [], 663, 661, 662)
def qa_iX1_mayAsk : List (Nat × Instr × Nat) := [(0, .aload_n 0, 1), (1, .getfield 12, 3), (4, .iload_n 1, 1), (5, .invokevirtual 86, 3), (8, .ifCond .ne 41, 3), (11, .iload_n 1, 1), (12, .aload_n 0, 1), (13, .getfield 35, 3), (16, .getfield 90, 3), (19, .if_icmp .eq 30, 3), (22, .iload_n 1, 1), (23, .aload_n 0, 1), (24, .getfield 28, 3), (27, .getfield 83, 3), (30, .if_icmp .eq 19, 3), (33, .aload_n 0, 1), (34, .getfield 35, 3), (37, .iload_n 1, 1), (38, .invokevirtual 93, 3), (41, .iconst (-1), 1), (42, .if_icmp .ne 7, 3), (45, .iconst 1, 1), (46, .goto 4, 3), (49, .iconst 0, 1), (50, .ireturn, 1)]
def qa_mX1_mayAsk : qa_M := (yX1_mayAsk, cX1_mayAsk, 2, (some .boolean), 1, qa_iX1_mayAsk, 2, 2, 2, 43, [], 896, 894, 895)
def qa_iX1_mayBurn : List (Nat × Instr × Nat) := [(0, .aload_n 0, 1), (1, .getfield 12, 3), (4, .iload_n 1, 1), (5, .invokevirtual 86, 3), (8, .ifCond .eq 18, 3), (11, .aload_n 0, 1), (12, .getfield 28, 3), (15, .iload_n 1, 1), (16, .invokevirtual 97, 3), (19, .ifCond .ne 7, 3), (22, .iconst 1, 1), (23, .goto 4, 3), (26, .iconst 0, 1), (27, .ireturn, 1)]
def qa_mX1_mayBurn : qa_M := (yX1_mayBurn, cX1_mayBurn, 2, (some .boolean), 1, qa_iX1_mayBurn, 2, 2, 1, 21, [], 568, 566, 567)
def qa_iX1_obey : List (Nat × Instr × Nat) := [(0, .iload_n 1, 1), (1, .lookupswitch 94 #[(97, 56), (98, 62), (110, 51), (112, 68), (116, 74)], 51), (52, .aload_n 0, 1), (53, .invokevirtual 100, 3), (56, .ireturn, 1), (57, .aload_n 0, 1), (58, .iload_n 2, 1), (59, .invokevirtual 104, 3), (62, .ireturn, 1), (63, .aload_n 0, 1), (64, .iload_n 2, 1), (65, .invokevirtual 107, 3), (68, .ireturn, 1), (69, .aload_n 0, 1), (70, .iload_n 2, 1), (71, .invokevirtual 110, 3), (74, .ireturn, 1), (75, .iconst 0, 1), (76, .istore_n 3, 1), (77, .iload_n 3, 1), (78, .iload_n 2, 1), (79, .if_icmp .ge 14, 3), (82, .aload_n 0, 1), (83, .invokevirtual 113, 3), (86, .pop, 1), (87, .iinc 3 1, 3), (90, .goto (-13), 3), (93, .iconst 1, 1), (94, .ireturn, 1), (95, .iconst 0, 1), (96, .ireturn, 1)]
def qa_mX1_obey : qa_M := (yX1_obey, cX1_obey, 4, (some .boolean), 1, qa_iX1_obey, 3, 2, 6, 133, [], 993, 991, 992)
def qa_iX1_obeyGoOn : List (Nat × Instr × Nat) := [(0, .aload_n 0, 1), (1, .invokevirtual 117, 3), (4, .ifCond .ne 5, 3), (7, .iconst 0, 1), (8, .ireturn, 1), (9, .aload_n 0, 1), (10, .invokevirtual 120, 3), (13, .pop, 1), (14, .aload_n 0, 1), (15, .invokevirtual 123, 3), (18, .iconst 1, 1), (19, .ireturn, 1)]
def qa_mX1_obeyGoOn : qa_M := (yX1_obeyGoOn, cX1_obeyGoOn, 1, (some .boolean), 1, qa_iX1_obeyGoOn, 1, 2, 5, 112, [], 997, 995, 996)
def qa_iX1_obeyAsk : List (Nat × Instr × Nat) := [(0, .aload_n 0, 1), (1, .getfield 12, 3), (4, .iload_n 1, 1), (5, .invokevirtual 126, 3), (8, .ifCond .eq 11, 3), (11, .aload_n 0, 1), (12, .iload_n 1, 1), (13, .invokevirtual 129, 3), (16, .ifCond .ne 5, 3), (19, .iconst 0, 1), (20, .ireturn, 1), (21, .aload_n 0, 1), (22, .getfield 35, 3), (25, .iload_n 1, 1), (26, .invokevirtual 132, 3), (29, .aload_n 0, 1), (30, .invokevirtual 123, 3), (33, .iconst 1, 1), (34, .ireturn, 1)]
def qa_mX1_obeyAsk : qa_M := (yX1_obeyAsk, cX1_obeyAsk, 2, (some .boolean), 1, qa_iX1_obeyAsk, 2, 2, 5, 112, [], 1001, 999, 1000)
def qa_iX1_obeyBurn : List (Nat × Instr × Nat) := [(0, .aload_n 0, 1), (1, .getfield 12, 3), (4, .iload_n 1, 1), (5, .invokevirtual 126, 3), (8, .ifCond .eq 11, 3), (11, .aload_n 0, 1), (12, .iload_n 1, 1), (13, .invokevirtual 136, 3), (16, .ifCond .ne 5, 3), (19, .iconst 0, 1), (20, .ireturn, 1), (21, .aload_n 0, 1), (22, .iload_n 1, 1), (23, .invokevirtual 139, 3), (26, .aload_n 0, 1), (27, .invokevirtual 123, 3), (30, .iconst 1, 1), (31, .ireturn, 1)]
def qa_mX1_obeyBurn : qa_M := (yX1_obeyBurn, cX1_obeyBurn, 2, (some .boolean), 1, qa_iX1_obeyBurn, 2, 2, 5, 112, [], 1008, 1006, 1007)
def qa_iX1_obeyInsert : List (Nat × Instr × Nat) := [(0, .aload_n 0, 1), (1, .getfield 12, 3), (4, .iload_n 1, 1), (5, .invokevirtual 126, 3), (8, .ifCond .eq 15, 3), (11, .aload_n 0, 1), (12, .getfield 21, 3), (15, .getfield 79, 3), (18, .bipush 24, 2), (20, .if_icmp .lt 5, 3), (23, .iconst 0, 1), (24, .ireturn, 1), (25, .aload_n 0, 1), (26, .getfield 21, 3), (29, .aload_n 0, 1), (30, .getfield 21, 3), (33, .getfield 79, 3), (36, .iload_n 1, 1), (37, .invokevirtual 142, 3), (40, .aload_n 0, 1), (41, .invokevirtual 123, 3), (44, .iconst 1, 1), (45, .ireturn, 1)]
def qa_mX1_obeyInsert : qa_M := (yX1_obeyInsert, cX1_obeyInsert, 2, (some .boolean), 1, qa_iX1_obeyInsert, 2, 2, 5, 112, [], 1012, 1010, 1011)
def qa_iX1_proceed : List (Nat × Instr × Nat) := [(0, .aload_n 0, 1), (1, .getfield 21, 3), (4, .invokevirtual 146, 3), (7, .istore_n 1, 1), (8, .aload_n 0, 1), (9, .getfield 12, 3), (12, .iload_n 1, 1), (13, .invokevirtual 86, 3), (16, .ifCond .eq 23, 3), (19, .aload_n 0, 1), (20, .getfield 49, 3), (23, .dup, 1), (24, .getfield 149, 3), (27, .iconst 1, 1), (28, .iadd, 1), (29, .putfield 149, 3), (32, .aload_n 0, 1), (33, .iload_n 1, 1), (34, .invokevirtual 152, 3), (37, .iconst 1, 1), (38, .ireturn, 1), (39, .aload_n 0, 1), (40, .getfield 49, 3), (43, .dup, 1), (44, .getfield 155, 3), (47, .iconst 1, 1), (48, .iadd, 1), (49, .putfield 155, 3), (52, .aload_n 0, 1), (53, .getfield 28, 3), (56, .iload_n 1, 1), (57, .putfield 83, 3), (60, .aload_n 0, 1), (61, .getfield 35, 3), (64, .iload_n 1, 1), (65, .invokevirtual 93, 3), (68, .istore_n 2, 1), (69, .iload_n 2, 1), (70, .iconst (-1), 1), (71, .if_icmp .eq 11, 3), (74, .aload_n 0, 1), (75, .getfield 35, 3), (78, .iload_n 2, 1), (79, .invokevirtual 158, 3), (82, .iconst 0, 1), (83, .ireturn, 1)]
def qa_mX1_proceed : qa_M := (yX1_proceed, cX1_proceed, 3, (some .boolean), 1, qa_iX1_proceed, 1, 2, 3, 64, [], 667, 665, 666)
def qa_iX1_bringOn : List (Nat × Instr × Nat) := [(0, .aload_n 0, 1), (1, .getfield 28, 3), (4, .iload_n 1, 1), (5, .aload_n 0, 1), (6, .getfield 12, 3), (9, .getfield 161, 3), (12, .iload_n 1, 1), (13, .invokestatic 164, 3), (16, .invokevirtual 168, 3), (19, .aload_n 0, 1), (20, .getfield 12, 3), (23, .iload_n 1, 1), (24, .invokevirtual 171, 3), (27, .return_, 1)]
def qa_mX1_bringOn : qa_M := (yX1_bringOn, cX1_bringOn, 2, none, 1, qa_iX1_bringOn, 2, 2, 2, 43, [], 651, 649, 650)
def qa_iX1_passTicks : List (Nat × Instr × Nat) := [(0, .iconst 0, 1), (1, .istore_n 2, 1), (2, .iconst 0, 1), (3, .istore_n 3, 1), (4, .iload_n 3, 1), (5, .iload_n 1, 1), (6, .if_icmp .ge 16, 3), (9, .iload_n 2, 1), (10, .aload_n 0, 1), (11, .invokevirtual 113, 3), (14, .iadd, 1), (15, .istore_n 2, 1), (16, .iinc 3 1, 3), (19, .goto (-15), 3), (22, .iload_n 2, 1), (23, .ireturn, 1)]
def qa_mX1_passTicks : qa_M := (yX1_passTicks, cX1_passTicks, 4, (some .int), 1, qa_iX1_passTicks, 2, 2, 6, 133, [], 920, 918, 919)
def qa_iX1_passTick : List (Nat × Instr × Nat) := [(0, .iconst 0, 1), (1, .istore_n 1, 1), (2, .aload_n 0, 1), (3, .getfield 49, 3), (6, .dup, 1), (7, .getfield 174, 3), (10, .iconst 1, 1), (11, .iadd, 1), (12, .putfield 174, 3), (15, .aload_n 0, 1), (16, .getfield 28, 3), (19, .getfield 83, 3), (22, .iconst (-1), 1), (23, .if_icmp .eq 16, 3), (26, .aload_n 0, 1), (27, .getfield 49, 3), (30, .dup, 1), (31, .getfield 177, 3), (34, .iconst 1, 1), (35, .iadd, 1), (36, .putfield 177, 3), (39, .aload_n 0, 1), (40, .getfield 12, 3), (43, .invokevirtual 180, 3), (46, .aload_n 0, 1), (47, .getfield 28, 3), (50, .invokevirtual 183, 3), (53, .aload_n 0, 1), (54, .getfield 28, 3), (57, .invokevirtual 186, 3), (60, .aload_n 0, 1), (61, .invokevirtual 189, 3), (64, .ifCond .eq 6, 3), (67, .iinc 1 1, 3), (70, .aload_n 0, 1), (71, .invokevirtual 192, 3), (74, .ifCond .eq 13, 3), (77, .aload_n 0, 1), (78, .invokevirtual 120, 3), (81, .ifCond .eq 6, 3), (84, .iinc 1 1, 3), (87, .aload_n 0, 1), (88, .invokevirtual 123, 3), (91, .iload_n 1, 1), (92, .ireturn, 1)]
def qa_mX1_passTick : qa_M := (yX1_passTick, cX1_passTick, 2, (some .int), 1, qa_iX1_passTick, 1, 2, 5, 112, [], 622, 620, 621)
def qa_iX1_paceIsReached : List (Nat × Instr × Nat) := [(0, .aload_n 0, 1), (1, .getfield 42, 3), (4, .getfield 195, 3), (7, .ifCond .le 42, 3), (10, .aload_n 0, 1), (11, .invokevirtual 117, 3), (14, .ifCond .eq 35, 3), (17, .aload_n 0, 1), (18, .getfield 28, 3), (21, .getfield 198, 3), (24, .iconst (-1), 1), (25, .if_icmp .eq 24, 3), (28, .aload_n 0, 1), (29, .getfield 28, 3), (32, .getfield 201, 3), (35, .aload_n 0, 1), (36, .getfield 42, 3), (39, .getfield 195, 3), (42, .if_icmp .lt 7, 3), (45, .iconst 1, 1), (46, .goto 4, 3), (49, .iconst 0, 1), (50, .ireturn, 1)]
def qa_mX1_paceIsReached : qa_M := (yX1_paceIsReached, cX1_paceIsReached, 1, (some .boolean), 1, qa_iX1_paceIsReached, 1, 2, 1, 20, [], 659, 657, 658)
def qa_iX1_loadOnce : List (Nat × Instr × Nat) := [(0, .aload_n 0, 1), (1, .getfield 35, 3), (4, .getfield 90, 3), (7, .istore_n 1, 1), (8, .iload_n 1, 1), (9, .iconst (-1), 1), (10, .if_icmp .ne 5, 3), (13, .iconst 0, 1), (14, .ireturn, 1), (15, .aload_n 0, 1), (16, .getfield 35, 3), (19, .dup, 1), (20, .getfield 204, 3), (23, .iconst 1, 1), (24, .isub, 1), (25, .putfield 204, 3), (28, .aload_n 0, 1), (29, .getfield 35, 3), (32, .getfield 204, 3), (35, .ifCond .le 5, 3), (38, .iconst 0, 1), (39, .ireturn, 1), (40, .aload_n 0, 1), (41, .getfield 35, 3), (44, .iconst (-1), 1), (45, .putfield 90, 3), (48, .aload_n 0, 1), (49, .getfield 12, 3), (52, .iload_n 1, 1), (53, .iconst 1, 1), (54, .invokevirtual 207, 3), (57, .aload_n 0, 1), (58, .getfield 12, 3), (61, .iload_n 1, 1), (62, .invokevirtual 171, 3), (65, .aload_n 0, 1), (66, .getfield 28, 3), (69, .getfield 83, 3), (72, .iload_n 1, 1), (73, .if_icmp .eq 5, 3), (76, .iconst 0, 1), (77, .ireturn, 1), (78, .aload_n 0, 1), (79, .iload_n 1, 1), (80, .invokevirtual 152, 3), (83, .iconst 1, 1), (84, .ireturn, 1)]
def qa_mX1_loadOnce : qa_M := (yX1_loadOnce, cX1_loadOnce, 2, (some .boolean), 1, qa_iX1_loadOnce, 1, 2, 3, 64, [], 638, 636, 637)
def qa_iX1_beginLoading : List (Nat × Instr × Nat) := [(0, .aload_n 0, 1), (1, .getfield 35, 3), (4, .getfield 90, 3), (7, .iconst (-1), 1), (8, .if_icmp .eq 4, 3), (11, .return_, 1), (12, .aload_n 0, 1), (13, .invokevirtual 211, 3), (16, .istore_n 1, 1), (17, .iload_n 1, 1), (18, .iconst (-1), 1), (19, .if_icmp .ne 4, 3), (22, .return_, 1), (23, .aload_n 0, 1), (24, .getfield 12, 3), (27, .getfield 214, 3), (30, .iload_n 1, 1), (31, .invokestatic 164, 3), (34, .istore_n 2, 1), (35, .aload_n 0, 1), (36, .aload_n 0, 1), (37, .getfield 42, 3), (40, .getfield 217, 3), (43, .iload_n 2, 1), (44, .isub, 1), (45, .invokevirtual 220, 3), (48, .aload_n 0, 1), (49, .getfield 12, 3), (52, .getfield 223, 3), (55, .iload_n 1, 1), (56, .invokestatic 164, 3), (59, .ifCond .le 16, 3), (62, .aload_n 0, 1), (63, .getfield 49, 3), (66, .dup, 1), (67, .getfield 226, 3), (70, .iconst 1, 1), (71, .iadd, 1), (72, .putfield 226, 3), (75, .aload_n 0, 1), (76, .getfield 49, 3), (79, .dup, 1), (80, .getfield 229, 3), (83, .iconst 1, 1), (84, .iadd, 1), (85, .putfield 229, 3), (88, .aload_n 0, 1), (89, .getfield 35, 3), (92, .iload_n 1, 1), (93, .putfield 90, 3), (96, .aload_n 0, 1), (97, .getfield 35, 3), (100, .aload_n 0, 1), (101, .getfield 12, 3), (104, .iload_n 1, 1), (105, .iconst 0, 1), (106, .invokevirtual 232, 3), (109, .putfield 204, 3), (112, .aload_n 0, 1), (113, .getfield 35, 3), (116, .dup, 1), (117, .getfield 236, 3), (120, .iload_n 2, 1), (121, .iadd, 1), (122, .putfield 236, 3), (125, .aload_n 0, 1), (126, .getfield 12, 3), (129, .getfield 223, 3), (132, .iload_n 1, 1), (133, .iconst 0, 1), (134, .invokestatic 239, 3), (137, .return_, 1)]
def qa_mX1_beginLoading : qa_M := (yX1_beginLoading, cX1_beginLoading, 3, none, 1, qa_iX1_beginLoading, 1, 2, 4, 90, [], 686, 684, 685)
def qa_iX1_nextToLoad : List (Nat × Instr × Nat) := [(0, .aload_n 0, 1), (1, .getfield 28, 3), (4, .getfield 83, 3), (7, .iconst (-1), 1), (8, .if_icmp .eq 11, 3), (11, .aload_n 0, 1), (12, .getfield 28, 3), (15, .getfield 83, 3), (18, .ireturn, 1), (19, .aload_n 0, 1), (20, .getfield 35, 3), (23, .getfield 243, 3), (26, .ifCond .le 25, 3), (29, .aload_n 0, 1), (30, .getfield 35, 3), (33, .getfield 246, 3), (36, .iconst 0, 1), (37, .invokestatic 164, 3), (40, .istore_n 1, 1), (41, .aload_n 0, 1), (42, .getfield 35, 3), (45, .iconst 0, 1), (46, .invokevirtual 158, 3), (49, .iload_n 1, 1), (50, .ireturn, 1), (51, .aload_n 0, 1), (52, .invokevirtual 249, 3), (55, .ireturn, 1)]
def qa_mX1_nextToLoad : qa_M := (yX1_nextToLoad, cX1_nextToLoad, 2, (some .int), 1, qa_iX1_nextToLoad, 1, 2, 2, 44, [], 690, 688, 689)
def qa_iX1_nextInGoodTime : List (Nat × Instr × Nat) := [(0, .iconst 1, 1), (1, .istore_n 1, 1), (2, .iload_n 1, 1), (3, .aload_n 0, 1), (4, .getfield 42, 3), (7, .getfield 252, 3), (10, .if_icmp .gt 69, 3), (13, .aload_n 0, 1), (14, .getfield 21, 3), (17, .iload_n 1, 1), (18, .invokevirtual 255, 3), (21, .istore_n 2, 1), (22, .iload_n 2, 1), (23, .iconst (-1), 1), (24, .if_icmp .eq 49, 3), (27, .aload_n 0, 1), (28, .getfield 12, 3), (31, .iload_n 2, 1), (32, .invokevirtual 86, 3), (35, .ifCond .ne 38, 3), (38, .aload_n 0, 1), (39, .getfield 35, 3), (42, .getfield 236, 3), (45, .aload_n 0, 1), (46, .getfield 12, 3), (49, .getfield 214, 3), (52, .iload_n 2, 1), (53, .invokestatic 164, 3), (56, .iadd, 1), (57, .aload_n 0, 1), (58, .getfield 42, 3), (61, .getfield 217, 3), (64, .if_icmp .gt 7, 3), (67, .iload_n 2, 1), (68, .goto 4, 3), (71, .iconst (-1), 1), (72, .ireturn, 1), (73, .iinc 1 1, 3), (76, .goto (-74), 3), (79, .iconst (-1), 1), (80, .ireturn, 1)]
def qa_mX1_nextInGoodTime : qa_M := (yX1_nextInGoodTime, cX1_nextInGoodTime, 3, (some .int), 1, qa_iX1_nextInGoodTime, 1, 2, 1, 22, [], 694, 692, 693)
def qa_iX1_putOnFire : List (Nat × Instr × Nat) := [(0, .aload_n 0, 1), (1, .getfield 12, 3), (4, .iload_n 1, 1), (5, .iconst 0, 1), (6, .invokevirtual 207, 3), (9, .aload_n 0, 1), (10, .getfield 12, 3), (13, .getfield 223, 3), (16, .iload_n 1, 1), (17, .aload_n 0, 1), (18, .getfield 42, 3), (21, .getfield 258, 3), (24, .invokestatic 239, 3), (27, .aload_n 0, 1), (28, .getfield 12, 3), (31, .getfield 261, 3), (34, .iload_n 1, 1), (35, .aload_n 0, 1), (36, .getfield 12, 3), (39, .getfield 261, 3), (42, .iload_n 1, 1), (43, .invokestatic 164, 3), (46, .iconst 1, 1), (47, .iadd, 1), (48, .invokestatic 239, 3), (51, .aload_n 0, 1), (52, .getfield 35, 3), (55, .dup, 1), (56, .getfield 236, 3), (59, .aload_n 0, 1), (60, .getfield 12, 3), (63, .getfield 214, 3), (66, .iload_n 1, 1), (67, .invokestatic 164, 3), (70, .isub, 1), (71, .putfield 236, 3), (74, .aload_n 0, 1), (75, .getfield 49, 3), (78, .dup, 1), (79, .getfield 264, 3), (82, .iconst 1, 1), (83, .iadd, 1), (84, .putfield 264, 3), (87, .return_, 1)]
def qa_mX1_putOnFire : qa_M := (yX1_putOnFire, cX1_putOnFire, 2, none, 1, qa_iX1_putOnFire, 2, 2, 1, 22, [], 702, 700, 701)
def qa_iX1_burnDownTo : List (Nat × Instr × Nat) := [(0, .aload_n 0, 1), (1, .getfield 35, 3), (4, .getfield 236, 3), (7, .iload_n 1, 1), (8, .if_icmp .gt 4, 3), (11, .return_, 1), (12, .aload_n 0, 1), (13, .invokevirtual 267, 3), (16, .istore_n 2, 1), (17, .iconst 0, 1), (18, .istore_n 3, 1), (19, .iload_n 3, 1), (20, .iload_n 2, 1), (21, .if_icmp .ge 32, 3), (24, .aload_n 0, 1), (25, .getfield 35, 3), (28, .getfield 236, 3), (31, .iload_n 1, 1), (32, .if_icmp .le 21, 3), (35, .aload_n 0, 1), (36, .aload_n 0, 1), (37, .getfield 57, 3), (40, .iload_n 3, 1), (41, .invokestatic 164, 3), (44, .invokevirtual 139, 3), (47, .iinc 3 1, 3), (50, .goto (-31), 3), (53, .return_, 1)]
def qa_mX1_burnDownTo : qa_M := (yX1_burnDownTo, cX1_burnDownTo, 4, none, 1, qa_iX1_burnDownTo, 2, 2, 3, 67, [], 698, 696, 697)
def qa_iX1_lineUp : List (Nat × Instr × Nat) := [(0, .aload_n 0, 1), (1, .getfield 42, 3), (4, .getfield 270, 3), (7, .iconst 2, 1), (8, .if_icmp .ne 10, 3), (11, .aload_n 0, 1), (12, .invokevirtual 273, 3), (15, .goto 7, 3), (18, .aload_n 0, 1), (19, .invokevirtual 276, 3), (22, .iconst 0, 1), (23, .istore_n 1, 1), (24, .iconst 0, 1), (25, .istore_n 2, 1), (26, .iload_n 2, 1), (27, .aload_n 0, 1), (28, .getfield 12, 3), (31, .getfield 279, 3), (34, .if_icmp .ge 87, 3), (37, .aload_n 0, 1), (38, .iload_n 2, 1), (39, .invokevirtual 136, 3), (42, .ifCond .eq 73, 3), (45, .iload_n 1, 1), (46, .istore_n 3, 1), (47, .iload_n 3, 1), (48, .ifCond .le 55, 3), (51, .aload_n 0, 1), (52, .getfield 53, 3), (55, .aload_n 0, 1), (56, .getfield 57, 3), (59, .iload_n 3, 1), (60, .iconst 1, 1), (61, .isub, 1), (62, .invokestatic 164, 3), (65, .invokestatic 164, 3), (68, .aload_n 0, 1), (69, .getfield 53, 3), (72, .iload_n 2, 1), (73, .invokestatic 164, 3), (76, .if_icmp .ge 27, 3), (79, .aload_n 0, 1), (80, .getfield 57, 3), (83, .iload_n 3, 1), (84, .aload_n 0, 1), (85, .getfield 57, 3), (88, .iload_n 3, 1), (89, .iconst 1, 1), (90, .isub, 1), (91, .invokestatic 164, 3), (94, .invokestatic 239, 3), (97, .iinc 3 (-1), 3), (100, .goto (-53), 3), (103, .aload_n 0, 1), (104, .getfield 57, 3), (107, .iload_n 3, 1), (108, .iload_n 2, 1), (109, .invokestatic 239, 3), (112, .iinc 1 1, 3), (115, .iinc 2 1, 3), (118, .goto (-92), 3), (121, .iload_n 1, 1), (122, .ireturn, 1)]
def qa_mX1_lineUp : qa_M := (yX1_lineUp, cX1_lineUp, 4, (some .int), 1, qa_iX1_lineUp, 1, 2, 2, 44, [], 552, 550, 551)
def qa_iX1_weighByUseOrCost : List (Nat × Instr × Nat) := [(0, .iconst 0, 1), (1, .istore_n 1, 1), (2, .iload_n 1, 1), (3, .aload_n 0, 1), (4, .getfield 12, 3), (7, .getfield 279, 3), (10, .if_icmp .ge 63, 3), (13, .aload_n 0, 1), (14, .getfield 42, 3), (17, .getfield 270, 3), (20, .ifCond .ne 7, 3), (23, .iconst 1, 1), (24, .goto 4, 3), (27, .iconst 0, 1), (28, .istore_n 2, 1), (29, .aload_n 0, 1), (30, .getfield 53, 3), (33, .iload_n 1, 1), (34, .iload_n 2, 1), (35, .ifCond .eq 18, 3), (38, .aload_n 0, 1), (39, .getfield 12, 3), (42, .getfield 280, 3), (45, .iload_n 1, 1), (46, .invokestatic 164, 3), (49, .ineg, 1), (50, .goto 14, 3), (53, .aload_n 0, 1), (54, .getfield 12, 3), (57, .getfield 214, 3), (60, .iload_n 1, 1), (61, .invokestatic 164, 3), (64, .invokestatic 239, 3), (67, .iinc 1 1, 3), (70, .goto (-68), 3), (73, .return_, 1)]
def qa_mX1_weighByUseOrCost : qa_M := (yX1_weighByUseOrCost, cX1_weighByUseOrCost, 3, none, 1, qa_iX1_weighByUseOrCost, 1, 2, 1, 22, [], 564, 562, 563)
def qa_iX1_weighByNextUse : List (Nat × Instr × Nat) := [(0, .iconst 0, 1), (1, .istore_n 1, 1), (2, .iload_n 1, 1), (3, .aload_n 0, 1), (4, .getfield 12, 3), (7, .getfield 279, 3), (10, .if_icmp .ge 19, 3), (13, .aload_n 0, 1), (14, .getfield 53, 3), (17, .iload_n 1, 1), (18, .bipush 25, 2), (20, .invokestatic 239, 3), (23, .iinc 1 1, 3), (26, .goto (-24), 3), (29, .aload_n 0, 1), (30, .getfield 21, 3), (33, .getfield 79, 3), (36, .istore_n 1, 1), (37, .iload_n 1, 1), (38, .ifCond .le 25, 3), (41, .aload_n 0, 1), (42, .getfield 53, 3), (45, .aload_n 0, 1), (46, .getfield 21, 3), (49, .iload_n 1, 1), (50, .invokevirtual 255, 3), (53, .iload_n 1, 1), (54, .invokestatic 239, 3), (57, .iinc 1 (-1), 3), (60, .goto (-23), 3), (63, .return_, 1)]
def qa_mX1_weighByNextUse : qa_M := (yX1_weighByNextUse, cX1_weighByNextUse, 2, none, 1, qa_iX1_weighByNextUse, 1, 2, 1, 22, [], 556, 554, 555)
def qa_iX1_placeInLine : List (Nat × Instr × Nat) := [(0, .aload_n 0, 1), (1, .invokevirtual 267, 3), (4, .istore_n 2, 1), (5, .iconst 0, 1), (6, .istore_n 3, 1), (7, .iload_n 3, 1), (8, .iload_n 2, 1), (9, .if_icmp .ge 23, 3), (12, .aload_n 0, 1), (13, .getfield 57, 3), (16, .iload_n 3, 1), (17, .invokestatic 164, 3), (20, .iload_n 1, 1), (21, .if_icmp .ne 5, 3), (24, .iload_n 3, 1), (25, .ireturn, 1), (26, .iinc 3 1, 3), (29, .goto (-22), 3), (32, .iconst (-1), 1), (33, .ireturn, 1)]
def qa_mX1_placeInLine : qa_M := (yX1_placeInLine, cX1_placeInLine, 4, (some .int), 1, qa_iX1_placeInLine, 2, 2, 3, 67, [], 548, 546, 547)
def qa_iX1_burningsToLoad : List (Nat × Instr × Nat) := [(0, .aload_n 0, 1), (1, .getfield 12, 3), (4, .iload_n 1, 1), (5, .invokevirtual 86, 3), (8, .ifCond .ne 14, 3), (11, .iload_n 1, 1), (12, .aload_n 0, 1), (13, .getfield 35, 3), (16, .getfield 90, 3), (19, .if_icmp .ne 5, 3), (22, .iconst 0, 1), (23, .ireturn, 1), (24, .aload_n 0, 1), (25, .getfield 35, 3), (28, .getfield 236, 3), (31, .aload_n 0, 1), (32, .getfield 12, 3), (35, .getfield 214, 3), (38, .iload_n 1, 1), (39, .invokestatic 164, 3), (42, .iadd, 1), (43, .aload_n 0, 1), (44, .getfield 42, 3), (47, .getfield 217, 3), (50, .isub, 1), (51, .istore_n 2, 1), (52, .aload_n 0, 1), (53, .invokevirtual 267, 3), (56, .istore_n 3, 1), (57, .iconst 0, 1), (58, .istore 4, 2), (60, .iload 4, 2), (62, .iload_n 3, 1), (63, .if_icmp .ge 35, 3), (66, .iload_n 2, 1), (67, .ifCond .le 31, 3), (70, .iload_n 2, 1), (71, .aload_n 0, 1), (72, .getfield 12, 3), (75, .getfield 214, 3), (78, .aload_n 0, 1), (79, .getfield 57, 3), (82, .iload 4, 2), (84, .invokestatic 164, 3), (87, .invokestatic 164, 3), (90, .isub, 1), (91, .istore_n 2, 1), (92, .iinc 4 1, 3), (95, .goto (-35), 3), (98, .iload 4, 2), (100, .ireturn, 1)]
def qa_mX1_burningsToLoad : qa_M := (yX1_burningsToLoad, cX1_burningsToLoad, 5, (some .int), 1, qa_iX1_burningsToLoad, 2, 2, 3, 67, [], 573, 571, 572)
def qa_iX1_sumOfCosts : List (Nat × Instr × Nat) := [(0, .iconst 0, 1), (1, .istore_n 1, 1), (2, .iconst 0, 1), (3, .istore_n 2, 1), (4, .iload_n 2, 1), (5, .aload_n 0, 1), (6, .getfield 12, 3), (9, .getfield 279, 3), (12, .if_icmp .ge 45, 3), (15, .aload_n 0, 1), (16, .getfield 12, 3), (19, .iload_n 2, 1), (20, .invokevirtual 86, 3), (23, .ifCond .ne 14, 3), (26, .iload_n 2, 1), (27, .aload_n 0, 1), (28, .getfield 35, 3), (31, .getfield 90, 3), (34, .if_icmp .ne 17, 3), (37, .iload_n 1, 1), (38, .aload_n 0, 1), (39, .getfield 12, 3), (42, .getfield 214, 3), (45, .iload_n 2, 1), (46, .invokestatic 164, 3), (49, .iadd, 1), (50, .istore_n 1, 1), (51, .iinc 2 1, 3), (54, .goto (-50), 3), (57, .iload_n 1, 1), (58, .ireturn, 1)]
def qa_mX1_sumOfCosts : qa_M := (yX1_sumOfCosts, cX1_sumOfCosts, 3, (some .int), 1, qa_iX1_sumOfCosts, 1, 2, 1, 21, [], 447, 445, 446)
def qa_iX1_sumOfWait : List (Nat × Instr × Nat) := [(0, .aload_n 0, 1), (1, .getfield 35, 3), (4, .getfield 90, 3), (7, .aload_n 0, 1), (8, .getfield 28, 3), (11, .getfield 83, 3), (14, .if_icmp .ne 11, 3), (17, .aload_n 0, 1), (18, .getfield 35, 3), (21, .getfield 204, 3), (24, .ireturn, 1), (25, .aload_n 0, 1), (26, .getfield 35, 3), (29, .getfield 204, 3), (32, .aload_n 0, 1), (33, .getfield 12, 3), (36, .aload_n 0, 1), (37, .getfield 28, 3), (40, .getfield 83, 3), (43, .aload_n 0, 1), (44, .getfield 35, 3), (47, .getfield 204, 3), (50, .invokevirtual 232, 3), (53, .iadd, 1), (54, .ireturn, 1)]
def qa_mX1_sumOfWait : qa_M := (yX1_sumOfWait, cX1_sumOfWait, 1, (some .int), 1, qa_iX1_sumOfWait, 1, 2, 2, 44, [], 707, 705, 706)
def qa_iX2_init : List (Nat × Instr × Nat) := [(0, .aload_n 0, 1), (1, .invokespecial 3, 3), (4, .aload_n 0, 1), (5, .iconst (-1), 1), (6, .putfield 9, 3), (9, .aload_n 0, 1), (10, .bipush 16, 2), (12, .newarray .int, 2), (14, .putfield 15, 3), (17, .return_, 1)]
def qa_mX2_init : qa_M := (yX2_init, cX2_init, 1, none, 2, qa_iX2_init, 1, 0, 1, 20, [], 187, 186, 0)
def qa_iX2_copyFrom : List (Nat × Instr × Nat) := [(0, .aload_n 0, 1), (1, .aload_n 1, 1), (2, .getfield 9, 3), (5, .putfield 9, 3), (8, .aload_n 0, 1), (9, .aload_n 1, 1), (10, .getfield 19, 3), (13, .putfield 19, 3), (16, .aload_n 0, 1), (17, .aload_n 1, 1), (18, .getfield 22, 3), (21, .putfield 22, 3), (24, .aload_n 1, 1), (25, .getfield 15, 3), (28, .aload_n 0, 1), (29, .getfield 15, 3), (32, .invokestatic 25, 3), (35, .aload_n 0, 1), (36, .aload_n 1, 1), (37, .getfield 29, 3), (40, .putfield 29, 3), (43, .return_, 1)]
def qa_mX2_copyFrom : qa_M := (yX2_copyFrom, cX2_copyFrom, 2, none, 2, qa_iX2_copyFrom, 2, 2, 1, 22, [], 609, 607, 608)
def qa_iX2_queuePlace : List (Nat × Instr × Nat) := [(0, .iconst 0, 1), (1, .istore_n 2, 1), (2, .iload_n 2, 1), (3, .aload_n 0, 1), (4, .getfield 22, 3), (7, .if_icmp .ge 23, 3), (10, .aload_n 0, 1), (11, .getfield 15, 3), (14, .iload_n 2, 1), (15, .invokestatic 32, 3), (18, .iload_n 1, 1), (19, .if_icmp .ne 5, 3), (22, .iload_n 2, 1), (23, .ireturn, 1), (24, .iinc 2 1, 3), (27, .goto (-25), 3), (30, .iconst (-1), 1), (31, .ireturn, 1)]
def qa_mX2_queuePlace : qa_M := (yX2_queuePlace, cX2_queuePlace, 3, (some .int), 2, qa_iX2_queuePlace, 2, 2, 1, 21, [], 676, 674, 675)
def qa_iX2_queue : List (Nat × Instr × Nat) := [(0, .aload_n 0, 1), (1, .getfield 15, 3), (4, .aload_n 0, 1), (5, .getfield 22, 3), (8, .iload_n 1, 1), (9, .invokestatic 36, 3), (12, .aload_n 0, 1), (13, .dup, 1), (14, .getfield 22, 3), (17, .iconst 1, 1), (18, .iadd, 1), (19, .putfield 22, 3), (22, .return_, 1)]
def qa_mX2_queue : qa_M := (yX2_queue, cX2_queue, 2, none, 2, qa_iX2_queue, 2, 2, 1, 22, [], 900, 898, 899)
def qa_iX2_unqueue : List (Nat × Instr × Nat) := [(0, .iload_n 1, 1), (1, .istore_n 2, 1), (2, .iload_n 2, 1), (3, .iconst 1, 1), (4, .iadd, 1), (5, .aload_n 0, 1), (6, .getfield 22, 3), (9, .if_icmp .ge 27, 3), (12, .aload_n 0, 1), (13, .getfield 15, 3), (16, .iload_n 2, 1), (17, .aload_n 0, 1), (18, .getfield 15, 3), (21, .iload_n 2, 1), (22, .iconst 1, 1), (23, .iadd, 1), (24, .invokestatic 32, 3), (27, .invokestatic 36, 3), (30, .iinc 2 1, 3), (33, .goto (-31), 3), (36, .aload_n 0, 1), (37, .dup, 1), (38, .getfield 22, 3), (41, .iconst 1, 1), (42, .isub, 1), (43, .putfield 22, 3), (46, .return_, 1)]
def qa_mX2_unqueue : qa_M := (yX2_unqueue, cX2_unqueue, 3, none, 2, qa_iX2_unqueue, 2, 2, 1, 22, [], 681, 679, 680)
def qa_iX3_init : List (Nat × Instr × Nat) := [(0, .aload_n 0, 1), (1, .invokespecial 3, 3), (4, .aload_n 0, 1), (5, .iconst (-1), 1), (6, .putfield 9, 3), (9, .aload_n 0, 1), (10, .bipush 24, 2), (12, .newarray .int, 2), (14, .putfield 15, 3), (17, .return_, 1)]
def qa_mX3_init : qa_M := (yX3_init, cX3_init, 1, none, 3, qa_iX3_init, 1, 0, 1, 20, [], 137, 136, 0)
def qa_iX3_copyFrom : List (Nat × Instr × Nat) := [(0, .aload_n 0, 1), (1, .aload_n 1, 1), (2, .getfield 19, 3), (5, .putfield 19, 3), (8, .aload_n 0, 1), (9, .aload_n 1, 1), (10, .getfield 9, 3), (13, .putfield 9, 3), (16, .aload_n 1, 1), (17, .getfield 15, 3), (20, .aload_n 0, 1), (21, .getfield 15, 3), (24, .invokestatic 22, 3), (27, .return_, 1)]
def qa_mX3_copyFrom : qa_M := (yX3_copyFrom, cX3_copyFrom, 2, none, 3, qa_iX3_copyFrom, 2, 2, 1, 22, [], 600, 598, 599)
def qa_iX3_has : List (Nat × Instr × Nat) := [(0, .iload_n 1, 1), (1, .ifCond .lt 15, 3), (4, .iload_n 1, 1), (5, .aload_n 0, 1), (6, .getfield 19, 3), (9, .if_icmp .ge 7, 3), (12, .iconst 1, 1), (13, .goto 4, 3), (16, .iconst 0, 1), (17, .ireturn, 1)]
def qa_mX3_has : qa_M := (yX3_has, cX3_has, 2, (some .boolean), 3, qa_iX3_has, 2, 2, 0, 0, [], 872, 870, 871)
def qa_iX3_put : List (Nat × Instr × Nat) := [(0, .aload_n 0, 1), (1, .getfield 19, 3), (4, .istore_n 3, 1), (5, .iload_n 3, 1), (6, .iload_n 1, 1), (7, .if_icmp .le 27, 3), (10, .aload_n 0, 1), (11, .getfield 15, 3), (14, .iload_n 3, 1), (15, .aload_n 0, 1), (16, .getfield 15, 3), (19, .iload_n 3, 1), (20, .iconst 1, 1), (21, .isub, 1), (22, .invokestatic 26, 3), (25, .invokestatic 30, 3), (28, .iinc 3 (-1), 3), (31, .goto (-26), 3), (34, .aload_n 0, 1), (35, .getfield 15, 3), (38, .iload_n 1, 1), (39, .iload_n 2, 1), (40, .invokestatic 30, 3), (43, .aload_n 0, 1), (44, .dup, 1), (45, .getfield 19, 3), (48, .iconst 1, 1), (49, .iadd, 1), (50, .putfield 19, 3), (53, .iload_n 1, 1), (54, .aload_n 0, 1), (55, .getfield 9, 3), (58, .if_icmp .gt 13, 3), (61, .aload_n 0, 1), (62, .dup, 1), (63, .getfield 9, 3), (66, .iconst 1, 1), (67, .iadd, 1), (68, .putfield 9, 3), (71, .return_, 1)]
def qa_mX3_put : qa_M := (yX3_put, cX3_put, 4, none, 3, qa_iX3_put, 3, 2, 1, 22, [], 860, 858, 859)
def qa_iX3_remove : List (Nat × Instr × Nat) := [(0, .aload_n 0, 1), (1, .getfield 15, 3), (4, .iload_n 1, 1), (5, .invokestatic 26, 3), (8, .istore_n 2, 1), (9, .iload_n 1, 1), (10, .istore_n 3, 1), (11, .iload_n 3, 1), (12, .iconst 1, 1), (13, .iadd, 1), (14, .aload_n 0, 1), (15, .getfield 19, 3), (18, .if_icmp .ge 27, 3), (21, .aload_n 0, 1), (22, .getfield 15, 3), (25, .iload_n 3, 1), (26, .aload_n 0, 1), (27, .getfield 15, 3), (30, .iload_n 3, 1), (31, .iconst 1, 1), (32, .iadd, 1), (33, .invokestatic 26, 3), (36, .invokestatic 30, 3), (39, .iinc 3 1, 3), (42, .goto (-31), 3), (45, .aload_n 0, 1), (46, .dup, 1), (47, .getfield 19, 3), (50, .iconst 1, 1), (51, .isub, 1), (52, .putfield 19, 3), (55, .iload_n 1, 1), (56, .aload_n 0, 1), (57, .getfield 9, 3), (60, .if_icmp .gt 13, 3), (63, .aload_n 0, 1), (64, .dup, 1), (65, .getfield 9, 3), (68, .iconst 1, 1), (69, .isub, 1), (70, .putfield 9, 3), (73, .iload_n 2, 1), (74, .ireturn, 1)]
def qa_mX3_remove : qa_M := (yX3_remove, cX3_remove, 4, (some .int), 3, qa_iX3_remove, 2, 2, 1, 22, [], 876, 874, 875)
def qa_iX3_advance : List (Nat × Instr × Nat) := [(0, .aload_n 0, 1), (1, .aload_n 0, 1), (2, .getfield 9, 3), (5, .iconst 1, 1), (6, .iadd, 1), (7, .aload_n 0, 1), (8, .getfield 19, 3), (11, .if_icmp .ge 12, 3), (14, .aload_n 0, 1), (15, .getfield 9, 3), (18, .iconst 1, 1), (19, .iadd, 1), (20, .goto 4, 3), (23, .iconst 0, 1), (24, .putfield 9, 3), (27, .aload_n 0, 1), (28, .getfield 15, 3), (31, .aload_n 0, 1), (32, .getfield 9, 3), (35, .invokestatic 26, 3), (38, .ireturn, 1)]
def qa_mX3_advance : qa_M := (yX3_advance, cX3_advance, 1, (some .int), 3, qa_iX3_advance, 1, 2, 1, 21, [], 671, 669, 670)
def qa_iX3_slideAhead : List (Nat × Instr × Nat) := [(0, .aload_n 0, 1), (1, .getfield 19, 3), (4, .ifCond .gt 5, 3), (7, .iconst (-1), 1), (8, .ireturn, 1), (9, .aload_n 0, 1), (10, .getfield 9, 3), (13, .iload_n 1, 1), (14, .iadd, 1), (15, .aload_n 0, 1), (16, .getfield 19, 3), (19, .irem, 1), (20, .istore_n 2, 1), (21, .iload_n 2, 1), (22, .ifCond .lt 21, 3), (25, .iload_n 2, 1), (26, .aload_n 0, 1), (27, .getfield 15, 3), (30, .arraylength, 1), (31, .if_icmp .ge 12, 3), (34, .aload_n 0, 1), (35, .getfield 15, 3), (38, .iload_n 2, 1), (39, .iaload, 1), (40, .goto 4, 3), (43, .iconst (-1), 1), (44, .ireturn, 1)]
def qa_mX3_slideAhead : qa_M := (yX3_slideAhead, cX3_slideAhead, 3, (some .int), 3, qa_iX3_slideAhead, 2, 2, 0, 0, [], 544, 542, 543)
def qa_iX3_placesUntil : List (Nat × Instr × Nat) := [(0, .iconst 1, 1), (1, .istore_n 2, 1), (2, .iload_n 2, 1), (3, .aload_n 0, 1), (4, .getfield 19, 3), (7, .if_icmp .gt 20, 3), (10, .aload_n 0, 1), (11, .iload_n 2, 1), (12, .invokevirtual 34, 3), (15, .iload_n 1, 1), (16, .if_icmp .ne 5, 3), (19, .iload_n 2, 1), (20, .ireturn, 1), (21, .iinc 2 1, 3), (24, .goto (-22), 3), (27, .iconst 0, 1), (28, .ireturn, 1)]
def qa_mX3_placesUntil : qa_M := (yX3_placesUntil, cX3_placesUntil, 3, (some .int), 3, qa_iX3_placesUntil, 2, 2, 1, 22, [], 540, 538, 539)
def qa_iX4_init : List (Nat × Instr × Nat) := [(0, .aload_n 0, 1), (1, .invokespecial 3, 3), (4, .aload_n 0, 1), (5, .sipush 150, 3), (8, .putfield 9, 3), (11, .aload_n 0, 1), (12, .iconst 1, 1), (13, .putfield 15, 3), (16, .aload_n 0, 1), (17, .iconst 5, 1), (18, .putfield 18, 3), (21, .return_, 1)]
def qa_mX4_init : qa_M := (yX4_init, cX4_init, 1, none, 4, qa_iX4_init, 1, 0, 1, 20, [], 219, 218, 0)
def qa_iX4_copyFrom : List (Nat × Instr × Nat) := [(0, .aload_n 0, 1), (1, .aload_n 1, 1), (2, .getfield 9, 3), (5, .putfield 9, 3), (8, .aload_n 0, 1), (9, .aload_n 1, 1), (10, .getfield 15, 3), (13, .putfield 15, 3), (16, .aload_n 0, 1), (17, .aload_n 1, 1), (18, .getfield 21, 3), (21, .putfield 21, 3), (24, .aload_n 0, 1), (25, .aload_n 1, 1), (26, .getfield 18, 3), (29, .putfield 18, 3), (32, .aload_n 0, 1), (33, .aload_n 1, 1), (34, .getfield 24, 3), (37, .putfield 24, 3), (40, .return_, 1)]
def qa_mX4_copyFrom : qa_M := (yX4_copyFrom, cX4_copyFrom, 2, none, 4, qa_iX4_copyFrom, 2, 2, 0, 0, [], 614, 612, 613)
def qa_iX5_init : List (Nat × Instr × Nat) := [(0, .aload_n 0, 1), (1, .invokespecial 3, 3), (4, .aload_n 0, 1), (5, .bipush 6, 2), (7, .anewarray 9, 3), (10, .putfield 11, 3), (13, .iconst 0, 1), (14, .istore_n 1, 1), (15, .iload_n 1, 1), (16, .aload_n 0, 1), (17, .getfield 11, 3), (20, .arraylength, 1), (21, .if_icmp .ge 22, 3), (24, .aload_n 0, 1), (25, .getfield 11, 3), (28, .iload_n 1, 1), (29, .new 9, 3), (32, .dup, 1), (33, .invokespecial 17, 3), (36, .aastore, 1), (37, .iinc 1 1, 3), (40, .goto (-25), 3), (43, .return_, 1)]
def qa_mX5_init : qa_M := (yX5_init, cX5_init, 2, none, 5, qa_iX5_init, 1, 0, 3, 60, [], 324, 323, 0)
def qa_iX5_push : List (Nat × Instr × Nat) := [(0, .aload_n 0, 1), (1, .getfield 18, 3), (4, .aload_n 0, 1), (5, .getfield 22, 3), (8, .iadd, 1), (9, .bipush 6, 2), (11, .irem, 1), (12, .istore_n 2, 1), (13, .iload_n 2, 1), (14, .ifCond .lt 31, 3), (17, .iload_n 2, 1), (18, .aload_n 0, 1), (19, .getfield 11, 3), (22, .arraylength, 1), (23, .if_icmp .ge 22, 3), (26, .aload_n 0, 1), (27, .getfield 11, 3), (30, .iload_n 2, 1), (31, .aaload, 1), (32, .ifnull 13, 3), (35, .aload_n 0, 1), (36, .getfield 11, 3), (39, .iload_n 2, 1), (40, .aaload, 1), (41, .aload_n 1, 1), (42, .invokevirtual 25, 3), (45, .aload_n 0, 1), (46, .getfield 22, 3), (49, .bipush 6, 2), (51, .if_icmp .ge 16, 3), (54, .aload_n 0, 1), (55, .dup, 1), (56, .getfield 22, 3), (59, .iconst 1, 1), (60, .iadd, 1), (61, .putfield 22, 3), (64, .goto 16, 3), (67, .aload_n 0, 1), (68, .aload_n 0, 1), (69, .getfield 18, 3), (72, .iconst 1, 1), (73, .iadd, 1), (74, .bipush 6, 2), (76, .irem, 1), (77, .putfield 18, 3), (80, .return_, 1)]
def qa_mX5_push : qa_M := (yX5_push, cX5_push, 3, none, 5, qa_iX5_push, 2, 2, 3, 65, [], 820, 818, 819)
def qa_iX5_popInto : List (Nat × Instr × Nat) := [(0, .aload_n 0, 1), (1, .dup, 1), (2, .getfield 22, 3), (5, .iconst 1, 1), (6, .isub, 1), (7, .putfield 22, 3), (10, .aload_n 0, 1), (11, .getfield 18, 3), (14, .aload_n 0, 1), (15, .getfield 22, 3), (18, .iadd, 1), (19, .bipush 6, 2), (21, .irem, 1), (22, .istore_n 2, 1), (23, .iload_n 2, 1), (24, .ifCond .lt 31, 3), (27, .iload_n 2, 1), (28, .aload_n 0, 1), (29, .getfield 11, 3), (32, .arraylength, 1), (33, .if_icmp .ge 22, 3), (36, .aload_n 0, 1), (37, .getfield 11, 3), (40, .iload_n 2, 1), (41, .aaload, 1), (42, .ifnull 13, 3), (45, .aload_n 1, 1), (46, .aload_n 0, 1), (47, .getfield 11, 3), (50, .iload_n 2, 1), (51, .aaload, 1), (52, .invokevirtual 25, 3), (55, .return_, 1)]
def qa_mX5_popInto : qa_M := (yX5_popInto, cX5_popInto, 3, none, 5, qa_iX5_popInto, 2, 2, 3, 65, [], 1038, 1036, 1037)
def qa_iX6_init : List (Nat × Instr × Nat) := [(0, .aload_n 0, 1), (1, .invokespecial 3, 3), (4, .aload_n 0, 1), (5, .bipush 16, 2), (7, .newarray .int, 2), (9, .putfield 9, 3), (12, .aload_n 0, 1), (13, .bipush 16, 2), (15, .newarray .int, 2), (17, .putfield 15, 3), (20, .aload_n 0, 1), (21, .bipush 16, 2), (23, .newarray .int, 2), (25, .putfield 18, 3), (28, .aload_n 0, 1), (29, .bipush 16, 2), (31, .newarray .boolean, 2), (33, .putfield 21, 3), (36, .aload_n 0, 1), (37, .bipush 16, 2), (39, .newarray .int, 2), (41, .putfield 25, 3), (44, .aload_n 0, 1), (45, .bipush 16, 2), (47, .newarray .int, 2), (49, .putfield 28, 3), (52, .aload_n 0, 1), (53, .bipush 16, 2), (55, .newarray .int, 2), (57, .putfield 31, 3), (60, .return_, 1)]
def qa_mX6_init : qa_M := (yX6_init, cX6_init, 1, none, 6, qa_iX6_init, 1, 0, 1, 20, [], 90, 89, 0)
def qa_iX6_copyFrom : List (Nat × Instr × Nat) := [(0, .aload_n 0, 1), (1, .aload_n 1, 1), (2, .getfield 34, 3), (5, .putfield 34, 3), (8, .aload_n 1, 1), (9, .getfield 9, 3), (12, .aload_n 0, 1), (13, .getfield 9, 3), (16, .invokestatic 38, 3), (19, .aload_n 1, 1), (20, .getfield 15, 3), (23, .aload_n 0, 1), (24, .getfield 15, 3), (27, .invokestatic 38, 3), (30, .aload_n 1, 1), (31, .getfield 18, 3), (34, .aload_n 0, 1), (35, .getfield 18, 3), (38, .invokestatic 38, 3), (41, .aload_n 1, 1), (42, .getfield 25, 3), (45, .aload_n 0, 1), (46, .getfield 25, 3), (49, .invokestatic 38, 3), (52, .aload_n 1, 1), (53, .getfield 28, 3), (56, .aload_n 0, 1), (57, .getfield 28, 3), (60, .invokestatic 38, 3), (63, .aload_n 1, 1), (64, .getfield 31, 3), (67, .aload_n 0, 1), (68, .getfield 31, 3), (71, .invokestatic 38, 3), (74, .iconst 0, 1), (75, .istore_n 2, 1), (76, .iload_n 2, 1), (77, .aload_n 0, 1), (78, .getfield 21, 3), (81, .arraylength, 1), (82, .if_icmp .ge 30, 3), (85, .iload_n 2, 1), (86, .aload_n 1, 1), (87, .getfield 21, 3), (90, .arraylength, 1), (91, .if_icmp .ge 21, 3), (94, .aload_n 0, 1), (95, .getfield 21, 3), (98, .iload_n 2, 1), (99, .aload_n 1, 1), (100, .getfield 21, 3), (103, .iload_n 2, 1), (104, .baload, 1), (105, .bastore, 1), (106, .iinc 2 1, 3), (109, .goto (-33), 3), (112, .aload_n 0, 1), (113, .aload_n 1, 1), (114, .getfield 42, 3), (117, .putfield 42, 3), (120, .return_, 1)]
def qa_mX6_copyFrom : qa_M := (yX6_copyFrom, cX6_copyFrom, 3, none, 6, qa_iX6_copyFrom, 2, 2, 1, 22, [], 593, 591, 592)
def qa_iX6_has : List (Nat × Instr × Nat) := [(0, .iload_n 1, 1), (1, .ifCond .lt 15, 3), (4, .iload_n 1, 1), (5, .aload_n 0, 1), (6, .getfield 34, 3), (9, .if_icmp .ge 7, 3), (12, .iconst 1, 1), (13, .goto 4, 3), (16, .iconst 0, 1), (17, .ireturn, 1)]
def qa_mX6_has : qa_M := (yX6_has, cX6_has, 2, (some .boolean), 6, qa_iX6_has, 2, 2, 0, 0, [], 838, 836, 837)
def qa_iX6_isReady : List (Nat × Instr × Nat) := [(0, .iload_n 1, 1), (1, .ifCond .lt 25, 3), (4, .iload_n 1, 1), (5, .aload_n 0, 1), (6, .getfield 21, 3), (9, .arraylength, 1), (10, .if_icmp .ge 16, 3), (13, .aload_n 0, 1), (14, .getfield 21, 3), (17, .iload_n 1, 1), (18, .baload, 1), (19, .ifCond .eq 7, 3), (22, .iconst 1, 1), (23, .goto 4, 3), (26, .iconst 0, 1), (27, .ireturn, 1)]
def qa_mX6_isReady : qa_M := (yX6_isReady, cX6_isReady, 2, (some .boolean), 6, qa_iX6_isReady, 2, 2, 0, 0, [], 451, 449, 450)
def qa_iX6_setReady : List (Nat × Instr × Nat) := [(0, .iload_n 1, 1), (1, .ifCond .lt 19, 3), (4, .iload_n 1, 1), (5, .aload_n 0, 1), (6, .getfield 21, 3), (9, .arraylength, 1), (10, .if_icmp .ge 10, 3), (13, .aload_n 0, 1), (14, .getfield 21, 3), (17, .iload_n 1, 1), (18, .iload_n 2, 1), (19, .bastore, 1), (20, .return_, 1)]
def qa_mX6_setReady : qa_M := (yX6_setReady, cX6_setReady, 3, none, 6, qa_iX6_setReady, 3, 2, 0, 0, [], 642, 640, 641)
def qa_iX6_add : List (Nat × Instr × Nat) := [(0, .aload_n 0, 1), (1, .getfield 34, 3), (4, .istore 4, 2), (6, .aload_n 0, 1), (7, .getfield 9, 3), (10, .iload 4, 2), (12, .iload_n 1, 1), (13, .invokestatic 45, 3), (16, .aload_n 0, 1), (17, .getfield 15, 3), (20, .iload 4, 2), (22, .iload_n 2, 1), (23, .invokestatic 45, 3), (26, .aload_n 0, 1), (27, .getfield 18, 3), (30, .iload 4, 2), (32, .iload_n 3, 1), (33, .invokestatic 45, 3), (36, .aload_n 0, 1), (37, .dup, 1), (38, .getfield 34, 3), (41, .iconst 1, 1), (42, .iadd, 1), (43, .putfield 34, 3), (46, .iload 4, 2), (48, .ireturn, 1)]
def qa_mX6_add : qa_M := (yX6_add, cX6_add, 5, (some .int), 6, qa_iX6_add, 4, 2, 1, 22, [], 825, 823, 824)
def qa_iX6_ticksToLoad : List (Nat × Instr × Nat) := [(0, .aload_n 0, 1), (1, .getfield 15, 3), (4, .iload_n 1, 1), (5, .invokestatic 49, 3), (8, .istore_n 3, 1), (9, .aload_n 0, 1), (10, .getfield 25, 3), (13, .iload_n 1, 1), (14, .invokestatic 49, 3), (17, .iload_n 2, 1), (18, .if_icmp .le 11, 3), (21, .iload_n 3, 1), (22, .iconst 1, 1), (23, .iadd, 1), (24, .iconst 2, 1), (25, .idiv, 1), (26, .goto 4, 3), (29, .iload_n 3, 1), (30, .ireturn, 1)]
def qa_mX6_ticksToLoad : qa_M := (yX6_ticksToLoad, cX6_ticksToLoad, 4, (some .int), 6, qa_iX6_ticksToLoad, 3, 2, 1, 21, [], 530, 528, 529)
def qa_iX6_use : List (Nat × Instr × Nat) := [(0, .aload_n 0, 1), (1, .dup, 1), (2, .getfield 42, 3), (5, .iconst 1, 1), (6, .iadd, 1), (7, .putfield 42, 3), (10, .aload_n 0, 1), (11, .getfield 31, 3), (14, .iload_n 1, 1), (15, .aload_n 0, 1), (16, .getfield 42, 3), (19, .invokestatic 45, 3), (22, .return_, 1)]
def qa_mX6_use : qa_M := (yX6_use, cX6_use, 2, none, 6, qa_iX6_use, 2, 2, 1, 22, [], 646, 644, 645)
def qa_iX6_coolEmbers : List (Nat × Instr × Nat) := [(0, .iconst 0, 1), (1, .istore_n 1, 1), (2, .iload_n 1, 1), (3, .aload_n 0, 1), (4, .getfield 34, 3), (7, .if_icmp .ge 37, 3), (10, .iload_n 1, 1), (11, .aload_n 0, 1), (12, .getfield 25, 3), (15, .arraylength, 1), (16, .if_icmp .ge 28, 3), (19, .aload_n 0, 1), (20, .getfield 25, 3), (23, .iload_n 1, 1), (24, .iaload, 1), (25, .ifCond .le 13, 3), (28, .aload_n 0, 1), (29, .getfield 25, 3), (32, .iload_n 1, 1), (33, .dup2, 1), (34, .iaload, 1), (35, .iconst 1, 1), (36, .isub, 1), (37, .iastore, 1), (38, .iinc 1 1, 3), (41, .goto (-39), 3), (44, .return_, 1)]
def qa_mX6_coolEmbers : qa_M := (yX6_coolEmbers, cX6_coolEmbers, 2, none, 6, qa_iX6_coolEmbers, 1, 2, 0, 0, [], 626, 624, 625)
def qa_iX7_init : List (Nat × Instr × Nat) := [(0, .aload_n 0, 1), (1, .invokespecial 3, 3), (4, .aload_n 0, 1), (5, .iconst (-1), 1), (6, .putfield 9, 3), (9, .aload_n 0, 1), (10, .iconst (-1), 1), (11, .putfield 15, 3), (14, .aload_n 0, 1), (15, .iconst (-1), 1), (16, .putfield 18, 3), (19, .return_, 1)]
def qa_mX7_init : qa_M := (yX7_init, cX7_init, 1, none, 7, qa_iX7_init, 1, 0, 1, 20, [], 157, 156, 0)
def qa_iX7_copyFrom : List (Nat × Instr × Nat) := [(0, .aload_n 0, 1), (1, .aload_n 1, 1), (2, .getfield 9, 3), (5, .putfield 9, 3), (8, .aload_n 0, 1), (9, .aload_n 1, 1), (10, .getfield 21, 3), (13, .putfield 21, 3), (16, .aload_n 0, 1), (17, .aload_n 1, 1), (18, .getfield 15, 3), (21, .putfield 15, 3), (24, .aload_n 0, 1), (25, .aload_n 1, 1), (26, .getfield 24, 3), (29, .putfield 24, 3), (32, .aload_n 0, 1), (33, .aload_n 1, 1), (34, .getfield 18, 3), (37, .putfield 18, 3), (40, .return_, 1)]
def qa_mX7_copyFrom : qa_M := (yX7_copyFrom, cX7_copyFrom, 2, none, 7, qa_iX7_copyFrom, 2, 2, 0, 0, [], 605, 603, 604)
def qa_iX7_bears : List (Nat × Instr × Nat) := [(0, .iload_n 1, 1), (1, .aload_n 0, 1), (2, .getfield 9, 3), (5, .if_icmp .eq 11, 3), (8, .iload_n 1, 1), (9, .aload_n 0, 1), (10, .getfield 15, 3), (13, .if_icmp .ne 7, 3), (16, .iconst 1, 1), (17, .goto 4, 3), (20, .iconst 0, 1), (21, .ireturn, 1)]
def qa_mX7_bears : qa_M := (yX7_bears, cX7_bears, 2, (some .boolean), 7, qa_iX7_bears, 2, 2, 0, 0, [], 536, 534, 535)
def qa_iX7_bring : List (Nat × Instr × Nat) := [(0, .iload_n 1, 1), (1, .aload_n 0, 1), (2, .getfield 9, 3), (5, .if_icmp .eq 36, 3), (8, .aload_n 0, 1), (9, .iload_n 2, 1), (10, .ifCond .le 10, 3), (13, .aload_n 0, 1), (14, .getfield 9, 3), (17, .goto 4, 3), (20, .iconst (-1), 1), (21, .putfield 15, 3), (24, .aload_n 0, 1), (25, .aload_n 0, 1), (26, .getfield 15, 3), (29, .iconst (-1), 1), (30, .if_icmp .eq 7, 3), (33, .iload_n 2, 1), (34, .goto 4, 3), (37, .iconst 0, 1), (38, .putfield 24, 3), (41, .aload_n 0, 1), (42, .iload_n 1, 1), (43, .putfield 9, 3), (46, .aload_n 0, 1), (47, .iconst 0, 1), (48, .putfield 21, 3), (51, .aload_n 0, 1), (52, .iconst (-1), 1), (53, .putfield 18, 3), (56, .return_, 1)]
def qa_mX7_bring : qa_M := (yX7_bring, cX7_bring, 3, none, 7, qa_iX7_bring, 3, 2, 0, 0, [], 655, 653, 654)
def qa_iX7_fadeOnce : List (Nat × Instr × Nat) := [(0, .aload_n 0, 1), (1, .getfield 24, 3), (4, .ifCond .le 13, 3), (7, .aload_n 0, 1), (8, .dup, 1), (9, .getfield 24, 3), (12, .iconst 1, 1), (13, .isub, 1), (14, .putfield 24, 3), (17, .aload_n 0, 1), (18, .getfield 24, 3), (21, .ifCond .ne 8, 3), (24, .aload_n 0, 1), (25, .iconst (-1), 1), (26, .putfield 15, 3), (29, .return_, 1)]
def qa_mX7_fadeOnce : qa_M := (yX7_fadeOnce, cX7_fadeOnce, 1, none, 7, qa_iX7_fadeOnce, 1, 2, 0, 0, [], 630, 628, 629)
def qa_iX7_countShown : List (Nat × Instr × Nat) := [(0, .aload_n 0, 1), (1, .getfield 9, 3), (4, .iconst (-1), 1), (5, .if_icmp .eq 13, 3), (8, .aload_n 0, 1), (9, .dup, 1), (10, .getfield 21, 3), (13, .iconst 1, 1), (14, .iadd, 1), (15, .putfield 21, 3), (18, .return_, 1)]
def qa_mX7_countShown : qa_M := (yX7_countShown, cX7_countShown, 1, none, 7, qa_iX7_countShown, 1, 2, 0, 0, [], 634, 632, 633)
def qa_iX8_init : List (Nat × Instr × Nat) := [(0, .aload_n 0, 1), (1, .invokespecial 3, 3), (4, .aload_n 0, 1), (5, .bipush 60, 2), (7, .newarray .int, 2), (9, .putfield 9, 3), (12, .return_, 1)]
def qa_mX8_init : qa_M := (yX8_init, cX8_init, 1, none, 8, qa_iX8_init, 1, 0, 1, 20, [], 344, 343, 0)
def qa_iX8_add : List (Nat × Instr × Nat) := [(0, .aload_n 0, 1), (1, .getfield 9, 3), (4, .aload_n 0, 1), (5, .getfield 15, 3), (8, .iload_n 1, 1), (9, .invokestatic 19, 3), (12, .aload_n 0, 1), (13, .dup, 1), (14, .getfield 15, 3), (17, .iconst 1, 1), (18, .iadd, 1), (19, .putfield 15, 3), (22, .return_, 1)]
def qa_mX8_add : qa_M := (yX8_add, cX8_add, 2, none, 8, qa_iX8_add, 2, 2, 1, 22, [], 968, 966, 967)
def qa_iX8_startReading : List (Nat × Instr × Nat) := [(0, .aload_n 0, 1), (1, .invokevirtual 23, 3), (4, .aload_n 0, 1), (5, .iconst 0, 1), (6, .putfield 26, 3), (9, .return_, 1)]
def qa_mX8_startReading : qa_M := (yX8_startReading, cX8_startReading, 1, none, 8, qa_iX8_startReading, 1, 2, 1, 20, [], 985, 983, 984)
def qa_iX8_startPart : List (Nat × Instr × Nat) := [(0, .aload_n 0, 1), (1, .iconst 0, 1), (2, .putfield 29, 3), (5, .aload_n 0, 1), (6, .iconst (-1), 1), (7, .putfield 32, 3), (10, .return_, 1)]
def qa_mX8_startPart : qa_M := (yX8_startPart, cX8_startPart, 1, none, 8, qa_iX8_startPart, 1, 2, 0, 0, [], 400, 398, 399)
def qa_iX8_readPart : List (Nat × Instr × Nat) := [(0, .aload_n 0, 1), (1, .invokevirtual 23, 3), (4, .aload_n 0, 1), (5, .getfield 26, 3), (8, .istore_n 1, 1), (9, .iload_n 1, 1), (10, .aload_n 0, 1), (11, .getfield 15, 3), (14, .if_icmp .ge 35, 3), (17, .aload_n 0, 1), (18, .getfield 9, 3), (21, .iload_n 1, 1), (22, .invokestatic 35, 3), (25, .bipush 59, 2), (27, .if_icmp .eq 22, 3), (30, .aload_n 0, 1), (31, .aload_n 0, 1), (32, .getfield 9, 3), (35, .iload_n 1, 1), (36, .invokestatic 35, 3), (39, .invokevirtual 39, 3), (42, .pop, 1), (43, .iinc 1 1, 3), (46, .goto (-37), 3), (49, .aload_n 0, 1), (50, .iload_n 1, 1), (51, .iconst 1, 1), (52, .iadd, 1), (53, .putfield 26, 3), (56, .aload_n 0, 1), (57, .getfield 29, 3), (60, .ifCond .eq 7, 3), (63, .iconst 1, 1), (64, .goto 4, 3), (67, .iconst 0, 1), (68, .ireturn, 1)]
def qa_mX8_readPart : qa_M := (yX8_readPart, cX8_readPart, 2, (some .boolean), 8, qa_iX8_readPart, 1, 2, 2, 44, [], 989, 987, 988)
def qa_iX8_readToError : List (Nat × Instr × Nat) := [(0, .aload_n 0, 1), (1, .invokevirtual 23, 3), (4, .iconst 0, 1), (5, .istore_n 1, 1), (6, .iload_n 1, 1), (7, .aload_n 0, 1), (8, .getfield 15, 3), (11, .if_icmp .ge 26, 3), (14, .aload_n 0, 1), (15, .aload_n 0, 1), (16, .getfield 9, 3), (19, .iload_n 1, 1), (20, .invokestatic 35, 3), (23, .invokevirtual 39, 3), (26, .ifCond .ne 5, 3), (29, .iload_n 1, 1), (30, .ireturn, 1), (31, .iinc 1 1, 3), (34, .goto (-28), 3), (37, .aload_n 0, 1), (38, .getfield 15, 3), (41, .ireturn, 1)]
def qa_mX8_readToError : qa_M := (yX8_readToError, cX8_readToError, 2, (some .int), 8, qa_iX8_readToError, 1, 2, 2, 44, [], 396, 394, 395)
def qa_iX8_tellsOrders : List (Nat × Instr × Nat) := [(0, .aload_n 0, 1), (1, .invokevirtual 43, 3), (4, .aload_n 0, 1), (5, .getfield 15, 3), (8, .if_icmp .ne 14, 3), (11, .aload_n 0, 1), (12, .invokevirtual 47, 3), (15, .ifCond .eq 7, 3), (18, .iconst 1, 1), (19, .goto 4, 3), (22, .iconst 0, 1), (23, .ireturn, 1)]
def qa_mX8_tellsOrders : qa_M := (yX8_tellsOrders, cX8_tellsOrders, 1, (some .boolean), 8, qa_iX8_tellsOrders, 1, 2, 3, 65, [], 980, 978, 979)
def qa_iX8_partMayEnd : List (Nat × Instr × Nat) := [(0, .aload_n 0, 1), (1, .getfield 29, 3), (4, .bipush 110, 2), (6, .if_icmp .eq 11, 3), (9, .aload_n 0, 1), (10, .getfield 32, 3), (13, .iconst (-1), 1), (14, .if_icmp .eq 7, 3), (17, .iconst 1, 1), (18, .goto 4, 3), (21, .iconst 0, 1), (22, .ireturn, 1)]
def qa_mX8_partMayEnd : qa_M := (yX8_partMayEnd, cX8_partMayEnd, 1, (some .boolean), 8, qa_iX8_partMayEnd, 1, 2, 0, 0, [], 411, 409, 410)
def qa_iX8_accept : List (Nat × Instr × Nat) := [(0, .aload_n 0, 1), (1, .getfield 29, 3), (4, .ifCond .ne 44, 3), (7, .aload_n 0, 1), (8, .iload_n 1, 1), (9, .putfield 29, 3), (12, .iload_n 1, 1), (13, .bipush 110, 2), (15, .if_icmp .eq 27, 3), (18, .iload_n 1, 1), (19, .bipush 97, 2), (21, .if_icmp .eq 21, 3), (24, .iload_n 1, 1), (25, .bipush 98, 2), (27, .if_icmp .eq 15, 3), (30, .iload_n 1, 1), (31, .bipush 112, 2), (33, .if_icmp .eq 9, 3), (36, .iload_n 1, 1), (37, .bipush 116, 2), (39, .if_icmp .ne 7, 3), (42, .iconst 1, 1), (43, .goto 4, 3), (46, .iconst 0, 1), (47, .ireturn, 1), (48, .iload_n 1, 1), (49, .bipush 59, 2), (51, .if_icmp .ne 14, 3), (54, .aload_n 0, 1), (55, .invokevirtual 47, 3), (58, .istore_n 2, 1), (59, .aload_n 0, 1), (60, .invokevirtual 23, 3), (63, .iload_n 2, 1), (64, .ireturn, 1), (65, .aload_n 0, 1), (66, .iload_n 1, 1), (67, .invokevirtual 51, 3), (70, .ireturn, 1)]
def qa_mX8_accept : qa_M := (yX8_accept, cX8_accept, 3, (some .boolean), 8, qa_iX8_accept, 2, 2, 1, 22, [], 407, 405, 406)
def qa_iX8_acceptDigit : List (Nat × Instr × Nat) := [(0, .aload_n 0, 1), (1, .getfield 29, 3), (4, .bipush 110, 2), (6, .if_icmp .eq 22, 3), (9, .iload_n 1, 1), (10, .bipush 48, 2), (12, .if_icmp .lt 16, 3), (15, .iload_n 1, 1), (16, .bipush 57, 2), (18, .if_icmp .gt 10, 3), (21, .aload_n 0, 1), (22, .getfield 32, 3), (25, .ifCond .ne 5, 3), (28, .iconst 0, 1), (29, .ireturn, 1), (30, .iload_n 1, 1), (31, .bipush 48, 2), (33, .isub, 1), (34, .istore_n 2, 1), (35, .aload_n 0, 1), (36, .getfield 32, 3), (39, .iconst (-1), 1), (40, .if_icmp .ne 27, 3), (43, .aload_n 0, 1), (44, .iload_n 2, 1), (45, .putfield 32, 3), (48, .iload_n 2, 1), (49, .ifCond .gt 12, 3), (52, .aload_n 0, 1), (53, .getfield 29, 3), (56, .bipush 116, 2), (58, .if_icmp .eq 7, 3), (61, .iconst 1, 1), (62, .goto 4, 3), (65, .iconst 0, 1), (66, .ireturn, 1), (67, .aload_n 0, 1), (68, .bipush 10, 2), (70, .aload_n 0, 1), (71, .getfield 32, 3), (74, .imul, 1), (75, .iload_n 2, 1), (76, .iadd, 1), (77, .putfield 32, 3), (80, .aload_n 0, 1), (81, .getfield 32, 3), (84, .aload_n 0, 1), (85, .getfield 29, 3), (88, .bipush 116, 2), (90, .if_icmp .ne 8, 3), (93, .bipush 100, 2), (95, .goto 5, 3), (98, .bipush 15, 2), (100, .if_icmp .gt 7, 3), (103, .iconst 1, 1), (104, .goto 4, 3), (107, .iconst 0, 1), (108, .ireturn, 1)]
def qa_mX8_acceptDigit : qa_M := (yX8_acceptDigit, cX8_acceptDigit, 3, (some .boolean), 8, qa_iX8_acceptDigit, 2, 2, 0, 0, [], 415, 413, 414)
def qa_iX9_init : List (Nat × Instr × Nat) := [(0, .aload_n 0, 1), (1, .invokespecial 1, 3), (4, .aload_n 0, 1), (5, .new 7, 3), (8, .dup, 1), (9, .invokespecial 9, 3), (12, .putfield 10, 3), (15, .aload_n 0, 1), (16, .new 7, 3), (19, .dup, 1), (20, .invokespecial 9, 3), (23, .putfield 16, 3), (26, .aload_n 0, 1), (27, .new 19, 3), (30, .dup, 1), (31, .invokespecial 21, 3), (34, .putfield 22, 3), (37, .aload_n 0, 1), (38, .iconst 2, 1), (39, .anewarray 7, 3), (42, .putfield 26, 3), (45, .iconst 0, 1), (46, .istore_n 1, 1), (47, .iload_n 1, 1), (48, .aload_n 0, 1), (49, .getfield 26, 3), (52, .arraylength, 1), (53, .if_icmp .ge 22, 3), (56, .aload_n 0, 1), (57, .getfield 26, 3), (60, .iload_n 1, 1), (61, .new 7, 3), (64, .dup, 1), (65, .invokespecial 9, 3), (68, .aastore, 1), (69, .iinc 1 1, 3), (72, .goto (-25), 3), (75, .aload_n 0, 1), (76, .iconst 2, 1), (77, .newarray .boolean, 2), (79, .putfield 30, 3), (82, .aload_n 0, 1), (83, .new 34, 3), (86, .dup, 1), (87, .invokespecial 36, 3), (90, .putfield 37, 3), (93, .return_, 1)]
def qa_mX9_init : qa_M := (yX9_init, cX9_init, 2, none, 9, qa_iX9_init, 1, 0, 4, 81, [], 76, 75, 0)
def qa_iX9_addSlide : List (Nat × Instr × Nat) := [(0, .iload_n 1, 1), (1, .iconst 1, 1), (2, .bipush 50, 2), (4, .invokestatic 41, 3), (7, .ifCond .eq 27, 3), (10, .iload_n 2, 1), (11, .iconst 1, 1), (12, .bipush 20, 2), (14, .invokestatic 41, 3), (17, .ifCond .eq 17, 3), (20, .iload_n 3, 1), (21, .iconst 0, 1), (22, .bipush 10, 2), (24, .invokestatic 41, 3), (27, .ifCond .eq 7, 3), (30, .iconst 1, 1), (31, .goto 4, 3), (34, .iconst 0, 1), (35, .invokestatic 45, 3), (38, .aload_n 0, 1), (39, .getfield 10, 3), (42, .getfield 49, 3), (45, .getfield 53, 3), (48, .bipush 16, 2), (50, .if_icmp .ge 7, 3), (53, .iconst 1, 1), (54, .goto 4, 3), (57, .iconst 0, 1), (58, .invokestatic 59, 3), (61, .aload_n 0, 1), (62, .getfield 22, 3), (65, .aload_n 0, 1), (66, .getfield 10, 3), (69, .invokevirtual 62, 3), (72, .aload_n 0, 1), (73, .getfield 10, 3), (76, .getfield 49, 3), (79, .iload_n 1, 1), (80, .iload_n 2, 1), (81, .iload_n 3, 1), (82, .invokevirtual 66, 3), (85, .istore 4, 2), (87, .aload_n 0, 1), (88, .getfield 10, 3), (91, .invokevirtual 70, 3), (94, .iload 4, 2), (96, .ireturn, 1)]
def qa_mX9_addSlide : qa_M := (yX9_addSlide, cX9_addSlide, 5, (some .int), 9, qa_iX9_addSlide, 4, 2, 7, 112, [], 729, 727, 728)
def qa_iX9_insert : List (Nat × Instr × Nat) := [(0, .iload_n 1, 1), (1, .iconst 0, 1), (2, .aload_n 0, 1), (3, .getfield 10, 3), (6, .getfield 73, 3), (9, .getfield 77, 3), (12, .invokestatic 41, 3), (15, .ifCond .eq 21, 3), (18, .aload_n 0, 1), (19, .getfield 10, 3), (22, .getfield 49, 3), (25, .iload_n 2, 1), (26, .invokevirtual 80, 3), (29, .ifCond .eq 7, 3), (32, .iconst 1, 1), (33, .goto 4, 3), (36, .iconst 0, 1), (37, .invokestatic 84, 3), (40, .aload_n 0, 1), (41, .getfield 10, 3), (44, .getfield 73, 3), (47, .getfield 77, 3), (50, .bipush 24, 2), (52, .if_icmp .ge 7, 3), (55, .iconst 1, 1), (56, .goto 4, 3), (59, .iconst 0, 1), (60, .invokestatic 59, 3), (63, .aload_n 0, 1), (64, .getfield 22, 3), (67, .aload_n 0, 1), (68, .getfield 10, 3), (71, .invokevirtual 62, 3), (74, .aload_n 0, 1), (75, .getfield 10, 3), (78, .getfield 73, 3), (81, .iload_n 1, 1), (82, .iload_n 2, 1), (83, .invokevirtual 87, 3), (86, .aload_n 0, 1), (87, .getfield 10, 3), (90, .invokevirtual 70, 3), (93, .aload_n 0, 1), (94, .getfield 10, 3), (97, .getfield 73, 3), (100, .getfield 77, 3), (103, .ireturn, 1)]
def qa_mX9_insert : qa_M := (yX9_insert, cX9_insert, 3, (some .int), 9, qa_iX9_insert, 3, 2, 7, 112, [], 834, 832, 833)
def qa_iX9_takeOut : List (Nat × Instr × Nat) := [(0, .aload_n 0, 1), (1, .getfield 10, 3), (4, .getfield 73, 3), (7, .iload_n 1, 1), (8, .invokevirtual 91, 3), (11, .invokestatic 84, 3), (14, .aload_n 0, 1), (15, .getfield 22, 3), (18, .aload_n 0, 1), (19, .getfield 10, 3), (22, .invokevirtual 62, 3), (25, .aload_n 0, 1), (26, .getfield 10, 3), (29, .getfield 73, 3), (32, .iload_n 1, 1), (33, .invokevirtual 92, 3), (36, .istore_n 2, 1), (37, .aload_n 0, 1), (38, .getfield 10, 3), (41, .invokevirtual 70, 3), (44, .iload_n 2, 1), (45, .ireturn, 1)]
def qa_mX9_takeOut : qa_M := (yX9_takeOut, cX9_takeOut, 3, (some .int), 9, qa_iX9_takeOut, 2, 2, 7, 112, [], 868, 866, 867)
def qa_iX9_goOn : List (Nat × Instr × Nat) := [(0, .aload_n 0, 1), (1, .getfield 10, 3), (4, .invokevirtual 96, 3), (7, .invokestatic 59, 3), (10, .aload_n 0, 1), (11, .getfield 22, 3), (14, .aload_n 0, 1), (15, .getfield 10, 3), (18, .invokevirtual 62, 3), (21, .aload_n 0, 1), (22, .getfield 10, 3), (25, .invokevirtual 100, 3), (28, .istore_n 1, 1), (29, .aload_n 0, 1), (30, .getfield 10, 3), (33, .invokevirtual 70, 3), (36, .iload_n 1, 1), (37, .ireturn, 1)]
def qa_mX9_goOn : qa_M := (yX9_goOn, cX9_goOn, 2, (some .boolean), 9, qa_iX9_goOn, 1, 2, 7, 112, [], 883, 881, 882)
def qa_iX9_ask : List (Nat × Instr × Nat) := [(0, .aload_n 0, 1), (1, .getfield 10, 3), (4, .getfield 49, 3), (7, .iload_n 1, 1), (8, .invokevirtual 80, 3), (11, .invokestatic 84, 3), (14, .aload_n 0, 1), (15, .getfield 10, 3), (18, .iload_n 1, 1), (19, .invokevirtual 103, 3), (22, .invokestatic 59, 3), (25, .aload_n 0, 1), (26, .getfield 22, 3), (29, .aload_n 0, 1), (30, .getfield 10, 3), (33, .invokevirtual 62, 3), (36, .aload_n 0, 1), (37, .getfield 10, 3), (40, .getfield 106, 3), (43, .iload_n 1, 1), (44, .invokevirtual 110, 3), (47, .aload_n 0, 1), (48, .getfield 10, 3), (51, .invokevirtual 70, 3), (54, .aload_n 0, 1), (55, .getfield 10, 3), (58, .getfield 106, 3), (61, .getfield 116, 3), (64, .ireturn, 1)]
def qa_mX9_ask : qa_M := (yX9_ask, cX9_ask, 2, (some .int), 9, qa_iX9_ask, 2, 2, 7, 112, [], 892, 890, 891)
def qa_iX9_burn : List (Nat × Instr × Nat) := [(0, .aload_n 0, 1), (1, .getfield 10, 3), (4, .getfield 49, 3), (7, .iload_n 1, 1), (8, .invokevirtual 80, 3), (11, .invokestatic 84, 3), (14, .aload_n 0, 1), (15, .getfield 10, 3), (18, .iload_n 1, 1), (19, .invokevirtual 119, 3), (22, .invokestatic 59, 3), (25, .aload_n 0, 1), (26, .getfield 22, 3), (29, .aload_n 0, 1), (30, .getfield 10, 3), (33, .invokevirtual 62, 3), (36, .aload_n 0, 1), (37, .getfield 10, 3), (40, .iload_n 1, 1), (41, .invokevirtual 122, 3), (44, .aload_n 0, 1), (45, .getfield 10, 3), (48, .invokevirtual 70, 3), (51, .aload_n 0, 1), (52, .getfield 10, 3), (55, .getfield 49, 3), (58, .getfield 125, 3), (61, .iload_n 1, 1), (62, .invokestatic 129, 3), (65, .ireturn, 1)]
def qa_mX9_burn : qa_M := (yX9_burn, cX9_burn, 2, (some .int), 9, qa_iX9_burn, 2, 2, 7, 112, [], 907, 905, 906)
def qa_iX9_tick : List (Nat × Instr × Nat) := [(0, .iload_n 1, 1), (1, .iconst 1, 1), (2, .bipush 100, 2), (4, .invokestatic 41, 3), (7, .invokestatic 45, 3), (10, .aload_n 0, 1), (11, .getfield 22, 3), (14, .aload_n 0, 1), (15, .getfield 10, 3), (18, .invokevirtual 62, 3), (21, .aload_n 0, 1), (22, .getfield 10, 3), (25, .iload_n 1, 1), (26, .invokevirtual 133, 3), (29, .ireturn, 1)]
def qa_mX9_tick : qa_M := (yX9_tick, cX9_tick, 2, (some .int), 9, qa_iX9_tick, 2, 2, 7, 156, [], 916, 914, 915)
def qa_iX9_changeMemory : List (Nat × Instr × Nat) := [(0, .iload_n 1, 1), (1, .sipush 150, 3), (4, .sipush 400, 3), (7, .invokestatic 41, 3), (10, .invokestatic 45, 3), (13, .aload_n 0, 1), (14, .getfield 22, 3), (17, .aload_n 0, 1), (18, .getfield 10, 3), (21, .invokevirtual 62, 3), (24, .aload_n 0, 1), (25, .getfield 10, 3), (28, .getfield 136, 3), (31, .getfield 140, 3), (34, .istore_n 2, 1), (35, .aload_n 0, 1), (36, .getfield 10, 3), (39, .getfield 136, 3), (42, .iload_n 1, 1), (43, .putfield 140, 3), (46, .aload_n 0, 1), (47, .getfield 10, 3), (50, .iload_n 1, 1), (51, .invokevirtual 145, 3), (54, .aload_n 0, 1), (55, .getfield 10, 3), (58, .invokevirtual 70, 3), (61, .iload_n 2, 1), (62, .ireturn, 1)]
def qa_mX9_changeMemory : qa_M := (yX9_changeMemory, cX9_changeMemory, 3, (some .int), 9, qa_iX9_changeMemory, 2, 2, 7, 112, [], 928, 926, 927)
def qa_iX9_changeAhead : List (Nat × Instr × Nat) := [(0, .iload_n 1, 1), (1, .iconst 0, 1), (2, .iconst 4, 1), (3, .invokestatic 41, 3), (6, .invokestatic 45, 3), (9, .aload_n 0, 1), (10, .getfield 22, 3), (13, .aload_n 0, 1), (14, .getfield 10, 3), (17, .invokevirtual 62, 3), (20, .aload_n 0, 1), (21, .getfield 10, 3), (24, .getfield 136, 3), (27, .getfield 148, 3), (30, .istore_n 2, 1), (31, .aload_n 0, 1), (32, .getfield 10, 3), (35, .getfield 136, 3), (38, .iload_n 1, 1), (39, .putfield 148, 3), (42, .aload_n 0, 1), (43, .getfield 10, 3), (46, .invokevirtual 70, 3), (49, .iload_n 2, 1), (50, .ireturn, 1)]
def qa_mX9_changeAhead : qa_M := (yX9_changeAhead, cX9_changeAhead, 3, (some .int), 9, qa_iX9_changeAhead, 2, 2, 7, 112, [], 936, 934, 935)
def qa_iX9_changeOrder : List (Nat × Instr × Nat) := [(0, .iload_n 1, 1), (1, .iconst 0, 1), (2, .iconst 2, 1), (3, .invokestatic 41, 3), (6, .invokestatic 45, 3), (9, .aload_n 0, 1), (10, .getfield 22, 3), (13, .aload_n 0, 1), (14, .getfield 10, 3), (17, .invokevirtual 62, 3), (20, .aload_n 0, 1), (21, .getfield 10, 3), (24, .getfield 136, 3), (27, .getfield 151, 3), (30, .istore_n 2, 1), (31, .aload_n 0, 1), (32, .getfield 10, 3), (35, .getfield 136, 3), (38, .iload_n 1, 1), (39, .putfield 151, 3), (42, .aload_n 0, 1), (43, .getfield 10, 3), (46, .invokevirtual 70, 3), (49, .iload_n 2, 1), (50, .ireturn, 1)]
def qa_mX9_changeOrder : qa_M := (yX9_changeOrder, cX9_changeOrder, 3, (some .int), 9, qa_iX9_changeOrder, 2, 2, 7, 112, [], 943, 941, 942)
def qa_iX9_changeGlow : List (Nat × Instr × Nat) := [(0, .iload_n 1, 1), (1, .iconst 0, 1), (2, .bipush 20, 2), (4, .invokestatic 41, 3), (7, .invokestatic 45, 3), (10, .aload_n 0, 1), (11, .getfield 22, 3), (14, .aload_n 0, 1), (15, .getfield 10, 3), (18, .invokevirtual 62, 3), (21, .aload_n 0, 1), (22, .getfield 10, 3), (25, .getfield 136, 3), (28, .getfield 154, 3), (31, .istore_n 2, 1), (32, .aload_n 0, 1), (33, .getfield 10, 3), (36, .getfield 136, 3), (39, .iload_n 1, 1), (40, .putfield 154, 3), (43, .aload_n 0, 1), (44, .getfield 10, 3), (47, .invokevirtual 70, 3), (50, .iload_n 2, 1), (51, .ireturn, 1)]
def qa_mX9_changeGlow : qa_M := (yX9_changeGlow, cX9_changeGlow, 3, (some .int), 9, qa_iX9_changeGlow, 2, 2, 7, 112, [], 950, 948, 949)
def qa_iX9_changePace : List (Nat × Instr × Nat) := [(0, .iload_n 1, 1), (1, .iconst 0, 1), (2, .bipush 50, 2), (4, .invokestatic 41, 3), (7, .invokestatic 45, 3), (10, .aload_n 0, 1), (11, .getfield 22, 3), (14, .aload_n 0, 1), (15, .getfield 10, 3), (18, .invokevirtual 62, 3), (21, .aload_n 0, 1), (22, .getfield 10, 3), (25, .getfield 136, 3), (28, .getfield 157, 3), (31, .istore_n 2, 1), (32, .aload_n 0, 1), (33, .getfield 10, 3), (36, .getfield 136, 3), (39, .iload_n 1, 1), (40, .putfield 157, 3), (43, .aload_n 0, 1), (44, .getfield 10, 3), (47, .invokevirtual 70, 3), (50, .iload_n 2, 1), (51, .ireturn, 1)]
def qa_mX9_changePace : qa_M := (yX9_changePace, cX9_changePace, 3, (some .int), 9, qa_iX9_changePace, 2, 2, 7, 112, [], 957, 955, 956)
def qa_iX9_append : List (Nat × Instr × Nat) := [(0, .iload_n 1, 1), (1, .bipush 33, 2), (3, .bipush 126, 2), (5, .invokestatic 41, 3), (8, .invokestatic 45, 3), (11, .aload_n 0, 1), (12, .getfield 37, 3), (15, .getfield 160, 3), (18, .bipush 60, 2), (20, .if_icmp .ge 7, 3), (23, .iconst 1, 1), (24, .goto 4, 3), (27, .iconst 0, 1), (28, .invokestatic 59, 3), (31, .aload_n 0, 1), (32, .getfield 37, 3), (35, .iload_n 1, 1), (36, .invokevirtual 163, 3), (39, .aload_n 0, 1), (40, .getfield 37, 3), (43, .getfield 160, 3), (46, .ireturn, 1)]
def qa_mX9_append : qa_M := (yX9_append, cX9_append, 2, (some .int), 9, qa_iX9_append, 2, 2, 7, 110, [], 964, 962, 963)
def qa_iX9_clearBuffer : List (Nat × Instr × Nat) := [(0, .aload_n 0, 1), (1, .getfield 37, 3), (4, .getfield 160, 3), (7, .istore_n 1, 1), (8, .aload_n 0, 1), (9, .getfield 37, 3), (12, .iconst 0, 1), (13, .putfield 160, 3), (16, .iload_n 1, 1), (17, .ireturn, 1)]
def qa_mX9_clearBuffer : qa_M := (yX9_clearBuffer, cX9_clearBuffer, 2, (some .int), 9, qa_iX9_clearBuffer, 1, 2, 0, 0, [], 388, 386, 387)
def qa_iX9_firstError : List (Nat × Instr × Nat) := [(0, .aload_n 0, 1), (1, .getfield 37, 3), (4, .invokevirtual 165, 3), (7, .ireturn, 1)]
def qa_mX9_firstError : qa_M := (yX9_firstError, cX9_firstError, 1, (some .int), 9, qa_iX9_firstError, 1, 2, 3, 65, [], 392, 390, 391)
def qa_iX9_follow : List (Nat × Instr × Nat) := [(0, .aload_n 0, 1), (1, .getfield 37, 3), (4, .invokevirtual 169, 3), (7, .invokestatic 45, 3), (10, .aload_n 0, 1), (11, .getfield 16, 3), (14, .aload_n 0, 1), (15, .getfield 10, 3), (18, .invokevirtual 172, 3), (21, .aload_n 0, 1), (22, .getfield 37, 3), (25, .invokevirtual 175, 3), (28, .iconst 0, 1), (29, .istore_n 1, 1), (30, .iload_n 1, 1), (31, .bipush 60, 2), (33, .if_icmp .ge 43, 3), (36, .aload_n 0, 1), (37, .getfield 37, 3), (40, .invokevirtual 178, 3), (43, .ifCond .eq 33, 3), (46, .aload_n 0, 1), (47, .getfield 16, 3), (50, .aload_n 0, 1), (51, .getfield 37, 3), (54, .getfield 181, 3), (57, .aload_n 0, 1), (58, .getfield 37, 3), (61, .getfield 184, 3), (64, .invokevirtual 187, 3), (67, .invokestatic 59, 3), (70, .iinc 1 1, 3), (73, .goto (-43), 3), (76, .aload_n 0, 1), (77, .getfield 22, 3), (80, .aload_n 0, 1), (81, .getfield 10, 3), (84, .invokevirtual 62, 3), (87, .aload_n 0, 1), (88, .getfield 10, 3), (91, .aload_n 0, 1), (92, .getfield 16, 3), (95, .invokevirtual 172, 3), (98, .aload_n 0, 1), (99, .getfield 37, 3), (102, .iconst 0, 1), (103, .putfield 160, 3), (106, .iload_n 1, 1), (107, .ireturn, 1)]
def qa_mX9_follow : qa_M := (yX9_follow, cX9_follow, 2, (some .int), 9, qa_iX9_follow, 1, 2, 7, 156, [], 976, 974, 975)
def qa_iX9_keep : List (Nat × Instr × Nat) := [(0, .iload_n 1, 1), (1, .iconst 0, 1), (2, .iconst 1, 1), (3, .invokestatic 41, 3), (6, .invokestatic 45, 3), (9, .iload_n 1, 1), (10, .ifCond .lt 50, 3), (13, .iload_n 1, 1), (14, .aload_n 0, 1), (15, .getfield 26, 3), (18, .arraylength, 1), (19, .if_icmp .ge 41, 3), (22, .iload_n 1, 1), (23, .aload_n 0, 1), (24, .getfield 30, 3), (27, .arraylength, 1), (28, .if_icmp .ge 32, 3), (31, .aload_n 0, 1), (32, .getfield 26, 3), (35, .iload_n 1, 1), (36, .aaload, 1), (37, .ifnull 23, 3), (40, .aload_n 0, 1), (41, .getfield 26, 3), (44, .iload_n 1, 1), (45, .aaload, 1), (46, .aload_n 0, 1), (47, .getfield 10, 3), (50, .invokevirtual 172, 3), (53, .aload_n 0, 1), (54, .getfield 30, 3), (57, .iload_n 1, 1), (58, .iconst 1, 1), (59, .bastore, 1), (60, .return_, 1)]
def qa_mX9_keep : qa_M := (yX9_keep, cX9_keep, 2, none, 9, qa_iX9_keep, 2, 2, 7, 110, [], 1020, 1018, 1019)
def qa_iX9_goBack : List (Nat × Instr × Nat) := [(0, .iload_n 1, 1), (1, .iconst 0, 1), (2, .iconst 1, 1), (3, .invokestatic 41, 3), (6, .invokestatic 45, 3), (9, .aload_n 0, 1), (10, .iload_n 1, 1), (11, .invokevirtual 191, 3), (14, .invokestatic 59, 3), (17, .aload_n 0, 1), (18, .getfield 22, 3), (21, .aload_n 0, 1), (22, .getfield 10, 3), (25, .invokevirtual 62, 3), (28, .iload_n 1, 1), (29, .ifCond .lt 34, 3), (32, .iload_n 1, 1), (33, .aload_n 0, 1), (34, .getfield 26, 3), (37, .arraylength, 1), (38, .if_icmp .ge 25, 3), (41, .aload_n 0, 1), (42, .getfield 26, 3), (45, .iload_n 1, 1), (46, .aaload, 1), (47, .ifnull 16, 3), (50, .aload_n 0, 1), (51, .getfield 10, 3), (54, .aload_n 0, 1), (55, .getfield 26, 3), (58, .iload_n 1, 1), (59, .aaload, 1), (60, .invokevirtual 172, 3), (63, .return_, 1)]
def qa_mX9_goBack : qa_M := (yX9_goBack, cX9_goBack, 2, none, 9, qa_iX9_goBack, 2, 2, 7, 110, [], 1027, 1025, 1026)
def qa_iX9_undo : List (Nat × Instr × Nat) := [(0, .aload_n 0, 1), (1, .getfield 22, 3), (4, .getfield 194, 3), (7, .ifCond .le 7, 3), (10, .iconst 1, 1), (11, .goto 4, 3), (14, .iconst 0, 1), (15, .invokestatic 59, 3), (18, .aload_n 0, 1), (19, .getfield 22, 3), (22, .aload_n 0, 1), (23, .getfield 10, 3), (26, .invokevirtual 195, 3), (29, .return_, 1)]
def qa_mX9_undo : qa_M := (yX9_undo, cX9_undo, 1, none, 9, qa_iX9_undo, 1, 2, 7, 110, [], 1034, 1032, 1033)
def qa_iX9_savedStates : List (Nat × Instr × Nat) := [(0, .aload_n 0, 1), (1, .getfield 22, 3), (4, .getfield 194, 3), (7, .ireturn, 1)]
def qa_mX9_savedStates : qa_M := (yX9_savedStates, cX9_savedStates, 1, (some .int), 9, qa_iX9_savedStates, 1, 2, 0, 0, [], 419, 417, 418)
def qa_iX9_slides : List (Nat × Instr × Nat) := [(0, .aload_n 0, 1), (1, .getfield 10, 3), (4, .getfield 49, 3), (7, .getfield 53, 3), (10, .ireturn, 1)]
def qa_mX9_slides : qa_M := (yX9_slides, cX9_slides, 1, (some .int), 9, qa_iX9_slides, 1, 2, 0, 0, [], 423, 421, 422)
def qa_iX9_costOf : List (Nat × Instr × Nat) := [(0, .aload_n 0, 1), (1, .getfield 10, 3), (4, .getfield 49, 3), (7, .iload_n 1, 1), (8, .invokevirtual 80, 3), (11, .invokestatic 84, 3), (14, .aload_n 0, 1), (15, .getfield 10, 3), (18, .getfield 49, 3), (21, .getfield 125, 3), (24, .iload_n 1, 1), (25, .invokestatic 129, 3), (28, .ireturn, 1)]
def qa_mX9_costOf : qa_M := (yX9_costOf, cX9_costOf, 2, (some .int), 9, qa_iX9_costOf, 2, 2, 7, 110, [], 1045, 1043, 1044)
def qa_iX9_loadOf : List (Nat × Instr × Nat) := [(0, .aload_n 0, 1), (1, .getfield 10, 3), (4, .getfield 49, 3), (7, .iload_n 1, 1), (8, .invokevirtual 80, 3), (11, .invokestatic 84, 3), (14, .aload_n 0, 1), (15, .getfield 10, 3), (18, .getfield 49, 3), (21, .iload_n 1, 1), (22, .iconst 0, 1), (23, .invokevirtual 198, 3), (26, .ireturn, 1)]
def qa_mX9_loadOf : qa_M := (yX9_loadOf, cX9_loadOf, 2, (some .int), 9, qa_iX9_loadOf, 2, 2, 7, 110, [], 1052, 1050, 1051)
def qa_iX9_fadeOf : List (Nat × Instr × Nat) := [(0, .aload_n 0, 1), (1, .getfield 10, 3), (4, .getfield 49, 3), (7, .iload_n 1, 1), (8, .invokevirtual 80, 3), (11, .invokestatic 84, 3), (14, .aload_n 0, 1), (15, .getfield 10, 3), (18, .getfield 49, 3), (21, .getfield 202, 3), (24, .iload_n 1, 1), (25, .invokestatic 129, 3), (28, .ireturn, 1)]
def qa_mX9_fadeOf : qa_M := (yX9_fadeOf, cX9_fadeOf, 2, (some .int), 9, qa_iX9_fadeOf, 2, 2, 7, 110, [], 1059, 1057, 1058)
def qa_iX9_isLoaded : List (Nat × Instr × Nat) := [(0, .aload_n 0, 1), (1, .getfield 10, 3), (4, .getfield 49, 3), (7, .iload_n 1, 1), (8, .invokevirtual 80, 3), (11, .invokestatic 84, 3), (14, .aload_n 0, 1), (15, .getfield 10, 3), (18, .getfield 49, 3), (21, .iload_n 1, 1), (22, .invokevirtual 205, 3), (25, .ireturn, 1)]
def qa_mX9_isLoaded : qa_M := (yX9_isLoaded, cX9_isLoaded, 2, (some .boolean), 9, qa_iX9_isLoaded, 2, 2, 7, 110, [], 1066, 1064, 1065)
def qa_iX9_isOnShow : List (Nat × Instr × Nat) := [(0, .aload_n 0, 1), (1, .getfield 10, 3), (4, .getfield 49, 3), (7, .iload_n 1, 1), (8, .invokevirtual 80, 3), (11, .invokestatic 84, 3), (14, .aload_n 0, 1), (15, .getfield 10, 3), (18, .getfield 208, 3), (21, .iload_n 1, 1), (22, .invokevirtual 212, 3), (25, .ireturn, 1)]
def qa_mX9_isOnShow : qa_M := (yX9_isOnShow, cX9_isOnShow, 2, (some .boolean), 9, qa_iX9_isOnShow, 2, 2, 7, 110, [], 1073, 1071, 1072)
def qa_iX9_glowOf : List (Nat × Instr × Nat) := [(0, .aload_n 0, 1), (1, .getfield 10, 3), (4, .getfield 49, 3), (7, .iload_n 1, 1), (8, .invokevirtual 80, 3), (11, .invokestatic 84, 3), (14, .aload_n 0, 1), (15, .getfield 10, 3), (18, .getfield 49, 3), (21, .getfield 217, 3), (24, .iload_n 1, 1), (25, .invokestatic 129, 3), (28, .ireturn, 1)]
def qa_mX9_glowOf : qa_M := (yX9_glowOf, cX9_glowOf, 2, (some .int), 9, qa_iX9_glowOf, 2, 2, 7, 110, [], 1080, 1078, 1079)
def qa_iX9_burntTimes : List (Nat × Instr × Nat) := [(0, .aload_n 0, 1), (1, .getfield 10, 3), (4, .getfield 49, 3), (7, .iload_n 1, 1), (8, .invokevirtual 80, 3), (11, .invokestatic 84, 3), (14, .aload_n 0, 1), (15, .getfield 10, 3), (18, .getfield 49, 3), (21, .getfield 220, 3), (24, .iload_n 1, 1), (25, .invokestatic 129, 3), (28, .ireturn, 1)]
def qa_mX9_burntTimes : qa_M := (yX9_burntTimes, cX9_burntTimes, 2, (some .int), 9, qa_iX9_burntTimes, 2, 2, 7, 110, [], 1087, 1085, 1086)
def qa_iX9_nextUse : List (Nat × Instr × Nat) := [(0, .aload_n 0, 1), (1, .getfield 10, 3), (4, .getfield 49, 3), (7, .iload_n 1, 1), (8, .invokevirtual 80, 3), (11, .invokestatic 84, 3), (14, .aload_n 0, 1), (15, .getfield 10, 3), (18, .getfield 73, 3), (21, .iload_n 1, 1), (22, .invokevirtual 223, 3), (25, .istore_n 2, 1), (26, .iload_n 2, 1), (27, .ifCond .le 7, 3), (30, .iconst 1, 1), (31, .goto 4, 3), (34, .iconst 0, 1), (35, .invokestatic 59, 3), (38, .iload_n 2, 1), (39, .ireturn, 1)]
def qa_mX9_nextUse : qa_M := (yX9_nextUse, cX9_nextUse, 3, (some .int), 9, qa_iX9_nextUse, 2, 2, 7, 110, [], 1094, 1092, 1093)
def qa_iX9_burnPlace : List (Nat × Instr × Nat) := [(0, .aload_n 0, 1), (1, .getfield 10, 3), (4, .getfield 49, 3), (7, .iload_n 1, 1), (8, .invokevirtual 80, 3), (11, .invokestatic 84, 3), (14, .aload_n 0, 1), (15, .getfield 10, 3), (18, .iload_n 1, 1), (19, .invokevirtual 226, 3), (22, .istore_n 2, 1), (23, .iload_n 2, 1), (24, .iconst (-1), 1), (25, .if_icmp .eq 7, 3), (28, .iconst 1, 1), (29, .goto 4, 3), (32, .iconst 0, 1), (33, .invokestatic 59, 3), (36, .iload_n 2, 1), (37, .ireturn, 1)]
def qa_mX9_burnPlace : qa_M := (yX9_burnPlace, cX9_burnPlace, 3, (some .int), 9, qa_iX9_burnPlace, 2, 2, 7, 110, [], 1101, 1099, 1100)
def qa_iX9_places : List (Nat × Instr × Nat) := [(0, .aload_n 0, 1), (1, .getfield 10, 3), (4, .getfield 73, 3), (7, .getfield 77, 3), (10, .ireturn, 1)]
def qa_mX9_places : qa_M := (yX9_places, cX9_places, 1, (some .int), 9, qa_iX9_places, 1, 2, 0, 0, [], 427, 425, 426)
def qa_iX9_slideAt : List (Nat × Instr × Nat) := [(0, .aload_n 0, 1), (1, .getfield 10, 3), (4, .getfield 73, 3), (7, .iload_n 1, 1), (8, .invokevirtual 91, 3), (11, .invokestatic 84, 3), (14, .aload_n 0, 1), (15, .getfield 10, 3), (18, .getfield 73, 3), (21, .getfield 229, 3), (24, .iload_n 1, 1), (25, .invokestatic 129, 3), (28, .ireturn, 1)]
def qa_mX9_slideAt : qa_M := (yX9_slideAt, cX9_slideAt, 2, (some .int), 9, qa_iX9_slideAt, 2, 2, 7, 110, [], 1108, 1106, 1107)
def qa_iX9_showPlace : List (Nat × Instr × Nat) := [(0, .aload_n 0, 1), (1, .getfield 10, 3), (4, .getfield 73, 3), (7, .getfield 232, 3), (10, .iconst (-1), 1), (11, .if_icmp .eq 7, 3), (14, .iconst 1, 1), (15, .goto 4, 3), (18, .iconst 0, 1), (19, .invokestatic 59, 3), (22, .aload_n 0, 1), (23, .getfield 10, 3), (26, .getfield 73, 3), (29, .getfield 232, 3), (32, .ireturn, 1)]
def qa_mX9_showPlace : qa_M := (yX9_showPlace, cX9_showPlace, 1, (some .int), 9, qa_iX9_showPlace, 1, 2, 7, 110, [], 1115, 1113, 1114)
def qa_iX9_shown : List (Nat × Instr × Nat) := [(0, .aload_n 0, 1), (1, .getfield 10, 3), (4, .getfield 208, 3), (7, .getfield 235, 3), (10, .iconst (-1), 1), (11, .if_icmp .eq 7, 3), (14, .iconst 1, 1), (15, .goto 4, 3), (18, .iconst 0, 1), (19, .invokestatic 59, 3), (22, .aload_n 0, 1), (23, .getfield 10, 3), (26, .getfield 208, 3), (29, .getfield 235, 3), (32, .ireturn, 1)]
def qa_mX9_shown : qa_M := (yX9_shown, cX9_shown, 1, (some .int), 9, qa_iX9_shown, 1, 2, 7, 110, [], 1122, 1120, 1121)
def qa_iX9_fading : List (Nat × Instr × Nat) := [(0, .aload_n 0, 1), (1, .getfield 10, 3), (4, .getfield 208, 3), (7, .getfield 238, 3), (10, .iconst (-1), 1), (11, .if_icmp .eq 7, 3), (14, .iconst 1, 1), (15, .goto 4, 3), (18, .iconst 0, 1), (19, .invokestatic 59, 3), (22, .aload_n 0, 1), (23, .getfield 10, 3), (26, .getfield 208, 3), (29, .getfield 238, 3), (32, .ireturn, 1)]
def qa_mX9_fading : qa_M := (yX9_fading, cX9_fading, 1, (some .int), 9, qa_iX9_fading, 1, 2, 7, 110, [], 1129, 1127, 1128)
def qa_iX9_fadeLeft : List (Nat × Instr × Nat) := [(0, .aload_n 0, 1), (1, .getfield 10, 3), (4, .getfield 208, 3), (7, .getfield 241, 3), (10, .ireturn, 1)]
def qa_mX9_fadeLeft : qa_M := (yX9_fadeLeft, cX9_fadeLeft, 1, (some .int), 9, qa_iX9_fadeLeft, 1, 2, 0, 0, [], 431, 429, 430)
def qa_iX9_awaited : List (Nat × Instr × Nat) := [(0, .aload_n 0, 1), (1, .getfield 10, 3), (4, .getfield 208, 3), (7, .getfield 244, 3), (10, .iconst (-1), 1), (11, .if_icmp .eq 7, 3), (14, .iconst 1, 1), (15, .goto 4, 3), (18, .iconst 0, 1), (19, .invokestatic 59, 3), (22, .aload_n 0, 1), (23, .getfield 10, 3), (26, .getfield 208, 3), (29, .getfield 244, 3), (32, .ireturn, 1)]
def qa_mX9_awaited : qa_M := (yX9_awaited, cX9_awaited, 1, (some .int), 9, qa_iX9_awaited, 1, 2, 7, 110, [], 1136, 1134, 1135)
def qa_iX9_shownFor : List (Nat × Instr × Nat) := [(0, .aload_n 0, 1), (1, .getfield 10, 3), (4, .getfield 208, 3), (7, .getfield 235, 3), (10, .iconst (-1), 1), (11, .if_icmp .eq 7, 3), (14, .iconst 1, 1), (15, .goto 4, 3), (18, .iconst 0, 1), (19, .invokestatic 59, 3), (22, .aload_n 0, 1), (23, .getfield 10, 3), (26, .getfield 208, 3), (29, .getfield 247, 3), (32, .ireturn, 1)]
def qa_mX9_shownFor : qa_M := (yX9_shownFor, cX9_shownFor, 1, (some .int), 9, qa_iX9_shownFor, 1, 2, 7, 110, [], 1143, 1141, 1142)
def qa_iX9_loading : List (Nat × Instr × Nat) := [(0, .aload_n 0, 1), (1, .getfield 10, 3), (4, .getfield 106, 3), (7, .getfield 250, 3), (10, .iconst (-1), 1), (11, .if_icmp .eq 7, 3), (14, .iconst 1, 1), (15, .goto 4, 3), (18, .iconst 0, 1), (19, .invokestatic 59, 3), (22, .aload_n 0, 1), (23, .getfield 10, 3), (26, .getfield 106, 3), (29, .getfield 250, 3), (32, .ireturn, 1)]
def qa_mX9_loading : qa_M := (yX9_loading, cX9_loading, 1, (some .int), 9, qa_iX9_loading, 1, 2, 7, 110, [], 1150, 1148, 1149)
def qa_iX9_loadLeft : List (Nat × Instr × Nat) := [(0, .aload_n 0, 1), (1, .getfield 10, 3), (4, .getfield 106, 3), (7, .getfield 253, 3), (10, .ireturn, 1)]
def qa_mX9_loadLeft : qa_M := (yX9_loadLeft, cX9_loadLeft, 1, (some .int), 9, qa_iX9_loadLeft, 1, 2, 0, 0, [], 435, 433, 434)
def qa_iX9_asked : List (Nat × Instr × Nat) := [(0, .aload_n 0, 1), (1, .getfield 10, 3), (4, .getfield 106, 3), (7, .getfield 116, 3), (10, .ireturn, 1)]
def qa_mX9_asked : qa_M := (yX9_asked, cX9_asked, 1, (some .int), 9, qa_iX9_asked, 1, 2, 0, 0, [], 439, 437, 438)
def qa_iX9_askedAt : List (Nat × Instr × Nat) := [(0, .iload_n 1, 1), (1, .iconst 0, 1), (2, .aload_n 0, 1), (3, .getfield 10, 3), (6, .getfield 106, 3), (9, .getfield 116, 3), (12, .iconst 1, 1), (13, .isub, 1), (14, .invokestatic 41, 3), (17, .invokestatic 84, 3), (20, .aload_n 0, 1), (21, .getfield 10, 3), (24, .getfield 106, 3), (27, .getfield 256, 3), (30, .iload_n 1, 1), (31, .invokestatic 129, 3), (34, .ireturn, 1)]
def qa_mX9_askedAt : qa_M := (yX9_askedAt, cX9_askedAt, 2, (some .int), 9, qa_iX9_askedAt, 2, 2, 7, 110, [], 1157, 1155, 1156)
def qa_iX9_takenBySlides : List (Nat × Instr × Nat) := [(0, .aload_n 0, 1), (1, .getfield 10, 3), (4, .invokevirtual 257, 3), (7, .ireturn, 1)]
def qa_mX9_takenBySlides : qa_M := (yX9_takenBySlides, cX9_takenBySlides, 1, (some .int), 9, qa_iX9_takenBySlides, 1, 2, 2, 43, [], 443, 441, 442)
def qa_iX9_takenByAccount : List (Nat × Instr × Nat) := [(0, .aload_n 0, 1), (1, .getfield 10, 3), (4, .getfield 106, 3), (7, .getfield 260, 3), (10, .ireturn, 1)]
def qa_mX9_takenByAccount : qa_M := (yX9_takenByAccount, cX9_takenByAccount, 1, (some .int), 9, qa_iX9_takenByAccount, 1, 2, 0, 0, [], 456, 454, 455)
def qa_iX9_memory : List (Nat × Instr × Nat) := [(0, .aload_n 0, 1), (1, .getfield 10, 3), (4, .getfield 136, 3), (7, .getfield 140, 3), (10, .ireturn, 1)]
def qa_mX9_memory : qa_M := (yX9_memory, cX9_memory, 1, (some .int), 9, qa_iX9_memory, 1, 2, 0, 0, [], 460, 458, 459)
def qa_iX9_ahead : List (Nat × Instr × Nat) := [(0, .aload_n 0, 1), (1, .getfield 10, 3), (4, .getfield 136, 3), (7, .getfield 148, 3), (10, .ireturn, 1)]
def qa_mX9_ahead : qa_M := (yX9_ahead, cX9_ahead, 1, (some .int), 9, qa_iX9_ahead, 1, 2, 0, 0, [], 464, 462, 463)
def qa_iX9_order : List (Nat × Instr × Nat) := [(0, .aload_n 0, 1), (1, .getfield 10, 3), (4, .getfield 136, 3), (7, .getfield 151, 3), (10, .ireturn, 1)]
def qa_mX9_order : qa_M := (yX9_order, cX9_order, 1, (some .int), 9, qa_iX9_order, 1, 2, 0, 0, [], 468, 466, 467)
def qa_iX9_glow : List (Nat × Instr × Nat) := [(0, .aload_n 0, 1), (1, .getfield 10, 3), (4, .getfield 136, 3), (7, .getfield 154, 3), (10, .ireturn, 1)]
def qa_mX9_glow : qa_M := (yX9_glow, cX9_glow, 1, (some .int), 9, qa_iX9_glow, 1, 2, 0, 0, [], 472, 470, 471)
def qa_iX9_pace : List (Nat × Instr × Nat) := [(0, .aload_n 0, 1), (1, .getfield 10, 3), (4, .getfield 136, 3), (7, .getfield 157, 3), (10, .ireturn, 1)]
def qa_mX9_pace : qa_M := (yX9_pace, cX9_pace, 1, (some .int), 9, qa_iX9_pace, 1, 2, 0, 0, [], 476, 474, 475)
def qa_iX9_ticksToShowByTicks : List (Nat × Instr × Nat) := [(0, .aload_n 0, 1), (1, .getfield 10, 3), (4, .getfield 208, 3), (7, .getfield 244, 3), (10, .iconst (-1), 1), (11, .if_icmp .eq 7, 3), (14, .iconst 1, 1), (15, .goto 4, 3), (18, .iconst 0, 1), (19, .invokestatic 59, 3), (22, .aload_n 0, 1), (23, .invokevirtual 263, 3), (26, .ireturn, 1)]
def qa_mX9_ticksToShowByTicks : qa_M := (yX9_ticksToShowByTicks, cX9_ticksToShowByTicks, 1, (some .int), 9, qa_iX9_ticksToShowByTicks, 1, 2, 7, 154, [], 1164, 1162, 1163)
def qa_iX9_ticksToShowBySums : List (Nat × Instr × Nat) := [(0, .aload_n 0, 1), (1, .getfield 10, 3), (4, .getfield 208, 3), (7, .getfield 244, 3), (10, .iconst (-1), 1), (11, .if_icmp .eq 7, 3), (14, .iconst 1, 1), (15, .goto 4, 3), (18, .iconst 0, 1), (19, .invokestatic 59, 3), (22, .aload_n 0, 1), (23, .getfield 10, 3), (26, .invokevirtual 266, 3), (29, .ireturn, 1)]
def qa_mX9_ticksToShowBySums : qa_M := (yX9_ticksToShowBySums, cX9_ticksToShowBySums, 1, (some .int), 9, qa_iX9_ticksToShowBySums, 1, 2, 7, 110, [], 1171, 1169, 1170)
def qa_iX9_burningsFor : List (Nat × Instr × Nat) := [(0, .aload_n 0, 1), (1, .getfield 10, 3), (4, .getfield 49, 3), (7, .iload_n 1, 1), (8, .invokevirtual 80, 3), (11, .invokestatic 84, 3), (14, .aload_n 0, 1), (15, .getfield 10, 3), (18, .iload_n 1, 1), (19, .invokevirtual 269, 3), (22, .ireturn, 1)]
def qa_mX9_burningsFor : qa_M := (yX9_burningsFor, cX9_burningsFor, 2, (some .int), 9, qa_iX9_burningsFor, 2, 2, 7, 110, [], 1178, 1176, 1177)
def qa_iX9_missesWith : List (Nat × Instr × Nat) := [(0, .iload_n 1, 1), (1, .iconst 0, 1), (2, .iconst 2, 1), (3, .invokestatic 41, 3), (6, .invokestatic 45, 3), (9, .aload_n 0, 1), (10, .getfield 10, 3), (13, .invokevirtual 96, 3), (16, .invokestatic 59, 3), (19, .aload_n 0, 1), (20, .iload_n 1, 1), (21, .invokevirtual 272, 3), (24, .ireturn, 1)]
def qa_mX9_missesWith : qa_M := (yX9_missesWith, cX9_missesWith, 2, (some .int), 9, qa_iX9_missesWith, 2, 2, 7, 157, [], 1185, 1183, 1184)
def qa_iX9_bestOrder : List (Nat × Instr × Nat) := [(0, .aload_n 0, 1), (1, .getfield 10, 3), (4, .invokevirtual 96, 3), (7, .invokestatic 59, 3), (10, .iconst 0, 1), (11, .istore_n 1, 1), (12, .aload_n 0, 1), (13, .iload_n 1, 1), (14, .invokevirtual 272, 3), (17, .istore_n 2, 1), (18, .iconst 1, 1), (19, .istore_n 3, 1), (20, .iload_n 3, 1), (21, .iconst 3, 1), (22, .if_icmp .ge 27, 3), (25, .aload_n 0, 1), (26, .iload_n 3, 1), (27, .invokevirtual 272, 3), (30, .istore 4, 2), (32, .iload 4, 2), (34, .iload_n 2, 1), (35, .if_icmp .ge 8, 3), (38, .iload_n 3, 1), (39, .istore_n 1, 1), (40, .iload 4, 2), (42, .istore_n 2, 1), (43, .iinc 3 1, 3), (46, .goto (-26), 3), (49, .iload_n 1, 1), (50, .ireturn, 1)]
def qa_mX9_bestOrder : qa_M := (yX9_bestOrder, cX9_bestOrder, 5, (some .int), 9, qa_iX9_bestOrder, 1, 2, 7, 157, [], 1196, 1194, 1195)
def qa_iX9_time : List (Nat × Instr × Nat) := [(0, .aload_n 0, 1), (1, .getfield 10, 3), (4, .getfield 275, 3), (7, .getfield 279, 3), (10, .ireturn, 1)]
def qa_mX9_time : qa_M := (yX9_time, cX9_time, 1, (some .int), 9, qa_iX9_time, 1, 2, 0, 0, [], 480, 478, 479)
def qa_iX9_hits : List (Nat × Instr × Nat) := [(0, .aload_n 0, 1), (1, .getfield 10, 3), (4, .getfield 275, 3), (7, .getfield 284, 3), (10, .ireturn, 1)]
def qa_mX9_hits : qa_M := (yX9_hits, cX9_hits, 1, (some .int), 9, qa_iX9_hits, 1, 2, 0, 0, [], 484, 482, 483)
def qa_iX9_misses : List (Nat × Instr × Nat) := [(0, .aload_n 0, 1), (1, .getfield 10, 3), (4, .getfield 275, 3), (7, .getfield 287, 3), (10, .ireturn, 1)]
def qa_mX9_misses : qa_M := (yX9_misses, cX9_misses, 1, (some .int), 9, qa_iX9_misses, 1, 2, 0, 0, [], 488, 486, 487)
def qa_iX9_loads : List (Nat × Instr × Nat) := [(0, .aload_n 0, 1), (1, .getfield 10, 3), (4, .getfield 275, 3), (7, .getfield 290, 3), (10, .ireturn, 1)]
def qa_mX9_loads : qa_M := (yX9_loads, cX9_loads, 1, (some .int), 9, qa_iX9_loads, 1, 2, 0, 0, [], 492, 490, 491)
def qa_iX9_warmLoads : List (Nat × Instr × Nat) := [(0, .aload_n 0, 1), (1, .getfield 10, 3), (4, .getfield 275, 3), (7, .getfield 293, 3), (10, .ireturn, 1)]
def qa_mX9_warmLoads : qa_M := (yX9_warmLoads, cX9_warmLoads, 1, (some .int), 9, qa_iX9_warmLoads, 1, 2, 0, 0, [], 496, 494, 495)
def qa_iX9_burnings : List (Nat × Instr × Nat) := [(0, .aload_n 0, 1), (1, .getfield 10, 3), (4, .getfield 275, 3), (7, .getfield 296, 3), (10, .ireturn, 1)]
def qa_mX9_burnings : qa_M := (yX9_burnings, cX9_burnings, 1, (some .int), 9, qa_iX9_burnings, 1, 2, 0, 0, [], 500, 498, 499)
def qa_iX9_waited : List (Nat × Instr × Nat) := [(0, .aload_n 0, 1), (1, .getfield 10, 3), (4, .getfield 275, 3), (7, .getfield 299, 3), (10, .ireturn, 1)]
def qa_mX9_waited : qa_M := (yX9_waited, cX9_waited, 1, (some .int), 9, qa_iX9_waited, 1, 2, 0, 0, [], 504, 502, 503)
def qa_iX9_hitShare : List (Nat × Instr × Nat) := [(0, .aload_n 0, 1), (1, .getfield 10, 3), (4, .getfield 275, 3), (7, .invokevirtual 302, 3), (10, .dreturn, 1)]
def qa_mX9_hitShare : qa_M := (yX9_hitShare, cX9_hitShare, 1, (some .double), 9, qa_iX9_hitShare, 1, 2, 1, 21, [], 508, 506, 507)
def qa_iX9_digest : List (Nat × Instr × Nat) := [(0, .ldc2_w 306, 3), (3, .aload_n 0, 1), (4, .getfield 10, 3), (7, .getfield 49, 3), (10, .getfield 53, 3), (13, .i2l, 1), (14, .invokestatic 308, 3), (17, .lstore_n 1, 1), (18, .iconst 0, 1), (19, .istore_n 3, 1), (20, .iload_n 3, 1), (21, .aload_n 0, 1), (22, .getfield 10, 3), (25, .getfield 49, 3), (28, .getfield 53, 3), (31, .if_icmp .ge 16, 3), (34, .aload_n 0, 1), (35, .lload_n 1, 1), (36, .iload_n 3, 1), (37, .invokevirtual 312, 3), (40, .lstore_n 1, 1), (41, .iinc 3 1, 3), (44, .goto (-24), 3), (47, .aload_n 0, 1), (48, .lload_n 1, 1), (49, .invokevirtual 316, 3), (52, .lstore_n 1, 1), (53, .aload_n 0, 1), (54, .lload_n 1, 1), (55, .invokevirtual 320, 3), (58, .lstore_n 1, 1), (59, .aload_n 0, 1), (60, .getfield 10, 3), (63, .getfield 208, 3), (66, .getfield 244, 3), (69, .iconst (-1), 1), (70, .if_icmp .eq 7, 3), (73, .iconst 1, 1), (74, .goto 4, 3), (77, .iconst 0, 1), (78, .istore_n 3, 1), (79, .lload_n 1, 1), (80, .iload_n 3, 1), (81, .ifCond .eq 11, 3), (84, .aload_n 0, 1), (85, .invokevirtual 263, 3), (88, .i2l, 1), (89, .goto 4, 3), (92, .lconst 0, 1), (93, .invokestatic 308, 3), (96, .lstore_n 1, 1), (97, .lload_n 1, 1), (98, .iload_n 3, 1), (99, .ifCond .eq 14, 3), (102, .aload_n 0, 1), (103, .getfield 10, 3), (106, .invokevirtual 266, 3), (109, .i2l, 1), (110, .goto 4, 3), (113, .lconst 0, 1), (114, .invokestatic 308, 3), (117, .lstore_n 1, 1), (118, .aload_n 0, 1), (119, .lload_n 1, 1), (120, .invokevirtual 323, 3), (123, .lstore_n 1, 1), (124, .iconst 0, 1), (125, .istore 4, 2), (127, .iload 4, 2), (129, .iconst 2, 1), (130, .if_icmp .ge 28, 3), (133, .lload_n 1, 1), (134, .aload_n 0, 1), (135, .iload 4, 2), (137, .invokevirtual 191, 3), (140, .ifCond .eq 7, 3), (143, .lconst 1, 1), (144, .goto 4, 3), (147, .lconst 0, 1), (148, .invokestatic 308, 3), (151, .lstore_n 1, 1), (152, .iinc 4 1, 3), (155, .goto (-28), 3), (158, .lload_n 1, 1), (159, .aload_n 0, 1), (160, .getfield 37, 3), (163, .getfield 160, 3), (166, .i2l, 1), (167, .invokestatic 308, 3), (170, .lstore_n 1, 1), (171, .iconst 0, 1), (172, .istore 4, 2), (174, .iload 4, 2), (176, .aload_n 0, 1), (177, .getfield 37, 3), (180, .getfield 160, 3), (183, .if_icmp .ge 27, 3), (186, .lload_n 1, 1), (187, .aload_n 0, 1), (188, .getfield 37, 3), (191, .getfield 326, 3), (194, .iload 4, 2), (196, .invokestatic 129, 3), (199, .i2l, 1), (200, .invokestatic 308, 3), (203, .lstore_n 1, 1), (204, .iinc 4 1, 3), (207, .goto (-33), 3), (210, .lload_n 1, 1), (211, .lreturn, 1)]
def qa_mX9_digest : qa_M := (yX9_digest, cX9_digest, 5, (some .long), 9, qa_iX9_digest, 1, 2, 7, 154, [], 516, 514, 515)
def qa_iX9_mix : List (Nat × Instr × Nat) := [(0, .ldc2_w 329, 3), (3, .lload_n 0, 1), (4, .lmul, 1), (5, .lload_n 2, 1), (6, .ladd, 1), (7, .lreturn, 1)]
def qa_mX9_mix : qa_M := (yX9_mix, cX9_mix, 4, (some .long), 9, qa_iX9_mix, 2, 1, 0, 0, [], 520, 519, 0)
def qa_iX9_mixSlide : List (Nat × Instr × Nat) := [(0, .lload_n 1, 1), (1, .aload_n 0, 1), (2, .getfield 10, 3), (5, .getfield 49, 3), (8, .getfield 125, 3), (11, .iload_n 3, 1), (12, .invokestatic 129, 3), (15, .i2l, 1), (16, .invokestatic 308, 3), (19, .lstore 4, 2), (21, .lload 4, 2), (23, .aload_n 0, 1), (24, .getfield 10, 3), (27, .getfield 49, 3), (30, .iload_n 3, 1), (31, .iconst 0, 1), (32, .invokevirtual 198, 3), (35, .i2l, 1), (36, .invokestatic 308, 3), (39, .lstore 4, 2), (41, .lload 4, 2), (43, .aload_n 0, 1), (44, .getfield 10, 3), (47, .getfield 49, 3), (50, .getfield 202, 3), (53, .iload_n 3, 1), (54, .invokestatic 129, 3), (57, .i2l, 1), (58, .invokestatic 308, 3), (61, .lstore 4, 2), (63, .lload 4, 2), (65, .aload_n 0, 1), (66, .getfield 10, 3), (69, .getfield 49, 3), (72, .iload_n 3, 1), (73, .invokevirtual 205, 3), (76, .ifCond .eq 7, 3), (79, .lconst 1, 1), (80, .goto 4, 3), (83, .lconst 0, 1), (84, .invokestatic 308, 3), (87, .lstore 4, 2), (89, .lload 4, 2), (91, .aload_n 0, 1), (92, .getfield 10, 3), (95, .getfield 208, 3), (98, .iload_n 3, 1), (99, .invokevirtual 212, 3), (102, .ifCond .eq 7, 3), (105, .lconst 1, 1), (106, .goto 4, 3), (109, .lconst 0, 1), (110, .invokestatic 308, 3), (113, .lstore 4, 2), (115, .lload 4, 2), (117, .aload_n 0, 1), (118, .getfield 10, 3), (121, .getfield 49, 3), (124, .getfield 217, 3), (127, .iload_n 3, 1), (128, .invokestatic 129, 3), (131, .i2l, 1), (132, .invokestatic 308, 3), (135, .lstore 4, 2), (137, .lload 4, 2), (139, .aload_n 0, 1), (140, .getfield 10, 3), (143, .getfield 49, 3), (146, .getfield 220, 3), (149, .iload_n 3, 1), (150, .invokestatic 129, 3), (153, .i2l, 1), (154, .invokestatic 308, 3), (157, .lstore 4, 2), (159, .lload 4, 2), (161, .aload_n 0, 1), (162, .getfield 10, 3), (165, .getfield 73, 3), (168, .iload_n 3, 1), (169, .invokevirtual 223, 3), (172, .i2l, 1), (173, .invokestatic 308, 3), (176, .lstore 4, 2), (178, .lload 4, 2), (180, .aload_n 0, 1), (181, .getfield 10, 3), (184, .iload_n 3, 1), (185, .invokevirtual 226, 3), (188, .iconst 1, 1), (189, .iadd, 1), (190, .i2l, 1), (191, .invokestatic 308, 3), (194, .lstore 4, 2), (196, .lload 4, 2), (198, .aload_n 0, 1), (199, .getfield 10, 3), (202, .iload_n 3, 1), (203, .invokevirtual 269, 3), (206, .i2l, 1), (207, .invokestatic 308, 3), (210, .lreturn, 1)]
def qa_mX9_mixSlide : qa_M := (yX9_mixSlide, cX9_mixSlide, 6, (some .long), 9, qa_iX9_mixSlide, 3, 2, 4, 91, [], 525, 524, 0)
def qa_iX9_mixProgramme : List (Nat × Instr × Nat) := [(0, .lload_n 1, 1), (1, .aload_n 0, 1), (2, .getfield 10, 3), (5, .getfield 73, 3), (8, .getfield 77, 3), (11, .i2l, 1), (12, .invokestatic 308, 3), (15, .lstore_n 3, 1), (16, .iconst 0, 1), (17, .istore 5, 2), (19, .iload 5, 2), (21, .aload_n 0, 1), (22, .getfield 10, 3), (25, .getfield 73, 3), (28, .getfield 77, 3), (31, .if_icmp .ge 30, 3), (34, .lload_n 3, 1), (35, .aload_n 0, 1), (36, .getfield 10, 3), (39, .getfield 73, 3), (42, .getfield 229, 3), (45, .iload 5, 2), (47, .invokestatic 129, 3), (50, .i2l, 1), (51, .invokestatic 308, 3), (54, .lstore_n 3, 1), (55, .iinc 5 1, 3), (58, .goto (-39), 3), (61, .lload_n 3, 1), (62, .aload_n 0, 1), (63, .getfield 10, 3), (66, .getfield 73, 3), (69, .getfield 232, 3), (72, .iconst 1, 1), (73, .iadd, 1), (74, .i2l, 1), (75, .invokestatic 308, 3), (78, .lstore_n 3, 1), (79, .lload_n 3, 1), (80, .aload_n 0, 1), (81, .getfield 10, 3), (84, .getfield 208, 3), (87, .getfield 235, 3), (90, .iconst 1, 1), (91, .iadd, 1), (92, .i2l, 1), (93, .invokestatic 308, 3), (96, .lstore_n 3, 1), (97, .lload_n 3, 1), (98, .aload_n 0, 1), (99, .getfield 10, 3), (102, .getfield 208, 3), (105, .getfield 238, 3), (108, .iconst 1, 1), (109, .iadd, 1), (110, .i2l, 1), (111, .invokestatic 308, 3), (114, .lstore_n 3, 1), (115, .lload_n 3, 1), (116, .aload_n 0, 1), (117, .getfield 10, 3), (120, .getfield 208, 3), (123, .getfield 241, 3), (126, .i2l, 1), (127, .invokestatic 308, 3), (130, .lstore_n 3, 1), (131, .lload_n 3, 1), (132, .aload_n 0, 1), (133, .getfield 10, 3), (136, .getfield 208, 3), (139, .getfield 244, 3), (142, .iconst 1, 1), (143, .iadd, 1), (144, .i2l, 1), (145, .invokestatic 308, 3), (148, .lstore_n 3, 1), (149, .lload_n 3, 1), (150, .aload_n 0, 1), (151, .getfield 10, 3), (154, .getfield 208, 3), (157, .getfield 247, 3), (160, .i2l, 1), (161, .invokestatic 308, 3), (164, .lreturn, 1)]
def qa_mX9_mixProgramme : qa_M := (yX9_mixProgramme, cX9_mixProgramme, 6, (some .long), 9, qa_iX9_mixProgramme, 2, 2, 1, 23, [], 577, 576, 1)
def qa_iX9_mixLoading : List (Nat × Instr × Nat) := [(0, .lload_n 1, 1), (1, .aload_n 0, 1), (2, .getfield 10, 3), (5, .getfield 106, 3), (8, .getfield 250, 3), (11, .iconst 1, 1), (12, .iadd, 1), (13, .i2l, 1), (14, .invokestatic 308, 3), (17, .lstore_n 3, 1), (18, .lload_n 3, 1), (19, .aload_n 0, 1), (20, .getfield 10, 3), (23, .getfield 106, 3), (26, .getfield 253, 3), (29, .i2l, 1), (30, .invokestatic 308, 3), (33, .lstore_n 3, 1), (34, .lload_n 3, 1), (35, .aload_n 0, 1), (36, .getfield 10, 3), (39, .getfield 106, 3), (42, .getfield 116, 3), (45, .i2l, 1), (46, .invokestatic 308, 3), (49, .lstore_n 3, 1), (50, .iconst 0, 1), (51, .istore 5, 2), (53, .iload 5, 2), (55, .aload_n 0, 1), (56, .getfield 10, 3), (59, .getfield 106, 3), (62, .getfield 116, 3), (65, .if_icmp .ge 30, 3), (68, .lload_n 3, 1), (69, .aload_n 0, 1), (70, .getfield 10, 3), (73, .getfield 106, 3), (76, .getfield 256, 3), (79, .iload 5, 2), (81, .invokestatic 129, 3), (84, .i2l, 1), (85, .invokestatic 308, 3), (88, .lstore_n 3, 1), (89, .iinc 5 1, 3), (92, .goto (-39), 3), (95, .lload_n 3, 1), (96, .aload_n 0, 1), (97, .getfield 10, 3), (100, .invokevirtual 257, 3), (103, .i2l, 1), (104, .invokestatic 308, 3), (107, .lstore_n 3, 1), (108, .lload_n 3, 1), (109, .aload_n 0, 1), (110, .getfield 10, 3), (113, .getfield 106, 3), (116, .getfield 260, 3), (119, .i2l, 1), (120, .invokestatic 308, 3), (123, .lstore_n 3, 1), (124, .lload_n 3, 1), (125, .aload_n 0, 1), (126, .getfield 10, 3), (129, .getfield 136, 3), (132, .getfield 140, 3), (135, .i2l, 1), (136, .invokestatic 308, 3), (139, .lstore_n 3, 1), (140, .lload_n 3, 1), (141, .aload_n 0, 1), (142, .getfield 10, 3), (145, .getfield 136, 3), (148, .getfield 148, 3), (151, .i2l, 1), (152, .invokestatic 308, 3), (155, .lstore_n 3, 1), (156, .lload_n 3, 1), (157, .aload_n 0, 1), (158, .getfield 10, 3), (161, .getfield 136, 3), (164, .getfield 151, 3), (167, .i2l, 1), (168, .invokestatic 308, 3), (171, .lstore_n 3, 1), (172, .lload_n 3, 1), (173, .aload_n 0, 1), (174, .getfield 10, 3), (177, .getfield 136, 3), (180, .getfield 154, 3), (183, .i2l, 1), (184, .invokestatic 308, 3), (187, .lstore_n 3, 1), (188, .lload_n 3, 1), (189, .aload_n 0, 1), (190, .getfield 10, 3), (193, .getfield 136, 3), (196, .getfield 157, 3), (199, .i2l, 1), (200, .invokestatic 308, 3), (203, .lreturn, 1)]
def qa_mX9_mixLoading : qa_M := (yX9_mixLoading, cX9_mixLoading, 6, (some .long), 9, qa_iX9_mixLoading, 2, 2, 2, 43, [], 581, 580, 2)
def qa_iX9_mixAccounts : List (Nat × Instr × Nat) := [(0, .lload_n 1, 1), (1, .aload_n 0, 1), (2, .getfield 10, 3), (5, .getfield 275, 3), (8, .getfield 279, 3), (11, .i2l, 1), (12, .invokestatic 308, 3), (15, .lstore_n 3, 1), (16, .lload_n 3, 1), (17, .aload_n 0, 1), (18, .getfield 10, 3), (21, .getfield 275, 3), (24, .getfield 284, 3), (27, .i2l, 1), (28, .invokestatic 308, 3), (31, .lstore_n 3, 1), (32, .lload_n 3, 1), (33, .aload_n 0, 1), (34, .getfield 10, 3), (37, .getfield 275, 3), (40, .getfield 287, 3), (43, .i2l, 1), (44, .invokestatic 308, 3), (47, .lstore_n 3, 1), (48, .lload_n 3, 1), (49, .aload_n 0, 1), (50, .getfield 10, 3), (53, .getfield 275, 3), (56, .getfield 290, 3), (59, .i2l, 1), (60, .invokestatic 308, 3), (63, .lstore_n 3, 1), (64, .lload_n 3, 1), (65, .aload_n 0, 1), (66, .getfield 10, 3), (69, .getfield 275, 3), (72, .getfield 293, 3), (75, .i2l, 1), (76, .invokestatic 308, 3), (79, .lstore_n 3, 1), (80, .lload_n 3, 1), (81, .aload_n 0, 1), (82, .getfield 10, 3), (85, .getfield 275, 3), (88, .getfield 296, 3), (91, .i2l, 1), (92, .invokestatic 308, 3), (95, .lstore_n 3, 1), (96, .lload_n 3, 1), (97, .aload_n 0, 1), (98, .getfield 10, 3), (101, .getfield 275, 3), (104, .getfield 299, 3), (107, .i2l, 1), (108, .invokestatic 308, 3), (111, .lstore_n 3, 1), (112, .lload_n 3, 1), (113, .aload_n 0, 1), (114, .getfield 22, 3), (117, .getfield 194, 3), (120, .i2l, 1), (121, .invokestatic 308, 3), (124, .lstore_n 3, 1), (125, .lload_n 3, 1), (126, .aload_n 0, 1), (127, .getfield 10, 3), (130, .getfield 275, 3), (133, .invokevirtual 302, 3), (136, .invokestatic 331, 3), (139, .invokestatic 308, 3), (142, .lreturn, 1)]
def qa_mX9_mixAccounts : qa_M := (yX9_mixAccounts, cX9_mixAccounts, 5, (some .long), 9, qa_iX9_mixAccounts, 2, 2, 1, 26, [], 711, 710, 4)
def qa_iX9_bitsOfShare : List (Nat × Instr × Nat) := [(0, .dload_n 0, 1), (1, .dconst 0, 1), (2, .dcmp .l, 1), (3, .ifCond .gt 5, 3), (6, .lconst 0, 1), (7, .lreturn, 1), (8, .dload_n 0, 1), (9, .dstore_n 2, 1), (10, .sipush 1023, 3), (13, .istore 4, 2), (15, .dload_n 2, 1), (16, .dconst 1, 1), (17, .dcmp .g, 1), (18, .ifCond .ge 21, 3), (21, .iload 4, 2), (23, .iconst 1, 1), (24, .if_icmp .le 15, 3), (27, .dload_n 2, 1), (28, .ldc2_w 335, 3), (31, .dmul, 1), (32, .dstore_n 2, 1), (33, .iinc 4 (-1), 3), (36, .goto (-21), 3), (39, .dload_n 2, 1), (40, .dconst 1, 1), (41, .dsub, 1), (42, .ldc2_w 337, 3), (45, .dmul, 1), (46, .d2l, 1), (47, .lstore 5, 2), (49, .iload 4, 2), (51, .i2l, 1), (52, .bipush 52, 2), (54, .lshl, 1), (55, .lload 5, 2), (57, .ladd, 1), (58, .lreturn, 1)]
def qa_mX9_bitsOfShare : qa_M := (yX9_bitsOfShare, cX9_bitsOfShare, 7, (some .long), 9, qa_iX9_bitsOfShare, 1, 1, 0, 0, [], 714, 713, 0)
def qa_iX9_waitOnTrial : List (Nat × Instr × Nat) := [(0, .aload_n 0, 1), (1, .getfield 16, 3), (4, .aload_n 0, 1), (5, .getfield 10, 3), (8, .invokevirtual 172, 3), (11, .iconst 1, 1), (12, .istore_n 1, 1), (13, .iload_n 1, 1), (14, .sipush 1000, 3), (17, .if_icmp .ge 21, 3), (20, .aload_n 0, 1), (21, .getfield 16, 3), (24, .invokevirtual 339, 3), (27, .ifCond .le 5, 3), (30, .iload_n 1, 1), (31, .ireturn, 1), (32, .iinc 1 1, 3), (35, .goto (-22), 3), (38, .sipush 1000, 3), (41, .ireturn, 1)]
def qa_mX9_waitOnTrial : qa_M := (yX9_waitOnTrial, cX9_waitOnTrial, 2, (some .int), 9, qa_iX9_waitOnTrial, 1, 2, 6, 133, [], 585, 584, 3)
def qa_iX9_missesOnTrial : List (Nat × Instr × Nat) := [(0, .aload_n 0, 1), (1, .getfield 16, 3), (4, .aload_n 0, 1), (5, .getfield 10, 3), (8, .invokevirtual 172, 3), (11, .aload_n 0, 1), (12, .getfield 16, 3), (15, .getfield 136, 3), (18, .iload_n 1, 1), (19, .putfield 151, 3), (22, .aload_n 0, 1), (23, .getfield 16, 3), (26, .getfield 136, 3), (29, .iconst 0, 1), (30, .putfield 157, 3), (33, .iconst 0, 1), (34, .istore_n 2, 1), (35, .iconst 0, 1), (36, .istore_n 3, 1), (37, .iload_n 3, 1), (38, .aload_n 0, 1), (39, .getfield 10, 3), (42, .getfield 73, 3), (45, .getfield 77, 3), (48, .if_icmp .ge 92, 3), (51, .aload_n 0, 1), (52, .getfield 16, 3), (55, .invokevirtual 100, 3), (58, .ifCond .ne 6, 3), (61, .iinc 2 1, 3), (64, .aload_n 0, 1), (65, .getfield 16, 3), (68, .invokevirtual 70, 3), (71, .iconst 0, 1), (72, .istore 4, 2), (74, .aload_n 0, 1), (75, .getfield 16, 3), (78, .getfield 208, 3), (81, .getfield 244, 3), (84, .iconst (-1), 1), (85, .if_icmp .eq 25, 3), (88, .iload 4, 2), (90, .sipush 1000, 3), (93, .if_icmp .ge 17, 3), (96, .aload_n 0, 1), (97, .getfield 16, 3), (100, .invokevirtual 339, 3), (103, .pop, 1), (104, .iinc 4 1, 3), (107, .goto (-33), 3), (110, .iconst 0, 1), (111, .istore 4, 2), (113, .iload 4, 2), (115, .bipush 10, 2), (117, .if_icmp .ge 17, 3), (120, .aload_n 0, 1), (121, .getfield 16, 3), (124, .invokevirtual 339, 3), (127, .pop, 1), (128, .iinc 4 1, 3), (131, .goto (-18), 3), (134, .iinc 3 1, 3), (137, .goto (-100), 3), (140, .iload_n 2, 1), (141, .ireturn, 1)]
def qa_mX9_missesOnTrial : qa_M := (yX9_missesOnTrial, cX9_missesOnTrial, 5, (some .int), 9, qa_iX9_missesOnTrial, 2, 2, 6, 133, [], 1189, 1188, 7)
def qa_iX9_hasSnapshot : List (Nat × Instr × Nat) := [(0, .iload_n 1, 1), (1, .ifCond .lt 25, 3), (4, .iload_n 1, 1), (5, .aload_n 0, 1), (6, .getfield 30, 3), (9, .arraylength, 1), (10, .if_icmp .ge 16, 3), (13, .aload_n 0, 1), (14, .getfield 30, 3), (17, .iload_n 1, 1), (18, .baload, 1), (19, .ifCond .eq 7, 3), (22, .iconst 1, 1), (23, .goto 4, 3), (26, .iconst 0, 1), (27, .ireturn, 1)]
def qa_mX9_hasSnapshot : qa_M := (yX9_hasSnapshot, cX9_hasSnapshot, 2, (some .boolean), 9, qa_iX9_hasSnapshot, 2, 2, 0, 0, [], 720, 719, 5)
def qa_iX9_needArgument : List (Nat × Instr × Nat) := [(0, .iload_n 0, 1), (1, .ifCond .ne 11, 3), (4, .new 342, 3), (7, .dup, 1), (8, .invokespecial 344, 3), (11, .athrow, 1), (12, .return_, 1)]
def qa_mX9_needArgument : qa_M := (yX9_needArgument, cX9_needArgument, 1, none, 9, qa_iX9_needArgument, 1, 1, 6, 90, [], 735, 734, 0)
def qa_iX9_needIndex : List (Nat × Instr × Nat) := [(0, .iload_n 0, 1), (1, .ifCond .ne 11, 3), (4, .new 345, 3), (7, .dup, 1), (8, .invokespecial 347, 3), (11, .athrow, 1), (12, .return_, 1)]
def qa_mX9_needIndex : qa_M := (yX9_needIndex, cX9_needIndex, 1, none, 9, qa_iX9_needIndex, 1, 1, 6, 90, [], 841, 840, 0)
def qa_iX9_needState : List (Nat × Instr × Nat) := [(0, .iload_n 0, 1), (1, .ifCond .ne 11, 3), (4, .new 348, 3), (7, .dup, 1), (8, .invokespecial 350, 3), (11, .athrow, 1), (12, .return_, 1)]
def qa_mX9_needState : qa_M := (yX9_needState, cX9_needState, 1, none, 9, qa_iX9_needState, 1, 1, 6, 90, [], 801, 800, 0)
def qa_iX9_isWithin : List (Nat × Instr × Nat) := [(0, .iload_n 0, 1), (1, .iload_n 1, 1), (2, .if_icmp .lt 12, 3), (5, .iload_n 0, 1), (6, .iload_n 2, 1), (7, .if_icmp .gt 7, 3), (10, .iconst 1, 1), (11, .goto 4, 3), (14, .iconst 0, 1), (15, .ireturn, 1)]
def qa_mX9_isWithin : qa_M := (yX9_isWithin, cX9_isWithin, 3, (some .boolean), 9, qa_iX9_isWithin, 3, 1, 0, 0, [], 732, 731, 0)
def qa_iX9_at : List (Nat × Instr × Nat) := [(0, .iload_n 1, 1), (1, .ifCond .lt 15, 3), (4, .iload_n 1, 1), (5, .aload_n 0, 1), (6, .arraylength, 1), (7, .if_icmp .ge 9, 3), (10, .aload_n 0, 1), (11, .iload_n 1, 1), (12, .iaload, 1), (13, .goto 4, 3), (16, .iconst 0, 1), (17, .ireturn, 1)]
def qa_mX9_at : qa_M := (yX9_at, cX9_at, 2, (some .int), 9, qa_iX9_at, 2, 1, 0, 0, [], 403, 402, 0)
def qa_iX9_set : List (Nat × Instr × Nat) := [(0, .iload_n 1, 1), (1, .ifCond .lt 13, 3), (4, .iload_n 1, 1), (5, .aload_n 0, 1), (6, .arraylength, 1), (7, .if_icmp .ge 7, 3), (10, .aload_n 0, 1), (11, .iload_n 1, 1), (12, .iload_n 2, 1), (13, .iastore, 1), (14, .return_, 1)]
def qa_mX9_set : qa_M := (yX9_set, cX9_set, 3, none, 9, qa_iX9_set, 3, 1, 0, 0, [], 559, 558, 0)
def qa_iX9_copyRow : List (Nat × Instr × Nat) := [(0, .iconst 0, 1), (1, .istore_n 2, 1), (2, .iload_n 2, 1), (3, .aload_n 0, 1), (4, .arraylength, 1), (5, .if_icmp .ge 21, 3), (8, .iload_n 2, 1), (9, .aload_n 1, 1), (10, .arraylength, 1), (11, .if_icmp .ge 15, 3), (14, .aload_n 1, 1), (15, .iload_n 2, 1), (16, .aload_n 0, 1), (17, .iload_n 2, 1), (18, .iaload, 1), (19, .iastore, 1), (20, .iinc 2 1, 3), (23, .goto (-21), 3), (26, .return_, 1)]
def qa_mX9_copyRow : qa_M := (yX9_copyRow, cX9_copyRow, 3, none, 9, qa_iX9_copyRow, 2, 1, 0, 0, [], 596, 595, 0)
def qa_iX10_init : List (Nat × Instr × Nat) := [(0, .aload_n 0, 1), (1, .invokespecial 1, 3), (4, .aload_n 0, 1), (5, .sipush 176, 3), (8, .newarray .int, 2), (10, .putfield 7, 3), (13, .aload_n 0, 1), (14, .sipush 1056, 3), (17, .newarray .int, 2), (19, .putfield 13, 3), (22, .aload_n 0, 1), (23, .sipush 352, 3), (26, .newarray .int, 2), (28, .putfield 16, 3), (31, .aload_n 0, 1), (32, .iconst 2, 1), (33, .newarray .boolean, 2), (35, .putfield 19, 3), (38, .aload_n 0, 1), (39, .sipush 176, 3), (42, .newarray .int, 2), (44, .putfield 23, 3), (47, .aload_n 0, 1), (48, .sipush 176, 3), (51, .newarray .int, 2), (53, .putfield 26, 3), (56, .aload_n 0, 1), (57, .bipush 60, 2), (59, .newarray .int, 2), (61, .putfield 29, 3), (64, .aload_n 0, 1), (65, .getfield 7, 3), (68, .sipush 138, 3), (71, .iconst (-1), 1), (72, .iastore, 1), (73, .aload_n 0, 1), (74, .getfield 7, 3), (77, .sipush 139, 3), (80, .iconst (-1), 1), (81, .iastore, 1), (82, .aload_n 0, 1), (83, .getfield 7, 3), (86, .sipush 140, 3), (89, .iconst (-1), 1), (90, .iastore, 1), (91, .aload_n 0, 1), (92, .getfield 7, 3), (95, .sipush 142, 3), (98, .iconst (-1), 1), (99, .iastore, 1), (100, .aload_n 0, 1), (101, .getfield 7, 3), (104, .sipush 144, 3), (107, .iconst (-1), 1), (108, .iastore, 1), (109, .aload_n 0, 1), (110, .getfield 7, 3), (113, .sipush 163, 3), (116, .sipush 150, 3), (119, .iastore, 1), (120, .aload_n 0, 1), (121, .getfield 7, 3), (124, .sipush 164, 3), (127, .iconst 1, 1), (128, .iastore, 1), (129, .aload_n 0, 1), (130, .getfield 7, 3), (133, .sipush 166, 3), (136, .iconst 5, 1), (137, .iastore, 1), (138, .return_, 1)]
def qa_mX10_init : qa_M := (yX10_init, cX10_init, 1, none, 10, qa_iX10_init, 1, 0, 1, 20, [], 1201, 1200, 0)
def qa_iX10_thrown : List (Nat × Instr × Nat) := [(0, .aload_n 0, 1), (1, .getfield 32, 3), (4, .ireturn, 1)]
def qa_mX10_thrown : qa_M := (yX10_thrown, cX10_thrown, 1, (some .int), 10, qa_iX10_thrown, 1, 2, 0, 0, [], 1252, 1250, 1251)
def qa_iX10_throwing : List (Nat × Instr × Nat) := [(0, .aload_n 0, 1), (1, .iload_n 1, 1), (2, .putfield 32, 3), (5, .iconst 0, 1), (6, .ireturn, 1)]
def qa_mX10_throwing : qa_M := (yX10_throwing, cX10_throwing, 2, (some .int), 10, qa_iX10_throwing, 2, 2, 0, 0, [], 1263, 1262, 8)
def qa_iX10_in : List (Nat × Instr × Nat) := [(0, .iload_n 0, 1), (1, .iload_n 1, 1), (2, .if_icmp .lt 12, 3), (5, .iload_n 0, 1), (6, .iload_n 2, 1), (7, .if_icmp .gt 7, 3), (10, .iconst 1, 1), (11, .goto 4, 3), (14, .iconst 0, 1), (15, .ireturn, 1)]
def qa_mX10_in : qa_M := (yX10_in, cX10_in, 3, (some .boolean), 10, qa_iX10_in, 3, 1, 0, 0, [], 1259, 1258, 0)
def qa_iX10_save : List (Nat × Instr × Nat) := [(0, .aload_n 0, 1), (1, .getfield 36, 3), (4, .bipush 6, 2), (6, .if_icmp .ne 44, 3), (9, .iconst 0, 1), (10, .istore_n 1, 1), (11, .iload_n 1, 1), (12, .sipush 880, 3), (15, .if_icmp .ge 25, 3), (18, .aload_n 0, 1), (19, .getfield 13, 3), (22, .iload_n 1, 1), (23, .aload_n 0, 1), (24, .getfield 13, 3), (27, .sipush 176, 3), (30, .iload_n 1, 1), (31, .iadd, 1), (32, .iaload, 1), (33, .iastore, 1), (34, .iinc 1 1, 3), (37, .goto (-26), 3), (40, .aload_n 0, 1), (41, .dup, 1), (42, .getfield 36, 3), (45, .iconst 1, 1), (46, .isub, 1), (47, .putfield 36, 3), (50, .iconst 0, 1), (51, .istore_n 1, 1), (52, .iload_n 1, 1), (53, .sipush 176, 3), (56, .if_icmp .ge 30, 3), (59, .aload_n 0, 1), (60, .getfield 13, 3), (63, .sipush 176, 3), (66, .aload_n 0, 1), (67, .getfield 36, 3), (70, .imul, 1), (71, .iload_n 1, 1), (72, .iadd, 1), (73, .aload_n 0, 1), (74, .getfield 7, 3), (77, .iload_n 1, 1), (78, .iaload, 1), (79, .iastore, 1), (80, .iinc 1 1, 3), (83, .goto (-31), 3), (86, .aload_n 0, 1), (87, .dup, 1), (88, .getfield 36, 3), (91, .iconst 1, 1), (92, .iadd, 1), (93, .putfield 36, 3), (96, .return_, 1)]
def qa_mX10_save : qa_M := (yX10_save, cX10_save, 2, none, 10, qa_iX10_save, 1, 2, 0, 0, [], 1267, 1266, 9)
def qa_iX10_of : List (Nat × Instr × Nat) := [(0, .aload_n 0, 1), (1, .getfield 7, 3), (4, .iconst 1, 1), (5, .bipush 7, 2), (7, .iload_n 1, 1), (8, .imul, 1), (9, .iadd, 1), (10, .iload_n 2, 1), (11, .iadd, 1), (12, .iaload, 1), (13, .ireturn, 1)]
def qa_mX10_of : qa_M := (yX10_of, cX10_of, 3, (some .int), 10, qa_iX10_of, 3, 2, 0, 0, [], 1295, 1294, 15)
def qa_iX10_lay : List (Nat × Instr × Nat) := [(0, .aload_n 0, 1), (1, .getfield 7, 3), (4, .iconst 1, 1), (5, .bipush 7, 2), (7, .iload_n 1, 1), (8, .imul, 1), (9, .iadd, 1), (10, .iload_n 2, 1), (11, .iadd, 1), (12, .iload_n 3, 1), (13, .iastore, 1), (14, .return_, 1)]
def qa_mX10_lay : qa_M := (yX10_lay, cX10_lay, 4, none, 10, qa_iX10_lay, 4, 2, 0, 0, [], 1271, 1270, 10)
def qa_iX10_isThere : List (Nat × Instr × Nat) := [(0, .aload_n 0, 1), (1, .iload_n 1, 1), (2, .iconst 0, 1), (3, .aload_n 0, 1), (4, .getfield 7, 3), (7, .iconst 0, 1), (8, .iaload, 1), (9, .iconst 1, 1), (10, .isub, 1), (11, .invokestatic 39, 3), (14, .ifCond .eq 7, 3), (17, .iconst 0, 1), (18, .goto 4, 3), (21, .iconst 1, 1), (22, .putfield 32, 3), (25, .aload_n 0, 1), (26, .getfield 32, 3), (29, .ifCond .ne 7, 3), (32, .iconst 1, 1), (33, .goto 4, 3), (36, .iconst 0, 1), (37, .ireturn, 1)]
def qa_mX10_isThere : qa_M := (yX10_isThere, cX10_isThere, 2, (some .boolean), 10, qa_iX10_isThere, 2, 2, 1, 22, [], 1279, 1278, 11)
def qa_iX10_loaded : List (Nat × Instr × Nat) := [(0, .aload_n 0, 1), (1, .iload_n 1, 1), (2, .iconst 3, 1), (3, .invokevirtual 43, 3), (6, .iconst 1, 1), (7, .if_icmp .ne 7, 3), (10, .iconst 1, 1), (11, .goto 4, 3), (14, .iconst 0, 1), (15, .ireturn, 1)]
def qa_mX10_loaded : qa_M := (yX10_loaded, cX10_loaded, 2, (some .boolean), 10, qa_iX10_loaded, 2, 2, 1, 22, [], 1307, 1306, 18)
def qa_iX10_onShow : List (Nat × Instr × Nat) := [(0, .iload_n 1, 1), (1, .aload_n 0, 1), (2, .getfield 7, 3), (5, .sipush 139, 3), (8, .iaload, 1), (9, .if_icmp .eq 15, 3), (12, .iload_n 1, 1), (13, .aload_n 0, 1), (14, .getfield 7, 3), (17, .sipush 140, 3), (20, .iaload, 1), (21, .if_icmp .ne 7, 3), (24, .iconst 1, 1), (25, .goto 4, 3), (28, .iconst 0, 1), (29, .ireturn, 1)]
def qa_mX10_onShow : qa_M := (yX10_onShow, cX10_onShow, 2, (some .boolean), 10, qa_iX10_onShow, 2, 2, 0, 0, [], 1319, 1318, 21)
def qa_iX10_taken : List (Nat × Instr × Nat) := [(0, .iconst 0, 1), (1, .istore_n 1, 1), (2, .iconst 0, 1), (3, .istore_n 2, 1), (4, .iload_n 2, 1), (5, .aload_n 0, 1), (6, .getfield 7, 3), (9, .iconst 0, 1), (10, .iaload, 1), (11, .if_icmp .ge 42, 3), (14, .iload_n 1, 1), (15, .aload_n 0, 1), (16, .iload_n 2, 1), (17, .invokevirtual 47, 3), (20, .ifCond .ne 15, 3), (23, .aload_n 0, 1), (24, .getfield 7, 3), (27, .sipush 144, 3), (30, .iaload, 1), (31, .iload_n 2, 1), (32, .if_icmp .ne 12, 3), (35, .aload_n 0, 1), (36, .iload_n 2, 1), (37, .iconst 0, 1), (38, .invokevirtual 43, 3), (41, .goto 4, 3), (44, .iconst 0, 1), (45, .iadd, 1), (46, .istore_n 1, 1), (47, .iinc 2 1, 3), (50, .goto (-46), 3), (53, .iload_n 1, 1), (54, .ireturn, 1)]
def qa_mX10_taken : qa_M := (yX10_taken, cX10_taken, 3, (some .int), 10, qa_iX10_taken, 1, 2, 2, 43, [], 1303, 1302, 17)
def qa_iX10_nextOf : List (Nat × Instr × Nat) := [(0, .iconst 1, 1), (1, .istore_n 2, 1), (2, .iload_n 2, 1), (3, .aload_n 0, 1), (4, .getfield 7, 3), (7, .bipush 113, 2), (9, .iaload, 1), (10, .if_icmp .gt 41, 3), (13, .aload_n 0, 1), (14, .getfield 7, 3), (17, .bipush 114, 2), (19, .aload_n 0, 1), (20, .getfield 7, 3), (23, .sipush 138, 3), (26, .iaload, 1), (27, .iload_n 2, 1), (28, .iadd, 1), (29, .aload_n 0, 1), (30, .getfield 7, 3), (33, .bipush 113, 2), (35, .iaload, 1), (36, .irem, 1), (37, .iadd, 1), (38, .iaload, 1), (39, .iload_n 1, 1), (40, .if_icmp .ne 5, 3), (43, .iload_n 2, 1), (44, .ireturn, 1), (45, .iinc 2 1, 3), (48, .goto (-46), 3), (51, .bipush 25, 2), (53, .ireturn, 1)]
def qa_mX10_nextOf : qa_M := (yX10_nextOf, cX10_nextOf, 3, (some .int), 10, qa_iX10_nextOf, 2, 2, 0, 0, [], 1327, 1326, 23)
def qa_iX10_isFirst : List (Nat × Instr × Nat) := [(0, .aload_n 0, 1), (1, .getfield 7, 3), (4, .sipush 165, 3), (7, .iaload, 1), (8, .ifCond .ne 21, 3), (11, .aload_n 0, 1), (12, .iload_n 2, 1), (13, .bipush 6, 2), (15, .invokevirtual 43, 3), (18, .aload_n 0, 1), (19, .iload_n 1, 1), (20, .bipush 6, 2), (22, .invokevirtual 43, 3), (25, .isub, 1), (26, .goto 42, 3), (29, .aload_n 0, 1), (30, .getfield 7, 3), (33, .sipush 165, 3), (36, .iaload, 1), (37, .iconst 1, 1), (38, .if_icmp .ne 19, 3), (41, .aload_n 0, 1), (42, .iload_n 1, 1), (43, .iconst 0, 1), (44, .invokevirtual 43, 3), (47, .aload_n 0, 1), (48, .iload_n 2, 1), (49, .iconst 0, 1), (50, .invokevirtual 43, 3), (53, .isub, 1), (54, .goto 14, 3), (57, .aload_n 0, 1), (58, .iload_n 1, 1), (59, .invokevirtual 51, 3), (62, .aload_n 0, 1), (63, .iload_n 2, 1), (64, .invokevirtual 51, 3), (67, .isub, 1), (68, .istore_n 3, 1), (69, .iload_n 3, 1), (70, .ifCond .gt 12, 3), (73, .iload_n 3, 1), (74, .ifCond .ne 12, 3), (77, .iload_n 1, 1), (78, .iload_n 2, 1), (79, .if_icmp .ge 7, 3), (82, .iconst 1, 1), (83, .goto 4, 3), (86, .iconst 0, 1), (87, .ireturn, 1)]
def qa_mX10_isFirst : qa_M := (yX10_isFirst, cX10_isFirst, 4, (some .boolean), 10, qa_iX10_isFirst, 3, 2, 1, 22, [], 1323, 1322, 22)
def qa_iX10_canBurn : List (Nat × Instr × Nat) := [(0, .aload_n 0, 1), (1, .iload_n 1, 1), (2, .invokevirtual 47, 3), (5, .ifCond .eq 15, 3), (8, .aload_n 0, 1), (9, .iload_n 1, 1), (10, .invokevirtual 55, 3), (13, .ifCond .ne 7, 3), (16, .iconst 1, 1), (17, .goto 4, 3), (20, .iconst 0, 1), (21, .ireturn, 1)]
def qa_mX10_canBurn : qa_M := (yX10_canBurn, cX10_canBurn, 2, (some .boolean), 10, qa_iX10_canBurn, 2, 2, 2, 43, [], 1315, 1314, 20)
def qa_iX10_nextToBurn : List (Nat × Instr × Nat) := [(0, .iconst (-1), 1), (1, .istore_n 1, 1), (2, .iconst 0, 1), (3, .istore_n 2, 1), (4, .iload_n 2, 1), (5, .aload_n 0, 1), (6, .getfield 7, 3), (9, .iconst 0, 1), (10, .iaload, 1), (11, .if_icmp .ge 37, 3), (14, .aload_n 0, 1), (15, .iload_n 2, 1), (16, .invokevirtual 58, 3), (19, .ifCond .eq 21, 3), (22, .iload_n 1, 1), (23, .iconst (-1), 1), (24, .if_icmp .eq 12, 3), (27, .aload_n 0, 1), (28, .iload_n 2, 1), (29, .iload_n 1, 1), (30, .invokevirtual 61, 3), (33, .ifCond .eq 7, 3), (36, .iload_n 2, 1), (37, .goto 4, 3), (40, .iload_n 1, 1), (41, .istore_n 1, 1), (42, .iinc 2 1, 3), (45, .goto (-41), 3), (48, .iload_n 1, 1), (49, .ireturn, 1)]
def qa_mX10_nextToBurn : qa_M := (yX10_nextToBurn, cX10_nextToBurn, 3, (some .int), 10, qa_iX10_nextToBurn, 1, 2, 3, 64, [], 1311, 1310, 19)
def qa_iX10_burns : List (Nat × Instr × Nat) := [(0, .aload_n 0, 1), (1, .iload_n 1, 1), (2, .iconst 3, 1), (3, .iconst 0, 1), (4, .invokevirtual 65, 3), (7, .aload_n 0, 1), (8, .iload_n 1, 1), (9, .iconst 4, 1), (10, .aload_n 0, 1), (11, .getfield 7, 3), (14, .sipush 166, 3), (17, .iaload, 1), (18, .invokevirtual 65, 3), (21, .aload_n 0, 1), (22, .iload_n 1, 1), (23, .iconst 5, 1), (24, .aload_n 0, 1), (25, .iload_n 1, 1), (26, .iconst 5, 1), (27, .invokevirtual 43, 3), (30, .iconst 1, 1), (31, .iadd, 1), (32, .invokevirtual 65, 3), (35, .aload_n 0, 1), (36, .getfield 7, 3), (39, .sipush 173, 3), (42, .dup2, 1), (43, .iaload, 1), (44, .iconst 1, 1), (45, .iadd, 1), (46, .iastore, 1), (47, .aload_n 0, 1), (48, .iload_n 1, 1), (49, .iconst 0, 1), (50, .invokevirtual 43, 3), (53, .ireturn, 1)]
def qa_mX10_burns : qa_M := (yX10_burns, cX10_burns, 2, (some .int), 10, qa_iX10_burns, 2, 2, 1, 23, [], 1331, 1330, 24)
def qa_iX10_makesRoom : List (Nat × Instr × Nat) := [(0, .iconst 0, 1), (1, .istore_n 2, 1), (2, .aload_n 0, 1), (3, .invokevirtual 69, 3), (6, .iload_n 1, 1), (7, .iadd, 1), (8, .aload_n 0, 1), (9, .getfield 7, 3), (12, .sipush 163, 3), (15, .iaload, 1), (16, .if_icmp .le 26, 3), (19, .aload_n 0, 1), (20, .invokevirtual 73, 3), (23, .iconst (-1), 1), (24, .if_icmp .eq 18, 3), (27, .aload_n 0, 1), (28, .aload_n 0, 1), (29, .invokevirtual 73, 3), (32, .invokevirtual 76, 3), (35, .istore_n 3, 1), (36, .iinc 2 1, 3), (39, .goto (-37), 3), (42, .iload_n 2, 1), (43, .ireturn, 1)]
def qa_mX10_makesRoom : qa_M := (yX10_makesRoom, cX10_makesRoom, 4, (some .int), 10, qa_iX10_makesRoom, 2, 2, 4, 86, [], 1299, 1298, 16)
def qa_iX10_due : List (Nat × Instr × Nat) := [(0, .aload_n 0, 1), (1, .iload_n 1, 1), (2, .iconst 4, 1), (3, .invokevirtual 43, 3), (6, .ifCond .le 16, 3), (9, .aload_n 0, 1), (10, .iload_n 1, 1), (11, .iconst 1, 1), (12, .invokevirtual 43, 3), (15, .iconst 1, 1), (16, .iadd, 1), (17, .iconst 2, 1), (18, .idiv, 1), (19, .goto 9, 3), (22, .aload_n 0, 1), (23, .iload_n 1, 1), (24, .iconst 1, 1), (25, .invokevirtual 43, 3), (28, .ireturn, 1)]
def qa_mX10_due : qa_M := (yX10_due, cX10_due, 2, (some .int), 10, qa_iX10_due, 2, 2, 1, 22, [], 1335, 1334, 25)
def qa_iX10_starts : List (Nat × Instr × Nat) := [(0, .aload_n 0, 1), (1, .aload_n 0, 1), (2, .iload_n 1, 1), (3, .iconst 0, 1), (4, .invokevirtual 43, 3), (7, .invokevirtual 79, 3), (10, .istore_n 2, 1), (11, .aload_n 0, 1), (12, .getfield 7, 3), (15, .sipush 144, 3), (18, .iload_n 1, 1), (19, .iastore, 1), (20, .aload_n 0, 1), (21, .getfield 7, 3), (24, .sipush 145, 3), (27, .aload_n 0, 1), (28, .iload_n 1, 1), (29, .invokevirtual 82, 3), (32, .iastore, 1), (33, .aload_n 0, 1), (34, .getfield 7, 3), (37, .sipush 171, 3), (40, .dup2, 1), (41, .iaload, 1), (42, .iconst 1, 1), (43, .iadd, 1), (44, .iastore, 1), (45, .aload_n 0, 1), (46, .getfield 7, 3), (49, .sipush 172, 3), (52, .dup2, 1), (53, .iaload, 1), (54, .aload_n 0, 1), (55, .iload_n 1, 1), (56, .iconst 4, 1), (57, .invokevirtual 43, 3), (60, .ifCond .le 7, 3), (63, .iconst 1, 1), (64, .goto 4, 3), (67, .iconst 0, 1), (68, .iadd, 1), (69, .iastore, 1), (70, .aload_n 0, 1), (71, .iload_n 1, 1), (72, .iconst 4, 1), (73, .iconst 0, 1), (74, .invokevirtual 65, 3), (77, .return_, 1)]
def qa_mX10_starts : qa_M := (yX10_starts, cX10_starts, 3, none, 10, qa_iX10_starts, 2, 2, 5, 109, [], 1291, 1290, 14)
def qa_iX10_forgets : List (Nat × Instr × Nat) := [(0, .iconst 0, 1), (1, .istore_n 2, 1), (2, .iconst 0, 1), (3, .istore_n 3, 1), (4, .iload_n 3, 1), (5, .aload_n 0, 1), (6, .getfield 7, 3), (9, .sipush 146, 3), (12, .iaload, 1), (13, .if_icmp .ge 46, 3), (16, .aload_n 0, 1), (17, .getfield 7, 3), (20, .sipush 147, 3), (23, .iload_n 3, 1), (24, .iadd, 1), (25, .iaload, 1), (26, .iload_n 1, 1), (27, .if_icmp .eq 26, 3), (30, .aload_n 0, 1), (31, .getfield 7, 3), (34, .sipush 147, 3), (37, .iload_n 2, 1), (38, .iadd, 1), (39, .aload_n 0, 1), (40, .getfield 7, 3), (43, .sipush 147, 3), (46, .iload_n 3, 1), (47, .iadd, 1), (48, .iaload, 1), (49, .iastore, 1), (50, .iinc 2 1, 3), (53, .iinc 3 1, 3), (56, .goto (-52), 3), (59, .iload_n 2, 1), (60, .istore_n 3, 1), (61, .iload_n 3, 1), (62, .aload_n 0, 1), (63, .getfield 7, 3), (66, .sipush 146, 3), (69, .iaload, 1), (70, .if_icmp .ge 20, 3), (73, .aload_n 0, 1), (74, .getfield 7, 3), (77, .sipush 147, 3), (80, .iload_n 3, 1), (81, .iadd, 1), (82, .iconst 0, 1), (83, .iastore, 1), (84, .iinc 3 1, 3), (87, .goto (-26), 3), (90, .aload_n 0, 1), (91, .getfield 7, 3), (94, .sipush 146, 3), (97, .iload_n 2, 1), (98, .iastore, 1), (99, .return_, 1)]
def qa_mX10_forgets : qa_M := (yX10_forgets, cX10_forgets, 4, none, 10, qa_iX10_forgets, 2, 2, 0, 0, [], 1339, 1338, 26)
def qa_iX10_begins : List (Nat × Instr × Nat) := [(0, .aload_n 0, 1), (1, .getfield 7, 3), (4, .sipush 144, 3), (7, .iaload, 1), (8, .iconst (-1), 1), (9, .if_icmp .eq 4, 3), (12, .return_, 1), (13, .aload_n 0, 1), (14, .getfield 7, 3), (17, .sipush 142, 3), (20, .iaload, 1), (21, .iconst (-1), 1), (22, .if_icmp .eq 18, 3), (25, .aload_n 0, 1), (26, .aload_n 0, 1), (27, .getfield 7, 3), (30, .sipush 142, 3), (33, .iaload, 1), (34, .invokevirtual 85, 3), (37, .goto 146, 3), (40, .aload_n 0, 1), (41, .getfield 7, 3), (44, .sipush 146, 3), (47, .iaload, 1), (48, .ifCond .le 25, 3), (51, .aload_n 0, 1), (52, .getfield 7, 3), (55, .sipush 147, 3), (58, .iaload, 1), (59, .istore_n 1, 1), (60, .aload_n 0, 1), (61, .iload_n 1, 1), (62, .invokevirtual 89, 3), (65, .aload_n 0, 1), (66, .iload_n 1, 1), (67, .invokevirtual 85, 3), (70, .goto 113, 3), (73, .iconst (-1), 1), (74, .istore_n 1, 1), (75, .iconst 1, 1), (76, .istore_n 2, 1), (77, .iload_n 2, 1), (78, .aload_n 0, 1), (79, .getfield 7, 3), (82, .sipush 164, 3), (85, .iaload, 1), (86, .if_icmp .gt 65, 3), (89, .aload_n 0, 1), (90, .getfield 7, 3), (93, .bipush 113, 2), (95, .iaload, 1), (96, .ifCond .le 55, 3), (99, .iload_n 1, 1), (100, .iconst (-1), 1), (101, .if_icmp .ne 50, 3), (104, .aload_n 0, 1), (105, .getfield 7, 3), (108, .bipush 114, 2), (110, .aload_n 0, 1), (111, .getfield 7, 3), (114, .sipush 138, 3), (117, .iaload, 1), (118, .iload_n 2, 1), (119, .iadd, 1), (120, .aload_n 0, 1), (121, .getfield 7, 3), (124, .bipush 113, 2), (126, .iaload, 1), (127, .irem, 1), (128, .iadd, 1), (129, .iaload, 1), (130, .istore_n 3, 1), (131, .aload_n 0, 1), (132, .iload_n 3, 1), (133, .invokevirtual 47, 3), (136, .ifCond .eq 7, 3), (139, .iconst (-1), 1), (140, .goto 4, 3), (143, .iload_n 3, 1), (144, .istore_n 1, 1), (145, .iinc 2 1, 3), (148, .goto (-71), 3), (151, .iload_n 1, 1), (152, .iconst (-1), 1), (153, .if_icmp .eq 30, 3), (156, .aload_n 0, 1), (157, .invokevirtual 69, 3), (160, .aload_n 0, 1), (161, .iload_n 1, 1), (162, .iconst 0, 1), (163, .invokevirtual 43, 3), (166, .iadd, 1), (167, .aload_n 0, 1), (168, .getfield 7, 3), (171, .sipush 163, 3), (174, .iaload, 1), (175, .if_icmp .gt 8, 3), (178, .aload_n 0, 1), (179, .iload_n 1, 1), (180, .invokevirtual 85, 3), (183, .return_, 1)]
def qa_mX10_begins : qa_M := (yX10_begins, cX10_begins, 4, none, 10, qa_iX10_begins, 1, 2, 6, 131, [], 1287, 1286, 13)
def qa_iX10_uses : List (Nat × Instr × Nat) := [(0, .aload_n 0, 1), (1, .getfield 7, 3), (4, .sipush 175, 3), (7, .dup2, 1), (8, .iaload, 1), (9, .iconst 1, 1), (10, .iadd, 1), (11, .iastore, 1), (12, .aload_n 0, 1), (13, .iload_n 1, 1), (14, .bipush 6, 2), (16, .aload_n 0, 1), (17, .getfield 7, 3), (20, .sipush 175, 3), (23, .iaload, 1), (24, .invokevirtual 65, 3), (27, .return_, 1)]
def qa_mX10_uses : qa_M := (yX10_uses, cX10_uses, 2, none, 10, qa_iX10_uses, 2, 2, 1, 23, [], 1363, 1362, 30)
def qa_iX10_shows : List (Nat × Instr × Nat) := [(0, .aload_n 0, 1), (1, .getfield 7, 3), (4, .sipush 139, 3), (7, .iaload, 1), (8, .iconst (-1), 1), (9, .if_icmp .eq 60, 3), (12, .aload_n 0, 1), (13, .getfield 7, 3), (16, .sipush 139, 3), (19, .iaload, 1), (20, .iload_n 1, 1), (21, .if_icmp .eq 48, 3), (24, .aload_n 0, 1), (25, .getfield 7, 3), (28, .sipush 141, 3), (31, .aload_n 0, 1), (32, .iload_n 1, 1), (33, .iconst 2, 1), (34, .invokevirtual 43, 3), (37, .iastore, 1), (38, .aload_n 0, 1), (39, .getfield 7, 3), (42, .sipush 140, 3), (45, .aload_n 0, 1), (46, .getfield 7, 3), (49, .sipush 141, 3), (52, .iaload, 1), (53, .ifCond .le 14, 3), (56, .aload_n 0, 1), (57, .getfield 7, 3), (60, .sipush 139, 3), (63, .iaload, 1), (64, .goto 4, 3), (67, .iconst (-1), 1), (68, .iastore, 1), (69, .aload_n 0, 1), (70, .getfield 7, 3), (73, .sipush 139, 3), (76, .iload_n 1, 1), (77, .iastore, 1), (78, .aload_n 0, 1), (79, .getfield 7, 3), (82, .sipush 143, 3), (85, .iconst 0, 1), (86, .iastore, 1), (87, .aload_n 0, 1), (88, .getfield 7, 3), (91, .sipush 142, 3), (94, .iconst (-1), 1), (95, .iastore, 1), (96, .aload_n 0, 1), (97, .iload_n 1, 1), (98, .invokevirtual 92, 3), (101, .aload_n 0, 1), (102, .dup, 1), (103, .getfield 95, 3), (106, .iconst 1, 1), (107, .iadd, 1), (108, .putfield 95, 3), (111, .return_, 1)]
def qa_mX10_shows : qa_M := (yX10_shows, cX10_shows, 2, none, 10, qa_iX10_shows, 2, 2, 2, 44, [], 1359, 1358, 29)
def qa_iX10_goesOn : List (Nat × Instr × Nat) := [(0, .aload_n 0, 1), (1, .getfield 7, 3), (4, .sipush 138, 3), (7, .aload_n 0, 1), (8, .getfield 7, 3), (11, .sipush 138, 3), (14, .iaload, 1), (15, .iconst 1, 1), (16, .iadd, 1), (17, .aload_n 0, 1), (18, .getfield 7, 3), (21, .bipush 113, 2), (23, .iaload, 1), (24, .irem, 1), (25, .iastore, 1), (26, .aload_n 0, 1), (27, .getfield 7, 3), (30, .bipush 114, 2), (32, .aload_n 0, 1), (33, .getfield 7, 3), (36, .sipush 138, 3), (39, .iaload, 1), (40, .iadd, 1), (41, .iaload, 1), (42, .istore_n 1, 1), (43, .aload_n 0, 1), (44, .iload_n 1, 1), (45, .invokevirtual 47, 3), (48, .istore_n 2, 1), (49, .iload_n 2, 1), (50, .ifCond .eq 23, 3), (53, .aload_n 0, 1), (54, .getfield 7, 3), (57, .sipush 169, 3), (60, .dup2, 1), (61, .iaload, 1), (62, .iconst 1, 1), (63, .iadd, 1), (64, .iastore, 1), (65, .aload_n 0, 1), (66, .iload_n 1, 1), (67, .invokevirtual 98, 3), (70, .goto 29, 3), (73, .aload_n 0, 1), (74, .getfield 7, 3), (77, .sipush 170, 3), (80, .dup2, 1), (81, .iaload, 1), (82, .iconst 1, 1), (83, .iadd, 1), (84, .iastore, 1), (85, .aload_n 0, 1), (86, .getfield 7, 3), (89, .sipush 142, 3), (92, .iload_n 1, 1), (93, .iastore, 1), (94, .aload_n 0, 1), (95, .iload_n 1, 1), (96, .invokevirtual 89, 3), (99, .iload_n 2, 1), (100, .ireturn, 1)]
def qa_mX10_goesOn : qa_M := (yX10_goesOn, cX10_goesOn, 3, (some .boolean), 10, qa_iX10_goesOn, 1, 2, 3, 65, [], 1355, 1354, 28)
def qa_iX10_ticks : List (Nat × Instr × Nat) := [(0, .aload_n 0, 1), (1, .getfield 7, 3), (4, .sipush 168, 3), (7, .dup2, 1), (8, .iaload, 1), (9, .iconst 1, 1), (10, .iadd, 1), (11, .iastore, 1), (12, .aload_n 0, 1), (13, .getfield 7, 3), (16, .sipush 174, 3), (19, .dup2, 1), (20, .iaload, 1), (21, .aload_n 0, 1), (22, .getfield 7, 3), (25, .sipush 142, 3), (28, .iaload, 1), (29, .iconst (-1), 1), (30, .if_icmp .eq 7, 3), (33, .iconst 1, 1), (34, .goto 4, 3), (37, .iconst 0, 1), (38, .iadd, 1), (39, .iastore, 1), (40, .aload_n 0, 1), (41, .getfield 7, 3), (44, .sipush 143, 3), (47, .dup2, 1), (48, .iaload, 1), (49, .aload_n 0, 1), (50, .getfield 7, 3), (53, .sipush 139, 3), (56, .iaload, 1), (57, .iconst (-1), 1), (58, .if_icmp .eq 7, 3), (61, .iconst 1, 1), (62, .goto 4, 3), (65, .iconst 0, 1), (66, .iadd, 1), (67, .iastore, 1), (68, .iconst 0, 1), (69, .istore_n 1, 1), (70, .iload_n 1, 1), (71, .aload_n 0, 1), (72, .getfield 7, 3), (75, .iconst 0, 1), (76, .iaload, 1), (77, .if_icmp .ge 36, 3), (80, .aload_n 0, 1), (81, .iload_n 1, 1), (82, .iconst 4, 1), (83, .aload_n 0, 1), (84, .iload_n 1, 1), (85, .iconst 4, 1), (86, .invokevirtual 43, 3), (89, .ifCond .le 14, 3), (92, .aload_n 0, 1), (93, .iload_n 1, 1), (94, .iconst 4, 1), (95, .invokevirtual 43, 3), (98, .iconst 1, 1), (99, .isub, 1), (100, .goto 4, 3), (103, .iconst 0, 1), (104, .invokevirtual 65, 3), (107, .iinc 1 1, 3), (110, .goto (-40), 3), (113, .aload_n 0, 1), (114, .getfield 7, 3), (117, .sipush 141, 3), (120, .dup2, 1), (121, .iaload, 1), (122, .aload_n 0, 1), (123, .getfield 7, 3), (126, .sipush 141, 3), (129, .iaload, 1), (130, .ifCond .le 7, 3), (133, .iconst 1, 1), (134, .goto 4, 3), (137, .iconst 0, 1), (138, .isub, 1), (139, .iastore, 1), (140, .aload_n 0, 1), (141, .getfield 7, 3), (144, .sipush 140, 3), (147, .aload_n 0, 1), (148, .getfield 7, 3), (151, .sipush 141, 3), (154, .iaload, 1), (155, .ifCond .le 14, 3), (158, .aload_n 0, 1), (159, .getfield 7, 3), (162, .sipush 140, 3), (165, .iaload, 1), (166, .goto 4, 3), (169, .iconst (-1), 1), (170, .iastore, 1), (171, .aload_n 0, 1), (172, .getfield 7, 3), (175, .sipush 144, 3), (178, .iaload, 1), (179, .iconst (-1), 1), (180, .if_icmp .eq 73, 3), (183, .aload_n 0, 1), (184, .getfield 7, 3), (187, .sipush 145, 3), (190, .dup2, 1), (191, .iaload, 1), (192, .iconst 1, 1), (193, .isub, 1), (194, .iastore, 1), (195, .aload_n 0, 1), (196, .getfield 7, 3), (199, .sipush 145, 3), (202, .iaload, 1), (203, .ifCond .ne 50, 3), (206, .aload_n 0, 1), (207, .getfield 7, 3), (210, .sipush 144, 3), (213, .iaload, 1), (214, .istore_n 1, 1), (215, .aload_n 0, 1), (216, .getfield 7, 3), (219, .sipush 144, 3), (222, .iconst (-1), 1), (223, .iastore, 1), (224, .aload_n 0, 1), (225, .iload_n 1, 1), (226, .iconst 3, 1), (227, .iconst 1, 1), (228, .invokevirtual 65, 3), (231, .aload_n 0, 1), (232, .iload_n 1, 1), (233, .invokevirtual 92, 3), (236, .aload_n 0, 1), (237, .getfield 7, 3), (240, .sipush 142, 3), (243, .iaload, 1), (244, .iload_n 1, 1), (245, .if_icmp .ne 8, 3), (248, .aload_n 0, 1), (249, .iload_n 1, 1), (250, .invokevirtual 98, 3), (253, .aload_n 0, 1), (254, .getfield 7, 3), (257, .sipush 142, 3), (260, .iaload, 1), (261, .iconst (-1), 1), (262, .if_icmp .ne 60, 3), (265, .aload_n 0, 1), (266, .getfield 7, 3), (269, .sipush 139, 3), (272, .iaload, 1), (273, .iconst (-1), 1), (274, .if_icmp .eq 48, 3), (277, .aload_n 0, 1), (278, .getfield 7, 3), (281, .sipush 167, 3), (284, .iaload, 1), (285, .ifCond .le 37, 3), (288, .aload_n 0, 1), (289, .getfield 7, 3), (292, .sipush 143, 3), (295, .iaload, 1), (296, .aload_n 0, 1), (297, .getfield 7, 3), (300, .sipush 167, 3), (303, .iaload, 1), (304, .if_icmp .lt 18, 3), (307, .aload_n 0, 1), (308, .getfield 7, 3), (311, .bipush 113, 2), (313, .iaload, 1), (314, .ifCond .le 8, 3), (317, .aload_n 0, 1), (318, .invokevirtual 101, 3), (321, .istore_n 1, 1), (322, .aload_n 0, 1), (323, .invokevirtual 105, 3), (326, .return_, 1)]
def qa_mX10_ticks : qa_M := (yX10_ticks, cX10_ticks, 2, none, 10, qa_iX10_ticks, 1, 2, 7, 154, [], 1395, 1394, 35)
def qa_iX10_inserts : List (Nat × Instr × Nat) := [(0, .aload_n 0, 1), (1, .getfield 7, 3), (4, .bipush 113, 2), (6, .iaload, 1), (7, .istore_n 3, 1), (8, .iload_n 3, 1), (9, .iload_n 1, 1), (10, .if_icmp .le 29, 3), (13, .aload_n 0, 1), (14, .getfield 7, 3), (17, .bipush 114, 2), (19, .iload_n 3, 1), (20, .iadd, 1), (21, .aload_n 0, 1), (22, .getfield 7, 3), (25, .bipush 114, 2), (27, .iload_n 3, 1), (28, .iadd, 1), (29, .iconst 1, 1), (30, .isub, 1), (31, .iaload, 1), (32, .iastore, 1), (33, .iinc 3 (-1), 3), (36, .goto (-28), 3), (39, .aload_n 0, 1), (40, .getfield 7, 3), (43, .bipush 114, 2), (45, .iload_n 1, 1), (46, .iadd, 1), (47, .iload_n 2, 1), (48, .iastore, 1), (49, .aload_n 0, 1), (50, .getfield 7, 3), (53, .bipush 113, 2), (55, .dup2, 1), (56, .iaload, 1), (57, .iconst 1, 1), (58, .iadd, 1), (59, .iastore, 1), (60, .aload_n 0, 1), (61, .getfield 7, 3), (64, .sipush 138, 3), (67, .dup2, 1), (68, .iaload, 1), (69, .aload_n 0, 1), (70, .getfield 7, 3), (73, .sipush 138, 3), (76, .iaload, 1), (77, .iconst (-1), 1), (78, .if_icmp .eq 19, 3), (81, .iload_n 1, 1), (82, .aload_n 0, 1), (83, .getfield 7, 3), (86, .sipush 138, 3), (89, .iaload, 1), (90, .if_icmp .gt 7, 3), (93, .iconst 1, 1), (94, .goto 4, 3), (97, .iconst 0, 1), (98, .iadd, 1), (99, .iastore, 1), (100, .aload_n 0, 1), (101, .invokevirtual 105, 3), (104, .aload_n 0, 1), (105, .getfield 7, 3), (108, .bipush 113, 2), (110, .iaload, 1), (111, .ireturn, 1)]
def qa_mX10_inserts : qa_M := (yX10_inserts, cX10_inserts, 4, (some .int), 10, qa_iX10_inserts, 3, 2, 7, 154, [], 1283, 1282, 12)
def qa_iX10_canGoOn : List (Nat × Instr × Nat) := [(0, .aload_n 0, 1), (1, .getfield 7, 3), (4, .bipush 113, 2), (6, .iaload, 1), (7, .ifCond .le 19, 3), (10, .aload_n 0, 1), (11, .getfield 7, 3), (14, .sipush 142, 3), (17, .iaload, 1), (18, .iconst (-1), 1), (19, .if_icmp .ne 7, 3), (22, .iconst 1, 1), (23, .goto 4, 3), (26, .iconst 0, 1), (27, .ireturn, 1)]
def qa_mX10_canGoOn : qa_M := (yX10_canGoOn, cX10_canGoOn, 1, (some .boolean), 10, qa_iX10_canGoOn, 1, 2, 0, 0, [], 1351, 1350, 27)
def qa_iX10_isAsked : List (Nat × Instr × Nat) := [(0, .iload_n 1, 1), (1, .aload_n 0, 1), (2, .getfield 7, 3), (5, .sipush 142, 3), (8, .iaload, 1), (9, .if_icmp .ne 7, 3), (12, .iconst 1, 1), (13, .goto 4, 3), (16, .iconst 0, 1), (17, .istore_n 2, 1), (18, .iconst 0, 1), (19, .istore_n 3, 1), (20, .iload_n 3, 1), (21, .aload_n 0, 1), (22, .getfield 7, 3), (25, .sipush 146, 3), (28, .iaload, 1), (29, .if_icmp .ge 33, 3), (32, .iload_n 2, 1), (33, .ifCond .ne 17, 3), (36, .aload_n 0, 1), (37, .getfield 7, 3), (40, .sipush 147, 3), (43, .iload_n 3, 1), (44, .iadd, 1), (45, .iaload, 1), (46, .iload_n 1, 1), (47, .if_icmp .ne 7, 3), (50, .iconst 1, 1), (51, .goto 4, 3), (54, .iconst 0, 1), (55, .istore_n 2, 1), (56, .iinc 3 1, 3), (59, .goto (-39), 3), (62, .iload_n 2, 1), (63, .ireturn, 1)]
def qa_mX10_isAsked : qa_M := (yX10_isAsked, cX10_isAsked, 4, (some .boolean), 10, qa_iX10_isAsked, 2, 2, 0, 0, [], 1375, 1374, 32)
def qa_iX10_canAsk : List (Nat × Instr × Nat) := [(0, .aload_n 0, 1), (1, .iload_n 1, 1), (2, .invokevirtual 47, 3), (5, .ifCond .ne 27, 3), (8, .aload_n 0, 1), (9, .getfield 7, 3), (12, .sipush 144, 3), (15, .iaload, 1), (16, .iload_n 1, 1), (17, .if_icmp .eq 15, 3), (20, .aload_n 0, 1), (21, .iload_n 1, 1), (22, .invokevirtual 108, 3), (25, .ifCond .ne 7, 3), (28, .iconst 1, 1), (29, .goto 4, 3), (32, .iconst 0, 1), (33, .ireturn, 1)]
def qa_mX10_canAsk : qa_M := (yX10_canAsk, cX10_canAsk, 2, (some .boolean), 10, qa_iX10_canAsk, 2, 2, 2, 43, [], 1371, 1370, 31)
def qa_iX10_asks : List (Nat × Instr × Nat) := [(0, .aload_n 0, 1), (1, .getfield 7, 3), (4, .sipush 147, 3), (7, .aload_n 0, 1), (8, .getfield 7, 3), (11, .sipush 146, 3), (14, .iaload, 1), (15, .iadd, 1), (16, .iload_n 1, 1), (17, .iastore, 1), (18, .aload_n 0, 1), (19, .getfield 7, 3), (22, .sipush 146, 3), (25, .dup2, 1), (26, .iaload, 1), (27, .iconst 1, 1), (28, .iadd, 1), (29, .iastore, 1), (30, .aload_n 0, 1), (31, .invokevirtual 105, 3), (34, .aload_n 0, 1), (35, .getfield 7, 3), (38, .sipush 146, 3), (41, .iaload, 1), (42, .ireturn, 1)]
def qa_mX10_asks : qa_M := (yX10_asks, cX10_asks, 2, (some .int), 10, qa_iX10_asks, 2, 2, 7, 154, [], 1379, 1378, 33)
def qa_iX10_passes : List (Nat × Instr × Nat) := [(0, .aload_n 0, 1), (1, .iconst 0, 1), (2, .putfield 95, 3), (5, .iconst 0, 1), (6, .istore_n 2, 1), (7, .iload_n 2, 1), (8, .iload_n 1, 1), (9, .if_icmp .ge 13, 3), (12, .aload_n 0, 1), (13, .invokevirtual 111, 3), (16, .iinc 2 1, 3), (19, .goto (-12), 3), (22, .aload_n 0, 1), (23, .getfield 95, 3), (26, .ireturn, 1)]
def qa_mX10_passes : qa_M := (yX10_passes, cX10_passes, 3, (some .int), 10, qa_iX10_passes, 2, 2, 8, 175, [], 1391, 1390, 34)
def qa_iX10_addSlide : List (Nat × Instr × Nat) := [(0, .aload_n 0, 1), (1, .iconst 0, 1), (2, .putfield 32, 3), (5, .iload_n 1, 1), (6, .iconst 1, 1), (7, .bipush 50, 2), (9, .invokestatic 39, 3), (12, .ifCond .eq 23, 3), (15, .iload_n 2, 1), (16, .iconst 1, 1), (17, .bipush 20, 2), (19, .invokestatic 39, 3), (22, .ifCond .eq 13, 3), (25, .iload_n 3, 1), (26, .iconst 0, 1), (27, .bipush 10, 2), (29, .invokestatic 39, 3), (32, .ifCond .ne 9, 3), (35, .aload_n 0, 1), (36, .iconst 1, 1), (37, .invokevirtual 114, 3), (40, .ireturn, 1), (41, .aload_n 0, 1), (42, .getfield 7, 3), (45, .iconst 0, 1), (46, .iaload, 1), (47, .bipush 16, 2), (49, .if_icmp .ne 9, 3), (52, .aload_n 0, 1), (53, .iconst 2, 1), (54, .invokevirtual 114, 3), (57, .ireturn, 1), (58, .aload_n 0, 1), (59, .invokevirtual 117, 3), (62, .aload_n 0, 1), (63, .getfield 7, 3), (66, .iconst 0, 1), (67, .iaload, 1), (68, .istore 4, 2), (70, .aload_n 0, 1), (71, .getfield 7, 3), (74, .iconst 0, 1), (75, .dup2, 1), (76, .iaload, 1), (77, .iconst 1, 1), (78, .iadd, 1), (79, .iastore, 1), (80, .aload_n 0, 1), (81, .iload 4, 2), (83, .iconst 0, 1), (84, .iload_n 1, 1), (85, .invokevirtual 65, 3), (88, .aload_n 0, 1), (89, .iload 4, 2), (91, .iconst 1, 1), (92, .iload_n 2, 1), (93, .invokevirtual 65, 3), (96, .aload_n 0, 1), (97, .iload 4, 2), (99, .iconst 2, 1), (100, .iload_n 3, 1), (101, .invokevirtual 65, 3), (104, .iload 4, 2), (106, .ireturn, 1)]
def qa_mX10_addSlide : qa_M := (yX10_addSlide, cX10_addSlide, 5, (some .int), 10, qa_iX10_addSlide, 4, 2, 1, 23, [], 1256, 1254, 1255)
def qa_iX10_insert : List (Nat × Instr × Nat) := [(0, .aload_n 0, 1), (1, .iload_n 2, 1), (2, .invokevirtual 120, 3), (5, .ifCond .eq 18, 3), (8, .iload_n 1, 1), (9, .iconst 0, 1), (10, .aload_n 0, 1), (11, .getfield 7, 3), (14, .bipush 113, 2), (16, .iaload, 1), (17, .invokestatic 39, 3), (20, .ifCond .ne 9, 3), (23, .aload_n 0, 1), (24, .iconst 1, 1), (25, .invokevirtual 114, 3), (28, .ireturn, 1), (29, .aload_n 0, 1), (30, .getfield 7, 3), (33, .bipush 113, 2), (35, .iaload, 1), (36, .bipush 24, 2), (38, .if_icmp .ne 9, 3), (41, .aload_n 0, 1), (42, .iconst 2, 1), (43, .invokevirtual 114, 3), (46, .ireturn, 1), (47, .aload_n 0, 1), (48, .invokevirtual 117, 3), (51, .aload_n 0, 1), (52, .iload_n 1, 1), (53, .iload_n 2, 1), (54, .invokevirtual 123, 3), (57, .ireturn, 1)]
def qa_mX10_insert : qa_M := (yX10_insert, cX10_insert, 3, (some .int), 10, qa_iX10_insert, 3, 2, 8, 177, [], 1275, 1273, 1274)
def qa_iX10_takeOut : List (Nat × Instr × Nat) := [(0, .aload_n 0, 1), (1, .iconst 0, 1), (2, .putfield 32, 3), (5, .iload_n 1, 1), (6, .iconst 0, 1), (7, .aload_n 0, 1), (8, .getfield 7, 3), (11, .bipush 113, 2), (13, .iaload, 1), (14, .iconst 1, 1), (15, .isub, 1), (16, .invokestatic 39, 3), (19, .ifCond .ne 9, 3), (22, .aload_n 0, 1), (23, .iconst 1, 1), (24, .invokevirtual 114, 3), (27, .ireturn, 1), (28, .aload_n 0, 1), (29, .invokevirtual 117, 3), (32, .aload_n 0, 1), (33, .getfield 7, 3), (36, .bipush 114, 2), (38, .iload_n 1, 1), (39, .iadd, 1), (40, .iaload, 1), (41, .istore_n 2, 1), (42, .aload_n 0, 1), (43, .getfield 7, 3), (46, .bipush 113, 2), (48, .dup2, 1), (49, .iaload, 1), (50, .iconst 1, 1), (51, .isub, 1), (52, .iastore, 1), (53, .iload_n 1, 1), (54, .istore_n 3, 1), (55, .iload_n 3, 1), (56, .aload_n 0, 1), (57, .getfield 7, 3), (60, .bipush 113, 2), (62, .iaload, 1), (63, .if_icmp .ge 29, 3), (66, .aload_n 0, 1), (67, .getfield 7, 3), (70, .bipush 114, 2), (72, .iload_n 3, 1), (73, .iadd, 1), (74, .aload_n 0, 1), (75, .getfield 7, 3), (78, .bipush 114, 2), (80, .iload_n 3, 1), (81, .iadd, 1), (82, .iconst 1, 1), (83, .iadd, 1), (84, .iaload, 1), (85, .iastore, 1), (86, .iinc 3 1, 3), (89, .goto (-34), 3), (92, .aload_n 0, 1), (93, .getfield 7, 3), (96, .bipush 114, 2), (98, .aload_n 0, 1), (99, .getfield 7, 3), (102, .bipush 113, 2), (104, .iaload, 1), (105, .iadd, 1), (106, .iconst 0, 1), (107, .iastore, 1), (108, .aload_n 0, 1), (109, .getfield 7, 3), (112, .sipush 138, 3), (115, .dup2, 1), (116, .iaload, 1), (117, .aload_n 0, 1), (118, .getfield 7, 3), (121, .sipush 138, 3), (124, .iaload, 1), (125, .iconst (-1), 1), (126, .if_icmp .eq 19, 3), (129, .iload_n 1, 1), (130, .aload_n 0, 1), (131, .getfield 7, 3), (134, .sipush 138, 3), (137, .iaload, 1), (138, .if_icmp .gt 7, 3), (141, .iconst 1, 1), (142, .goto 4, 3), (145, .iconst 0, 1), (146, .isub, 1), (147, .iastore, 1), (148, .aload_n 0, 1), (149, .invokevirtual 105, 3), (152, .iload_n 2, 1), (153, .ireturn, 1)]
def qa_mX10_takeOut : qa_M := (yX10_takeOut, cX10_takeOut, 4, (some .int), 10, qa_iX10_takeOut, 2, 2, 7, 154, [], 1343, 1341, 1342)
def qa_iX10_goOn : List (Nat × Instr × Nat) := [(0, .aload_n 0, 1), (1, .aload_n 0, 1), (2, .invokevirtual 126, 3), (5, .ifCond .eq 7, 3), (8, .iconst 0, 1), (9, .goto 4, 3), (12, .iconst 1, 1), (13, .putfield 32, 3), (16, .aload_n 0, 1), (17, .getfield 32, 3), (20, .ifCond .le 5, 3), (23, .iconst 0, 1), (24, .ireturn, 1), (25, .aload_n 0, 1), (26, .invokevirtual 117, 3), (29, .aload_n 0, 1), (30, .invokevirtual 101, 3), (33, .istore_n 1, 1), (34, .aload_n 0, 1), (35, .invokevirtual 105, 3), (38, .iload_n 1, 1), (39, .ireturn, 1)]
def qa_mX10_goOn : qa_M := (yX10_goOn, cX10_goOn, 2, (some .boolean), 10, qa_iX10_goOn, 1, 2, 7, 154, [], 1347, 1345, 1346)
def qa_iX10_ask : List (Nat × Instr × Nat) := [(0, .aload_n 0, 1), (1, .iload_n 1, 1), (2, .invokevirtual 120, 3), (5, .ifCond .ne 5, 3), (8, .iconst 0, 1), (9, .ireturn, 1), (10, .aload_n 0, 1), (11, .iload_n 1, 1), (12, .invokevirtual 129, 3), (15, .ifCond .ne 9, 3), (18, .aload_n 0, 1), (19, .iconst 2, 1), (20, .invokevirtual 114, 3), (23, .ireturn, 1), (24, .aload_n 0, 1), (25, .invokevirtual 117, 3), (28, .aload_n 0, 1), (29, .iload_n 1, 1), (30, .invokevirtual 132, 3), (33, .ireturn, 1)]
def qa_mX10_ask : qa_M := (yX10_ask, cX10_ask, 2, (some .int), 10, qa_iX10_ask, 2, 2, 8, 175, [], 1367, 1365, 1366)
def qa_iX10_burn : List (Nat × Instr × Nat) := [(0, .aload_n 0, 1), (1, .iload_n 1, 1), (2, .invokevirtual 120, 3), (5, .ifCond .ne 5, 3), (8, .iconst 0, 1), (9, .ireturn, 1), (10, .aload_n 0, 1), (11, .iload_n 1, 1), (12, .invokevirtual 58, 3), (15, .ifCond .ne 9, 3), (18, .aload_n 0, 1), (19, .iconst 2, 1), (20, .invokevirtual 114, 3), (23, .ireturn, 1), (24, .aload_n 0, 1), (25, .invokevirtual 117, 3), (28, .aload_n 0, 1), (29, .iload_n 1, 1), (30, .invokevirtual 76, 3), (33, .istore_n 2, 1), (34, .aload_n 0, 1), (35, .invokevirtual 105, 3), (38, .iload_n 2, 1), (39, .ireturn, 1)]
def qa_mX10_burn : qa_M := (yX10_burn, cX10_burn, 3, (some .int), 10, qa_iX10_burn, 2, 2, 7, 154, [], 1383, 1381, 1382)
def qa_iX10_tick : List (Nat × Instr × Nat) := [(0, .aload_n 0, 1), (1, .iconst 0, 1), (2, .putfield 32, 3), (5, .iload_n 1, 1), (6, .iconst 1, 1), (7, .bipush 100, 2), (9, .invokestatic 39, 3), (12, .ifCond .ne 9, 3), (15, .aload_n 0, 1), (16, .iconst 1, 1), (17, .invokevirtual 114, 3), (20, .ireturn, 1), (21, .aload_n 0, 1), (22, .invokevirtual 117, 3), (25, .aload_n 0, 1), (26, .iload_n 1, 1), (27, .invokevirtual 135, 3), (30, .ireturn, 1)]
def qa_mX10_tick : qa_M := (yX10_tick, cX10_tick, 2, (some .int), 10, qa_iX10_tick, 2, 2, 9, 197, [], 1387, 1385, 1386)
def qa_iX10_changes : List (Nat × Instr × Nat) := [(0, .aload_n 0, 1), (1, .iconst 0, 1), (2, .putfield 32, 3), (5, .iload_n 2, 1), (6, .iload_n 3, 1), (7, .iload 4, 2), (9, .invokestatic 39, 3), (12, .ifCond .ne 9, 3), (15, .aload_n 0, 1), (16, .iconst 1, 1), (17, .invokevirtual 114, 3), (20, .ireturn, 1), (21, .aload_n 0, 1), (22, .invokevirtual 117, 3), (25, .aload_n 0, 1), (26, .getfield 7, 3), (29, .iload_n 1, 1), (30, .iaload, 1), (31, .istore 5, 2), (33, .aload_n 0, 1), (34, .getfield 7, 3), (37, .iload_n 1, 1), (38, .iload_n 2, 1), (39, .iastore, 1), (40, .aload_n 0, 1), (41, .iconst 0, 1), (42, .invokevirtual 79, 3), (45, .istore 6, 2), (47, .aload_n 0, 1), (48, .invokevirtual 105, 3), (51, .iload 5, 2), (53, .ireturn, 1)]
def qa_mX10_changes : qa_M := (yX10_changes, cX10_changes, 7, (some .int), 10, qa_iX10_changes, 5, 2, 7, 154, [], 1403, 1402, 36)
def qa_iX10_changeMemory : List (Nat × Instr × Nat) := [(0, .aload_n 0, 1), (1, .sipush 163, 3), (4, .iload_n 1, 1), (5, .sipush 150, 3), (8, .sipush 400, 3), (11, .invokevirtual 138, 3), (14, .ireturn, 1)]
def qa_mX10_changeMemory : qa_M := (yX10_changeMemory, cX10_changeMemory, 2, (some .int), 10, qa_iX10_changeMemory, 2, 2, 8, 180, [], 1399, 1397, 1398)
def qa_iX10_changeAhead : List (Nat × Instr × Nat) := [(0, .aload_n 0, 1), (1, .sipush 164, 3), (4, .iload_n 1, 1), (5, .iconst 0, 1), (6, .iconst 4, 1), (7, .invokevirtual 138, 3), (10, .ireturn, 1)]
def qa_mX10_changeAhead : qa_M := (yX10_changeAhead, cX10_changeAhead, 2, (some .int), 10, qa_iX10_changeAhead, 2, 2, 8, 180, [], 1407, 1405, 1406)
def qa_iX10_changeOrder : List (Nat × Instr × Nat) := [(0, .aload_n 0, 1), (1, .sipush 165, 3), (4, .iload_n 1, 1), (5, .iconst 0, 1), (6, .iconst 2, 1), (7, .invokevirtual 138, 3), (10, .ireturn, 1)]
def qa_mX10_changeOrder : qa_M := (yX10_changeOrder, cX10_changeOrder, 2, (some .int), 10, qa_iX10_changeOrder, 2, 2, 8, 180, [], 1411, 1409, 1410)
def qa_iX10_changeGlow : List (Nat × Instr × Nat) := [(0, .aload_n 0, 1), (1, .sipush 166, 3), (4, .iload_n 1, 1), (5, .iconst 0, 1), (6, .bipush 20, 2), (8, .invokevirtual 138, 3), (11, .ireturn, 1)]
def qa_mX10_changeGlow : qa_M := (yX10_changeGlow, cX10_changeGlow, 2, (some .int), 10, qa_iX10_changeGlow, 2, 2, 8, 180, [], 1415, 1413, 1414)
def qa_iX10_changePace : List (Nat × Instr × Nat) := [(0, .aload_n 0, 1), (1, .sipush 167, 3), (4, .iload_n 1, 1), (5, .iconst 0, 1), (6, .bipush 50, 2), (8, .invokevirtual 138, 3), (11, .ireturn, 1)]
def qa_mX10_changePace : qa_M := (yX10_changePace, cX10_changePace, 2, (some .int), 10, qa_iX10_changePace, 2, 2, 8, 180, [], 1419, 1417, 1418)
def qa_iX10_append : List (Nat × Instr × Nat) := [(0, .aload_n 0, 1), (1, .iconst 0, 1), (2, .putfield 32, 3), (5, .iload_n 1, 1), (6, .bipush 33, 2), (8, .bipush 126, 2), (10, .invokestatic 39, 3), (13, .ifCond .ne 9, 3), (16, .aload_n 0, 1), (17, .iconst 1, 1), (18, .invokevirtual 114, 3), (21, .ireturn, 1), (22, .aload_n 0, 1), (23, .getfield 142, 3), (26, .bipush 60, 2), (28, .if_icmp .ne 9, 3), (31, .aload_n 0, 1), (32, .iconst 2, 1), (33, .invokevirtual 114, 3), (36, .ireturn, 1), (37, .aload_n 0, 1), (38, .getfield 29, 3), (41, .aload_n 0, 1), (42, .getfield 142, 3), (45, .iload_n 1, 1), (46, .iastore, 1), (47, .aload_n 0, 1), (48, .dup, 1), (49, .getfield 142, 3), (52, .iconst 1, 1), (53, .iadd, 1), (54, .putfield 142, 3), (57, .aload_n 0, 1), (58, .getfield 142, 3), (61, .ireturn, 1)]
def qa_mX10_append : qa_M := (yX10_append, cX10_append, 2, (some .int), 10, qa_iX10_append, 2, 2, 1, 22, [], 1423, 1421, 1422)
def qa_iX10_clearBuffer : List (Nat × Instr × Nat) := [(0, .aload_n 0, 1), (1, .iconst 0, 1), (2, .putfield 32, 3), (5, .aload_n 0, 1), (6, .getfield 142, 3), (9, .istore_n 1, 1), (10, .aload_n 0, 1), (11, .iconst 0, 1), (12, .putfield 142, 3), (15, .iload_n 1, 1), (16, .ireturn, 1)]
def qa_mX10_clearBuffer : qa_M := (yX10_clearBuffer, cX10_clearBuffer, 2, (some .int), 10, qa_iX10_clearBuffer, 1, 2, 0, 0, [], 1427, 1425, 1426)
def qa_iX10_sign : List (Nat × Instr × Nat) := [(0, .aload_n 0, 1), (1, .getfield 145, 3), (4, .aload_n 0, 1), (5, .getfield 142, 3), (8, .if_icmp .ge 22, 3), (11, .aload_n 0, 1), (12, .getfield 148, 3), (15, .ifCond .ne 15, 3), (18, .aload_n 0, 1), (19, .getfield 29, 3), (22, .aload_n 0, 1), (23, .getfield 145, 3), (26, .iaload, 1), (27, .goto 4, 3), (30, .iconst 0, 1), (31, .istore_n 3, 1), (32, .aload_n 0, 1), (33, .aload_n 0, 1), (34, .getfield 148, 3), (37, .ifCond .ne 12, 3), (40, .iload_n 3, 1), (41, .iload_n 1, 1), (42, .iload_n 2, 1), (43, .invokestatic 39, 3), (46, .ifCond .ne 7, 3), (49, .iconst 1, 1), (50, .goto 4, 3), (53, .iconst 0, 1), (54, .putfield 148, 3), (57, .aload_n 0, 1), (58, .dup, 1), (59, .getfield 145, 3), (62, .aload_n 0, 1), (63, .getfield 148, 3), (66, .ifCond .eq 7, 3), (69, .iconst 0, 1), (70, .goto 4, 3), (73, .iconst 1, 1), (74, .iadd, 1), (75, .putfield 145, 3), (78, .iload_n 3, 1), (79, .ireturn, 1)]
def qa_mX10_sign : qa_M := (yX10_sign, cX10_sign, 4, (some .int), 10, qa_iX10_sign, 3, 2, 1, 22, [], 1447, 1446, 40)
def qa_iX10_number : List (Nat × Instr × Nat) := [(0, .aload_n 0, 1), (1, .bipush 48, 2), (3, .iload_n 1, 1), (4, .iadd, 1), (5, .bipush 57, 2), (7, .invokevirtual 152, 3), (10, .bipush 48, 2), (12, .isub, 1), (13, .istore_n 3, 1), (14, .aload_n 0, 1), (15, .getfield 148, 3), (18, .ifCond .ne 78, 3), (21, .iload_n 3, 1), (22, .ifCond .le 74, 3), (25, .aload_n 0, 1), (26, .getfield 145, 3), (29, .aload_n 0, 1), (30, .getfield 142, 3), (33, .if_icmp .ge 63, 3), (36, .aload_n 0, 1), (37, .getfield 29, 3), (40, .aload_n 0, 1), (41, .getfield 145, 3), (44, .iaload, 1), (45, .bipush 48, 2), (47, .bipush 57, 2), (49, .invokestatic 39, 3), (52, .ifCond .eq 44, 3), (55, .bipush 10, 2), (57, .iload_n 3, 1), (58, .imul, 1), (59, .aload_n 0, 1), (60, .getfield 29, 3), (63, .aload_n 0, 1), (64, .getfield 145, 3), (67, .iaload, 1), (68, .iadd, 1), (69, .bipush 48, 2), (71, .isub, 1), (72, .iload_n 2, 1), (73, .if_icmp .gt 23, 3), (76, .bipush 10, 2), (78, .iload_n 3, 1), (79, .imul, 1), (80, .aload_n 0, 1), (81, .bipush 48, 2), (83, .bipush 57, 2), (85, .invokevirtual 152, 3), (88, .iadd, 1), (89, .bipush 48, 2), (91, .isub, 1), (92, .istore_n 3, 1), (93, .goto (-79), 3), (96, .iload_n 3, 1), (97, .ireturn, 1)]
def qa_mX10_number : qa_M := (yX10_number, cX10_number, 4, (some .int), 10, qa_iX10_number, 3, 2, 2, 45, [], 1443, 1442, 39)
def qa_iX10_isOrdered : List (Nat × Instr × Nat) := [(0, .aload_n 0, 1), (1, .getfield 145, 3), (4, .aload_n 0, 1), (5, .getfield 142, 3), (8, .if_icmp .ge 22, 3), (11, .aload_n 0, 1), (12, .getfield 148, 3), (15, .ifCond .ne 15, 3), (18, .aload_n 0, 1), (19, .getfield 29, 3), (22, .aload_n 0, 1), (23, .getfield 145, 3), (26, .iaload, 1), (27, .goto 4, 3), (30, .iconst 0, 1), (31, .istore_n 2, 1), (32, .iload_n 2, 1), (33, .bipush 97, 2), (35, .if_icmp .eq 15, 3), (38, .iload_n 2, 1), (39, .bipush 98, 2), (41, .if_icmp .eq 9, 3), (44, .iload_n 2, 1), (45, .bipush 112, 2), (47, .if_icmp .ne 7, 3), (50, .iconst 1, 1), (51, .goto 4, 3), (54, .iconst 0, 1), (55, .istore_n 3, 1), (56, .aload_n 0, 1), (57, .aload_n 0, 1), (58, .getfield 148, 3), (61, .ifCond .ne 19, 3), (64, .iload_n 3, 1), (65, .ifCond .ne 19, 3), (68, .iload_n 2, 1), (69, .bipush 110, 2), (71, .if_icmp .eq 13, 3), (74, .iload_n 2, 1), (75, .bipush 116, 2), (77, .if_icmp .eq 7, 3), (80, .iconst 1, 1), (81, .goto 4, 3), (84, .iconst 0, 1), (85, .putfield 148, 3), (88, .aload_n 0, 1), (89, .dup, 1), (90, .getfield 145, 3), (93, .aload_n 0, 1), (94, .getfield 148, 3), (97, .ifCond .eq 7, 3), (100, .iconst 0, 1), (101, .goto 4, 3), (104, .iconst 1, 1), (105, .iadd, 1), (106, .putfield 145, 3), (109, .iload_n 3, 1), (110, .ifCond .eq 13, 3), (113, .aload_n 0, 1), (114, .iconst 0, 1), (115, .bipush 15, 2), (117, .invokevirtual 155, 3), (120, .goto 20, 3), (123, .iload_n 2, 1), (124, .bipush 116, 2), (126, .if_icmp .ne 13, 3), (129, .aload_n 0, 1), (130, .iconst 1, 1), (131, .bipush 100, 2), (133, .invokevirtual 155, 3), (136, .goto 4, 3), (139, .iconst 0, 1), (140, .istore 4, 2), (142, .iload_n 1, 1), (143, .ifCond .eq 13, 3), (146, .aload_n 0, 1), (147, .iload_n 2, 1), (148, .iload 4, 2), (150, .invokevirtual 158, 3), (153, .ifCond .eq 7, 3), (156, .iconst 1, 1), (157, .goto 4, 3), (160, .iconst 0, 1), (161, .ireturn, 1)]
def qa_mX10_isOrdered : qa_M := (yX10_isOrdered, cX10_isOrdered, 5, (some .boolean), 10, qa_iX10_isOrdered, 2, 2, 10, 222, [], 1439, 1438, 38)
def qa_iX10_isFollowed : List (Nat × Instr × Nat) := [(0, .iload_n 1, 1), (1, .bipush 116, 2), (3, .if_icmp .eq 29, 3), (6, .iload_n 1, 1), (7, .bipush 110, 2), (9, .if_icmp .ne 13, 3), (12, .aload_n 0, 1), (13, .invokevirtual 126, 3), (16, .ifCond .eq 20, 3), (19, .goto 13, 3), (22, .iload_n 2, 1), (23, .aload_n 0, 1), (24, .getfield 7, 3), (27, .iconst 0, 1), (28, .iaload, 1), (29, .if_icmp .ge 7, 3), (32, .iconst 1, 1), (33, .goto 4, 3), (36, .iconst 0, 1), (37, .istore_n 3, 1), (38, .iload_n 3, 1), (39, .ifCond .eq 53, 3), (42, .iload_n 1, 1), (43, .bipush 97, 2), (45, .if_icmp .ne 11, 3), (48, .aload_n 0, 1), (49, .iload_n 2, 1), (50, .invokevirtual 129, 3), (53, .ifCond .eq 39, 3), (56, .iload_n 1, 1), (57, .bipush 98, 2), (59, .if_icmp .ne 11, 3), (62, .aload_n 0, 1), (63, .iload_n 2, 1), (64, .invokevirtual 58, 3), (67, .ifCond .eq 25, 3), (70, .iload_n 1, 1), (71, .bipush 112, 2), (73, .if_icmp .ne 15, 3), (76, .aload_n 0, 1), (77, .getfield 7, 3), (80, .bipush 113, 2), (82, .iaload, 1), (83, .bipush 24, 2), (85, .if_icmp .ge 7, 3), (88, .iconst 1, 1), (89, .goto 4, 3), (92, .iconst 0, 1), (93, .istore_n 3, 1), (94, .iload_n 3, 1), (95, .ifCond .eq 93, 3), (98, .iload_n 1, 1), (99, .bipush 110, 2), (101, .if_icmp .ne 14, 3), (104, .aload_n 0, 1), (105, .invokevirtual 101, 3), (108, .ifCond .eq 7, 3), (111, .iconst 1, 1), (112, .goto 4, 3), (115, .iconst 0, 1), (116, .istore 4, 2), (118, .iload_n 1, 1), (119, .bipush 97, 2), (121, .if_icmp .ne 11, 3), (124, .aload_n 0, 1), (125, .iload_n 2, 1), (126, .invokevirtual 132, 3), (129, .goto 53, 3), (132, .iload_n 1, 1), (133, .bipush 98, 2), (135, .if_icmp .ne 11, 3), (138, .aload_n 0, 1), (139, .iload_n 2, 1), (140, .invokevirtual 76, 3), (143, .goto 39, 3), (146, .iload_n 1, 1), (147, .bipush 112, 2), (149, .if_icmp .ne 18, 3), (152, .aload_n 0, 1), (153, .aload_n 0, 1), (154, .getfield 7, 3), (157, .bipush 113, 2), (159, .iaload, 1), (160, .iload_n 2, 1), (161, .invokevirtual 123, 3), (164, .goto 18, 3), (167, .iload_n 1, 1), (168, .bipush 116, 2), (170, .if_icmp .ne 11, 3), (173, .aload_n 0, 1), (174, .iload_n 2, 1), (175, .invokevirtual 135, 3), (178, .goto 4, 3), (181, .iconst 0, 1), (182, .istore 5, 2), (184, .aload_n 0, 1), (185, .invokevirtual 105, 3), (188, .iload_n 3, 1), (189, .ireturn, 1)]
def qa_mX10_isFollowed : qa_M := (yX10_isFollowed, cX10_isFollowed, 6, (some .boolean), 10, qa_iX10_isFollowed, 3, 2, 9, 197, [], 1451, 1450, 41)
def qa_iX10_go : List (Nat × Instr × Nat) := [(0, .aload_n 0, 1), (1, .iconst 0, 1), (2, .putfield 145, 3), (5, .aload_n 0, 1), (6, .iconst 0, 1), (7, .putfield 148, 3), (10, .aload_n 0, 1), (11, .iconst 0, 1), (12, .putfield 161, 3), (15, .iconst 1, 1), (16, .istore_n 2, 1), (17, .iload_n 2, 1), (18, .ifCond .eq 76, 3), (21, .aload_n 0, 1), (22, .iload_n 1, 1), (23, .invokevirtual 164, 3), (26, .ifCond .ne 5, 3), (29, .iconst 0, 1), (30, .ireturn, 1), (31, .aload_n 0, 1), (32, .dup, 1), (33, .getfield 161, 3), (36, .iconst 1, 1), (37, .iadd, 1), (38, .putfield 161, 3), (41, .aload_n 0, 1), (42, .getfield 148, 3), (45, .ifCond .ne 18, 3), (48, .aload_n 0, 1), (49, .getfield 145, 3), (52, .aload_n 0, 1), (53, .getfield 142, 3), (56, .if_icmp .ge 7, 3), (59, .iconst 1, 1), (60, .goto 4, 3), (63, .iconst 0, 1), (64, .istore_n 2, 1), (65, .iload_n 2, 1), (66, .ifCond .eq (-49), 3), (69, .aload_n 0, 1), (70, .bipush 59, 2), (72, .bipush 59, 2), (74, .invokevirtual 152, 3), (77, .istore_n 3, 1), (78, .aload_n 0, 1), (79, .getfield 148, 3), (82, .ifCond .ne 7, 3), (85, .iconst 1, 1), (86, .goto 4, 3), (89, .iconst 0, 1), (90, .istore_n 2, 1), (91, .goto (-74), 3), (94, .iconst 1, 1), (95, .ireturn, 1)]
def qa_mX10_go : qa_M := (yX10_go, cX10_go, 4, (some .boolean), 10, qa_iX10_go, 2, 2, 11, 246, [], 1435, 1434, 37)
def qa_iX10_firstError : List (Nat × Instr × Nat) := [(0, .aload_n 0, 1), (1, .iconst 0, 1), (2, .putfield 32, 3), (5, .aload_n 0, 1), (6, .iconst 0, 1), (7, .invokevirtual 168, 3), (10, .istore_n 1, 1), (11, .aload_n 0, 1), (12, .getfield 148, 3), (15, .ifCond .eq 10, 3), (18, .aload_n 0, 1), (19, .getfield 145, 3), (22, .goto 7, 3), (25, .aload_n 0, 1), (26, .getfield 142, 3), (29, .ireturn, 1)]
def qa_mX10_firstError : qa_M := (yX10_firstError, cX10_firstError, 2, (some .int), 10, qa_iX10_firstError, 1, 2, 12, 269, [], 1431, 1429, 1430)
def qa_iX10_keepsAside : List (Nat × Instr × Nat) := [(0, .iconst 0, 1), (1, .istore_n 1, 1), (2, .iload_n 1, 1), (3, .sipush 176, 3), (6, .if_icmp .ge 21, 3), (9, .aload_n 0, 1), (10, .getfield 23, 3), (13, .iload_n 1, 1), (14, .aload_n 0, 1), (15, .getfield 7, 3), (18, .iload_n 1, 1), (19, .iaload, 1), (20, .iastore, 1), (21, .iinc 1 1, 3), (24, .goto (-22), 3), (27, .return_, 1)]
def qa_mX10_keepsAside : qa_M := (yX10_keepsAside, cX10_keepsAside, 2, none, 10, qa_iX10_keepsAside, 1, 2, 0, 0, [], 1459, 1458, 42)
def qa_iX10_putsBack : List (Nat × Instr × Nat) := [(0, .iconst 0, 1), (1, .istore_n 1, 1), (2, .iload_n 1, 1), (3, .sipush 176, 3), (6, .if_icmp .ge 21, 3), (9, .aload_n 0, 1), (10, .getfield 7, 3), (13, .iload_n 1, 1), (14, .aload_n 0, 1), (15, .getfield 23, 3), (18, .iload_n 1, 1), (19, .iaload, 1), (20, .iastore, 1), (21, .iinc 1 1, 3), (24, .goto (-22), 3), (27, .return_, 1)]
def qa_mX10_putsBack : qa_M := (yX10_putsBack, cX10_putsBack, 2, none, 10, qa_iX10_putsBack, 1, 2, 0, 0, [], 1463, 1462, 43)
def qa_iX10_follow : List (Nat × Instr × Nat) := [(0, .aload_n 0, 1), (1, .iconst 0, 1), (2, .putfield 32, 3), (5, .aload_n 0, 1), (6, .iconst 0, 1), (7, .invokevirtual 168, 3), (10, .istore_n 1, 1), (11, .aload_n 0, 1), (12, .getfield 148, 3), (15, .ifCond .eq 9, 3), (18, .aload_n 0, 1), (19, .iconst 1, 1), (20, .invokevirtual 114, 3), (23, .ireturn, 1), (24, .aload_n 0, 1), (25, .invokevirtual 171, 3), (28, .aload_n 0, 1), (29, .iconst 1, 1), (30, .invokevirtual 168, 3), (33, .istore_n 1, 1), (34, .aload_n 0, 1), (35, .invokevirtual 174, 3), (38, .iload_n 1, 1), (39, .ifCond .ne 9, 3), (42, .aload_n 0, 1), (43, .iconst 2, 1), (44, .invokevirtual 114, 3), (47, .ireturn, 1), (48, .aload_n 0, 1), (49, .invokevirtual 117, 3), (52, .aload_n 0, 1), (53, .iconst 1, 1), (54, .invokevirtual 168, 3), (57, .istore_n 1, 1), (58, .aload_n 0, 1), (59, .iconst 0, 1), (60, .putfield 142, 3), (63, .aload_n 0, 1), (64, .getfield 161, 3), (67, .ireturn, 1)]
def qa_mX10_follow : qa_M := (yX10_follow, cX10_follow, 2, (some .int), 10, qa_iX10_follow, 1, 2, 12, 269, [], 1455, 1453, 1454)
def qa_iX10_keep : List (Nat × Instr × Nat) := [(0, .aload_n 0, 1), (1, .iload_n 1, 1), (2, .iconst 0, 1), (3, .iconst 1, 1), (4, .invokestatic 39, 3), (7, .ifCond .eq 7, 3), (10, .iconst 0, 1), (11, .goto 4, 3), (14, .iconst 1, 1), (15, .putfield 32, 3), (18, .iconst 0, 1), (19, .istore_n 2, 1), (20, .iload_n 2, 1), (21, .sipush 176, 3), (24, .if_icmp .ge 34, 3), (27, .aload_n 0, 1), (28, .getfield 32, 3), (31, .ifCond .ne 27, 3), (34, .aload_n 0, 1), (35, .getfield 16, 3), (38, .sipush 176, 3), (41, .iload_n 1, 1), (42, .imul, 1), (43, .iload_n 2, 1), (44, .iadd, 1), (45, .aload_n 0, 1), (46, .getfield 7, 3), (49, .iload_n 2, 1), (50, .iaload, 1), (51, .iastore, 1), (52, .iinc 2 1, 3), (55, .goto (-35), 3), (58, .aload_n 0, 1), (59, .getfield 32, 3), (62, .ifCond .ne 10, 3), (65, .aload_n 0, 1), (66, .getfield 19, 3), (69, .iload_n 1, 1), (70, .iconst 1, 1), (71, .bastore, 1), (72, .return_, 1)]
def qa_mX10_keep : qa_M := (yX10_keep, cX10_keep, 3, none, 10, qa_iX10_keep, 2, 2, 1, 22, [], 1467, 1465, 1466)
def qa_iX10_goBack : List (Nat × Instr × Nat) := [(0, .aload_n 0, 1), (1, .iload_n 1, 1), (2, .iconst 0, 1), (3, .iconst 1, 1), (4, .invokestatic 39, 3), (7, .ifCond .ne 7, 3), (10, .iconst 1, 1), (11, .goto 17, 3), (14, .aload_n 0, 1), (15, .getfield 19, 3), (18, .iload_n 1, 1), (19, .baload, 1), (20, .ifCond .eq 7, 3), (23, .iconst 0, 1), (24, .goto 4, 3), (27, .iconst 2, 1), (28, .putfield 32, 3), (31, .aload_n 0, 1), (32, .getfield 32, 3), (35, .ifCond .ne 40, 3), (38, .aload_n 0, 1), (39, .invokevirtual 117, 3), (42, .iconst 0, 1), (43, .istore_n 2, 1), (44, .iload_n 2, 1), (45, .sipush 176, 3), (48, .if_icmp .ge 27, 3), (51, .aload_n 0, 1), (52, .getfield 7, 3), (55, .iload_n 2, 1), (56, .aload_n 0, 1), (57, .getfield 16, 3), (60, .sipush 176, 3), (63, .iload_n 1, 1), (64, .imul, 1), (65, .iload_n 2, 1), (66, .iadd, 1), (67, .iaload, 1), (68, .iastore, 1), (69, .iinc 2 1, 3), (72, .goto (-28), 3), (75, .return_, 1)]
def qa_mX10_goBack : qa_M := (yX10_goBack, cX10_goBack, 3, none, 10, qa_iX10_goBack, 2, 2, 1, 22, [], 1471, 1469, 1470)
def qa_iX10_undo : List (Nat × Instr × Nat) := [(0, .aload_n 0, 1), (1, .aload_n 0, 1), (2, .getfield 36, 3), (5, .ifCond .ne 7, 3), (8, .iconst 1, 1), (9, .goto 4, 3), (12, .iconst 0, 1), (13, .putfield 32, 3), (16, .aload_n 0, 1), (17, .getfield 32, 3), (20, .ifCond .ne 49, 3), (23, .aload_n 0, 1), (24, .dup, 1), (25, .getfield 36, 3), (28, .iconst 1, 1), (29, .isub, 1), (30, .putfield 36, 3), (33, .iconst 0, 1), (34, .istore_n 1, 1), (35, .iload_n 1, 1), (36, .sipush 176, 3), (39, .if_icmp .ge 30, 3), (42, .aload_n 0, 1), (43, .getfield 7, 3), (46, .iload_n 1, 1), (47, .aload_n 0, 1), (48, .getfield 13, 3), (51, .sipush 176, 3), (54, .aload_n 0, 1), (55, .getfield 36, 3), (58, .imul, 1), (59, .iload_n 1, 1), (60, .iadd, 1), (61, .iaload, 1), (62, .iastore, 1), (63, .iinc 1 1, 3), (66, .goto (-31), 3), (69, .return_, 1)]
def qa_mX10_undo : qa_M := (yX10_undo, cX10_undo, 2, none, 10, qa_iX10_undo, 1, 2, 0, 0, [], 1475, 1473, 1474)
def qa_iX10_savedStates : List (Nat × Instr × Nat) := [(0, .aload_n 0, 1), (1, .iconst 0, 1), (2, .putfield 32, 3), (5, .aload_n 0, 1), (6, .getfield 36, 3), (9, .ireturn, 1)]
def qa_mX10_savedStates : qa_M := (yX10_savedStates, cX10_savedStates, 1, (some .int), 10, qa_iX10_savedStates, 1, 2, 0, 0, [], 1479, 1477, 1478)
def qa_iX10_rule : List (Nat × Instr × Nat) := [(0, .aload_n 0, 1), (1, .iconst 0, 1), (2, .putfield 32, 3), (5, .aload_n 0, 1), (6, .getfield 7, 3), (9, .iload_n 1, 1), (10, .iaload, 1), (11, .ireturn, 1)]
def qa_mX10_rule : qa_M := (yX10_rule, cX10_rule, 2, (some .int), 10, qa_iX10_rule, 2, 2, 0, 0, [], 1487, 1486, 44)
def qa_iX10_slides : List (Nat × Instr × Nat) := [(0, .aload_n 0, 1), (1, .iconst 0, 1), (2, .invokevirtual 177, 3), (5, .ireturn, 1)]
def qa_mX10_slides : qa_M := (yX10_slides, cX10_slides, 1, (some .int), 10, qa_iX10_slides, 1, 2, 1, 21, [], 1483, 1481, 1482)
def qa_iX10_costOf : List (Nat × Instr × Nat) := [(0, .aload_n 0, 1), (1, .iload_n 1, 1), (2, .invokevirtual 120, 3), (5, .ifCond .eq 12, 3), (8, .aload_n 0, 1), (9, .iload_n 1, 1), (10, .iconst 0, 1), (11, .invokevirtual 43, 3), (14, .goto 4, 3), (17, .iconst 0, 1), (18, .ireturn, 1)]
def qa_mX10_costOf : qa_M := (yX10_costOf, cX10_costOf, 2, (some .int), 10, qa_iX10_costOf, 2, 2, 2, 43, [], 1491, 1489, 1490)
def qa_iX10_loadOf : List (Nat × Instr × Nat) := [(0, .aload_n 0, 1), (1, .iload_n 1, 1), (2, .invokevirtual 120, 3), (5, .ifCond .eq 11, 3), (8, .aload_n 0, 1), (9, .iload_n 1, 1), (10, .invokevirtual 82, 3), (13, .goto 4, 3), (16, .iconst 0, 1), (17, .ireturn, 1)]
def qa_mX10_loadOf : qa_M := (yX10_loadOf, cX10_loadOf, 2, (some .int), 10, qa_iX10_loadOf, 2, 2, 2, 43, [], 1495, 1493, 1494)
def qa_iX10_fadeOf : List (Nat × Instr × Nat) := [(0, .aload_n 0, 1), (1, .iload_n 1, 1), (2, .invokevirtual 120, 3), (5, .ifCond .eq 12, 3), (8, .aload_n 0, 1), (9, .iload_n 1, 1), (10, .iconst 2, 1), (11, .invokevirtual 43, 3), (14, .goto 4, 3), (17, .iconst 0, 1), (18, .ireturn, 1)]
def qa_mX10_fadeOf : qa_M := (yX10_fadeOf, cX10_fadeOf, 2, (some .int), 10, qa_iX10_fadeOf, 2, 2, 2, 43, [], 1499, 1497, 1498)
def qa_iX10_isLoaded : List (Nat × Instr × Nat) := [(0, .aload_n 0, 1), (1, .iload_n 1, 1), (2, .invokevirtual 120, 3), (5, .ifCond .eq 15, 3), (8, .aload_n 0, 1), (9, .iload_n 1, 1), (10, .invokevirtual 47, 3), (13, .ifCond .eq 7, 3), (16, .iconst 1, 1), (17, .goto 4, 3), (20, .iconst 0, 1), (21, .ireturn, 1)]
def qa_mX10_isLoaded : qa_M := (yX10_isLoaded, cX10_isLoaded, 2, (some .boolean), 10, qa_iX10_isLoaded, 2, 2, 2, 43, [], 1503, 1501, 1502)
def qa_iX10_isOnShow : List (Nat × Instr × Nat) := [(0, .aload_n 0, 1), (1, .iload_n 1, 1), (2, .invokevirtual 120, 3), (5, .ifCond .eq 15, 3), (8, .aload_n 0, 1), (9, .iload_n 1, 1), (10, .invokevirtual 55, 3), (13, .ifCond .eq 7, 3), (16, .iconst 1, 1), (17, .goto 4, 3), (20, .iconst 0, 1), (21, .ireturn, 1)]
def qa_mX10_isOnShow : qa_M := (yX10_isOnShow, cX10_isOnShow, 2, (some .boolean), 10, qa_iX10_isOnShow, 2, 2, 2, 43, [], 1507, 1505, 1506)
def qa_iX10_glowOf : List (Nat × Instr × Nat) := [(0, .aload_n 0, 1), (1, .iload_n 1, 1), (2, .invokevirtual 120, 3), (5, .ifCond .eq 12, 3), (8, .aload_n 0, 1), (9, .iload_n 1, 1), (10, .iconst 4, 1), (11, .invokevirtual 43, 3), (14, .goto 4, 3), (17, .iconst 0, 1), (18, .ireturn, 1)]
def qa_mX10_glowOf : qa_M := (yX10_glowOf, cX10_glowOf, 2, (some .int), 10, qa_iX10_glowOf, 2, 2, 2, 43, [], 1511, 1509, 1510)
def qa_iX10_burntTimes : List (Nat × Instr × Nat) := [(0, .aload_n 0, 1), (1, .iload_n 1, 1), (2, .invokevirtual 120, 3), (5, .ifCond .eq 12, 3), (8, .aload_n 0, 1), (9, .iload_n 1, 1), (10, .iconst 5, 1), (11, .invokevirtual 43, 3), (14, .goto 4, 3), (17, .iconst 0, 1), (18, .ireturn, 1)]
def qa_mX10_burntTimes : qa_M := (yX10_burntTimes, cX10_burntTimes, 2, (some .int), 10, qa_iX10_burntTimes, 2, 2, 2, 43, [], 1515, 1513, 1514)
def qa_iX10_nextUse : List (Nat × Instr × Nat) := [(0, .aload_n 0, 1), (1, .iload_n 1, 1), (2, .invokevirtual 120, 3), (5, .ifCond .ne 5, 3), (8, .iconst 0, 1), (9, .ireturn, 1), (10, .aload_n 0, 1), (11, .iload_n 1, 1), (12, .invokevirtual 51, 3), (15, .aload_n 0, 1), (16, .getfield 7, 3), (19, .bipush 113, 2), (21, .iaload, 1), (22, .if_icmp .le 11, 3), (25, .aload_n 0, 1), (26, .iconst 2, 1), (27, .invokevirtual 114, 3), (30, .goto 8, 3), (33, .aload_n 0, 1), (34, .iload_n 1, 1), (35, .invokevirtual 51, 3), (38, .ireturn, 1)]
def qa_mX10_nextUse : qa_M := (yX10_nextUse, cX10_nextUse, 2, (some .int), 10, qa_iX10_nextUse, 2, 2, 2, 43, [], 1519, 1517, 1518)
def qa_iX10_inOrder : List (Nat × Instr × Nat) := [(0, .iconst 0, 1), (1, .istore_n 2, 1), (2, .iconst 0, 1), (3, .istore_n 3, 1), (4, .iload_n 3, 1), (5, .aload_n 0, 1), (6, .getfield 7, 3), (9, .iconst 0, 1), (10, .iaload, 1), (11, .if_icmp .ge 39, 3), (14, .iload_n 2, 1), (15, .aload_n 0, 1), (16, .iload_n 3, 1), (17, .invokevirtual 58, 3), (20, .ifCond .eq 21, 3), (23, .iload_n 3, 1), (24, .iload_n 1, 1), (25, .if_icmp .eq 16, 3), (28, .aload_n 0, 1), (29, .iload_n 3, 1), (30, .iload_n 1, 1), (31, .invokevirtual 61, 3), (34, .ifCond .eq 7, 3), (37, .iconst 1, 1), (38, .goto 4, 3), (41, .iconst 0, 1), (42, .iadd, 1), (43, .istore_n 2, 1), (44, .iinc 3 1, 3), (47, .goto (-43), 3), (50, .iload_n 2, 1), (51, .ireturn, 1)]
def qa_mX10_inOrder : qa_M := (yX10_inOrder, cX10_inOrder, 4, (some .int), 10, qa_iX10_inOrder, 2, 2, 3, 64, [], 1527, 1526, 45)
def qa_iX10_burnPlace : List (Nat × Instr × Nat) := [(0, .aload_n 0, 1), (1, .iload_n 1, 1), (2, .invokevirtual 120, 3), (5, .ifCond .ne 5, 3), (8, .iconst 0, 1), (9, .ireturn, 1), (10, .aload_n 0, 1), (11, .iload_n 1, 1), (12, .invokevirtual 58, 3), (15, .ifCond .eq 11, 3), (18, .aload_n 0, 1), (19, .iload_n 1, 1), (20, .invokevirtual 180, 3), (23, .goto 8, 3), (26, .aload_n 0, 1), (27, .iconst 2, 1), (28, .invokevirtual 114, 3), (31, .ireturn, 1)]
def qa_mX10_burnPlace : qa_M := (yX10_burnPlace, cX10_burnPlace, 2, (some .int), 10, qa_iX10_burnPlace, 2, 2, 4, 87, [], 1523, 1521, 1522)
def qa_iX10_places : List (Nat × Instr × Nat) := [(0, .aload_n 0, 1), (1, .bipush 113, 2), (3, .invokevirtual 177, 3), (6, .ireturn, 1)]
def qa_mX10_places : qa_M := (yX10_places, cX10_places, 1, (some .int), 10, qa_iX10_places, 1, 2, 1, 21, [], 1531, 1529, 1530)
def qa_iX10_slideAt : List (Nat × Instr × Nat) := [(0, .aload_n 0, 1), (1, .iconst 0, 1), (2, .putfield 32, 3), (5, .iload_n 1, 1), (6, .iconst 0, 1), (7, .aload_n 0, 1), (8, .getfield 7, 3), (11, .bipush 113, 2), (13, .iaload, 1), (14, .iconst 1, 1), (15, .isub, 1), (16, .invokestatic 39, 3), (19, .ifCond .eq 15, 3), (22, .aload_n 0, 1), (23, .getfield 7, 3), (26, .bipush 114, 2), (28, .iload_n 1, 1), (29, .iadd, 1), (30, .iaload, 1), (31, .goto 8, 3), (34, .aload_n 0, 1), (35, .iconst 1, 1), (36, .invokevirtual 114, 3), (39, .ireturn, 1)]
def qa_mX10_slideAt : qa_M := (yX10_slideAt, cX10_slideAt, 2, (some .int), 10, qa_iX10_slideAt, 2, 2, 1, 22, [], 1535, 1533, 1534)
def qa_iX10_told : List (Nat × Instr × Nat) := [(0, .aload_n 0, 1), (1, .aload_n 0, 1), (2, .getfield 7, 3), (5, .iload_n 1, 1), (6, .iaload, 1), (7, .iconst (-1), 1), (8, .if_icmp .ne 7, 3), (11, .iconst 1, 1), (12, .goto 4, 3), (15, .iconst 0, 1), (16, .putfield 32, 3), (19, .aload_n 0, 1), (20, .getfield 32, 3), (23, .ifCond .ne 12, 3), (26, .aload_n 0, 1), (27, .getfield 7, 3), (30, .iload_n 1, 1), (31, .iaload, 1), (32, .goto 4, 3), (35, .iconst 0, 1), (36, .ireturn, 1)]
def qa_mX10_told : qa_M := (yX10_told, cX10_told, 2, (some .int), 10, qa_iX10_told, 2, 2, 0, 0, [], 1543, 1542, 46)
def qa_iX10_showPlace : List (Nat × Instr × Nat) := [(0, .aload_n 0, 1), (1, .sipush 138, 3), (4, .invokevirtual 183, 3), (7, .ireturn, 1)]
def qa_mX10_showPlace : qa_M := (yX10_showPlace, cX10_showPlace, 1, (some .int), 10, qa_iX10_showPlace, 1, 2, 1, 21, [], 1539, 1537, 1538)
def qa_iX10_shown : List (Nat × Instr × Nat) := [(0, .aload_n 0, 1), (1, .sipush 139, 3), (4, .invokevirtual 183, 3), (7, .ireturn, 1)]
def qa_mX10_shown : qa_M := (yX10_shown, cX10_shown, 1, (some .int), 10, qa_iX10_shown, 1, 2, 1, 21, [], 1547, 1545, 1546)
def qa_iX10_fading : List (Nat × Instr × Nat) := [(0, .aload_n 0, 1), (1, .sipush 140, 3), (4, .invokevirtual 183, 3), (7, .ireturn, 1)]
def qa_mX10_fading : qa_M := (yX10_fading, cX10_fading, 1, (some .int), 10, qa_iX10_fading, 1, 2, 1, 21, [], 1551, 1549, 1550)
def qa_iX10_fadeLeft : List (Nat × Instr × Nat) := [(0, .aload_n 0, 1), (1, .sipush 141, 3), (4, .invokevirtual 177, 3), (7, .ireturn, 1)]
def qa_mX10_fadeLeft : qa_M := (yX10_fadeLeft, cX10_fadeLeft, 1, (some .int), 10, qa_iX10_fadeLeft, 1, 2, 1, 21, [], 1555, 1553, 1554)
def qa_iX10_awaited : List (Nat × Instr × Nat) := [(0, .aload_n 0, 1), (1, .sipush 142, 3), (4, .invokevirtual 183, 3), (7, .ireturn, 1)]
def qa_mX10_awaited : qa_M := (yX10_awaited, cX10_awaited, 1, (some .int), 10, qa_iX10_awaited, 1, 2, 1, 21, [], 1559, 1557, 1558)
def qa_iX10_shownFor : List (Nat × Instr × Nat) := [(0, .aload_n 0, 1), (1, .sipush 139, 3), (4, .invokevirtual 183, 3), (7, .istore_n 1, 1), (8, .aload_n 0, 1), (9, .getfield 32, 3), (12, .ifCond .ne 14, 3), (15, .aload_n 0, 1), (16, .getfield 7, 3), (19, .sipush 143, 3), (22, .iaload, 1), (23, .goto 4, 3), (26, .iconst 0, 1), (27, .ireturn, 1)]
def qa_mX10_shownFor : qa_M := (yX10_shownFor, cX10_shownFor, 2, (some .int), 10, qa_iX10_shownFor, 1, 2, 1, 21, [], 1563, 1561, 1562)
def qa_iX10_loading : List (Nat × Instr × Nat) := [(0, .aload_n 0, 1), (1, .sipush 144, 3), (4, .invokevirtual 183, 3), (7, .ireturn, 1)]
def qa_mX10_loading : qa_M := (yX10_loading, cX10_loading, 1, (some .int), 10, qa_iX10_loading, 1, 2, 1, 21, [], 1567, 1565, 1566)
def qa_iX10_loadLeft : List (Nat × Instr × Nat) := [(0, .aload_n 0, 1), (1, .sipush 145, 3), (4, .invokevirtual 177, 3), (7, .ireturn, 1)]
def qa_mX10_loadLeft : qa_M := (yX10_loadLeft, cX10_loadLeft, 1, (some .int), 10, qa_iX10_loadLeft, 1, 2, 1, 21, [], 1571, 1569, 1570)
def qa_iX10_asked : List (Nat × Instr × Nat) := [(0, .aload_n 0, 1), (1, .sipush 146, 3), (4, .invokevirtual 177, 3), (7, .ireturn, 1)]
def qa_mX10_asked : qa_M := (yX10_asked, cX10_asked, 1, (some .int), 10, qa_iX10_asked, 1, 2, 1, 21, [], 1575, 1573, 1574)
def qa_iX10_askedAt : List (Nat × Instr × Nat) := [(0, .aload_n 0, 1), (1, .iconst 0, 1), (2, .putfield 32, 3), (5, .iload_n 1, 1), (6, .iconst 0, 1), (7, .aload_n 0, 1), (8, .getfield 7, 3), (11, .sipush 146, 3), (14, .iaload, 1), (15, .iconst 1, 1), (16, .isub, 1), (17, .invokestatic 39, 3), (20, .ifCond .eq 16, 3), (23, .aload_n 0, 1), (24, .getfield 7, 3), (27, .sipush 147, 3), (30, .iload_n 1, 1), (31, .iadd, 1), (32, .iaload, 1), (33, .goto 8, 3), (36, .aload_n 0, 1), (37, .iconst 1, 1), (38, .invokevirtual 114, 3), (41, .ireturn, 1)]
def qa_mX10_askedAt : qa_M := (yX10_askedAt, cX10_askedAt, 2, (some .int), 10, qa_iX10_askedAt, 2, 2, 1, 22, [], 1579, 1577, 1578)
def qa_iX10_takenBySlides : List (Nat × Instr × Nat) := [(0, .aload_n 0, 1), (1, .iconst 0, 1), (2, .putfield 32, 3), (5, .aload_n 0, 1), (6, .invokevirtual 69, 3), (9, .ireturn, 1)]
def qa_mX10_takenBySlides : qa_M := (yX10_takenBySlides, cX10_takenBySlides, 1, (some .int), 10, qa_iX10_takenBySlides, 1, 2, 3, 65, [], 1583, 1581, 1582)
def qa_iX10_takenByAccount : List (Nat × Instr × Nat) := [(0, .aload_n 0, 1), (1, .iconst 0, 1), (2, .putfield 32, 3), (5, .aload_n 0, 1), (6, .invokevirtual 69, 3), (9, .ireturn, 1)]
def qa_mX10_takenByAccount : qa_M := (yX10_takenByAccount, cX10_takenByAccount, 1, (some .int), 10, qa_iX10_takenByAccount, 1, 2, 3, 65, [], 1587, 1585, 1586)
def qa_iX10_memory : List (Nat × Instr × Nat) := [(0, .aload_n 0, 1), (1, .sipush 163, 3), (4, .invokevirtual 177, 3), (7, .ireturn, 1)]
def qa_mX10_memory : qa_M := (yX10_memory, cX10_memory, 1, (some .int), 10, qa_iX10_memory, 1, 2, 1, 21, [], 1591, 1589, 1590)
def qa_iX10_ahead : List (Nat × Instr × Nat) := [(0, .aload_n 0, 1), (1, .sipush 164, 3), (4, .invokevirtual 177, 3), (7, .ireturn, 1)]
def qa_mX10_ahead : qa_M := (yX10_ahead, cX10_ahead, 1, (some .int), 10, qa_iX10_ahead, 1, 2, 1, 21, [], 1595, 1593, 1594)
def qa_iX10_order : List (Nat × Instr × Nat) := [(0, .aload_n 0, 1), (1, .sipush 165, 3), (4, .invokevirtual 177, 3), (7, .ireturn, 1)]
def qa_mX10_order : qa_M := (yX10_order, cX10_order, 1, (some .int), 10, qa_iX10_order, 1, 2, 1, 21, [], 1599, 1597, 1598)
def qa_iX10_glow : List (Nat × Instr × Nat) := [(0, .aload_n 0, 1), (1, .sipush 166, 3), (4, .invokevirtual 177, 3), (7, .ireturn, 1)]
def qa_mX10_glow : qa_M := (yX10_glow, cX10_glow, 1, (some .int), 10, qa_iX10_glow, 1, 2, 1, 21, [], 1603, 1601, 1602)
def qa_iX10_pace : List (Nat × Instr × Nat) := [(0, .aload_n 0, 1), (1, .sipush 167, 3), (4, .invokevirtual 177, 3), (7, .ireturn, 1)]
def qa_mX10_pace : qa_M := (yX10_pace, cX10_pace, 1, (some .int), 10, qa_iX10_pace, 1, 2, 1, 21, [], 1607, 1605, 1606)
def qa_iX10_untilShown : List (Nat × Instr × Nat) := [(0, .iconst 0, 1), (1, .istore_n 1, 1), (2, .iload_n 1, 1), (3, .sipush 176, 3), (6, .if_icmp .ge 21, 3), (9, .aload_n 0, 1), (10, .getfield 26, 3), (13, .iload_n 1, 1), (14, .aload_n 0, 1), (15, .getfield 7, 3), (18, .iload_n 1, 1), (19, .iaload, 1), (20, .iastore, 1), (21, .iinc 1 1, 3), (24, .goto (-22), 3), (27, .iconst 0, 1), (28, .istore_n 1, 1), (29, .aload_n 0, 1), (30, .getfield 7, 3), (33, .sipush 142, 3), (36, .iaload, 1), (37, .iconst (-1), 1), (38, .if_icmp .eq 13, 3), (41, .aload_n 0, 1), (42, .invokevirtual 111, 3), (45, .iinc 1 1, 3), (48, .goto (-19), 3), (51, .iconst 0, 1), (52, .istore_n 2, 1), (53, .iload_n 2, 1), (54, .sipush 176, 3), (57, .if_icmp .ge 21, 3), (60, .aload_n 0, 1), (61, .getfield 7, 3), (64, .iload_n 2, 1), (65, .aload_n 0, 1), (66, .getfield 26, 3), (69, .iload_n 2, 1), (70, .iaload, 1), (71, .iastore, 1), (72, .iinc 2 1, 3), (75, .goto (-22), 3), (78, .iload_n 1, 1), (79, .ireturn, 1)]
def qa_mX10_untilShown : qa_M := (yX10_untilShown, cX10_untilShown, 3, (some .int), 10, qa_iX10_untilShown, 1, 2, 8, 175, [], 1619, 1618, 48)
def qa_iX10_toldTicks : List (Nat × Instr × Nat) := [(0, .aload_n 0, 1), (1, .sipush 142, 3), (4, .invokevirtual 183, 3), (7, .istore_n 1, 1), (8, .aload_n 0, 1), (9, .getfield 32, 3), (12, .ifCond .ne 10, 3), (15, .aload_n 0, 1), (16, .invokevirtual 186, 3), (19, .goto 4, 3), (22, .iconst 0, 1), (23, .ireturn, 1)]
def qa_mX10_toldTicks : qa_M := (yX10_toldTicks, cX10_toldTicks, 2, (some .int), 10, qa_iX10_toldTicks, 1, 2, 9, 197, [], 1615, 1614, 47)
def qa_iX10_ticksToShowByTicks : List (Nat × Instr × Nat) := [(0, .aload_n 0, 1), (1, .invokevirtual 189, 3), (4, .ireturn, 1)]
def qa_mX10_ticksToShowByTicks : qa_M := (yX10_ticksToShowByTicks, cX10_ticksToShowByTicks, 1, (some .int), 10, qa_iX10_ticksToShowByTicks, 1, 2, 10, 218, [], 1611, 1609, 1610)
def qa_iX10_ticksToShowBySums : List (Nat × Instr × Nat) := [(0, .aload_n 0, 1), (1, .invokevirtual 189, 3), (4, .ireturn, 1)]
def qa_mX10_ticksToShowBySums : qa_M := (yX10_ticksToShowBySums, cX10_ticksToShowBySums, 1, (some .int), 10, qa_iX10_ticksToShowBySums, 1, 2, 10, 218, [], 1623, 1621, 1622)
def qa_iX10_burningsOf : List (Nat × Instr × Nat) := [(0, .aload_n 0, 1), (1, .iload_n 1, 1), (2, .invokevirtual 47, 3), (5, .ifCond .ne 15, 3), (8, .aload_n 0, 1), (9, .getfield 7, 3), (12, .sipush 144, 3), (15, .iaload, 1), (16, .iload_n 1, 1), (17, .if_icmp .ne 5, 3), (20, .iconst 0, 1), (21, .ireturn, 1), (22, .aload_n 0, 1), (23, .invokevirtual 171, 3), (26, .aload_n 0, 1), (27, .aload_n 0, 1), (28, .iload_n 1, 1), (29, .iconst 0, 1), (30, .invokevirtual 43, 3), (33, .invokevirtual 79, 3), (36, .istore_n 2, 1), (37, .aload_n 0, 1), (38, .invokevirtual 174, 3), (41, .iload_n 2, 1), (42, .ireturn, 1)]
def qa_mX10_burningsOf : qa_M := (yX10_burningsOf, cX10_burningsOf, 3, (some .int), 10, qa_iX10_burningsOf, 2, 2, 5, 109, [], 1631, 1630, 49)
def qa_iX10_burningsFor : List (Nat × Instr × Nat) := [(0, .aload_n 0, 1), (1, .iload_n 1, 1), (2, .invokevirtual 120, 3), (5, .ifCond .eq 11, 3), (8, .aload_n 0, 1), (9, .iload_n 1, 1), (10, .invokevirtual 192, 3), (13, .goto 4, 3), (16, .iconst 0, 1), (17, .ireturn, 1)]
def qa_mX10_burningsFor : qa_M := (yX10_burningsFor, cX10_burningsFor, 2, (some .int), 10, qa_iX10_burningsFor, 2, 2, 6, 131, [], 1627, 1625, 1626)
def qa_iX10_missing : List (Nat × Instr × Nat) := [(0, .aload_n 0, 1), (1, .invokevirtual 171, 3), (4, .aload_n 0, 1), (5, .getfield 7, 3), (8, .sipush 170, 3), (11, .iaload, 1), (12, .istore_n 2, 1), (13, .aload_n 0, 1), (14, .getfield 7, 3), (17, .sipush 165, 3), (20, .iload_n 1, 1), (21, .iastore, 1), (22, .aload_n 0, 1), (23, .getfield 7, 3), (26, .sipush 167, 3), (29, .iconst 0, 1), (30, .iastore, 1), (31, .iconst 0, 1), (32, .istore_n 3, 1), (33, .iload_n 3, 1), (34, .aload_n 0, 1), (35, .getfield 7, 3), (38, .bipush 113, 2), (40, .iaload, 1), (41, .if_icmp .ge 46, 3), (44, .aload_n 0, 1), (45, .invokevirtual 101, 3), (48, .istore 4, 2), (50, .aload_n 0, 1), (51, .invokevirtual 105, 3), (54, .aload_n 0, 1), (55, .getfield 7, 3), (58, .sipush 142, 3), (61, .iaload, 1), (62, .iconst (-1), 1), (63, .if_icmp .eq 10, 3), (66, .aload_n 0, 1), (67, .invokevirtual 111, 3), (70, .goto (-16), 3), (73, .aload_n 0, 1), (74, .bipush 10, 2), (76, .invokevirtual 135, 3), (79, .istore 5, 2), (81, .iinc 3 1, 3), (84, .goto (-51), 3), (87, .aload_n 0, 1), (88, .getfield 7, 3), (91, .sipush 170, 3), (94, .iaload, 1), (95, .iload_n 2, 1), (96, .isub, 1), (97, .istore_n 3, 1), (98, .aload_n 0, 1), (99, .invokevirtual 174, 3), (102, .iload_n 3, 1), (103, .ireturn, 1)]
def qa_mX10_missing : qa_M := (yX10_missing, cX10_missing, 6, (some .int), 10, qa_iX10_missing, 2, 2, 9, 197, [], 1639, 1638, 50)
def qa_iX10_missesWith : List (Nat × Instr × Nat) := [(0, .aload_n 0, 1), (1, .iload_n 1, 1), (2, .iconst 0, 1), (3, .iconst 2, 1), (4, .invokestatic 39, 3), (7, .ifCond .ne 7, 3), (10, .iconst 1, 1), (11, .goto 15, 3), (14, .aload_n 0, 1), (15, .invokevirtual 126, 3), (18, .ifCond .eq 7, 3), (21, .iconst 0, 1), (22, .goto 4, 3), (25, .iconst 2, 1), (26, .putfield 32, 3), (29, .aload_n 0, 1), (30, .getfield 32, 3), (33, .ifCond .ne 11, 3), (36, .aload_n 0, 1), (37, .iload_n 1, 1), (38, .invokevirtual 195, 3), (41, .goto 4, 3), (44, .iconst 0, 1), (45, .ireturn, 1)]
def qa_mX10_missesWith : qa_M := (yX10_missesWith, cX10_missesWith, 2, (some .int), 10, qa_iX10_missesWith, 2, 2, 10, 222, [], 1635, 1633, 1634)
def qa_iX10_bestOrder : List (Nat × Instr × Nat) := [(0, .aload_n 0, 1), (1, .aload_n 0, 1), (2, .invokevirtual 126, 3), (5, .ifCond .eq 7, 3), (8, .iconst 0, 1), (9, .goto 4, 3), (12, .iconst 1, 1), (13, .putfield 32, 3), (16, .iconst 0, 1), (17, .istore_n 1, 1), (18, .iconst 1, 1), (19, .istore_n 2, 1), (20, .iload_n 2, 1), (21, .iconst 3, 1), (22, .if_icmp .ge 35, 3), (25, .aload_n 0, 1), (26, .getfield 32, 3), (29, .ifCond .ne 28, 3), (32, .aload_n 0, 1), (33, .iload_n 2, 1), (34, .invokevirtual 195, 3), (37, .aload_n 0, 1), (38, .iload_n 1, 1), (39, .invokevirtual 195, 3), (42, .if_icmp .ge 7, 3), (45, .iload_n 2, 1), (46, .goto 4, 3), (49, .iload_n 1, 1), (50, .istore_n 1, 1), (51, .iinc 2 1, 3), (54, .goto (-34), 3), (57, .iload_n 1, 1), (58, .ireturn, 1)]
def qa_mX10_bestOrder : qa_M := (yX10_bestOrder, cX10_bestOrder, 3, (some .int), 10, qa_iX10_bestOrder, 1, 2, 10, 222, [], 1643, 1641, 1642)
def qa_iX10_loads : List (Nat × Instr × Nat) := [(0, .aload_n 0, 1), (1, .sipush 171, 3), (4, .invokevirtual 177, 3), (7, .ireturn, 1)]
def qa_mX10_loads : qa_M := (yX10_loads, cX10_loads, 1, (some .int), 10, qa_iX10_loads, 1, 2, 1, 21, [], 1647, 1645, 1646)
def qa_iX10_burnings : List (Nat × Instr × Nat) := [(0, .aload_n 0, 1), (1, .sipush 173, 3), (4, .invokevirtual 177, 3), (7, .ireturn, 1)]
def qa_mX10_burnings : qa_M := (yX10_burnings, cX10_burnings, 1, (some .int), 10, qa_iX10_burnings, 1, 2, 1, 21, [], 1651, 1649, 1650)
def qa_iX10_time : List (Nat × Instr × Nat) := [(0, .aload_n 0, 1), (1, .sipush 168, 3), (4, .invokevirtual 177, 3), (7, .ireturn, 1)]
def qa_mX10_time : qa_M := (yX10_time, cX10_time, 1, (some .int), 10, qa_iX10_time, 1, 2, 1, 21, [], 1655, 1653, 1654)
def qa_iX10_hits : List (Nat × Instr × Nat) := [(0, .aload_n 0, 1), (1, .sipush 169, 3), (4, .invokevirtual 177, 3), (7, .ireturn, 1)]
def qa_mX10_hits : qa_M := (yX10_hits, cX10_hits, 1, (some .int), 10, qa_iX10_hits, 1, 2, 1, 21, [], 1659, 1657, 1658)
def qa_iX10_misses : List (Nat × Instr × Nat) := [(0, .aload_n 0, 1), (1, .sipush 170, 3), (4, .invokevirtual 177, 3), (7, .ireturn, 1)]
def qa_mX10_misses : qa_M := (yX10_misses, cX10_misses, 1, (some .int), 10, qa_iX10_misses, 1, 2, 1, 21, [], 1663, 1661, 1662)
def qa_iX10_warmLoads : List (Nat × Instr × Nat) := [(0, .aload_n 0, 1), (1, .sipush 172, 3), (4, .invokevirtual 177, 3), (7, .ireturn, 1)]
def qa_mX10_warmLoads : qa_M := (yX10_warmLoads, cX10_warmLoads, 1, (some .int), 10, qa_iX10_warmLoads, 1, 2, 1, 21, [], 1667, 1665, 1666)
def qa_iX10_waited : List (Nat × Instr × Nat) := [(0, .aload_n 0, 1), (1, .sipush 174, 3), (4, .invokevirtual 177, 3), (7, .ireturn, 1)]
def qa_mX10_waited : qa_M := (yX10_waited, cX10_waited, 1, (some .int), 10, qa_iX10_waited, 1, 2, 1, 21, [], 1671, 1669, 1670)
def qa_iX10_share : List (Nat × Instr × Nat) := [(0, .aload_n 0, 1), (1, .getfield 7, 3), (4, .sipush 169, 3), (7, .iaload, 1), (8, .aload_n 0, 1), (9, .getfield 7, 3), (12, .sipush 170, 3), (15, .iaload, 1), (16, .iadd, 1), (17, .istore_n 1, 1), (18, .iload_n 1, 1), (19, .ifCond .ne 7, 3), (22, .dconst 0, 1), (23, .goto 15, 3), (26, .aload_n 0, 1), (27, .getfield 7, 3), (30, .sipush 169, 3), (33, .iaload, 1), (34, .i2d, 1), (35, .iload_n 1, 1), (36, .i2d, 1), (37, .ddiv, 1), (38, .dreturn, 1)]
def qa_mX10_share : qa_M := (yX10_share, cX10_share, 2, (some .double), 10, qa_iX10_share, 1, 2, 0, 0, [], 1679, 1678, 51)
def qa_iX10_hitShare : List (Nat × Instr × Nat) := [(0, .aload_n 0, 1), (1, .iconst 0, 1), (2, .putfield 32, 3), (5, .aload_n 0, 1), (6, .invokevirtual 198, 3), (9, .dreturn, 1)]
def qa_mX10_hitShare : qa_M := (yX10_hitShare, cX10_hitShare, 1, (some .double), 10, qa_iX10_hitShare, 1, 2, 1, 21, [], 1675, 1673, 1674)
def qa_iX10_bitsOf : List (Nat × Instr × Nat) := [(0, .dload_n 0, 1), (1, .dconst 0, 1), (2, .dcmp .l, 1), (3, .ifCond .ne 5, 3), (6, .lconst 0, 1), (7, .lreturn, 1), (8, .dload_n 0, 1), (9, .dstore 4, 2), (11, .iload_n 3, 1), (12, .istore 6, 2), (14, .dload 4, 2), (16, .ldc2_w 202, 3), (19, .dcmp .l, 1), (20, .ifCond .lt 17, 3), (23, .dload 4, 2), (25, .ldc2_w 202, 3), (28, .ddiv, 1), (29, .dstore 4, 2), (31, .iinc 6 1, 3), (34, .goto (-20), 3), (37, .dload 4, 2), (39, .dconst 1, 1), (40, .dcmp .g, 1), (41, .ifCond .ge 17, 3), (44, .dload 4, 2), (46, .ldc2_w 202, 3), (49, .dmul, 1), (50, .dstore 4, 2), (52, .iinc 6 (-1), 3), (55, .goto (-18), 3), (58, .dload 4, 2), (60, .dconst 1, 1), (61, .dsub, 1), (62, .dstore 7, 2), (64, .iload 6, 2), (66, .i2l, 1), (67, .lstore 9, 2), (69, .iconst 0, 1), (70, .istore 11, 2), (72, .iload 11, 2), (74, .iload_n 2, 1), (75, .if_icmp .ge 50, 3), (78, .dload 7, 2), (80, .ldc2_w 202, 3), (83, .dmul, 1), (84, .dstore 7, 2), (86, .dload 7, 2), (88, .dconst 1, 1), (89, .dcmp .l, 1), (90, .ifCond .lt 7, 3), (93, .lconst 1, 1), (94, .goto 4, 3), (97, .lconst 0, 1), (98, .lstore 12, 2), (100, .dload 7, 2), (102, .lload 12, 2), (104, .l2d, 1), (105, .dsub, 1), (106, .dstore 7, 2), (108, .ldc2_w 204, 3), (111, .lload 9, 2), (113, .lmul, 1), (114, .lload 12, 2), (116, .ladd, 1), (117, .lstore 9, 2), (119, .iinc 11 1, 3), (122, .goto (-50), 3), (125, .lload 9, 2), (127, .lreturn, 1)]
def qa_mX10_bitsOf : qa_M := (yX10_bitsOf, cX10_bitsOf, 14, (some .long), 10, qa_iX10_bitsOf, 3, 1, 0, 0, [], 1696, 1695, 0)
def qa_iX10_mix : List (Nat × Instr × Nat) := [(0, .aload_n 0, 1), (1, .ldc2_w 206, 3), (4, .aload_n 0, 1), (5, .getfield 208, 3), (8, .lmul, 1), (9, .lload_n 1, 1), (10, .ladd, 1), (11, .putfield 208, 3), (14, .return_, 1)]
def qa_mX10_mix : qa_M := (yX10_mix, cX10_mix, 3, none, 10, qa_iX10_mix, 2, 2, 0, 0, [], 1688, 1687, 52)
def qa_iX10_mixesSlide : List (Nat × Instr × Nat) := [(0, .aload_n 0, 1), (1, .aload_n 0, 1), (2, .iload_n 1, 1), (3, .iconst 0, 1), (4, .invokevirtual 43, 3), (7, .i2l, 1), (8, .invokevirtual 212, 3), (11, .aload_n 0, 1), (12, .aload_n 0, 1), (13, .iload_n 1, 1), (14, .invokevirtual 82, 3), (17, .i2l, 1), (18, .invokevirtual 212, 3), (21, .aload_n 0, 1), (22, .aload_n 0, 1), (23, .iload_n 1, 1), (24, .iconst 2, 1), (25, .invokevirtual 43, 3), (28, .i2l, 1), (29, .invokevirtual 212, 3), (32, .aload_n 0, 1), (33, .aload_n 0, 1), (34, .iload_n 1, 1), (35, .iconst 3, 1), (36, .invokevirtual 43, 3), (39, .i2l, 1), (40, .invokevirtual 212, 3), (43, .aload_n 0, 1), (44, .aload_n 0, 1), (45, .iload_n 1, 1), (46, .invokevirtual 55, 3), (49, .ifCond .eq 7, 3), (52, .lconst 1, 1), (53, .goto 4, 3), (56, .lconst 0, 1), (57, .invokevirtual 212, 3), (60, .aload_n 0, 1), (61, .aload_n 0, 1), (62, .iload_n 1, 1), (63, .iconst 4, 1), (64, .invokevirtual 43, 3), (67, .i2l, 1), (68, .invokevirtual 212, 3), (71, .aload_n 0, 1), (72, .aload_n 0, 1), (73, .iload_n 1, 1), (74, .iconst 5, 1), (75, .invokevirtual 43, 3), (78, .i2l, 1), (79, .invokevirtual 212, 3), (82, .aload_n 0, 1), (83, .aload_n 0, 1), (84, .iload_n 1, 1), (85, .invokevirtual 51, 3), (88, .aload_n 0, 1), (89, .getfield 7, 3), (92, .bipush 113, 2), (94, .iaload, 1), (95, .if_icmp .le 7, 3), (98, .lconst 0, 1), (99, .goto 9, 3), (102, .aload_n 0, 1), (103, .iload_n 1, 1), (104, .invokevirtual 51, 3), (107, .i2l, 1), (108, .invokevirtual 212, 3), (111, .aload_n 0, 1), (112, .aload_n 0, 1), (113, .iload_n 1, 1), (114, .invokevirtual 58, 3), (117, .ifCond .eq 14, 3), (120, .aload_n 0, 1), (121, .iload_n 1, 1), (122, .invokevirtual 180, 3), (125, .iconst 1, 1), (126, .iadd, 1), (127, .i2l, 1), (128, .goto 4, 3), (131, .lconst 0, 1), (132, .invokevirtual 212, 3), (135, .aload_n 0, 1), (136, .aload_n 0, 1), (137, .iload_n 1, 1), (138, .invokevirtual 192, 3), (141, .i2l, 1), (142, .invokevirtual 212, 3), (145, .return_, 1)]
def qa_mX10_mixesSlide : qa_M := (yX10_mixesSlide, cX10_mixesSlide, 2, none, 10, qa_iX10_mixesSlide, 2, 2, 6, 131, [], 1693, 1692, 53)
def qa_iX10_digest : List (Nat × Instr × Nat) := [(0, .aload_n 0, 1), (1, .iconst 0, 1), (2, .putfield 32, 3), (5, .aload_n 0, 1), (6, .ldc2_w 216, 3), (9, .putfield 208, 3), (12, .aload_n 0, 1), (13, .aload_n 0, 1), (14, .getfield 7, 3), (17, .iconst 0, 1), (18, .iaload, 1), (19, .i2l, 1), (20, .invokevirtual 212, 3), (23, .iconst 0, 1), (24, .istore_n 1, 1), (25, .iload_n 1, 1), (26, .aload_n 0, 1), (27, .getfield 7, 3), (30, .iconst 0, 1), (31, .iaload, 1), (32, .if_icmp .ge 14, 3), (35, .aload_n 0, 1), (36, .iload_n 1, 1), (37, .invokevirtual 218, 3), (40, .iinc 1 1, 3), (43, .goto (-18), 3), (46, .aload_n 0, 1), (47, .aload_n 0, 1), (48, .getfield 7, 3), (51, .bipush 113, 2), (53, .iaload, 1), (54, .i2l, 1), (55, .invokevirtual 212, 3), (58, .iconst 0, 1), (59, .istore_n 1, 1), (60, .iload_n 1, 1), (61, .aload_n 0, 1), (62, .getfield 7, 3), (65, .bipush 113, 2), (67, .iaload, 1), (68, .if_icmp .ge 23, 3), (71, .aload_n 0, 1), (72, .aload_n 0, 1), (73, .getfield 7, 3), (76, .bipush 114, 2), (78, .iload_n 1, 1), (79, .iadd, 1), (80, .iaload, 1), (81, .i2l, 1), (82, .invokevirtual 212, 3), (85, .iinc 1 1, 3), (88, .goto (-28), 3), (91, .aload_n 0, 1), (92, .aload_n 0, 1), (93, .getfield 7, 3), (96, .sipush 138, 3), (99, .iaload, 1), (100, .iconst 1, 1), (101, .iadd, 1), (102, .i2l, 1), (103, .invokevirtual 212, 3), (106, .aload_n 0, 1), (107, .aload_n 0, 1), (108, .getfield 7, 3), (111, .sipush 139, 3), (114, .iaload, 1), (115, .iconst 1, 1), (116, .iadd, 1), (117, .i2l, 1), (118, .invokevirtual 212, 3), (121, .aload_n 0, 1), (122, .aload_n 0, 1), (123, .getfield 7, 3), (126, .sipush 140, 3), (129, .iaload, 1), (130, .iconst 1, 1), (131, .iadd, 1), (132, .i2l, 1), (133, .invokevirtual 212, 3), (136, .aload_n 0, 1), (137, .aload_n 0, 1), (138, .getfield 7, 3), (141, .sipush 141, 3), (144, .iaload, 1), (145, .i2l, 1), (146, .invokevirtual 212, 3), (149, .aload_n 0, 1), (150, .aload_n 0, 1), (151, .getfield 7, 3), (154, .sipush 142, 3), (157, .iaload, 1), (158, .iconst 1, 1), (159, .iadd, 1), (160, .i2l, 1), (161, .invokevirtual 212, 3), (164, .aload_n 0, 1), (165, .aload_n 0, 1), (166, .getfield 7, 3), (169, .sipush 139, 3), (172, .iaload, 1), (173, .iconst (-1), 1), (174, .if_icmp .ne 7, 3), (177, .lconst 0, 1), (178, .goto 12, 3), (181, .aload_n 0, 1), (182, .getfield 7, 3), (185, .sipush 143, 3), (188, .iaload, 1), (189, .i2l, 1), (190, .invokevirtual 212, 3), (193, .aload_n 0, 1), (194, .aload_n 0, 1), (195, .getfield 7, 3), (198, .sipush 144, 3), (201, .iaload, 1), (202, .iconst 1, 1), (203, .iadd, 1), (204, .i2l, 1), (205, .invokevirtual 212, 3), (208, .aload_n 0, 1), (209, .aload_n 0, 1), (210, .getfield 7, 3), (213, .sipush 145, 3), (216, .iaload, 1), (217, .i2l, 1), (218, .invokevirtual 212, 3), (221, .aload_n 0, 1), (222, .aload_n 0, 1), (223, .getfield 7, 3), (226, .sipush 146, 3), (229, .iaload, 1), (230, .i2l, 1), (231, .invokevirtual 212, 3), (234, .iconst 0, 1), (235, .istore_n 1, 1), (236, .iload_n 1, 1), (237, .aload_n 0, 1), (238, .getfield 7, 3), (241, .sipush 146, 3), (244, .iaload, 1), (245, .if_icmp .ge 24, 3), (248, .aload_n 0, 1), (249, .aload_n 0, 1), (250, .getfield 7, 3), (253, .sipush 147, 3), (256, .iload_n 1, 1), (257, .iadd, 1), (258, .iaload, 1), (259, .i2l, 1), (260, .invokevirtual 212, 3), (263, .iinc 1 1, 3), (266, .goto (-30), 3), (269, .aload_n 0, 1), (270, .aload_n 0, 1), (271, .invokevirtual 69, 3), (274, .i2l, 1), (275, .invokevirtual 212, 3), (278, .aload_n 0, 1), (279, .aload_n 0, 1), (280, .invokevirtual 69, 3), (283, .i2l, 1), (284, .invokevirtual 212, 3), (287, .sipush 163, 3), (290, .istore_n 1, 1), (291, .iload_n 1, 1), (292, .sipush 167, 3), (295, .if_icmp .gt 20, 3), (298, .aload_n 0, 1), (299, .aload_n 0, 1), (300, .getfield 7, 3), (303, .iload_n 1, 1), (304, .iaload, 1), (305, .i2l, 1), (306, .invokevirtual 212, 3), (309, .iinc 1 1, 3), (312, .goto (-21), 3), (315, .aload_n 0, 1), (316, .getfield 7, 3), (319, .sipush 142, 3), (322, .iaload, 1), (323, .iconst (-1), 1), (324, .if_icmp .ne 7, 3), (327, .iconst 0, 1), (328, .goto 7, 3), (331, .aload_n 0, 1), (332, .invokevirtual 186, 3), (335, .istore_n 1, 1), (336, .aload_n 0, 1), (337, .iload_n 1, 1), (338, .i2l, 1), (339, .invokevirtual 212, 3), (342, .aload_n 0, 1), (343, .iload_n 1, 1), (344, .i2l, 1), (345, .invokevirtual 212, 3), (348, .sipush 168, 3), (351, .istore_n 2, 1), (352, .iload_n 2, 1), (353, .sipush 174, 3), (356, .if_icmp .gt 20, 3), (359, .aload_n 0, 1), (360, .aload_n 0, 1), (361, .getfield 7, 3), (364, .iload_n 2, 1), (365, .iaload, 1), (366, .i2l, 1), (367, .invokevirtual 212, 3), (370, .iinc 2 1, 3), (373, .goto (-21), 3), (376, .aload_n 0, 1), (377, .aload_n 0, 1), (378, .getfield 36, 3), (381, .i2l, 1), (382, .invokevirtual 212, 3), (385, .aload_n 0, 1), (386, .aload_n 0, 1), (387, .invokevirtual 198, 3), (390, .bipush 52, 2), (392, .sipush 1023, 3), (395, .invokestatic 221, 3), (398, .invokevirtual 212, 3), (401, .aload_n 0, 1), (402, .aload_n 0, 1), (403, .getfield 19, 3), (406, .iconst 0, 1), (407, .baload, 1), (408, .ifCond .eq 7, 3), (411, .lconst 1, 1), (412, .goto 4, 3), (415, .lconst 0, 1), (416, .invokevirtual 212, 3), (419, .aload_n 0, 1), (420, .aload_n 0, 1), (421, .getfield 19, 3), (424, .iconst 1, 1), (425, .baload, 1), (426, .ifCond .eq 7, 3), (429, .lconst 1, 1), (430, .goto 4, 3), (433, .lconst 0, 1), (434, .invokevirtual 212, 3), (437, .aload_n 0, 1), (438, .aload_n 0, 1), (439, .getfield 142, 3), (442, .i2l, 1), (443, .invokevirtual 212, 3), (446, .iconst 0, 1), (447, .istore_n 2, 1), (448, .iload_n 2, 1), (449, .aload_n 0, 1), (450, .getfield 142, 3), (453, .if_icmp .ge 20, 3), (456, .aload_n 0, 1), (457, .aload_n 0, 1), (458, .getfield 29, 3), (461, .iload_n 2, 1), (462, .iaload, 1), (463, .i2l, 1), (464, .invokevirtual 212, 3), (467, .iinc 2 1, 3), (470, .goto (-22), 3), (473, .aload_n 0, 1), (474, .getfield 208, 3), (477, .lreturn, 1)]
def qa_mX10_digest : qa_M := (yX10_digest, cX10_digest, 3, (some .long), 10, qa_iX10_digest, 1, 2, 9, 197, [], 1683, 1681, 1682)
def qa_iL_addSlide : List (Nat × Instr × Nat) := [(0, .aload 4, 2), (2, .iconst 0, 1), (3, .aload_n 0, 1), (4, .iload_n 1, 1), (5, .iload_n 2, 1), (6, .iload_n 3, 1), (7, .invokevirtual 7, 3), (10, .i2l, 1), (11, .lastore, 1), (12, .goto 11, 3), (15, .astore 5, 2), (17, .iconst 1, 1), (18, .ireturn, 1), (19, .astore 5, 2), (21, .iconst 2, 1), (22, .ireturn, 1), (23, .iconst 0, 1), (24, .ireturn, 1)]
def qa_mL_addSlide : qa_M := (yL_addSlide, cL_addSlide, 6, (some .int), 11, qa_iL_addSlide, 5, 1, 8, 136, [(0, 12, 15, 13), (0, 12, 19, 15)], 723, 722, 0)
def qa_iL_insert : List (Nat × Instr × Nat) := [(0, .aload_n 3, 1), (1, .iconst 0, 1), (2, .aload_n 0, 1), (3, .iload_n 1, 1), (4, .iload_n 2, 1), (5, .invokevirtual 17, 3), (8, .i2l, 1), (9, .lastore, 1), (10, .goto 11, 3), (13, .astore 4, 2), (15, .iconst 1, 1), (16, .ireturn, 1), (17, .astore 4, 2), (19, .iconst 2, 1), (20, .ireturn, 1), (21, .iconst 0, 1), (22, .ireturn, 1)]
def qa_mL_insert : qa_M := (yL_insert, cL_insert, 5, (some .int), 11, qa_iL_insert, 4, 1, 8, 134, [(0, 10, 13, 21), (0, 10, 17, 15)], 829, 828, 0)
def qa_iL_takeOut : List (Nat × Instr × Nat) := [(0, .aload_n 2, 1), (1, .iconst 0, 1), (2, .aload_n 0, 1), (3, .iload_n 1, 1), (4, .invokevirtual 23, 3), (7, .i2l, 1), (8, .lastore, 1), (9, .goto 6, 3), (12, .astore_n 3, 1), (13, .iconst 1, 1), (14, .ireturn, 1), (15, .iconst 0, 1), (16, .ireturn, 1)]
def qa_mL_takeOut : qa_M := (yL_takeOut, cL_takeOut, 4, (some .int), 11, qa_iL_takeOut, 3, 1, 8, 134, [(0, 9, 12, 21)], 864, 863, 0)
def qa_iL_goOn : List (Nat × Instr × Nat) := [(0, .aload_n 1, 1), (1, .iconst 0, 1), (2, .aload_n 0, 1), (3, .invokevirtual 27, 3), (6, .ifCond .eq 7, 3), (9, .lconst 1, 1), (10, .goto 4, 3), (13, .lconst 0, 1), (14, .lastore, 1), (15, .goto 6, 3), (18, .astore_n 2, 1), (19, .iconst 1, 1), (20, .ireturn, 1), (21, .iconst 0, 1), (22, .ireturn, 1)]
def qa_mL_goOn : qa_M := (yL_goOn, cL_goOn, 3, (some .int), 11, qa_iL_goOn, 2, 1, 8, 133, [(0, 15, 18, 15)], 879, 878, 0)
def qa_iL_ask : List (Nat × Instr × Nat) := [(0, .aload_n 2, 1), (1, .iconst 0, 1), (2, .aload_n 0, 1), (3, .iload_n 1, 1), (4, .invokevirtual 31, 3), (7, .i2l, 1), (8, .lastore, 1), (9, .goto 9, 3), (12, .astore_n 3, 1), (13, .iconst 1, 1), (14, .ireturn, 1), (15, .astore_n 3, 1), (16, .iconst 2, 1), (17, .ireturn, 1), (18, .iconst 0, 1), (19, .ireturn, 1)]
def qa_mL_ask : qa_M := (yL_ask, cL_ask, 4, (some .int), 11, qa_iL_ask, 3, 1, 8, 133, [(0, 9, 12, 21), (0, 9, 15, 15)], 888, 887, 0)
def qa_iL_burn : List (Nat × Instr × Nat) := [(0, .aload_n 2, 1), (1, .iconst 0, 1), (2, .aload_n 0, 1), (3, .iload_n 1, 1), (4, .invokevirtual 34, 3), (7, .i2l, 1), (8, .lastore, 1), (9, .goto 9, 3), (12, .astore_n 3, 1), (13, .iconst 1, 1), (14, .ireturn, 1), (15, .astore_n 3, 1), (16, .iconst 2, 1), (17, .ireturn, 1), (18, .iconst 0, 1), (19, .ireturn, 1)]
def qa_mL_burn : qa_M := (yL_burn, cL_burn, 4, (some .int), 11, qa_iL_burn, 3, 1, 8, 133, [(0, 9, 12, 21), (0, 9, 15, 15)], 903, 902, 0)
def qa_iL_tick : List (Nat × Instr × Nat) := [(0, .aload_n 2, 1), (1, .iconst 0, 1), (2, .aload_n 0, 1), (3, .iload_n 1, 1), (4, .invokevirtual 37, 3), (7, .i2l, 1), (8, .lastore, 1), (9, .goto 6, 3), (12, .astore_n 3, 1), (13, .iconst 1, 1), (14, .ireturn, 1), (15, .iconst 0, 1), (16, .ireturn, 1)]
def qa_mL_tick : qa_M := (yL_tick, cL_tick, 4, (some .int), 11, qa_iL_tick, 3, 1, 8, 177, [(0, 9, 12, 13)], 912, 911, 0)
def qa_iL_changeMemory : List (Nat × Instr × Nat) := [(0, .aload_n 2, 1), (1, .iconst 0, 1), (2, .aload_n 0, 1), (3, .iload_n 1, 1), (4, .invokevirtual 40, 3), (7, .i2l, 1), (8, .lastore, 1), (9, .goto 6, 3), (12, .astore_n 3, 1), (13, .iconst 1, 1), (14, .ireturn, 1), (15, .iconst 0, 1), (16, .ireturn, 1)]
def qa_mL_changeMemory : qa_M := (yL_changeMemory, cL_changeMemory, 4, (some .int), 11, qa_iL_changeMemory, 3, 1, 8, 134, [(0, 9, 12, 13)], 924, 923, 0)
def qa_iL_changeAhead : List (Nat × Instr × Nat) := [(0, .aload_n 2, 1), (1, .iconst 0, 1), (2, .aload_n 0, 1), (3, .iload_n 1, 1), (4, .invokevirtual 43, 3), (7, .i2l, 1), (8, .lastore, 1), (9, .goto 6, 3), (12, .astore_n 3, 1), (13, .iconst 1, 1), (14, .ireturn, 1), (15, .iconst 0, 1), (16, .ireturn, 1)]
def qa_mL_changeAhead : qa_M := (yL_changeAhead, cL_changeAhead, 4, (some .int), 11, qa_iL_changeAhead, 3, 1, 8, 134, [(0, 9, 12, 13)], 932, 931, 0)
def qa_iL_changeOrder : List (Nat × Instr × Nat) := [(0, .aload_n 2, 1), (1, .iconst 0, 1), (2, .aload_n 0, 1), (3, .iload_n 1, 1), (4, .invokevirtual 46, 3), (7, .i2l, 1), (8, .lastore, 1), (9, .goto 6, 3), (12, .astore_n 3, 1), (13, .iconst 1, 1), (14, .ireturn, 1), (15, .iconst 0, 1), (16, .ireturn, 1)]
def qa_mL_changeOrder : qa_M := (yL_changeOrder, cL_changeOrder, 4, (some .int), 11, qa_iL_changeOrder, 3, 1, 8, 134, [(0, 9, 12, 13)], 939, 938, 0)
def qa_iL_changeGlow : List (Nat × Instr × Nat) := [(0, .aload_n 2, 1), (1, .iconst 0, 1), (2, .aload_n 0, 1), (3, .iload_n 1, 1), (4, .invokevirtual 49, 3), (7, .i2l, 1), (8, .lastore, 1), (9, .goto 6, 3), (12, .astore_n 3, 1), (13, .iconst 1, 1), (14, .ireturn, 1), (15, .iconst 0, 1), (16, .ireturn, 1)]
def qa_mL_changeGlow : qa_M := (yL_changeGlow, cL_changeGlow, 4, (some .int), 11, qa_iL_changeGlow, 3, 1, 8, 134, [(0, 9, 12, 13)], 946, 945, 0)
def qa_iL_changePace : List (Nat × Instr × Nat) := [(0, .aload_n 2, 1), (1, .iconst 0, 1), (2, .aload_n 0, 1), (3, .iload_n 1, 1), (4, .invokevirtual 52, 3), (7, .i2l, 1), (8, .lastore, 1), (9, .goto 6, 3), (12, .astore_n 3, 1), (13, .iconst 1, 1), (14, .ireturn, 1), (15, .iconst 0, 1), (16, .ireturn, 1)]
def qa_mL_changePace : qa_M := (yL_changePace, cL_changePace, 4, (some .int), 11, qa_iL_changePace, 3, 1, 8, 134, [(0, 9, 12, 13)], 953, 952, 0)
def qa_iL_append : List (Nat × Instr × Nat) := [(0, .aload_n 2, 1), (1, .iconst 0, 1), (2, .aload_n 0, 1), (3, .iload_n 1, 1), (4, .invokevirtual 55, 3), (7, .i2l, 1), (8, .lastore, 1), (9, .goto 9, 3), (12, .astore_n 3, 1), (13, .iconst 1, 1), (14, .ireturn, 1), (15, .astore_n 3, 1), (16, .iconst 2, 1), (17, .ireturn, 1), (18, .iconst 0, 1), (19, .ireturn, 1)]
def qa_mL_append : qa_M := (yL_append, cL_append, 4, (some .int), 11, qa_iL_append, 3, 1, 8, 131, [(0, 9, 12, 13), (0, 9, 15, 15)], 960, 959, 0)
def qa_iL_follow : List (Nat × Instr × Nat) := [(0, .aload_n 1, 1), (1, .iconst 0, 1), (2, .aload_n 0, 1), (3, .invokevirtual 58, 3), (6, .i2l, 1), (7, .lastore, 1), (8, .goto 9, 3), (11, .astore_n 2, 1), (12, .iconst 1, 1), (13, .ireturn, 1), (14, .astore_n 2, 1), (15, .iconst 2, 1), (16, .ireturn, 1), (17, .iconst 0, 1), (18, .ireturn, 1)]
def qa_mL_follow : qa_M := (yL_follow, cL_follow, 3, (some .int), 11, qa_iL_follow, 2, 1, 8, 177, [(0, 8, 11, 13), (0, 8, 14, 15)], 972, 971, 0)
def qa_iL_keep : List (Nat × Instr × Nat) := [(0, .aload_n 0, 1), (1, .iload_n 1, 1), (2, .invokevirtual 62, 3), (5, .goto 6, 3), (8, .astore_n 2, 1), (9, .iconst 1, 1), (10, .ireturn, 1), (11, .iconst 0, 1), (12, .ireturn, 1)]
def qa_mL_keep : qa_M := (yL_keep, cL_keep, 3, (some .int), 11, qa_iL_keep, 2, 1, 8, 131, [(0, 5, 8, 13)], 1016, 1015, 0)
def qa_iL_goBack : List (Nat × Instr × Nat) := [(0, .aload_n 0, 1), (1, .iload_n 1, 1), (2, .invokevirtual 66, 3), (5, .goto 9, 3), (8, .astore_n 2, 1), (9, .iconst 1, 1), (10, .ireturn, 1), (11, .astore_n 2, 1), (12, .iconst 2, 1), (13, .ireturn, 1), (14, .iconst 0, 1), (15, .ireturn, 1)]
def qa_mL_goBack : qa_M := (yL_goBack, cL_goBack, 3, (some .int), 11, qa_iL_goBack, 2, 1, 8, 131, [(0, 5, 8, 13), (0, 5, 11, 15)], 1023, 1022, 0)
def qa_iL_undo : List (Nat × Instr × Nat) := [(0, .aload_n 0, 1), (1, .invokevirtual 69, 3), (4, .goto 6, 3), (7, .astore_n 1, 1), (8, .iconst 1, 1), (9, .ireturn, 1), (10, .iconst 0, 1), (11, .ireturn, 1)]
def qa_mL_undo : qa_M := (yL_undo, cL_undo, 2, (some .int), 11, qa_iL_undo, 1, 1, 8, 130, [(0, 4, 7, 15)], 1030, 1029, 0)
def qa_iL_costOf : List (Nat × Instr × Nat) := [(0, .aload_n 2, 1), (1, .iconst 0, 1), (2, .aload_n 0, 1), (3, .iload_n 1, 1), (4, .invokevirtual 72, 3), (7, .i2l, 1), (8, .lastore, 1), (9, .goto 6, 3), (12, .astore_n 3, 1), (13, .iconst 1, 1), (14, .ireturn, 1), (15, .iconst 0, 1), (16, .ireturn, 1)]
def qa_mL_costOf : qa_M := (yL_costOf, cL_costOf, 4, (some .int), 11, qa_iL_costOf, 3, 1, 8, 131, [(0, 9, 12, 21)], 1041, 1040, 0)
def qa_iL_loadOf : List (Nat × Instr × Nat) := [(0, .aload_n 2, 1), (1, .iconst 0, 1), (2, .aload_n 0, 1), (3, .iload_n 1, 1), (4, .invokevirtual 75, 3), (7, .i2l, 1), (8, .lastore, 1), (9, .goto 6, 3), (12, .astore_n 3, 1), (13, .iconst 1, 1), (14, .ireturn, 1), (15, .iconst 0, 1), (16, .ireturn, 1)]
def qa_mL_loadOf : qa_M := (yL_loadOf, cL_loadOf, 4, (some .int), 11, qa_iL_loadOf, 3, 1, 8, 131, [(0, 9, 12, 21)], 1048, 1047, 0)
def qa_iL_fadeOf : List (Nat × Instr × Nat) := [(0, .aload_n 2, 1), (1, .iconst 0, 1), (2, .aload_n 0, 1), (3, .iload_n 1, 1), (4, .invokevirtual 78, 3), (7, .i2l, 1), (8, .lastore, 1), (9, .goto 6, 3), (12, .astore_n 3, 1), (13, .iconst 1, 1), (14, .ireturn, 1), (15, .iconst 0, 1), (16, .ireturn, 1)]
def qa_mL_fadeOf : qa_M := (yL_fadeOf, cL_fadeOf, 4, (some .int), 11, qa_iL_fadeOf, 3, 1, 8, 131, [(0, 9, 12, 21)], 1055, 1054, 0)
def qa_iL_isLoaded : List (Nat × Instr × Nat) := [(0, .aload_n 2, 1), (1, .iconst 0, 1), (2, .aload_n 0, 1), (3, .iload_n 1, 1), (4, .invokevirtual 81, 3), (7, .ifCond .eq 7, 3), (10, .lconst 1, 1), (11, .goto 4, 3), (14, .lconst 0, 1), (15, .lastore, 1), (16, .goto 6, 3), (19, .astore_n 3, 1), (20, .iconst 1, 1), (21, .ireturn, 1), (22, .iconst 0, 1), (23, .ireturn, 1)]
def qa_mL_isLoaded : qa_M := (yL_isLoaded, cL_isLoaded, 4, (some .int), 11, qa_iL_isLoaded, 3, 1, 8, 131, [(0, 16, 19, 21)], 1062, 1061, 0)
def qa_iL_isOnShow : List (Nat × Instr × Nat) := [(0, .aload_n 2, 1), (1, .iconst 0, 1), (2, .aload_n 0, 1), (3, .iload_n 1, 1), (4, .invokevirtual 85, 3), (7, .ifCond .eq 7, 3), (10, .lconst 1, 1), (11, .goto 4, 3), (14, .lconst 0, 1), (15, .lastore, 1), (16, .goto 6, 3), (19, .astore_n 3, 1), (20, .iconst 1, 1), (21, .ireturn, 1), (22, .iconst 0, 1), (23, .ireturn, 1)]
def qa_mL_isOnShow : qa_M := (yL_isOnShow, cL_isOnShow, 4, (some .int), 11, qa_iL_isOnShow, 3, 1, 8, 131, [(0, 16, 19, 21)], 1069, 1068, 0)
def qa_iL_glowOf : List (Nat × Instr × Nat) := [(0, .aload_n 2, 1), (1, .iconst 0, 1), (2, .aload_n 0, 1), (3, .iload_n 1, 1), (4, .invokevirtual 88, 3), (7, .i2l, 1), (8, .lastore, 1), (9, .goto 6, 3), (12, .astore_n 3, 1), (13, .iconst 1, 1), (14, .ireturn, 1), (15, .iconst 0, 1), (16, .ireturn, 1)]
def qa_mL_glowOf : qa_M := (yL_glowOf, cL_glowOf, 4, (some .int), 11, qa_iL_glowOf, 3, 1, 8, 131, [(0, 9, 12, 21)], 1076, 1075, 0)
def qa_iL_burntTimes : List (Nat × Instr × Nat) := [(0, .aload_n 2, 1), (1, .iconst 0, 1), (2, .aload_n 0, 1), (3, .iload_n 1, 1), (4, .invokevirtual 91, 3), (7, .i2l, 1), (8, .lastore, 1), (9, .goto 6, 3), (12, .astore_n 3, 1), (13, .iconst 1, 1), (14, .ireturn, 1), (15, .iconst 0, 1), (16, .ireturn, 1)]
def qa_mL_burntTimes : qa_M := (yL_burntTimes, cL_burntTimes, 4, (some .int), 11, qa_iL_burntTimes, 3, 1, 8, 131, [(0, 9, 12, 21)], 1083, 1082, 0)
def qa_iL_nextUse : List (Nat × Instr × Nat) := [(0, .aload_n 2, 1), (1, .iconst 0, 1), (2, .aload_n 0, 1), (3, .iload_n 1, 1), (4, .invokevirtual 94, 3), (7, .i2l, 1), (8, .lastore, 1), (9, .goto 9, 3), (12, .astore_n 3, 1), (13, .iconst 1, 1), (14, .ireturn, 1), (15, .astore_n 3, 1), (16, .iconst 2, 1), (17, .ireturn, 1), (18, .iconst 0, 1), (19, .ireturn, 1)]
def qa_mL_nextUse : qa_M := (yL_nextUse, cL_nextUse, 4, (some .int), 11, qa_iL_nextUse, 3, 1, 8, 132, [(0, 9, 12, 21), (0, 9, 15, 15)], 1090, 1089, 0)
def qa_iL_burnPlace : List (Nat × Instr × Nat) := [(0, .aload_n 2, 1), (1, .iconst 0, 1), (2, .aload_n 0, 1), (3, .iload_n 1, 1), (4, .invokevirtual 97, 3), (7, .i2l, 1), (8, .lastore, 1), (9, .goto 9, 3), (12, .astore_n 3, 1), (13, .iconst 1, 1), (14, .ireturn, 1), (15, .astore_n 3, 1), (16, .iconst 2, 1), (17, .ireturn, 1), (18, .iconst 0, 1), (19, .ireturn, 1)]
def qa_mL_burnPlace : qa_M := (yL_burnPlace, cL_burnPlace, 4, (some .int), 11, qa_iL_burnPlace, 3, 1, 8, 132, [(0, 9, 12, 21), (0, 9, 15, 15)], 1097, 1096, 0)
def qa_iL_slideAt : List (Nat × Instr × Nat) := [(0, .aload_n 2, 1), (1, .iconst 0, 1), (2, .aload_n 0, 1), (3, .iload_n 1, 1), (4, .invokevirtual 100, 3), (7, .i2l, 1), (8, .lastore, 1), (9, .goto 6, 3), (12, .astore_n 3, 1), (13, .iconst 1, 1), (14, .ireturn, 1), (15, .iconst 0, 1), (16, .ireturn, 1)]
def qa_mL_slideAt : qa_M := (yL_slideAt, cL_slideAt, 4, (some .int), 11, qa_iL_slideAt, 3, 1, 8, 131, [(0, 9, 12, 21)], 1104, 1103, 0)
def qa_iL_showPlace : List (Nat × Instr × Nat) := [(0, .aload_n 1, 1), (1, .iconst 0, 1), (2, .aload_n 0, 1), (3, .invokevirtual 103, 3), (6, .i2l, 1), (7, .lastore, 1), (8, .goto 6, 3), (11, .astore_n 2, 1), (12, .iconst 1, 1), (13, .ireturn, 1), (14, .iconst 0, 1), (15, .ireturn, 1)]
def qa_mL_showPlace : qa_M := (yL_showPlace, cL_showPlace, 3, (some .int), 11, qa_iL_showPlace, 2, 1, 8, 130, [(0, 8, 11, 15)], 1111, 1110, 0)
def qa_iL_shown : List (Nat × Instr × Nat) := [(0, .aload_n 1, 1), (1, .iconst 0, 1), (2, .aload_n 0, 1), (3, .invokevirtual 106, 3), (6, .i2l, 1), (7, .lastore, 1), (8, .goto 6, 3), (11, .astore_n 2, 1), (12, .iconst 1, 1), (13, .ireturn, 1), (14, .iconst 0, 1), (15, .ireturn, 1)]
def qa_mL_shown : qa_M := (yL_shown, cL_shown, 3, (some .int), 11, qa_iL_shown, 2, 1, 8, 130, [(0, 8, 11, 15)], 1118, 1117, 0)
def qa_iL_fading : List (Nat × Instr × Nat) := [(0, .aload_n 1, 1), (1, .iconst 0, 1), (2, .aload_n 0, 1), (3, .invokevirtual 109, 3), (6, .i2l, 1), (7, .lastore, 1), (8, .goto 6, 3), (11, .astore_n 2, 1), (12, .iconst 1, 1), (13, .ireturn, 1), (14, .iconst 0, 1), (15, .ireturn, 1)]
def qa_mL_fading : qa_M := (yL_fading, cL_fading, 3, (some .int), 11, qa_iL_fading, 2, 1, 8, 130, [(0, 8, 11, 15)], 1125, 1124, 0)
def qa_iL_awaited : List (Nat × Instr × Nat) := [(0, .aload_n 1, 1), (1, .iconst 0, 1), (2, .aload_n 0, 1), (3, .invokevirtual 112, 3), (6, .i2l, 1), (7, .lastore, 1), (8, .goto 6, 3), (11, .astore_n 2, 1), (12, .iconst 1, 1), (13, .ireturn, 1), (14, .iconst 0, 1), (15, .ireturn, 1)]
def qa_mL_awaited : qa_M := (yL_awaited, cL_awaited, 3, (some .int), 11, qa_iL_awaited, 2, 1, 8, 130, [(0, 8, 11, 15)], 1132, 1131, 0)
def qa_iL_shownFor : List (Nat × Instr × Nat) := [(0, .aload_n 1, 1), (1, .iconst 0, 1), (2, .aload_n 0, 1), (3, .invokevirtual 115, 3), (6, .i2l, 1), (7, .lastore, 1), (8, .goto 6, 3), (11, .astore_n 2, 1), (12, .iconst 1, 1), (13, .ireturn, 1), (14, .iconst 0, 1), (15, .ireturn, 1)]
def qa_mL_shownFor : qa_M := (yL_shownFor, cL_shownFor, 3, (some .int), 11, qa_iL_shownFor, 2, 1, 8, 130, [(0, 8, 11, 15)], 1139, 1138, 0)
def qa_iL_loading : List (Nat × Instr × Nat) := [(0, .aload_n 1, 1), (1, .iconst 0, 1), (2, .aload_n 0, 1), (3, .invokevirtual 118, 3), (6, .i2l, 1), (7, .lastore, 1), (8, .goto 6, 3), (11, .astore_n 2, 1), (12, .iconst 1, 1), (13, .ireturn, 1), (14, .iconst 0, 1), (15, .ireturn, 1)]
def qa_mL_loading : qa_M := (yL_loading, cL_loading, 3, (some .int), 11, qa_iL_loading, 2, 1, 8, 130, [(0, 8, 11, 15)], 1146, 1145, 0)
def qa_iL_askedAt : List (Nat × Instr × Nat) := [(0, .aload_n 2, 1), (1, .iconst 0, 1), (2, .aload_n 0, 1), (3, .iload_n 1, 1), (4, .invokevirtual 121, 3), (7, .i2l, 1), (8, .lastore, 1), (9, .goto 6, 3), (12, .astore_n 3, 1), (13, .iconst 1, 1), (14, .ireturn, 1), (15, .iconst 0, 1), (16, .ireturn, 1)]
def qa_mL_askedAt : qa_M := (yL_askedAt, cL_askedAt, 4, (some .int), 11, qa_iL_askedAt, 3, 1, 8, 131, [(0, 9, 12, 21)], 1153, 1152, 0)
def qa_iL_ticksToShowByTicks : List (Nat × Instr × Nat) := [(0, .aload_n 1, 1), (1, .iconst 0, 1), (2, .aload_n 0, 1), (3, .invokevirtual 124, 3), (6, .i2l, 1), (7, .lastore, 1), (8, .goto 6, 3), (11, .astore_n 2, 1), (12, .iconst 1, 1), (13, .ireturn, 1), (14, .iconst 0, 1), (15, .ireturn, 1)]
def qa_mL_ticksToShowByTicks : qa_M := (yL_ticksToShowByTicks, cL_ticksToShowByTicks, 3, (some .int), 11, qa_iL_ticksToShowByTicks, 2, 1, 8, 174, [(0, 8, 11, 15)], 1160, 1159, 0)
def qa_iL_ticksToShowBySums : List (Nat × Instr × Nat) := [(0, .aload_n 1, 1), (1, .iconst 0, 1), (2, .aload_n 0, 1), (3, .invokevirtual 127, 3), (6, .i2l, 1), (7, .lastore, 1), (8, .goto 6, 3), (11, .astore_n 2, 1), (12, .iconst 1, 1), (13, .ireturn, 1), (14, .iconst 0, 1), (15, .ireturn, 1)]
def qa_mL_ticksToShowBySums : qa_M := (yL_ticksToShowBySums, cL_ticksToShowBySums, 3, (some .int), 11, qa_iL_ticksToShowBySums, 2, 1, 8, 130, [(0, 8, 11, 15)], 1167, 1166, 0)
def qa_iL_burningsFor : List (Nat × Instr × Nat) := [(0, .aload_n 2, 1), (1, .iconst 0, 1), (2, .aload_n 0, 1), (3, .iload_n 1, 1), (4, .invokevirtual 130, 3), (7, .i2l, 1), (8, .lastore, 1), (9, .goto 6, 3), (12, .astore_n 3, 1), (13, .iconst 1, 1), (14, .ireturn, 1), (15, .iconst 0, 1), (16, .ireturn, 1)]
def qa_mL_burningsFor : qa_M := (yL_burningsFor, cL_burningsFor, 4, (some .int), 11, qa_iL_burningsFor, 3, 1, 8, 131, [(0, 9, 12, 21)], 1174, 1173, 0)
def qa_iL_missesWith : List (Nat × Instr × Nat) := [(0, .aload_n 2, 1), (1, .iconst 0, 1), (2, .aload_n 0, 1), (3, .iload_n 1, 1), (4, .invokevirtual 133, 3), (7, .i2l, 1), (8, .lastore, 1), (9, .goto 9, 3), (12, .astore_n 3, 1), (13, .iconst 1, 1), (14, .ireturn, 1), (15, .astore_n 3, 1), (16, .iconst 2, 1), (17, .ireturn, 1), (18, .iconst 0, 1), (19, .ireturn, 1)]
def qa_mL_missesWith : qa_M := (yL_missesWith, cL_missesWith, 4, (some .int), 11, qa_iL_missesWith, 3, 1, 8, 178, [(0, 9, 12, 13), (0, 9, 15, 15)], 1181, 1180, 0)
def qa_iL_bestOrder : List (Nat × Instr × Nat) := [(0, .aload_n 1, 1), (1, .iconst 0, 1), (2, .aload_n 0, 1), (3, .invokevirtual 136, 3), (6, .i2l, 1), (7, .lastore, 1), (8, .goto 6, 3), (11, .astore_n 2, 1), (12, .iconst 1, 1), (13, .ireturn, 1), (14, .iconst 0, 1), (15, .ireturn, 1)]
def qa_mL_bestOrder : qa_M := (yL_bestOrder, cL_bestOrder, 3, (some .int), 11, qa_iL_bestOrder, 2, 1, 8, 181, [(0, 8, 11, 15)], 1192, 1191, 0)
def qa_iL_law_0 : List (Nat × Instr × Nat) := [(0, .new 8, 3), (3, .dup, 1), (4, .invokespecial 139, 3), (7, .astore_n 1, 1), (8, .new 140, 3), (11, .dup, 1), (12, .invokespecial 142, 3), (15, .astore_n 2, 1), (16, .iconst 1, 1), (17, .newarray .long, 2), (19, .astore_n 3, 1), (20, .iconst 0, 1), (21, .istore 4, 2), (23, .iload 4, 2), (25, .aload_n 0, 1), (26, .arraylength, 1), (27, .iconst 4, 1), (28, .isub, 1), (29, .if_icmp .gt 2659, 3), (32, .aload_n 0, 1), (33, .iload 4, 2), (35, .iaload, 1), (36, .bipush 63, 2), (38, .iand, 1), (39, .tableswitch 2643 0 62 #[265, 345, 413, 469, 520, 576, 632, 688, 744, 800, 856, 912, 968, 1024, 1037, 1050, 1094, 1130, 1166, 1190, 1203, 1216, 1272, 1328, 1384, 1447, 1510, 1566, 1622, 1678, 1734, 1747, 1803, 1847, 1891, 1935, 1948, 1992, 2036, 2080, 2093, 2106, 2162, 2175, 2188, 2201, 2214, 2227, 2240, 2253, 2297, 2341, 2397, 2453, 2497, 2510, 2523, 2536, 2549, 2562, 2575, 2588, 2629], 265), (304, .aload_n 1, 1), (305, .aload_n 0, 1), (306, .iload 4, 2), (308, .iconst 1, 1), (309, .iadd, 1), (310, .iaload, 1), (311, .aload_n 0, 1), (312, .iload 4, 2), (314, .iconst 2, 1), (315, .iadd, 1), (316, .iaload, 1), (317, .aload_n 0, 1), (318, .iload 4, 2), (320, .iconst 3, 1), (321, .iadd, 1), (322, .iaload, 1), (323, .aload_n 3, 1), (324, .invokestatic 143, 3), (327, .istore 5, 2), (329, .aload_n 2, 1), (330, .aload_n 0, 1), (331, .iload 4, 2), (333, .iconst 1, 1), (334, .iadd, 1), (335, .iaload, 1), (336, .aload_n 0, 1), (337, .iload 4, 2), (339, .iconst 2, 1), (340, .iadd, 1), (341, .iaload, 1), (342, .aload_n 0, 1), (343, .iload 4, 2), (345, .iconst 3, 1), (346, .iadd, 1), (347, .iaload, 1)]
def qa_iL_law_1 : List (Nat × Instr × Nat) := [(348, .invokevirtual 148, 3), (351, .istore 6, 2), (353, .aload_n 2, 1), (354, .invokevirtual 149, 3), (357, .iload 5, 2), (359, .if_icmp .eq 5, 3), (362, .iconst 0, 1), (363, .ireturn, 1), (364, .iload 5, 2), (366, .ifCond .ne 15, 3), (369, .aload_n 3, 1), (370, .iconst 0, 1), (371, .laload, 1), (372, .iload 6, 2), (374, .i2l, 1), (375, .lcmp, 1), (376, .ifCond .eq 5, 3), (379, .iconst 0, 1), (380, .ireturn, 1), (381, .goto 2301, 3), (384, .aload_n 1, 1), (385, .aload_n 0, 1), (386, .iload 4, 2), (388, .iconst 1, 1), (389, .iadd, 1), (390, .iaload, 1), (391, .aload_n 0, 1), (392, .iload 4, 2), (394, .iconst 2, 1), (395, .iadd, 1), (396, .iaload, 1), (397, .aload_n 3, 1), (398, .invokestatic 152, 3), (401, .istore 5, 2), (403, .aload_n 2, 1), (404, .aload_n 0, 1), (405, .iload 4, 2), (407, .iconst 1, 1), (408, .iadd, 1), (409, .iaload, 1), (410, .aload_n 0, 1), (411, .iload 4, 2), (413, .iconst 2, 1), (414, .iadd, 1), (415, .iaload, 1), (416, .invokevirtual 155, 3), (419, .istore 6, 2), (421, .aload_n 2, 1), (422, .invokevirtual 149, 3), (425, .iload 5, 2), (427, .if_icmp .eq 5, 3), (430, .iconst 0, 1), (431, .ireturn, 1), (432, .iload 5, 2), (434, .ifCond .ne 15, 3), (437, .aload_n 3, 1), (438, .iconst 0, 1), (439, .laload, 1), (440, .iload 6, 2), (442, .i2l, 1)]
def qa_iL_law_2 : List (Nat × Instr × Nat) := [(443, .lcmp, 1), (444, .ifCond .eq 5, 3), (447, .iconst 0, 1), (448, .ireturn, 1), (449, .goto 2233, 3), (452, .aload_n 1, 1), (453, .aload_n 0, 1), (454, .iload 4, 2), (456, .iconst 1, 1), (457, .iadd, 1), (458, .iaload, 1), (459, .aload_n 3, 1), (460, .invokestatic 156, 3), (463, .istore 5, 2), (465, .aload_n 2, 1), (466, .aload_n 0, 1), (467, .iload 4, 2), (469, .iconst 1, 1), (470, .iadd, 1), (471, .iaload, 1), (472, .invokevirtual 159, 3), (475, .istore 6, 2), (477, .aload_n 2, 1), (478, .invokevirtual 149, 3), (481, .iload 5, 2), (483, .if_icmp .eq 5, 3), (486, .iconst 0, 1), (487, .ireturn, 1), (488, .iload 5, 2), (490, .ifCond .ne 15, 3), (493, .aload_n 3, 1), (494, .iconst 0, 1), (495, .laload, 1), (496, .iload 6, 2), (498, .i2l, 1), (499, .lcmp, 1), (500, .ifCond .eq 5, 3), (503, .iconst 0, 1), (504, .ireturn, 1), (505, .goto 2177, 3), (508, .aload_n 1, 1), (509, .aload_n 3, 1), (510, .invokestatic 160, 3), (513, .istore 5, 2), (515, .aload_n 2, 1), (516, .invokevirtual 163, 3), (519, .istore 6, 2), (521, .aload_n 2, 1), (522, .invokevirtual 149, 3), (525, .iload 5, 2), (527, .if_icmp .eq 5, 3), (530, .iconst 0, 1), (531, .ireturn, 1), (532, .iload 5, 2), (534, .ifCond .ne 22, 3), (537, .aload_n 3, 1), (538, .iconst 0, 1), (539, .laload, 1), (540, .iload 6, 2), (542, .ifCond .eq 7, 3)]
def qa_iL_law_3 : List (Nat × Instr × Nat) := [(545, .lconst 1, 1), (546, .goto 4, 3), (549, .lconst 0, 1), (550, .lcmp, 1), (551, .ifCond .eq 5, 3), (554, .iconst 0, 1), (555, .ireturn, 1), (556, .goto 2126, 3), (559, .aload_n 1, 1), (560, .aload_n 0, 1), (561, .iload 4, 2), (563, .iconst 1, 1), (564, .iadd, 1), (565, .iaload, 1), (566, .aload_n 3, 1), (567, .invokestatic 164, 3), (570, .istore 5, 2), (572, .aload_n 2, 1), (573, .aload_n 0, 1), (574, .iload 4, 2), (576, .iconst 1, 1), (577, .iadd, 1), (578, .iaload, 1), (579, .invokevirtual 166, 3), (582, .istore 6, 2), (584, .aload_n 2, 1), (585, .invokevirtual 149, 3), (588, .iload 5, 2), (590, .if_icmp .eq 5, 3), (593, .iconst 0, 1), (594, .ireturn, 1), (595, .iload 5, 2), (597, .ifCond .ne 15, 3), (600, .aload_n 3, 1), (601, .iconst 0, 1), (602, .laload, 1), (603, .iload 6, 2), (605, .i2l, 1), (606, .lcmp, 1), (607, .ifCond .eq 5, 3), (610, .iconst 0, 1), (611, .ireturn, 1), (612, .goto 2070, 3), (615, .aload_n 1, 1), (616, .aload_n 0, 1), (617, .iload 4, 2), (619, .iconst 1, 1), (620, .iadd, 1), (621, .iaload, 1), (622, .aload_n 3, 1), (623, .invokestatic 167, 3), (626, .istore 5, 2), (628, .aload_n 2, 1), (629, .aload_n 0, 1), (630, .iload 4, 2), (632, .iconst 1, 1), (633, .iadd, 1), (634, .iaload, 1), (635, .invokevirtual 169, 3), (638, .istore 6, 2)]
def qa_iL_law_4 : List (Nat × Instr × Nat) := [(640, .aload_n 2, 1), (641, .invokevirtual 149, 3), (644, .iload 5, 2), (646, .if_icmp .eq 5, 3), (649, .iconst 0, 1), (650, .ireturn, 1), (651, .iload 5, 2), (653, .ifCond .ne 15, 3), (656, .aload_n 3, 1), (657, .iconst 0, 1), (658, .laload, 1), (659, .iload 6, 2), (661, .i2l, 1), (662, .lcmp, 1), (663, .ifCond .eq 5, 3), (666, .iconst 0, 1), (667, .ireturn, 1), (668, .goto 2014, 3), (671, .aload_n 1, 1), (672, .aload_n 0, 1), (673, .iload 4, 2), (675, .iconst 1, 1), (676, .iadd, 1), (677, .iaload, 1), (678, .aload_n 3, 1), (679, .invokestatic 170, 3), (682, .istore 5, 2), (684, .aload_n 2, 1), (685, .aload_n 0, 1), (686, .iload 4, 2), (688, .iconst 1, 1), (689, .iadd, 1), (690, .iaload, 1), (691, .invokevirtual 172, 3), (694, .istore 6, 2), (696, .aload_n 2, 1), (697, .invokevirtual 149, 3), (700, .iload 5, 2), (702, .if_icmp .eq 5, 3), (705, .iconst 0, 1), (706, .ireturn, 1), (707, .iload 5, 2), (709, .ifCond .ne 15, 3), (712, .aload_n 3, 1), (713, .iconst 0, 1), (714, .laload, 1), (715, .iload 6, 2), (717, .i2l, 1), (718, .lcmp, 1), (719, .ifCond .eq 5, 3), (722, .iconst 0, 1), (723, .ireturn, 1), (724, .goto 1958, 3), (727, .aload_n 1, 1), (728, .aload_n 0, 1), (729, .iload 4, 2), (731, .iconst 1, 1), (732, .iadd, 1), (733, .iaload, 1), (734, .aload_n 3, 1)]
def qa_iL_law_5 : List (Nat × Instr × Nat) := [(735, .invokestatic 173, 3), (738, .istore 5, 2), (740, .aload_n 2, 1), (741, .aload_n 0, 1), (742, .iload 4, 2), (744, .iconst 1, 1), (745, .iadd, 1), (746, .iaload, 1), (747, .invokevirtual 175, 3), (750, .istore 6, 2), (752, .aload_n 2, 1), (753, .invokevirtual 149, 3), (756, .iload 5, 2), (758, .if_icmp .eq 5, 3), (761, .iconst 0, 1), (762, .ireturn, 1), (763, .iload 5, 2), (765, .ifCond .ne 15, 3), (768, .aload_n 3, 1), (769, .iconst 0, 1), (770, .laload, 1), (771, .iload 6, 2), (773, .i2l, 1), (774, .lcmp, 1), (775, .ifCond .eq 5, 3), (778, .iconst 0, 1), (779, .ireturn, 1), (780, .goto 1902, 3), (783, .aload_n 1, 1), (784, .aload_n 0, 1), (785, .iload 4, 2), (787, .iconst 1, 1), (788, .iadd, 1), (789, .iaload, 1), (790, .aload_n 3, 1), (791, .invokestatic 176, 3), (794, .istore 5, 2), (796, .aload_n 2, 1), (797, .aload_n 0, 1), (798, .iload 4, 2), (800, .iconst 1, 1), (801, .iadd, 1), (802, .iaload, 1), (803, .invokevirtual 178, 3), (806, .istore 6, 2), (808, .aload_n 2, 1), (809, .invokevirtual 149, 3), (812, .iload 5, 2), (814, .if_icmp .eq 5, 3), (817, .iconst 0, 1), (818, .ireturn, 1), (819, .iload 5, 2), (821, .ifCond .ne 15, 3), (824, .aload_n 3, 1), (825, .iconst 0, 1), (826, .laload, 1), (827, .iload 6, 2), (829, .i2l, 1), (830, .lcmp, 1), (831, .ifCond .eq 5, 3)]
def qa_iL_law_6 : List (Nat × Instr × Nat) := [(834, .iconst 0, 1), (835, .ireturn, 1), (836, .goto 1846, 3), (839, .aload_n 1, 1), (840, .aload_n 0, 1), (841, .iload 4, 2), (843, .iconst 1, 1), (844, .iadd, 1), (845, .iaload, 1), (846, .aload_n 3, 1), (847, .invokestatic 179, 3), (850, .istore 5, 2), (852, .aload_n 2, 1), (853, .aload_n 0, 1), (854, .iload 4, 2), (856, .iconst 1, 1), (857, .iadd, 1), (858, .iaload, 1), (859, .invokevirtual 181, 3), (862, .istore 6, 2), (864, .aload_n 2, 1), (865, .invokevirtual 149, 3), (868, .iload 5, 2), (870, .if_icmp .eq 5, 3), (873, .iconst 0, 1), (874, .ireturn, 1), (875, .iload 5, 2), (877, .ifCond .ne 15, 3), (880, .aload_n 3, 1), (881, .iconst 0, 1), (882, .laload, 1), (883, .iload 6, 2), (885, .i2l, 1), (886, .lcmp, 1), (887, .ifCond .eq 5, 3), (890, .iconst 0, 1), (891, .ireturn, 1), (892, .goto 1790, 3), (895, .aload_n 1, 1), (896, .aload_n 0, 1), (897, .iload 4, 2), (899, .iconst 1, 1), (900, .iadd, 1), (901, .iaload, 1), (902, .aload_n 3, 1), (903, .invokestatic 182, 3), (906, .istore 5, 2), (908, .aload_n 2, 1), (909, .aload_n 0, 1), (910, .iload 4, 2), (912, .iconst 1, 1), (913, .iadd, 1), (914, .iaload, 1), (915, .invokevirtual 184, 3), (918, .istore 6, 2), (920, .aload_n 2, 1), (921, .invokevirtual 149, 3), (924, .iload 5, 2), (926, .if_icmp .eq 5, 3), (929, .iconst 0, 1)]
def qa_iL_law_7 : List (Nat × Instr × Nat) := [(930, .ireturn, 1), (931, .iload 5, 2), (933, .ifCond .ne 15, 3), (936, .aload_n 3, 1), (937, .iconst 0, 1), (938, .laload, 1), (939, .iload 6, 2), (941, .i2l, 1), (942, .lcmp, 1), (943, .ifCond .eq 5, 3), (946, .iconst 0, 1), (947, .ireturn, 1), (948, .goto 1734, 3), (951, .aload_n 1, 1), (952, .aload_n 0, 1), (953, .iload 4, 2), (955, .iconst 1, 1), (956, .iadd, 1), (957, .iaload, 1), (958, .aload_n 3, 1), (959, .invokestatic 185, 3), (962, .istore 5, 2), (964, .aload_n 2, 1), (965, .aload_n 0, 1), (966, .iload 4, 2), (968, .iconst 1, 1), (969, .iadd, 1), (970, .iaload, 1), (971, .invokevirtual 187, 3), (974, .istore 6, 2), (976, .aload_n 2, 1), (977, .invokevirtual 149, 3), (980, .iload 5, 2), (982, .if_icmp .eq 5, 3), (985, .iconst 0, 1), (986, .ireturn, 1), (987, .iload 5, 2), (989, .ifCond .ne 15, 3), (992, .aload_n 3, 1), (993, .iconst 0, 1), (994, .laload, 1), (995, .iload 6, 2), (997, .i2l, 1), (998, .lcmp, 1), (999, .ifCond .eq 5, 3), (1002, .iconst 0, 1), (1003, .ireturn, 1), (1004, .goto 1678, 3), (1007, .aload_n 1, 1), (1008, .aload_n 0, 1), (1009, .iload 4, 2), (1011, .iconst 1, 1), (1012, .iadd, 1), (1013, .iaload, 1), (1014, .aload_n 3, 1), (1015, .invokestatic 188, 3), (1018, .istore 5, 2), (1020, .aload_n 2, 1), (1021, .aload_n 0, 1), (1022, .iload 4, 2)]
def qa_iL_law_8 : List (Nat × Instr × Nat) := [(1024, .iconst 1, 1), (1025, .iadd, 1), (1026, .iaload, 1), (1027, .invokevirtual 190, 3), (1030, .istore 6, 2), (1032, .aload_n 2, 1), (1033, .invokevirtual 149, 3), (1036, .iload 5, 2), (1038, .if_icmp .eq 5, 3), (1041, .iconst 0, 1), (1042, .ireturn, 1), (1043, .iload 5, 2), (1045, .ifCond .ne 15, 3), (1048, .aload_n 3, 1), (1049, .iconst 0, 1), (1050, .laload, 1), (1051, .iload 6, 2), (1053, .i2l, 1), (1054, .lcmp, 1), (1055, .ifCond .eq 5, 3), (1058, .iconst 0, 1), (1059, .ireturn, 1), (1060, .goto 1622, 3), (1063, .aload_n 1, 1), (1064, .invokevirtual 191, 3), (1067, .aload_n 2, 1), (1068, .invokevirtual 194, 3), (1071, .if_icmp .eq 1611, 3), (1074, .iconst 0, 1), (1075, .ireturn, 1), (1076, .aload_n 1, 1), (1077, .invokevirtual 195, 3), (1080, .aload_n 2, 1), (1081, .invokevirtual 198, 3), (1084, .if_icmp .eq 1598, 3), (1087, .iconst 0, 1), (1088, .ireturn, 1), (1089, .aload_n 1, 1), (1090, .aload_n 3, 1), (1091, .invokestatic 199, 3), (1094, .istore 5, 2), (1096, .aload_n 2, 1), (1097, .invokevirtual 201, 3), (1100, .istore 6, 2), (1102, .aload_n 2, 1), (1103, .invokevirtual 149, 3), (1106, .iload 5, 2), (1108, .if_icmp .eq 5, 3), (1111, .iconst 0, 1), (1112, .ireturn, 1), (1113, .iload 5, 2), (1115, .ifCond .ne 15, 3), (1118, .aload_n 3, 1), (1119, .iconst 0, 1), (1120, .laload, 1), (1121, .iload 6, 2), (1123, .i2l, 1), (1124, .lcmp, 1), (1125, .ifCond .eq 5, 3), (1128, .iconst 0, 1)]
def qa_iL_law_9 : List (Nat × Instr × Nat) := [(1129, .ireturn, 1), (1130, .goto 1552, 3), (1133, .aload_n 1, 1), (1134, .aload_n 0, 1), (1135, .iload 4, 2), (1137, .iconst 1, 1), (1138, .iadd, 1), (1139, .iaload, 1), (1140, .invokestatic 202, 3), (1143, .istore 5, 2), (1145, .aload_n 2, 1), (1146, .aload_n 0, 1), (1147, .iload 4, 2), (1149, .iconst 1, 1), (1150, .iadd, 1), (1151, .iaload, 1), (1152, .invokevirtual 205, 3), (1155, .aload_n 2, 1), (1156, .invokevirtual 149, 3), (1159, .iload 5, 2), (1161, .if_icmp .eq 5, 3), (1164, .iconst 0, 1), (1165, .ireturn, 1), (1166, .goto 1516, 3), (1169, .aload_n 1, 1), (1170, .aload_n 0, 1), (1171, .iload 4, 2), (1173, .iconst 1, 1), (1174, .iadd, 1), (1175, .iaload, 1), (1176, .invokestatic 206, 3), (1179, .istore 5, 2), (1181, .aload_n 2, 1), (1182, .aload_n 0, 1), (1183, .iload 4, 2), (1185, .iconst 1, 1), (1186, .iadd, 1), (1187, .iaload, 1), (1188, .invokevirtual 208, 3), (1191, .aload_n 2, 1), (1192, .invokevirtual 149, 3), (1195, .iload 5, 2), (1197, .if_icmp .eq 5, 3), (1200, .iconst 0, 1), (1201, .ireturn, 1), (1202, .goto 1480, 3), (1205, .aload_n 1, 1), (1206, .invokestatic 209, 3), (1209, .istore 5, 2), (1211, .aload_n 2, 1), (1212, .invokevirtual 212, 3), (1215, .aload_n 2, 1), (1216, .invokevirtual 149, 3), (1219, .iload 5, 2), (1221, .if_icmp .eq 5, 3), (1224, .iconst 0, 1), (1225, .ireturn, 1), (1226, .goto 1456, 3), (1229, .aload_n 1, 1), (1230, .invokevirtual 213, 3)]
def qa_iL_law_10 : List (Nat × Instr × Nat) := [(1233, .aload_n 2, 1), (1234, .invokevirtual 216, 3), (1237, .if_icmp .eq 1445, 3), (1240, .iconst 0, 1), (1241, .ireturn, 1), (1242, .aload_n 1, 1), (1243, .invokevirtual 217, 3), (1246, .aload_n 2, 1), (1247, .invokevirtual 220, 3), (1250, .if_icmp .eq 1432, 3), (1253, .iconst 0, 1), (1254, .ireturn, 1), (1255, .aload_n 1, 1), (1256, .aload_n 0, 1), (1257, .iload 4, 2), (1259, .iconst 1, 1), (1260, .iadd, 1), (1261, .iaload, 1), (1262, .aload_n 3, 1), (1263, .invokestatic 221, 3), (1266, .istore 5, 2), (1268, .aload_n 2, 1), (1269, .aload_n 0, 1), (1270, .iload 4, 2), (1272, .iconst 1, 1), (1273, .iadd, 1), (1274, .iaload, 1), (1275, .invokevirtual 223, 3), (1278, .istore 6, 2), (1280, .aload_n 2, 1), (1281, .invokevirtual 149, 3), (1284, .iload 5, 2), (1286, .if_icmp .eq 5, 3), (1289, .iconst 0, 1), (1290, .ireturn, 1), (1291, .iload 5, 2), (1293, .ifCond .ne 15, 3), (1296, .aload_n 3, 1), (1297, .iconst 0, 1), (1298, .laload, 1), (1299, .iload 6, 2), (1301, .i2l, 1), (1302, .lcmp, 1), (1303, .ifCond .eq 5, 3), (1306, .iconst 0, 1), (1307, .ireturn, 1), (1308, .goto 1374, 3), (1311, .aload_n 1, 1), (1312, .aload_n 0, 1), (1313, .iload 4, 2), (1315, .iconst 1, 1), (1316, .iadd, 1), (1317, .iaload, 1), (1318, .aload_n 3, 1), (1319, .invokestatic 224, 3), (1322, .istore 5, 2), (1324, .aload_n 2, 1), (1325, .aload_n 0, 1), (1326, .iload 4, 2), (1328, .iconst 1, 1)]
def qa_iL_law_11 : List (Nat × Instr × Nat) := [(1329, .iadd, 1), (1330, .iaload, 1), (1331, .invokevirtual 226, 3), (1334, .istore 6, 2), (1336, .aload_n 2, 1), (1337, .invokevirtual 149, 3), (1340, .iload 5, 2), (1342, .if_icmp .eq 5, 3), (1345, .iconst 0, 1), (1346, .ireturn, 1), (1347, .iload 5, 2), (1349, .ifCond .ne 15, 3), (1352, .aload_n 3, 1), (1353, .iconst 0, 1), (1354, .laload, 1), (1355, .iload 6, 2), (1357, .i2l, 1), (1358, .lcmp, 1), (1359, .ifCond .eq 5, 3), (1362, .iconst 0, 1), (1363, .ireturn, 1), (1364, .goto 1318, 3), (1367, .aload_n 1, 1), (1368, .aload_n 0, 1), (1369, .iload 4, 2), (1371, .iconst 1, 1), (1372, .iadd, 1), (1373, .iaload, 1), (1374, .aload_n 3, 1), (1375, .invokestatic 227, 3), (1378, .istore 5, 2), (1380, .aload_n 2, 1), (1381, .aload_n 0, 1), (1382, .iload 4, 2), (1384, .iconst 1, 1), (1385, .iadd, 1), (1386, .iaload, 1), (1387, .invokevirtual 229, 3), (1390, .istore 6, 2), (1392, .aload_n 2, 1), (1393, .invokevirtual 149, 3), (1396, .iload 5, 2), (1398, .if_icmp .eq 5, 3), (1401, .iconst 0, 1), (1402, .ireturn, 1), (1403, .iload 5, 2), (1405, .ifCond .ne 15, 3), (1408, .aload_n 3, 1), (1409, .iconst 0, 1), (1410, .laload, 1), (1411, .iload 6, 2), (1413, .i2l, 1), (1414, .lcmp, 1), (1415, .ifCond .eq 5, 3), (1418, .iconst 0, 1), (1419, .ireturn, 1), (1420, .goto 1262, 3), (1423, .aload_n 1, 1), (1424, .aload_n 0, 1), (1425, .iload 4, 2)]
def qa_iL_law_12 : List (Nat × Instr × Nat) := [(1427, .iconst 1, 1), (1428, .iadd, 1), (1429, .iaload, 1), (1430, .aload_n 3, 1), (1431, .invokestatic 230, 3), (1434, .istore 5, 2), (1436, .aload_n 2, 1), (1437, .aload_n 0, 1), (1438, .iload 4, 2), (1440, .iconst 1, 1), (1441, .iadd, 1), (1442, .iaload, 1), (1443, .invokevirtual 232, 3), (1446, .istore 6, 2), (1448, .aload_n 2, 1), (1449, .invokevirtual 149, 3), (1452, .iload 5, 2), (1454, .if_icmp .eq 5, 3), (1457, .iconst 0, 1), (1458, .ireturn, 1), (1459, .iload 5, 2), (1461, .ifCond .ne 22, 3), (1464, .aload_n 3, 1), (1465, .iconst 0, 1), (1466, .laload, 1), (1467, .iload 6, 2), (1469, .ifCond .eq 7, 3), (1472, .lconst 1, 1), (1473, .goto 4, 3), (1476, .lconst 0, 1), (1477, .lcmp, 1), (1478, .ifCond .eq 5, 3), (1481, .iconst 0, 1), (1482, .ireturn, 1), (1483, .goto 1199, 3), (1486, .aload_n 1, 1), (1487, .aload_n 0, 1), (1488, .iload 4, 2), (1490, .iconst 1, 1), (1491, .iadd, 1), (1492, .iaload, 1), (1493, .aload_n 3, 1), (1494, .invokestatic 233, 3), (1497, .istore 5, 2), (1499, .aload_n 2, 1), (1500, .aload_n 0, 1), (1501, .iload 4, 2), (1503, .iconst 1, 1), (1504, .iadd, 1), (1505, .iaload, 1), (1506, .invokevirtual 235, 3), (1509, .istore 6, 2), (1511, .aload_n 2, 1), (1512, .invokevirtual 149, 3), (1515, .iload 5, 2), (1517, .if_icmp .eq 5, 3), (1520, .iconst 0, 1), (1521, .ireturn, 1), (1522, .iload 5, 2), (1524, .ifCond .ne 22, 3)]
def qa_iL_law_13 : List (Nat × Instr × Nat) := [(1527, .aload_n 3, 1), (1528, .iconst 0, 1), (1529, .laload, 1), (1530, .iload 6, 2), (1532, .ifCond .eq 7, 3), (1535, .lconst 1, 1), (1536, .goto 4, 3), (1539, .lconst 0, 1), (1540, .lcmp, 1), (1541, .ifCond .eq 5, 3), (1544, .iconst 0, 1), (1545, .ireturn, 1), (1546, .goto 1136, 3), (1549, .aload_n 1, 1), (1550, .aload_n 0, 1), (1551, .iload 4, 2), (1553, .iconst 1, 1), (1554, .iadd, 1), (1555, .iaload, 1), (1556, .aload_n 3, 1), (1557, .invokestatic 236, 3), (1560, .istore 5, 2), (1562, .aload_n 2, 1), (1563, .aload_n 0, 1), (1564, .iload 4, 2), (1566, .iconst 1, 1), (1567, .iadd, 1), (1568, .iaload, 1), (1569, .invokevirtual 238, 3), (1572, .istore 6, 2), (1574, .aload_n 2, 1), (1575, .invokevirtual 149, 3), (1578, .iload 5, 2), (1580, .if_icmp .eq 5, 3), (1583, .iconst 0, 1), (1584, .ireturn, 1), (1585, .iload 5, 2), (1587, .ifCond .ne 15, 3), (1590, .aload_n 3, 1), (1591, .iconst 0, 1), (1592, .laload, 1), (1593, .iload 6, 2), (1595, .i2l, 1), (1596, .lcmp, 1), (1597, .ifCond .eq 5, 3), (1600, .iconst 0, 1), (1601, .ireturn, 1), (1602, .goto 1080, 3), (1605, .aload_n 1, 1), (1606, .aload_n 0, 1), (1607, .iload 4, 2), (1609, .iconst 1, 1), (1610, .iadd, 1), (1611, .iaload, 1), (1612, .aload_n 3, 1), (1613, .invokestatic 239, 3), (1616, .istore 5, 2), (1618, .aload_n 2, 1), (1619, .aload_n 0, 1), (1620, .iload 4, 2)]
def qa_iL_law_14 : List (Nat × Instr × Nat) := [(1622, .iconst 1, 1), (1623, .iadd, 1), (1624, .iaload, 1), (1625, .invokevirtual 241, 3), (1628, .istore 6, 2), (1630, .aload_n 2, 1), (1631, .invokevirtual 149, 3), (1634, .iload 5, 2), (1636, .if_icmp .eq 5, 3), (1639, .iconst 0, 1), (1640, .ireturn, 1), (1641, .iload 5, 2), (1643, .ifCond .ne 15, 3), (1646, .aload_n 3, 1), (1647, .iconst 0, 1), (1648, .laload, 1), (1649, .iload 6, 2), (1651, .i2l, 1), (1652, .lcmp, 1), (1653, .ifCond .eq 5, 3), (1656, .iconst 0, 1), (1657, .ireturn, 1), (1658, .goto 1024, 3), (1661, .aload_n 1, 1), (1662, .aload_n 0, 1), (1663, .iload 4, 2), (1665, .iconst 1, 1), (1666, .iadd, 1), (1667, .iaload, 1), (1668, .aload_n 3, 1), (1669, .invokestatic 242, 3), (1672, .istore 5, 2), (1674, .aload_n 2, 1), (1675, .aload_n 0, 1), (1676, .iload 4, 2), (1678, .iconst 1, 1), (1679, .iadd, 1), (1680, .iaload, 1), (1681, .invokevirtual 244, 3), (1684, .istore 6, 2), (1686, .aload_n 2, 1), (1687, .invokevirtual 149, 3), (1690, .iload 5, 2), (1692, .if_icmp .eq 5, 3), (1695, .iconst 0, 1), (1696, .ireturn, 1), (1697, .iload 5, 2), (1699, .ifCond .ne 15, 3), (1702, .aload_n 3, 1), (1703, .iconst 0, 1), (1704, .laload, 1), (1705, .iload 6, 2), (1707, .i2l, 1), (1708, .lcmp, 1), (1709, .ifCond .eq 5, 3), (1712, .iconst 0, 1), (1713, .ireturn, 1), (1714, .goto 968, 3), (1717, .aload_n 1, 1), (1718, .aload_n 0, 1)]
def qa_iL_law_15 : List (Nat × Instr × Nat) := [(1719, .iload 4, 2), (1721, .iconst 1, 1), (1722, .iadd, 1), (1723, .iaload, 1), (1724, .aload_n 3, 1), (1725, .invokestatic 245, 3), (1728, .istore 5, 2), (1730, .aload_n 2, 1), (1731, .aload_n 0, 1), (1732, .iload 4, 2), (1734, .iconst 1, 1), (1735, .iadd, 1), (1736, .iaload, 1), (1737, .invokevirtual 247, 3), (1740, .istore 6, 2), (1742, .aload_n 2, 1), (1743, .invokevirtual 149, 3), (1746, .iload 5, 2), (1748, .if_icmp .eq 5, 3), (1751, .iconst 0, 1), (1752, .ireturn, 1), (1753, .iload 5, 2), (1755, .ifCond .ne 15, 3), (1758, .aload_n 3, 1), (1759, .iconst 0, 1), (1760, .laload, 1), (1761, .iload 6, 2), (1763, .i2l, 1), (1764, .lcmp, 1), (1765, .ifCond .eq 5, 3), (1768, .iconst 0, 1), (1769, .ireturn, 1), (1770, .goto 912, 3), (1773, .aload_n 1, 1), (1774, .invokevirtual 248, 3), (1777, .aload_n 2, 1), (1778, .invokevirtual 251, 3), (1781, .if_icmp .eq 901, 3), (1784, .iconst 0, 1), (1785, .ireturn, 1), (1786, .aload_n 1, 1), (1787, .aload_n 0, 1), (1788, .iload 4, 2), (1790, .iconst 1, 1), (1791, .iadd, 1), (1792, .iaload, 1), (1793, .aload_n 3, 1), (1794, .invokestatic 252, 3), (1797, .istore 5, 2), (1799, .aload_n 2, 1), (1800, .aload_n 0, 1), (1801, .iload 4, 2), (1803, .iconst 1, 1), (1804, .iadd, 1), (1805, .iaload, 1), (1806, .invokevirtual 254, 3), (1809, .istore 6, 2), (1811, .aload_n 2, 1), (1812, .invokevirtual 149, 3), (1815, .iload 5, 2)]
def qa_iL_law_16 : List (Nat × Instr × Nat) := [(1817, .if_icmp .eq 5, 3), (1820, .iconst 0, 1), (1821, .ireturn, 1), (1822, .iload 5, 2), (1824, .ifCond .ne 15, 3), (1827, .aload_n 3, 1), (1828, .iconst 0, 1), (1829, .laload, 1), (1830, .iload 6, 2), (1832, .i2l, 1), (1833, .lcmp, 1), (1834, .ifCond .eq 5, 3), (1837, .iconst 0, 1), (1838, .ireturn, 1), (1839, .goto 843, 3), (1842, .aload_n 1, 1), (1843, .aload_n 3, 1), (1844, .invokestatic 255, 3), (1847, .istore 5, 2), (1849, .aload_n 2, 1), (1850, .invokevirtual 257, 3), (1853, .istore 6, 2), (1855, .aload_n 2, 1), (1856, .invokevirtual 149, 3), (1859, .iload 5, 2), (1861, .if_icmp .eq 5, 3), (1864, .iconst 0, 1), (1865, .ireturn, 1), (1866, .iload 5, 2), (1868, .ifCond .ne 15, 3), (1871, .aload_n 3, 1), (1872, .iconst 0, 1), (1873, .laload, 1), (1874, .iload 6, 2), (1876, .i2l, 1), (1877, .lcmp, 1), (1878, .ifCond .eq 5, 3), (1881, .iconst 0, 1), (1882, .ireturn, 1), (1883, .goto 799, 3), (1886, .aload_n 1, 1), (1887, .aload_n 3, 1), (1888, .invokestatic 258, 3), (1891, .istore 5, 2), (1893, .aload_n 2, 1), (1894, .invokevirtual 260, 3), (1897, .istore 6, 2), (1899, .aload_n 2, 1), (1900, .invokevirtual 149, 3), (1903, .iload 5, 2), (1905, .if_icmp .eq 5, 3), (1908, .iconst 0, 1), (1909, .ireturn, 1), (1910, .iload 5, 2), (1912, .ifCond .ne 15, 3), (1915, .aload_n 3, 1), (1916, .iconst 0, 1), (1917, .laload, 1), (1918, .iload 6, 2), (1920, .i2l, 1)]
def qa_iL_law_17 : List (Nat × Instr × Nat) := [(1921, .lcmp, 1), (1922, .ifCond .eq 5, 3), (1925, .iconst 0, 1), (1926, .ireturn, 1), (1927, .goto 755, 3), (1930, .aload_n 1, 1), (1931, .aload_n 3, 1), (1932, .invokestatic 261, 3), (1935, .istore 5, 2), (1937, .aload_n 2, 1), (1938, .invokevirtual 263, 3), (1941, .istore 6, 2), (1943, .aload_n 2, 1), (1944, .invokevirtual 149, 3), (1947, .iload 5, 2), (1949, .if_icmp .eq 5, 3), (1952, .iconst 0, 1), (1953, .ireturn, 1), (1954, .iload 5, 2), (1956, .ifCond .ne 15, 3), (1959, .aload_n 3, 1), (1960, .iconst 0, 1), (1961, .laload, 1), (1962, .iload 6, 2), (1964, .i2l, 1), (1965, .lcmp, 1), (1966, .ifCond .eq 5, 3), (1969, .iconst 0, 1), (1970, .ireturn, 1), (1971, .goto 711, 3), (1974, .aload_n 1, 1), (1975, .invokevirtual 264, 3), (1978, .aload_n 2, 1), (1979, .invokevirtual 267, 3), (1982, .if_icmp .eq 700, 3), (1985, .iconst 0, 1), (1986, .ireturn, 1), (1987, .aload_n 1, 1), (1988, .aload_n 3, 1), (1989, .invokestatic 268, 3), (1992, .istore 5, 2), (1994, .aload_n 2, 1), (1995, .invokevirtual 270, 3), (1998, .istore 6, 2), (2000, .aload_n 2, 1), (2001, .invokevirtual 149, 3), (2004, .iload 5, 2), (2006, .if_icmp .eq 5, 3), (2009, .iconst 0, 1), (2010, .ireturn, 1), (2011, .iload 5, 2), (2013, .ifCond .ne 15, 3), (2016, .aload_n 3, 1), (2017, .iconst 0, 1), (2018, .laload, 1), (2019, .iload 6, 2), (2021, .i2l, 1), (2022, .lcmp, 1), (2023, .ifCond .eq 5, 3), (2026, .iconst 0, 1)]
def qa_iL_law_18 : List (Nat × Instr × Nat) := [(2027, .ireturn, 1), (2028, .goto 654, 3), (2031, .aload_n 1, 1), (2032, .aload_n 3, 1), (2033, .invokestatic 271, 3), (2036, .istore 5, 2), (2038, .aload_n 2, 1), (2039, .invokevirtual 273, 3), (2042, .istore 6, 2), (2044, .aload_n 2, 1), (2045, .invokevirtual 149, 3), (2048, .iload 5, 2), (2050, .if_icmp .eq 5, 3), (2053, .iconst 0, 1), (2054, .ireturn, 1), (2055, .iload 5, 2), (2057, .ifCond .ne 15, 3), (2060, .aload_n 3, 1), (2061, .iconst 0, 1), (2062, .laload, 1), (2063, .iload 6, 2), (2065, .i2l, 1), (2066, .lcmp, 1), (2067, .ifCond .eq 5, 3), (2070, .iconst 0, 1), (2071, .ireturn, 1), (2072, .goto 610, 3), (2075, .aload_n 1, 1), (2076, .aload_n 3, 1), (2077, .invokestatic 274, 3), (2080, .istore 5, 2), (2082, .aload_n 2, 1), (2083, .invokevirtual 276, 3), (2086, .istore 6, 2), (2088, .aload_n 2, 1), (2089, .invokevirtual 149, 3), (2092, .iload 5, 2), (2094, .if_icmp .eq 5, 3), (2097, .iconst 0, 1), (2098, .ireturn, 1), (2099, .iload 5, 2), (2101, .ifCond .ne 15, 3), (2104, .aload_n 3, 1), (2105, .iconst 0, 1), (2106, .laload, 1), (2107, .iload 6, 2), (2109, .i2l, 1), (2110, .lcmp, 1), (2111, .ifCond .eq 5, 3), (2114, .iconst 0, 1), (2115, .ireturn, 1), (2116, .goto 566, 3), (2119, .aload_n 1, 1), (2120, .invokevirtual 277, 3), (2123, .aload_n 2, 1), (2124, .invokevirtual 280, 3), (2127, .if_icmp .eq 555, 3), (2130, .iconst 0, 1), (2131, .ireturn, 1), (2132, .aload_n 1, 1)]
def qa_iL_law_19 : List (Nat × Instr × Nat) := [(2133, .invokevirtual 281, 3), (2136, .aload_n 2, 1), (2137, .invokevirtual 284, 3), (2140, .if_icmp .eq 542, 3), (2143, .iconst 0, 1), (2144, .ireturn, 1), (2145, .aload_n 1, 1), (2146, .aload_n 0, 1), (2147, .iload 4, 2), (2149, .iconst 1, 1), (2150, .iadd, 1), (2151, .iaload, 1), (2152, .aload_n 3, 1), (2153, .invokestatic 285, 3), (2156, .istore 5, 2), (2158, .aload_n 2, 1), (2159, .aload_n 0, 1), (2160, .iload 4, 2), (2162, .iconst 1, 1), (2163, .iadd, 1), (2164, .iaload, 1), (2165, .invokevirtual 287, 3), (2168, .istore 6, 2), (2170, .aload_n 2, 1), (2171, .invokevirtual 149, 3), (2174, .iload 5, 2), (2176, .if_icmp .eq 5, 3), (2179, .iconst 0, 1), (2180, .ireturn, 1), (2181, .iload 5, 2), (2183, .ifCond .ne 15, 3), (2186, .aload_n 3, 1), (2187, .iconst 0, 1), (2188, .laload, 1), (2189, .iload 6, 2), (2191, .i2l, 1), (2192, .lcmp, 1), (2193, .ifCond .eq 5, 3), (2196, .iconst 0, 1), (2197, .ireturn, 1), (2198, .goto 484, 3), (2201, .aload_n 1, 1), (2202, .invokevirtual 288, 3), (2205, .aload_n 2, 1), (2206, .invokevirtual 291, 3), (2209, .if_icmp .eq 473, 3), (2212, .iconst 0, 1), (2213, .ireturn, 1), (2214, .aload_n 1, 1), (2215, .invokevirtual 292, 3), (2218, .aload_n 2, 1), (2219, .invokevirtual 295, 3), (2222, .if_icmp .eq 460, 3), (2225, .iconst 0, 1), (2226, .ireturn, 1), (2227, .aload_n 1, 1), (2228, .invokevirtual 296, 3), (2231, .aload_n 2, 1), (2232, .invokevirtual 299, 3), (2235, .if_icmp .eq 447, 3)]
def qa_iL_law_20 : List (Nat × Instr × Nat) := [(2238, .iconst 0, 1), (2239, .ireturn, 1), (2240, .aload_n 1, 1), (2241, .invokevirtual 300, 3), (2244, .aload_n 2, 1), (2245, .invokevirtual 303, 3), (2248, .if_icmp .eq 434, 3), (2251, .iconst 0, 1), (2252, .ireturn, 1), (2253, .aload_n 1, 1), (2254, .invokevirtual 304, 3), (2257, .aload_n 2, 1), (2258, .invokevirtual 307, 3), (2261, .if_icmp .eq 421, 3), (2264, .iconst 0, 1), (2265, .ireturn, 1), (2266, .aload_n 1, 1), (2267, .invokevirtual 308, 3), (2270, .aload_n 2, 1), (2271, .invokevirtual 311, 3), (2274, .if_icmp .eq 408, 3), (2277, .iconst 0, 1), (2278, .ireturn, 1), (2279, .aload_n 1, 1), (2280, .invokevirtual 312, 3), (2283, .aload_n 2, 1), (2284, .invokevirtual 315, 3), (2287, .if_icmp .eq 395, 3), (2290, .iconst 0, 1), (2291, .ireturn, 1), (2292, .aload_n 1, 1), (2293, .aload_n 3, 1), (2294, .invokestatic 316, 3), (2297, .istore 5, 2), (2299, .aload_n 2, 1), (2300, .invokevirtual 318, 3), (2303, .istore 6, 2), (2305, .aload_n 2, 1), (2306, .invokevirtual 149, 3), (2309, .iload 5, 2), (2311, .if_icmp .eq 5, 3), (2314, .iconst 0, 1), (2315, .ireturn, 1), (2316, .iload 5, 2), (2318, .ifCond .ne 15, 3), (2321, .aload_n 3, 1), (2322, .iconst 0, 1), (2323, .laload, 1), (2324, .iload 6, 2), (2326, .i2l, 1), (2327, .lcmp, 1), (2328, .ifCond .eq 5, 3), (2331, .iconst 0, 1), (2332, .ireturn, 1), (2333, .goto 349, 3), (2336, .aload_n 1, 1), (2337, .aload_n 3, 1), (2338, .invokestatic 319, 3), (2341, .istore 5, 2), (2343, .aload_n 2, 1)]
def qa_iL_law_21 : List (Nat × Instr × Nat) := [(2344, .invokevirtual 321, 3), (2347, .istore 6, 2), (2349, .aload_n 2, 1), (2350, .invokevirtual 149, 3), (2353, .iload 5, 2), (2355, .if_icmp .eq 5, 3), (2358, .iconst 0, 1), (2359, .ireturn, 1), (2360, .iload 5, 2), (2362, .ifCond .ne 15, 3), (2365, .aload_n 3, 1), (2366, .iconst 0, 1), (2367, .laload, 1), (2368, .iload 6, 2), (2370, .i2l, 1), (2371, .lcmp, 1), (2372, .ifCond .eq 5, 3), (2375, .iconst 0, 1), (2376, .ireturn, 1), (2377, .goto 305, 3), (2380, .aload_n 1, 1), (2381, .aload_n 0, 1), (2382, .iload 4, 2), (2384, .iconst 1, 1), (2385, .iadd, 1), (2386, .iaload, 1), (2387, .aload_n 3, 1), (2388, .invokestatic 322, 3), (2391, .istore 5, 2), (2393, .aload_n 2, 1), (2394, .aload_n 0, 1), (2395, .iload 4, 2), (2397, .iconst 1, 1), (2398, .iadd, 1), (2399, .iaload, 1), (2400, .invokevirtual 324, 3), (2403, .istore 6, 2), (2405, .aload_n 2, 1), (2406, .invokevirtual 149, 3), (2409, .iload 5, 2), (2411, .if_icmp .eq 5, 3), (2414, .iconst 0, 1), (2415, .ireturn, 1), (2416, .iload 5, 2), (2418, .ifCond .ne 15, 3), (2421, .aload_n 3, 1), (2422, .iconst 0, 1), (2423, .laload, 1), (2424, .iload 6, 2), (2426, .i2l, 1), (2427, .lcmp, 1), (2428, .ifCond .eq 5, 3), (2431, .iconst 0, 1), (2432, .ireturn, 1), (2433, .goto 249, 3), (2436, .aload_n 1, 1), (2437, .aload_n 0, 1), (2438, .iload 4, 2), (2440, .iconst 1, 1), (2441, .iadd, 1)]
def qa_iL_law_22 : List (Nat × Instr × Nat) := [(2442, .iaload, 1), (2443, .aload_n 3, 1), (2444, .invokestatic 325, 3), (2447, .istore 5, 2), (2449, .aload_n 2, 1), (2450, .aload_n 0, 1), (2451, .iload 4, 2), (2453, .iconst 1, 1), (2454, .iadd, 1), (2455, .iaload, 1), (2456, .invokevirtual 327, 3), (2459, .istore 6, 2), (2461, .aload_n 2, 1), (2462, .invokevirtual 149, 3), (2465, .iload 5, 2), (2467, .if_icmp .eq 5, 3), (2470, .iconst 0, 1), (2471, .ireturn, 1), (2472, .iload 5, 2), (2474, .ifCond .ne 15, 3), (2477, .aload_n 3, 1), (2478, .iconst 0, 1), (2479, .laload, 1), (2480, .iload 6, 2), (2482, .i2l, 1), (2483, .lcmp, 1), (2484, .ifCond .eq 5, 3), (2487, .iconst 0, 1), (2488, .ireturn, 1), (2489, .goto 193, 3), (2492, .aload_n 1, 1), (2493, .aload_n 3, 1), (2494, .invokestatic 328, 3), (2497, .istore 5, 2), (2499, .aload_n 2, 1), (2500, .invokevirtual 330, 3), (2503, .istore 6, 2), (2505, .aload_n 2, 1), (2506, .invokevirtual 149, 3), (2509, .iload 5, 2), (2511, .if_icmp .eq 5, 3), (2514, .iconst 0, 1), (2515, .ireturn, 1), (2516, .iload 5, 2), (2518, .ifCond .ne 15, 3), (2521, .aload_n 3, 1), (2522, .iconst 0, 1), (2523, .laload, 1), (2524, .iload 6, 2), (2526, .i2l, 1), (2527, .lcmp, 1), (2528, .ifCond .eq 5, 3), (2531, .iconst 0, 1), (2532, .ireturn, 1), (2533, .goto 149, 3), (2536, .aload_n 1, 1), (2537, .invokevirtual 331, 3), (2540, .aload_n 2, 1), (2541, .invokevirtual 334, 3), (2544, .if_icmp .eq 138, 3)]
def qa_iL_law_23 : List (Nat × Instr × Nat) := [(2547, .iconst 0, 1), (2548, .ireturn, 1), (2549, .aload_n 1, 1), (2550, .invokevirtual 335, 3), (2553, .aload_n 2, 1), (2554, .invokevirtual 338, 3), (2557, .if_icmp .eq 125, 3), (2560, .iconst 0, 1), (2561, .ireturn, 1), (2562, .aload_n 1, 1), (2563, .invokevirtual 339, 3), (2566, .aload_n 2, 1), (2567, .invokevirtual 342, 3), (2570, .if_icmp .eq 112, 3), (2573, .iconst 0, 1), (2574, .ireturn, 1), (2575, .aload_n 1, 1), (2576, .invokevirtual 343, 3), (2579, .aload_n 2, 1), (2580, .invokevirtual 346, 3), (2583, .if_icmp .eq 99, 3), (2586, .iconst 0, 1), (2587, .ireturn, 1), (2588, .aload_n 1, 1), (2589, .invokevirtual 347, 3), (2592, .aload_n 2, 1), (2593, .invokevirtual 350, 3), (2596, .if_icmp .eq 86, 3), (2599, .iconst 0, 1), (2600, .ireturn, 1), (2601, .aload_n 1, 1), (2602, .invokevirtual 351, 3), (2605, .aload_n 2, 1), (2606, .invokevirtual 354, 3), (2609, .if_icmp .eq 73, 3), (2612, .iconst 0, 1), (2613, .ireturn, 1), (2614, .aload_n 1, 1), (2615, .invokevirtual 355, 3), (2618, .aload_n 2, 1), (2619, .invokevirtual 358, 3), (2622, .if_icmp .eq 60, 3), (2625, .iconst 0, 1), (2626, .ireturn, 1), (2627, .aload_n 1, 1), (2628, .invokevirtual 359, 3), (2631, .dstore 5, 2), (2633, .aload_n 2, 1), (2634, .invokevirtual 363, 3), (2637, .dstore 7, 2), (2639, .dload 5, 2), (2641, .dload 7, 2), (2643, .dcmp .l, 1), (2644, .ifCond .eq 21, 3), (2647, .dload 5, 2), (2649, .dload 5, 2), (2651, .dcmp .l, 1), (2652, .ifCond .eq 11, 3), (2655, .dload 7, 2), (2657, .dload 7, 2)]
def qa_iL_law_24 : List (Nat × Instr × Nat) := [(2659, .dcmp .l, 1), (2660, .ifCond .ne 5, 3), (2663, .iconst 0, 1), (2664, .ireturn, 1), (2665, .goto 17, 3), (2668, .aload_n 1, 1), (2669, .invokevirtual 364, 3), (2672, .aload_n 2, 1), (2673, .invokevirtual 368, 3), (2676, .lcmp, 1), (2677, .ifCond .eq 5, 3), (2680, .iconst 0, 1), (2681, .ireturn, 1), (2682, .iinc 4 4, 3), (2685, .goto (-2662), 3), (2688, .iconst 1, 1), (2689, .ireturn, 1)]
def qa_iL_law : List (Nat × Instr × Nat) := qa_iL_law_0 ++ (qa_iL_law_1 ++ (qa_iL_law_2 ++ (qa_iL_law_3 ++ (qa_iL_law_4 ++ (qa_iL_law_5 ++ (qa_iL_law_6 ++ (qa_iL_law_7 ++ (qa_iL_law_8 ++ (qa_iL_law_9 ++ (qa_iL_law_10 ++ (qa_iL_law_11 ++ (qa_iL_law_12 ++ (qa_iL_law_13 ++ (qa_iL_law_14 ++ (qa_iL_law_15 ++ (qa_iL_law_16 ++ (qa_iL_law_17 ++ (qa_iL_law_18 ++ (qa_iL_law_19 ++ (qa_iL_law_20 ++ (qa_iL_law_21 ++ (qa_iL_law_22 ++ (qa_iL_law_23 ++ (qa_iL_law_24))))))))))))))))))))))))
def qa_mL_law : qa_M := (yL_law, cL_law, 9, (some .boolean), 11, qa_iL_law, 1, 1, 13, 290, [], 0, 0, 0)
def qa_ca0 : List (Nat × (qa_M × Bool × Nat)) := []
def qa_ca1 : List (Nat × (qa_M × Bool × Nat)) := [(11, (qa_mX6_init, true, 88)), (20, (qa_mX3_init, true, 135)), (27, (qa_mX7_init, true, 155)), (34, (qa_mX2_init, true, 185)), (41, (qa_mX4_init, true, 217)), (48, (qa_mX0_init, true, 249)), (60, (qa_mX6_copyFrom, false, 590)), (64, (qa_mX3_copyFrom, false, 597)), (67, (qa_mX7_copyFrom, false, 602)), (70, (qa_mX2_copyFrom, false, 606)), (73, (qa_mX4_copyFrom, false, 611)), (76, (qa_mX0_copyFrom, false, 615)), (86, (qa_mX6_isReady, false, 448)), (93, (qa_mX2_queuePlace, false, 673)), (97, (qa_mX7_bears, false, 569)), (100, (qa_mX1_obeyGoOn, false, 994)), (104, (qa_mX1_obeyAsk, false, 998)), (107, (qa_mX1_obeyBurn, false, 1005)), (110, (qa_mX1_obeyInsert, false, 1009)), (113, (qa_mX1_passTick, false, 921)), (117, (qa_mX1_mayGoOn, false, 660)), (120, (qa_mX1_proceed, false, 664)), (123, (qa_mX1_beginLoading, false, 683)), (126, (qa_mX6_has, false, 1002)), (129, (qa_mX1_mayAsk, false, 1003)), (132, (qa_mX2_queue, false, 1004)), (136, (qa_mX1_mayBurn, false, 565)), (139, (qa_mX1_putOnFire, false, 699)), (142, (qa_mX3_put, false, 1013)), (146, (qa_mX3_advance, false, 668)), (152, (qa_mX1_bringOn, false, 648)), (158, (qa_mX2_unqueue, false, 678)), (164, (qa_mX9_at, true, 452)), (168, (qa_mX7_bring, false, 652)), (171, (qa_mX6_use, false, 643)), (180, (qa_mX6_coolEmbers, false, 623)), (183, (qa_mX7_fadeOnce, false, 627)), (186, (qa_mX7_countShown, false, 631)), (189, (qa_mX1_loadOnce, false, 635)), (192, (qa_mX1_paceIsReached, false, 656)), (207, (qa_mX6_setReady, false, 639)), (211, (qa_mX1_nextToLoad, false, 687)), (220, (qa_mX1_burnDownTo, false, 695)), (232, (qa_mX6_ticksToLoad, false, 703)), (239, (qa_mX9_set, true, 557)), (249, (qa_mX1_nextInGoodTime, false, 691)), (255, (qa_mX3_slideAhead, false, 560)), (267, (qa_mX1_lineUp, false, 549)), (273, (qa_mX1_weighByNextUse, false, 553)), (276, (qa_mX1_weighByUseOrCost, false, 561))]
def qa_ca2 : List (Nat × (qa_M × Bool × Nat)) := [(25, (qa_mX9_copyRow, true, 610)), (32, (qa_mX9_at, true, 677)), (36, (qa_mX9_set, true, 682))]
def qa_ca3 : List (Nat × (qa_M × Bool × Nat)) := [(22, (qa_mX9_copyRow, true, 601)), (26, (qa_mX9_at, true, 672)), (30, (qa_mX9_set, true, 861)), (34, (qa_mX3_slideAhead, false, 541))]
def qa_ca4 : List (Nat × (qa_M × Bool × Nat)) := []
def qa_ca5 : List (Nat × (qa_M × Bool × Nat)) := [(17, (qa_mX1_init, true, 328)), (25, (qa_mX1_copyFrom, false, 821))]
def qa_ca6 : List (Nat × (qa_M × Bool × Nat)) := [(38, (qa_mX9_copyRow, true, 594)), (45, (qa_mX9_set, true, 647)), (49, (qa_mX9_at, true, 531))]
def qa_ca7 : List (Nat × (qa_M × Bool × Nat)) := []
def qa_ca8 : List (Nat × (qa_M × Bool × Nat)) := [(19, (qa_mX9_set, true, 969)), (23, (qa_mX8_startPart, false, 397)), (35, (qa_mX9_at, true, 401)), (39, (qa_mX8_accept, false, 404)), (43, (qa_mX8_readToError, false, 981)), (47, (qa_mX8_partMayEnd, false, 408)), (51, (qa_mX8_acceptDigit, false, 412))]
def qa_ca9 : List (Nat × (qa_M × Bool × Nat)) := [(9, (qa_mX1_init, true, 82)), (21, (qa_mX5_init, false, 322)), (36, (qa_mX8_init, true, 342)), (41, (qa_mX9_isWithin, false, 730)), (45, (qa_mX9_needArgument, false, 733)), (59, (qa_mX9_needState, false, 799)), (62, (qa_mX5_push, false, 817)), (66, (qa_mX6_add, false, 822)), (70, (qa_mX1_beginLoading, false, 826)), (80, (qa_mX6_has, false, 835)), (84, (qa_mX9_needIndex, false, 839)), (87, (qa_mX3_put, false, 857)), (91, (qa_mX3_has, false, 869)), (92, (qa_mX3_remove, false, 873)), (96, (qa_mX1_mayGoOn, false, 884)), (100, (qa_mX1_proceed, false, 885)), (103, (qa_mX1_mayAsk, false, 893)), (110, (qa_mX2_queue, false, 897)), (119, (qa_mX1_mayBurn, false, 908)), (122, (qa_mX1_putOnFire, false, 909)), (129, (qa_mX9_at, false, 526)), (133, (qa_mX1_passTicks, false, 917)), (145, (qa_mX1_burnDownTo, false, 929)), (163, (qa_mX8_add, false, 965)), (165, (qa_mX8_readToError, false, 393)), (169, (qa_mX8_tellsOrders, false, 977)), (172, (qa_mX1_copyFrom, false, 586)), (175, (qa_mX8_startReading, false, 982)), (178, (qa_mX8_readPart, false, 986)), (187, (qa_mX1_obey, false, 990)), (191, (qa_mX9_hasSnapshot, false, 717)), (195, (qa_mX5_popInto, false, 1035)), (198, (qa_mX6_ticksToLoad, false, 527)), (205, (qa_mX6_isReady, false, 532)), (212, (qa_mX7_bears, false, 533)), (223, (qa_mX3_placesUntil, false, 537)), (226, (qa_mX1_placeInLine, false, 545)), (257, (qa_mX1_sumOfCosts, false, 444)), (263, (qa_mX9_waitOnTrial, false, 582)), (266, (qa_mX1_sumOfWait, false, 704)), (269, (qa_mX1_burningsToLoad, false, 570)), (272, (qa_mX9_missesOnTrial, false, 1186)), (302, (qa_mX0_shareOfHits, false, 509)), (308, (qa_mX9_mix, false, 518)), (312, (qa_mX9_mixSlide, false, 522)), (316, (qa_mX9_mixProgramme, false, 574)), (320, (qa_mX9_mixLoading, false, 578)), (323, (qa_mX9_mixAccounts, false, 708)), (331, (qa_mX9_bitsOfShare, false, 712)), (339, (qa_mX1_passTick, false, 619))]
def qa_ca10 : List (Nat × (qa_M × Bool × Nat)) := [(39, (qa_mX10_in, false, 1257)), (43, (qa_mX10_of, false, 1292)), (47, (qa_mX10_loaded, false, 1304)), (51, (qa_mX10_nextOf, false, 1324)), (55, (qa_mX10_onShow, false, 1316)), (58, (qa_mX10_canBurn, false, 1312)), (61, (qa_mX10_isFirst, false, 1320)), (65, (qa_mX10_lay, false, 1268)), (69, (qa_mX10_taken, false, 1300)), (73, (qa_mX10_nextToBurn, false, 1308)), (76, (qa_mX10_burns, false, 1328)), (79, (qa_mX10_makesRoom, false, 1296)), (82, (qa_mX10_due, false, 1332)), (85, (qa_mX10_starts, false, 1288)), (89, (qa_mX10_forgets, false, 1336)), (92, (qa_mX10_uses, false, 1360)), (98, (qa_mX10_shows, false, 1356)), (101, (qa_mX10_goesOn, false, 1352)), (105, (qa_mX10_begins, false, 1284)), (108, (qa_mX10_isAsked, false, 1372)), (111, (qa_mX10_ticks, false, 1392)), (114, (qa_mX10_throwing, false, 1260)), (117, (qa_mX10_save, false, 1264)), (120, (qa_mX10_isThere, false, 1276)), (123, (qa_mX10_inserts, false, 1280)), (126, (qa_mX10_canGoOn, false, 1348)), (129, (qa_mX10_canAsk, false, 1368)), (132, (qa_mX10_asks, false, 1376)), (135, (qa_mX10_passes, false, 1388)), (138, (qa_mX10_changes, false, 1400)), (152, (qa_mX10_sign, false, 1444)), (155, (qa_mX10_number, false, 1440)), (158, (qa_mX10_isFollowed, false, 1448)), (164, (qa_mX10_isOrdered, false, 1436)), (168, (qa_mX10_go, false, 1432)), (171, (qa_mX10_keepsAside, false, 1456)), (174, (qa_mX10_putsBack, false, 1460)), (177, (qa_mX10_rule, false, 1484)), (180, (qa_mX10_inOrder, false, 1524)), (183, (qa_mX10_told, false, 1540)), (186, (qa_mX10_untilShown, false, 1616)), (189, (qa_mX10_toldTicks, false, 1612)), (192, (qa_mX10_burningsOf, false, 1628)), (195, (qa_mX10_missing, false, 1636)), (198, (qa_mX10_share, false, 1676)), (212, (qa_mX10_mix, false, 1685)), (218, (qa_mX10_mixesSlide, false, 1690)), (221, (qa_mX10_bitsOf, false, 1694))]
def qa_ca11 : List (Nat × (qa_M × Bool × Nat)) := [(7, (qa_mX9_addSlide, false, 726)), (17, (qa_mX9_insert, false, 831)), (23, (qa_mX9_takeOut, false, 865)), (27, (qa_mX9_goOn, false, 880)), (31, (qa_mX9_ask, false, 889)), (34, (qa_mX9_burn, false, 904)), (37, (qa_mX9_tick, false, 913)), (40, (qa_mX9_changeMemory, false, 925)), (43, (qa_mX9_changeAhead, false, 933)), (46, (qa_mX9_changeOrder, false, 940)), (49, (qa_mX9_changeGlow, false, 947)), (52, (qa_mX9_changePace, false, 954)), (55, (qa_mX9_append, false, 961)), (58, (qa_mX9_follow, false, 973)), (62, (qa_mX9_keep, false, 1017)), (66, (qa_mX9_goBack, false, 1024)), (69, (qa_mX9_undo, false, 1031)), (72, (qa_mX9_costOf, false, 1042)), (75, (qa_mX9_loadOf, false, 1049)), (78, (qa_mX9_fadeOf, false, 1056)), (81, (qa_mX9_isLoaded, false, 1063)), (85, (qa_mX9_isOnShow, false, 1070)), (88, (qa_mX9_glowOf, false, 1077)), (91, (qa_mX9_burntTimes, false, 1084)), (94, (qa_mX9_nextUse, false, 1091)), (97, (qa_mX9_burnPlace, false, 1098)), (100, (qa_mX9_slideAt, false, 1105)), (103, (qa_mX9_showPlace, false, 1112)), (106, (qa_mX9_shown, false, 1119)), (109, (qa_mX9_fading, false, 1126)), (112, (qa_mX9_awaited, false, 1133)), (115, (qa_mX9_shownFor, false, 1140)), (118, (qa_mX9_loading, false, 1147)), (121, (qa_mX9_askedAt, false, 1154)), (124, (qa_mX9_ticksToShowByTicks, false, 1161)), (127, (qa_mX9_ticksToShowBySums, false, 1168)), (130, (qa_mX9_burningsFor, false, 1175)), (133, (qa_mX9_missesWith, false, 1182)), (136, (qa_mX9_bestOrder, false, 1193)), (139, (qa_mX9_init, false, 74)), (142, (qa_mX10_init, false, 1199)), (143, (qa_mL_addSlide, false, 721)), (148, (qa_mX10_addSlide, false, 1253)), (149, (qa_mX10_thrown, false, 1249)), (152, (qa_mL_insert, false, 827)), (155, (qa_mX10_insert, false, 1272)), (156, (qa_mL_takeOut, false, 862)), (159, (qa_mX10_takeOut, false, 1340)), (160, (qa_mL_goOn, false, 877)), (163, (qa_mX10_goOn, false, 1344)), (164, (qa_mL_ask, false, 886)), (166, (qa_mX10_ask, false, 1364)), (167, (qa_mL_burn, false, 901)), (169, (qa_mX10_burn, false, 1380)), (170, (qa_mL_tick, false, 910)), (172, (qa_mX10_tick, false, 1384)), (173, (qa_mL_changeMemory, false, 922)), (175, (qa_mX10_changeMemory, false, 1396)), (176, (qa_mL_changeAhead, false, 930)), (178, (qa_mX10_changeAhead, false, 1404)), (179, (qa_mL_changeOrder, false, 937)), (181, (qa_mX10_changeOrder, false, 1408)), (182, (qa_mL_changeGlow, false, 944)), (184, (qa_mX10_changeGlow, false, 1412)), (185, (qa_mL_changePace, false, 951)), (187, (qa_mX10_changePace, false, 1416)), (188, (qa_mL_append, false, 958)), (190, (qa_mX10_append, false, 1420)), (191, (qa_mX9_clearBuffer, false, 385)), (194, (qa_mX10_clearBuffer, false, 1424)), (195, (qa_mX9_firstError, false, 389)), (198, (qa_mX10_firstError, false, 1428)), (199, (qa_mL_follow, false, 970)), (201, (qa_mX10_follow, false, 1452)), (202, (qa_mL_keep, false, 1014)), (205, (qa_mX10_keep, false, 1464)), (206, (qa_mL_goBack, false, 1021)), (208, (qa_mX10_goBack, false, 1468)), (209, (qa_mL_undo, false, 1028)), (212, (qa_mX10_undo, false, 1472)), (213, (qa_mX9_savedStates, false, 416)), (216, (qa_mX10_savedStates, false, 1476)), (217, (qa_mX9_slides, false, 420)), (220, (qa_mX10_slides, false, 1480)), (221, (qa_mL_costOf, false, 1039)), (223, (qa_mX10_costOf, false, 1488)), (224, (qa_mL_loadOf, false, 1046)), (226, (qa_mX10_loadOf, false, 1492)), (227, (qa_mL_fadeOf, false, 1053)), (229, (qa_mX10_fadeOf, false, 1496)), (230, (qa_mL_isLoaded, false, 1060)), (232, (qa_mX10_isLoaded, false, 1500)), (233, (qa_mL_isOnShow, false, 1067)), (235, (qa_mX10_isOnShow, false, 1504)), (236, (qa_mL_glowOf, false, 1074)), (238, (qa_mX10_glowOf, false, 1508)), (239, (qa_mL_burntTimes, false, 1081)), (241, (qa_mX10_burntTimes, false, 1512)), (242, (qa_mL_nextUse, false, 1088)), (244, (qa_mX10_nextUse, false, 1516)), (245, (qa_mL_burnPlace, false, 1095)), (247, (qa_mX10_burnPlace, false, 1520)), (248, (qa_mX9_places, false, 424)), (251, (qa_mX10_places, false, 1528)), (252, (qa_mL_slideAt, false, 1102)), (254, (qa_mX10_slideAt, false, 1532)), (255, (qa_mL_showPlace, false, 1109)), (257, (qa_mX10_showPlace, false, 1536)), (258, (qa_mL_shown, false, 1116)), (260, (qa_mX10_shown, false, 1544)), (261, (qa_mL_fading, false, 1123)), (263, (qa_mX10_fading, false, 1548)), (264, (qa_mX9_fadeLeft, false, 428)), (267, (qa_mX10_fadeLeft, false, 1552)), (268, (qa_mL_awaited, false, 1130)), (270, (qa_mX10_awaited, false, 1556)), (271, (qa_mL_shownFor, false, 1137)), (273, (qa_mX10_shownFor, false, 1560)), (274, (qa_mL_loading, false, 1144)), (276, (qa_mX10_loading, false, 1564)), (277, (qa_mX9_loadLeft, false, 432)), (280, (qa_mX10_loadLeft, false, 1568)), (281, (qa_mX9_asked, false, 436)), (284, (qa_mX10_asked, false, 1572)), (285, (qa_mL_askedAt, false, 1151)), (287, (qa_mX10_askedAt, false, 1576)), (288, (qa_mX9_takenBySlides, false, 440)), (291, (qa_mX10_takenBySlides, false, 1580)), (292, (qa_mX9_takenByAccount, false, 453)), (295, (qa_mX10_takenByAccount, false, 1584)), (296, (qa_mX9_memory, false, 457)), (299, (qa_mX10_memory, false, 1588)), (300, (qa_mX9_ahead, false, 461)), (303, (qa_mX10_ahead, false, 1592)), (304, (qa_mX9_order, false, 465)), (307, (qa_mX10_order, false, 1596)), (308, (qa_mX9_glow, false, 469)), (311, (qa_mX10_glow, false, 1600)), (312, (qa_mX9_pace, false, 473)), (315, (qa_mX10_pace, false, 1604)), (316, (qa_mL_ticksToShowByTicks, false, 1158)), (318, (qa_mX10_ticksToShowByTicks, false, 1608)), (319, (qa_mL_ticksToShowBySums, false, 1165)), (321, (qa_mX10_ticksToShowBySums, false, 1620)), (322, (qa_mL_burningsFor, false, 1172)), (324, (qa_mX10_burningsFor, false, 1624)), (325, (qa_mL_missesWith, false, 1179)), (327, (qa_mX10_missesWith, false, 1632)), (328, (qa_mL_bestOrder, false, 1190)), (330, (qa_mX10_bestOrder, false, 1640)), (331, (qa_mX9_time, false, 477)), (334, (qa_mX10_time, false, 1652)), (335, (qa_mX9_hits, false, 481)), (338, (qa_mX10_hits, false, 1656)), (339, (qa_mX9_misses, false, 485)), (342, (qa_mX10_misses, false, 1660)), (343, (qa_mX9_loads, false, 489)), (346, (qa_mX10_loads, false, 1644)), (347, (qa_mX9_warmLoads, false, 493)), (350, (qa_mX10_warmLoads, false, 1664)), (351, (qa_mX9_burnings, false, 497)), (354, (qa_mX10_burnings, false, 1648)), (355, (qa_mX9_waited, false, 501)), (358, (qa_mX10_waited, false, 1668)), (359, (qa_mX9_hitShare, false, 505)), (363, (qa_mX10_hitShare, false, 1672)), (364, (qa_mX9_digest, false, 513)), (368, (qa_mX10_digest, false, 1680))]
def qa_ca : Nat → List (Nat × (qa_M × Bool × Nat)) := fun k => match k with
  | 0 => qa_ca0
  | 1 => qa_ca1
  | 2 => qa_ca2
  | 3 => qa_ca3
  | 4 => qa_ca4
  | 5 => qa_ca5
  | 6 => qa_ca6
  | 7 => qa_ca7
  | 8 => qa_ca8
  | 9 => qa_ca9
  | 10 => qa_ca10
  | _ => qa_ca11
def qa_oi : List (Nat × Nat × Nat) := [(0, 1, 252), (1, 3, 85), (2, 3, 188), (3, 3, 138), (4, 3, 220), (5, 3, 325), (6, 3, 91), (7, 3, 158), (8, 3, 345), (9, 1, 77), (10, 1, 1202)]
def qa_an : List (Nat × Nat × Nat) := [(5, 9, 326), (9, 7, 80)]
/-- an exception: its number is its place; the pool numbers of its class and of its constructor in class 9 -/
def qa_xl : List (Nat × String × Nat × Nat) := [(342, "java/lang/IllegalArgumentException", 342, 344), (345, "java/lang/IndexOutOfBoundsException", 345, 347), (348, "java/lang/IllegalStateException", 348, 350)]
/-- a word stands at its place of lw_tbl, and is a good one -/
def qa_wk (w : Cond) (i : Nat) : Bool := decide (lw_tbl[i]? = some w) && goodWord w
def qa_fk (k : Nat) (e : Nat × Nat × Nat × Nat) : Bool := match vwCl[e.2.1]? with
  | some q => decide (e.2.2.1 < q.2.2) && qa_wk (.fieldLink (qa_cn k) e.1 (q.2.1 e.2.2.1).1 (q.2.1 e.2.2.1).2.1 (q.2.1 e.2.2.1).2.2.1) e.2.2.2
  | none => false
def qa_nk (k : Nat) (e : Nat × Nat × Nat) : Bool := match vwCl[e.2.1]? with
  | some q => qa_wk (.classLink (qa_cn k) e.1 q.1) e.2.2
  | none => false
def qa_kk (k : Nat) (e : Nat × Value × Nat) : Bool := match e.2.1 with
  | .long v => qa_wk (.constantLong (qa_cn k) e.1 v) e.2.2
  | .double v => qa_wk (.constantDouble (qa_cn k) e.1 v) e.2.2
  | _ => false
def qa_ck (k : Nat) (e : Nat × qa_M × Bool × Nat) : Bool := if e.2.2.1 then decide (lw_tbl[e.2.2.2]? = some (.methodLinkNest (qa_cn k) e.1 (qa_nm e.2.1) RX9)) else qa_wk (.methodLink (qa_cn k) e.1 (qa_nm e.2.1)) e.2.2.2
def qa_mk (M : qa_M) : Bool := decide ((qa_nm M).cls = qa_cn (qa_cl M)) && decide ((qa_nm M).cls ≠ "java/lang/invoke/MethodHandle" ∧ (qa_nm M).cls ≠ "java/lang/invoke/VarHandle") && plainName (qa_nm M).cls && decide ((parseMethodDescriptor (qa_nm M).desc).map (fun d => d.parameters.length) = some (if qa_sk M = 1 then qa_na M else qa_na M - 1)) && decide (qa_sk M = 1 ∨ 0 < qa_na M) && decide (qa_sk M = 0 ↔ (qa_nm M).name = "<init>") && decide (qa_sk M < 3)
  && qa_wk (if (qa_hh M).isEmpty then .code (qa_nm M) (qa_by M) (qa_ml M) (qa_rt M) else .codeWith (qa_nm M) (qa_by M) (qa_ml M) (qa_rt M) (qa_hh M)) (qa_wp M).1
  && qa_wk (if qa_sk M = 1 then .static (qa_nm M) else .instanceMethod (qa_nm M)) (qa_wp M).2.1
  && (decide (qa_sk M ≠ 2) || qa_wk (.selects (qa_cn (qa_cl M)) (qa_nm M) (qa_nm M)) (qa_wp M).2.2)
  && decide (qa_sk M = 0 → qa_rt M = none)
theorem qa_fl_k0 : (qa_fl 0).all (qa_fk 0) = true := by decide +kernel
theorem qa_fl_k1 : (qa_fl 1).all (qa_fk 1) = true := by decide +kernel
theorem qa_fl_k2 : (qa_fl 2).all (qa_fk 2) = true := by decide +kernel
theorem qa_fl_k3 : (qa_fl 3).all (qa_fk 3) = true := by decide +kernel
theorem qa_fl_k4 : (qa_fl 4).all (qa_fk 4) = true := by decide +kernel
theorem qa_fl_k5 : (qa_fl 5).all (qa_fk 5) = true := by decide +kernel
theorem qa_fl_k6 : (qa_fl 6).all (qa_fk 6) = true := by decide +kernel
theorem qa_fl_k7 : (qa_fl 7).all (qa_fk 7) = true := by decide +kernel
theorem qa_fl_k8 : (qa_fl 8).all (qa_fk 8) = true := by decide +kernel
theorem qa_fl_k9 : (qa_fl 9).all (qa_fk 9) = true := by decide +kernel
theorem qa_fl_k10 : (qa_fl 10).all (qa_fk 10) = true := by decide +kernel
theorem qa_fl_k11 : (qa_fl 11).all (qa_fk 11) = true := by decide +kernel
theorem qa_nw_k0 : (qa_nw 0).all (qa_nk 0) = true := by decide +kernel
theorem qa_nw_k1 : (qa_nw 1).all (qa_nk 1) = true := by decide +kernel
theorem qa_nw_k2 : (qa_nw 2).all (qa_nk 2) = true := by decide +kernel
theorem qa_nw_k3 : (qa_nw 3).all (qa_nk 3) = true := by decide +kernel
theorem qa_nw_k4 : (qa_nw 4).all (qa_nk 4) = true := by decide +kernel
theorem qa_nw_k5 : (qa_nw 5).all (qa_nk 5) = true := by decide +kernel
theorem qa_nw_k6 : (qa_nw 6).all (qa_nk 6) = true := by decide +kernel
theorem qa_nw_k7 : (qa_nw 7).all (qa_nk 7) = true := by decide +kernel
theorem qa_nw_k8 : (qa_nw 8).all (qa_nk 8) = true := by decide +kernel
theorem qa_nw_k9 : (qa_nw 9).all (qa_nk 9) = true := by decide +kernel
theorem qa_nw_k10 : (qa_nw 10).all (qa_nk 10) = true := by decide +kernel
theorem qa_nw_k11 : (qa_nw 11).all (qa_nk 11) = true := by decide +kernel
theorem qa_kl_k0 : (qa_kl 0).all (qa_kk 0) = true := by decide +kernel
theorem qa_kl_k1 : (qa_kl 1).all (qa_kk 1) = true := by decide +kernel
theorem qa_kl_k2 : (qa_kl 2).all (qa_kk 2) = true := by decide +kernel
theorem qa_kl_k3 : (qa_kl 3).all (qa_kk 3) = true := by decide +kernel
theorem qa_kl_k4 : (qa_kl 4).all (qa_kk 4) = true := by decide +kernel
theorem qa_kl_k5 : (qa_kl 5).all (qa_kk 5) = true := by decide +kernel
theorem qa_kl_k6 : (qa_kl 6).all (qa_kk 6) = true := by decide +kernel
theorem qa_kl_k7 : (qa_kl 7).all (qa_kk 7) = true := by decide +kernel
theorem qa_kl_k8 : (qa_kl 8).all (qa_kk 8) = true := by decide +kernel
theorem qa_kl_k9 : (qa_kl 9).all (qa_kk 9) = true := by decide +kernel
theorem qa_kl_k10 : (qa_kl 10).all (qa_kk 10) = true := by decide +kernel
theorem qa_kl_k11 : (qa_kl 11).all (qa_kk 11) = true := by decide +kernel
theorem qa_ca_k0 : (qa_ca 0).all (qa_ck 0) = true := by decide +kernel
theorem qa_ca_k1 : (qa_ca 1).all (qa_ck 1) = true := by decide +kernel
theorem qa_ca_k2 : (qa_ca 2).all (qa_ck 2) = true := by decide +kernel
theorem qa_ca_k3 : (qa_ca 3).all (qa_ck 3) = true := by decide +kernel
theorem qa_ca_k4 : (qa_ca 4).all (qa_ck 4) = true := by decide +kernel
theorem qa_ca_k5 : (qa_ca 5).all (qa_ck 5) = true := by decide +kernel
theorem qa_ca_k6 : (qa_ca 6).all (qa_ck 6) = true := by decide +kernel
theorem qa_ca_k7 : (qa_ca 7).all (qa_ck 7) = true := by decide +kernel
theorem qa_ca_k8 : (qa_ca 8).all (qa_ck 8) = true := by decide +kernel
theorem qa_ca_k9 : (qa_ca 9).all (qa_ck 9) = true := by decide +kernel
theorem qa_ca_k10 : (qa_ca 10).all (qa_ck 10) = true := by decide +kernel
theorem qa_ca_k11 : (qa_ca 11).all (qa_ck 11) = true := by decide +kernel
def qa_xn (E : Nat) : String := match E with
  | 342 => "java/lang/IllegalArgumentException"
  | 345 => "java/lang/IndexOutOfBoundsException"
  | _ => "java/lang/IllegalStateException"
/-- the rows of the exception tables: number of the class in the pool, which exception, the place of its word -/
def qa_hq : List (Nat × Nat × Nat) := [(13, 342, 724), (15, 348, 725), (21, 345, 830)]
def qa_ht : List (Nat × Nat) := [(13, 342), (15, 348), (21, 345)]
theorem qa_hq_k : qa_hq.all (fun q => qa_wk (.classLink RL q.1 (qa_xn q.2.1)) q.2.2) = true := by decide +kernel
theorem qa_ht_k : ∀ q ∈ qa_ht, ∃ z ∈ qa_hq, z.1 = q.1 ∧ z.2.1 = q.2 := by decide +kernel
def qa_in_tbl (w : Cond) : Bool := decide (w ∈ lw_tbl) && goodWord w
theorem qa_oi_k : qa_oi.all (fun q => qa_wk (.methodLink (qa_cn q.1) q.2.1 Lib.objectInit) q.2.2) = true := by decide +kernel
theorem qa_oi_w : ([.instanceMethod Lib.objectInit, .code Lib.objectInit ⟨#[0xb1]⟩ 1 none] : List Cond).all qa_in_tbl = true := by decide +kernel
theorem qa_an_k : qa_an.all (fun q => qa_wk (.classLink (qa_cn q.1) q.2.1 RX1) q.2.2) = true := by decide +kernel
theorem qa_ar_w : ([.arrayClass .int, .arrayClass .boolean, .arrayClass .long] : List Cond).all qa_in_tbl = true := by decide +kernel
theorem qa_cw_0 : (Cond.initialized RX0 :: Cond.instantiable RX0 7 :: u_ws RX0 TX0 7).all qa_in_tbl = true := by decide +kernel
theorem qa_cw_1 : (Cond.initialized RX1 :: Cond.instantiable RX1 8 :: u_ws RX1 TX1 8).all qa_in_tbl = true := by decide +kernel
theorem qa_cw_2 : (Cond.initialized RX2 :: Cond.instantiable RX2 5 :: u_ws RX2 TX2 5).all qa_in_tbl = true := by decide +kernel
theorem qa_cw_3 : (Cond.initialized RX3 :: Cond.instantiable RX3 3 :: u_ws RX3 TX3 3).all qa_in_tbl = true := by decide +kernel
theorem qa_cw_4 : (Cond.initialized RX4 :: Cond.instantiable RX4 5 :: u_ws RX4 TX4 5).all qa_in_tbl = true := by decide +kernel
theorem qa_cw_5 : (Cond.initialized RX5 :: Cond.instantiable RX5 3 :: u_ws RX5 TX5 3).all qa_in_tbl = true := by decide +kernel
theorem qa_cw_6 : (Cond.initialized RX6 :: Cond.instantiable RX6 9 :: u_ws RX6 TX6 9).all qa_in_tbl = true := by decide +kernel
theorem qa_cw_7 : (Cond.initialized RX7 :: Cond.instantiable RX7 5 :: u_ws RX7 TX7 5).all qa_in_tbl = true := by decide +kernel
theorem qa_cw_8 : (Cond.initialized RX8 :: Cond.instantiable RX8 5 :: u_ws RX8 TX8 5).all qa_in_tbl = true := by decide +kernel
theorem qa_cw_9 : (Cond.initialized RX9 :: Cond.instantiable RX9 6 :: u_ws RX9 TX9 6).all qa_in_tbl = true := by decide +kernel
theorem qa_cw_10 : (Cond.initialized RX10 :: Cond.instantiable RX10 15 :: u_ws RX10 TX10 15).all qa_in_tbl = true := by decide +kernel
theorem qa_ini_l : qa_in_tbl (Cond.initialized RL) = true ∨ True := Or.inr trivial
end
section
def qa_Ok (M : qa_M) : Prop := qa_de M = true ∧ qa_mk M = true
theorem qa_fl_k (k : Nat) (hk : k < 12) : (qa_fl k).all (qa_fk k) = true := by
  match k, hk with
  | 0, _ => exact qa_fl_k0
  | 1, _ => exact qa_fl_k1
  | 2, _ => exact qa_fl_k2
  | 3, _ => exact qa_fl_k3
  | 4, _ => exact qa_fl_k4
  | 5, _ => exact qa_fl_k5
  | 6, _ => exact qa_fl_k6
  | 7, _ => exact qa_fl_k7
  | 8, _ => exact qa_fl_k8
  | 9, _ => exact qa_fl_k9
  | 10, _ => exact qa_fl_k10
  | 11, _ => exact qa_fl_k11
  | _ + 12, h => exact absurd h (by omega)
theorem qa_nw_k (k : Nat) (hk : k < 12) : (qa_nw k).all (qa_nk k) = true := by
  match k, hk with
  | 0, _ => exact qa_nw_k0
  | 1, _ => exact qa_nw_k1
  | 2, _ => exact qa_nw_k2
  | 3, _ => exact qa_nw_k3
  | 4, _ => exact qa_nw_k4
  | 5, _ => exact qa_nw_k5
  | 6, _ => exact qa_nw_k6
  | 7, _ => exact qa_nw_k7
  | 8, _ => exact qa_nw_k8
  | 9, _ => exact qa_nw_k9
  | 10, _ => exact qa_nw_k10
  | 11, _ => exact qa_nw_k11
  | _ + 12, h => exact absurd h (by omega)
theorem qa_kl_k (k : Nat) (hk : k < 12) : (qa_kl k).all (qa_kk k) = true := by
  match k, hk with
  | 0, _ => exact qa_kl_k0
  | 1, _ => exact qa_kl_k1
  | 2, _ => exact qa_kl_k2
  | 3, _ => exact qa_kl_k3
  | 4, _ => exact qa_kl_k4
  | 5, _ => exact qa_kl_k5
  | 6, _ => exact qa_kl_k6
  | 7, _ => exact qa_kl_k7
  | 8, _ => exact qa_kl_k8
  | 9, _ => exact qa_kl_k9
  | 10, _ => exact qa_kl_k10
  | 11, _ => exact qa_kl_k11
  | _ + 12, h => exact absurd h (by omega)
theorem qa_ca_k (k : Nat) (hk : k < 12) : (qa_ca k).all (qa_ck k) = true := by
  match k, hk with
  | 0, _ => exact qa_ca_k0
  | 1, _ => exact qa_ca_k1
  | 2, _ => exact qa_ca_k2
  | 3, _ => exact qa_ca_k3
  | 4, _ => exact qa_ca_k4
  | 5, _ => exact qa_ca_k5
  | 6, _ => exact qa_ca_k6
  | 7, _ => exact qa_ca_k7
  | 8, _ => exact qa_ca_k8
  | 9, _ => exact qa_ca_k9
  | 10, _ => exact qa_ca_k10
  | 11, _ => exact qa_ca_k11
  | _ + 12, h => exact absurd h (by omega)
end
section
/-! the methods, checked one by one: each instruction, the words of its code and of its calls (written by wip/tools/mk_tab.py) -/
theorem qa_dX0_init : qa_de qa_mX0_init = true := by decide +kernel
theorem qa_oX0_init : qa_Ok qa_mX0_init := ⟨qa_dX0_init, by decide +kernel⟩
theorem qa_dX0_copyFrom : qa_de qa_mX0_copyFrom = true := by decide +kernel
theorem qa_oX0_copyFrom : qa_Ok qa_mX0_copyFrom := ⟨qa_dX0_copyFrom, by decide +kernel⟩
theorem qa_dX0_shareOfHits : qa_de qa_mX0_shareOfHits = true := by decide +kernel
theorem qa_oX0_shareOfHits : qa_Ok qa_mX0_shareOfHits := ⟨qa_dX0_shareOfHits, by decide +kernel⟩
theorem qa_dX1_init : qa_de qa_mX1_init = true := by decide +kernel
theorem qa_oX1_init : qa_Ok qa_mX1_init := ⟨qa_dX1_init, by decide +kernel⟩
theorem qa_dX1_copyFrom : qa_de qa_mX1_copyFrom = true := by decide +kernel
theorem qa_oX1_copyFrom : qa_Ok qa_mX1_copyFrom := ⟨qa_dX1_copyFrom, by decide +kernel⟩
theorem qa_dX1_mayGoOn : qa_de qa_mX1_mayGoOn = true := by decide +kernel
theorem qa_oX1_mayGoOn : qa_Ok qa_mX1_mayGoOn := ⟨qa_dX1_mayGoOn, by decide +kernel⟩
theorem qa_dX1_mayAsk : qa_de qa_mX1_mayAsk = true := by decide +kernel
theorem qa_oX1_mayAsk : qa_Ok qa_mX1_mayAsk := ⟨qa_dX1_mayAsk, by decide +kernel⟩
theorem qa_dX1_mayBurn : qa_de qa_mX1_mayBurn = true := by decide +kernel
theorem qa_oX1_mayBurn : qa_Ok qa_mX1_mayBurn := ⟨qa_dX1_mayBurn, by decide +kernel⟩
theorem qa_dX1_obey : qa_de qa_mX1_obey = true := by decide +kernel
theorem qa_oX1_obey : qa_Ok qa_mX1_obey := ⟨qa_dX1_obey, by decide +kernel⟩
theorem qa_dX1_obeyGoOn : qa_de qa_mX1_obeyGoOn = true := by decide +kernel
theorem qa_oX1_obeyGoOn : qa_Ok qa_mX1_obeyGoOn := ⟨qa_dX1_obeyGoOn, by decide +kernel⟩
theorem qa_dX1_obeyAsk : qa_de qa_mX1_obeyAsk = true := by decide +kernel
theorem qa_oX1_obeyAsk : qa_Ok qa_mX1_obeyAsk := ⟨qa_dX1_obeyAsk, by decide +kernel⟩
theorem qa_dX1_obeyBurn : qa_de qa_mX1_obeyBurn = true := by decide +kernel
theorem qa_oX1_obeyBurn : qa_Ok qa_mX1_obeyBurn := ⟨qa_dX1_obeyBurn, by decide +kernel⟩
theorem qa_dX1_obeyInsert : qa_de qa_mX1_obeyInsert = true := by decide +kernel
theorem qa_oX1_obeyInsert : qa_Ok qa_mX1_obeyInsert := ⟨qa_dX1_obeyInsert, by decide +kernel⟩
theorem qa_dX1_proceed : qa_de qa_mX1_proceed = true := by decide +kernel
theorem qa_oX1_proceed : qa_Ok qa_mX1_proceed := ⟨qa_dX1_proceed, by decide +kernel⟩
theorem qa_dX1_bringOn : qa_de qa_mX1_bringOn = true := by decide +kernel
theorem qa_oX1_bringOn : qa_Ok qa_mX1_bringOn := ⟨qa_dX1_bringOn, by decide +kernel⟩
theorem qa_dX1_passTicks : qa_de qa_mX1_passTicks = true := by decide +kernel
theorem qa_oX1_passTicks : qa_Ok qa_mX1_passTicks := ⟨qa_dX1_passTicks, by decide +kernel⟩
theorem qa_dX1_passTick : qa_de qa_mX1_passTick = true := by decide +kernel
theorem qa_oX1_passTick : qa_Ok qa_mX1_passTick := ⟨qa_dX1_passTick, by decide +kernel⟩
theorem qa_dX1_paceIsReached : qa_de qa_mX1_paceIsReached = true := by decide +kernel
theorem qa_oX1_paceIsReached : qa_Ok qa_mX1_paceIsReached := ⟨qa_dX1_paceIsReached, by decide +kernel⟩
theorem qa_dX1_loadOnce : qa_de qa_mX1_loadOnce = true := by decide +kernel
theorem qa_oX1_loadOnce : qa_Ok qa_mX1_loadOnce := ⟨qa_dX1_loadOnce, by decide +kernel⟩
theorem qa_dX1_beginLoading : qa_de qa_mX1_beginLoading = true := by decide +kernel
theorem qa_oX1_beginLoading : qa_Ok qa_mX1_beginLoading := ⟨qa_dX1_beginLoading, by decide +kernel⟩
theorem qa_dX1_nextToLoad : qa_de qa_mX1_nextToLoad = true := by decide +kernel
theorem qa_oX1_nextToLoad : qa_Ok qa_mX1_nextToLoad := ⟨qa_dX1_nextToLoad, by decide +kernel⟩
theorem qa_dX1_nextInGoodTime : qa_de qa_mX1_nextInGoodTime = true := by decide +kernel
theorem qa_oX1_nextInGoodTime : qa_Ok qa_mX1_nextInGoodTime := ⟨qa_dX1_nextInGoodTime, by decide +kernel⟩
theorem qa_dX1_putOnFire : qa_de qa_mX1_putOnFire = true := by decide +kernel
theorem qa_oX1_putOnFire : qa_Ok qa_mX1_putOnFire := ⟨qa_dX1_putOnFire, by decide +kernel⟩
theorem qa_dX1_burnDownTo : qa_de qa_mX1_burnDownTo = true := by decide +kernel
theorem qa_oX1_burnDownTo : qa_Ok qa_mX1_burnDownTo := ⟨qa_dX1_burnDownTo, by decide +kernel⟩
theorem qa_dX1_lineUp : qa_de qa_mX1_lineUp = true := by decide +kernel
theorem qa_oX1_lineUp : qa_Ok qa_mX1_lineUp := ⟨qa_dX1_lineUp, by decide +kernel⟩
theorem qa_dX1_weighByUseOrCost : qa_de qa_mX1_weighByUseOrCost = true := by decide +kernel
theorem qa_oX1_weighByUseOrCost : qa_Ok qa_mX1_weighByUseOrCost := ⟨qa_dX1_weighByUseOrCost, by decide +kernel⟩
theorem qa_dX1_weighByNextUse : qa_de qa_mX1_weighByNextUse = true := by decide +kernel
theorem qa_oX1_weighByNextUse : qa_Ok qa_mX1_weighByNextUse := ⟨qa_dX1_weighByNextUse, by decide +kernel⟩
theorem qa_dX1_placeInLine : qa_de qa_mX1_placeInLine = true := by decide +kernel
theorem qa_oX1_placeInLine : qa_Ok qa_mX1_placeInLine := ⟨qa_dX1_placeInLine, by decide +kernel⟩
theorem qa_dX1_burningsToLoad : qa_de qa_mX1_burningsToLoad = true := by decide +kernel
theorem qa_oX1_burningsToLoad : qa_Ok qa_mX1_burningsToLoad := ⟨qa_dX1_burningsToLoad, by decide +kernel⟩
theorem qa_dX1_sumOfCosts : qa_de qa_mX1_sumOfCosts = true := by decide +kernel
theorem qa_oX1_sumOfCosts : qa_Ok qa_mX1_sumOfCosts := ⟨qa_dX1_sumOfCosts, by decide +kernel⟩
theorem qa_dX1_sumOfWait : qa_de qa_mX1_sumOfWait = true := by decide +kernel
theorem qa_oX1_sumOfWait : qa_Ok qa_mX1_sumOfWait := ⟨qa_dX1_sumOfWait, by decide +kernel⟩
theorem qa_dX2_init : qa_de qa_mX2_init = true := by decide +kernel
theorem qa_oX2_init : qa_Ok qa_mX2_init := ⟨qa_dX2_init, by decide +kernel⟩
theorem qa_dX2_copyFrom : qa_de qa_mX2_copyFrom = true := by decide +kernel
theorem qa_oX2_copyFrom : qa_Ok qa_mX2_copyFrom := ⟨qa_dX2_copyFrom, by decide +kernel⟩
theorem qa_dX2_queuePlace : qa_de qa_mX2_queuePlace = true := by decide +kernel
theorem qa_oX2_queuePlace : qa_Ok qa_mX2_queuePlace := ⟨qa_dX2_queuePlace, by decide +kernel⟩
theorem qa_dX2_queue : qa_de qa_mX2_queue = true := by decide +kernel
theorem qa_oX2_queue : qa_Ok qa_mX2_queue := ⟨qa_dX2_queue, by decide +kernel⟩
theorem qa_dX2_unqueue : qa_de qa_mX2_unqueue = true := by decide +kernel
theorem qa_oX2_unqueue : qa_Ok qa_mX2_unqueue := ⟨qa_dX2_unqueue, by decide +kernel⟩
theorem qa_dX3_init : qa_de qa_mX3_init = true := by decide +kernel
theorem qa_oX3_init : qa_Ok qa_mX3_init := ⟨qa_dX3_init, by decide +kernel⟩
theorem qa_dX3_copyFrom : qa_de qa_mX3_copyFrom = true := by decide +kernel
theorem qa_oX3_copyFrom : qa_Ok qa_mX3_copyFrom := ⟨qa_dX3_copyFrom, by decide +kernel⟩
theorem qa_dX3_has : qa_de qa_mX3_has = true := by decide +kernel
theorem qa_oX3_has : qa_Ok qa_mX3_has := ⟨qa_dX3_has, by decide +kernel⟩
theorem qa_dX3_put : qa_de qa_mX3_put = true := by decide +kernel
theorem qa_oX3_put : qa_Ok qa_mX3_put := ⟨qa_dX3_put, by decide +kernel⟩
theorem qa_dX3_remove : qa_de qa_mX3_remove = true := by decide +kernel
theorem qa_oX3_remove : qa_Ok qa_mX3_remove := ⟨qa_dX3_remove, by decide +kernel⟩
theorem qa_dX3_advance : qa_de qa_mX3_advance = true := by decide +kernel
theorem qa_oX3_advance : qa_Ok qa_mX3_advance := ⟨qa_dX3_advance, by decide +kernel⟩
theorem qa_dX3_slideAhead : qa_de qa_mX3_slideAhead = true := by decide +kernel
theorem qa_oX3_slideAhead : qa_Ok qa_mX3_slideAhead := ⟨qa_dX3_slideAhead, by decide +kernel⟩
theorem qa_dX3_placesUntil : qa_de qa_mX3_placesUntil = true := by decide +kernel
theorem qa_oX3_placesUntil : qa_Ok qa_mX3_placesUntil := ⟨qa_dX3_placesUntil, by decide +kernel⟩
theorem qa_dX4_init : qa_de qa_mX4_init = true := by decide +kernel
theorem qa_oX4_init : qa_Ok qa_mX4_init := ⟨qa_dX4_init, by decide +kernel⟩
theorem qa_dX4_copyFrom : qa_de qa_mX4_copyFrom = true := by decide +kernel
theorem qa_oX4_copyFrom : qa_Ok qa_mX4_copyFrom := ⟨qa_dX4_copyFrom, by decide +kernel⟩
theorem qa_dX5_init : qa_de qa_mX5_init = true := by decide +kernel
theorem qa_oX5_init : qa_Ok qa_mX5_init := ⟨qa_dX5_init, by decide +kernel⟩
theorem qa_dX5_push : qa_de qa_mX5_push = true := by decide +kernel
theorem qa_oX5_push : qa_Ok qa_mX5_push := ⟨qa_dX5_push, by decide +kernel⟩
theorem qa_dX5_popInto : qa_de qa_mX5_popInto = true := by decide +kernel
theorem qa_oX5_popInto : qa_Ok qa_mX5_popInto := ⟨qa_dX5_popInto, by decide +kernel⟩
theorem qa_dX6_init : qa_de qa_mX6_init = true := by decide +kernel
theorem qa_oX6_init : qa_Ok qa_mX6_init := ⟨qa_dX6_init, by decide +kernel⟩
theorem qa_dX6_copyFrom : qa_de qa_mX6_copyFrom = true := by decide +kernel
theorem qa_oX6_copyFrom : qa_Ok qa_mX6_copyFrom := ⟨qa_dX6_copyFrom, by decide +kernel⟩
theorem qa_dX6_has : qa_de qa_mX6_has = true := by decide +kernel
theorem qa_oX6_has : qa_Ok qa_mX6_has := ⟨qa_dX6_has, by decide +kernel⟩
theorem qa_dX6_isReady : qa_de qa_mX6_isReady = true := by decide +kernel
theorem qa_oX6_isReady : qa_Ok qa_mX6_isReady := ⟨qa_dX6_isReady, by decide +kernel⟩
theorem qa_dX6_setReady : qa_de qa_mX6_setReady = true := by decide +kernel
theorem qa_oX6_setReady : qa_Ok qa_mX6_setReady := ⟨qa_dX6_setReady, by decide +kernel⟩
theorem qa_dX6_add : qa_de qa_mX6_add = true := by decide +kernel
theorem qa_oX6_add : qa_Ok qa_mX6_add := ⟨qa_dX6_add, by decide +kernel⟩
theorem qa_dX6_ticksToLoad : qa_de qa_mX6_ticksToLoad = true := by decide +kernel
theorem qa_oX6_ticksToLoad : qa_Ok qa_mX6_ticksToLoad := ⟨qa_dX6_ticksToLoad, by decide +kernel⟩
theorem qa_dX6_use : qa_de qa_mX6_use = true := by decide +kernel
theorem qa_oX6_use : qa_Ok qa_mX6_use := ⟨qa_dX6_use, by decide +kernel⟩
theorem qa_dX6_coolEmbers : qa_de qa_mX6_coolEmbers = true := by decide +kernel
theorem qa_oX6_coolEmbers : qa_Ok qa_mX6_coolEmbers := ⟨qa_dX6_coolEmbers, by decide +kernel⟩
theorem qa_dX7_init : qa_de qa_mX7_init = true := by decide +kernel
theorem qa_oX7_init : qa_Ok qa_mX7_init := ⟨qa_dX7_init, by decide +kernel⟩
theorem qa_dX7_copyFrom : qa_de qa_mX7_copyFrom = true := by decide +kernel
theorem qa_oX7_copyFrom : qa_Ok qa_mX7_copyFrom := ⟨qa_dX7_copyFrom, by decide +kernel⟩
theorem qa_dX7_bears : qa_de qa_mX7_bears = true := by decide +kernel
theorem qa_oX7_bears : qa_Ok qa_mX7_bears := ⟨qa_dX7_bears, by decide +kernel⟩
theorem qa_dX7_bring : qa_de qa_mX7_bring = true := by decide +kernel
theorem qa_oX7_bring : qa_Ok qa_mX7_bring := ⟨qa_dX7_bring, by decide +kernel⟩
theorem qa_dX7_fadeOnce : qa_de qa_mX7_fadeOnce = true := by decide +kernel
theorem qa_oX7_fadeOnce : qa_Ok qa_mX7_fadeOnce := ⟨qa_dX7_fadeOnce, by decide +kernel⟩
theorem qa_dX7_countShown : qa_de qa_mX7_countShown = true := by decide +kernel
theorem qa_oX7_countShown : qa_Ok qa_mX7_countShown := ⟨qa_dX7_countShown, by decide +kernel⟩
theorem qa_dX8_init : qa_de qa_mX8_init = true := by decide +kernel
theorem qa_oX8_init : qa_Ok qa_mX8_init := ⟨qa_dX8_init, by decide +kernel⟩
theorem qa_dX8_add : qa_de qa_mX8_add = true := by decide +kernel
theorem qa_oX8_add : qa_Ok qa_mX8_add := ⟨qa_dX8_add, by decide +kernel⟩
theorem qa_dX8_startReading : qa_de qa_mX8_startReading = true := by decide +kernel
theorem qa_oX8_startReading : qa_Ok qa_mX8_startReading := ⟨qa_dX8_startReading, by decide +kernel⟩
theorem qa_dX8_startPart : qa_de qa_mX8_startPart = true := by decide +kernel
theorem qa_oX8_startPart : qa_Ok qa_mX8_startPart := ⟨qa_dX8_startPart, by decide +kernel⟩
theorem qa_dX8_readPart : qa_de qa_mX8_readPart = true := by decide +kernel
theorem qa_oX8_readPart : qa_Ok qa_mX8_readPart := ⟨qa_dX8_readPart, by decide +kernel⟩
theorem qa_dX8_readToError : qa_de qa_mX8_readToError = true := by decide +kernel
theorem qa_oX8_readToError : qa_Ok qa_mX8_readToError := ⟨qa_dX8_readToError, by decide +kernel⟩
theorem qa_dX8_tellsOrders : qa_de qa_mX8_tellsOrders = true := by decide +kernel
theorem qa_oX8_tellsOrders : qa_Ok qa_mX8_tellsOrders := ⟨qa_dX8_tellsOrders, by decide +kernel⟩
theorem qa_dX8_partMayEnd : qa_de qa_mX8_partMayEnd = true := by decide +kernel
theorem qa_oX8_partMayEnd : qa_Ok qa_mX8_partMayEnd := ⟨qa_dX8_partMayEnd, by decide +kernel⟩
theorem qa_dX8_accept : qa_de qa_mX8_accept = true := by decide +kernel
theorem qa_oX8_accept : qa_Ok qa_mX8_accept := ⟨qa_dX8_accept, by decide +kernel⟩
theorem qa_dX8_acceptDigit : qa_de qa_mX8_acceptDigit = true := by decide +kernel
theorem qa_oX8_acceptDigit : qa_Ok qa_mX8_acceptDigit := ⟨qa_dX8_acceptDigit, by decide +kernel⟩
theorem qa_dX9_init : qa_de qa_mX9_init = true := by decide +kernel
theorem qa_oX9_init : qa_Ok qa_mX9_init := ⟨qa_dX9_init, by decide +kernel⟩
theorem qa_dX9_addSlide : qa_de qa_mX9_addSlide = true := by decide +kernel
theorem qa_oX9_addSlide : qa_Ok qa_mX9_addSlide := ⟨qa_dX9_addSlide, by decide +kernel⟩
theorem qa_dX9_insert : qa_de qa_mX9_insert = true := by decide +kernel
theorem qa_oX9_insert : qa_Ok qa_mX9_insert := ⟨qa_dX9_insert, by decide +kernel⟩
theorem qa_dX9_takeOut : qa_de qa_mX9_takeOut = true := by decide +kernel
theorem qa_oX9_takeOut : qa_Ok qa_mX9_takeOut := ⟨qa_dX9_takeOut, by decide +kernel⟩
theorem qa_dX9_goOn : qa_de qa_mX9_goOn = true := by decide +kernel
theorem qa_oX9_goOn : qa_Ok qa_mX9_goOn := ⟨qa_dX9_goOn, by decide +kernel⟩
theorem qa_dX9_ask : qa_de qa_mX9_ask = true := by decide +kernel
theorem qa_oX9_ask : qa_Ok qa_mX9_ask := ⟨qa_dX9_ask, by decide +kernel⟩
theorem qa_dX9_burn : qa_de qa_mX9_burn = true := by decide +kernel
theorem qa_oX9_burn : qa_Ok qa_mX9_burn := ⟨qa_dX9_burn, by decide +kernel⟩
theorem qa_dX9_tick : qa_de qa_mX9_tick = true := by decide +kernel
theorem qa_oX9_tick : qa_Ok qa_mX9_tick := ⟨qa_dX9_tick, by decide +kernel⟩
theorem qa_dX9_changeMemory : qa_de qa_mX9_changeMemory = true := by decide +kernel
theorem qa_oX9_changeMemory : qa_Ok qa_mX9_changeMemory := ⟨qa_dX9_changeMemory, by decide +kernel⟩
theorem qa_dX9_changeAhead : qa_de qa_mX9_changeAhead = true := by decide +kernel
theorem qa_oX9_changeAhead : qa_Ok qa_mX9_changeAhead := ⟨qa_dX9_changeAhead, by decide +kernel⟩
theorem qa_dX9_changeOrder : qa_de qa_mX9_changeOrder = true := by decide +kernel
theorem qa_oX9_changeOrder : qa_Ok qa_mX9_changeOrder := ⟨qa_dX9_changeOrder, by decide +kernel⟩
theorem qa_dX9_changeGlow : qa_de qa_mX9_changeGlow = true := by decide +kernel
theorem qa_oX9_changeGlow : qa_Ok qa_mX9_changeGlow := ⟨qa_dX9_changeGlow, by decide +kernel⟩
theorem qa_dX9_changePace : qa_de qa_mX9_changePace = true := by decide +kernel
theorem qa_oX9_changePace : qa_Ok qa_mX9_changePace := ⟨qa_dX9_changePace, by decide +kernel⟩
theorem qa_dX9_append : qa_de qa_mX9_append = true := by decide +kernel
theorem qa_oX9_append : qa_Ok qa_mX9_append := ⟨qa_dX9_append, by decide +kernel⟩
theorem qa_dX9_clearBuffer : qa_de qa_mX9_clearBuffer = true := by decide +kernel
theorem qa_oX9_clearBuffer : qa_Ok qa_mX9_clearBuffer := ⟨qa_dX9_clearBuffer, by decide +kernel⟩
theorem qa_dX9_firstError : qa_de qa_mX9_firstError = true := by decide +kernel
theorem qa_oX9_firstError : qa_Ok qa_mX9_firstError := ⟨qa_dX9_firstError, by decide +kernel⟩
theorem qa_dX9_follow : qa_de qa_mX9_follow = true := by decide +kernel
theorem qa_oX9_follow : qa_Ok qa_mX9_follow := ⟨qa_dX9_follow, by decide +kernel⟩
theorem qa_dX9_keep : qa_de qa_mX9_keep = true := by decide +kernel
theorem qa_oX9_keep : qa_Ok qa_mX9_keep := ⟨qa_dX9_keep, by decide +kernel⟩
theorem qa_dX9_goBack : qa_de qa_mX9_goBack = true := by decide +kernel
theorem qa_oX9_goBack : qa_Ok qa_mX9_goBack := ⟨qa_dX9_goBack, by decide +kernel⟩
theorem qa_dX9_undo : qa_de qa_mX9_undo = true := by decide +kernel
theorem qa_oX9_undo : qa_Ok qa_mX9_undo := ⟨qa_dX9_undo, by decide +kernel⟩
theorem qa_dX9_savedStates : qa_de qa_mX9_savedStates = true := by decide +kernel
theorem qa_oX9_savedStates : qa_Ok qa_mX9_savedStates := ⟨qa_dX9_savedStates, by decide +kernel⟩
theorem qa_dX9_slides : qa_de qa_mX9_slides = true := by decide +kernel
theorem qa_oX9_slides : qa_Ok qa_mX9_slides := ⟨qa_dX9_slides, by decide +kernel⟩
theorem qa_dX9_costOf : qa_de qa_mX9_costOf = true := by decide +kernel
theorem qa_oX9_costOf : qa_Ok qa_mX9_costOf := ⟨qa_dX9_costOf, by decide +kernel⟩
theorem qa_dX9_loadOf : qa_de qa_mX9_loadOf = true := by decide +kernel
theorem qa_oX9_loadOf : qa_Ok qa_mX9_loadOf := ⟨qa_dX9_loadOf, by decide +kernel⟩
theorem qa_dX9_fadeOf : qa_de qa_mX9_fadeOf = true := by decide +kernel
theorem qa_oX9_fadeOf : qa_Ok qa_mX9_fadeOf := ⟨qa_dX9_fadeOf, by decide +kernel⟩
theorem qa_dX9_isLoaded : qa_de qa_mX9_isLoaded = true := by decide +kernel
theorem qa_oX9_isLoaded : qa_Ok qa_mX9_isLoaded := ⟨qa_dX9_isLoaded, by decide +kernel⟩
theorem qa_dX9_isOnShow : qa_de qa_mX9_isOnShow = true := by decide +kernel
theorem qa_oX9_isOnShow : qa_Ok qa_mX9_isOnShow := ⟨qa_dX9_isOnShow, by decide +kernel⟩
theorem qa_dX9_glowOf : qa_de qa_mX9_glowOf = true := by decide +kernel
theorem qa_oX9_glowOf : qa_Ok qa_mX9_glowOf := ⟨qa_dX9_glowOf, by decide +kernel⟩
theorem qa_dX9_burntTimes : qa_de qa_mX9_burntTimes = true := by decide +kernel
theorem qa_oX9_burntTimes : qa_Ok qa_mX9_burntTimes := ⟨qa_dX9_burntTimes, by decide +kernel⟩
theorem qa_dX9_nextUse : qa_de qa_mX9_nextUse = true := by decide +kernel
theorem qa_oX9_nextUse : qa_Ok qa_mX9_nextUse := ⟨qa_dX9_nextUse, by decide +kernel⟩
theorem qa_dX9_burnPlace : qa_de qa_mX9_burnPlace = true := by decide +kernel
theorem qa_oX9_burnPlace : qa_Ok qa_mX9_burnPlace := ⟨qa_dX9_burnPlace, by decide +kernel⟩
theorem qa_dX9_places : qa_de qa_mX9_places = true := by decide +kernel
theorem qa_oX9_places : qa_Ok qa_mX9_places := ⟨qa_dX9_places, by decide +kernel⟩
theorem qa_dX9_slideAt : qa_de qa_mX9_slideAt = true := by decide +kernel
theorem qa_oX9_slideAt : qa_Ok qa_mX9_slideAt := ⟨qa_dX9_slideAt, by decide +kernel⟩
theorem qa_dX9_showPlace : qa_de qa_mX9_showPlace = true := by decide +kernel
theorem qa_oX9_showPlace : qa_Ok qa_mX9_showPlace := ⟨qa_dX9_showPlace, by decide +kernel⟩
theorem qa_dX9_shown : qa_de qa_mX9_shown = true := by decide +kernel
theorem qa_oX9_shown : qa_Ok qa_mX9_shown := ⟨qa_dX9_shown, by decide +kernel⟩
theorem qa_dX9_fading : qa_de qa_mX9_fading = true := by decide +kernel
theorem qa_oX9_fading : qa_Ok qa_mX9_fading := ⟨qa_dX9_fading, by decide +kernel⟩
theorem qa_dX9_fadeLeft : qa_de qa_mX9_fadeLeft = true := by decide +kernel
theorem qa_oX9_fadeLeft : qa_Ok qa_mX9_fadeLeft := ⟨qa_dX9_fadeLeft, by decide +kernel⟩
theorem qa_dX9_awaited : qa_de qa_mX9_awaited = true := by decide +kernel
theorem qa_oX9_awaited : qa_Ok qa_mX9_awaited := ⟨qa_dX9_awaited, by decide +kernel⟩
theorem qa_dX9_shownFor : qa_de qa_mX9_shownFor = true := by decide +kernel
theorem qa_oX9_shownFor : qa_Ok qa_mX9_shownFor := ⟨qa_dX9_shownFor, by decide +kernel⟩
theorem qa_dX9_loading : qa_de qa_mX9_loading = true := by decide +kernel
theorem qa_oX9_loading : qa_Ok qa_mX9_loading := ⟨qa_dX9_loading, by decide +kernel⟩
theorem qa_dX9_loadLeft : qa_de qa_mX9_loadLeft = true := by decide +kernel
theorem qa_oX9_loadLeft : qa_Ok qa_mX9_loadLeft := ⟨qa_dX9_loadLeft, by decide +kernel⟩
theorem qa_dX9_asked : qa_de qa_mX9_asked = true := by decide +kernel
theorem qa_oX9_asked : qa_Ok qa_mX9_asked := ⟨qa_dX9_asked, by decide +kernel⟩
theorem qa_dX9_askedAt : qa_de qa_mX9_askedAt = true := by decide +kernel
theorem qa_oX9_askedAt : qa_Ok qa_mX9_askedAt := ⟨qa_dX9_askedAt, by decide +kernel⟩
theorem qa_dX9_takenBySlides : qa_de qa_mX9_takenBySlides = true := by decide +kernel
theorem qa_oX9_takenBySlides : qa_Ok qa_mX9_takenBySlides := ⟨qa_dX9_takenBySlides, by decide +kernel⟩
theorem qa_dX9_takenByAccount : qa_de qa_mX9_takenByAccount = true := by decide +kernel
theorem qa_oX9_takenByAccount : qa_Ok qa_mX9_takenByAccount := ⟨qa_dX9_takenByAccount, by decide +kernel⟩
theorem qa_dX9_memory : qa_de qa_mX9_memory = true := by decide +kernel
theorem qa_oX9_memory : qa_Ok qa_mX9_memory := ⟨qa_dX9_memory, by decide +kernel⟩
theorem qa_dX9_ahead : qa_de qa_mX9_ahead = true := by decide +kernel
theorem qa_oX9_ahead : qa_Ok qa_mX9_ahead := ⟨qa_dX9_ahead, by decide +kernel⟩
theorem qa_dX9_order : qa_de qa_mX9_order = true := by decide +kernel
theorem qa_oX9_order : qa_Ok qa_mX9_order := ⟨qa_dX9_order, by decide +kernel⟩
theorem qa_dX9_glow : qa_de qa_mX9_glow = true := by decide +kernel
theorem qa_oX9_glow : qa_Ok qa_mX9_glow := ⟨qa_dX9_glow, by decide +kernel⟩
theorem qa_dX9_pace : qa_de qa_mX9_pace = true := by decide +kernel
theorem qa_oX9_pace : qa_Ok qa_mX9_pace := ⟨qa_dX9_pace, by decide +kernel⟩
theorem qa_dX9_ticksToShowByTicks : qa_de qa_mX9_ticksToShowByTicks = true := by decide +kernel
theorem qa_oX9_ticksToShowByTicks : qa_Ok qa_mX9_ticksToShowByTicks := ⟨qa_dX9_ticksToShowByTicks, by decide +kernel⟩
theorem qa_dX9_ticksToShowBySums : qa_de qa_mX9_ticksToShowBySums = true := by decide +kernel
theorem qa_oX9_ticksToShowBySums : qa_Ok qa_mX9_ticksToShowBySums := ⟨qa_dX9_ticksToShowBySums, by decide +kernel⟩
theorem qa_dX9_burningsFor : qa_de qa_mX9_burningsFor = true := by decide +kernel
theorem qa_oX9_burningsFor : qa_Ok qa_mX9_burningsFor := ⟨qa_dX9_burningsFor, by decide +kernel⟩
theorem qa_dX9_missesWith : qa_de qa_mX9_missesWith = true := by decide +kernel
theorem qa_oX9_missesWith : qa_Ok qa_mX9_missesWith := ⟨qa_dX9_missesWith, by decide +kernel⟩
theorem qa_dX9_bestOrder : qa_de qa_mX9_bestOrder = true := by decide +kernel
theorem qa_oX9_bestOrder : qa_Ok qa_mX9_bestOrder := ⟨qa_dX9_bestOrder, by decide +kernel⟩
theorem qa_dX9_time : qa_de qa_mX9_time = true := by decide +kernel
theorem qa_oX9_time : qa_Ok qa_mX9_time := ⟨qa_dX9_time, by decide +kernel⟩
theorem qa_dX9_hits : qa_de qa_mX9_hits = true := by decide +kernel
theorem qa_oX9_hits : qa_Ok qa_mX9_hits := ⟨qa_dX9_hits, by decide +kernel⟩
theorem qa_dX9_misses : qa_de qa_mX9_misses = true := by decide +kernel
theorem qa_oX9_misses : qa_Ok qa_mX9_misses := ⟨qa_dX9_misses, by decide +kernel⟩
theorem qa_dX9_loads : qa_de qa_mX9_loads = true := by decide +kernel
theorem qa_oX9_loads : qa_Ok qa_mX9_loads := ⟨qa_dX9_loads, by decide +kernel⟩
theorem qa_dX9_warmLoads : qa_de qa_mX9_warmLoads = true := by decide +kernel
theorem qa_oX9_warmLoads : qa_Ok qa_mX9_warmLoads := ⟨qa_dX9_warmLoads, by decide +kernel⟩
theorem qa_dX9_burnings : qa_de qa_mX9_burnings = true := by decide +kernel
theorem qa_oX9_burnings : qa_Ok qa_mX9_burnings := ⟨qa_dX9_burnings, by decide +kernel⟩
theorem qa_dX9_waited : qa_de qa_mX9_waited = true := by decide +kernel
theorem qa_oX9_waited : qa_Ok qa_mX9_waited := ⟨qa_dX9_waited, by decide +kernel⟩
theorem qa_dX9_hitShare : qa_de qa_mX9_hitShare = true := by decide +kernel
theorem qa_oX9_hitShare : qa_Ok qa_mX9_hitShare := ⟨qa_dX9_hitShare, by decide +kernel⟩
theorem qa_dX9_digest : qa_de qa_mX9_digest = true := by decide +kernel
theorem qa_oX9_digest : qa_Ok qa_mX9_digest := ⟨qa_dX9_digest, by decide +kernel⟩
theorem qa_dX9_mix : qa_de qa_mX9_mix = true := by decide +kernel
theorem qa_oX9_mix : qa_Ok qa_mX9_mix := ⟨qa_dX9_mix, by decide +kernel⟩
theorem qa_dX9_mixSlide : qa_de qa_mX9_mixSlide = true := by decide +kernel
theorem qa_oX9_mixSlide : qa_Ok qa_mX9_mixSlide := ⟨qa_dX9_mixSlide, by decide +kernel⟩
theorem qa_dX9_mixProgramme : qa_de qa_mX9_mixProgramme = true := by decide +kernel
theorem qa_oX9_mixProgramme : qa_Ok qa_mX9_mixProgramme := ⟨qa_dX9_mixProgramme, by decide +kernel⟩
theorem qa_dX9_mixLoading : qa_de qa_mX9_mixLoading = true := by decide +kernel
theorem qa_oX9_mixLoading : qa_Ok qa_mX9_mixLoading := ⟨qa_dX9_mixLoading, by decide +kernel⟩
theorem qa_dX9_mixAccounts : qa_de qa_mX9_mixAccounts = true := by decide +kernel
theorem qa_oX9_mixAccounts : qa_Ok qa_mX9_mixAccounts := ⟨qa_dX9_mixAccounts, by decide +kernel⟩
theorem qa_dX9_bitsOfShare : qa_de qa_mX9_bitsOfShare = true := by decide +kernel
theorem qa_oX9_bitsOfShare : qa_Ok qa_mX9_bitsOfShare := ⟨qa_dX9_bitsOfShare, by decide +kernel⟩
theorem qa_dX9_waitOnTrial : qa_de qa_mX9_waitOnTrial = true := by decide +kernel
theorem qa_oX9_waitOnTrial : qa_Ok qa_mX9_waitOnTrial := ⟨qa_dX9_waitOnTrial, by decide +kernel⟩
theorem qa_dX9_missesOnTrial : qa_de qa_mX9_missesOnTrial = true := by decide +kernel
theorem qa_oX9_missesOnTrial : qa_Ok qa_mX9_missesOnTrial := ⟨qa_dX9_missesOnTrial, by decide +kernel⟩
theorem qa_dX9_hasSnapshot : qa_de qa_mX9_hasSnapshot = true := by decide +kernel
theorem qa_oX9_hasSnapshot : qa_Ok qa_mX9_hasSnapshot := ⟨qa_dX9_hasSnapshot, by decide +kernel⟩
theorem qa_dX9_needArgument : qa_de qa_mX9_needArgument = true := by decide +kernel
theorem qa_oX9_needArgument : qa_Ok qa_mX9_needArgument := ⟨qa_dX9_needArgument, by decide +kernel⟩
theorem qa_dX9_needIndex : qa_de qa_mX9_needIndex = true := by decide +kernel
theorem qa_oX9_needIndex : qa_Ok qa_mX9_needIndex := ⟨qa_dX9_needIndex, by decide +kernel⟩
theorem qa_dX9_needState : qa_de qa_mX9_needState = true := by decide +kernel
theorem qa_oX9_needState : qa_Ok qa_mX9_needState := ⟨qa_dX9_needState, by decide +kernel⟩
theorem qa_dX9_isWithin : qa_de qa_mX9_isWithin = true := by decide +kernel
theorem qa_oX9_isWithin : qa_Ok qa_mX9_isWithin := ⟨qa_dX9_isWithin, by decide +kernel⟩
theorem qa_dX9_at : qa_de qa_mX9_at = true := by decide +kernel
theorem qa_oX9_at : qa_Ok qa_mX9_at := ⟨qa_dX9_at, by decide +kernel⟩
theorem qa_dX9_set : qa_de qa_mX9_set = true := by decide +kernel
theorem qa_oX9_set : qa_Ok qa_mX9_set := ⟨qa_dX9_set, by decide +kernel⟩
theorem qa_dX9_copyRow : qa_de qa_mX9_copyRow = true := by decide +kernel
theorem qa_oX9_copyRow : qa_Ok qa_mX9_copyRow := ⟨qa_dX9_copyRow, by decide +kernel⟩
theorem qa_dX10_init : qa_de qa_mX10_init = true := by decide +kernel
theorem qa_oX10_init : qa_Ok qa_mX10_init := ⟨qa_dX10_init, by decide +kernel⟩
theorem qa_dX10_thrown : qa_de qa_mX10_thrown = true := by decide +kernel
theorem qa_oX10_thrown : qa_Ok qa_mX10_thrown := ⟨qa_dX10_thrown, by decide +kernel⟩
theorem qa_dX10_throwing : qa_de qa_mX10_throwing = true := by decide +kernel
theorem qa_oX10_throwing : qa_Ok qa_mX10_throwing := ⟨qa_dX10_throwing, by decide +kernel⟩
theorem qa_dX10_in : qa_de qa_mX10_in = true := by decide +kernel
theorem qa_oX10_in : qa_Ok qa_mX10_in := ⟨qa_dX10_in, by decide +kernel⟩
theorem qa_dX10_save : qa_de qa_mX10_save = true := by decide +kernel
theorem qa_oX10_save : qa_Ok qa_mX10_save := ⟨qa_dX10_save, by decide +kernel⟩
theorem qa_dX10_of : qa_de qa_mX10_of = true := by decide +kernel
theorem qa_oX10_of : qa_Ok qa_mX10_of := ⟨qa_dX10_of, by decide +kernel⟩
theorem qa_dX10_lay : qa_de qa_mX10_lay = true := by decide +kernel
theorem qa_oX10_lay : qa_Ok qa_mX10_lay := ⟨qa_dX10_lay, by decide +kernel⟩
theorem qa_dX10_isThere : qa_de qa_mX10_isThere = true := by decide +kernel
theorem qa_oX10_isThere : qa_Ok qa_mX10_isThere := ⟨qa_dX10_isThere, by decide +kernel⟩
theorem qa_dX10_loaded : qa_de qa_mX10_loaded = true := by decide +kernel
theorem qa_oX10_loaded : qa_Ok qa_mX10_loaded := ⟨qa_dX10_loaded, by decide +kernel⟩
theorem qa_dX10_onShow : qa_de qa_mX10_onShow = true := by decide +kernel
theorem qa_oX10_onShow : qa_Ok qa_mX10_onShow := ⟨qa_dX10_onShow, by decide +kernel⟩
theorem qa_dX10_taken : qa_de qa_mX10_taken = true := by decide +kernel
theorem qa_oX10_taken : qa_Ok qa_mX10_taken := ⟨qa_dX10_taken, by decide +kernel⟩
theorem qa_dX10_nextOf : qa_de qa_mX10_nextOf = true := by decide +kernel
theorem qa_oX10_nextOf : qa_Ok qa_mX10_nextOf := ⟨qa_dX10_nextOf, by decide +kernel⟩
theorem qa_dX10_isFirst : qa_de qa_mX10_isFirst = true := by decide +kernel
theorem qa_oX10_isFirst : qa_Ok qa_mX10_isFirst := ⟨qa_dX10_isFirst, by decide +kernel⟩
theorem qa_dX10_canBurn : qa_de qa_mX10_canBurn = true := by decide +kernel
theorem qa_oX10_canBurn : qa_Ok qa_mX10_canBurn := ⟨qa_dX10_canBurn, by decide +kernel⟩
theorem qa_dX10_nextToBurn : qa_de qa_mX10_nextToBurn = true := by decide +kernel
theorem qa_oX10_nextToBurn : qa_Ok qa_mX10_nextToBurn := ⟨qa_dX10_nextToBurn, by decide +kernel⟩
theorem qa_dX10_burns : qa_de qa_mX10_burns = true := by decide +kernel
theorem qa_oX10_burns : qa_Ok qa_mX10_burns := ⟨qa_dX10_burns, by decide +kernel⟩
theorem qa_dX10_makesRoom : qa_de qa_mX10_makesRoom = true := by decide +kernel
theorem qa_oX10_makesRoom : qa_Ok qa_mX10_makesRoom := ⟨qa_dX10_makesRoom, by decide +kernel⟩
theorem qa_dX10_due : qa_de qa_mX10_due = true := by decide +kernel
theorem qa_oX10_due : qa_Ok qa_mX10_due := ⟨qa_dX10_due, by decide +kernel⟩
theorem qa_dX10_starts : qa_de qa_mX10_starts = true := by decide +kernel
theorem qa_oX10_starts : qa_Ok qa_mX10_starts := ⟨qa_dX10_starts, by decide +kernel⟩
theorem qa_dX10_forgets : qa_de qa_mX10_forgets = true := by decide +kernel
theorem qa_oX10_forgets : qa_Ok qa_mX10_forgets := ⟨qa_dX10_forgets, by decide +kernel⟩
theorem qa_dX10_begins : qa_de qa_mX10_begins = true := by decide +kernel
theorem qa_oX10_begins : qa_Ok qa_mX10_begins := ⟨qa_dX10_begins, by decide +kernel⟩
theorem qa_dX10_uses : qa_de qa_mX10_uses = true := by decide +kernel
theorem qa_oX10_uses : qa_Ok qa_mX10_uses := ⟨qa_dX10_uses, by decide +kernel⟩
theorem qa_dX10_shows : qa_de qa_mX10_shows = true := by decide +kernel
theorem qa_oX10_shows : qa_Ok qa_mX10_shows := ⟨qa_dX10_shows, by decide +kernel⟩
theorem qa_dX10_goesOn : qa_de qa_mX10_goesOn = true := by decide +kernel
theorem qa_oX10_goesOn : qa_Ok qa_mX10_goesOn := ⟨qa_dX10_goesOn, by decide +kernel⟩
theorem qa_dX10_ticks : qa_de qa_mX10_ticks = true := by decide +kernel
theorem qa_oX10_ticks : qa_Ok qa_mX10_ticks := ⟨qa_dX10_ticks, by decide +kernel⟩
theorem qa_dX10_inserts : qa_de qa_mX10_inserts = true := by decide +kernel
theorem qa_oX10_inserts : qa_Ok qa_mX10_inserts := ⟨qa_dX10_inserts, by decide +kernel⟩
theorem qa_dX10_canGoOn : qa_de qa_mX10_canGoOn = true := by decide +kernel
theorem qa_oX10_canGoOn : qa_Ok qa_mX10_canGoOn := ⟨qa_dX10_canGoOn, by decide +kernel⟩
theorem qa_dX10_isAsked : qa_de qa_mX10_isAsked = true := by decide +kernel
theorem qa_oX10_isAsked : qa_Ok qa_mX10_isAsked := ⟨qa_dX10_isAsked, by decide +kernel⟩
theorem qa_dX10_canAsk : qa_de qa_mX10_canAsk = true := by decide +kernel
theorem qa_oX10_canAsk : qa_Ok qa_mX10_canAsk := ⟨qa_dX10_canAsk, by decide +kernel⟩
theorem qa_dX10_asks : qa_de qa_mX10_asks = true := by decide +kernel
theorem qa_oX10_asks : qa_Ok qa_mX10_asks := ⟨qa_dX10_asks, by decide +kernel⟩
theorem qa_dX10_passes : qa_de qa_mX10_passes = true := by decide +kernel
theorem qa_oX10_passes : qa_Ok qa_mX10_passes := ⟨qa_dX10_passes, by decide +kernel⟩
theorem qa_dX10_addSlide : qa_de qa_mX10_addSlide = true := by decide +kernel
theorem qa_oX10_addSlide : qa_Ok qa_mX10_addSlide := ⟨qa_dX10_addSlide, by decide +kernel⟩
theorem qa_dX10_insert : qa_de qa_mX10_insert = true := by decide +kernel
theorem qa_oX10_insert : qa_Ok qa_mX10_insert := ⟨qa_dX10_insert, by decide +kernel⟩
theorem qa_dX10_takeOut : qa_de qa_mX10_takeOut = true := by decide +kernel
theorem qa_oX10_takeOut : qa_Ok qa_mX10_takeOut := ⟨qa_dX10_takeOut, by decide +kernel⟩
theorem qa_dX10_goOn : qa_de qa_mX10_goOn = true := by decide +kernel
theorem qa_oX10_goOn : qa_Ok qa_mX10_goOn := ⟨qa_dX10_goOn, by decide +kernel⟩
theorem qa_dX10_ask : qa_de qa_mX10_ask = true := by decide +kernel
theorem qa_oX10_ask : qa_Ok qa_mX10_ask := ⟨qa_dX10_ask, by decide +kernel⟩
theorem qa_dX10_burn : qa_de qa_mX10_burn = true := by decide +kernel
theorem qa_oX10_burn : qa_Ok qa_mX10_burn := ⟨qa_dX10_burn, by decide +kernel⟩
theorem qa_dX10_tick : qa_de qa_mX10_tick = true := by decide +kernel
theorem qa_oX10_tick : qa_Ok qa_mX10_tick := ⟨qa_dX10_tick, by decide +kernel⟩
theorem qa_dX10_changes : qa_de qa_mX10_changes = true := by decide +kernel
theorem qa_oX10_changes : qa_Ok qa_mX10_changes := ⟨qa_dX10_changes, by decide +kernel⟩
theorem qa_dX10_changeMemory : qa_de qa_mX10_changeMemory = true := by decide +kernel
theorem qa_oX10_changeMemory : qa_Ok qa_mX10_changeMemory := ⟨qa_dX10_changeMemory, by decide +kernel⟩
theorem qa_dX10_changeAhead : qa_de qa_mX10_changeAhead = true := by decide +kernel
theorem qa_oX10_changeAhead : qa_Ok qa_mX10_changeAhead := ⟨qa_dX10_changeAhead, by decide +kernel⟩
theorem qa_dX10_changeOrder : qa_de qa_mX10_changeOrder = true := by decide +kernel
theorem qa_oX10_changeOrder : qa_Ok qa_mX10_changeOrder := ⟨qa_dX10_changeOrder, by decide +kernel⟩
theorem qa_dX10_changeGlow : qa_de qa_mX10_changeGlow = true := by decide +kernel
theorem qa_oX10_changeGlow : qa_Ok qa_mX10_changeGlow := ⟨qa_dX10_changeGlow, by decide +kernel⟩
theorem qa_dX10_changePace : qa_de qa_mX10_changePace = true := by decide +kernel
theorem qa_oX10_changePace : qa_Ok qa_mX10_changePace := ⟨qa_dX10_changePace, by decide +kernel⟩
theorem qa_dX10_append : qa_de qa_mX10_append = true := by decide +kernel
theorem qa_oX10_append : qa_Ok qa_mX10_append := ⟨qa_dX10_append, by decide +kernel⟩
theorem qa_dX10_clearBuffer : qa_de qa_mX10_clearBuffer = true := by decide +kernel
theorem qa_oX10_clearBuffer : qa_Ok qa_mX10_clearBuffer := ⟨qa_dX10_clearBuffer, by decide +kernel⟩
theorem qa_dX10_sign : qa_de qa_mX10_sign = true := by decide +kernel
theorem qa_oX10_sign : qa_Ok qa_mX10_sign := ⟨qa_dX10_sign, by decide +kernel⟩
theorem qa_dX10_number : qa_de qa_mX10_number = true := by decide +kernel
theorem qa_oX10_number : qa_Ok qa_mX10_number := ⟨qa_dX10_number, by decide +kernel⟩
theorem qa_dX10_isOrdered : qa_de qa_mX10_isOrdered = true := by decide +kernel
theorem qa_oX10_isOrdered : qa_Ok qa_mX10_isOrdered := ⟨qa_dX10_isOrdered, by decide +kernel⟩
theorem qa_dX10_isFollowed : qa_de qa_mX10_isFollowed = true := by decide +kernel
theorem qa_oX10_isFollowed : qa_Ok qa_mX10_isFollowed := ⟨qa_dX10_isFollowed, by decide +kernel⟩
theorem qa_dX10_go : qa_de qa_mX10_go = true := by decide +kernel
theorem qa_oX10_go : qa_Ok qa_mX10_go := ⟨qa_dX10_go, by decide +kernel⟩
theorem qa_dX10_firstError : qa_de qa_mX10_firstError = true := by decide +kernel
theorem qa_oX10_firstError : qa_Ok qa_mX10_firstError := ⟨qa_dX10_firstError, by decide +kernel⟩
theorem qa_dX10_keepsAside : qa_de qa_mX10_keepsAside = true := by decide +kernel
theorem qa_oX10_keepsAside : qa_Ok qa_mX10_keepsAside := ⟨qa_dX10_keepsAside, by decide +kernel⟩
theorem qa_dX10_putsBack : qa_de qa_mX10_putsBack = true := by decide +kernel
theorem qa_oX10_putsBack : qa_Ok qa_mX10_putsBack := ⟨qa_dX10_putsBack, by decide +kernel⟩
theorem qa_dX10_follow : qa_de qa_mX10_follow = true := by decide +kernel
theorem qa_oX10_follow : qa_Ok qa_mX10_follow := ⟨qa_dX10_follow, by decide +kernel⟩
theorem qa_dX10_keep : qa_de qa_mX10_keep = true := by decide +kernel
theorem qa_oX10_keep : qa_Ok qa_mX10_keep := ⟨qa_dX10_keep, by decide +kernel⟩
theorem qa_dX10_goBack : qa_de qa_mX10_goBack = true := by decide +kernel
theorem qa_oX10_goBack : qa_Ok qa_mX10_goBack := ⟨qa_dX10_goBack, by decide +kernel⟩
theorem qa_dX10_undo : qa_de qa_mX10_undo = true := by decide +kernel
theorem qa_oX10_undo : qa_Ok qa_mX10_undo := ⟨qa_dX10_undo, by decide +kernel⟩
theorem qa_dX10_savedStates : qa_de qa_mX10_savedStates = true := by decide +kernel
theorem qa_oX10_savedStates : qa_Ok qa_mX10_savedStates := ⟨qa_dX10_savedStates, by decide +kernel⟩
theorem qa_dX10_rule : qa_de qa_mX10_rule = true := by decide +kernel
theorem qa_oX10_rule : qa_Ok qa_mX10_rule := ⟨qa_dX10_rule, by decide +kernel⟩
theorem qa_dX10_slides : qa_de qa_mX10_slides = true := by decide +kernel
theorem qa_oX10_slides : qa_Ok qa_mX10_slides := ⟨qa_dX10_slides, by decide +kernel⟩
theorem qa_dX10_costOf : qa_de qa_mX10_costOf = true := by decide +kernel
theorem qa_oX10_costOf : qa_Ok qa_mX10_costOf := ⟨qa_dX10_costOf, by decide +kernel⟩
theorem qa_dX10_loadOf : qa_de qa_mX10_loadOf = true := by decide +kernel
theorem qa_oX10_loadOf : qa_Ok qa_mX10_loadOf := ⟨qa_dX10_loadOf, by decide +kernel⟩
theorem qa_dX10_fadeOf : qa_de qa_mX10_fadeOf = true := by decide +kernel
theorem qa_oX10_fadeOf : qa_Ok qa_mX10_fadeOf := ⟨qa_dX10_fadeOf, by decide +kernel⟩
theorem qa_dX10_isLoaded : qa_de qa_mX10_isLoaded = true := by decide +kernel
theorem qa_oX10_isLoaded : qa_Ok qa_mX10_isLoaded := ⟨qa_dX10_isLoaded, by decide +kernel⟩
theorem qa_dX10_isOnShow : qa_de qa_mX10_isOnShow = true := by decide +kernel
theorem qa_oX10_isOnShow : qa_Ok qa_mX10_isOnShow := ⟨qa_dX10_isOnShow, by decide +kernel⟩
theorem qa_dX10_glowOf : qa_de qa_mX10_glowOf = true := by decide +kernel
theorem qa_oX10_glowOf : qa_Ok qa_mX10_glowOf := ⟨qa_dX10_glowOf, by decide +kernel⟩
theorem qa_dX10_burntTimes : qa_de qa_mX10_burntTimes = true := by decide +kernel
theorem qa_oX10_burntTimes : qa_Ok qa_mX10_burntTimes := ⟨qa_dX10_burntTimes, by decide +kernel⟩
theorem qa_dX10_nextUse : qa_de qa_mX10_nextUse = true := by decide +kernel
theorem qa_oX10_nextUse : qa_Ok qa_mX10_nextUse := ⟨qa_dX10_nextUse, by decide +kernel⟩
theorem qa_dX10_inOrder : qa_de qa_mX10_inOrder = true := by decide +kernel
theorem qa_oX10_inOrder : qa_Ok qa_mX10_inOrder := ⟨qa_dX10_inOrder, by decide +kernel⟩
theorem qa_dX10_burnPlace : qa_de qa_mX10_burnPlace = true := by decide +kernel
theorem qa_oX10_burnPlace : qa_Ok qa_mX10_burnPlace := ⟨qa_dX10_burnPlace, by decide +kernel⟩
theorem qa_dX10_places : qa_de qa_mX10_places = true := by decide +kernel
theorem qa_oX10_places : qa_Ok qa_mX10_places := ⟨qa_dX10_places, by decide +kernel⟩
theorem qa_dX10_slideAt : qa_de qa_mX10_slideAt = true := by decide +kernel
theorem qa_oX10_slideAt : qa_Ok qa_mX10_slideAt := ⟨qa_dX10_slideAt, by decide +kernel⟩
theorem qa_dX10_told : qa_de qa_mX10_told = true := by decide +kernel
theorem qa_oX10_told : qa_Ok qa_mX10_told := ⟨qa_dX10_told, by decide +kernel⟩
theorem qa_dX10_showPlace : qa_de qa_mX10_showPlace = true := by decide +kernel
theorem qa_oX10_showPlace : qa_Ok qa_mX10_showPlace := ⟨qa_dX10_showPlace, by decide +kernel⟩
theorem qa_dX10_shown : qa_de qa_mX10_shown = true := by decide +kernel
theorem qa_oX10_shown : qa_Ok qa_mX10_shown := ⟨qa_dX10_shown, by decide +kernel⟩
theorem qa_dX10_fading : qa_de qa_mX10_fading = true := by decide +kernel
theorem qa_oX10_fading : qa_Ok qa_mX10_fading := ⟨qa_dX10_fading, by decide +kernel⟩
theorem qa_dX10_fadeLeft : qa_de qa_mX10_fadeLeft = true := by decide +kernel
theorem qa_oX10_fadeLeft : qa_Ok qa_mX10_fadeLeft := ⟨qa_dX10_fadeLeft, by decide +kernel⟩
theorem qa_dX10_awaited : qa_de qa_mX10_awaited = true := by decide +kernel
theorem qa_oX10_awaited : qa_Ok qa_mX10_awaited := ⟨qa_dX10_awaited, by decide +kernel⟩
theorem qa_dX10_shownFor : qa_de qa_mX10_shownFor = true := by decide +kernel
theorem qa_oX10_shownFor : qa_Ok qa_mX10_shownFor := ⟨qa_dX10_shownFor, by decide +kernel⟩
theorem qa_dX10_loading : qa_de qa_mX10_loading = true := by decide +kernel
theorem qa_oX10_loading : qa_Ok qa_mX10_loading := ⟨qa_dX10_loading, by decide +kernel⟩
theorem qa_dX10_loadLeft : qa_de qa_mX10_loadLeft = true := by decide +kernel
theorem qa_oX10_loadLeft : qa_Ok qa_mX10_loadLeft := ⟨qa_dX10_loadLeft, by decide +kernel⟩
theorem qa_dX10_asked : qa_de qa_mX10_asked = true := by decide +kernel
theorem qa_oX10_asked : qa_Ok qa_mX10_asked := ⟨qa_dX10_asked, by decide +kernel⟩
theorem qa_dX10_askedAt : qa_de qa_mX10_askedAt = true := by decide +kernel
theorem qa_oX10_askedAt : qa_Ok qa_mX10_askedAt := ⟨qa_dX10_askedAt, by decide +kernel⟩
theorem qa_dX10_takenBySlides : qa_de qa_mX10_takenBySlides = true := by decide +kernel
theorem qa_oX10_takenBySlides : qa_Ok qa_mX10_takenBySlides := ⟨qa_dX10_takenBySlides, by decide +kernel⟩
theorem qa_dX10_takenByAccount : qa_de qa_mX10_takenByAccount = true := by decide +kernel
theorem qa_oX10_takenByAccount : qa_Ok qa_mX10_takenByAccount := ⟨qa_dX10_takenByAccount, by decide +kernel⟩
theorem qa_dX10_memory : qa_de qa_mX10_memory = true := by decide +kernel
theorem qa_oX10_memory : qa_Ok qa_mX10_memory := ⟨qa_dX10_memory, by decide +kernel⟩
theorem qa_dX10_ahead : qa_de qa_mX10_ahead = true := by decide +kernel
theorem qa_oX10_ahead : qa_Ok qa_mX10_ahead := ⟨qa_dX10_ahead, by decide +kernel⟩
theorem qa_dX10_order : qa_de qa_mX10_order = true := by decide +kernel
theorem qa_oX10_order : qa_Ok qa_mX10_order := ⟨qa_dX10_order, by decide +kernel⟩
theorem qa_dX10_glow : qa_de qa_mX10_glow = true := by decide +kernel
theorem qa_oX10_glow : qa_Ok qa_mX10_glow := ⟨qa_dX10_glow, by decide +kernel⟩
theorem qa_dX10_pace : qa_de qa_mX10_pace = true := by decide +kernel
theorem qa_oX10_pace : qa_Ok qa_mX10_pace := ⟨qa_dX10_pace, by decide +kernel⟩
theorem qa_dX10_untilShown : qa_de qa_mX10_untilShown = true := by decide +kernel
theorem qa_oX10_untilShown : qa_Ok qa_mX10_untilShown := ⟨qa_dX10_untilShown, by decide +kernel⟩
theorem qa_dX10_toldTicks : qa_de qa_mX10_toldTicks = true := by decide +kernel
theorem qa_oX10_toldTicks : qa_Ok qa_mX10_toldTicks := ⟨qa_dX10_toldTicks, by decide +kernel⟩
theorem qa_dX10_ticksToShowByTicks : qa_de qa_mX10_ticksToShowByTicks = true := by decide +kernel
theorem qa_oX10_ticksToShowByTicks : qa_Ok qa_mX10_ticksToShowByTicks := ⟨qa_dX10_ticksToShowByTicks, by decide +kernel⟩
theorem qa_dX10_ticksToShowBySums : qa_de qa_mX10_ticksToShowBySums = true := by decide +kernel
theorem qa_oX10_ticksToShowBySums : qa_Ok qa_mX10_ticksToShowBySums := ⟨qa_dX10_ticksToShowBySums, by decide +kernel⟩
theorem qa_dX10_burningsOf : qa_de qa_mX10_burningsOf = true := by decide +kernel
theorem qa_oX10_burningsOf : qa_Ok qa_mX10_burningsOf := ⟨qa_dX10_burningsOf, by decide +kernel⟩
theorem qa_dX10_burningsFor : qa_de qa_mX10_burningsFor = true := by decide +kernel
theorem qa_oX10_burningsFor : qa_Ok qa_mX10_burningsFor := ⟨qa_dX10_burningsFor, by decide +kernel⟩
theorem qa_dX10_missing : qa_de qa_mX10_missing = true := by decide +kernel
theorem qa_oX10_missing : qa_Ok qa_mX10_missing := ⟨qa_dX10_missing, by decide +kernel⟩
theorem qa_dX10_missesWith : qa_de qa_mX10_missesWith = true := by decide +kernel
theorem qa_oX10_missesWith : qa_Ok qa_mX10_missesWith := ⟨qa_dX10_missesWith, by decide +kernel⟩
theorem qa_dX10_bestOrder : qa_de qa_mX10_bestOrder = true := by decide +kernel
theorem qa_oX10_bestOrder : qa_Ok qa_mX10_bestOrder := ⟨qa_dX10_bestOrder, by decide +kernel⟩
theorem qa_dX10_loads : qa_de qa_mX10_loads = true := by decide +kernel
theorem qa_oX10_loads : qa_Ok qa_mX10_loads := ⟨qa_dX10_loads, by decide +kernel⟩
theorem qa_dX10_burnings : qa_de qa_mX10_burnings = true := by decide +kernel
theorem qa_oX10_burnings : qa_Ok qa_mX10_burnings := ⟨qa_dX10_burnings, by decide +kernel⟩
theorem qa_dX10_time : qa_de qa_mX10_time = true := by decide +kernel
theorem qa_oX10_time : qa_Ok qa_mX10_time := ⟨qa_dX10_time, by decide +kernel⟩
theorem qa_dX10_hits : qa_de qa_mX10_hits = true := by decide +kernel
theorem qa_oX10_hits : qa_Ok qa_mX10_hits := ⟨qa_dX10_hits, by decide +kernel⟩
theorem qa_dX10_misses : qa_de qa_mX10_misses = true := by decide +kernel
theorem qa_oX10_misses : qa_Ok qa_mX10_misses := ⟨qa_dX10_misses, by decide +kernel⟩
theorem qa_dX10_warmLoads : qa_de qa_mX10_warmLoads = true := by decide +kernel
theorem qa_oX10_warmLoads : qa_Ok qa_mX10_warmLoads := ⟨qa_dX10_warmLoads, by decide +kernel⟩
theorem qa_dX10_waited : qa_de qa_mX10_waited = true := by decide +kernel
theorem qa_oX10_waited : qa_Ok qa_mX10_waited := ⟨qa_dX10_waited, by decide +kernel⟩
theorem qa_dX10_share : qa_de qa_mX10_share = true := by decide +kernel
theorem qa_oX10_share : qa_Ok qa_mX10_share := ⟨qa_dX10_share, by decide +kernel⟩
theorem qa_dX10_hitShare : qa_de qa_mX10_hitShare = true := by decide +kernel
theorem qa_oX10_hitShare : qa_Ok qa_mX10_hitShare := ⟨qa_dX10_hitShare, by decide +kernel⟩
theorem qa_dX10_bitsOf : qa_de qa_mX10_bitsOf = true := by decide +kernel
theorem qa_oX10_bitsOf : qa_Ok qa_mX10_bitsOf := ⟨qa_dX10_bitsOf, by decide +kernel⟩
theorem qa_dX10_mix : qa_de qa_mX10_mix = true := by decide +kernel
theorem qa_oX10_mix : qa_Ok qa_mX10_mix := ⟨qa_dX10_mix, by decide +kernel⟩
theorem qa_dX10_mixesSlide : qa_de qa_mX10_mixesSlide = true := by decide +kernel
theorem qa_oX10_mixesSlide : qa_Ok qa_mX10_mixesSlide := ⟨qa_dX10_mixesSlide, by decide +kernel⟩
theorem qa_dX10_digest : qa_de qa_mX10_digest = true := by decide +kernel
theorem qa_oX10_digest : qa_Ok qa_mX10_digest := ⟨qa_dX10_digest, by decide +kernel⟩
theorem qa_dL_addSlide : qa_de qa_mL_addSlide = true := by decide +kernel
theorem qa_oL_addSlide : qa_Ok qa_mL_addSlide := ⟨qa_dL_addSlide, by decide +kernel⟩
theorem qa_dL_insert : qa_de qa_mL_insert = true := by decide +kernel
theorem qa_oL_insert : qa_Ok qa_mL_insert := ⟨qa_dL_insert, by decide +kernel⟩
theorem qa_dL_takeOut : qa_de qa_mL_takeOut = true := by decide +kernel
theorem qa_oL_takeOut : qa_Ok qa_mL_takeOut := ⟨qa_dL_takeOut, by decide +kernel⟩
theorem qa_dL_goOn : qa_de qa_mL_goOn = true := by decide +kernel
theorem qa_oL_goOn : qa_Ok qa_mL_goOn := ⟨qa_dL_goOn, by decide +kernel⟩
theorem qa_dL_ask : qa_de qa_mL_ask = true := by decide +kernel
theorem qa_oL_ask : qa_Ok qa_mL_ask := ⟨qa_dL_ask, by decide +kernel⟩
theorem qa_dL_burn : qa_de qa_mL_burn = true := by decide +kernel
theorem qa_oL_burn : qa_Ok qa_mL_burn := ⟨qa_dL_burn, by decide +kernel⟩
theorem qa_dL_tick : qa_de qa_mL_tick = true := by decide +kernel
theorem qa_oL_tick : qa_Ok qa_mL_tick := ⟨qa_dL_tick, by decide +kernel⟩
theorem qa_dL_changeMemory : qa_de qa_mL_changeMemory = true := by decide +kernel
theorem qa_oL_changeMemory : qa_Ok qa_mL_changeMemory := ⟨qa_dL_changeMemory, by decide +kernel⟩
theorem qa_dL_changeAhead : qa_de qa_mL_changeAhead = true := by decide +kernel
theorem qa_oL_changeAhead : qa_Ok qa_mL_changeAhead := ⟨qa_dL_changeAhead, by decide +kernel⟩
theorem qa_dL_changeOrder : qa_de qa_mL_changeOrder = true := by decide +kernel
theorem qa_oL_changeOrder : qa_Ok qa_mL_changeOrder := ⟨qa_dL_changeOrder, by decide +kernel⟩
theorem qa_dL_changeGlow : qa_de qa_mL_changeGlow = true := by decide +kernel
theorem qa_oL_changeGlow : qa_Ok qa_mL_changeGlow := ⟨qa_dL_changeGlow, by decide +kernel⟩
theorem qa_dL_changePace : qa_de qa_mL_changePace = true := by decide +kernel
theorem qa_oL_changePace : qa_Ok qa_mL_changePace := ⟨qa_dL_changePace, by decide +kernel⟩
theorem qa_dL_append : qa_de qa_mL_append = true := by decide +kernel
theorem qa_oL_append : qa_Ok qa_mL_append := ⟨qa_dL_append, by decide +kernel⟩
theorem qa_dL_follow : qa_de qa_mL_follow = true := by decide +kernel
theorem qa_oL_follow : qa_Ok qa_mL_follow := ⟨qa_dL_follow, by decide +kernel⟩
theorem qa_dL_keep : qa_de qa_mL_keep = true := by decide +kernel
theorem qa_oL_keep : qa_Ok qa_mL_keep := ⟨qa_dL_keep, by decide +kernel⟩
theorem qa_dL_goBack : qa_de qa_mL_goBack = true := by decide +kernel
theorem qa_oL_goBack : qa_Ok qa_mL_goBack := ⟨qa_dL_goBack, by decide +kernel⟩
theorem qa_dL_undo : qa_de qa_mL_undo = true := by decide +kernel
theorem qa_oL_undo : qa_Ok qa_mL_undo := ⟨qa_dL_undo, by decide +kernel⟩
theorem qa_dL_costOf : qa_de qa_mL_costOf = true := by decide +kernel
theorem qa_oL_costOf : qa_Ok qa_mL_costOf := ⟨qa_dL_costOf, by decide +kernel⟩
theorem qa_dL_loadOf : qa_de qa_mL_loadOf = true := by decide +kernel
theorem qa_oL_loadOf : qa_Ok qa_mL_loadOf := ⟨qa_dL_loadOf, by decide +kernel⟩
theorem qa_dL_fadeOf : qa_de qa_mL_fadeOf = true := by decide +kernel
theorem qa_oL_fadeOf : qa_Ok qa_mL_fadeOf := ⟨qa_dL_fadeOf, by decide +kernel⟩
theorem qa_dL_isLoaded : qa_de qa_mL_isLoaded = true := by decide +kernel
theorem qa_oL_isLoaded : qa_Ok qa_mL_isLoaded := ⟨qa_dL_isLoaded, by decide +kernel⟩
theorem qa_dL_isOnShow : qa_de qa_mL_isOnShow = true := by decide +kernel
theorem qa_oL_isOnShow : qa_Ok qa_mL_isOnShow := ⟨qa_dL_isOnShow, by decide +kernel⟩
theorem qa_dL_glowOf : qa_de qa_mL_glowOf = true := by decide +kernel
theorem qa_oL_glowOf : qa_Ok qa_mL_glowOf := ⟨qa_dL_glowOf, by decide +kernel⟩
theorem qa_dL_burntTimes : qa_de qa_mL_burntTimes = true := by decide +kernel
theorem qa_oL_burntTimes : qa_Ok qa_mL_burntTimes := ⟨qa_dL_burntTimes, by decide +kernel⟩
theorem qa_dL_nextUse : qa_de qa_mL_nextUse = true := by decide +kernel
theorem qa_oL_nextUse : qa_Ok qa_mL_nextUse := ⟨qa_dL_nextUse, by decide +kernel⟩
theorem qa_dL_burnPlace : qa_de qa_mL_burnPlace = true := by decide +kernel
theorem qa_oL_burnPlace : qa_Ok qa_mL_burnPlace := ⟨qa_dL_burnPlace, by decide +kernel⟩
theorem qa_dL_slideAt : qa_de qa_mL_slideAt = true := by decide +kernel
theorem qa_oL_slideAt : qa_Ok qa_mL_slideAt := ⟨qa_dL_slideAt, by decide +kernel⟩
theorem qa_dL_showPlace : qa_de qa_mL_showPlace = true := by decide +kernel
theorem qa_oL_showPlace : qa_Ok qa_mL_showPlace := ⟨qa_dL_showPlace, by decide +kernel⟩
theorem qa_dL_shown : qa_de qa_mL_shown = true := by decide +kernel
theorem qa_oL_shown : qa_Ok qa_mL_shown := ⟨qa_dL_shown, by decide +kernel⟩
theorem qa_dL_fading : qa_de qa_mL_fading = true := by decide +kernel
theorem qa_oL_fading : qa_Ok qa_mL_fading := ⟨qa_dL_fading, by decide +kernel⟩
theorem qa_dL_awaited : qa_de qa_mL_awaited = true := by decide +kernel
theorem qa_oL_awaited : qa_Ok qa_mL_awaited := ⟨qa_dL_awaited, by decide +kernel⟩
theorem qa_dL_shownFor : qa_de qa_mL_shownFor = true := by decide +kernel
theorem qa_oL_shownFor : qa_Ok qa_mL_shownFor := ⟨qa_dL_shownFor, by decide +kernel⟩
theorem qa_dL_loading : qa_de qa_mL_loading = true := by decide +kernel
theorem qa_oL_loading : qa_Ok qa_mL_loading := ⟨qa_dL_loading, by decide +kernel⟩
theorem qa_dL_askedAt : qa_de qa_mL_askedAt = true := by decide +kernel
theorem qa_oL_askedAt : qa_Ok qa_mL_askedAt := ⟨qa_dL_askedAt, by decide +kernel⟩
theorem qa_dL_ticksToShowByTicks : qa_de qa_mL_ticksToShowByTicks = true := by decide +kernel
theorem qa_oL_ticksToShowByTicks : qa_Ok qa_mL_ticksToShowByTicks := ⟨qa_dL_ticksToShowByTicks, by decide +kernel⟩
theorem qa_dL_ticksToShowBySums : qa_de qa_mL_ticksToShowBySums = true := by decide +kernel
theorem qa_oL_ticksToShowBySums : qa_Ok qa_mL_ticksToShowBySums := ⟨qa_dL_ticksToShowBySums, by decide +kernel⟩
theorem qa_dL_burningsFor : qa_de qa_mL_burningsFor = true := by decide +kernel
theorem qa_oL_burningsFor : qa_Ok qa_mL_burningsFor := ⟨qa_dL_burningsFor, by decide +kernel⟩
theorem qa_dL_missesWith : qa_de qa_mL_missesWith = true := by decide +kernel
theorem qa_oL_missesWith : qa_Ok qa_mL_missesWith := ⟨qa_dL_missesWith, by decide +kernel⟩
theorem qa_dL_bestOrder : qa_de qa_mL_bestOrder = true := by decide +kernel
theorem qa_oL_bestOrder : qa_Ok qa_mL_bestOrder := ⟨qa_dL_bestOrder, by decide +kernel⟩
theorem qa_dL_law_0 : qa_iL_law_0.all (fun q => decide (decode (qa_by qa_mL_law) q.1 = .ok (q.2.1, q.2.2))) = true := by decide +kernel
theorem qa_dL_law_1 : qa_iL_law_1.all (fun q => decide (decode (qa_by qa_mL_law) q.1 = .ok (q.2.1, q.2.2))) = true := by decide +kernel
theorem qa_dL_law_2 : qa_iL_law_2.all (fun q => decide (decode (qa_by qa_mL_law) q.1 = .ok (q.2.1, q.2.2))) = true := by decide +kernel
theorem qa_dL_law_3 : qa_iL_law_3.all (fun q => decide (decode (qa_by qa_mL_law) q.1 = .ok (q.2.1, q.2.2))) = true := by decide +kernel
theorem qa_dL_law_4 : qa_iL_law_4.all (fun q => decide (decode (qa_by qa_mL_law) q.1 = .ok (q.2.1, q.2.2))) = true := by decide +kernel
theorem qa_dL_law_5 : qa_iL_law_5.all (fun q => decide (decode (qa_by qa_mL_law) q.1 = .ok (q.2.1, q.2.2))) = true := by decide +kernel
theorem qa_dL_law_6 : qa_iL_law_6.all (fun q => decide (decode (qa_by qa_mL_law) q.1 = .ok (q.2.1, q.2.2))) = true := by decide +kernel
theorem qa_dL_law_7 : qa_iL_law_7.all (fun q => decide (decode (qa_by qa_mL_law) q.1 = .ok (q.2.1, q.2.2))) = true := by decide +kernel
theorem qa_dL_law_8 : qa_iL_law_8.all (fun q => decide (decode (qa_by qa_mL_law) q.1 = .ok (q.2.1, q.2.2))) = true := by decide +kernel
theorem qa_dL_law_9 : qa_iL_law_9.all (fun q => decide (decode (qa_by qa_mL_law) q.1 = .ok (q.2.1, q.2.2))) = true := by decide +kernel
theorem qa_dL_law_10 : qa_iL_law_10.all (fun q => decide (decode (qa_by qa_mL_law) q.1 = .ok (q.2.1, q.2.2))) = true := by decide +kernel
theorem qa_dL_law_11 : qa_iL_law_11.all (fun q => decide (decode (qa_by qa_mL_law) q.1 = .ok (q.2.1, q.2.2))) = true := by decide +kernel
theorem qa_dL_law_12 : qa_iL_law_12.all (fun q => decide (decode (qa_by qa_mL_law) q.1 = .ok (q.2.1, q.2.2))) = true := by decide +kernel
theorem qa_dL_law_13 : qa_iL_law_13.all (fun q => decide (decode (qa_by qa_mL_law) q.1 = .ok (q.2.1, q.2.2))) = true := by decide +kernel
theorem qa_dL_law_14 : qa_iL_law_14.all (fun q => decide (decode (qa_by qa_mL_law) q.1 = .ok (q.2.1, q.2.2))) = true := by decide +kernel
theorem qa_dL_law_15 : qa_iL_law_15.all (fun q => decide (decode (qa_by qa_mL_law) q.1 = .ok (q.2.1, q.2.2))) = true := by decide +kernel
theorem qa_dL_law_16 : qa_iL_law_16.all (fun q => decide (decode (qa_by qa_mL_law) q.1 = .ok (q.2.1, q.2.2))) = true := by decide +kernel
theorem qa_dL_law_17 : qa_iL_law_17.all (fun q => decide (decode (qa_by qa_mL_law) q.1 = .ok (q.2.1, q.2.2))) = true := by decide +kernel
theorem qa_dL_law_18 : qa_iL_law_18.all (fun q => decide (decode (qa_by qa_mL_law) q.1 = .ok (q.2.1, q.2.2))) = true := by decide +kernel
theorem qa_dL_law_19 : qa_iL_law_19.all (fun q => decide (decode (qa_by qa_mL_law) q.1 = .ok (q.2.1, q.2.2))) = true := by decide +kernel
theorem qa_dL_law_20 : qa_iL_law_20.all (fun q => decide (decode (qa_by qa_mL_law) q.1 = .ok (q.2.1, q.2.2))) = true := by decide +kernel
theorem qa_dL_law_21 : qa_iL_law_21.all (fun q => decide (decode (qa_by qa_mL_law) q.1 = .ok (q.2.1, q.2.2))) = true := by decide +kernel
theorem qa_dL_law_22 : qa_iL_law_22.all (fun q => decide (decode (qa_by qa_mL_law) q.1 = .ok (q.2.1, q.2.2))) = true := by decide +kernel
theorem qa_dL_law_23 : qa_iL_law_23.all (fun q => decide (decode (qa_by qa_mL_law) q.1 = .ok (q.2.1, q.2.2))) = true := by decide +kernel
theorem qa_dL_law_24 : qa_iL_law_24.all (fun q => decide (decode (qa_by qa_mL_law) q.1 = .ok (q.2.1, q.2.2))) = true := by decide +kernel
theorem qa_dL_law : qa_de qa_mL_law = true := by
  show (qa_iL_law).all (fun q => decide (decode (qa_by qa_mL_law) q.1 = .ok (q.2.1, q.2.2))) = true
  unfold qa_iL_law
  rw [List.all_append, qa_dL_law_0, List.all_append, qa_dL_law_1, List.all_append, qa_dL_law_2, List.all_append, qa_dL_law_3, List.all_append, qa_dL_law_4, List.all_append, qa_dL_law_5, List.all_append, qa_dL_law_6, List.all_append, qa_dL_law_7, List.all_append, qa_dL_law_8, List.all_append, qa_dL_law_9, List.all_append, qa_dL_law_10, List.all_append, qa_dL_law_11, List.all_append, qa_dL_law_12, List.all_append, qa_dL_law_13, List.all_append, qa_dL_law_14, List.all_append, qa_dL_law_15, List.all_append, qa_dL_law_16, List.all_append, qa_dL_law_17, List.all_append, qa_dL_law_18, List.all_append, qa_dL_law_19, List.all_append, qa_dL_law_20, List.all_append, qa_dL_law_21, List.all_append, qa_dL_law_22, List.all_append, qa_dL_law_23, qa_dL_law_24]
  rfl
end
section
/-! the methods that are called are checked -/
set_option maxRecDepth 1000000 in
theorem qa_co0 : ∀ e ∈ qa_ca0, qa_Ok e.2.1 := by
  unfold qa_ca0
  exact (fun _ h => nomatch h)
set_option maxRecDepth 1000000 in
theorem qa_co1 : ∀ e ∈ qa_ca1, qa_Ok e.2.1 := by
  unfold qa_ca1
  exact List.forall_mem_cons.mpr ⟨qa_oX6_init, List.forall_mem_cons.mpr ⟨qa_oX3_init, List.forall_mem_cons.mpr ⟨qa_oX7_init, List.forall_mem_cons.mpr ⟨qa_oX2_init, List.forall_mem_cons.mpr ⟨qa_oX4_init, List.forall_mem_cons.mpr ⟨qa_oX0_init, List.forall_mem_cons.mpr ⟨qa_oX6_copyFrom, List.forall_mem_cons.mpr ⟨qa_oX3_copyFrom, List.forall_mem_cons.mpr ⟨qa_oX7_copyFrom, List.forall_mem_cons.mpr ⟨qa_oX2_copyFrom, List.forall_mem_cons.mpr ⟨qa_oX4_copyFrom, List.forall_mem_cons.mpr ⟨qa_oX0_copyFrom, List.forall_mem_cons.mpr ⟨qa_oX6_isReady, List.forall_mem_cons.mpr ⟨qa_oX2_queuePlace, List.forall_mem_cons.mpr ⟨qa_oX7_bears, List.forall_mem_cons.mpr ⟨qa_oX1_obeyGoOn, List.forall_mem_cons.mpr ⟨qa_oX1_obeyAsk, List.forall_mem_cons.mpr ⟨qa_oX1_obeyBurn, List.forall_mem_cons.mpr ⟨qa_oX1_obeyInsert, List.forall_mem_cons.mpr ⟨qa_oX1_passTick, List.forall_mem_cons.mpr ⟨qa_oX1_mayGoOn, List.forall_mem_cons.mpr ⟨qa_oX1_proceed, List.forall_mem_cons.mpr ⟨qa_oX1_beginLoading, List.forall_mem_cons.mpr ⟨qa_oX6_has, List.forall_mem_cons.mpr ⟨qa_oX1_mayAsk, List.forall_mem_cons.mpr ⟨qa_oX2_queue, List.forall_mem_cons.mpr ⟨qa_oX1_mayBurn, List.forall_mem_cons.mpr ⟨qa_oX1_putOnFire, List.forall_mem_cons.mpr ⟨qa_oX3_put, List.forall_mem_cons.mpr ⟨qa_oX3_advance, List.forall_mem_cons.mpr ⟨qa_oX1_bringOn, List.forall_mem_cons.mpr ⟨qa_oX2_unqueue, List.forall_mem_cons.mpr ⟨qa_oX9_at, List.forall_mem_cons.mpr ⟨qa_oX7_bring, List.forall_mem_cons.mpr ⟨qa_oX6_use, List.forall_mem_cons.mpr ⟨qa_oX6_coolEmbers, List.forall_mem_cons.mpr ⟨qa_oX7_fadeOnce, List.forall_mem_cons.mpr ⟨qa_oX7_countShown, List.forall_mem_cons.mpr ⟨qa_oX1_loadOnce, List.forall_mem_cons.mpr ⟨qa_oX1_paceIsReached, List.forall_mem_cons.mpr ⟨qa_oX6_setReady, List.forall_mem_cons.mpr ⟨qa_oX1_nextToLoad, List.forall_mem_cons.mpr ⟨qa_oX1_burnDownTo, List.forall_mem_cons.mpr ⟨qa_oX6_ticksToLoad, List.forall_mem_cons.mpr ⟨qa_oX9_set, List.forall_mem_cons.mpr ⟨qa_oX1_nextInGoodTime, List.forall_mem_cons.mpr ⟨qa_oX3_slideAhead, List.forall_mem_cons.mpr ⟨qa_oX1_lineUp, List.forall_mem_cons.mpr ⟨qa_oX1_weighByNextUse, List.forall_mem_cons.mpr ⟨qa_oX1_weighByUseOrCost, (fun _ h => nomatch h)⟩⟩⟩⟩⟩⟩⟩⟩⟩⟩⟩⟩⟩⟩⟩⟩⟩⟩⟩⟩⟩⟩⟩⟩⟩⟩⟩⟩⟩⟩⟩⟩⟩⟩⟩⟩⟩⟩⟩⟩⟩⟩⟩⟩⟩⟩⟩⟩⟩⟩
set_option maxRecDepth 1000000 in
theorem qa_co2 : ∀ e ∈ qa_ca2, qa_Ok e.2.1 := by
  unfold qa_ca2
  exact List.forall_mem_cons.mpr ⟨qa_oX9_copyRow, List.forall_mem_cons.mpr ⟨qa_oX9_at, List.forall_mem_cons.mpr ⟨qa_oX9_set, (fun _ h => nomatch h)⟩⟩⟩
set_option maxRecDepth 1000000 in
theorem qa_co3 : ∀ e ∈ qa_ca3, qa_Ok e.2.1 := by
  unfold qa_ca3
  exact List.forall_mem_cons.mpr ⟨qa_oX9_copyRow, List.forall_mem_cons.mpr ⟨qa_oX9_at, List.forall_mem_cons.mpr ⟨qa_oX9_set, List.forall_mem_cons.mpr ⟨qa_oX3_slideAhead, (fun _ h => nomatch h)⟩⟩⟩⟩
set_option maxRecDepth 1000000 in
theorem qa_co4 : ∀ e ∈ qa_ca4, qa_Ok e.2.1 := by
  unfold qa_ca4
  exact (fun _ h => nomatch h)
set_option maxRecDepth 1000000 in
theorem qa_co5 : ∀ e ∈ qa_ca5, qa_Ok e.2.1 := by
  unfold qa_ca5
  exact List.forall_mem_cons.mpr ⟨qa_oX1_init, List.forall_mem_cons.mpr ⟨qa_oX1_copyFrom, (fun _ h => nomatch h)⟩⟩
set_option maxRecDepth 1000000 in
theorem qa_co6 : ∀ e ∈ qa_ca6, qa_Ok e.2.1 := by
  unfold qa_ca6
  exact List.forall_mem_cons.mpr ⟨qa_oX9_copyRow, List.forall_mem_cons.mpr ⟨qa_oX9_set, List.forall_mem_cons.mpr ⟨qa_oX9_at, (fun _ h => nomatch h)⟩⟩⟩
set_option maxRecDepth 1000000 in
theorem qa_co7 : ∀ e ∈ qa_ca7, qa_Ok e.2.1 := by
  unfold qa_ca7
  exact (fun _ h => nomatch h)
set_option maxRecDepth 1000000 in
theorem qa_co8 : ∀ e ∈ qa_ca8, qa_Ok e.2.1 := by
  unfold qa_ca8
  exact List.forall_mem_cons.mpr ⟨qa_oX9_set, List.forall_mem_cons.mpr ⟨qa_oX8_startPart, List.forall_mem_cons.mpr ⟨qa_oX9_at, List.forall_mem_cons.mpr ⟨qa_oX8_accept, List.forall_mem_cons.mpr ⟨qa_oX8_readToError, List.forall_mem_cons.mpr ⟨qa_oX8_partMayEnd, List.forall_mem_cons.mpr ⟨qa_oX8_acceptDigit, (fun _ h => nomatch h)⟩⟩⟩⟩⟩⟩⟩
set_option maxRecDepth 1000000 in
theorem qa_co9 : ∀ e ∈ qa_ca9, qa_Ok e.2.1 := by
  unfold qa_ca9
  exact List.forall_mem_cons.mpr ⟨qa_oX1_init, List.forall_mem_cons.mpr ⟨qa_oX5_init, List.forall_mem_cons.mpr ⟨qa_oX8_init, List.forall_mem_cons.mpr ⟨qa_oX9_isWithin, List.forall_mem_cons.mpr ⟨qa_oX9_needArgument, List.forall_mem_cons.mpr ⟨qa_oX9_needState, List.forall_mem_cons.mpr ⟨qa_oX5_push, List.forall_mem_cons.mpr ⟨qa_oX6_add, List.forall_mem_cons.mpr ⟨qa_oX1_beginLoading, List.forall_mem_cons.mpr ⟨qa_oX6_has, List.forall_mem_cons.mpr ⟨qa_oX9_needIndex, List.forall_mem_cons.mpr ⟨qa_oX3_put, List.forall_mem_cons.mpr ⟨qa_oX3_has, List.forall_mem_cons.mpr ⟨qa_oX3_remove, List.forall_mem_cons.mpr ⟨qa_oX1_mayGoOn, List.forall_mem_cons.mpr ⟨qa_oX1_proceed, List.forall_mem_cons.mpr ⟨qa_oX1_mayAsk, List.forall_mem_cons.mpr ⟨qa_oX2_queue, List.forall_mem_cons.mpr ⟨qa_oX1_mayBurn, List.forall_mem_cons.mpr ⟨qa_oX1_putOnFire, List.forall_mem_cons.mpr ⟨qa_oX9_at, List.forall_mem_cons.mpr ⟨qa_oX1_passTicks, List.forall_mem_cons.mpr ⟨qa_oX1_burnDownTo, List.forall_mem_cons.mpr ⟨qa_oX8_add, List.forall_mem_cons.mpr ⟨qa_oX8_readToError, List.forall_mem_cons.mpr ⟨qa_oX8_tellsOrders, List.forall_mem_cons.mpr ⟨qa_oX1_copyFrom, List.forall_mem_cons.mpr ⟨qa_oX8_startReading, List.forall_mem_cons.mpr ⟨qa_oX8_readPart, List.forall_mem_cons.mpr ⟨qa_oX1_obey, List.forall_mem_cons.mpr ⟨qa_oX9_hasSnapshot, List.forall_mem_cons.mpr ⟨qa_oX5_popInto, List.forall_mem_cons.mpr ⟨qa_oX6_ticksToLoad, List.forall_mem_cons.mpr ⟨qa_oX6_isReady, List.forall_mem_cons.mpr ⟨qa_oX7_bears, List.forall_mem_cons.mpr ⟨qa_oX3_placesUntil, List.forall_mem_cons.mpr ⟨qa_oX1_placeInLine, List.forall_mem_cons.mpr ⟨qa_oX1_sumOfCosts, List.forall_mem_cons.mpr ⟨qa_oX9_waitOnTrial, List.forall_mem_cons.mpr ⟨qa_oX1_sumOfWait, List.forall_mem_cons.mpr ⟨qa_oX1_burningsToLoad, List.forall_mem_cons.mpr ⟨qa_oX9_missesOnTrial, List.forall_mem_cons.mpr ⟨qa_oX0_shareOfHits, List.forall_mem_cons.mpr ⟨qa_oX9_mix, List.forall_mem_cons.mpr ⟨qa_oX9_mixSlide, List.forall_mem_cons.mpr ⟨qa_oX9_mixProgramme, List.forall_mem_cons.mpr ⟨qa_oX9_mixLoading, List.forall_mem_cons.mpr ⟨qa_oX9_mixAccounts, List.forall_mem_cons.mpr ⟨qa_oX9_bitsOfShare, List.forall_mem_cons.mpr ⟨qa_oX1_passTick, (fun _ h => nomatch h)⟩⟩⟩⟩⟩⟩⟩⟩⟩⟩⟩⟩⟩⟩⟩⟩⟩⟩⟩⟩⟩⟩⟩⟩⟩⟩⟩⟩⟩⟩⟩⟩⟩⟩⟩⟩⟩⟩⟩⟩⟩⟩⟩⟩⟩⟩⟩⟩⟩⟩
set_option maxRecDepth 1000000 in
theorem qa_co10 : ∀ e ∈ qa_ca10, qa_Ok e.2.1 := by
  unfold qa_ca10
  exact List.forall_mem_cons.mpr ⟨qa_oX10_in, List.forall_mem_cons.mpr ⟨qa_oX10_of, List.forall_mem_cons.mpr ⟨qa_oX10_loaded, List.forall_mem_cons.mpr ⟨qa_oX10_nextOf, List.forall_mem_cons.mpr ⟨qa_oX10_onShow, List.forall_mem_cons.mpr ⟨qa_oX10_canBurn, List.forall_mem_cons.mpr ⟨qa_oX10_isFirst, List.forall_mem_cons.mpr ⟨qa_oX10_lay, List.forall_mem_cons.mpr ⟨qa_oX10_taken, List.forall_mem_cons.mpr ⟨qa_oX10_nextToBurn, List.forall_mem_cons.mpr ⟨qa_oX10_burns, List.forall_mem_cons.mpr ⟨qa_oX10_makesRoom, List.forall_mem_cons.mpr ⟨qa_oX10_due, List.forall_mem_cons.mpr ⟨qa_oX10_starts, List.forall_mem_cons.mpr ⟨qa_oX10_forgets, List.forall_mem_cons.mpr ⟨qa_oX10_uses, List.forall_mem_cons.mpr ⟨qa_oX10_shows, List.forall_mem_cons.mpr ⟨qa_oX10_goesOn, List.forall_mem_cons.mpr ⟨qa_oX10_begins, List.forall_mem_cons.mpr ⟨qa_oX10_isAsked, List.forall_mem_cons.mpr ⟨qa_oX10_ticks, List.forall_mem_cons.mpr ⟨qa_oX10_throwing, List.forall_mem_cons.mpr ⟨qa_oX10_save, List.forall_mem_cons.mpr ⟨qa_oX10_isThere, List.forall_mem_cons.mpr ⟨qa_oX10_inserts, List.forall_mem_cons.mpr ⟨qa_oX10_canGoOn, List.forall_mem_cons.mpr ⟨qa_oX10_canAsk, List.forall_mem_cons.mpr ⟨qa_oX10_asks, List.forall_mem_cons.mpr ⟨qa_oX10_passes, List.forall_mem_cons.mpr ⟨qa_oX10_changes, List.forall_mem_cons.mpr ⟨qa_oX10_sign, List.forall_mem_cons.mpr ⟨qa_oX10_number, List.forall_mem_cons.mpr ⟨qa_oX10_isFollowed, List.forall_mem_cons.mpr ⟨qa_oX10_isOrdered, List.forall_mem_cons.mpr ⟨qa_oX10_go, List.forall_mem_cons.mpr ⟨qa_oX10_keepsAside, List.forall_mem_cons.mpr ⟨qa_oX10_putsBack, List.forall_mem_cons.mpr ⟨qa_oX10_rule, List.forall_mem_cons.mpr ⟨qa_oX10_inOrder, List.forall_mem_cons.mpr ⟨qa_oX10_told, List.forall_mem_cons.mpr ⟨qa_oX10_untilShown, List.forall_mem_cons.mpr ⟨qa_oX10_toldTicks, List.forall_mem_cons.mpr ⟨qa_oX10_burningsOf, List.forall_mem_cons.mpr ⟨qa_oX10_missing, List.forall_mem_cons.mpr ⟨qa_oX10_share, List.forall_mem_cons.mpr ⟨qa_oX10_mix, List.forall_mem_cons.mpr ⟨qa_oX10_mixesSlide, List.forall_mem_cons.mpr ⟨qa_oX10_bitsOf, (fun _ h => nomatch h)⟩⟩⟩⟩⟩⟩⟩⟩⟩⟩⟩⟩⟩⟩⟩⟩⟩⟩⟩⟩⟩⟩⟩⟩⟩⟩⟩⟩⟩⟩⟩⟩⟩⟩⟩⟩⟩⟩⟩⟩⟩⟩⟩⟩⟩⟩⟩⟩
set_option maxRecDepth 1000000 in
theorem qa_co11 : ∀ e ∈ qa_ca11, qa_Ok e.2.1 := by
  unfold qa_ca11
  exact List.forall_mem_cons.mpr ⟨qa_oX9_addSlide, List.forall_mem_cons.mpr ⟨qa_oX9_insert, List.forall_mem_cons.mpr ⟨qa_oX9_takeOut, List.forall_mem_cons.mpr ⟨qa_oX9_goOn, List.forall_mem_cons.mpr ⟨qa_oX9_ask, List.forall_mem_cons.mpr ⟨qa_oX9_burn, List.forall_mem_cons.mpr ⟨qa_oX9_tick, List.forall_mem_cons.mpr ⟨qa_oX9_changeMemory, List.forall_mem_cons.mpr ⟨qa_oX9_changeAhead, List.forall_mem_cons.mpr ⟨qa_oX9_changeOrder, List.forall_mem_cons.mpr ⟨qa_oX9_changeGlow, List.forall_mem_cons.mpr ⟨qa_oX9_changePace, List.forall_mem_cons.mpr ⟨qa_oX9_append, List.forall_mem_cons.mpr ⟨qa_oX9_follow, List.forall_mem_cons.mpr ⟨qa_oX9_keep, List.forall_mem_cons.mpr ⟨qa_oX9_goBack, List.forall_mem_cons.mpr ⟨qa_oX9_undo, List.forall_mem_cons.mpr ⟨qa_oX9_costOf, List.forall_mem_cons.mpr ⟨qa_oX9_loadOf, List.forall_mem_cons.mpr ⟨qa_oX9_fadeOf, List.forall_mem_cons.mpr ⟨qa_oX9_isLoaded, List.forall_mem_cons.mpr ⟨qa_oX9_isOnShow, List.forall_mem_cons.mpr ⟨qa_oX9_glowOf, List.forall_mem_cons.mpr ⟨qa_oX9_burntTimes, List.forall_mem_cons.mpr ⟨qa_oX9_nextUse, List.forall_mem_cons.mpr ⟨qa_oX9_burnPlace, List.forall_mem_cons.mpr ⟨qa_oX9_slideAt, List.forall_mem_cons.mpr ⟨qa_oX9_showPlace, List.forall_mem_cons.mpr ⟨qa_oX9_shown, List.forall_mem_cons.mpr ⟨qa_oX9_fading, List.forall_mem_cons.mpr ⟨qa_oX9_awaited, List.forall_mem_cons.mpr ⟨qa_oX9_shownFor, List.forall_mem_cons.mpr ⟨qa_oX9_loading, List.forall_mem_cons.mpr ⟨qa_oX9_askedAt, List.forall_mem_cons.mpr ⟨qa_oX9_ticksToShowByTicks, List.forall_mem_cons.mpr ⟨qa_oX9_ticksToShowBySums, List.forall_mem_cons.mpr ⟨qa_oX9_burningsFor, List.forall_mem_cons.mpr ⟨qa_oX9_missesWith, List.forall_mem_cons.mpr ⟨qa_oX9_bestOrder, List.forall_mem_cons.mpr ⟨qa_oX9_init, List.forall_mem_cons.mpr ⟨qa_oX10_init, List.forall_mem_cons.mpr ⟨qa_oL_addSlide, List.forall_mem_cons.mpr ⟨qa_oX10_addSlide, List.forall_mem_cons.mpr ⟨qa_oX10_thrown, List.forall_mem_cons.mpr ⟨qa_oL_insert, List.forall_mem_cons.mpr ⟨qa_oX10_insert, List.forall_mem_cons.mpr ⟨qa_oL_takeOut, List.forall_mem_cons.mpr ⟨qa_oX10_takeOut, List.forall_mem_cons.mpr ⟨qa_oL_goOn, List.forall_mem_cons.mpr ⟨qa_oX10_goOn, List.forall_mem_cons.mpr ⟨qa_oL_ask, List.forall_mem_cons.mpr ⟨qa_oX10_ask, List.forall_mem_cons.mpr ⟨qa_oL_burn, List.forall_mem_cons.mpr ⟨qa_oX10_burn, List.forall_mem_cons.mpr ⟨qa_oL_tick, List.forall_mem_cons.mpr ⟨qa_oX10_tick, List.forall_mem_cons.mpr ⟨qa_oL_changeMemory, List.forall_mem_cons.mpr ⟨qa_oX10_changeMemory, List.forall_mem_cons.mpr ⟨qa_oL_changeAhead, List.forall_mem_cons.mpr ⟨qa_oX10_changeAhead, List.forall_mem_cons.mpr ⟨qa_oL_changeOrder, List.forall_mem_cons.mpr ⟨qa_oX10_changeOrder, List.forall_mem_cons.mpr ⟨qa_oL_changeGlow, List.forall_mem_cons.mpr ⟨qa_oX10_changeGlow, List.forall_mem_cons.mpr ⟨qa_oL_changePace, List.forall_mem_cons.mpr ⟨qa_oX10_changePace, List.forall_mem_cons.mpr ⟨qa_oL_append, List.forall_mem_cons.mpr ⟨qa_oX10_append, List.forall_mem_cons.mpr ⟨qa_oX9_clearBuffer, List.forall_mem_cons.mpr ⟨qa_oX10_clearBuffer, List.forall_mem_cons.mpr ⟨qa_oX9_firstError, List.forall_mem_cons.mpr ⟨qa_oX10_firstError, List.forall_mem_cons.mpr ⟨qa_oL_follow, List.forall_mem_cons.mpr ⟨qa_oX10_follow, List.forall_mem_cons.mpr ⟨qa_oL_keep, List.forall_mem_cons.mpr ⟨qa_oX10_keep, List.forall_mem_cons.mpr ⟨qa_oL_goBack, List.forall_mem_cons.mpr ⟨qa_oX10_goBack, List.forall_mem_cons.mpr ⟨qa_oL_undo, List.forall_mem_cons.mpr ⟨qa_oX10_undo, List.forall_mem_cons.mpr ⟨qa_oX9_savedStates, List.forall_mem_cons.mpr ⟨qa_oX10_savedStates, List.forall_mem_cons.mpr ⟨qa_oX9_slides, List.forall_mem_cons.mpr ⟨qa_oX10_slides, List.forall_mem_cons.mpr ⟨qa_oL_costOf, List.forall_mem_cons.mpr ⟨qa_oX10_costOf, List.forall_mem_cons.mpr ⟨qa_oL_loadOf, List.forall_mem_cons.mpr ⟨qa_oX10_loadOf, List.forall_mem_cons.mpr ⟨qa_oL_fadeOf, List.forall_mem_cons.mpr ⟨qa_oX10_fadeOf, List.forall_mem_cons.mpr ⟨qa_oL_isLoaded, List.forall_mem_cons.mpr ⟨qa_oX10_isLoaded, List.forall_mem_cons.mpr ⟨qa_oL_isOnShow, List.forall_mem_cons.mpr ⟨qa_oX10_isOnShow, List.forall_mem_cons.mpr ⟨qa_oL_glowOf, List.forall_mem_cons.mpr ⟨qa_oX10_glowOf, List.forall_mem_cons.mpr ⟨qa_oL_burntTimes, List.forall_mem_cons.mpr ⟨qa_oX10_burntTimes, List.forall_mem_cons.mpr ⟨qa_oL_nextUse, List.forall_mem_cons.mpr ⟨qa_oX10_nextUse, List.forall_mem_cons.mpr ⟨qa_oL_burnPlace, List.forall_mem_cons.mpr ⟨qa_oX10_burnPlace, List.forall_mem_cons.mpr ⟨qa_oX9_places, List.forall_mem_cons.mpr ⟨qa_oX10_places, List.forall_mem_cons.mpr ⟨qa_oL_slideAt, List.forall_mem_cons.mpr ⟨qa_oX10_slideAt, List.forall_mem_cons.mpr ⟨qa_oL_showPlace, List.forall_mem_cons.mpr ⟨qa_oX10_showPlace, List.forall_mem_cons.mpr ⟨qa_oL_shown, List.forall_mem_cons.mpr ⟨qa_oX10_shown, List.forall_mem_cons.mpr ⟨qa_oL_fading, List.forall_mem_cons.mpr ⟨qa_oX10_fading, List.forall_mem_cons.mpr ⟨qa_oX9_fadeLeft, List.forall_mem_cons.mpr ⟨qa_oX10_fadeLeft, List.forall_mem_cons.mpr ⟨qa_oL_awaited, List.forall_mem_cons.mpr ⟨qa_oX10_awaited, List.forall_mem_cons.mpr ⟨qa_oL_shownFor, List.forall_mem_cons.mpr ⟨qa_oX10_shownFor, List.forall_mem_cons.mpr ⟨qa_oL_loading, List.forall_mem_cons.mpr ⟨qa_oX10_loading, List.forall_mem_cons.mpr ⟨qa_oX9_loadLeft, List.forall_mem_cons.mpr ⟨qa_oX10_loadLeft, List.forall_mem_cons.mpr ⟨qa_oX9_asked, List.forall_mem_cons.mpr ⟨qa_oX10_asked, List.forall_mem_cons.mpr ⟨qa_oL_askedAt, List.forall_mem_cons.mpr ⟨qa_oX10_askedAt, List.forall_mem_cons.mpr ⟨qa_oX9_takenBySlides, List.forall_mem_cons.mpr ⟨qa_oX10_takenBySlides, List.forall_mem_cons.mpr ⟨qa_oX9_takenByAccount, List.forall_mem_cons.mpr ⟨qa_oX10_takenByAccount, List.forall_mem_cons.mpr ⟨qa_oX9_memory, List.forall_mem_cons.mpr ⟨qa_oX10_memory, List.forall_mem_cons.mpr ⟨qa_oX9_ahead, List.forall_mem_cons.mpr ⟨qa_oX10_ahead, List.forall_mem_cons.mpr ⟨qa_oX9_order, List.forall_mem_cons.mpr ⟨qa_oX10_order, List.forall_mem_cons.mpr ⟨qa_oX9_glow, List.forall_mem_cons.mpr ⟨qa_oX10_glow, List.forall_mem_cons.mpr ⟨qa_oX9_pace, List.forall_mem_cons.mpr ⟨qa_oX10_pace, List.forall_mem_cons.mpr ⟨qa_oL_ticksToShowByTicks, List.forall_mem_cons.mpr ⟨qa_oX10_ticksToShowByTicks, List.forall_mem_cons.mpr ⟨qa_oL_ticksToShowBySums, List.forall_mem_cons.mpr ⟨qa_oX10_ticksToShowBySums, List.forall_mem_cons.mpr ⟨qa_oL_burningsFor, List.forall_mem_cons.mpr ⟨qa_oX10_burningsFor, List.forall_mem_cons.mpr ⟨qa_oL_missesWith, List.forall_mem_cons.mpr ⟨qa_oX10_missesWith, List.forall_mem_cons.mpr ⟨qa_oL_bestOrder, List.forall_mem_cons.mpr ⟨qa_oX10_bestOrder, List.forall_mem_cons.mpr ⟨qa_oX9_time, List.forall_mem_cons.mpr ⟨qa_oX10_time, List.forall_mem_cons.mpr ⟨qa_oX9_hits, List.forall_mem_cons.mpr ⟨qa_oX10_hits, List.forall_mem_cons.mpr ⟨qa_oX9_misses, List.forall_mem_cons.mpr ⟨qa_oX10_misses, List.forall_mem_cons.mpr ⟨qa_oX9_loads, List.forall_mem_cons.mpr ⟨qa_oX10_loads, List.forall_mem_cons.mpr ⟨qa_oX9_warmLoads, List.forall_mem_cons.mpr ⟨qa_oX10_warmLoads, List.forall_mem_cons.mpr ⟨qa_oX9_burnings, List.forall_mem_cons.mpr ⟨qa_oX10_burnings, List.forall_mem_cons.mpr ⟨qa_oX9_waited, List.forall_mem_cons.mpr ⟨qa_oX10_waited, List.forall_mem_cons.mpr ⟨qa_oX9_hitShare, List.forall_mem_cons.mpr ⟨qa_oX10_hitShare, List.forall_mem_cons.mpr ⟨qa_oX9_digest, List.forall_mem_cons.mpr ⟨qa_oX10_digest, (fun _ h => nomatch h)⟩⟩⟩⟩⟩⟩⟩⟩⟩⟩⟩⟩⟩⟩⟩⟩⟩⟩⟩⟩⟩⟩⟩⟩⟩⟩⟩⟩⟩⟩⟩⟩⟩⟩⟩⟩⟩⟩⟩⟩⟩⟩⟩⟩⟩⟩⟩⟩⟩⟩⟩⟩⟩⟩⟩⟩⟩⟩⟩⟩⟩⟩⟩⟩⟩⟩⟩⟩⟩⟩⟩⟩⟩⟩⟩⟩⟩⟩⟩⟩⟩⟩⟩⟩⟩⟩⟩⟩⟩⟩⟩⟩⟩⟩⟩⟩⟩⟩⟩⟩⟩⟩⟩⟩⟩⟩⟩⟩⟩⟩⟩⟩⟩⟩⟩⟩⟩⟩⟩⟩⟩⟩⟩⟩⟩⟩⟩⟩⟩⟩⟩⟩⟩⟩⟩⟩⟩⟩⟩⟩⟩⟩⟩⟩⟩⟩⟩⟩⟩⟩⟩⟩⟩⟩⟩⟩⟩⟩⟩⟩⟩⟩⟩⟩⟩⟩⟩⟩
theorem qa_co (k : Nat) : ∀ e ∈ qa_ca k, qa_Ok e.2.1 := by
  unfold qa_ca
  split
  · exact qa_co0
  · exact qa_co1
  · exact qa_co2
  · exact qa_co3
  · exact qa_co4
  · exact qa_co5
  · exact qa_co6
  · exact qa_co7
  · exact qa_co8
  · exact qa_co9
  · exact qa_co10
  · exact qa_co11
end
section
/-! the small machine: what its steps do -/
def qa_cv (φ : qa_P → Nat) (v : qa_V) : Value := match v with
  | .inl p => .ref (φ p)
  | .inr v => v
def qa_cat (v : qa_V) : Nat := match v with
  | .inl _ => 1
  | .inr v => v.category
def qa_lm (φ : qa_P → Nat) (lv : qa_L) : List (Nat × Value) := lv.map (fun q => (q.1, qa_cv φ q.2))
abbrev qa_F : Type := Nat × qa_L × List qa_V
def qa_S (len n pc : Nat) (lv : qa_L) (o : Option (List qa_V)) : Option qa_F := if len = n then o.map (fun st => (pc + n, lv, st)) else none
def qa_ii (f : Int32 → Int32 → Option Value) (st : List qa_V) : Option (List qa_V) := match st with
  | .inr (.int y) :: .inr (.int x) :: r => (f x y).map (fun v => .inr v :: r)
  | _ => none
def qa_jj (f : Int64 → Int64 → Option Value) (st : List qa_V) : Option (List qa_V) := match st with
  | .inr (.long y) :: .inr (.long x) :: r => (f x y).map (fun v => .inr v :: r)
  | _ => none
def qa_dd (f : UInt64 → UInt64 → Option Value) (st : List qa_V) : Option (List qa_V) := match st with
  | .inr (.double y) :: .inr (.double x) :: r => (f x y).map (fun v => .inr v :: r)
  | _ => none
def qa_ui (f : Int32 → Value) (st : List qa_V) : Option (List qa_V) := match st with
  | .inr (.int x) :: r => some (.inr (f x) :: r)
  | _ => none
def qa_uj (f : Int64 → Value) (st : List qa_V) : Option (List qa_V) := match st with
  | .inr (.long x) :: r => some (.inr (f x) :: r)
  | _ => none
def qa_ud (f : UInt64 → Value) (st : List qa_V) : Option (List qa_V) := match st with
  | .inr (.double x) :: r => some (.inr (f x) :: r)
  | _ => none
def qa_ji (f : Int64 → Int32 → Value) (st : List qa_V) : Option (List qa_V) := match st with
  | .inr (.int y) :: .inr (.long x) :: r => some (.inr (f x y) :: r)
  | _ => none
def qa_li (lv : qa_L) (i : Nat) (st : List qa_V) : Option (List qa_V) := match qa_lk lv i with
  | some (.inr (.int x)) => some (.inr (.int x) :: st)
  | _ => none
def qa_ll (lv : qa_L) (i : Nat) (st : List qa_V) : Option (List qa_V) := match qa_lk lv i with
  | some (.inr (.long x)) => some (.inr (.long x) :: st)
  | _ => none
def qa_ld (lv : qa_L) (i : Nat) (st : List qa_V) : Option (List qa_V) := match qa_lk lv i with
  | some (.inr (.double x)) => some (.inr (.double x) :: st)
  | _ => none
def qa_la (lv : qa_L) (i : Nat) (st : List qa_V) : Option (List qa_V) := match qa_lk lv i with
  | some (.inl x) => some (.inl x :: st)
  | _ => none
/-- the locals behind a store of one slot, of two slots -/
def qa_s1 (i : Nat) (v : qa_V) (lv : qa_L) : qa_L := (i, v) :: lv.filter (fun q => !(q.1 == i) && !(q.1 + 1 == i && qa_cat q.2 == 2))
def qa_s2 (i : Nat) (v : qa_V) (lv : qa_L) : qa_L := (i, v) :: lv.filter (fun q => !(q.1 == i) && (!(q.1 == i + 1) && !(q.1 + 1 == i && qa_cat q.2 == 2)))
def qa_si (nL len n pc i : Nat) (lv : qa_L) (st : List qa_V) : Option qa_F := match st with
  | .inr (.int x) :: r => if len = n ∧ i < nL then some (pc + n, qa_s1 i (.inr (.int x)) lv, r) else none
  | _ => none
def qa_sa (nL len n pc i : Nat) (lv : qa_L) (st : List qa_V) : Option qa_F := match st with
  | .inl x :: r => if len = n ∧ i < nL then some (pc + n, qa_s1 i (.inl x) lv, r) else none
  | _ => none
def qa_sl (nL len n pc i : Nat) (lv : qa_L) (st : List qa_V) : Option qa_F := match st with
  | .inr (.long x) :: r => if len = n ∧ i + 1 < nL then some (pc + n, qa_s2 i (.inr (.long x)) lv, r) else none
  | _ => none
def qa_sd (nL len n pc i : Nat) (lv : qa_L) (st : List qa_V) : Option qa_F := match st with
  | .inr (.double x) :: r => if len = n ∧ i + 1 < nL then some (pc + n, qa_s2 i (.inr (.double x)) lv, r) else none
  | _ => none
def qa_to (pc : Nat) (off : Int) : Nat := ((pc : Int) + off).toNat
def qa_b1 (len pc : Nat) (off : Int) (lv : qa_L) (st : List qa_V) (t : Int32 → Bool) : Option qa_F := match st with
  | .inr (.int x) :: r => if len = 3 ∧ 0 ≤ (pc : Int) + off then some (if t x = true then qa_to pc off else pc + 3, lv, r) else none
  | _ => none
def qa_b2 (len pc : Nat) (off : Int) (lv : qa_L) (st : List qa_V) (t : Int32 → Int32 → Bool) : Option qa_F := match st with
  | .inr (.int y) :: .inr (.int x) :: r => if len = 3 ∧ 0 ≤ (pc : Int) + off then some (if t x y = true then qa_to pc off else pc + 3, lv, r) else none
  | _ => none
def qa_bn (len pc : Nat) (off : Int) (lv : qa_L) (st : List qa_V) : Option qa_F := match st with
  | .inl _ :: r => if len = 3 then some (pc + 3, lv, r) else none
  | .inr .null :: r => if len = 3 ∧ 0 ≤ (pc : Int) + off then some (qa_to pc off, lv, r) else none
  | _ => none
def qa_dp (st : List qa_V) : Option (List qa_V) := match st with
  | x :: r => if qa_cat x = 1 then some (x :: x :: r) else none
  | _ => none
def qa_pp (st : List qa_V) : Option (List qa_V) := match st with
  | x :: r => if qa_cat x = 1 then some r else none
  | _ => none
def qa_d2 (st : List qa_V) : Option (List qa_V) := match st with
  | x :: y :: r => if qa_cat x = 1 ∧ qa_cat y = 1 then some (x :: y :: x :: y :: r) else none
  | _ => none
/-- is the index within -/
def qa_in (i : Int32) (n : Nat) : Bool := decide (¬ (i < 0 ∨ n ≤ i.toNatClampNeg))
def qa_gf (k idx : Nat) (h : qa_P → qa_C) (st : List qa_V) : Option (List qa_V) := match st with
  | .inl p :: r => match qa_lk (qa_fl k) idx, h p with
    | some (ci, sl, _), .inl (cj, f) => if cj = ci then some (f sl :: r) else none
    | _, _ => none
  | _ => none
def qa_an_ (h : qa_P → qa_C) (st : List qa_V) : Option (List qa_V) := match st with
  | .inl p :: r => match h p with
    | .inr (τ, n, _) => if τ < 4 ∨ τ = 9 then some (.inr (.int (Int32.ofNat n)) :: r) else none
    | _ => none
  | _ => none
def qa_ia (h : qa_P → qa_C) (st : List qa_V) : Option (List qa_V) := match st with
  | .inr (.int i) :: .inl p :: r => match h p with
    | .inr (τ, n, .inl f) => if (τ = 0 ∨ τ = 9) ∧ qa_in i n = true then some (.inr (.int (f i.toNatClampNeg)) :: r) else none
    | _ => none
  | _ => none
def qa_ba (h : qa_P → qa_C) (st : List qa_V) : Option (List qa_V) := match st with
  | .inr (.int i) :: .inl p :: r => match h p with
    | .inr (τ, n, .inl f) => if τ = 1 ∧ qa_in i n = true then some (.inr (.int (f i.toNatClampNeg)) :: r) else none
    | _ => none
  | _ => none
def qa_ja (h : qa_P → qa_C) (st : List qa_V) : Option (List qa_V) := match st with
  | .inr (.int i) :: .inl p :: r => match h p with
    | .inr (τ, n, .inr (.inl f)) => if τ = 2 ∧ qa_in i n = true then some (.inr (.long (f i.toNatClampNeg)) :: r) else none
    | _ => none
  | _ => none
def qa_rv (o : Option qa_P) : qa_V := match o with
  | some p => .inl p
  | none => .inr .null
def qa_aa (h : qa_P → qa_C) (st : List qa_V) : Option (List qa_V) := match st with
  | .inr (.int i) :: .inl p :: r => match h p with
    | .inr (τ, n, .inr (.inr f)) => if τ = 3 ∧ qa_in i n = true then some (qa_rv (f i.toNatClampNeg) :: r) else none
    | _ => none
  | _ => none
def qa_lc (k idx : Nat) (st : List qa_V) : Option (List qa_V) := match qa_lk (qa_kl k) idx with
  | some (v, _) => some (.inr v :: st)
  | _ => none
def qa_ls (pc : Nat) (dflt : Int) (ps : Array (Int × Int)) (lv : qa_L) (st : List qa_V) : Option qa_F := match st with
  | .inr (.int x) :: r => if (ps.toList.zip (ps.toList.drop 1)).all (fun q => decide (q.1.1 < q.2.1)) = true ∧ 0 ≤ (pc : Int) + Op.lookupswitch.offset ps.toList dflt x.toInt then some (qa_to pc (Op.lookupswitch.offset ps.toList dflt x.toInt), lv, r) else none
  | _ => none
def qa_ts (pc : Nat) (dflt lo hi : Int) (offs : Array Int) (lv : qa_L) (st : List qa_V) : Option qa_F := match st with
  | .inr (.int x) :: r =>
    if x.toInt < lo ∨ hi < x.toInt then (if 0 ≤ (pc : Int) + dflt then some (qa_to pc dflt, lv, r) else none)
    else match offs[(x.toInt - lo).toNat]? with
      | some off => if 0 ≤ (pc : Int) + off then some (qa_to pc off, lv, r) else none
      | none => none
  | _ => none
/-- Object's constructor -/
def qa_ob (M : qa_M) (idx : Nat) (st : List qa_V) : Option (List qa_V) := match st with
  | .inl _ :: r => if (qa_oi.any (fun q => q.1 == qa_cl M && q.2.1 == idx)) = true ∧ (r.map qa_cat).sum ≤ 8 ∧ 1 ≤ qa_fr M ∧ 20 ≤ qa_lo M then some r else none
  | _ => none
/-- a step that writes no cell -/
def qa_do (M : qa_M) (h : qa_P → qa_C) (ins : Instr) (len pc : Nat) (lv : qa_L) (st : List qa_V) : Option qa_F := match ins with
  | .iconst n => qa_S len 1 pc lv (some (.inr (.int (Int32.ofInt n)) :: st))
  | .bipush n => qa_S len 2 pc lv (some (.inr (.int (Int8.ofInt n).toInt32) :: st))
  | .sipush n => qa_S len 3 pc lv (some (.inr (.int (Int16.ofInt n).toInt32) :: st))
  | .lconst n => qa_S len 1 pc lv (some (.inr (.long (Int64.ofNat (n : Nat))) :: st))
  | .dconst d => qa_S len 1 pc lv (some (.inr (.double (if (d : Nat) = 0 then FP.dconst0 else FP.dconst1)) :: st))
  | .ldc2_w i => qa_S len 3 pc lv (qa_lc (qa_cl M) i st)
  | .iload_n i => qa_S len 1 pc lv (qa_li lv (i : Nat) st)
  | .iload i => qa_S len 2 pc lv (qa_li lv i st)
  | .lload_n i => qa_S len 1 pc lv (qa_ll lv (i : Nat) st)
  | .lload i => qa_S len 2 pc lv (qa_ll lv i st)
  | .dload_n i => qa_S len 1 pc lv (qa_ld lv (i : Nat) st)
  | .dload i => qa_S len 2 pc lv (qa_ld lv i st)
  | .aload_n i => qa_S len 1 pc lv (qa_la lv (i : Nat) st)
  | .aload i => qa_S len 2 pc lv (qa_la lv i st)
  | .istore_n i => qa_si (qa_ml M) len 1 pc (i : Nat) lv st
  | .istore i => qa_si (qa_ml M) len 2 pc i lv st
  | .lstore_n i => qa_sl (qa_ml M) len 1 pc (i : Nat) lv st
  | .lstore i => qa_sl (qa_ml M) len 2 pc i lv st
  | .dstore_n i => qa_sd (qa_ml M) len 1 pc (i : Nat) lv st
  | .dstore i => qa_sd (qa_ml M) len 2 pc i lv st
  | .astore_n i => qa_sa (qa_ml M) len 1 pc (i : Nat) lv st
  | .astore i => qa_sa (qa_ml M) len 2 pc i lv st
  | .iinc i n => match qa_lk lv i with
    | some (.inr (.int x)) => if len = 3 ∧ i < qa_ml M then some (pc + 3, qa_s1 i (.inr (.int (x + Int32.ofInt n))) lv, st) else none
    | _ => none
  | .iadd => qa_S len 1 pc lv (qa_ii (fun x y => some (.int (x + y))) st)
  | .isub => qa_S len 1 pc lv (qa_ii (fun x y => some (.int (x - y))) st)
  | .imul => qa_S len 1 pc lv (qa_ii (fun x y => some (.int (x * y))) st)
  | .iand => qa_S len 1 pc lv (qa_ii (fun x y => some (.int (x &&& y))) st)
  | .idiv => qa_S len 1 pc lv (qa_ii (fun x y => if y = 0 then none else some (.int (x / y))) st)
  | .irem => qa_S len 1 pc lv (qa_ii (fun x y => if y = 0 then none else some (.int (x - x / y * y))) st)
  | .ineg => qa_S len 1 pc lv (qa_ui (fun x => .int (-x)) st)
  | .i2l => qa_S len 1 pc lv (qa_ui (fun x => .long x.toInt64) st)
  | .i2d => qa_S len 1 pc lv (qa_ui (fun x => .double (FP.i2d x)) st)
  | .l2d => qa_S len 1 pc lv (qa_uj (fun x => .double (FP.l2d x)) st)
  | .d2l => qa_S len 1 pc lv (qa_ud (fun x => .long (FP.d2l x)) st)
  | .ladd => qa_S len 1 pc lv (qa_jj (fun x y => some (.long (x + y))) st)
  | .lmul => qa_S len 1 pc lv (qa_jj (fun x y => some (.long (x * y))) st)
  | .lcmp => qa_S len 1 pc lv (qa_jj (fun x y => some (.int (lg_cmp x y))) st)
  | .lshl => qa_S len 1 pc lv (qa_ji (fun x y => .long (x <<< (y.toInt64 &&& 63))) st)
  | .ddiv => qa_S len 1 pc lv (qa_dd (fun x y => if FP.ddiv x y &&& 0x7fffffffffffffff ≤ 0x7ff0000000000000 then some (.double (FP.ddiv x y)) else none) st)
  | .dmul => qa_S len 1 pc lv (qa_dd (fun x y => if FP.dmul x y &&& 0x7fffffffffffffff ≤ 0x7ff0000000000000 then some (.double (FP.dmul x y)) else none) st)
  | .dsub => qa_S len 1 pc lv (qa_dd (fun x y => if FP.dsub x y &&& 0x7fffffffffffffff ≤ 0x7ff0000000000000 then some (.double (FP.dsub x y)) else none) st)
  | .dcmp op => qa_S len 1 pc lv (qa_dd (fun x y => some (.int (Op.cmpValue (FP.dcmp x y) op))) st)
  | .dup => qa_S len 1 pc lv (qa_dp st)
  | .pop => qa_S len 1 pc lv (qa_pp st)
  | .dup2 => qa_S len 1 pc lv (qa_d2 st)
  | .goto off => if len = 3 ∧ 0 ≤ (pc : Int) + off then some (qa_to pc off, lv, st) else none
  | .ifCond .eq off => qa_b1 len pc off lv st (fun x => decide (x = 0))
  | .ifCond .ne off => qa_b1 len pc off lv st (fun x => decide (¬ x = 0))
  | .ifCond .lt off => qa_b1 len pc off lv st (fun x => decide (x < 0))
  | .ifCond .ge off => qa_b1 len pc off lv st (fun x => decide (0 ≤ x))
  | .ifCond .gt off => qa_b1 len pc off lv st (fun x => decide (0 < x))
  | .ifCond .le off => qa_b1 len pc off lv st (fun x => decide (x ≤ 0))
  | .if_icmp .eq off => qa_b2 len pc off lv st (fun x y => decide (x = y))
  | .if_icmp .ne off => qa_b2 len pc off lv st (fun x y => decide (¬ x = y))
  | .if_icmp .lt off => qa_b2 len pc off lv st (fun x y => decide (x < y))
  | .if_icmp .ge off => qa_b2 len pc off lv st (fun x y => decide (y ≤ x))
  | .if_icmp .gt off => qa_b2 len pc off lv st (fun x y => decide (y < x))
  | .if_icmp .le off => qa_b2 len pc off lv st (fun x y => decide (x ≤ y))
  | .ifnull off => qa_bn len pc off lv st
  | .lookupswitch dflt ps => qa_ls pc dflt ps lv st
  | .tableswitch dflt lo hi offs => qa_ts pc dflt lo hi offs lv st
  | .getfield i => qa_S len 3 pc lv (qa_gf (qa_cl M) i h st)
  | .arraylength => qa_S len 1 pc lv (qa_an_ h st)
  | .iaload => qa_S len 1 pc lv (qa_ia h st)
  | .baload => qa_S len 1 pc lv (qa_ba h st)
  | .laload => qa_S len 1 pc lv (qa_ja h st)
  | .aaload => qa_S len 1 pc lv (qa_aa h st)
  | .invokespecial i => qa_S len 3 pc lv (qa_ob M i st)
  | _ => none
/-- the type of a field, is it final, and does a value fit -/
def qa_ft (ci : Nat) : Nat → FieldType := match ci with
  | 0 => tyX0
  | 1 => tyX1
  | 2 => tyX2
  | 3 => tyX3
  | 4 => tyX4
  | 5 => tyX5
  | 6 => tyX6
  | 7 => tyX7
  | 8 => tyX8
  | 9 => tyX9
  | _ => tyX10
def qa_fn (ci sl : Nat) : Bool := match vwCl[ci]? with
  | some q => (q.2.1 sl).2.2.2
  | none => false
def qa_fz (ci : Nat) : Nat := match vwCl[ci]? with
  | some q => q.2.2
  | none => 0
def qa_fit (ty : FieldType) (v : qa_V) : Bool := match v with
  | .inl _ => (match ty with
    | .object _ | .array _ => true
    | _ => false)
  | .inr v => decide (narrow ty v = v) && fits ty v
def qa_up (h : qa_P → qa_C) (p : qa_P) (c : qa_C) : qa_P → qa_C := fun q => if q = p then c else h q
/-- a step that writes one cell: the next place, the stack, the cell's position and what it holds then -/
def qa_wr (M : qa_M) (ins : Instr) (len pc : Nat) (st : List qa_V) (h : qa_P → qa_C) : Option (Nat × List qa_V × qa_P × qa_C) := match ins with
  | .putfield i => match st with
    | v :: .inl p :: r => match qa_lk (qa_fl (qa_cl M)) i, h p with
      | some (ci, sl, _), .inl (cj, f) => if len = 3 ∧ cj = ci ∧ qa_fit (qa_ft ci sl) v = true ∧ (qa_fn ci sl = true → qa_sk M = 0 ∧ ci = qa_cl M) then some (pc + 3, r, p, .inl (ci, fun j => if j = sl then v else f j)) else none
      | _, _ => none
    | _ => none
  | .iastore => match st with
    | .inr (.int x) :: .inr (.int i) :: .inl p :: r => match h p with
      | .inr (τ, n, .inl f) => if len = 1 ∧ τ = 0 ∧ qa_in i n = true then some (pc + 1, r, p, .inr (0, n, .inl (upd f i.toNatClampNeg x))) else none
      | _ => none
    | _ => none
  | .bastore => match st with
    | .inr (.int x) :: .inr (.int i) :: .inl p :: r => match h p with
      | .inr (τ, n, .inl f) => if len = 1 ∧ τ = 1 ∧ qa_in i n = true ∧ (x = 0 ∨ x = 1) then some (pc + 1, r, p, .inr (1, n, .inl (upd f i.toNatClampNeg x))) else none
      | _ => none
    | _ => none
  | .lastore => match st with
    | .inr (.long x) :: .inr (.int i) :: .inl p :: r => match h p with
      | .inr (τ, n, .inr (.inl f)) => if len = 1 ∧ τ = 2 ∧ qa_in i n = true then some (pc + 1, r, p, .inr (2, n, .inr (.inl (vp_updL f i.toNatClampNeg x)))) else none
      | _ => none
    | _ => none
  | .aastore => match st with
    | .inl v :: .inr (.int i) :: .inl p :: r => match h p, h v with
      | .inr (τ, n, .inr (.inr f)), .inl (cj, _) => if len = 1 ∧ τ = 3 ∧ cj = 1 ∧ qa_in i n = true then some (pc + 1, r, p, .inr (3, n, .inr (.inr (va_up f i.toNatClampNeg (some v))))) else none
      | _, _ => none
    | _ => none
  | _ => none
/-- a step that makes a cell: the next place, the stack under the reference, the cell, its elements -/
def qa_mkc (M : qa_M) (ins : Instr) (len pc : Nat) (st : List qa_V) : Option (Nat × List qa_V × qa_C × Nat) := match ins with
  | .new i => match qa_lk (qa_nw (qa_cl M)) i with
    | some (ci, _) => if len = 3 then some (pc + 3, st, .inl (ci, fun j => .inr (defaultValue (qa_ft ci j))), qa_fz ci) else none
    | _ => none
  | .newarray t => match st with
    | .inr (.int n) :: r => if len = 2 ∧ ¬ n < 0 ∧ n.toNatClampNeg ≤ 60000000 then (match t with
      | .int => some (pc + 2, r, .inr (0, n.toNatClampNeg, .inl (fun _ => 0)), n.toNatClampNeg)
      | .boolean => some (pc + 2, r, .inr (1, n.toNatClampNeg, .inl (fun _ => 0)), n.toNatClampNeg)
      | .long => some (pc + 2, r, .inr (2, n.toNatClampNeg, .inr (.inl (fun _ => 0))), n.toNatClampNeg)
      | _ => none) else none
    | _ => none
  | .anewarray i => match st with
    | .inr (.int n) :: r => if len = 3 ∧ ¬ n < 0 ∧ n.toNatClampNeg ≤ 60000000 ∧ (qa_an.any (fun q => q.1 == qa_cl M && q.2.1 == i)) = true then some (pc + 3, r, .inr (3, n.toNatClampNeg, .inr (.inr (fun _ => none))), n.toNatClampNeg) else none
    | _ => none
  | _ => none
/-- where a new cell goes: a Bonfire begins a region of its own -/
def qa_at (nx : qa_P) (c : qa_C) : qa_P := match c with
  | .inl (1, _) => (nx.1 + 1, 0)
  | _ => nx
def qa_nxt (p : qa_P) : qa_P := (p.1, p.2 + 1)
/-- a return -/
def qa_re (ret : Option FieldType) (ins : Instr) (len : Nat) (st : List qa_V) : Option (Option qa_V) := match ins with
  | .ireturn => match st with
    | [.inr (.int x)] => (match ret with
      | some ty => if len = 1 ∧ narrow ty (.int x) = .int x then some (some (.inr (.int x))) else none
      | none => none)
    | _ => none
  | .lreturn => match st with
    | [.inr (.long x)] => if len = 1 ∧ ret = some .long then some (some (.inr (.long x))) else none
    | _ => none
  | .dreturn => match st with
    | [.inr (.double x)] => if len = 1 ∧ ret = some .double then some (some (.inr (.double x))) else none
    | _ => none
  | .return_ => match st with
    | [] => if len = 1 ∧ ret = none then some none else none
    | _ => none
  | _ => none
/-- a throw made here: new, dup, invokespecial, athrow -/
def qa_th (M : qa_M) (ins : Instr) (len pc : Nat) (st : List qa_V) : Option Nat := match ins with
  | .new i => match qa_lk qa_xl i with
    | some (_, ik, ic) => if len = 3 ∧ ik = i ∧ qa_cl M = 9 ∧ (qa_hh M).isEmpty = true ∧ 6 ≤ qa_fr M ∧ 90 ≤ qa_lo M ∧ (st.map qa_cat).sum ≤ 8 ∧ qa_lk (qa_is M) (pc + 3) = some (.dup, 1) ∧ qa_lk (qa_is M) (pc + 4) = some (.invokespecial ic, 3) ∧ qa_lk (qa_is M) (pc + 7) = some (.athrow, 1) then some i else none
    | _ => none
  | _ => none
/-- the locals of a method's start -/
def qa_ag : Nat → List qa_V → qa_L
  | _, [] => []
  | i, v :: vs => (i, v) :: qa_ag (if qa_cat v = 2 then i + 2 else i + 1) vs
/-- is the receiver an object of the class -/
def qa_rc (h : qa_P → qa_C) (ci : Nat) (o : Option qa_V) : Bool := match o with
  | some (.inl p) => (match h p with
    | .inl (cj, _) => decide (cj = ci)
    | _ => false)
  | _ => false
/-- a call: the callee, is it by a nest, its arguments in their order, the stack under them -/
def qa_inv (M : qa_M) (h : qa_P → qa_C) (ins : Instr) (len : Nat) (st : List qa_V) : Option (qa_M × Bool × List qa_V × List qa_V) :=
  let go := fun (i sk : Nat) => match qa_lk (qa_ca (qa_cl M)) i with
    | some (M', nest, _) =>
      if len = 3 ∧ qa_sk M' = sk ∧ qa_na M' ≤ st.length ∧ ((st.drop (qa_na M')).map qa_cat).sum ≤ 8 ∧ ((st.take (qa_na M')).map qa_cat).sum ≤ qa_ml M' ∧ qa_fr M' + 1 ≤ qa_fr M ∧ 19 + qa_ml M' + qa_lo M' ≤ qa_lo M ∧ ((qa_hh M').isEmpty = true ∨ (sk = 1 ∧ nest = false))
        ∧ (sk = 1 ∨ qa_rc h (qa_cl M') (st.take (qa_na M')).getLast? = true)
      then some (M', nest, (st.take (qa_na M')).reverse, st.drop (qa_na M')) else none
    | none => none
  match ins with
  | .invokevirtual i => go i 2
  | .invokespecial i => go i 0
  | .invokestatic i => go i 1
  | _ => none
/-- the handler that takes an exception -/
def qa_hd : List (Nat × Nat × Nat × Nat) → Nat → Nat → Option Nat
  | [], _, _ => none
  | (a, b, t, ct) :: l, pc, E => if a ≤ pc ∧ pc < b then (match qa_lk qa_ht ct with
    | some E' => if E' = E then some t else qa_hd l pc E
    | none => none) else qa_hd l pc E
abbrev qa_Z : Type := (Option qa_V ⊕ Nat) × qa_H × Nat × Nat
def qa_pl (k sl : Nat) (z : qa_Z) : qa_Z := (z.1, z.2.1, k + z.2.2.1, sl + z.2.2.2)
/-- the run of a method from a place on, with so many steps at most: how it ends, the heap, the cells and elements that it made -/
def qa_ex : Nat → qa_M → Nat → qa_L → List qa_V → qa_H → Option qa_Z
  | 0, _, _, _, _, _ => none
  | n + 1, M, pc, lv, st, h => match qa_lk (qa_is M) pc with
    | none => none
    | some (ins, len) => match qa_do M h.2 ins len pc lv st with
      | some F => qa_ex n M F.1 F.2.1 F.2.2 h
      | none => match qa_re (qa_rt M) ins len st with
        | some v => some (.inl v, h, 0, 0)
        | none => match qa_wr M ins len pc st h.2 with
          | some w => qa_ex n M w.1 lv w.2.1 (h.1, qa_up h.2 w.2.2.1 w.2.2.2)
          | none => match qa_mkc M ins len pc st with
            | some w => (qa_ex n M w.1 lv (.inl (qa_at h.1 w.2.2.1) :: w.2.1) (qa_nxt (qa_at h.1 w.2.2.1), qa_up h.2 (qa_at h.1 w.2.2.1) w.2.2.1)).map (qa_pl 1 w.2.2.2)
            | none => match qa_th M ins len pc st with
              | some E => some (.inr E, h, 1, 6)
              | none => match qa_inv M h.2 ins len st with
                | none => none
                | some w => match qa_ex n w.1 0 (qa_ag 0 w.2.2.1) [] h with
                  | none => none
                  | some (.inl v, h1, k, sl) => (qa_ex n M (pc + 3) lv (v.toList ++ w.2.2.2) h1).map (qa_pl k sl)
                  | some (.inr E, h1, k, sl) => if w.2.1 = true ∨ qa_sk w.1 = 0 then none else if (qa_hh M).isEmpty = true then some (.inr E, h1, k, sl) else match qa_hd (qa_hh M) pc E with
                    | none => none
                    | some t => (qa_ex n M t lv [.inl h1.1] (qa_nxt h1.1, qa_up h1.2 h1.1 (.inl (99, fun _ => .inr .null)))).map (qa_pl k sl)
end
section
/-! the small machine's heap against the machine's -/
theorem qa_S_inv {len n pc : Nat} {lv : qa_L} {o : Option (List qa_V)} {F : qa_F} (h : qa_S len n pc lv o = some F) : len = n ∧ ∃ st, o = some st ∧ F = (pc + n, lv, st) := by
  unfold qa_S at h
  split at h
  · next e =>
    cases o with
    | none => cases h
    | some st => exact ⟨e, st, rfl, (Option.some.inj h).symm⟩
  · cases h
theorem qa_ii_inv {f : Int32 → Int32 → Option Value} {st st' : List qa_V} (h : qa_ii f st = some st') : ∃ x y r v, st = .inr (.int y) :: .inr (.int x) :: r ∧ f x y = some v ∧ st' = .inr v :: r := by
  unfold qa_ii at h
  split at h
  · next y x r =>
    cases hf : f x y with
    | none => rw [hf] at h; cases h
    | some v => rw [hf] at h; exact ⟨x, y, r, v, rfl, hf, (Option.some.inj h).symm⟩
  · cases h
theorem qa_jj_inv {f : Int64 → Int64 → Option Value} {st st' : List qa_V} (h : qa_jj f st = some st') : ∃ x y r v, st = .inr (.long y) :: .inr (.long x) :: r ∧ f x y = some v ∧ st' = .inr v :: r := by
  unfold qa_jj at h
  split at h
  · next y x r =>
    cases hf : f x y with
    | none => rw [hf] at h; cases h
    | some v => rw [hf] at h; exact ⟨x, y, r, v, rfl, hf, (Option.some.inj h).symm⟩
  · cases h
theorem qa_dd_inv {f : UInt64 → UInt64 → Option Value} {st st' : List qa_V} (h : qa_dd f st = some st') : ∃ x y r v, st = .inr (.double y) :: .inr (.double x) :: r ∧ f x y = some v ∧ st' = .inr v :: r := by
  unfold qa_dd at h
  split at h
  · next y x r =>
    cases hf : f x y with
    | none => rw [hf] at h; cases h
    | some v => rw [hf] at h; exact ⟨x, y, r, v, rfl, hf, (Option.some.inj h).symm⟩
  · cases h
theorem qa_ui_inv {f : Int32 → Value} {st st' : List qa_V} (h : qa_ui f st = some st') : ∃ x r, st = .inr (.int x) :: r ∧ st' = .inr (f x) :: r := by
  unfold qa_ui at h
  split at h
  · exact ⟨_, _, rfl, (Option.some.inj h).symm⟩
  · cases h
theorem qa_uj_inv {f : Int64 → Value} {st st' : List qa_V} (h : qa_uj f st = some st') : ∃ x r, st = .inr (.long x) :: r ∧ st' = .inr (f x) :: r := by
  unfold qa_uj at h
  split at h
  · exact ⟨_, _, rfl, (Option.some.inj h).symm⟩
  · cases h
theorem qa_ud_inv {f : UInt64 → Value} {st st' : List qa_V} (h : qa_ud f st = some st') : ∃ x r, st = .inr (.double x) :: r ∧ st' = .inr (f x) :: r := by
  unfold qa_ud at h
  split at h
  · exact ⟨_, _, rfl, (Option.some.inj h).symm⟩
  · cases h
theorem qa_ji_inv {f : Int64 → Int32 → Value} {st st' : List qa_V} (h : qa_ji f st = some st') : ∃ x y r, st = .inr (.int y) :: .inr (.long x) :: r ∧ st' = .inr (f x y) :: r := by
  unfold qa_ji at h
  split at h
  · exact ⟨_, _, _, rfl, (Option.some.inj h).symm⟩
  · cases h
theorem qa_li_inv {lv : qa_L} {i : Nat} {st st' : List qa_V} (h : qa_li lv i st = some st') : ∃ x, qa_lk lv i = some (.inr (.int x)) ∧ st' = .inr (.int x) :: st := by
  unfold qa_li at h
  split at h
  · next x e => exact ⟨_, e, (Option.some.inj h).symm⟩
  · cases h
theorem qa_ll_inv {lv : qa_L} {i : Nat} {st st' : List qa_V} (h : qa_ll lv i st = some st') : ∃ x, qa_lk lv i = some (.inr (.long x)) ∧ st' = .inr (.long x) :: st := by
  unfold qa_ll at h
  split at h
  · next x e => exact ⟨_, e, (Option.some.inj h).symm⟩
  · cases h
theorem qa_ld_inv {lv : qa_L} {i : Nat} {st st' : List qa_V} (h : qa_ld lv i st = some st') : ∃ x, qa_lk lv i = some (.inr (.double x)) ∧ st' = .inr (.double x) :: st := by
  unfold qa_ld at h
  split at h
  · next x e => exact ⟨_, e, (Option.some.inj h).symm⟩
  · cases h
theorem qa_la_inv {lv : qa_L} {i : Nat} {st st' : List qa_V} (h : qa_la lv i st = some st') : ∃ x, qa_lk lv i = some (.inl x) ∧ st' = .inl x :: st := by
  unfold qa_la at h
  split at h
  · next x e => exact ⟨_, e, (Option.some.inj h).symm⟩
  · cases h
theorem qa_si_inv {nL len n pc i : Nat} {lv : qa_L} {st : List qa_V} {F : qa_F} (h : qa_si nL len n pc i lv st = some F) : ∃ x r, st = .inr (.int x) :: r ∧ len = n ∧ i < nL ∧ F = (pc + n, qa_s1 i (.inr (.int x)) lv, r) := by
  unfold qa_si at h
  split at h
  · split at h
    · next e => exact ⟨_, _, rfl, e.1, e.2, (Option.some.inj h).symm⟩
    · cases h
  · cases h
theorem qa_sa_inv {nL len n pc i : Nat} {lv : qa_L} {st : List qa_V} {F : qa_F} (h : qa_sa nL len n pc i lv st = some F) : ∃ x r, st = .inl x :: r ∧ len = n ∧ i < nL ∧ F = (pc + n, qa_s1 i (.inl x) lv, r) := by
  unfold qa_sa at h
  split at h
  · split at h
    · next e => exact ⟨_, _, rfl, e.1, e.2, (Option.some.inj h).symm⟩
    · cases h
  · cases h
theorem qa_sl_inv {nL len n pc i : Nat} {lv : qa_L} {st : List qa_V} {F : qa_F} (h : qa_sl nL len n pc i lv st = some F) : ∃ x r, st = .inr (.long x) :: r ∧ len = n ∧ i + 1 < nL ∧ F = (pc + n, qa_s2 i (.inr (.long x)) lv, r) := by
  unfold qa_sl at h
  split at h
  · split at h
    · next e => exact ⟨_, _, rfl, e.1, e.2, (Option.some.inj h).symm⟩
    · cases h
  · cases h
theorem qa_sd_inv {nL len n pc i : Nat} {lv : qa_L} {st : List qa_V} {F : qa_F} (h : qa_sd nL len n pc i lv st = some F) : ∃ x r, st = .inr (.double x) :: r ∧ len = n ∧ i + 1 < nL ∧ F = (pc + n, qa_s2 i (.inr (.double x)) lv, r) := by
  unfold qa_sd at h
  split at h
  · split at h
    · next e => exact ⟨_, _, rfl, e.1, e.2, (Option.some.inj h).symm⟩
    · cases h
  · cases h
theorem qa_to_eq {pc : Nat} {off : Int} (h : 0 ≤ (pc : Int) + off) : (pc : Int) + off = (qa_to pc off : Int) := (Int.toNat_of_nonneg h).symm
theorem qa_b1_inv {len pc : Nat} {off : Int} {lv : qa_L} {st : List qa_V} {t : Int32 → Bool} {F : qa_F} (h : qa_b1 len pc off lv st t = some F) : ∃ x r, st = .inr (.int x) :: r ∧ len = 3 ∧ 0 ≤ (pc : Int) + off ∧ F = (if t x = true then qa_to pc off else pc + 3, lv, r) := by
  unfold qa_b1 at h
  split at h
  · split at h
    · next e => exact ⟨_, _, rfl, e.1, e.2, (Option.some.inj h).symm⟩
    · cases h
  · cases h
theorem qa_b2_inv {len pc : Nat} {off : Int} {lv : qa_L} {st : List qa_V} {t : Int32 → Int32 → Bool} {F : qa_F} (h : qa_b2 len pc off lv st t = some F) : ∃ x y r, st = .inr (.int y) :: .inr (.int x) :: r ∧ len = 3 ∧ 0 ≤ (pc : Int) + off ∧ F = (if t x y = true then qa_to pc off else pc + 3, lv, r) := by
  unfold qa_b2 at h
  split at h
  · split at h
    · next e => exact ⟨_, _, _, rfl, e.1, e.2, (Option.some.inj h).symm⟩
    · cases h
  · cases h
theorem qa_gf_inv {k idx : Nat} {h : qa_P → qa_C} {st st' : List qa_V} (e : qa_gf k idx h st = some st') : ∃ p r ci sl pl f, st = .inl p :: r ∧ qa_lk (qa_fl k) idx = some (ci, sl, pl) ∧ h p = .inl (ci, f) ∧ st' = f sl :: r := by
  unfold qa_gf at e
  split at e
  · split at e
    · next h1 h2 =>
      split at e
      · next h3 => subst h3; exact ⟨_, _, _, _, _, _, rfl, h1, h2, (Option.some.inj e).symm⟩
      · cases e
    · cases e
  · cases e
theorem qa_an_inv {h : qa_P → qa_C} {st st' : List qa_V} (e : qa_an_ h st = some st') : ∃ p r τ n f, st = .inl p :: r ∧ h p = .inr (τ, n, f) ∧ (τ < 4 ∨ τ = 9) ∧ st' = .inr (.int (Int32.ofNat n)) :: r := by
  unfold qa_an_ at e
  split at e
  · split at e
    · next h1 =>
      split at e
      · next h3 => exact ⟨_, _, _, _, _, rfl, h1, h3, (Option.some.inj e).symm⟩
      · cases e
    · cases e
  · cases e
theorem qa_in_ok {i : Int32} {n : Nat} (h : qa_in i n = true) : vp_in i n := by
  unfold qa_in at h
  simpa [vp_in] using h
theorem qa_ia_inv {h : qa_P → qa_C} {st st' : List qa_V} (e : qa_ia h st = some st') : ∃ p r τ n f i, st = .inr (.int i) :: .inl p :: r ∧ h p = .inr (τ, n, .inl f) ∧ (τ = 0 ∨ τ = 9) ∧ vp_in i n ∧ st' = .inr (.int (f i.toNatClampNeg)) :: r := by
  unfold qa_ia at e
  split at e
  · split at e
    · next h1 =>
      split at e
      · next h3 => exact ⟨_, _, _, _, _, _, rfl, h1, h3.1, qa_in_ok h3.2, (Option.some.inj e).symm⟩
      · cases e
    · cases e
  · cases e
theorem qa_ba_inv {h : qa_P → qa_C} {st st' : List qa_V} (e : qa_ba h st = some st') : ∃ p r n f i, st = .inr (.int i) :: .inl p :: r ∧ h p = .inr (1, n, .inl f) ∧ vp_in i n ∧ st' = .inr (.int (f i.toNatClampNeg)) :: r := by
  unfold qa_ba at e
  split at e
  · split at e
    · next h1 =>
      split at e
      · next h3 => obtain ⟨rfl, h4⟩ := h3; exact ⟨_, _, _, _, _, rfl, h1, qa_in_ok h4, (Option.some.inj e).symm⟩
      · cases e
    · cases e
  · cases e
theorem qa_ja_inv {h : qa_P → qa_C} {st st' : List qa_V} (e : qa_ja h st = some st') : ∃ p r n f i, st = .inr (.int i) :: .inl p :: r ∧ h p = .inr (2, n, .inr (.inl f)) ∧ vp_in i n ∧ st' = .inr (.long (f i.toNatClampNeg)) :: r := by
  unfold qa_ja at e
  split at e
  · split at e
    · next h1 =>
      split at e
      · next h3 => obtain ⟨rfl, h4⟩ := h3; exact ⟨_, _, _, _, _, rfl, h1, qa_in_ok h4, (Option.some.inj e).symm⟩
      · cases e
    · cases e
  · cases e
theorem qa_aa_inv {h : qa_P → qa_C} {st st' : List qa_V} (e : qa_aa h st = some st') : ∃ p r n f i, st = .inr (.int i) :: .inl p :: r ∧ h p = .inr (3, n, .inr (.inr f)) ∧ vp_in i n ∧ st' = qa_rv (f i.toNatClampNeg) :: r := by
  unfold qa_aa at e
  split at e
  · split at e
    · next h1 =>
      split at e
      · next h3 => obtain ⟨rfl, h4⟩ := h3; exact ⟨_, _, _, _, _, rfl, h1, qa_in_ok h4, (Option.some.inj e).symm⟩
      · cases e
    · cases e
  · cases e
theorem qa_cv_cat (φ : qa_P → Nat) (v : qa_V) : (qa_cv φ v).category = qa_cat v := by cases v <;> rfl
theorem qa_cats (φ : qa_P → Nat) (st : List qa_V) : ((st.map (qa_cv φ)).map fun v => v.category).sum = (st.map qa_cat).sum := by
  rw [List.map_map]
  congr 1
  exact List.map_congr_left fun v _ => qa_cv_cat φ v
theorem qa_s1_map (φ : qa_P → Nat) (i : Nat) (v : qa_V) (lv : qa_L) : (i, qa_cv φ v) :: (qa_lm φ lv).filter (fun q => !(q.1 == i) && !(q.1 + 1 == i && q.2.category == 2)) = qa_lm φ (qa_s1 i v lv) := by
  unfold qa_lm qa_s1
  rw [List.map_cons, List.filter_map]
  congr 3
  funext q
  show (!(q.1 == i) && !(q.1 + 1 == i && (qa_cv φ q.2).category == 2)) = _
  rw [qa_cv_cat]
theorem qa_s2_map (φ : qa_P → Nat) (i : Nat) (v : qa_V) (lv : qa_L) : (i, qa_cv φ v) :: (qa_lm φ lv).filter (fun q => !(q.1 == i) && (!(q.1 == i + 1) && !(q.1 + 1 == i && q.2.category == 2))) = qa_lm φ (qa_s2 i v lv) := by
  unfold qa_lm qa_s2
  rw [List.map_cons, List.filter_map]
  congr 3
  funext q
  show (!(q.1 == i) && (!(q.1 == i + 1) && !(q.1 + 1 == i && (qa_cv φ q.2).category == 2))) = _
  rw [qa_cv_cat]
theorem qa_has {φ : qa_P → Nat} {lv : qa_L} {i nL : Nat} {v : qa_V} {ls : Array Slot} (h : lv_has ls nL (qa_lm φ lv)) (e : qa_lk lv i = some v) : ls[i]? = some (.val (qa_cv φ v)) :=
  h.2.2 (i, qa_cv φ v) (List.mem_map.mpr ⟨(i, v), qa_lk_mem e, rfl⟩)
/-- positions that are ahead of the next free one -/
def qa_lt (p q : qa_P) : Prop := p.1 < q.1 ∨ (p.1 = q.1 ∧ p.2 < q.2)
def qa_ov (nx : qa_P) (v : qa_V) : Prop := match v with
  | .inl p => qa_lt p nx
  | .inr _ => True
def qa_oS (nx : qa_P) (st : List qa_V) : Prop := ∀ v ∈ st, qa_ov nx v
def qa_oL (nx : qa_P) (lv : qa_L) : Prop := ∀ q ∈ lv, qa_ov nx q.2
def qa_oC (nx : qa_P) (c : qa_C) : Prop := match c with
  | .inl (_, f) => ∀ k, qa_ov nx (f k)
  | .inr (_, _, .inr (.inr f)) => ∀ i p, f i = some p → qa_lt p nx
  | .inr (_, _, .inl _) => True
  | .inr (_, _, .inr (.inl _)) => True
theorem qa_oS_cons {nx : qa_P} {v : qa_V} {st : List qa_V} (h1 : qa_ov nx v) (h2 : qa_oS nx st) : qa_oS nx (v :: st) := List.forall_mem_cons.mpr ⟨h1, h2⟩
theorem qa_oS_tl {nx : qa_P} {v : qa_V} {st : List qa_V} (h : qa_oS nx (v :: st)) : qa_oS nx st := (List.forall_mem_cons.mp h).2
theorem qa_oS_hd {nx : qa_P} {v : qa_V} {st : List qa_V} (h : qa_oS nx (v :: st)) : qa_ov nx v := (List.forall_mem_cons.mp h).1
theorem qa_oL_s1 {nx : qa_P} {i : Nat} {v : qa_V} {lv : qa_L} (h1 : qa_ov nx v) (h2 : qa_oL nx lv) : qa_oL nx (qa_s1 i v lv) := List.forall_mem_cons.mpr ⟨h1, fun q hq => h2 q (List.mem_filter.mp hq).1⟩
theorem qa_oL_s2 {nx : qa_P} {i : Nat} {v : qa_V} {lv : qa_L} (h1 : qa_ov nx v) (h2 : qa_oL nx lv) : qa_oL nx (qa_s2 i v lv) := List.forall_mem_cons.mpr ⟨h1, fun q hq => h2 q (List.mem_filter.mp hq).1⟩
theorem qa_oL_lk {nx : qa_P} {i : Nat} {v : qa_V} {lv : qa_L} (h : qa_oL nx lv) (e : qa_lk lv i = some v) : qa_ov nx v := h (i, v) (qa_lk_mem e)
def qa_live (c : qa_C) : Bool := match c with
  | .inl (ci, _) => decide (ci < 11)
  | .inr (τ, _, _) => decide (τ < 4)
def qa_ty (τ : Nat) : FieldType := match τ with
  | 0 => .int
  | 1 => .boolean
  | 2 => .long
  | _ => .object RX1
def qa_tys (ca : Nat → ClassId) : List (ClassId × FieldType) := [(ca 0, .int), (ca 1, .boolean), (ca 2, .long), (ca 3, .object RX1)]
def qa_r (φ : qa_P → Nat) (r : qa_R) : (Nat → Int32) ⊕ (Nat → Int64) ⊕ (Nat → UInt32) ⊕ (Nat → UInt64) ⊕ (Nat → Option Nat) := match r with
  | .inl f => .inl f
  | .inr (.inl f) => .inr (.inl f)
  | .inr (.inr f) => .inr (.inr (.inr (.inr (fun i => (f i).map φ))))
def qa_fs (φ : qa_P → Nat) (ci : Nat) (f : Nat → qa_V) : List Value := (List.range (qa_fz ci)).map (fun k => qa_cv φ (f k))
def qa_e (φ : qa_P → Nat) (ca : Nat → ClassId) (c : qa_C) : va_E := match c with
  | .inl (ci, f) => .inr (ci, qa_fs φ ci f)
  | .inr (τ, n, r) => .inl (ca τ, n, qa_r φ r)
def qa_w (φ : qa_P → Nat) (ca : Nat → ClassId) (al : List qa_P) (h : qa_P → qa_C) : va_W := al.map (fun p => (φ p, qa_e φ ca (h p)))
def qa_A (z : Nat) : Nat → Prop := fun q => z ≤ q
/-- the machine's heap holds the small machine's cells -/
def qa_Hp (D : va_G) (ca : Nat → ClassId) (b L z : Nat) (xs : Nat → Int32) (φ : qa_P → Nat) (al : List qa_P) (h : qa_H) (H : Heap) : Prop :=
  va_P D vwCl (qa_w φ ca al h.2) H ∧ va_D (qa_A z) (qa_w φ ca al h.2) ∧ (∀ p, qa_live (h.2 p) = true → p ∈ al) ∧ (∀ p ∈ al, qa_lt p h.1) ∧
  (∀ p n r, h.2 p = .inr (9, n, r) → n = L ∧ r = .inl xs ∧ φ p = b) ∧ (∀ p ∈ al, qa_oC h.1 (h.2 p))
def qa_gw : List Cond := lw_tbl.filter goodWord
/-- the other words that are asked for: links to nest mates, casts, declarations -/
def qa_nwo (w : Cond) : Bool := match w with
  | .methodLinkNest .. => true
  | .castable .. => true
  | .declares _ => true
  | _ => false
def qa_nwl : List Cond := lw_tbl.filter qa_nwo
def qa_ncl : List (String × String) := (List.range 3).flatMap (fun i => (List.range 3).filterMap (fun j => if i = j then none else some (qa_xn (342 + 3 * i), qa_xn (342 + 3 * j))))
/-- what the tables and the cells that nobody writes say, at a method's start -/
def qa_En (D : va_G) (ca : Nat → ClassId) (b L z : Nat) (xs : Nat → Int32) (U : State) : Prop :=
  va_K D vwCl (qa_tys ca) U ∧ (∀ w ∈ qa_nwl, va_Nw w U) ∧ va_AO RX1 U ∧ (∀ q ∈ qa_ncl, va_Nc q.1 q.2 U) ∧ va_X b L xs U U.heap ∧
  vx_Zq Bundle.tN "UNASSIGNED_STACK" Bundle.steD (qa_A z) U U.heap ∧ vx_Zq Bundle.tN "SUPPRESSED_SENTINEL" Bundle.listD (qa_A z) U U.heap ∧ b < z ∧ z ≤ U.heap.size
theorem qa_gw_in {w : Cond} (h : qa_in_tbl w = true) : w ∈ qa_gw := by
  unfold qa_in_tbl at h
  simp only [Bool.and_eq_true] at h
  exact List.mem_filter.mpr ⟨of_decide_eq_true h.1, h.2⟩
theorem qa_gw_at {w : Cond} {i : Nat} (h : qa_wk w i = true) : w ∈ qa_gw := by
  unfold qa_wk at h
  simp only [Bool.and_eq_true] at h
  exact List.mem_filter.mpr ⟨List.mem_of_getElem? (of_decide_eq_true h.1), h.2⟩
theorem qa_cw_all {k : Nat} {q : vw_C} (h : vwCl[k]? = some q) : (Cond.initialized q.1 :: Cond.instantiable q.1 q.2.2 :: u_ws q.1 q.2.1 q.2.2).all qa_in_tbl = true := by
  match k, h with
  | 0, h => cases h; exact qa_cw_0
  | 1, h => cases h; exact qa_cw_1
  | 2, h => cases h; exact qa_cw_2
  | 3, h => cases h; exact qa_cw_3
  | 4, h => cases h; exact qa_cw_4
  | 5, h => cases h; exact qa_cw_5
  | 6, h => cases h; exact qa_cw_6
  | 7, h => cases h; exact qa_cw_7
  | 8, h => cases h; exact qa_cw_8
  | 9, h => cases h; exact qa_cw_9
  | 10, h => cases h; exact qa_cw_10
  | k + 11, h => cases h
theorem qa_cws {k : Nat} {q : vw_C} (h : vwCl[k]? = some q) : Cond.initialized q.1 ∈ qa_gw ∧ Cond.instantiable q.1 q.2.2 ∈ qa_gw ∧ ∀ w ∈ u_ws q.1 q.2.1 q.2.2, w ∈ qa_gw := by
  have h1 := List.all_eq_true.mp (qa_cw_all h)
  exact ⟨qa_gw_in (h1 _ List.mem_cons_self), qa_gw_in (h1 _ (List.mem_cons_of_mem _ List.mem_cons_self)), fun w hw => qa_gw_in (h1 w (List.mem_cons_of_mem _ (List.mem_cons_of_mem _ hw)))⟩
theorem qa_ft_ok {k : Nat} {q : vw_C} (h : vwCl[k]? = some q) : (∀ j, j < q.2.2 → parseFieldDescriptor (q.2.1 j).2.2.1 = some (qa_ft k j)) ∧ (∀ a, a < q.2.2 → ∀ b, b < q.2.2 → a ≠ b → (q.2.1 a).2.1 ≠ (q.2.1 b).2.1) ∧ k < 11 ∧ q.1 = qa_cn k := by
  match k, h with
  | 0, h => cases h; exact ⟨tyX0_ok, nmX0, by decide, rfl⟩
  | 1, h => cases h; exact ⟨tyX1_ok, nmX1, by decide, rfl⟩
  | 2, h => cases h; exact ⟨tyX2_ok, nmX2, by decide, rfl⟩
  | 3, h => cases h; exact ⟨tyX3_ok, nmX3, by decide, rfl⟩
  | 4, h => cases h; exact ⟨tyX4_ok, nmX4, by decide, rfl⟩
  | 5, h => cases h; exact ⟨tyX5_ok, nmX5, by decide, rfl⟩
  | 6, h => cases h; exact ⟨tyX6_ok, nmX6, by decide, rfl⟩
  | 7, h => cases h; exact ⟨tyX7_ok, nmX7, by decide, rfl⟩
  | 8, h => cases h; exact ⟨tyX8_ok, nmX8, by decide, rfl⟩
  | 9, h => cases h; exact ⟨tyX9_ok, nmX9, by decide, rfl⟩
  | 10, h => cases h; exact ⟨tyX10_ok, nmX10, by decide, rfl⟩
  | k + 11, h => cases h
theorem qa_w_at {φ : qa_P → Nat} {ca : Nat → ClassId} {al : List qa_P} {h : qa_P → qa_C} {p : qa_P} (hp : p ∈ al) : ∃ q0 : Nat, al[q0]? = some p ∧ (qa_w φ ca al h)[q0]? = some (φ p, qa_e φ ca (h p)) := by
  obtain ⟨q0, hq⟩ := List.getElem?_of_mem hp
  exact ⟨q0, hq, by unfold qa_w; rw [List.getElem?_map, hq]; rfl⟩
theorem qa_fz_eq {k : Nat} {q : vw_C} (h : vwCl[k]? = some q) : qa_fz k = q.2.2 := by unfold qa_fz; rw [h]
theorem qa_fs_at {φ : qa_P → Nat} {k sl : Nat} {q : vw_C} {f : Nat → qa_V} (h : vwCl[k]? = some q) (hs : sl < q.2.2) : (qa_fs φ k f)[sl]? = some (qa_cv φ (f sl)) := by
  unfold qa_fs
  rw [qa_fz_eq h, List.getElem?_map, List.getElem?_range hs]
  rfl
theorem qa_fl_at {k i ci sl pl : Nat} (hk : k < 12) (h : qa_lk (qa_fl k) i = some (ci, sl, pl)) : ∃ q, vwCl[ci]? = some q ∧ sl < q.2.2 ∧ Cond.fieldLink (qa_cn k) i (q.2.1 sl).1 (q.2.1 sl).2.1 (q.2.1 sl).2.2.1 ∈ qa_gw := by
  have h1 := List.all_eq_true.mp (qa_fl_k k hk) _ (qa_lk_mem h)
  unfold qa_fk at h1
  dsimp only at h1
  split at h1
  · next q e =>
    simp only [Bool.and_eq_true] at h1
    exact ⟨q, e, of_decide_eq_true h1.1, qa_gw_at h1.2⟩
  · cases h1
end
section
/-! one step that writes no cell -/
section QDO
variable {p : Program} {l : Launch} {e : Env} {R : Room} {s : State} {m : MethodId} {args : Array Value} {below : List Frame} {meth : Method} {c : Code} {H : Heap} {locs : List Loc} {cells slots : Nat} {Q : State → Prop}
variable {M : qa_M} {D : va_G} {ca : Nat → ClassId} {b L z : Nat} {xs : Nat → Int32} {φ : qa_P → Nat} {al : List qa_P} {h : qa_H} {pc len : Nat} {ls : Array Slot} {lv : qa_L} {st : List qa_V} {F : qa_F}
/-- what stands of a frame: the code, the class, the words, the room for calls -/
def qa_Fr (M : qa_M) (p : Program) (R : Room) (s : State) (m : MethodId) (args : Array Value) (c : Code) : Prop :=
  p.tables.exec = Jvm.exec ∧ c.code = qa_by M ∧ c.maxLocals = qa_ml M ∧ s.vm.findClass (qa_cn (qa_cl M)) = some m.cls ∧ (∀ w ∈ qa_gw, w.before args s = true) ∧ qa_cl M < 12 ∧ qa_fr M ≤ R.frames ∧ qa_lo M ≤ R.locals
theorem qa_tys_0 (ca : Nat → ClassId) : (qa_tys ca)[0]? = some (ca 0, .int) := rfl
theorem qa_tys_1 (ca : Nat → ClassId) : (qa_tys ca)[1]? = some (ca 1, .boolean) := rfl
theorem qa_tys_2 (ca : Nat → ClassId) : (qa_tys ca)[2]? = some (ca 2, .long) := rfl
theorem qa_tys_3 (ca : Nat → ClassId) : (qa_tys ca)[3]? = some (ca 3, .object RX1) := rfl
theorem qa_tys_at (ca : Nat → ClassId) {τ : Nat} (h : τ < 4) : (qa_tys ca)[τ]? = some (ca τ, qa_ty τ) := by
  match τ, h with
  | 0, _ => rfl
  | 1, _ => rfl
  | 2, _ => rfl
  | 3, _ => rfl
theorem qa_rv_cv (φ : qa_P → Nat) (o : Option qa_P) : va_rf (o.map φ) = qa_cv φ (qa_rv o) := by cases o <;> rfl
theorem qa_lc_inv {k idx : Nat} {st st' : List qa_V} (e : qa_lc k idx st = some st') : ∃ v pl, qa_lk (qa_kl k) idx = some (v, pl) ∧ st' = .inr v :: st := by
  unfold qa_lc at e
  split at e
  · next h1 => exact ⟨_, _, h1, (Option.some.inj e).symm⟩
  · cases e
theorem qa_bn_inv {len pc : Nat} {off : Int} {lv : qa_L} {st : List qa_V} {F : qa_F} (e : qa_bn len pc off lv st = some F) : (∃ x r, st = .inl x :: r ∧ len = 3 ∧ F = (pc + 3, lv, r)) ∨ (∃ r, st = .inr .null :: r ∧ len = 3 ∧ 0 ≤ (pc : Int) + off ∧ F = (qa_to pc off, lv, r)) := by
  unfold qa_bn at e
  split at e
  · split at e
    · next h1 => exact Or.inl ⟨_, _, rfl, h1, (Option.some.inj e).symm⟩
    · cases e
  · split at e
    · next h1 => exact Or.inr ⟨_, rfl, h1.1, h1.2, (Option.some.inj e).symm⟩
    · cases e
  · cases e
theorem qa_dp_inv {st st' : List qa_V} (e : qa_dp st = some st') : ∃ x r, st = x :: r ∧ qa_cat x = 1 ∧ st' = x :: x :: r := by
  unfold qa_dp at e
  split at e
  · split at e
    · next h1 => exact ⟨_, _, rfl, h1, (Option.some.inj e).symm⟩
    · cases e
  · cases e
theorem qa_pp_inv {st st' : List qa_V} (e : qa_pp st = some st') : ∃ x, st = x :: st' ∧ qa_cat x = 1 := by
  unfold qa_pp at e
  split at e
  · split at e
    · next h1 => cases e; exact ⟨_, rfl, h1⟩
    · cases e
  · cases e
theorem qa_d2_inv {st st' : List qa_V} (e : qa_d2 st = some st') : ∃ x y r, st = x :: y :: r ∧ qa_cat x = 1 ∧ qa_cat y = 1 ∧ st' = x :: y :: x :: y :: r := by
  unfold qa_d2 at e
  split at e
  · split at e
    · next h1 => exact ⟨_, _, _, rfl, h1.1, h1.2, (Option.some.inj e).symm⟩
    · cases e
  · cases e
theorem qa_ob_inv {M : qa_M} {idx : Nat} {st st' : List qa_V} (e : qa_ob M idx st = some st') : ∃ x, st = .inl x :: st' ∧ (Cond.methodLink (qa_cn (qa_cl M)) idx Lib.objectInit ∈ qa_gw) ∧ (st'.map qa_cat).sum ≤ 8 ∧ 1 ≤ qa_fr M ∧ 20 ≤ qa_lo M := by
  unfold qa_ob at e
  split at e
  · split at e
    · next h1 =>
      cases e
      obtain ⟨h1, h2, h3, h4⟩ := h1
      obtain ⟨q, hq, h5⟩ := List.any_eq_true.mp h1
      simp only [Bool.and_eq_true, beq_iff_eq] at h5
      have h6 := List.all_eq_true.mp qa_oi_k q hq
      rw [h5.1, h5.2] at h6
      exact ⟨_, rfl, qa_gw_at h6, h2, h3, h4⟩
    · cases e
  · cases e
theorem qa_ls_inv {pc : Nat} {dflt : Int} {ps : Array (Int × Int)} {lv : qa_L} {st : List qa_V} {F : qa_F} (e : qa_ls pc dflt ps lv st = some F) : ∃ x r, st = .inr (.int x) :: r ∧ (ps.toList.zip (ps.toList.drop 1)).all (fun (a, next) => a.1 < next.1) = true ∧ 0 ≤ (pc : Int) + Op.lookupswitch.offset ps.toList dflt x.toInt ∧ F = (qa_to pc (Op.lookupswitch.offset ps.toList dflt x.toInt), lv, r) := by
  unfold qa_ls at e
  split at e
  · split at e
    · next h1 => exact ⟨_, _, rfl, h1.1, h1.2, (Option.some.inj e).symm⟩
    · cases e
  · cases e
theorem qa_ts_inv {pc : Nat} {dflt lo hi : Int} {offs : Array Int} {lv : qa_L} {st : List qa_V} {F : qa_F} (e : qa_ts pc dflt lo hi offs lv st = some F) : ∃ x r, st = .inr (.int x) :: r ∧ (((x.toInt < lo ∨ hi < x.toInt) ∧ 0 ≤ (pc : Int) + dflt ∧ F = (qa_to pc dflt, lv, r)) ∨ ∃ off, ¬ (x.toInt < lo ∨ hi < x.toInt) ∧ offs[(x.toInt - lo).toNat]? = some off ∧ 0 ≤ (pc : Int) + off ∧ F = (qa_to pc off, lv, r)) := by
  unfold qa_ts at e
  split at e
  · split at e
    · next h1 =>
      split at e
      · next h2 => exact ⟨_, _, rfl, Or.inl ⟨h1, h2, (Option.some.inj e).symm⟩⟩
      · cases e
    · next h1 =>
      split at e
      · next off h2 =>
        split at e
        · next h3 => exact ⟨_, _, rfl, Or.inr ⟨off, h1, h2, h3, (Option.some.inj e).symm⟩⟩
        · cases e
      · cases e
  · cases e
theorem qa_kl_at {k i pl : Nat} {v : Value} (hk : k < 12) (h : qa_lk (qa_kl k) i = some (v, pl)) : (∃ x, v = .long x ∧ Cond.constantLong (qa_cn k) i x ∈ qa_gw) ∨ (∃ x, v = .double x ∧ Cond.constantDouble (qa_cn k) i x ∈ qa_gw) := by
  have h1 := List.all_eq_true.mp (qa_kl_k k hk) _ (qa_lk_mem h)
  unfold qa_kk at h1
  dsimp only at h1
  split at h1
  · exact Or.inl ⟨_, rfl, qa_gw_at h1⟩
  · exact Or.inr ⟨_, rfl, qa_gw_at h1⟩
  · cases h1
set_option maxHeartbeats 1000000 in
theorem qa_doW (hF : qa_Fr M p R s m args c) (hE : qa_En D ca b L z xs s) (hI : qa_Hp D ca b L z xs φ al h H) (hS : va_S (qa_A z) s.heap H locs) (hl : lv_has ls (qa_ml M) (qa_lm φ lv)) (hoL : qa_oL h.1 lv) (hoS : qa_oS h.1 st)
    {ins : Instr} (hd : decode (qa_by M) pc = .ok (ins, len)) (hdo : qa_do M h.2 ins len pc lv st = some F)
    (kk : ∀ (ls' : Array Slot) (pc' : Nat), pc' = F.1 → lv_has ls' (qa_ml M) (qa_lm φ F.2.1) → qa_oL h.1 F.2.1 → qa_oS h.1 F.2.2 → W p l e R s m args below meth c H locs cells slots Q (F0 m pc' ls' (F.2.2.map (qa_cv φ)))) :
    W p l e R s m args below meth c H locs cells slots Q (F0 m pc ls (st.map (qa_cv φ))) := by
  obtain ⟨hx, hb, hml, hown, hts, hk, hfr, hlo⟩ := hF
  cases ins with
  | iconst n =>
    obtain ⟨rfl, st1, h1, rfl⟩ := qa_S_inv hdo
    cases h1
    exact lv_iconst hx hb hd rfl (kk ls _ rfl hl hoL (qa_oS_cons trivial hoS))
  | bipush n =>
    obtain ⟨rfl, st1, h1, rfl⟩ := qa_S_inv hdo
    cases h1
    exact lv_bipush hx hb hd rfl (kk ls _ rfl hl hoL (qa_oS_cons trivial hoS))
  | sipush n =>
    obtain ⟨rfl, st1, h1, rfl⟩ := qa_S_inv hdo
    cases h1
    exact lv_sipush hx hb hd rfl (kk ls _ rfl hl hoL (qa_oS_cons trivial hoS))
  | lconst n =>
    obtain ⟨rfl, st1, h1, rfl⟩ := qa_S_inv hdo
    cases h1
    exact lv_lconst hx hb hd rfl (kk ls _ rfl hl hoL (qa_oS_cons trivial hoS))
  | dconst d =>
    obtain ⟨rfl, st1, h1, rfl⟩ := qa_S_inv hdo
    cases h1
    match d, hd, kk with
    | ⟨0, _⟩, hd, kk => exact lv_dconst0 hx hb hd (kk ls _ rfl hl hoL (qa_oS_cons trivial hoS))
    | ⟨1, _⟩, hd, kk => exact lv_dconst1 hx hb hd (kk ls _ rfl hl hoL (qa_oS_cons trivial hoS))
  | ldc2_w i =>
    obtain ⟨rfl, st1, h1, rfl⟩ := qa_S_inv hdo
    obtain ⟨v, pl, h2, rfl⟩ := qa_lc_inv h1
    rcases qa_kl_at hk h2 with ⟨x, rfl, hw⟩ | ⟨x, rfl, hw⟩
    · exact lv_ldc2 hx hb hown (hts _ hw) hd (kk ls _ rfl hl hoL (qa_oS_cons trivial hoS))
    · exact lv_ldc2d hx hb hown (hts _ hw) hd (kk ls _ rfl hl hoL (qa_oS_cons trivial hoS))
  | iload_n i =>
    obtain ⟨rfl, st1, h1, rfl⟩ := qa_S_inv hdo
    obtain ⟨x, h2, rfl⟩ := qa_li_inv h1
    exact lv_iload_n hx hb hd rfl (qa_has hl h2) (kk ls _ rfl hl hoL (qa_oS_cons trivial hoS))
  | iload i =>
    obtain ⟨rfl, st1, h1, rfl⟩ := qa_S_inv hdo
    obtain ⟨x, h2, rfl⟩ := qa_li_inv h1
    exact lv_iload hx hb hd (qa_has hl h2) (kk ls _ rfl hl hoL (qa_oS_cons trivial hoS))
  | lload_n i =>
    obtain ⟨rfl, st1, h1, rfl⟩ := qa_S_inv hdo
    obtain ⟨x, h2, rfl⟩ := qa_ll_inv h1
    exact lv_lload_n hx hb hd rfl (qa_has hl h2) (kk ls _ rfl hl hoL (qa_oS_cons trivial hoS))
  | lload i =>
    obtain ⟨rfl, st1, h1, rfl⟩ := qa_S_inv hdo
    obtain ⟨x, h2, rfl⟩ := qa_ll_inv h1
    exact lv_lload hx hb hd (qa_has hl h2) (kk ls _ rfl hl hoL (qa_oS_cons trivial hoS))
  | dload_n i =>
    obtain ⟨rfl, st1, h1, rfl⟩ := qa_S_inv hdo
    obtain ⟨x, h2, rfl⟩ := qa_ld_inv h1
    exact lv_dload_n hx hb hd rfl (qa_has hl h2) (kk ls _ rfl hl hoL (qa_oS_cons trivial hoS))
  | dload i =>
    obtain ⟨rfl, st1, h1, rfl⟩ := qa_S_inv hdo
    obtain ⟨x, h2, rfl⟩ := qa_ld_inv h1
    exact lv_dload hx hb hd (qa_has hl h2) (kk ls _ rfl hl hoL (qa_oS_cons trivial hoS))
  | aload_n i =>
    obtain ⟨rfl, st1, h1, rfl⟩ := qa_S_inv hdo
    obtain ⟨x, h2, rfl⟩ := qa_la_inv h1
    exact lv_aload_n hx hb hd rfl (qa_has hl h2) (kk ls _ rfl hl hoL (qa_oS_cons (show qa_ov h.1 (.inl x) from qa_oL_lk hoL h2) hoS))
  | aload i =>
    obtain ⟨rfl, st1, h1, rfl⟩ := qa_S_inv hdo
    obtain ⟨x, h2, rfl⟩ := qa_la_inv h1
    exact lv_aload hx hb hd (qa_has hl h2) (kk ls _ rfl hl hoL (qa_oS_cons (show qa_ov h.1 (.inl x) from qa_oL_lk hoL h2) hoS))
  | istore_n i =>
    obtain ⟨x, r, rfl, rfl, hi, rfl⟩ := qa_si_inv hdo
    exact lv_istore_n hx hb hd rfl hl hi (qa_s1_map φ _ (.inr (.int x)) lv) (fun ls1 hl1 => kk ls1 _ rfl hl1 (qa_oL_s1 trivial hoL) (qa_oS_tl hoS))
  | istore i =>
    obtain ⟨x, r, rfl, rfl, hi, rfl⟩ := qa_si_inv hdo
    exact lv_istore hx hb hd hl hi (qa_s1_map φ _ (.inr (.int x)) lv) (fun ls1 hl1 => kk ls1 _ rfl hl1 (qa_oL_s1 trivial hoL) (qa_oS_tl hoS))
  | lstore_n i =>
    obtain ⟨x, r, rfl, rfl, hi, rfl⟩ := qa_sl_inv hdo
    exact lv_lstore_n hx hb hd rfl hl hi (qa_s2_map φ _ (.inr (.long x)) lv) (fun ls1 hl1 => kk ls1 _ rfl hl1 (qa_oL_s2 trivial hoL) (qa_oS_tl hoS))
  | lstore i =>
    obtain ⟨x, r, rfl, rfl, hi, rfl⟩ := qa_sl_inv hdo
    exact lv_lstore hx hb hd hl hi (qa_s2_map φ _ (.inr (.long x)) lv) (fun ls1 hl1 => kk ls1 _ rfl hl1 (qa_oL_s2 trivial hoL) (qa_oS_tl hoS))
  | dstore_n i =>
    obtain ⟨x, r, rfl, rfl, hi, rfl⟩ := qa_sd_inv hdo
    exact lv_dstore_n hx hb hd rfl hl hi (qa_s2_map φ _ (.inr (.double x)) lv) (fun ls1 hl1 => kk ls1 _ rfl hl1 (qa_oL_s2 trivial hoL) (qa_oS_tl hoS))
  | dstore i =>
    obtain ⟨x, r, rfl, rfl, hi, rfl⟩ := qa_sd_inv hdo
    exact lv_dstore hx hb hd hl hi (qa_s2_map φ _ (.inr (.double x)) lv) (fun ls1 hl1 => kk ls1 _ rfl hl1 (qa_oL_s2 trivial hoL) (qa_oS_tl hoS))
  | astore_n i =>
    obtain ⟨x, r, rfl, rfl, hi, rfl⟩ := qa_sa_inv hdo
    exact lv_astore_n hx hb hd rfl hl hi (qa_s1_map φ _ (.inl x) lv) (fun ls1 hl1 => kk ls1 _ rfl hl1 (qa_oL_s1 (qa_oS_hd hoS) hoL) (qa_oS_tl hoS))
  | astore i =>
    obtain ⟨x, r, rfl, rfl, hi, rfl⟩ := qa_sa_inv hdo
    exact lv_astore hx hb hd hl hi (qa_s1_map φ _ (.inl x) lv) (fun ls1 hl1 => kk ls1 _ rfl hl1 (qa_oL_s1 (qa_oS_hd hoS) hoL) (qa_oS_tl hoS))
  | iinc i n =>
    unfold qa_do at hdo
    dsimp only at hdo
    split at hdo
    · next x h2 =>
      split at hdo
      · next h3 =>
        obtain ⟨rfl, hi⟩ := h3
        cases hdo
        obtain ⟨k, hk2⟩ := List.getElem?_of_mem (List.mem_map.mpr ⟨(i, .inr (.int x)), qa_lk_mem h2, rfl⟩ : (i, qa_cv φ (.inr (.int x))) ∈ qa_lm φ lv)
        exact lv_iinc hx hb hd hl hk2 rfl hi (qa_s1_map φ _ (.inr (.int (x + Int32.ofInt n))) lv) (fun ls1 hl1 => kk ls1 _ rfl hl1 (qa_oL_s1 trivial hoL) hoS)
      · cases hdo
    · cases hdo
  | iadd =>
    obtain ⟨rfl, st1, h1, rfl⟩ := qa_S_inv hdo
    obtain ⟨x, y, r, v, rfl, h2, rfl⟩ := qa_ii_inv h1
    cases h2
    exact lv_iadd hx hb hd (kk ls _ rfl hl hoL (qa_oS_cons trivial (qa_oS_tl (qa_oS_tl hoS))))
  | isub =>
    obtain ⟨rfl, st1, h1, rfl⟩ := qa_S_inv hdo
    obtain ⟨x, y, r, v, rfl, h2, rfl⟩ := qa_ii_inv h1
    cases h2
    exact lv_isub hx hb hd (kk ls _ rfl hl hoL (qa_oS_cons trivial (qa_oS_tl (qa_oS_tl hoS))))
  | imul =>
    obtain ⟨rfl, st1, h1, rfl⟩ := qa_S_inv hdo
    obtain ⟨x, y, r, v, rfl, h2, rfl⟩ := qa_ii_inv h1
    cases h2
    exact lv_imul hx hb hd (kk ls _ rfl hl hoL (qa_oS_cons trivial (qa_oS_tl (qa_oS_tl hoS))))
  | iand =>
    obtain ⟨rfl, st1, h1, rfl⟩ := qa_S_inv hdo
    obtain ⟨x, y, r, v, rfl, h2, rfl⟩ := qa_ii_inv h1
    cases h2
    exact lv_iand hx hb hd (kk ls _ rfl hl hoL (qa_oS_cons trivial (qa_oS_tl (qa_oS_tl hoS))))
  | idiv =>
    obtain ⟨rfl, st1, h1, rfl⟩ := qa_S_inv hdo
    obtain ⟨x, y, r, v, rfl, h2, rfl⟩ := qa_ii_inv h1
    split at h2
    · cases h2
    · next hne =>
      cases h2
      exact lv_idiv hx hb hd hne (kk ls _ rfl hl hoL (qa_oS_cons trivial (qa_oS_tl (qa_oS_tl hoS))))
  | irem =>
    obtain ⟨rfl, st1, h1, rfl⟩ := qa_S_inv hdo
    obtain ⟨x, y, r, v, rfl, h2, rfl⟩ := qa_ii_inv h1
    split at h2
    · cases h2
    · next hne =>
      cases h2
      exact lv_irem hx hb hd hne (kk ls _ rfl hl hoL (qa_oS_cons trivial (qa_oS_tl (qa_oS_tl hoS))))
  | ineg =>
    obtain ⟨rfl, st1, h1, rfl⟩ := qa_S_inv hdo
    obtain ⟨x, r, rfl, rfl⟩ := qa_ui_inv h1
    exact lv_ineg hx hb hd (kk ls _ rfl hl hoL (qa_oS_cons trivial (qa_oS_tl hoS)))
  | i2l =>
    obtain ⟨rfl, st1, h1, rfl⟩ := qa_S_inv hdo
    obtain ⟨x, r, rfl, rfl⟩ := qa_ui_inv h1
    exact lv_i2l hx hb hd rfl (kk ls _ rfl hl hoL (qa_oS_cons trivial (qa_oS_tl hoS)))
  | i2d =>
    obtain ⟨rfl, st1, h1, rfl⟩ := qa_S_inv hdo
    obtain ⟨x, r, rfl, rfl⟩ := qa_ui_inv h1
    exact lv_i2d hx hb hd (kk ls _ rfl hl hoL (qa_oS_cons trivial (qa_oS_tl hoS)))
  | l2d =>
    obtain ⟨rfl, st1, h1, rfl⟩ := qa_S_inv hdo
    obtain ⟨x, r, rfl, rfl⟩ := qa_uj_inv h1
    exact lv_l2d hx hb hd (kk ls _ rfl hl hoL (qa_oS_cons trivial (qa_oS_tl hoS)))
  | d2l =>
    obtain ⟨rfl, st1, h1, rfl⟩ := qa_S_inv hdo
    obtain ⟨x, r, rfl, rfl⟩ := qa_ud_inv h1
    exact lv_d2l hx hb hd (kk ls _ rfl hl hoL (qa_oS_cons trivial (qa_oS_tl hoS)))
  | ladd =>
    obtain ⟨rfl, st1, h1, rfl⟩ := qa_S_inv hdo
    obtain ⟨x, y, r, v, rfl, h2, rfl⟩ := qa_jj_inv h1
    cases h2
    exact lv_ladd hx hb hd (kk ls _ rfl hl hoL (qa_oS_cons trivial (qa_oS_tl (qa_oS_tl hoS))))
  | lmul =>
    obtain ⟨rfl, st1, h1, rfl⟩ := qa_S_inv hdo
    obtain ⟨x, y, r, v, rfl, h2, rfl⟩ := qa_jj_inv h1
    cases h2
    exact lv_lmul hx hb hd (kk ls _ rfl hl hoL (qa_oS_cons trivial (qa_oS_tl (qa_oS_tl hoS))))
  | lcmp =>
    obtain ⟨rfl, st1, h1, rfl⟩ := qa_S_inv hdo
    obtain ⟨x, y, r, v, rfl, h2, rfl⟩ := qa_jj_inv h1
    cases h2
    exact W.lcmp hx hb hd (kk ls _ rfl hl hoL (qa_oS_cons trivial (qa_oS_tl (qa_oS_tl hoS))))
  | lshl =>
    obtain ⟨rfl, st1, h1, rfl⟩ := qa_S_inv hdo
    obtain ⟨x, y, r, rfl, rfl⟩ := qa_ji_inv h1
    exact lv_lshl hx hb hd rfl (kk ls _ rfl hl hoL (qa_oS_cons trivial (qa_oS_tl (qa_oS_tl hoS))))
  | ddiv =>
    obtain ⟨rfl, st1, h1, rfl⟩ := qa_S_inv hdo
    obtain ⟨x, y, r, v, rfl, h2, rfl⟩ := qa_dd_inv h1
    split at h2
    · next hne =>
      cases h2
      exact lv_ddiv hx hb hd hne (kk ls _ rfl hl hoL (qa_oS_cons trivial (qa_oS_tl (qa_oS_tl hoS))))
    · cases h2
  | dmul =>
    obtain ⟨rfl, st1, h1, rfl⟩ := qa_S_inv hdo
    obtain ⟨x, y, r, v, rfl, h2, rfl⟩ := qa_dd_inv h1
    split at h2
    · next hne =>
      cases h2
      exact lv_dmul hx hb hd hne (kk ls _ rfl hl hoL (qa_oS_cons trivial (qa_oS_tl (qa_oS_tl hoS))))
    · cases h2
  | dsub =>
    obtain ⟨rfl, st1, h1, rfl⟩ := qa_S_inv hdo
    obtain ⟨x, y, r, v, rfl, h2, rfl⟩ := qa_dd_inv h1
    split at h2
    · next hne =>
      cases h2
      exact lv_dsub hx hb hd hne (kk ls _ rfl hl hoL (qa_oS_cons trivial (qa_oS_tl (qa_oS_tl hoS))))
    · cases h2
  | dcmp op =>
    obtain ⟨rfl, st1, h1, rfl⟩ := qa_S_inv hdo
    obtain ⟨x, y, r, v, rfl, h2, rfl⟩ := qa_dd_inv h1
    cases h2
    exact lv_dcmp hx hb hd (kk ls _ rfl hl hoL (qa_oS_cons trivial (qa_oS_tl (qa_oS_tl hoS))))
  | dup =>
    obtain ⟨rfl, st1, h1, rfl⟩ := qa_S_inv hdo
    obtain ⟨x, r, rfl, hc, rfl⟩ := qa_dp_inv h1
    exact lv_dup hx hb hd ((qa_cv_cat φ x).trans hc) (kk ls _ rfl hl hoL (qa_oS_cons (qa_oS_hd hoS) hoS))
  | pop =>
    obtain ⟨rfl, st1, h1, rfl⟩ := qa_S_inv hdo
    obtain ⟨x, rfl, hc⟩ := qa_pp_inv h1
    exact lv_pop hx hb hd ((qa_cv_cat φ x).trans hc) (kk ls _ rfl hl hoL (qa_oS_tl hoS))
  | dup2 =>
    obtain ⟨rfl, st1, h1, rfl⟩ := qa_S_inv hdo
    obtain ⟨x, y, r, rfl, hc, hc2, rfl⟩ := qa_d2_inv h1
    exact lv_dup2_11 hx hb hd ((qa_cv_cat φ x).trans hc) ((qa_cv_cat φ y).trans hc2) (kk ls _ rfl hl hoL (qa_oS_cons (qa_oS_hd hoS) (qa_oS_cons (qa_oS_hd (qa_oS_tl hoS)) hoS)))
  | goto off =>
    unfold qa_do at hdo
    dsimp only at hdo
    split at hdo
    · next h3 =>
      obtain ⟨rfl, h0⟩ := h3
      cases hdo
      exact lv_goto hx hb hd (qa_to_eq h0) (kk ls _ rfl hl hoL hoS)
    · cases hdo
  | ifCond cnd off =>
    cases cnd with
    | eq =>
      obtain ⟨x, r, rfl, rfl, h0, rfl⟩ := qa_b1_inv hdo
      exact lv_if_eq hx hb hd (qa_to_eq h0) (fun ee => kk ls _ (if_pos (decide_eq_true ee)).symm hl hoL (qa_oS_tl hoS)) (fun ee => kk ls _ (if_neg (fun t => ee (of_decide_eq_true t))).symm hl hoL (qa_oS_tl hoS))
    | ne =>
      obtain ⟨x, r, rfl, rfl, h0, rfl⟩ := qa_b1_inv hdo
      exact lv_if_ne hx hb hd (qa_to_eq h0) (fun ee => kk ls _ (if_pos (decide_eq_true ee)).symm hl hoL (qa_oS_tl hoS)) (fun ee => kk ls _ (if_neg (fun t => absurd ee (of_decide_eq_true t))).symm hl hoL (qa_oS_tl hoS))
    | lt =>
      obtain ⟨x, r, rfl, rfl, h0, rfl⟩ := qa_b1_inv hdo
      exact lv_if_lt hx hb hd (qa_to_eq h0) (fun ee => kk ls _ (if_pos (decide_eq_true ee)).symm hl hoL (qa_oS_tl hoS)) (fun ee => kk ls _ (if_neg (fun t => ee (of_decide_eq_true t))).symm hl hoL (qa_oS_tl hoS))
    | ge =>
      obtain ⟨x, r, rfl, rfl, h0, rfl⟩ := qa_b1_inv hdo
      exact lv_if_ge hx hb hd (qa_to_eq h0) (fun ee => kk ls _ (if_pos (decide_eq_true ee)).symm hl hoL (qa_oS_tl hoS)) (fun ee => kk ls _ (if_neg (fun t => ee (of_decide_eq_true t))).symm hl hoL (qa_oS_tl hoS))
    | gt =>
      obtain ⟨x, r, rfl, rfl, h0, rfl⟩ := qa_b1_inv hdo
      exact lv_if_gt hx hb hd (qa_to_eq h0) (fun ee => kk ls _ (if_pos (decide_eq_true ee)).symm hl hoL (qa_oS_tl hoS)) (fun ee => kk ls _ (if_neg (fun t => ee (of_decide_eq_true t))).symm hl hoL (qa_oS_tl hoS))
    | le =>
      obtain ⟨x, r, rfl, rfl, h0, rfl⟩ := qa_b1_inv hdo
      exact lv_if_le hx hb hd (qa_to_eq h0) (fun ee => kk ls _ (if_pos (decide_eq_true ee)).symm hl hoL (qa_oS_tl hoS)) (fun ee => kk ls _ (if_neg (fun t => ee (of_decide_eq_true t))).symm hl hoL (qa_oS_tl hoS))
  | if_icmp cnd off =>
    cases cnd with
    | eq =>
      obtain ⟨x, y, r, rfl, rfl, h0, rfl⟩ := qa_b2_inv hdo
      exact lv_icmp_eq hx hb hd (qa_to_eq h0) (fun ee => kk ls _ (if_pos (decide_eq_true ee)).symm hl hoL (qa_oS_tl (qa_oS_tl hoS))) (fun ee => kk ls _ (if_neg (fun t => ee (of_decide_eq_true t))).symm hl hoL (qa_oS_tl (qa_oS_tl hoS)))
    | ne =>
      obtain ⟨x, y, r, rfl, rfl, h0, rfl⟩ := qa_b2_inv hdo
      exact lv_icmp_ne hx hb hd (qa_to_eq h0) (fun ee => kk ls _ (if_pos (decide_eq_true ee)).symm hl hoL (qa_oS_tl (qa_oS_tl hoS))) (fun ee => kk ls _ (if_neg (fun t => absurd ee (of_decide_eq_true t))).symm hl hoL (qa_oS_tl (qa_oS_tl hoS)))
    | lt =>
      obtain ⟨x, y, r, rfl, rfl, h0, rfl⟩ := qa_b2_inv hdo
      exact lv_icmp_lt hx hb hd (qa_to_eq h0) (fun ee => kk ls _ (if_pos (decide_eq_true ee)).symm hl hoL (qa_oS_tl (qa_oS_tl hoS))) (fun ee => kk ls _ (if_neg (fun t => ee (of_decide_eq_true t))).symm hl hoL (qa_oS_tl (qa_oS_tl hoS)))
    | ge =>
      obtain ⟨x, y, r, rfl, rfl, h0, rfl⟩ := qa_b2_inv hdo
      exact lv_icmp_ge hx hb hd (qa_to_eq h0) (fun ee => kk ls _ (if_pos (decide_eq_true ee)).symm hl hoL (qa_oS_tl (qa_oS_tl hoS))) (fun ee => kk ls _ (if_neg (fun t => ee (of_decide_eq_true t))).symm hl hoL (qa_oS_tl (qa_oS_tl hoS)))
    | gt =>
      obtain ⟨x, y, r, rfl, rfl, h0, rfl⟩ := qa_b2_inv hdo
      exact lv_icmp_gt hx hb hd (qa_to_eq h0) (fun ee => kk ls _ (if_pos (decide_eq_true ee)).symm hl hoL (qa_oS_tl (qa_oS_tl hoS))) (fun ee => kk ls _ (if_neg (fun t => ee (of_decide_eq_true t))).symm hl hoL (qa_oS_tl (qa_oS_tl hoS)))
    | le =>
      obtain ⟨x, y, r, rfl, rfl, h0, rfl⟩ := qa_b2_inv hdo
      exact lv_icmp_le hx hb hd (qa_to_eq h0) (fun ee => kk ls _ (if_pos (decide_eq_true ee)).symm hl hoL (qa_oS_tl (qa_oS_tl hoS))) (fun ee => kk ls _ (if_neg (fun t => ee (of_decide_eq_true t))).symm hl hoL (qa_oS_tl (qa_oS_tl hoS)))
  | ifnull off =>
    rcases qa_bn_inv hdo with ⟨x, r, rfl, rfl, rfl⟩ | ⟨r, rfl, rfl, h0, rfl⟩
    · exact lv_ifnull hx hb hd (kk ls _ rfl hl hoL (qa_oS_tl hoS))
    · exact lv_ifnullN hx hb hd (qa_to_eq h0) (kk ls _ rfl hl hoL (qa_oS_tl hoS))
  | lookupswitch dflt ps =>
    obtain ⟨x, r, rfl, h1, h0, rfl⟩ := qa_ls_inv hdo
    exact lv_lookup hx hb hd h1 rfl (qa_to_eq h0) (kk ls _ rfl hl hoL (qa_oS_tl hoS))
  | tableswitch dflt lo hi offs =>
    obtain ⟨x, r, rfl, h1⟩ := qa_ts_inv hdo
    rcases h1 with ⟨h1, h0, rfl⟩ | ⟨off, h1, h2, h0, rfl⟩
    · exact lv_tableOut hx hb hd h1 (qa_to_eq h0) (kk ls _ rfl hl hoL (qa_oS_tl hoS))
    · exact lv_tableIn hx hb hd (fun t => h1 (Or.inl t)) (fun t => h1 (Or.inr t)) h2 (qa_to_eq h0) (kk ls _ rfl hl hoL (qa_oS_tl hoS))
  | getfield i =>
    obtain ⟨rfl, st1, h1, rfl⟩ := qa_S_inv hdo
    obtain ⟨x, r, ci, sl, pl, f, rfl, h2, h3, rfl⟩ := qa_gf_inv h1
    obtain ⟨q, hq, hsl, hw⟩ := qa_fl_at hk h2
    have hal : x ∈ al := hI.2.2.1 x (by rw [h3]; exact decide_eq_true (qa_ft_ok hq).2.2.1)
    obtain ⟨q0, -, hq0⟩ := qa_w_at (φ := φ) (ca := ca) (h := h.2) hal
    rw [h3] at hq0
    have hov : qa_ov h.1 (f sl) := by
      have := hI.2.2.2.2.2 x hal
      rw [h3] at this
      exact this sl
    exact va_get hx hb hts (qa_cws hq).2.2 hown hE.1 hI.1 q0 hq0 hq sl hsl (hts _ hw) (fun _ t => t) (qa_fs_at hq hsl) hd (kk ls _ rfl hl hoL (qa_oS_cons hov (qa_oS_tl hoS)))
  | arraylength =>
    obtain ⟨rfl, st1, h1, rfl⟩ := qa_S_inv hdo
    obtain ⟨x, r, τ, n, f, rfl, h2, h3, rfl⟩ := qa_an_inv h1
    by_cases h9 : τ = 9
    · subst h9
      obtain ⟨rfl, rfl, h5⟩ := hI.2.2.2.2.1 x _ _ h2
      show W p l e R s m args below meth c H locs cells slots Q (F0 m pc ls (.ref (φ x) :: r.map (qa_cv φ)))
      rw [h5]
      exact va_slen hx hb hE.2.2.2.2.1 (Nat.lt_of_lt_of_le hE.2.2.2.2.2.2.2.1 hE.2.2.2.2.2.2.2.2) (Nat.not_le.mpr hE.2.2.2.2.2.2.2.1) hS hd (kk ls _ rfl hl hoL (qa_oS_cons trivial (qa_oS_tl hoS)))
    · have h4 : τ < 4 := h3.resolve_right h9
      have hal : x ∈ al := hI.2.2.1 x (by rw [h2]; exact decide_eq_true h4)
      obtain ⟨q0, -, hq0⟩ := qa_w_at (φ := φ) (ca := ca) (h := h.2) hal
      rw [h2] at hq0
      have ht := qa_tys_at ca h4
      exact va_alen hx hb hE.1 hI.1 q0 τ hq0 ht rfl hd (kk ls _ rfl hl hoL (qa_oS_cons trivial (qa_oS_tl hoS)))
  | iaload =>
    obtain ⟨rfl, st1, h1, rfl⟩ := qa_S_inv hdo
    obtain ⟨x, r, τ, n, f, i, rfl, h2, h3, hin, rfl⟩ := qa_ia_inv h1
    rcases h3 with rfl | rfl
    · have hal : x ∈ al := hI.2.2.1 x (by rw [h2]; rfl)
      obtain ⟨q0, -, hq0⟩ := qa_w_at (φ := φ) (ca := ca) (h := h.2) hal
      rw [h2] at hq0
      exact va_iald hx hb hE.1 hI.1 q0 0 hq0 (qa_tys_0 ca) hin hd (kk ls _ rfl hl hoL (qa_oS_cons trivial (qa_oS_tl (qa_oS_tl hoS))))
    · obtain ⟨rfl, h4, h5⟩ := hI.2.2.2.2.1 x _ _ h2
      cases h4
      show W p l e R s m args below meth c H locs cells slots Q (F0 m pc ls (.int i :: .ref (φ x) :: r.map (qa_cv φ)))
      rw [h5]
      exact va_sld hx hb hE.2.2.2.2.1 (Nat.lt_of_lt_of_le hE.2.2.2.2.2.2.2.1 hE.2.2.2.2.2.2.2.2) (Nat.not_le.mpr hE.2.2.2.2.2.2.2.1) hS hin hd (kk ls _ rfl hl hoL (qa_oS_cons trivial (qa_oS_tl (qa_oS_tl hoS))))
  | baload =>
    obtain ⟨rfl, st1, h1, rfl⟩ := qa_S_inv hdo
    obtain ⟨x, r, n, f, i, rfl, h2, hin, rfl⟩ := qa_ba_inv h1
    have hal : x ∈ al := hI.2.2.1 x (by rw [h2]; rfl)
    obtain ⟨q0, -, hq0⟩ := qa_w_at (φ := φ) (ca := ca) (h := h.2) hal
    rw [h2] at hq0
    exact va_zald hx hb hE.1 hI.1 q0 1 hq0 (qa_tys_1 ca) hin hd (kk ls _ rfl hl hoL (qa_oS_cons trivial (qa_oS_tl (qa_oS_tl hoS))))
  | laload =>
    obtain ⟨rfl, st1, h1, rfl⟩ := qa_S_inv hdo
    obtain ⟨x, r, n, f, i, rfl, h2, hin, rfl⟩ := qa_ja_inv h1
    have hal : x ∈ al := hI.2.2.1 x (by rw [h2]; rfl)
    obtain ⟨q0, -, hq0⟩ := qa_w_at (φ := φ) (ca := ca) (h := h.2) hal
    rw [h2] at hq0
    exact va_lald hx hb hE.1 hI.1 q0 2 hq0 (qa_tys_2 ca) hin hd (kk ls _ rfl hl hoL (qa_oS_cons trivial (qa_oS_tl (qa_oS_tl hoS))))
  | aaload =>
    obtain ⟨rfl, st1, h1, rfl⟩ := qa_S_inv hdo
    obtain ⟨x, r, n, f, i, rfl, h2, hin, rfl⟩ := qa_aa_inv h1
    have hal : x ∈ al := hI.2.2.1 x (by rw [h2]; rfl)
    obtain ⟨q0, -, hq0⟩ := qa_w_at (φ := φ) (ca := ca) (h := h.2) hal
    rw [h2] at hq0
    have hov : qa_ov h.1 (qa_rv (f i.toNatClampNeg)) := by
      have h6 := hI.2.2.2.2.2 x hal
      rw [h2] at h6
      cases h7 : f i.toNatClampNeg with
      | none => trivial
      | some y => exact h6 _ y h7
    have K := kk ls _ rfl hl hoL (qa_oS_cons hov (qa_oS_tl (qa_oS_tl hoS)))
    rw [List.map_cons, ← qa_rv_cv φ] at K
    exact va_aldq hx hb hE.1 hI.1 q0 3 hq0 (qa_tys_3 ca) hin hd K
  | invokespecial i =>
    obtain ⟨rfl, st1, h1, rfl⟩ := qa_S_inv hdo
    obtain ⟨x, rfl, hw, hc, hf1, hl1⟩ := qa_ob_inv h1
    have hwo := List.all_eq_true.mp qa_oi_w
    refine W.objInit (g := F0 m pc ls (.ref (φ x) :: st1.map (qa_cv φ))) hx hb hown (hts _ hw) (hts _ (qa_gw_in (hwo _ List.mem_cons_self))) (hts _ (qa_gw_in (hwo _ (List.mem_cons_of_mem _ List.mem_cons_self)))) rfl (hl.1.trans hml.symm) rfl hd (Nat.le_trans hf1 hfr) ?_ (kk ls _ rfl hl hoL (qa_oS_tl hoS))
    have h8 := lv_room (m := m) (pc := pc) (ls := ls) (rest := st1.map (qa_cv φ)) (st := st1.map (qa_cv φ)) (by rw [qa_cats]; exact hc)
    exact Nat.le_trans (Nat.add_le_add_right h8 12) (Nat.le_trans hl1 hlo)
  | _ =>
    cases hdo
end QDO
end
section
/-! a step that writes a cell, or makes one -/
section QWR
variable {p : Program} {l : Launch} {e : Env} {R : Room} {s : State} {m : MethodId} {args : Array Value} {below : List Frame} {meth : Method} {c : Code} {H : Heap} {locs : List Loc} {cells slots : Nat} {Q : State → Prop}
variable {M : qa_M} {D : va_G} {ca : Nat → ClassId} {b L z : Nat} {xs : Nat → Int32} {φ : qa_P → Nat} {al : List qa_P} {h : qa_H} {pc len : Nat} {ls : Array Slot} {st : List qa_V}
theorem qa_up_self (h : qa_P → qa_C) (x : qa_P) (v : qa_C) : qa_up h x v x = v := if_pos rfl
theorem qa_up_ne {h : qa_P → qa_C} {x y : qa_P} {v : qa_C} (e : y ≠ x) : qa_up h x v y = h y := if_neg e
theorem qa_w_set {h : qa_P → qa_C} {x : qa_P} {v : qa_C} {q0 : Nat} {A : Nat → Prop} (hD : va_D A (qa_w φ ca al h)) (hq : al[q0]? = some x) : (qa_w φ ca al h).set q0 (φ x, qa_e φ ca v) = qa_w φ ca al (qa_up h x v) := by
  have hw : ∀ (i : Nat) (y : qa_P), al[i]? = some y → (qa_w φ ca al h)[i]? = some (φ y, qa_e φ ca (h y)) := fun i y hi => by unfold qa_w; rw [List.getElem?_map, hi]; rfl
  have hlen : q0 < (qa_w φ ca al h).length := (List.getElem?_eq_some_iff.mp (hw q0 x hq)).1
  refine List.ext_getElem? fun i => ?_
  by_cases hi : i = q0
  · subst hi
    rw [List.getElem?_set_self hlen]
    unfold qa_w
    rw [List.getElem?_map, hq]
    show some _ = some (φ x, qa_e φ ca (qa_up h x v x))
    rw [qa_up_self]
  · rw [List.getElem?_set_ne (Ne.symm hi)]
    unfold qa_w
    rw [List.getElem?_map, List.getElem?_map]
    cases hy : al[i]? with
    | none => rfl
    | some y =>
      have hne : y ≠ x := fun t => hi (hD.1 i q0 _ _ (hw i y hy) (hw q0 x hq) (by rw [t]))
      show some (φ y, qa_e φ ca (h y)) = some (φ y, qa_e φ ca (qa_up h x v y))
      rw [qa_up_ne hne]
theorem qa_Hp_up {x : qa_P} {v : qa_C} {q0 : Nat} {H1 : Heap} (hI : qa_Hp D ca b L z xs φ al h H) (hq : al[q0]? = some x) (h9 : ∀ n r, v ≠ .inr (9, n, r)) (ho : qa_oC h.1 v)
    (hP : va_P D vwCl ((qa_w φ ca al h.2).set q0 (φ x, qa_e φ ca v)) H1) (hD : va_D (qa_A z) ((qa_w φ ca al h.2).set q0 (φ x, qa_e φ ca v))) : qa_Hp D ca b L z xs φ al (h.1, qa_up h.2 x v) H1 := by
  rw [qa_w_set hI.2.1 hq] at hP hD
  have hx : x ∈ al := List.mem_of_getElem? hq
  refine ⟨hP, hD, fun y hy => ?_, hI.2.2.2.1, fun y n r hy => ?_, fun y hy => ?_⟩
  · by_cases e1 : y = x
    · rw [e1]; exact hx
    · exact hI.2.2.1 y (by rw [← qa_up_ne (h := h.2) (v := v) e1]; exact hy)
  · by_cases e1 : y = x
    · rw [e1] at hy
      exact absurd ((qa_up_self h.2 x v).symm.trans hy) (h9 n r)
    · exact hI.2.2.2.2.1 y n r (by rw [← qa_up_ne (h := h.2) (v := v) e1]; exact hy)
  · show qa_oC h.1 (qa_up h.2 x v y)
    by_cases e1 : y = x
    · rw [e1, qa_up_self]; exact ho
    · rw [qa_up_ne e1]; exact hI.2.2.2.2.2 y hy
theorem qa_fit_ok {ty : FieldType} {v : qa_V} (h : qa_fit ty v = true) (φ : qa_P → Nat) : narrow ty (qa_cv φ v) = qa_cv φ v ∧ fits ty (qa_cv φ v) = true := by
  cases v with
  | inl y =>
    cases ty with
    | object n => exact ⟨rfl, rfl⟩
    | array n => exact ⟨rfl, rfl⟩
    | _ => cases h
  | inr w =>
    unfold qa_fit at h
    simp only [Bool.and_eq_true] at h
    exact ⟨of_decide_eq_true h.1, h.2⟩
theorem qa_dc {k sl : Nat} {q : vw_C} (h : vwCl[k]? = some q) (hs : sl < q.2.2) : (q.2.1 sl).1 = qa_cn k := by
  revert hs
  match k, h with
  | 0, h => cases h; exact fun hs => (show ∀ j, j < 7 → (TX0 j).1 = RX0 by decide +kernel) sl hs
  | 1, h => cases h; exact fun hs => (show ∀ j, j < 8 → (TX1 j).1 = RX1 by decide +kernel) sl hs
  | 2, h => cases h; exact fun hs => (show ∀ j, j < 5 → (TX2 j).1 = RX2 by decide +kernel) sl hs
  | 3, h => cases h; exact fun hs => (show ∀ j, j < 3 → (TX3 j).1 = RX3 by decide +kernel) sl hs
  | 4, h => cases h; exact fun hs => (show ∀ j, j < 5 → (TX4 j).1 = RX4 by decide +kernel) sl hs
  | 5, h => cases h; exact fun hs => (show ∀ j, j < 3 → (TX5 j).1 = RX5 by decide +kernel) sl hs
  | 6, h => cases h; exact fun hs => (show ∀ j, j < 9 → (TX6 j).1 = RX6 by decide +kernel) sl hs
  | 7, h => cases h; exact fun hs => (show ∀ j, j < 5 → (TX7 j).1 = RX7 by decide +kernel) sl hs
  | 8, h => cases h; exact fun hs => (show ∀ j, j < 5 → (TX8 j).1 = RX8 by decide +kernel) sl hs
  | 9, h => cases h; exact fun hs => (show ∀ j, j < 6 → (TX9 j).1 = RX9 by decide +kernel) sl hs
  | 10, h => cases h; exact fun hs => (show ∀ j, j < 15 → (TX10 j).1 = RX10 by decide +kernel) sl hs
  | k + 11, h => cases h
theorem qa_fs_set {k sl : Nat} {f : Nat → qa_V} (v : qa_V) : (qa_fs φ k f).set sl (qa_cv φ v) = qa_fs φ k (fun j => if j = sl then v else f j) := by
  refine List.ext_getElem? fun i => ?_
  unfold qa_fs
  by_cases hi : i = sl
  · subst hi
    by_cases hl : i < qa_fz k
    · rw [List.getElem?_set_self (by simpa using hl), List.getElem?_map, List.getElem?_range hl]
      show some _ = some (qa_cv φ (if i = i then v else f i))
      rw [if_pos rfl]
    · rw [List.getElem?_eq_none (by simpa using Nat.not_lt.mp hl), List.getElem?_eq_none (by simpa using Nat.not_lt.mp hl)]
  · rw [List.getElem?_set_ne (Ne.symm hi), List.getElem?_map, List.getElem?_map]
    by_cases hl : i < qa_fz k
    · rw [List.getElem?_range hl]
      show some _ = some (qa_cv φ (if i = sl then v else f i))
      rw [if_neg hi]
    · rw [List.getElem?_eq_none (by simpa using Nat.not_lt.mp hl)]
      rfl
theorem qa_up_map (f : Nat → Option qa_P) (k : Nat) (v : qa_P) : (fun i => (va_up f k (some v) i).map φ) = va_up (fun i => (f i).map φ) k (some (φ v)) := by
  funext i
  unfold va_up
  by_cases hi : i = k
  · rw [if_pos hi, if_pos hi]; rfl
  · rw [if_neg hi, if_neg hi]
theorem qa_wr_put {i : Nat} {w : Nat × List qa_V × qa_P × qa_C} {hh : qa_P → qa_C} (e : qa_wr M (.putfield i) len pc st hh = some w) : ∃ v x r ci sl pl f, st = v :: .inl x :: r ∧ qa_lk (qa_fl (qa_cl M)) i = some (ci, sl, pl) ∧ hh x = .inl (ci, f) ∧ len = 3 ∧ qa_fit (qa_ft ci sl) v = true ∧ (qa_fn ci sl = true → qa_sk M = 0 ∧ ci = qa_cl M) ∧ w = (pc + 3, r, x, .inl (ci, fun j => if j = sl then v else f j)) := by
  unfold qa_wr at e
  dsimp only at e
  split at e
  · split at e
    · next h1 h2 =>
      split at e
      · next h3 => obtain ⟨h3, rfl, h4, h5⟩ := h3; exact ⟨_, _, _, _, _, _, _, rfl, h1, h2, h3, h4, h5, (Option.some.inj e).symm⟩
      · cases e
    · cases e
  · cases e
theorem qa_wr_iast {w : Nat × List qa_V × qa_P × qa_C} {hh : qa_P → qa_C} (e : qa_wr M .iastore len pc st hh = some w) : ∃ x i y r n f, st = .inr (.int x) :: .inr (.int i) :: .inl y :: r ∧ hh y = .inr (0, n, .inl f) ∧ len = 1 ∧ vp_in i n ∧ w = (pc + 1, r, y, .inr (0, n, .inl (upd f i.toNatClampNeg x))) := by
  unfold qa_wr at e
  dsimp only at e
  split at e
  · split at e
    · next h1 =>
      split at e
      · next h3 => obtain ⟨h3, rfl, h4⟩ := h3; exact ⟨_, _, _, _, _, _, rfl, h1, h3, qa_in_ok h4, (Option.some.inj e).symm⟩
      · cases e
    · cases e
  · cases e
theorem qa_wr_bast {w : Nat × List qa_V × qa_P × qa_C} {hh : qa_P → qa_C} (e : qa_wr M .bastore len pc st hh = some w) : ∃ x i y r n f, st = .inr (.int x) :: .inr (.int i) :: .inl y :: r ∧ hh y = .inr (1, n, .inl f) ∧ len = 1 ∧ vp_in i n ∧ (x = 0 ∨ x = 1) ∧ w = (pc + 1, r, y, .inr (1, n, .inl (upd f i.toNatClampNeg x))) := by
  unfold qa_wr at e
  dsimp only at e
  split at e
  · split at e
    · next h1 =>
      split at e
      · next h3 => obtain ⟨h3, rfl, h4, h5⟩ := h3; exact ⟨_, _, _, _, _, _, rfl, h1, h3, qa_in_ok h4, h5, (Option.some.inj e).symm⟩
      · cases e
    · cases e
  · cases e
theorem qa_wr_last {w : Nat × List qa_V × qa_P × qa_C} {hh : qa_P → qa_C} (e : qa_wr M .lastore len pc st hh = some w) : ∃ x i y r n f, st = .inr (.long x) :: .inr (.int i) :: .inl y :: r ∧ hh y = .inr (2, n, .inr (.inl f)) ∧ len = 1 ∧ vp_in i n ∧ w = (pc + 1, r, y, .inr (2, n, .inr (.inl (vp_updL f i.toNatClampNeg x)))) := by
  unfold qa_wr at e
  dsimp only at e
  split at e
  · split at e
    · next h1 =>
      split at e
      · next h3 => obtain ⟨h3, rfl, h4⟩ := h3; exact ⟨_, _, _, _, _, _, rfl, h1, h3, qa_in_ok h4, (Option.some.inj e).symm⟩
      · cases e
    · cases e
  · cases e
theorem qa_wr_aast {w : Nat × List qa_V × qa_P × qa_C} {hh : qa_P → qa_C} (e : qa_wr M .aastore len pc st hh = some w) : ∃ x i y r n f g, st = .inl x :: .inr (.int i) :: .inl y :: r ∧ hh y = .inr (3, n, .inr (.inr f)) ∧ hh x = .inl (1, g) ∧ len = 1 ∧ vp_in i n ∧ w = (pc + 1, r, y, .inr (3, n, .inr (.inr (va_up f i.toNatClampNeg (some x))))) := by
  unfold qa_wr at e
  dsimp only at e
  split at e
  · split at e
    · next h1 h2 =>
      split at e
      · next h3 => obtain ⟨h3, rfl, rfl, h4⟩ := h3; exact ⟨_, _, _, _, _, _, _, rfl, h1, h2, h3, qa_in_ok h4, (Option.some.inj e).symm⟩
      · cases e
    · cases e
  · cases e
set_option maxHeartbeats 1000000 in
theorem qa_wrW (hF : qa_Fr M p R s m args c) (hE : qa_En D ca b L z xs s) (hI : qa_Hp D ca b L z xs φ al h H) (hS : va_S (qa_A z) s.heap H locs) (hini : qa_sk M = 0 → meth.name = "<init>") (hoS : qa_oS h.1 st)
    {ins : Instr} (hd : decode (qa_by M) pc = .ok (ins, len)) {w : Nat × List qa_V × qa_P × qa_C} (hw : qa_wr M ins len pc st h.2 = some w)
    (kk : ∀ (H1 : Heap) (locs1 : List Loc), qa_Hp D ca b L z xs φ al (h.1, qa_up h.2 w.2.2.1 w.2.2.2) H1 → va_S (qa_A z) s.heap H1 locs1 → qa_oS h.1 w.2.1 → W p l e R s m args below meth c H1 locs1 cells slots Q (F0 m w.1 ls (w.2.1.map (qa_cv φ)))) :
    W p l e R s m args below meth c H locs cells slots Q (F0 m pc ls (st.map (qa_cv φ))) := by
  obtain ⟨hx, hb, hml, hown, hts, hk, hfr, hlo⟩ := hF
  cases ins with
  | putfield i =>
    obtain ⟨v, x, r, ci, sl, pl, f, rfl, h2, h3, rfl, hfit, hfin, rfl⟩ := qa_wr_put hw
    obtain ⟨q, hq, hsl, hlk⟩ := qa_fl_at hk h2
    have hal : x ∈ al := hI.2.2.1 x (by rw [h3]; exact decide_eq_true (qa_ft_ok hq).2.2.1)
    obtain ⟨q0, hal0, hq0⟩ := qa_w_at (φ := φ) (ca := ca) (h := h.2) hal
    rw [h3] at hq0
    have hlen : sl < (qa_fs φ ci f).length := by unfold qa_fs; rw [List.length_map, List.length_range, qa_fz_eq hq]; exact hsl
    have hoc := hI.2.2.2.2.2 x hal
    rw [h3] at hoc
    have ho : qa_oC h.1 (.inl (ci, fun j => if j = sl then v else f j)) := fun j => by
      show qa_ov h.1 (if j = sl then v else f j)
      by_cases hj : j = sl
      · rw [if_pos hj]; exact qa_oS_hd hoS
      · rw [if_neg hj]; exact hoc j
    have hft := qa_fit_ok hfit φ
    by_cases hf9 : (q.2.1 sl).2.2.2 = true
    · have hf2 := hfin (by unfold qa_fn; rw [hq]; exact hf9)
      refine va_putF hx hb hts (qa_cws hq).2.2 (qa_ft ci) (qa_ft_ok hq).1 (qa_ft_ok hq).2.1 hown hE.1 hI.1 hI.2.1 hS q0 hq0 hq sl hsl (hts _ hlk) (fun _ t => t) hf9 (hini hf2.1) ((qa_dc hq hsl).trans (by rw [hf2.2])) ((qa_ft_ok hq).1 sl hsl) hft.1 hft.2 hlen hd (fun H1 locs1 hP1 hD1 hS1 => kk H1 locs1 ?_ hS1 (qa_oS_tl (qa_oS_tl hoS)))
      rw [qa_fs_set] at hP1 hD1
      exact qa_Hp_up (v := .inl (ci, fun j => if j = sl then v else f j)) hI hal0 (fun n r t => by cases t) ho hP1 hD1
    · refine va_put hx hb hts (qa_cws hq).2.2 (qa_ft ci) (qa_ft_ok hq).1 (qa_ft_ok hq).2.1 hown hE.1 hI.1 hI.2.1 hS q0 hq0 hq sl hsl (hts _ hlk) (fun _ t => t) (Bool.eq_false_iff.mpr hf9) ((qa_ft_ok hq).1 sl hsl) hft.1 hft.2 hlen hd (fun H1 locs1 hP1 hD1 hS1 => kk H1 locs1 ?_ hS1 (qa_oS_tl (qa_oS_tl hoS)))
      rw [qa_fs_set] at hP1 hD1
      exact qa_Hp_up (v := .inl (ci, fun j => if j = sl then v else f j)) hI hal0 (fun n r t => by cases t) ho hP1 hD1
  | iastore =>
    obtain ⟨x, i, y, r, n, f, rfl, h2, rfl, hin, rfl⟩ := qa_wr_iast hw
    have hal : y ∈ al := hI.2.2.1 y (by rw [h2]; rfl)
    obtain ⟨q0, hal0, hq0⟩ := qa_w_at (φ := φ) (ca := ca) (h := h.2) hal
    rw [h2] at hq0
    exact va_iast hx hb hE.1 hI.1 hI.2.1 hS q0 0 hq0 (qa_tys_0 ca) hin hd (fun H1 locs1 hP1 hD1 hS1 => kk H1 locs1 (qa_Hp_up (v := .inr (0, n, .inl (upd f i.toNatClampNeg x))) hI hal0 (fun n r t => by cases t) trivial hP1 hD1) hS1 (qa_oS_tl (qa_oS_tl (qa_oS_tl hoS))))
  | bastore =>
    obtain ⟨x, i, y, r, n, f, rfl, h2, rfl, hin, hx01, rfl⟩ := qa_wr_bast hw
    have hal : y ∈ al := hI.2.2.1 y (by rw [h2]; rfl)
    obtain ⟨q0, hal0, hq0⟩ := qa_w_at (φ := φ) (ca := ca) (h := h.2) hal
    rw [h2] at hq0
    have hnx : vp_nar .boolean x = x := by rcases hx01 with rfl | rfl <;> rfl
    refine va_zast hx hb hE.1 hI.1 hI.2.1 hS q0 1 hq0 (qa_tys_1 ca) hin hd (fun H1 locs1 hP1 hD1 hS1 => kk H1 locs1 ?_ hS1 (qa_oS_tl (qa_oS_tl (qa_oS_tl hoS))))
    rw [hnx] at hP1 hD1
    exact qa_Hp_up (v := .inr (1, n, .inl (upd f i.toNatClampNeg x))) hI hal0 (fun n r t => by cases t) trivial hP1 hD1
  | lastore =>
    obtain ⟨x, i, y, r, n, f, rfl, h2, rfl, hin, rfl⟩ := qa_wr_last hw
    have hal : y ∈ al := hI.2.2.1 y (by rw [h2]; rfl)
    obtain ⟨q0, hal0, hq0⟩ := qa_w_at (φ := φ) (ca := ca) (h := h.2) hal
    rw [h2] at hq0
    exact va_last hx hb hE.1 hI.1 hI.2.1 hS q0 2 hq0 (qa_tys_2 ca) hin hd (fun H1 locs1 hP1 hD1 hS1 => kk H1 locs1 (qa_Hp_up (v := .inr (2, n, .inr (.inl (vp_updL f i.toNatClampNeg x)))) hI hal0 (fun n r t => by cases t) trivial hP1 hD1) hS1 (qa_oS_tl (qa_oS_tl (qa_oS_tl hoS))))
  | aastore =>
    obtain ⟨x, i, y, r, n, f, g, rfl, h2, h3, rfl, hin, rfl⟩ := qa_wr_aast hw
    have hal : y ∈ al := hI.2.2.1 y (by rw [h2]; rfl)
    obtain ⟨q0, hal0, hq0⟩ := qa_w_at (φ := φ) (ca := ca) (h := h.2) hal
    rw [h2] at hq0
    have hal2 : x ∈ al := hI.2.2.1 x (by rw [h3]; rfl)
    obtain ⟨q1, -, hq1⟩ := qa_w_at (φ := φ) (ca := ca) (h := h.2) hal2
    rw [h3] at hq1
    have hoc := hI.2.2.2.2.2 y hal
    rw [h2] at hoc
    have ho : qa_oC h.1 (.inr (3, n, .inr (.inr (va_up f i.toNatClampNeg (some x))))) := fun j y1 hy1 => by
      unfold va_up at hy1
      by_cases hj : j = i.toNatClampNeg
      · rw [if_pos hj] at hy1; cases hy1; exact qa_oS_hd hoS
      · rw [if_neg hj] at hy1; exact hoc j y1 hy1
    have he : qa_e φ ca (.inr (3, n, .inr (.inr (va_up f i.toNatClampNeg (some x))))) = .inl (ca 3, n, .inr (.inr (.inr (.inr (va_up (fun i => (f i).map φ) i.toNatClampNeg (some (φ x))))))) := by
      rw [← qa_up_map]; rfl
    refine va_astq hx hb hE.1 hI.1 hI.2.1 hS q0 3 q1 1 (r := (RX1, TX1, 8)) hq0 (qa_tys_3 ca) hq1 rfl hin hd (fun H1 locs1 hP1 hD1 hS1 => kk H1 locs1 ?_ hS1 (qa_oS_tl (qa_oS_tl (qa_oS_tl hoS))))
    rw [← he] at hP1 hD1
    exact qa_Hp_up (v := .inr (3, n, .inr (.inr (va_up f i.toNatClampNeg (some x))))) hI hal0 (fun n r t => by cases t) ho hP1 hD1
  | _ => cases hw
end QWR
end
section
/-! a step that makes a cell -/
section QMK
variable {p : Program} {l : Launch} {e : Env} {R : Room} {s : State} {m : MethodId} {args : Array Value} {below : List Frame} {meth : Method} {c : Code} {H : Heap} {locs : List Loc} {cells slots : Nat} {Q : State → Prop}
variable {M : qa_M} {D : va_G} {ca : Nat → ClassId} {b L z : Nat} {xs : Nat → Int32} {φ ψ : qa_P → Nat} {al : List qa_P} {h : qa_H} {pc len : Nat} {ls : Array Slot} {st : List qa_V}
/-- two maps that agree on what is ahead of nx -/
def qa_ag2 (nx : qa_P) (φ ψ : qa_P → Nat) : Prop := ∀ q, qa_lt q nx → ψ q = φ q
theorem qa_ag2_refl (nx : qa_P) (φ : qa_P → Nat) : qa_ag2 nx φ φ := fun _ _ => rfl
theorem qa_cv_ag {nx : qa_P} (h : qa_ag2 nx φ ψ) {v : qa_V} (hv : qa_ov nx v) : qa_cv ψ v = qa_cv φ v := by
  cases v with
  | inl y => show Value.ref _ = Value.ref _; rw [h y hv]
  | inr w => rfl
theorem qa_st_ag {nx : qa_P} (h : qa_ag2 nx φ ψ) {st : List qa_V} (hv : qa_oS nx st) : st.map (qa_cv ψ) = st.map (qa_cv φ) := List.map_congr_left fun v hm => qa_cv_ag h (hv v hm)
theorem qa_lm_ag {nx : qa_P} (h : qa_ag2 nx φ ψ) {lv : qa_L} (hv : qa_oL nx lv) : qa_lm ψ lv = qa_lm φ lv := List.map_congr_left fun q hm => by show (q.1, qa_cv ψ q.2) = (q.1, qa_cv φ q.2); rw [qa_cv_ag h (hv q hm)]
theorem qa_e_ag {nx : qa_P} (h : qa_ag2 nx φ ψ) {v : qa_C} (hv : qa_oC nx v) : qa_e ψ ca v = qa_e φ ca v := by
  obtain ⟨ci, f⟩ | ⟨τ, n, f | f | f⟩ := v
  · show (.inr (ci, qa_fs ψ ci f) : va_E) = .inr (ci, qa_fs φ ci f)
    unfold qa_fs
    rw [List.map_congr_left fun k _ => qa_cv_ag h (hv k)]
  · rfl
  · rfl
  · show (.inl (ca τ, n, .inr (.inr (.inr (.inr (fun i => (f i).map ψ))))) : va_E) = .inl (ca τ, n, .inr (.inr (.inr (.inr (fun i => (f i).map φ)))))
    rw [show (fun i => (f i).map ψ) = (fun i => (f i).map φ) from funext fun i => by
      cases hi : f i with
      | none => rfl
      | some y => show some (ψ y) = some (φ y); rw [h y (hv i y hi)]]
theorem qa_lt_trans {a d k : qa_P} (h1 : qa_lt a d) (h2 : qa_lt d k) : qa_lt a k := by
  unfold qa_lt at *
  omega
theorem qa_lt_nxt {a d : qa_P} (h1 : qa_lt a d) : qa_lt a (qa_nxt d) := by
  unfold qa_lt qa_nxt at *
  dsimp only
  omega
theorem qa_lt_self (d : qa_P) : qa_lt d (qa_nxt d) := by
  unfold qa_lt qa_nxt
  dsimp only
  omega
/-- a position from which on nothing stands, and what stands is ahead of it -/
def qa_fresh (nx y : qa_P) : Prop := ¬ qa_lt y nx ∧ ∀ q, qa_lt q nx → qa_lt q y
theorem qa_fresh_self (nx : qa_P) : qa_fresh nx nx := ⟨by unfold qa_lt; omega, fun _ h => h⟩
theorem qa_fresh_at (nx : qa_P) (v : qa_C) : qa_fresh nx (qa_at nx v) := by
  unfold qa_at
  split
  · refine ⟨?_, fun q hq => ?_⟩
    · unfold qa_lt; dsimp only; omega
    · unfold qa_lt at *; dsimp only; omega
  · exact qa_fresh_self nx
theorem qa_ov_mono {nx ny : qa_P} (h : ∀ q, qa_lt q nx → qa_lt q ny) {v : qa_V} (hv : qa_ov nx v) : qa_ov ny v := by
  cases v with
  | inl y => exact h y hv
  | inr w => trivial
theorem qa_oS_mono {nx ny : qa_P} (h : ∀ q, qa_lt q nx → qa_lt q ny) {st : List qa_V} (hv : qa_oS nx st) : qa_oS ny st := fun v hm => qa_ov_mono h (hv v hm)
theorem qa_oL_mono {nx ny : qa_P} (h : ∀ q, qa_lt q nx → qa_lt q ny) {lv : qa_L} (hv : qa_oL nx lv) : qa_oL ny lv := fun v hm => qa_ov_mono h (hv v hm)
theorem qa_oC_mono {nx ny : qa_P} (h : ∀ q, qa_lt q nx → qa_lt q ny) {v : qa_C} (hv : qa_oC nx v) : qa_oC ny v := by
  obtain ⟨ci, f⟩ | ⟨τ, n, f | f | f⟩ := v
  · exact fun k => qa_ov_mono h (hv k)
  · trivial
  · trivial
  · exact fun i y hi => h y (hv i y hi)
theorem qa_w_push {nx y : qa_P} {a : Nat} {v : qa_C} {hh : qa_P → qa_C} (hf : qa_fresh nx y) (hal : ∀ x ∈ al, qa_lt x nx) (hoc : ∀ x ∈ al, qa_oC nx (hh x)) :
    qa_w (fun q => if q = y then a else φ q) ca (al ++ [y]) (qa_up hh y v) = qa_w φ ca al hh ++ [(a, qa_e (fun q => if q = y then a else φ q) ca v)] := by
  have hag : qa_ag2 nx φ (fun q => if q = y then a else φ q) := fun q hq => if_neg (fun t => hf.1 (by rw [← t]; exact hq))
  unfold qa_w
  rw [List.map_append]
  congr 1
  · refine List.map_congr_left fun x hx => ?_
    have hne : x ≠ y := fun t => hf.1 (by rw [← t]; exact hal x hx)
    show (_, _) = (_, _)
    rw [qa_up_ne hne, qa_e_ag hag (hoc x hx), hag x (hal x hx)]
  · show [((if y = y then a else φ y), qa_e _ ca (qa_up hh y v y))] = _
    rw [if_pos rfl, qa_up_self]
theorem qa_Hp_push {y : qa_P} {a : Nat} {v : qa_C} {H1 : Heap} (hI : qa_Hp D ca b L z xs φ al h H) (hf : qa_fresh h.1 y) (h9 : ∀ n r, v ≠ .inr (9, n, r)) (ho : qa_oC (qa_nxt y) v) (hlive : qa_live v = true)
    (hP : va_P D vwCl (qa_w φ ca al h.2 ++ [(a, qa_e (fun q => if q = y then a else φ q) ca v)]) H1) (hD : va_D (qa_A z) (qa_w φ ca al h.2 ++ [(a, qa_e (fun q => if q = y then a else φ q) ca v)])) :
    qa_Hp D ca b L z xs (fun q => if q = y then a else φ q) (al ++ [y]) (qa_nxt y, qa_up h.2 y v) H1 := by
  rw [← qa_w_push hf hI.2.2.2.1 hI.2.2.2.2.2] at hP hD
  have hm : ∀ q, qa_lt q h.1 → qa_lt q (qa_nxt y) := fun q hq => qa_lt_nxt (hf.2 q hq)
  refine ⟨hP, hD, fun x hx => ?_, fun x hx => ?_, fun x n r hx => ?_, fun x hx => ?_⟩
  · by_cases e1 : x = y
    · rw [e1]; exact List.mem_append_right _ List.mem_cons_self
    · exact List.mem_append_left _ (hI.2.2.1 x (by rw [← qa_up_ne (h := h.2) (v := v) e1]; exact hx))
  · rcases List.mem_append.mp hx with h1 | h1
    · exact hm x (hI.2.2.2.1 x h1)
    · rw [List.mem_singleton.mp h1]; exact qa_lt_self y
  · by_cases e1 : x = y
    · rw [e1] at hx
      exact absurd ((qa_up_self h.2 y v).symm.trans hx) (h9 n r)
    · have h2 : h.2 x = .inr (9, n, r) := by rw [← qa_up_ne (h := h.2) (v := v) e1]; exact hx
      refine ⟨(hI.2.2.2.2.1 x n r h2).1, (hI.2.2.2.2.1 x n r h2).2.1, ?_⟩
      show (if x = y then a else φ x) = b
      rw [if_neg e1]
      exact (hI.2.2.2.2.1 x n r h2).2.2
  · show qa_oC (qa_nxt y) (qa_up h.2 y v x)
    by_cases e1 : x = y
    · rw [e1, qa_up_self]; exact ho
    · rw [qa_up_ne e1]
      rcases List.mem_append.mp hx with h1 | h1
      · exact qa_oC_mono hm (hI.2.2.2.2.2 x h1)
      · exact absurd (List.mem_singleton.mp h1) e1
theorem qa_nw_at {k i ci pl : Nat} (hk : k < 12) (h : qa_lk (qa_nw k) i = some (ci, pl)) : ∃ q, vwCl[ci]? = some q ∧ Cond.classLink (qa_cn k) i q.1 ∈ qa_gw := by
  have h1 := List.all_eq_true.mp (qa_nw_k k hk) _ (qa_lk_mem h)
  unfold qa_nk at h1
  dsimp only at h1
  split at h1
  · next q e => exact ⟨q, e, qa_gw_at h1⟩
  · cases h1
theorem qa_mk_new {i : Nat} {w : Nat × List qa_V × qa_C × Nat} (e : qa_mkc M (.new i) len pc st = some w) : ∃ ci pl, qa_lk (qa_nw (qa_cl M)) i = some (ci, pl) ∧ len = 3 ∧ w = (pc + 3, st, .inl (ci, fun j => .inr (defaultValue (qa_ft ci j))), qa_fz ci) := by
  unfold qa_mkc at e
  dsimp only at e
  split at e
  · next h1 =>
    split at e
    · next h3 => exact ⟨_, _, h1, h3, (Option.some.inj e).symm⟩
    · cases e
  · cases e
theorem qa_mk_arr {t : ArrayType} {w : Nat × List qa_V × qa_C × Nat} (e : qa_mkc M (.newarray t) len pc st = some w) : ∃ n r, st = .inr (.int n) :: r ∧ len = 2 ∧ ¬ n < 0 ∧ n.toNatClampNeg ≤ 60000000 ∧ ((t = .int ∧ w = (pc + 2, r, .inr (0, n.toNatClampNeg, .inl (fun _ => 0)), n.toNatClampNeg)) ∨ (t = .boolean ∧ w = (pc + 2, r, .inr (1, n.toNatClampNeg, .inl (fun _ => 0)), n.toNatClampNeg)) ∨ (t = .long ∧ w = (pc + 2, r, .inr (2, n.toNatClampNeg, .inr (.inl (fun _ => 0))), n.toNatClampNeg))) := by
  unfold qa_mkc at e
  dsimp only at e
  split at e
  · split at e
    · next h3 =>
      obtain ⟨h3, h4, h5⟩ := h3
      split at e
      · exact ⟨_, _, rfl, h3, h4, h5, Or.inl ⟨rfl, (Option.some.inj e).symm⟩⟩
      · exact ⟨_, _, rfl, h3, h4, h5, Or.inr (Or.inl ⟨rfl, (Option.some.inj e).symm⟩)⟩
      · exact ⟨_, _, rfl, h3, h4, h5, Or.inr (Or.inr ⟨rfl, (Option.some.inj e).symm⟩)⟩
      · cases e
    · cases e
  · cases e
theorem qa_mk_arq {i : Nat} {w : Nat × List qa_V × qa_C × Nat} (e : qa_mkc M (.anewarray i) len pc st = some w) : ∃ n r, st = .inr (.int n) :: r ∧ len = 3 ∧ ¬ n < 0 ∧ n.toNatClampNeg ≤ 60000000 ∧ Cond.classLink (qa_cn (qa_cl M)) i RX1 ∈ qa_gw ∧ w = (pc + 3, r, .inr (3, n.toNatClampNeg, .inr (.inr (fun _ => none))), n.toNatClampNeg) := by
  unfold qa_mkc at e
  dsimp only at e
  split at e
  · split at e
    · next h3 =>
      obtain ⟨h3, h4, h5, h6⟩ := h3
      obtain ⟨q, hq, h7⟩ := List.any_eq_true.mp h6
      simp only [Bool.and_eq_true, beq_iff_eq] at h7
      have h8 := List.all_eq_true.mp qa_an_k q hq
      rw [h7.1, h7.2] at h8
      exact ⟨_, _, rfl, h3, h4, h5, qa_gw_at h8, (Option.some.inj e).symm⟩
    · cases e
  · cases e
theorem qa_ca_eq {cA : ClassId} {τ : Nat} {ty : FieldType} (hK : va_K D vwCl (qa_tys ca) s) (ht : (qa_tys ca)[τ]? = some (ca τ, ty)) (h4 : va_K D vwCl (qa_tys ca ++ [(cA, ty)]) s) : cA = ca τ := by
  have h1 := (hK.2 τ _ ht).2
  have h2 := (h4.2 4 (cA, ty) rfl).2
  cases ty with
  | object n =>
    obtain ⟨_, _, -, -, -, e1⟩ := h1
    obtain ⟨_, _, -, -, -, e2⟩ := h2
    exact Option.some.inj (e2.symm.trans e1)
  | _ => exact Option.some.inj (h2.symm.trans h1)
set_option maxHeartbeats 1000000 in
theorem qa_mkW (hF : qa_Fr M p R s m args c) (hE : qa_En D ca b L z xs s) (hI : qa_Hp D ca b L z xs φ al h H) (hS : va_S (qa_A z) s.heap H locs) (hoS : qa_oS h.1 st)
    {ins : Instr} (hd : decode (qa_by M) pc = .ok (ins, len)) {w : Nat × List qa_V × qa_C × Nat} (hw : qa_mkc M ins len pc st = some w) (hcells : cells + 1 ≤ R.cells) (hslots : slots + w.2.2.2 ≤ R.slots)
    (kk : ∀ (ψ : qa_P → Nat) (al1 : List qa_P) (H1 : Heap), qa_ag2 h.1 φ ψ → qa_Hp D ca b L z xs ψ al1 (qa_nxt (qa_at h.1 w.2.2.1), qa_up h.2 (qa_at h.1 w.2.2.1) w.2.2.1) H1 → va_S (qa_A z) s.heap H1 locs → qa_oS h.1 w.2.1 → W p l e R s m args below meth c H1 locs (cells + 1) (slots + w.2.2.2) Q (F0 m w.1 ls ((.inl (qa_at h.1 w.2.2.1) :: w.2.1).map (qa_cv ψ)))) :
    W p l e R s m args below meth c H locs cells slots Q (F0 m pc ls (st.map (qa_cv φ))) := by
  obtain ⟨hx, hb, hml, hown, hts, hk, hfr, hlo⟩ := hF
  have hA : ∀ q, s.heap.size ≤ q → qa_A z q := fun q hq => Nat.le_trans hE.2.2.2.2.2.2.2.2 hq
  have fin : ∀ (y : qa_P) (a : Nat) (r : List qa_V), qa_fresh h.1 y → qa_oS h.1 r → ((.inl y :: r : List qa_V)).map (qa_cv (fun q => if q = y then a else φ q)) = .ref a :: r.map (qa_cv φ) := fun y a r hf hr => by
    have hag : qa_ag2 h.1 φ (fun q => if q = y then a else φ q) := fun q hq => if_neg (fun t => hf.1 (by rw [← t]; exact hq))
    rw [List.map_cons, qa_st_ag hag hr]
    show Value.ref (if y = y then a else φ y) :: _ = _
    rw [if_pos rfl]
  have agr : ∀ (y : qa_P) (a : Nat), qa_fresh h.1 y → qa_ag2 h.1 φ (fun q => if q = y then a else φ q) := fun y a hf q hq => if_neg (fun t => hf.1 (by rw [← t]; exact hq))
  cases ins with
  | new i =>
    obtain ⟨ci, pl, h2, rfl, rfl⟩ := qa_mk_new hw
    obtain ⟨q, hq, hlk⟩ := qa_nw_at hk h2
    have hfz := qa_fz_eq hq
    have hf := qa_fresh_at h.1 (.inl (ci, fun j => .inr (defaultValue (qa_ft ci j))))
    refine va_new (fs := qa_fs φ ci (fun j => .inr (defaultValue (qa_ft ci j)))) hx hb hts (qa_cws hq).2.2 (qa_ft ci) (qa_ft_ok hq).1 hown (hts _ hlk) (hts _ (qa_cws hq).2.1) (hts _ (qa_cws hq).1) hE.1 hI.1 hI.2.1 hS hA hq (fun j hj => ?_) hcells (by rw [← hfz]; exact hslots) hd (fun a H1 hP1 hD1 hS1 => ?_)
    · unfold vp_V
      rw [List.getD_eq_getElem?_getD, qa_fs_at hq hj]
      rfl
    · have K := kk _ _ H1 (agr _ a hf) (qa_Hp_push (a := a) (v := .inl (ci, fun j => .inr (defaultValue (qa_ft ci j)))) hI hf (fun n r t => by cases t) (fun _ => trivial) (decide_eq_true (qa_ft_ok hq).2.2.1) hP1 hD1) hS1 hoS
      rw [fin _ a _ hf hoS] at K
      rw [← hfz]
      exact K
  | newarray t =>
    obtain ⟨n, r, rfl, rfl, hn, hn2, hc⟩ := qa_mk_arr hw
    have hwa := List.all_eq_true.mp qa_ar_w
    rcases hc with ⟨rfl, rfl⟩ | ⟨rfl, rfl⟩ | ⟨rfl, rfl⟩
    · have hf := qa_fresh_at h.1 (.inr (0, n.toNatClampNeg, .inl (fun _ => 0)))
      refine va_newa (atype := .int) (ty := .int) (a0 := (n.toNatClampNeg, .inl (fun _ => 0))) hx hb (hts _ (qa_gw_in (hwa _ List.mem_cons_self))) rfl hE.1 hI.1 hI.2.1 hS hA (fun cA => rfl) hn rfl (show n.toNatClampNeg * 4 ≤ 536870912 by omega) hcells hslots hd (fun a cA H1 hK1 hP1 hD1 hS1 => ?_)
      cases qa_ca_eq hE.1 (qa_tys_0 ca) hK1
      have K := kk _ _ H1 (agr _ a hf) (qa_Hp_push (a := a) (v := .inr (0, n.toNatClampNeg, .inl (fun _ => 0))) hI hf (fun n r t => by cases t) trivial rfl hP1 hD1) hS1 (qa_oS_tl hoS)
      rw [fin _ a _ hf (qa_oS_tl hoS)] at K
      exact K
    · have hf := qa_fresh_at h.1 (.inr (1, n.toNatClampNeg, .inl (fun _ => 0)))
      refine va_newa (atype := .boolean) (ty := .boolean) (a0 := (n.toNatClampNeg, .inl (fun _ => 0))) hx hb (hts _ (qa_gw_in (hwa _ (List.mem_cons_of_mem _ List.mem_cons_self)))) rfl hE.1 hI.1 hI.2.1 hS hA (fun cA => rfl) hn rfl (show n.toNatClampNeg * 1 ≤ 536870912 by omega) hcells hslots hd (fun a cA H1 hK1 hP1 hD1 hS1 => ?_)
      cases qa_ca_eq hE.1 (qa_tys_1 ca) hK1
      have K := kk _ _ H1 (agr _ a hf) (qa_Hp_push (a := a) (v := .inr (1, n.toNatClampNeg, .inl (fun _ => 0))) hI hf (fun n r t => by cases t) trivial rfl hP1 hD1) hS1 (qa_oS_tl hoS)
      rw [fin _ a _ hf (qa_oS_tl hoS)] at K
      exact K
    · have hf := qa_fresh_at h.1 (.inr (2, n.toNatClampNeg, .inr (.inl (fun _ => 0))))
      refine va_newa (atype := .long) (ty := .long) (a0 := (n.toNatClampNeg, .inr (.inl (fun _ => 0)))) hx hb (hts _ (qa_gw_in (hwa _ (List.mem_cons_of_mem _ (List.mem_cons_of_mem _ List.mem_cons_self))))) rfl hE.1 hI.1 hI.2.1 hS hA (fun cA => rfl) hn rfl (show n.toNatClampNeg * 8 ≤ 536870912 by omega) hcells hslots hd (fun a cA H1 hK1 hP1 hD1 hS1 => ?_)
      cases qa_ca_eq hE.1 (qa_tys_2 ca) hK1
      have K := kk _ _ H1 (agr _ a hf) (qa_Hp_push (a := a) (v := .inr (2, n.toNatClampNeg, .inr (.inl (fun _ => 0)))) hI hf (fun n r t => by cases t) trivial rfl hP1 hD1) hS1 (qa_oS_tl hoS)
      rw [fin _ a _ hf (qa_oS_tl hoS)] at K
      exact K
  | anewarray i =>
    obtain ⟨n, r, rfl, rfl, hn, hn2, hlk, rfl⟩ := qa_mk_arq hw
    have hf := qa_fresh_at h.1 (.inr (3, n.toNatClampNeg, .inr (.inr (fun _ => none))))
    refine va_newq hx hb hown (hts _ hlk) hE.2.2.1 hE.1 hI.1 hI.2.1 hS hA hn rfl (show n.toNatClampNeg * 4 ≤ 536870912 by omega) hcells hslots hd (fun a cA H1 hK1 hP1 hD1 hS1 => ?_)
    cases qa_ca_eq hE.1 (qa_tys_3 ca) hK1
    have K := kk _ _ H1 (agr _ a hf) (qa_Hp_push (a := a) (v := .inr (3, n.toNatClampNeg, .inr (.inr (fun _ => none)))) hI hf (fun n r t => by cases t) (fun i y hy => by cases hy) rfl hP1 hD1) hS1 (qa_oS_tl hoS)
    rw [fin _ a _ hf (qa_oS_tl hoS)] at K
    exact K
  | _ => cases hw
end QMK
end
section
/-! contracts: what a run of the small machine says of the method -/
section QCO
variable {p : Program} {l : Launch} {e : Env} {R : Room} {s : State} {m : MethodId} {args : Array Value} {below : List Frame} {meth : Method} {c : Code} {H : Heap} {locs : List Loc} {cells slots : Nat} {Q : State → Prop}
variable {M : qa_M} {D : va_G} {ca : Nat → ClassId} {b L z : Nat} {xs : Nat → Int32} {φ ψ : qa_P → Nat} {al : List qa_P} {h : qa_H} {pc len : Nat} {ls : Array Slot} {st : List qa_V}
theorem qa_ini_RL : qa_in_tbl (Cond.initialized RL) = true := by decide +kernel
theorem qa_ini (k : Nat) : Cond.initialized (qa_cn k) ∈ qa_gw := by
  match k with
  | 0 => exact (qa_cws (k := 0) rfl).1
  | 1 => exact (qa_cws (k := 1) rfl).1
  | 2 => exact (qa_cws (k := 2) rfl).1
  | 3 => exact (qa_cws (k := 3) rfl).1
  | 4 => exact (qa_cws (k := 4) rfl).1
  | 5 => exact (qa_cws (k := 5) rfl).1
  | 6 => exact (qa_cws (k := 6) rfl).1
  | 7 => exact (qa_cws (k := 7) rfl).1
  | 8 => exact (qa_cws (k := 8) rfl).1
  | 9 => exact (qa_cws (k := 9) rfl).1
  | 10 => exact (qa_cws (k := 10) rfl).1
  | k + 11 => exact qa_gw_in qa_ini_RL
/-- the word of a method's code -/
def qa_cw (M : qa_M) : Cond := if (qa_hh M).isEmpty then .code (qa_nm M) (qa_by M) (qa_ml M) (qa_rt M) else .codeWith (qa_nm M) (qa_by M) (qa_ml M) (qa_rt M) (qa_hh M)
def qa_mw (M : qa_M) : List Cond := qa_cw M :: qa_gw
def qa_rm (M : qa_M) (k sl : Nat) : Room := { frames := qa_fr M, cells := k, slots := sl, locals := qa_lo M }
theorem qa_mk_sp (h : qa_mk M = true) : (qa_nm M).cls = qa_cn (qa_cl M) ∧ ((qa_nm M).cls ≠ "java/lang/invoke/MethodHandle" ∧ (qa_nm M).cls ≠ "java/lang/invoke/VarHandle") ∧ plainName (qa_nm M).cls = true ∧
    (parseMethodDescriptor (qa_nm M).desc).map (fun d => d.parameters.length) = some (if qa_sk M = 1 then qa_na M else qa_na M - 1) ∧ (qa_sk M = 1 ∨ 0 < qa_na M) ∧ (qa_sk M = 0 ↔ (qa_nm M).name = "<init>") ∧ qa_sk M < 3 ∧
    qa_cw M ∈ qa_gw ∧ (if qa_sk M = 1 then Cond.static (qa_nm M) else .instanceMethod (qa_nm M)) ∈ qa_gw ∧ (qa_sk M = 2 → Cond.selects (qa_cn (qa_cl M)) (qa_nm M) (qa_nm M) ∈ qa_gw) ∧ (qa_sk M = 0 → qa_rt M = none) := by
  unfold qa_mk at h
  simp only [Bool.and_eq_true] at h
  obtain ⟨⟨⟨⟨⟨⟨⟨⟨⟨⟨h1, h2⟩, h3⟩, h4⟩, h5⟩, h6⟩, h7⟩, h8⟩, h9⟩, h10⟩, h11⟩ := h
  refine ⟨of_decide_eq_true h1, of_decide_eq_true h2, h3, of_decide_eq_true h4, of_decide_eq_true h5, of_decide_eq_true h6, of_decide_eq_true h7, qa_gw_at h8, qa_gw_at h9, fun h2 => ?_, of_decide_eq_true h11⟩
  rw [Bool.or_eq_true] at h10
  rcases h10 with h10 | h10
  · exact absurd h2 (of_decide_eq_true h10)
  · exact qa_gw_at h10
theorem qa_gw_good {w : Cond} (h : w ∈ qa_gw) : w ∈ qa_gw ∧ ((w.onTables && w.keeps) = true ∨ ∃ ty, w = .arrayClass ty) := ⟨h, good_of_word (List.mem_filter.mp h).2⟩
theorem qa_mw_sub (hc : qa_cw M ∈ qa_gw) : ∀ w ∈ qa_mw M, w ∈ qa_gw := List.forall_mem_cons.mpr ⟨hc, fun _ h => h⟩
theorem qa_pay (hts : ∀ w ∈ qa_gw, w.before args s = true) (hc : qa_cw M ∈ qa_gw) : ∀ w ∈ qa_mw M, ∀ (a' : Array Value) (U : State), s.WarmedH U.vm → w.before a' U = true := pay_in hts fun w hw => qa_gw_good (qa_mw_sub hc w hw)
/-- how a run ends, over the machine -/
def qa_Qc (D : va_G) (ca : Nat → ClassId) (b L z : Nat) (xs : Nat → Int32) (φ : qa_P → Nat) (nx : qa_P) (res : Option qa_V ⊕ Nat) (h1 : qa_H) : Array Value → State → Outcome → State → Prop := fun _ st o t =>
  ∃ (v : Option qa_V) (ψ : qa_P → Nat) (al1 : List qa_P), res = .inl v ∧ o = .returned (v.map (qa_cv ψ)) ∧ qa_ag2 nx φ ψ ∧ (∀ q, qa_lt q nx → qa_lt q h1.1) ∧ qa_Hp D ca b L z xs ψ al1 h1 t.heap ∧ (∀ w, v = some w → qa_ov h1.1 w) ∧ va_F (qa_A z) st t
def qa_is3 (k : Nat) : Prop := k = 342 ∨ k = 345 ∨ k = 348
def qa_Xc (D : va_G) (ca : Nat → ClassId) (b L z : Nat) (xs : Nat → Int32) (φ : qa_P → Nat) (nx : qa_P) (res : Option qa_V ⊕ Nat) (h1 : qa_H) : String → State → State → Prop := fun E st t =>
  ∃ (k : Nat) (ψ : qa_P → Nat) (al1 : List qa_P), res = .inr k ∧ E = qa_xn k ∧ qa_is3 k ∧ qa_ag2 nx φ ψ ∧ (∀ q, qa_lt q nx → qa_lt q h1.1) ∧ qa_Hp D ca b L z xs ψ al1 h1 t.heap ∧ va_F (qa_A z) st t
def qa_Pc (D : va_G) (ca : Nat → ClassId) (b L z : Nat) (xs : Nat → Int32) (φ : qa_P → Nat) (al : List qa_P) (h : qa_H) (avs : List qa_V) : Array Value → State → Prop :=
  va_Pc (avs.map (qa_cv φ)) (fun U => qa_En D ca b L z xs U ∧ qa_Hp D ca b L z xs φ al h U.heap)
/-- the contract of a method, for one start and one end of the small machine -/
def qa_Ct (l : Launch) (D : va_G) (ca : Nat → ClassId) (b L z : Nat) (xs : Nat → Int32) (M : qa_M) (φ : qa_P → Nat) (al : List qa_P) (h : qa_H) (avs : List qa_V) (r : qa_Z) : Prop :=
  vx_Met l (qa_nm M) (qa_mw M) (qa_rm M r.2.2.1 r.2.2.2) (qa_Pc D ca b L z xs φ al h avs) (qa_Qc D ca b L z xs φ h.1 r.1 r.2.1) (qa_Xc D ca b L z xs φ h.1 r.1 r.2.1) r.2.2.1 r.2.2.2 (qa_A z)
theorem qa_nwo_tab {w : Cond} (h : qa_nwo w = true) : w.onTables = true := by
  cases w <;> first | rfl | cases h
theorem qa_nwo_warm {w : Cond} {U : State} (h : qa_nwo w = true) (hW : s.WarmedH U.vm) (hw : va_Nw w s) : va_Nw w U := by
  cases w <;> first | exact va_Nw.warmM hW hw | exact va_Nw.warmC hW hw | exact va_Nw.warmD hW hw | cases h
theorem qa_En_same {u U : State} (hv : u.vm = U.vm) (hh : U.heap = u.heap) (hE : qa_En D ca b L z xs u) : qa_En D ca b L z xs U := by
  have hal : u.vm.Alike U.vm := by rw [← hv]; exact Vm.Alike.refl u.vm
  obtain ⟨h1, h2, h3, h4, h5, h6, h7, h8, h9⟩ := hE
  refine ⟨h1.moved hal, fun w hw => va_Nw.same (qa_nwo_tab (List.mem_filter.mp hw).2) hv (h2 w hw), va_AO.moved hal h3, fun q hq => (h4 q hq).moved hal, ?_, ?_, ?_, h8, by rw [hh]; exact h9⟩
  · rw [hh]; exact h5.moved hal
  · rw [hh]; exact vx_Zq.moved hal h6
  · rw [hh]; exact vx_Zq.moved hal h7
theorem qa_En_warm {U : State} (hW : s.WarmedH U.vm) (hh : U.heap = H) (hS : va_S (qa_A z) s.heap H locs) (hE : qa_En D ca b L z xs s) : qa_En D ca b L z xs U := by
  subst hh
  have hal : s.vm.Alike U.vm := hW.alike
  obtain ⟨h1, h2, h3, h4, h5, h6, h7, h8, h9⟩ := hE
  have hb : U.heap[b]? = s.heap[b]? := hS.2.1 b (Nat.lt_of_lt_of_le h8 h9) (Nat.not_le.mpr h8)
  exact ⟨h1.moved hal, fun w hw => qa_nwo_warm (List.mem_filter.mp hw).2 hW (h2 w hw), va_AO.moved hal h3, fun q hq => (h4 q hq).moved hal, (h5.kept hb).moved hal, vx_Zq.moved hal (h6.kept hS.2.1), vx_Zq.moved hal (h7.kept hS.2.1), h8, Nat.le_trans h9 hS.1⟩
theorem qa_Pc_blind {avs : List qa_V} : FrameBlind (qa_Pc D ca b L z xs φ al h avs) := by
  intro a U g mk hq
  obtain ⟨q0, q1, q2⟩ := hq
  exact ⟨q0, qa_En_same (u := U) (U := U.calling g mk a) rfl rfl q1, q2⟩
theorem qa_Met {mc ms : Nat} {res : Option qa_V ⊕ Nat} {v : Option qa_V} {h1 : qa_H} {nx : qa_P} {y : MethodName} {ws : List Cond} {rm : Room} {Pc : Array Value → State → Prop} (hr : res = .inl v)
    (hM : vx_Met l y ws rm Pc (qa_Qc D ca b L z xs φ nx res h1) (qa_Xc D ca b L z xs φ nx res h1) mc ms (qa_A z)) : Met l y ws rm Pc (qa_Qc D ca b L z xs φ nx res h1) mc ms (qa_A z) := by
  intro p e ha hc hk s m args below hf happ hP hK
  obtain ⟨n, o, a1, a2, a3, a4⟩ := hM p e ha hc hk s m args below hf happ hP hK
  refine ⟨n, o, a1, a2, a3, ?_⟩
  rcases a4 with a4 | ⟨q, -, E, ce, LL, ⟨k, ψ, al1, h9, -⟩, -⟩
  · exact a4
  · rw [hr] at h9; cases h9
theorem qa_run {mc ms : Nat} {g : JFrame} {rest : List Value} {Qa : State → Outcome → State → Prop} {XC : String → State → State → Prop} {free : Addr → Prop} (hr : va_Run p l e R s m args below meth c H locs cells slots mc ms g rest Qa free) : vx_Run p l e R s m args below meth c H locs cells slots mc ms g rest Qa XC free :=
  fun T hT X => Or.inl (hr T hT X)
/-- behind a call -/
theorem qa_callW {mc ms : Nat} {st0 rest : List Value} {a : Array Value} {res : Option qa_V ⊕ Nat} {h1 : qa_H} {nx : qa_P} (hr : vx_Run p l e R s m args below meth c H locs cells slots mc ms (F0 m pc ls st0) rest (qa_Qc D ca b L z xs φ nx res h1 a) (qa_Xc D ca b L z xs φ nx res h1) (qa_A z)) (hS : va_S (qa_A z) s.heap H locs)
    (kx : ∀ (k : Nat) (ψ : qa_P → Nat) (al1 : List qa_P) (ce : Cell) (q9 : Addr) (H1 : Heap) (locs1 : List Loc), res = .inr k → qa_is3 k → qa_ag2 nx φ ψ → (∀ q, qa_lt q nx → qa_lt q h1.1) → qa_Hp D ca b L z xs ψ al1 h1 H1 → va_S (qa_A z) s.heap H1 locs1 → H1[q9]? = some ce → ce.vm = .none → s.vm.findClass (qa_xn k) = some ce.cls → vx_W p l e R s m args below meth c H1 locs1 (cells + mc) (slots + ms) Q (F0 m pc ls rest) q9)
    (kk : ∀ (v : Option qa_V) (ψ : qa_P → Nat) (al1 : List qa_P) (H1 : Heap) (locs1 : List Loc), res = .inl v → qa_ag2 nx φ ψ → (∀ q, qa_lt q nx → qa_lt q h1.1) → qa_Hp D ca b L z xs ψ al1 h1 H1 → (∀ w, v = some w → qa_ov h1.1 w) → va_S (qa_A z) s.heap H1 locs1 → W p l e R s m args below meth c H1 locs1 (cells + mc) (slots + ms) Q (F0 m (pc + 3) ls ((v.map (qa_cv ψ)).toList ++ rest))) : W p l e R s m args below meth c H locs cells slots Q (F0 m pc ls st0) := by
  intro T hT X
  rcases hr T hT X with ⟨v, st₀, t, T', LL, h0, X', hL, e1, e2, ⟨v1, ψ, al1, hv, ho, hag, hmo, hp, hov, hF⟩, st⟩ | ⟨q, st₀, t, T', LL, E, ce, h0, X', hL, e1, e2, ⟨k, ψ, al1, hv, hE, h3, hag, hmo, hp, hF⟩, hce, hcv, hcl, st⟩
  · cases ho
    obtain ⟨k1, k2, k3⟩ := vx_keep h0 e1 hS (fun _ _ h => h) (fun _ h => h) hL hF
    obtain ⟨t2, a1, b1⟩ := kk v1 ψ al1 T'.heap (locs ++ LL) hv hag hmo (by rw [e1]; exact hp) hov k3 T' rfl X'
    exact ⟨t2, st t2 a1, b1⟩
  · obtain ⟨k1, k2, k3⟩ := vx_keep h0 e1 hS (fun _ _ h => h) (fun _ h => h) hL hF
    subst hE
    obtain ⟨t2, a1, b1⟩ := kx k ψ al1 ce q T'.heap (locs ++ LL) hv h3 hag hmo (by rw [e1]; exact hp) k3 (by rw [e1]; exact hce) hcv hcl T' rfl X'
    exact ⟨t2, st.trans a1, b1⟩
/-- what a call asks for -/
theorem qa_inv_sp {h : qa_P → qa_C} {ins : Instr} {M1 : qa_M} {nest : Bool} {avs rest : List qa_V} (e : qa_inv M h ins len st = some (M1, nest, avs, rest)) : ∃ i pl, ((ins = .invokevirtual i ∧ qa_sk M1 = 2) ∨ (ins = .invokespecial i ∧ qa_sk M1 = 0) ∨ (ins = .invokestatic i ∧ qa_sk M1 = 1)) ∧ qa_lk (qa_ca (qa_cl M)) i = some (M1, nest, pl) ∧
    len = 3 ∧ avs.length = qa_na M1 ∧ st = avs.reverse ++ rest ∧ (rest.map qa_cat).sum ≤ 8 ∧ (avs.map qa_cat).sum ≤ qa_ml M1 ∧ qa_fr M1 + 1 ≤ qa_fr M ∧ 19 + qa_ml M1 + qa_lo M1 ≤ qa_lo M ∧ ((qa_hh M1).isEmpty = true ∨ (qa_sk M1 = 1 ∧ nest = false)) ∧ (qa_sk M1 = 1 ∨ ∃ x as f, avs = .inl x :: as ∧ h x = .inl (qa_cl M1, f)) := by
  have key : ∀ (i sk : Nat), (match qa_lk (qa_ca (qa_cl M)) i with
    | some (M', nest, _) =>
      if len = 3 ∧ qa_sk M' = sk ∧ qa_na M' ≤ st.length ∧ ((st.drop (qa_na M')).map qa_cat).sum ≤ 8 ∧ ((st.take (qa_na M')).map qa_cat).sum ≤ qa_ml M' ∧ qa_fr M' + 1 ≤ qa_fr M ∧ 19 + qa_ml M' + qa_lo M' ≤ qa_lo M ∧ ((qa_hh M').isEmpty = true ∨ (sk = 1 ∧ nest = false))
        ∧ (sk = 1 ∨ qa_rc h (qa_cl M') (st.take (qa_na M')).getLast? = true)
      then some (M', nest, (st.take (qa_na M')).reverse, st.drop (qa_na M')) else none
    | none => none) = some (M1, nest, avs, rest) → ∃ pl, qa_sk M1 = sk ∧ qa_lk (qa_ca (qa_cl M)) i = some (M1, nest, pl) ∧
      len = 3 ∧ avs.length = qa_na M1 ∧ st = avs.reverse ++ rest ∧ (rest.map qa_cat).sum ≤ 8 ∧ (avs.map qa_cat).sum ≤ qa_ml M1 ∧ qa_fr M1 + 1 ≤ qa_fr M ∧ 19 + qa_ml M1 + qa_lo M1 ≤ qa_lo M ∧ ((qa_hh M1).isEmpty = true ∨ (sk = 1 ∧ nest = false)) ∧ (sk = 1 ∨ ∃ x as f, avs = .inl x :: as ∧ h x = .inl (qa_cl M1, f)) := by
    intro i sk e
    split at e
    · next M' nest' pl hlk =>
      split at e
      · next hc =>
        cases e
        obtain ⟨c1, c2, c3, c4, c5, c6, c7, c8, c9⟩ := hc
        refine ⟨pl, c2, hlk, c1, ?_, ?_, c4, ?_, c6, c7, c8, ?_⟩
        · rw [List.length_reverse, List.length_take, Nat.min_eq_left c3]
        · rw [List.reverse_reverse, List.take_append_drop]
        · rw [List.map_reverse, List.sum_reverse]; exact c5
        · rcases c9 with c9 | c9
          · exact Or.inl c9
          · refine Or.inr ?_
            unfold qa_rc at c9
            split at c9
            · next x hx =>
              split at c9
              · next cj f hf =>
                have h9 : cj = qa_cl M1 := of_decide_eq_true c9
                subst h9
                obtain ⟨ys, hys⟩ := List.getLast?_eq_some_iff.mp hx
                exact ⟨x, ys.reverse, f, by rw [hys, List.reverse_append]; rfl, hf⟩
              · cases c9
            · cases c9
      · cases e
    · cases e
  unfold qa_inv at e
  dsimp only at e
  split at e
  · obtain ⟨pl, e0, e1⟩ := key _ _ e
    exact ⟨_, pl, Or.inl ⟨rfl, e0⟩, by rw [e0]; exact e1⟩
  · obtain ⟨pl, e0, e1⟩ := key _ _ e
    exact ⟨_, pl, Or.inr (Or.inl ⟨rfl, e0⟩), by rw [e0]; exact e1⟩
  · obtain ⟨pl, e0, e1⟩ := key _ _ e
    exact ⟨_, pl, Or.inr (Or.inr ⟨rfl, e0⟩), by rw [e0]; exact e1⟩
  · cases e
theorem qa_ca_at {k i pl : Nat} {M1 : qa_M} {nest : Bool} (hk : k < 12) (h : qa_lk (qa_ca k) i = some (M1, nest, pl)) : qa_Ok M1 ∧ (nest = false → Cond.methodLink (qa_cn k) i (qa_nm M1) ∈ qa_gw) ∧ (nest = true → Cond.methodLinkNest (qa_cn k) i (qa_nm M1) RX9 ∈ qa_nwl) := by
  have h0 := qa_lk_mem h
  have h1 := List.all_eq_true.mp (qa_ca_k k hk) _ h0
  refine ⟨qa_co k _ h0, fun e1 => ?_, fun e1 => ?_⟩
  · subst e1
    unfold qa_ck at h1
    rw [if_neg (fun t => by cases t)] at h1
    exact qa_gw_at h1
  · subst e1
    unfold qa_ck at h1
    rw [if_pos rfl] at h1
    exact List.mem_filter.mpr ⟨List.mem_of_getElem? (of_decide_eq_true h1), rfl⟩
def qa_cqb (e : Nat × qa_M × Bool × Nat) : Bool := decide ((qa_sk e.2.1 = 1 ∨ qa_cl e.2.1 < 11) ∧ qa_cl e.2.1 < 12 ∧ ((qa_hh e.2.1).isEmpty = true ∨ qa_cl e.2.1 = 11))
theorem qa_cq_0 : (qa_ca 0).all qa_cqb = true := by decide +kernel
theorem qa_cq_1 : (qa_ca 1).all qa_cqb = true := by decide +kernel
theorem qa_cq_2 : (qa_ca 2).all qa_cqb = true := by decide +kernel
theorem qa_cq_3 : (qa_ca 3).all qa_cqb = true := by decide +kernel
theorem qa_cq_4 : (qa_ca 4).all qa_cqb = true := by decide +kernel
theorem qa_cq_5 : (qa_ca 5).all qa_cqb = true := by decide +kernel
theorem qa_cq_6 : (qa_ca 6).all qa_cqb = true := by decide +kernel
theorem qa_cq_7 : (qa_ca 7).all qa_cqb = true := by decide +kernel
theorem qa_cq_8 : (qa_ca 8).all qa_cqb = true := by decide +kernel
theorem qa_cq_9 : (qa_ca 9).all qa_cqb = true := by decide +kernel
theorem qa_cq_10 : (qa_ca 10).all qa_cqb = true := by decide +kernel
theorem qa_cq_11 : (qa_ca 11).all qa_cqb = true := by decide +kernel
theorem qa_cq (k : Nat) (hk : k < 12) : (qa_ca k).all qa_cqb = true := by
  match k, hk with
  | 0, _ => exact qa_cq_0
  | 1, _ => exact qa_cq_1
  | 2, _ => exact qa_cq_2
  | 3, _ => exact qa_cq_3
  | 4, _ => exact qa_cq_4
  | 5, _ => exact qa_cq_5
  | 6, _ => exact qa_cq_6
  | 7, _ => exact qa_cq_7
  | 8, _ => exact qa_cq_8
  | 9, _ => exact qa_cq_9
  | 10, _ => exact qa_cq_10
  | 11, _ => exact qa_cq_11
  | _ + 12, h => exact absurd h (by omega)
theorem qa_cq_at {k i pl : Nat} {M1 : qa_M} {nest : Bool} (hk : k < 12) (h : qa_lk (qa_ca k) i = some (M1, nest, pl)) : (qa_sk M1 = 1 ∨ qa_cl M1 < 11) ∧ qa_cl M1 < 12 ∧ ((qa_hh M1).isEmpty = true ∨ qa_cl M1 = 11) := of_decide_eq_true (List.all_eq_true.mp (qa_cq k hk) _ (qa_lk_mem h))
theorem qa_parse {n : Nat} {d : String} (h : (parseMethodDescriptor d).map (fun d => d.parameters.length) = some n) : ∀ sig, parseMethodDescriptor d = some sig → n = sig.parameters.length := by
  intro sig hs
  rw [hs] at h
  exact (Option.some.inj h).symm
set_option maxHeartbeats 1000000 in
/-- the call itself: the callee's contract stands -/
theorem qa_invW {M1 : qa_M} {nest : Bool} {avs rest : List qa_V} {ins : Instr} {r : qa_Z} (hF : qa_Fr M p R s m args c) (hE : qa_En D ca b L z xs s) (hI : qa_Hp D ca b L z xs φ al h H) (hS : va_S (qa_A z) s.heap H locs) (hsz : ls.size = qa_ml M)
    (hd : decode (qa_by M) pc = .ok (ins, len)) (hinv : qa_inv M h.2 ins len st = some (M1, nest, avs, rest)) (hC : qa_Ok M1 → qa_Ct l D ca b L z xs M1 φ al h avs r) (hthr : (nest = true ∨ qa_sk M1 = 0) → ∃ v, r.1 = .inl v) (hcells : cells + r.2.2.1 ≤ R.cells) (hslots : slots + r.2.2.2 ≤ R.slots) :
    ∃ a, vx_Run p l e R s m args below meth c H locs cells slots r.2.2.1 r.2.2.2 (F0 m pc ls (st.map (qa_cv φ))) (rest.map (qa_cv φ)) (qa_Qc D ca b L z xs φ h.1 r.1 r.2.1 a) (qa_Xc D ca b L z xs φ h.1 r.1 r.2.1) (qa_A z) := by
  obtain ⟨hx, hb, hml, hown, hts, hk, hfr, hlo⟩ := hF
  obtain ⟨i, pl, hins, hlk, rfl, hna, rfl, hc8, hcl, hf1, hl1, hhh, hrc⟩ := qa_inv_sp hinv
  obtain ⟨hok, hw1, hw2⟩ := qa_ca_at hk hlk
  obtain ⟨g1, g2, g3, g4, g5, g6, g7, g8, g9, g10, g11⟩ := qa_mk_sp hok.2
  have hC := hC hok
  have hR1 : (qa_rm M1 r.2.2.1 r.2.2.2).frames + 1 ≤ R.frames := Nat.le_trans hf1 hfr
  have hR2 : 8 + (qa_ml M1 + 11) + (qa_rm M1 r.2.2.1 r.2.2.2).locals ≤ R.locals := by
    show 8 + (qa_ml M1 + 11) + qa_lo M1 ≤ R.locals
    omega
  have hini : (Cond.initialized (qa_nm M1).cls).before args s = true := hts _ (by rw [g1]; exact qa_ini _)
  have hfix : CallFix p m c (qa_by M) (qa_ml M) s args qa_gw (qa_cn (qa_cl M)) := ⟨hx, hb, hml, hown, hts⟩
  have hPU : ∀ U : State, U.heap = H → s.WarmedH U.vm → qa_Pc D ca b L z xs φ al h avs (avs.map (qa_cv φ)).toArray U := fun U hU hW => ⟨rfl, qa_En_warm hW hU hS hE, by rw [hU]; exact hI⟩
  have hpay := qa_pay (M := M1) hts g8
  have hst : ∀ av : List qa_V, (av.reverse ++ rest).map (qa_cv φ) = (av.map (qa_cv φ)).reverse ++ rest.map (qa_cv φ) := fun av => by rw [List.map_append, List.map_reverse]
  have hroom : 2 * (F0 m pc ls ((avs.reverse ++ rest).map (qa_cv φ))).monitorRoom + ((rest.map (qa_cv φ)).map fun v => v.category).sum ≤ 8 := lv_room (by rw [qa_cats]; exact hc8)
  by_cases hem : (qa_hh M1).isEmpty = true
  · have hcw : qa_cw M1 = .code (qa_nm M1) (qa_by M1) (qa_ml M1) (qa_rt M1) := by unfold qa_cw; rw [if_pos hem]
    have hcin : Cond.code (qa_nm M1) (qa_by M1) (qa_ml M1) (qa_rt M1) ∈ qa_mw M1 := by unfold qa_mw; rw [hcw]; exact List.mem_cons_self
    have hcb : (Cond.code (qa_nm M1) (qa_by M1) (qa_ml M1) (qa_rt M1)).before args s = true := hts _ (by rw [← hcw]; exact g8)
    rcases hins with ⟨rfl, hsk⟩ | ⟨rfl, hsk⟩ | ⟨rfl, hsk⟩
    · rcases hrc with hrc | ⟨x, as, f, rfl, hxf⟩
      · omega
      · rw [if_neg (by omega)] at g4 g9
        have hal : x ∈ al := hI.2.2.1 x (by rw [hxf]; exact decide_eq_true ((qa_cq_at hk hlk).1.resolve_left (by omega)))
        obtain ⟨q0, -, hq0⟩ := qa_w_at (φ := φ) (ca := ca) (h := h.2) hal
        rw [hxf] at hq0
        obtain ⟨q, hq⟩ : ∃ q, vwCl[qa_cl M1]? = some q := by
          obtain ⟨r9, h9, -⟩ := hI.1 q0 _ hq0
          exact ⟨r9, h9⟩
        have hrecv := va_recv hE.1 hI.1 hq hq0
        rw [(qa_ft_ok hq).2.2.2, ← g1] at hrecv
        have hsel := hts _ (g10 hsk)
        rw [← g1] at hsel
        have hlen : (as.map (qa_cv φ)).length = qa_na M1 - 1 := by rw [List.length_map, ← hna]; rfl
        refine ⟨(Value.ref (φ x) :: as.map (qa_cv φ)).toArray, ?_⟩
        have hpre : PreV s H (qa_nm M1).cls (φ x) (qa_Pc D ca b L z xs φ al h (.inl x :: as)) (as.map (qa_cv φ)) := ⟨qa_Pc_blind, hrecv, hPU⟩
        have hstk : (F0 m pc ls (((.inl x :: as : List qa_V).reverse ++ rest).map (qa_cv φ))).stack = (as.map (qa_cv φ)).reverse ++ .ref (φ x) :: rest.map (qa_cv φ) := by
          show ((.inl x :: as : List qa_V).reverse ++ rest).map (qa_cv φ) = _
          rw [hst, List.map_cons, List.reverse_cons, List.append_assoc]
          rfl
        by_cases hn : nest = true
        · obtain ⟨v, hv⟩ := hthr (Or.inl hn)
          exact qa_run (va_runVN hfix (qa_Met hv hC) ⟨⟨⟨rfl, rfl, hR1, hR2, hpay, hcin⟩, hcb, hini, g2, qa_parse g4, (hE.2.1 _ (hw2 hn)).use rfl⟩, hts _ g9, hsel⟩ hpre rfl hlen hsz hstk hroom hd ⟨hcells, hslots⟩)
        · exact vx_runV hfix hC ⟨⟨rfl, rfl, hR1, hR2, hpay, hcin, hcb, hini, g2, qa_parse g4, hts _ (hw1 (Bool.eq_false_iff.mpr hn))⟩, hts _ g9, hsel⟩ hpre rfl hlen hsz hstk hroom hd ⟨hcells, hslots⟩
    · rcases hrc with hrc | ⟨x, as, f, rfl, hxf⟩
      · omega
      · rw [if_neg (by omega)] at g4 g9
        obtain ⟨v, hv⟩ := hthr (Or.inr hsk)
        have hlen : (as.map (qa_cv φ)).length = qa_na M1 - 1 := by rw [List.length_map, ← hna]; rfl
        refine ⟨(Value.ref (φ x) :: as.map (qa_cv φ)).toArray, ?_⟩
        have hpre : PreS s H (qa_Pc D ca b L z xs φ al h (.inl x :: as)) (.ref (φ x) :: as.map (qa_cv φ)) := ⟨qa_Pc_blind, hPU⟩
        have hstk : (F0 m pc ls (((.inl x :: as : List qa_V).reverse ++ rest).map (qa_cv φ))).stack = (as.map (qa_cv φ)).reverse ++ .ref (φ x) :: rest.map (qa_cv φ) := by
          show ((.inl x :: as : List qa_V).reverse ++ rest).map (qa_cv φ) = _
          rw [hst, List.map_cons, List.reverse_cons, List.append_assoc]
          rfl
        rw [g11 hsk] at hcin hcb
        by_cases hn : nest = true
        · exact qa_run (va_runIN hfix (qa_Met hv hC) ⟨⟨⟨rfl, rfl, hR1, hR2, hpay, hcin⟩, hcb, hini, g2, qa_parse g4, (hE.2.1 _ (hw2 hn)).use rfl⟩, g6.mp hsk, hts _ g9⟩ hpre rfl hlen hsz hstk hroom hd ⟨hcells, hslots⟩)
        · exact qa_run (va_runI hfix (qa_Met hv hC) ⟨⟨rfl, rfl, hR1, hR2, hpay, hcin, hcb, hini, g2, qa_parse g4, hts _ (hw1 (Bool.eq_false_iff.mpr hn))⟩, g6.mp hsk, hts _ g9⟩ hpre rfl hlen hsz hstk hroom hd ⟨hcells, hslots⟩)
    · rw [if_pos hsk] at g4 g9
      have hlen : (avs.map (qa_cv φ)).length = qa_na M1 := by rw [List.length_map, hna]
      refine ⟨(avs.map (qa_cv φ)).toArray, ?_⟩
      have hpre : PreS s H (qa_Pc D ca b L z xs φ al h avs) (avs.map (qa_cv φ)) := ⟨qa_Pc_blind, hPU⟩
      by_cases hn : nest = true
      · obtain ⟨v, hv⟩ := hthr (Or.inl hn)
        exact qa_run (va_runSN hfix (qa_Met hv hC) ⟨⟨⟨rfl, rfl, hR1, hR2, hpay, hcin⟩, hcb, hini, g2, qa_parse g4, (hE.2.1 _ (hw2 hn)).use rfl⟩, hts _ g9, trivial⟩ hpre rfl hlen hsz (hst avs) hroom hd ⟨hcells, hslots⟩)
      · exact vx_runS hfix hC ⟨⟨rfl, rfl, hR1, hR2, hpay, hcin, hcb, hini, g2, qa_parse g4, hts _ (hw1 (Bool.eq_false_iff.mpr hn))⟩, hts _ g9⟩ hpre rfl hlen hsz (hst avs) hroom hd ⟨hcells, hslots⟩
  · obtain ⟨hsk, hn⟩ := hhh.resolve_left hem
    have hcw : qa_cw M1 = .codeWith (qa_nm M1) (qa_by M1) (qa_ml M1) (qa_rt M1) (qa_hh M1) := by unfold qa_cw; rw [if_neg hem]
    have hcin : Cond.codeWith (qa_nm M1) (qa_by M1) (qa_ml M1) (qa_rt M1) (qa_hh M1) ∈ qa_mw M1 := by unfold qa_mw; rw [hcw]; exact List.mem_cons_self
    have hcb : (Cond.codeWith (qa_nm M1) (qa_by M1) (qa_ml M1) (qa_rt M1) (qa_hh M1)).before args s = true := hts _ (by rw [← hcw]; exact g8)
    rw [if_pos hsk] at g4 g9
    rcases hins with ⟨rfl, hsk2⟩ | ⟨rfl, hsk2⟩ | ⟨rfl, -⟩
    · omega
    · omega
    · have hlen : (avs.map (qa_cv φ)).length = qa_na M1 := by rw [List.length_map, hna]
      refine ⟨(avs.map (qa_cv φ)).toArray, ?_⟩
      have hpre : PreS s H (qa_Pc D ca b L z xs φ al h avs) (avs.map (qa_cv φ)) := ⟨qa_Pc_blind, hPU⟩
      exact vx_runSX hfix hC ⟨⟨rfl, rfl, hR1, hR2, hpay, hcin⟩, hcb, hini, g2, qa_parse g4, hts _ (hw1 hn), hts _ g9⟩ hpre rfl hlen hsz (hst avs) hroom hd ⟨hcells, hslots⟩
end QCO
end
section
/-! a run of the small machine is a run of the machine -/
section QMA
theorem qa_xw_342 : (Cond.classLink RX9 342 (qa_xn 342) :: Cond.initialized (qa_xn 342) :: (vx_at0 RX9 344 (qa_xn 342) ["java/lang/RuntimeException", "java/lang/Exception"]).filter goodWord).all qa_in_tbl = true := by decide +kernel
theorem qa_xw_345 : (Cond.classLink RX9 345 (qa_xn 345) :: Cond.initialized (qa_xn 345) :: (vx_at0 RX9 347 (qa_xn 345) ["java/lang/RuntimeException", "java/lang/Exception"]).filter goodWord).all qa_in_tbl = true := by decide +kernel
theorem qa_xw_348 : (Cond.classLink RX9 348 (qa_xn 348) :: Cond.initialized (qa_xn 348) :: (vx_at0 RX9 350 (qa_xn 348) ["java/lang/RuntimeException", "java/lang/Exception"]).filter goodWord).all qa_in_tbl = true := by decide +kernel
def qa_nw_tbl (w : Cond) : Bool := decide (w ∈ lw_tbl) && qa_nwo w
theorem qa_yw_342 : ((vx_at0 RX9 344 (qa_xn 342) ["java/lang/RuntimeException", "java/lang/Exception"]).filter (fun w => !goodWord w)).all qa_nw_tbl = true := by decide +kernel
theorem qa_yw_345 : ((vx_at0 RX9 347 (qa_xn 345) ["java/lang/RuntimeException", "java/lang/Exception"]).filter (fun w => !goodWord w)).all qa_nw_tbl = true := by decide +kernel
theorem qa_yw_348 : ((vx_at0 RX9 350 (qa_xn 348) ["java/lang/RuntimeException", "java/lang/Exception"]).filter (fun w => !goodWord w)).all qa_nw_tbl = true := by decide +kernel
theorem qa_zw_342 : (Cond.classLink RX9 342 (qa_xn 342) :: Cond.initialized (qa_xn 342) :: vx_at0 RX9 344 (qa_xn 342) ["java/lang/RuntimeException", "java/lang/Exception"]).all vx_ot = true := by decide +kernel
theorem qa_zw_345 : (Cond.classLink RX9 345 (qa_xn 345) :: Cond.initialized (qa_xn 345) :: vx_at0 RX9 347 (qa_xn 345) ["java/lang/RuntimeException", "java/lang/Exception"]).all vx_ot = true := by decide +kernel
theorem qa_zw_348 : (Cond.classLink RX9 348 (qa_xn 348) :: Cond.initialized (qa_xn 348) :: vx_at0 RX9 350 (qa_xn 348) ["java/lang/RuntimeException", "java/lang/Exception"]).all vx_ot = true := by decide +kernel
theorem qa_cs_342 : ([Cond.castable (qa_xn 342) (qa_xn 342), .castable (qa_xn 345) (qa_xn 345), .castable (qa_xn 348) (qa_xn 348)] : List Cond).all qa_nw_tbl = true := by decide +kernel
theorem qa_nw_in {w : Cond} (h : qa_nw_tbl w = true) : w ∈ qa_nwl := by
  unfold qa_nw_tbl at h
  simp only [Bool.and_eq_true] at h
  exact List.mem_filter.mpr ⟨of_decide_eq_true h.1, h.2⟩
theorem qa_xs {i ik ic : Nat} {nm : String} (h : qa_lk qa_xl i = some (nm, ik, ic)) : qa_is3 i ∧ nm = qa_xn i ∧ ik = i ∧ Bundle.fit (qa_xn i) = true ∧ (Cond.classLink RX9 i (qa_xn i) :: Cond.initialized (qa_xn i) :: (vx_at0 RX9 ic (qa_xn i) ["java/lang/RuntimeException", "java/lang/Exception"]).filter goodWord).all qa_in_tbl = true ∧
    ((vx_at0 RX9 ic (qa_xn i) ["java/lang/RuntimeException", "java/lang/Exception"]).filter (fun w => !goodWord w)).all qa_nw_tbl = true ∧ (Cond.classLink RX9 i (qa_xn i) :: Cond.initialized (qa_xn i) :: vx_at0 RX9 ic (qa_xn i) ["java/lang/RuntimeException", "java/lang/Exception"]).all vx_ot = true := by
  have h1 := qa_lk_mem h
  simp only [qa_xl, List.mem_cons, List.not_mem_nil, or_false, Prod.mk.injEq] at h1
  rcases h1 with ⟨rfl, rfl, rfl, rfl⟩ | ⟨rfl, rfl, rfl, rfl⟩ | ⟨rfl, rfl, rfl, rfl⟩
  · exact ⟨Or.inl rfl, rfl, rfl, by decide +kernel, qa_xw_342, qa_yw_342, qa_zw_342⟩
  · exact ⟨Or.inr (Or.inl rfl), rfl, rfl, by decide +kernel, qa_xw_345, qa_yw_345, qa_zw_345⟩
  · exact ⟨Or.inr (Or.inr rfl), rfl, rfl, by decide +kernel, qa_xw_348, qa_yw_348, qa_zw_348⟩
theorem qa_cast3 {k : Nat} (h : qa_is3 k) : Cond.castable (qa_xn k) (qa_xn k) ∈ qa_nwl := by
  have h1 := List.all_eq_true.mp qa_cs_342
  rcases h with rfl | rfl | rfl
  · exact qa_nw_in (h1 _ List.mem_cons_self)
  · exact qa_nw_in (h1 _ (List.mem_cons_of_mem _ List.mem_cons_self))
  · exact qa_nw_in (h1 _ (List.mem_cons_of_mem _ (List.mem_cons_of_mem _ List.mem_cons_self)))
theorem qa_ncl3 {k j : Nat} (h : qa_is3 k) (h2 : qa_is3 j) (hne : j ≠ k) : (qa_xn k, qa_xn j) ∈ qa_ncl := by
  rcases h with rfl | rfl | rfl <;> rcases h2 with rfl | rfl | rfl <;> first | exact absurd rfl hne | decide +kernel
theorem qa_ht3 {ct k : Nat} (h : qa_lk qa_ht ct = some k) : qa_is3 k ∧ ct ≠ 0 ∧ Cond.classLink RL ct (qa_xn k) ∈ qa_gw := by
  obtain ⟨q, hq, e1, e2⟩ := qa_ht_k _ (qa_lk_mem h)
  have h1 := List.all_eq_true.mp qa_hq_k q hq
  dsimp only at e1 e2
  rw [e1, e2] at h1
  refine ⟨?_, ?_, qa_gw_at h1⟩
  · have h2 := qa_lk_mem h
    simp only [qa_ht, List.mem_cons, List.not_mem_nil, or_false, Prod.mk.injEq] at h2
    rcases h2 with ⟨-, rfl⟩ | ⟨-, rfl⟩ | ⟨-, rfl⟩
    · exact Or.inl rfl
    · exact Or.inr (Or.inr rfl)
    · exact Or.inr (Or.inl rfl)
  · have h2 := qa_lk_mem h
    simp only [qa_ht, List.mem_cons, List.not_mem_nil, or_false, Prod.mk.injEq] at h2
    omega
/-- the handler that the small machine finds is the one that takes the exception -/
theorem qa_hd_sp : ∀ (hh : List (Nat × Nat × Nat × Nat)) (pc E t : Nat), qa_hd hh pc E = some t → ∃ (pre : List ExceptionTableEntry) (x : ExceptionTableEntry) (suf : List ExceptionTableEntry), tableOf hh = pre ++ x :: suf ∧
    (∀ y ∈ pre, covers y pc = false ∨ ∃ j, qa_lk qa_ht y.catchType = some j ∧ j ≠ E) ∧ covers x pc = true ∧ qa_lk qa_ht x.catchType = some E ∧ x.handlerPc = t
  | [], pc, E, t, h => by cases h
  | (a, d, tg, ct) :: l, pc, E, t, h => by
    unfold qa_hd at h
    split at h
    · next hc =>
      split at h
      · next j hj =>
        split at h
        · next he =>
          cases h
          subst he
          exact ⟨[], ⟨a, d, tg, ct⟩, tableOf l, rfl, fun y hy => absurd hy List.not_mem_nil, by show (decide (a ≤ pc) && decide (pc < d)) = true; rw [decide_eq_true hc.1, decide_eq_true hc.2]; rfl, hj, rfl⟩
        · next he =>
          obtain ⟨pre, x, suf, h1, h2, h3, h4, h5⟩ := qa_hd_sp l pc E t h
          refine ⟨⟨a, d, tg, ct⟩ :: pre, x, suf, by show (⟨a, d, tg, ct⟩ : ExceptionTableEntry) :: tableOf l = _; rw [h1]; rfl, ?_, h3, h4, h5⟩
          exact List.forall_mem_cons.mpr ⟨Or.inr ⟨j, hj, he⟩, h2⟩
      · cases h
    · next hc =>
      obtain ⟨pre, x, suf, h1, h2, h3, h4, h5⟩ := qa_hd_sp l pc E t h
      refine ⟨⟨a, d, tg, ct⟩ :: pre, x, suf, by show (⟨a, d, tg, ct⟩ : ExceptionTableEntry) :: tableOf l = _; rw [h1]; rfl, ?_, h3, h4, h5⟩
      refine List.forall_mem_cons.mpr ⟨Or.inl ?_, h2⟩
      show (decide (a ≤ pc) && decide (pc < d)) = false
      by_cases h6 : a ≤ pc
      · rw [decide_eq_false (fun h7 : pc < d => hc ⟨h6, h7⟩), Bool.and_false]
      · rw [decide_eq_false h6, Bool.false_and]
variable {p : Program} {l : Launch} {e : Env} {R : Room} {s : State} {m : MethodId} {args : Array Value} {below : List Frame} {meth : Method} {c : Code} {H : Heap} {locs : List Loc} {cells slots : Nat} {Q : State → Prop}
variable {M : qa_M} {D : va_G} {ca : Nat → ClassId} {b L z : Nat} {xs : Nat → Int32} {φ ψ : qa_P → Nat} {al : List qa_P} {h : qa_H} {pc len : Nat} {ls : Array Slot} {st : List qa_V}
theorem qa_de_at {ins : Instr} (h : qa_de M = true) (e : qa_lk (qa_is M) pc = some (ins, len)) : decode (qa_by M) pc = .ok (ins, len) := by
  have h1 : (qa_is M).all (fun q => decide (decode (qa_by M) q.1 = .ok (q.2.1, q.2.2))) = true := h
  have h2 := List.all_eq_true.mp h1 _ (qa_lk_mem e)
  dsimp only at h2
  exact of_decide_eq_true h2
theorem qa_re_inv {ret : Option FieldType} {ins : Instr} {v : Option qa_V} (e : qa_re ret ins len st = some v) : len = 1 ∧ st = v.toList := by
  unfold qa_re at e
  split at e
  · split at e
    · split at e
      · split at e
        · next hc => cases e; exact ⟨hc.1, rfl⟩
        · cases e
      · cases e
    · cases e
  · split at e
    · split at e
      · next hc => cases e; exact ⟨hc.1, rfl⟩
      · cases e
    · cases e
  · split at e
    · split at e
      · next hc => cases e; exact ⟨hc.1, rfl⟩
      · cases e
    · cases e
  · split at e
    · split at e
      · next hc => cases e; exact ⟨hc.1, rfl⟩
      · cases e
    · cases e
  · cases e
theorem qa_reW {ins : Instr} {v : Option qa_V} {Qc : Array Value → State → Outcome → State → Prop} {XC : String → State → State → Prop} {free : Addr → Prop} (hx : p.tables.exec = Jvm.exec) (hb : c.code = qa_by M) (hr : meth.sig.returnType = qa_rt M) (hlocks : meth.locks = false) (hd : decode (qa_by M) pc = .ok (ins, 1)) (hre : qa_re (qa_rt M) ins 1 v.toList = some v)
    (hq : ∀ t : State, t.heap = H → Qc args s (.returned (v.map (qa_cv ψ))) t) (hf : ∀ q ∈ locs, free q.base) : W p l e R s m args below meth c H locs cells slots (vx_MQ below Qc XC args s cells slots free) (F0 m pc ls (v.toList.map (qa_cv ψ))) := by
  cases ins with
  | ireturn =>
    obtain _ | ⟨y | w⟩ := v
    · cases hre
    · cases hre
    · cases w with
      | int x =>
        unfold qa_re at hre
        dsimp only [Option.toList] at hre
        split at hre
        · next ty hty =>
          split at hre
          · next hc => exact vx_ret (W.zret hx hb (hr.trans hty) hc.2 (fun t ht _ => hq t ht) hf hd hlocks)
          · cases hre
        · cases hre
      | _ => cases hre
  | lreturn =>
    obtain _ | ⟨y | w⟩ := v
    · cases hre
    · cases hre
    · cases w with
      | long x =>
        unfold qa_re at hre
        dsimp only [Option.toList] at hre
        split at hre
        · next hc => exact vx_ret (W.lret hx hb (hr.trans hc.2) (fun t ht _ => hq t ht) hf hd hlocks)
        · cases hre
      | _ => cases hre
  | dreturn =>
    obtain _ | ⟨y | w⟩ := v
    · cases hre
    · cases hre
    · cases w with
      | double x =>
        unfold qa_re at hre
        dsimp only [Option.toList] at hre
        split at hre
        · next hc => exact vx_ret (W.dret hx hb (hr.trans hc.2) (fun t ht _ => hq t ht) hf hd hlocks)
        · cases hre
      | _ => cases hre
  | return_ =>
    obtain _ | w := v
    · unfold qa_re at hre
      dsimp only [Option.toList] at hre
      split at hre
      · next hc => exact vx_ret (W.vret hx hb (hr.trans hc.2) (fun t ht _ => hq t ht) hf hd hlocks)
      · cases hre
    · cases hre
  | _ => cases hre
/-- what is owed where the run returns, where it throws, and where a callee's exception leaves it -/
def qa_kR (p : Program) (l : Launch) (e : Env) (R : Room) (s : State) (m : MethodId) (args : Array Value) (below : List Frame) (meth : Method) (c : Code) (Q : State → Prop) (M : qa_M) (D : va_G) (ca : Nat → ClassId) (b L z : Nat) (xs : Nat → Int32) (φ : qa_P → Nat) (nx : qa_P) (res : Option qa_V ⊕ Nat) (h1 : qa_H) (K S : Nat) : Prop :=
  ∀ (v : Option qa_V) (ψ : qa_P → Nat) (al1 : List qa_P) (H1 : Heap) (locs1 : List Loc) (pc1 : Nat) (ls1 : Array Slot) (ins : Instr), res = .inl v → qa_ag2 nx φ ψ → (∀ q, qa_lt q nx → qa_lt q h1.1) → qa_Hp D ca b L z xs ψ al1 h1 H1 → va_S (qa_A z) s.heap H1 locs1 → (∀ w, v = some w → qa_ov h1.1 w) →
    decode (qa_by M) pc1 = .ok (ins, 1) → qa_re (qa_rt M) ins 1 v.toList = some v → W p l e R s m args below meth c H1 locs1 K S Q (F0 m pc1 ls1 (v.toList.map (qa_cv ψ)))
def qa_k1 (p : Program) (l : Launch) (e : Env) (R : Room) (s : State) (m : MethodId) (args : Array Value) (below : List Frame) (meth : Method) (c : Code) (Q : State → Prop) (M : qa_M) (D : va_G) (ca : Nat → ClassId) (b L z : Nat) (xs : Nat → Int32) (φ : qa_P → Nat) (nx : qa_P) (res : Option qa_V ⊕ Nat) (h1 : qa_H) (K S : Nat) : Prop :=
  ∀ (E : Nat) (ψ : qa_P → Nat) (al1 : List qa_P) (H1 : Heap) (locs1 : List Loc) (pc1 : Nat) (ls1 : Array Slot) (st1 : List qa_V) (ins : Instr) (len1 cells1 slots1 : Nat), res = .inr E → qa_ag2 nx φ ψ → (∀ q, qa_lt q nx → qa_lt q h1.1) → qa_Hp D ca b L z xs ψ al1 h1 H1 → va_S (qa_A z) s.heap H1 locs1 → ls1.size = qa_ml M →
    decode (qa_by M) pc1 = .ok (ins, len1) → qa_th M ins len1 pc1 st1 = some E → cells1 + 1 = K → slots1 + 6 = S → W p l e R s m args below meth c H1 locs1 cells1 slots1 Q (F0 m pc1 ls1 (st1.map (qa_cv ψ)))
def qa_k2 (p : Program) (l : Launch) (e : Env) (R : Room) (s : State) (m : MethodId) (args : Array Value) (below : List Frame) (meth : Method) (c : Code) (Q : State → Prop) (M : qa_M) (D : va_G) (ca : Nat → ClassId) (b L z : Nat) (xs : Nat → Int32) (φ : qa_P → Nat) (nx : qa_P) (res : Option qa_V ⊕ Nat) (h1 : qa_H) (K S : Nat) : Prop :=
  ∀ (E : Nat) (ψ : qa_P → Nat) (al1 : List qa_P) (H1 : Heap) (locs1 : List Loc) (pc1 : Nat) (ls1 : Array Slot) (rest : List Value) (ce : Cell) (q : Addr), res = .inr E → qa_is3 E → qa_ag2 nx φ ψ → (∀ q, qa_lt q nx → qa_lt q h1.1) → qa_Hp D ca b L z xs ψ al1 h1 H1 → va_S (qa_A z) s.heap H1 locs1 → (qa_hh M).isEmpty = true →
    H1[q]? = some ce → ce.vm = .none → s.vm.findClass (qa_xn E) = some ce.cls → vx_W p l e R s m args below meth c H1 locs1 K S Q (F0 m pc1 ls1 rest) q
def qa_Ks (p : Program) (l : Launch) (e : Env) (R : Room) (s : State) (m : MethodId) (args : Array Value) (below : List Frame) (meth : Method) (c : Code) (Q : State → Prop) (M : qa_M) (D : va_G) (ca : Nat → ClassId) (b L z : Nat) (xs : Nat → Int32) (φ : qa_P → Nat) (nx : qa_P) (res : Option qa_V ⊕ Nat) (h1 : qa_H) (K S : Nat) : Prop :=
  qa_kR p l e R s m args below meth c Q M D ca b L z xs φ nx res h1 K S ∧ qa_k1 p l e R s m args below meth c Q M D ca b L z xs φ nx res h1 K S ∧ qa_k2 p l e R s m args below meth c Q M D ca b L z xs φ nx res h1 K S
theorem qa_ag2_tr {nx ny : qa_P} {χ : qa_P → Nat} (h1 : qa_ag2 nx φ ψ) (hm : ∀ q, qa_lt q nx → qa_lt q ny) (h2 : qa_ag2 ny ψ χ) : qa_ag2 nx φ χ := fun q hq => (h2 q (hm q hq)).trans (h1 q hq)
theorem qa_Ks_on {nx ny : qa_P} {res : Option qa_V ⊕ Nat} {h1 : qa_H} {K S : Nat} (h1' : qa_ag2 nx φ ψ) (hm : ∀ q, qa_lt q nx → qa_lt q ny) (hk : qa_Ks p l e R s m args below meth c Q M D ca b L z xs φ nx res h1 K S) : qa_Ks p l e R s m args below meth c Q M D ca b L z xs ψ ny res h1 K S := by
  obtain ⟨k0, k1, k2⟩ := hk
  refine ⟨?_, ?_, ?_⟩
  · intro v χ al1 H1 locs1 pc1 ls1 ins a1 a2 a3
    exact k0 v χ al1 H1 locs1 pc1 ls1 ins a1 (qa_ag2_tr h1' hm a2) (fun q hq => a3 q (hm q hq))
  · intro E χ al1 H1 locs1 pc1 ls1 st1 ins len1 cells1 slots1 a1 a2 a3
    exact k1 E χ al1 H1 locs1 pc1 ls1 st1 ins len1 cells1 slots1 a1 (qa_ag2_tr h1' hm a2) (fun q hq => a3 q (hm q hq))
  · intro E χ al1 H1 locs1 pc1 ls1 rest ce q a1 a2 a3 a4
    exact k2 E χ al1 H1 locs1 pc1 ls1 rest ce q a1 a2 (qa_ag2_tr h1' hm a3) (fun q hq => a4 q (hm q hq))
/-- a run from a frame on -/
def qa_FL (l : Launch) (D : va_G) (ca : Nat → ClassId) (b L z : Nat) (xs : Nat → Int32) (n : Nat) : Prop :=
  ∀ (M : qa_M) (pc : Nat) (lv : qa_L) (st : List qa_V) (h : qa_H) (r : qa_Z), qa_de M = true → qa_ex n M pc lv st h = some r →
  ∀ (p : Program) (e : Env) (R : Room) (s : State) (m : MethodId) (args : Array Value) (below : List Frame) (meth : Method) (c : Code) (H : Heap) (locs : List Loc) (cells slots : Nat) (Q : State → Prop) (φ : qa_P → Nat) (al : List qa_P) (ls : Array Slot) (K S : Nat),
    qa_Fr M p R s m args c → (qa_sk M = 0 → meth.name = "<init>") → qa_En D ca b L z xs s → ((qa_hh M).isEmpty = true ∨ (c.exceptionTable.toList = tableOf (qa_hh M) ∧ qa_cl M = 11)) → cells + r.2.2.1 = K → slots + r.2.2.2 = S → K ≤ R.cells → S ≤ R.slots →
    qa_Hp D ca b L z xs φ al h H → va_S (qa_A z) s.heap H locs → lv_has ls (qa_ml M) (qa_lm φ lv) → qa_oL h.1 lv → qa_oS h.1 st → qa_Ks p l e R s m args below meth c Q M D ca b L z xs φ h.1 r.1 r.2.1 K S →
    W p l e R s m args below meth c H locs cells slots Q (F0 m pc ls (st.map (qa_cv φ)))
theorem qa_cats_ag : ∀ (i : Nat) (vs : List qa_V), lv_args i (vs.map (qa_cv φ)) = qa_lm φ (qa_ag i vs)
  | _, [] => rfl
  | i, v :: vs => by
    show (i, qa_cv φ v) :: lv_args (if (qa_cv φ v).category = 2 then i + 2 else i + 1) (vs.map (qa_cv φ)) = (i, qa_cv φ v) :: qa_lm φ (qa_ag (if qa_cat v = 2 then i + 2 else i + 1) vs)
    rw [qa_cv_cat, qa_cats_ag]
theorem qa_oL_ag {nx : qa_P} : ∀ (i : Nat) (vs : List qa_V), qa_oS nx vs → qa_oL nx (qa_ag i vs)
  | _, [], _ => fun _ h => nomatch h
  | i, v :: vs, h => List.forall_mem_cons.mpr ⟨qa_oS_hd h, qa_oL_ag _ vs (qa_oS_tl h)⟩
theorem qa_sl_len (vs : List qa_V) : (lg_sl (vs.map (qa_cv φ))).length = (vs.map qa_cat).sum := by
  induction vs with
  | nil => rfl
  | cons v vs ih =>
    have h1 : lg_sl ((v :: vs).map (qa_cv φ)) = (if (qa_cv φ v).category = 2 then [.val (qa_cv φ v), .second] else [.val (qa_cv φ v)]) ++ lg_sl (vs.map (qa_cv φ)) := rfl
    rw [h1, List.length_append, ih, List.map_cons, List.sum_cons, qa_cv_cat]
    congr 1
    rcases lv_cat (qa_cv φ v) with h2 | h2
    · rw [qa_cv_cat] at h2
      rw [h2]; rfl
    · rw [qa_cv_cat] at h2
      rw [h2]; rfl
theorem qa_th_sp {ins : Instr} {E : Nat} (e : qa_th M ins len pc st = some E) : ∃ ic, ins = .new E ∧ len = 3 ∧ qa_lk qa_xl E = some (qa_xn E, E, ic) ∧ qa_cl M = 9 ∧ (qa_hh M).isEmpty = true ∧ 6 ≤ qa_fr M ∧ 90 ≤ qa_lo M ∧ (st.map qa_cat).sum ≤ 8 ∧ qa_lk (qa_is M) (pc + 3) = some (.dup, 1) ∧ qa_lk (qa_is M) (pc + 4) = some (.invokespecial ic, 3) ∧ qa_lk (qa_is M) (pc + 7) = some (.athrow, 1) := by
  unfold qa_th at e
  split at e
  · split at e
    · next nm ik ic hlk =>
      split at e
      · next hc =>
        obtain ⟨c1, rfl, c3, c4, c5, c6, c7, c8, c9, c10⟩ := hc
        cases e
        have h2 := (qa_xs hlk).2.1
        subst h2
        exact ⟨ic, rfl, c1, hlk, c3, c4, c5, c6, c7, c8, c9, c10⟩
      · cases e
    · cases e
  · cases e
theorem qa_Hp_kept {H1 : Heap} (hI : qa_Hp D ca b L z xs φ al h H) (hk : ∀ q : Nat, q < H.size → H1[q]? = H[q]?) : qa_Hp D ca b L z xs φ al h H1 :=
  ⟨hI.1.kept (fun k q hq => hk q.1 (hI.1 k q hq).lt), hI.2⟩
/-- a caught exception takes a position of its own -/
theorem qa_Hp_junk {a : Nat} {f : Nat → qa_V} (hI : qa_Hp D ca b L z xs φ al h H) : qa_Hp D ca b L z xs (fun q => if q = h.1 then a else φ q) al (qa_nxt h.1, qa_up h.2 h.1 (.inl (99, f))) H := by
  have hf := qa_fresh_self h.1
  have hag : qa_ag2 h.1 φ (fun q => if q = h.1 then a else φ q) := fun q hq => if_neg (fun t => hf.1 (by have hq2 := hq; rw [t] at hq2; exact hq2))
  have hne : ∀ x ∈ al, x ≠ h.1 := fun x hx t => hf.1 (by have := hI.2.2.2.1 x hx; rw [t] at this; exact this)
  have hw : qa_w (fun q => if q = h.1 then a else φ q) ca al (qa_up h.2 h.1 (.inl (99, f))) = qa_w φ ca al h.2 := by
    unfold qa_w
    refine List.map_congr_left fun x hx => ?_
    show (_, _) = (_, _)
    rw [qa_up_ne (hne x hx), qa_e_ag hag (hI.2.2.2.2.2 x hx), hag x (hI.2.2.2.1 x hx)]
  refine ⟨?_, ?_, fun x hx => ?_, fun x hx => qa_lt_nxt (hI.2.2.2.1 x hx), fun x n r hx => ?_, fun x hx => ?_⟩
  · show va_P D vwCl (qa_w _ ca al (qa_up h.2 h.1 (.inl (99, f)))) H
    rw [hw]; exact hI.1
  · show va_D (qa_A z) (qa_w _ ca al (qa_up h.2 h.1 (.inl (99, f))))
    rw [hw]; exact hI.2.1
  · by_cases e1 : x = h.1
    · rw [e1] at hx
      rw [show (qa_nxt h.1, qa_up h.2 h.1 (.inl (99, f))).2 h.1 = .inl (99, f) from qa_up_self _ _ _] at hx
      cases hx
    · exact hI.2.2.1 x (by rw [← qa_up_ne (h := h.2) (v := .inl (99, f)) e1]; exact hx)
  · by_cases e1 : x = h.1
    · rw [e1] at hx
      rw [show (qa_nxt h.1, qa_up h.2 h.1 (.inl (99, f))).2 h.1 = .inl (99, f) from qa_up_self _ _ _] at hx
      cases hx
    · have h2 : h.2 x = .inr (9, n, r) := by rw [← qa_up_ne (h := h.2) (v := .inl (99, f)) e1]; exact hx
      refine ⟨(hI.2.2.2.2.1 x n r h2).1, (hI.2.2.2.2.1 x n r h2).2.1, ?_⟩
      show (if x = h.1 then a else φ x) = b
      rw [if_neg e1]
      exact (hI.2.2.2.2.1 x n r h2).2.2
  · show qa_oC (qa_nxt h.1) (qa_up h.2 h.1 (.inl (99, f)) x)
    rw [qa_up_ne (hne x hx)]
    exact qa_oC_mono (fun q hq => qa_lt_nxt hq) (hI.2.2.2.2.2 x hx)
/-- the contract of a method out of its run -/
theorem qa_body {y : MethodName} {ws : List Cond} {rm : Room} {n : Nat} {avs : List qa_V} {r : qa_Z} {s₁ : State} (hlst : l.stackTraces = false) (hfl : qa_FL l D ca b L z xs n) (hok : qa_Ok M) (hk : qa_cl M < 12) (hh11 : (qa_hh M).isEmpty = true ∨ qa_cl M = 11) (hav : qa_oS h.1 avs) (hsl : (avs.map qa_cat).sum ≤ qa_ml M)
    (hex : qa_ex n M 0 (qa_ag 0 avs) [] h = some r) (hy : y = qa_nm M) (hrm : rm = qa_rm M r.2.2.1 r.2.2.2)
    (B : BodyLoose p l y (headSpec ws rm) (qa_by M) (qa_ml M) (qa_rt M) e s m args below meth c s₁) (hml : c.maxLocals = qa_ml M) (hws : ∀ w ∈ qa_gw, w ∈ ws) (htab : c.exceptionTable.toList = tableOf (qa_hh M)) (hP : qa_Pc D ca b L z xs φ al h avs args s) :
    W p l e (headSpec ws rm).room s m args below meth c s.heap [] 0 0 (vx_MQ below (qa_Qc D ca b L z xs φ h.1 r.1 r.2.1) (qa_Xc D ca b L z xs φ h.1 r.1 r.2.1) args s r.2.2.1 r.2.2.2 (qa_A z)) (entryFrame m args (qa_ml M)) := by
  obtain ⟨rfl, hE, hI⟩ := hP
  subst hrm
  subst hy
  obtain ⟨g1, g2, g3, g4, g5, g6, g7, g8, g9, g10, g11⟩ := qa_mk_sp hok.2
  have hts : ∀ w ∈ qa_gw, w.before (avs.map (qa_cv φ)).toArray s = true := fun w hw => atoms_spec (ws := ws) B.pre w (hws w hw)
  have hown : s.vm.findClass (qa_cn (qa_cl M)) = some m.cls := by rw [← g1]; exact findClass_of_methodNamed B.named
  have hFr : qa_Fr M p (headSpec ws (qa_rm M r.2.2.1 r.2.2.2)).room s m (avs.map (qa_cv φ)).toArray c := ⟨B.exec, B.bytes, hml, hown, hts, hk, Nat.le_refl _, Nat.le_refl _⟩
  have hini : qa_sk M = 0 → meth.name = "<init>" := fun h0 => (name_of_methodNamed B.named B.method).1.trans (g6.mp h0)
  rw [lg_entry_eq]
  have hl := lv_entry (avs.map (qa_cv φ)) (n := qa_ml M) (by rw [qa_sl_len]; exact hsl)
  rw [qa_cats_ag] at hl
  refine hfl M 0 (qa_ag 0 avs) [] h r hok.1 hex p e _ s m _ below meth c s.heap [] 0 0 _ φ al _ r.2.2.1 r.2.2.2 hFr hini hE (hh11.imp id (fun t => ⟨htab, t⟩)) (Nat.zero_add _) (Nat.zero_add _) (Nat.le_refl _) (Nat.le_refl _) hI va_S.rf hl (qa_oL_ag 0 avs hav) (fun _ h => nomatch h) ⟨?_, ?_, ?_⟩
  · intro v ψ al1 H1 locs1 pc1 ls1 ins a1 a2 a3 a4 a5 a6 a7 a8
    exact qa_reW B.exec B.bytes B.returns B.notSynchronized a7 a8 (fun t ht => ⟨v, ψ, al1, a1, rfl, a2, a3, by rw [ht]; exact a4, a6, a5.F ht⟩) a5.2.2
  · intro E ψ al1 H1 locs1 pc1 ls1 st1 ins len1 cells1 slots1 a1 a2 a3 a4 a5 a6 a7 a8 a9 a10
    obtain ⟨ic, rfl, rfl, t3, t4, t5, t6, t7, t8, t9, t10, t11⟩ := qa_th_sp a8
    obtain ⟨x1, -, -, x4, x5, x6, x7⟩ := qa_xs t3
    rw [t4] at hown
    have hw5 := List.all_eq_true.mp x5
    have hemp : c.exceptionTable.toList = [] := by rw [htab, List.isEmpty_iff.mp t5]; rfl
    refine vx_throw0 (names := ["java/lang/RuntimeException", "java/lang/Exception"]) (A := qa_A z) B.exec B.bytes hlst hown x4 (by decide +kernel) (hts _ (qa_gw_in (hw5 _ List.mem_cons_self))) (hts _ (qa_gw_in (hw5 _ (List.mem_cons_of_mem _ List.mem_cons_self))))
      (vx_hat (B := qa_nwl) (fun w hw => hts _ (qa_gw_in (hw5 _ (List.mem_cons_of_mem _ (List.mem_cons_of_mem _ hw))))) (fun w hw => qa_nw_in (List.all_eq_true.mp x6 w hw)) (fun w hw => (hE.2.1 w hw).use (qa_nwo_tab (List.mem_filter.mp hw).2)))
      (List.all_eq_true.mp x7) hE.2.2.2.2.2.1 hE.2.2.2.2.2.2.1 a5 (a6.trans hml.symm) a7 (qa_de_at hok.1 t9) (qa_de_at hok.1 t10) (qa_de_at hok.1 t11) (by rw [hemp]; exact fun x hx => nomatch hx) ?_ ?_ (Nat.le_of_eq a9) (Nat.le_of_eq a10) B.notSynchronized ?_ a5.2.2 (Nat.le_of_eq a9) (Nat.le_of_eq a10)
    · show 2 + 3 < qa_fr M
      omega
    · show ((st1.map (qa_cv ψ)).map fun v => v.category).sum + (13 * (2 + 1) + 42) ≤ qa_lo M
      rw [qa_cats]
      omega
    · intro t hal hz hk1
      refine ⟨E, ψ, al1, a1, rfl, x1, a2, a3, qa_Hp_kept a4 hk1, Nat.le_trans a5.1 hz, fun q h1 h2 => ?_⟩
      rw [hk1 q (Nat.lt_of_lt_of_le h1 a5.1)]
      exact a5.2.1 q h1 h2
  · intro E ψ al1 H1 locs1 pc1 ls1 rest ce q a1 a2 a3 a4 a5 a6 a7 a8 a9 a10
    have hemp : c.exceptionTable.toList = [] := by rw [htab, List.isEmpty_iff.mp a7]; rfl
    exact vx_out (by rw [hemp]; exact fun x hx => nomatch hx) B.notSynchronized a8 a9 a10 (fun t ht _ => ⟨E, ψ, al1, a1, rfl, a2, a3, a4, by rw [ht]; exact a5, a6.F ht⟩) a6.2.2 (Nat.le_refl _) (Nat.le_refl _)
theorem qa_ct_of {n : Nat} {avs : List qa_V} {r : qa_Z} (hlst : l.stackTraces = false) (hfl : qa_FL l D ca b L z xs n) (hok : qa_Ok M) (hk : qa_cl M < 12) (hh11 : (qa_hh M).isEmpty = true ∨ qa_cl M = 11) (hav : qa_oS h.1 avs) (hsl : (avs.map qa_cat).sum ≤ qa_ml M)
    (hex : qa_ex n M 0 (qa_ag 0 avs) [] h = some r) : qa_Ct l D ca b L z xs M φ al h avs r := by
  obtain ⟨g1, g2, g3, g4, g5, g6, g7, g8, g9, g10, g11⟩ := qa_mk_sp hok.2
  unfold qa_Ct
  by_cases hem : (qa_hh M).isEmpty = true
  · have hcw : qa_mw M = .code (qa_nm M) (qa_by M) (qa_ml M) (qa_rt M) :: qa_gw := by unfold qa_mw qa_cw; rw [if_pos hem]
    refine vx_ofW (cc := qa_by M) (maxL := qa_ml M) (ret := qa_rt M) g3 hcw fun p e s m args below meth c s₁ B hml ht hP => ?_
    refine qa_body hlst hfl hok hk hh11 hav hsl hex rfl rfl B hml (fun w hw => List.mem_cons_of_mem _ hw) ?_ hP
    rw [List.isEmpty_iff.mp hem]
    exact List.eq_nil_iff_forall_not_mem.mpr ht
  · have hcw : qa_mw M = .codeWith (qa_nm M) (qa_by M) (qa_ml M) (qa_rt M) (qa_hh M) :: qa_gw := by unfold qa_mw qa_cw; rw [if_neg hem]
    refine vx_ofWH (cc := qa_by M) (maxL := qa_ml M) (ret := qa_rt M) (hh := qa_hh M) g3 hcw fun p e s m args below meth c s₁ B hml hP => ?_
    refine qa_body hlst hfl hok hk hh11 hav hsl hex rfl rfl B hml (fun w hw => List.mem_cons_of_mem _ hw) ?_ hP
    exact vx_table (x := qa_nm M) B (atoms_spec (ws := qa_mw M) B.pre _ (by rw [hcw]; exact List.mem_cons_self))
theorem qa_map_some {n : Nat} {pc1 : Nat} {lv : qa_L} {st1 : List qa_V} {h1 : qa_H} {k sl : Nat} {r : qa_Z} (e : (qa_ex n M pc1 lv st1 h1).map (qa_pl k sl) = some r) : ∃ r1, qa_ex n M pc1 lv st1 h1 = some r1 ∧ r.1 = r1.1 ∧ r.2.1 = r1.2.1 ∧ r.2.2.1 = k + r1.2.2.1 ∧ r.2.2.2 = sl + r1.2.2.2 := by
  obtain ⟨r1, h2, h3⟩ := Option.map_eq_some_iff.mp e
  subst h3
  exact ⟨r1, h2, rfl, rfl, rfl, rfl⟩
set_option maxHeartbeats 2000000 in
theorem qa_main (hlst : l.stackTraces = false) : ∀ n : Nat, qa_FL l D ca b L z xs n := by
  intro n
  induction n with
  | zero =>
    intro M pc lv st h r hde hex
    cases hex
  | succ n ih =>
    intro M pc lv st h r hde hex p e R s m args below meth c H locs cells slots Q φ al ls K S hFr hini hE hh11 hK hSl hKR hSR hI hS hl hoL hoS hks
    have hFr0 := hFr
    unfold qa_ex at hex
    split at hex
    · cases hex
    · next ins len hlk =>
      have hd := qa_de_at hde hlk
      split at hex
      · next F hdo =>
        exact qa_doW hFr hE hI hS hl hoL hoS hd hdo (fun ls1 pc1 e1 hl1 hoL1 hoS1 => by
          subst e1
          exact ih M F.1 F.2.1 F.2.2 h r hde hex p e R s m args below meth c H locs cells slots Q φ al ls1 K S hFr hini hE hh11 hK hSl hKR hSR hI hS hl1 hoL1 hoS1 hks)
      · split at hex
        · next v hre =>
          cases hex
          obtain ⟨rfl, hst⟩ := qa_re_inv hre
          subst hst
          have K0 := hks.1 v φ al H locs pc ls ins rfl (qa_ag2_refl _ _) (fun _ h => h) hI hS (fun w hw => by subst hw; exact hoS w List.mem_cons_self) hd hre
          rw [← hK, ← hSl] at K0
          exact K0
        · split at hex
          · next w hw =>
            exact qa_wrW hFr hE hI hS hini hoS hd hw (fun H1 locs1 hI1 hS1 hoS1 => ih M w.1 lv w.2.1 (h.1, qa_up h.2 w.2.2.1 w.2.2.2) r hde hex p e R s m args below meth c H1 locs1 cells slots Q φ al ls K S hFr hini hE hh11 hK hSl hKR hSR hI1 hS1 hl hoL hoS1 hks)
          · split at hex
            · next w hw =>
              obtain ⟨r1, hex1, e1, e2, e3, e4⟩ := qa_map_some hex
              have hmo : ∀ q, qa_lt q h.1 → qa_lt q (qa_nxt (qa_at h.1 w.2.2.1)) := fun q hq => qa_lt_nxt ((qa_fresh_at h.1 w.2.2.1).2 q hq)
              refine qa_mkW hFr hE hI hS hoS hd hw (by omega) (by omega) (fun ψ al1 H1 hag hI1 hS1 hoS1 => ?_)
              have hks1 := qa_Ks_on hag hmo hks
              rw [e1, e2] at hks1
              exact ih M w.1 lv (.inl (qa_at h.1 w.2.2.1) :: w.2.1) _ r1 hde hex1 p e R s m args below meth c H1 locs (cells + 1) (slots + w.2.2.2) Q ψ al1 ls K S hFr hini hE hh11 (by omega) (by omega) hKR hSR hI1 hS1 (by rw [qa_lm_ag hag hoL]; exact hl) (qa_oL_mono hmo hoL) (qa_oS_cons (qa_lt_self _) (qa_oS_mono hmo hoS1)) hks1
            · split at hex
              · next E hth =>
                cases hex
                exact hks.2.1 E φ al H locs pc ls st ins len cells slots rfl (qa_ag2_refl _ _) (fun _ h => h) hI hS hl.1 hd hth hK hSl
              · split at hex
                · cases hex
                · next w hinv =>
                  obtain ⟨M1, nest, avs, rest⟩ := w
                  obtain ⟨i, pl, hins, hlk1, rfl, hna, hst, hc8, hcl, hf1, hl1, hhh, hrc⟩ := qa_inv_sp hinv
                  have hcq := qa_cq_at hFr.2.2.2.2.2.1 hlk1
                  have hoa : qa_oS h.1 avs := fun v hv => hoS v (by rw [hst]; exact List.mem_append_left _ (List.mem_reverse.mpr hv))
                  have hor : qa_oS h.1 rest := fun v hv => hoS v (by rw [hst]; exact List.mem_append_right _ hv)
                  split at hex
                  · cases hex
                  · next v h1 k sl hex1 =>
                    obtain ⟨r1, hex2, e1, e2, e3, e4⟩ := qa_map_some hex
                    have hC : qa_Ok M1 → qa_Ct l D ca b L z xs M1 φ al h avs (.inl v, h1, k, sl) := fun hok => qa_ct_of hlst ih hok hcq.2.1 hcq.2.2 hoa hcl hex1
                    obtain ⟨a, hrun⟩ := qa_invW (e := e) (below := below) (meth := meth) (cells := cells) (slots := slots) (r := (.inl v, h1, k, sl)) hFr hE hI hS hl.1 hd hinv hC (fun _ => ⟨v, rfl⟩) (by dsimp only; omega) (by dsimp only; omega)
                    refine qa_callW hrun hS (fun k9 ψ al1 ce q9 H1 locs1 a1 => by dsimp only at a1; cases a1) (fun v1 ψ al1 H1 locs1 a1 hag hmo hI1 hov hS1 => ?_)
                    dsimp only at a1
                    cases a1
                    have hks1 := qa_Ks_on hag hmo hks
                    rw [e1, e2] at hks1
                    have K0 := ih M (pc + 3) lv (v.toList ++ rest) h1 r1 hde hex2 p e R s m args below meth c H1 locs1 (cells + k) (slots + sl) Q ψ al1 ls K S hFr hini hE hh11 (by omega) (by omega) hKR hSR hI1 hS1 (by rw [qa_lm_ag hag hoL]; exact hl) (qa_oL_mono hmo hoL) (fun w hw => by
                      rcases List.mem_append.mp hw with h2 | h2
                      · exact hov w (Option.mem_toList.mp h2)
                      · exact qa_ov_mono hmo (hor w h2)) hks1
                    rw [List.map_append, qa_st_ag hag hor] at K0
                    rw [show (v.map (qa_cv ψ)).toList = v.toList.map (qa_cv ψ) by cases v <;> rfl]
                    exact K0
                  · next E h1 k sl hex1 =>
                    split at hex
                    · cases hex
                    · next hno =>
                      have hC : qa_Ok M1 → qa_Ct l D ca b L z xs M1 φ al h avs (.inr E, h1, k, sl) := fun hok => qa_ct_of hlst ih hok hcq.2.1 hcq.2.2 hoa hcl hex1
                      split at hex
                      · next hem =>
                        cases hex
                        obtain ⟨a, hrun⟩ := qa_invW (e := e) (below := below) (meth := meth) (cells := cells) (slots := slots) (r := (.inr E, h1, k, sl)) hFr hE hI hS hl.1 hd hinv hC (fun h9 => absurd h9 hno) (by dsimp only at hK ⊢; omega) (by dsimp only at hSl ⊢; omega)
                        refine qa_callW hrun hS (fun k9 ψ al1 ce q9 H1 locs1 a1 a2 a3 a4 a5 a6 a7 a8 a9 => ?_) (fun v1 ψ al1 H1 locs1 a1 => by dsimp only at a1; cases a1)
                        have K0 := hks.2.2 k9 ψ al1 H1 locs1 pc ls (rest.map (qa_cv φ)) ce q9 a1 a2 a3 a4 a5 a6 hem a7 a8 a9
                        dsimp only at hK hSl
                        rw [← hK, ← hSl] at K0
                        exact K0
                      · next hem =>
                        split at hex
                        · cases hex
                        · next t hhd =>
                          obtain ⟨r1, hex2, e1, e2, e3, e4⟩ := qa_map_some hex
                          obtain ⟨a, hrun⟩ := qa_invW (e := e) (below := below) (meth := meth) (cells := cells) (slots := slots) (r := (.inr E, h1, k, sl)) hFr hE hI hS hl.1 hd hinv hC (fun h9 => absurd h9 hno) (by dsimp only; omega) (by dsimp only; omega)
                          refine qa_callW hrun hS (fun k9 ψ al1 ce q9 H1 locs1 a1 a2 hag hmo hI1 hS1 a7 a8 a9 => ?_) (fun v1 ψ al1 H1 locs1 a1 => by dsimp only at a1; cases a1)
                          dsimp only at a1
                          cases a1
                          obtain ⟨htab, h11⟩ := hh11.resolve_left hem
                          obtain ⟨hx, hb, hml, hown, hts, -⟩ := hFr
                          rw [h11] at hown
                          obtain ⟨pre, x, suf, t1, t2, t3, t4, t5⟩ := qa_hd_sp _ _ _ _ hhd
                          obtain ⟨-, u2, u3⟩ := qa_ht3 t4
                          refine vx_catch (own := RL) (name := qa_xn E) hown pre x suf (htab.trans t1) (fun y hy => ?_) t3 u2 (hts _ u3) ((hE.2.1 _ (qa_cast3 a2)).use rfl) a7 a8 a9 ?_
                          · rcases t2 y hy with g1 | ⟨j, g1, g2⟩
                            · exact Or.inl g1
                            · obtain ⟨w1, w2, w3⟩ := qa_ht3 g1
                              exact Or.inr ⟨w2, qa_xn j, hts _ w3, hE.2.2.2.1 _ (qa_ncl3 a2 w1 g2)⟩
                          · subst t5
                            have hmo2 : ∀ q, qa_lt q h.1 → qa_lt q (qa_nxt h1.1) := fun q hq => qa_lt_nxt (hmo q hq)
                            have hag2 : qa_ag2 h1.1 ψ (fun q => if q = h1.1 then q9 else ψ q) := fun q hq => if_neg (fun t => (qa_fresh_self h1.1).1 (by have hq2 := hq; rw [t] at hq2; exact hq2))
                            have hag3 := qa_ag2_tr hag hmo hag2
                            have hks1 := qa_Ks_on hag3 hmo2 hks
                            rw [e1, e2] at hks1
                            have K0 := ih M x.handlerPc lv [.inl h1.1] _ r1 hde hex2 p e R s m args below meth c H1 locs1 (cells + k) (slots + sl) Q (fun q => if q = h1.1 then q9 else ψ q) al1 ls K S hFr0 hini hE hh11 (by omega) (by omega) hKR hSR (qa_Hp_junk hI1) hS1 (by rw [qa_lm_ag hag3 hoL]; exact hl) (qa_oL_mono hmo2 hoL) (qa_oS_cons (qa_lt_self _) (fun _ h => nomatch h)) hks1
                            have e9 : ([.inl h1.1] : List qa_V).map (qa_cv (fun q => if q = h1.1 then q9 else ψ q)) = [.ref q9] := by
                              show [Value.ref (if h1.1 = h1.1 then q9 else ψ h1.1)] = _
                              rw [if_pos rfl]
                            rw [e9] at K0
                            exact K0
end QMA
end
section
/-! THE CLAIM OUT OF ONE WALK OF THE LAW'S BODY. Your part is whole_start (and what it stands on); all else here is the same for every law, but numbers. -/
def R_law : String := "SlideBonfireLaw"
def lw_P (b : Addr) (xs : List Int32) (args : Array Value) (s : State) : Prop := args = #[.ref b] ∧ s.IntsAt b xs ∧ xs.length ≤ 2048 ∧ (Jvm.Cond.and given_1 narrow_1).before args s = true
/-- what a walk over the start with the record d0 says of its end, said of the start itself -/
theorem lw_closed {s t : State} {o : Outcome} {d0 : Drawn} {L : List Loc} {k n : Nat} (hd0 : s.drawn.sameBut d0 lw_cs) (hv : ∃ v, o = .returned v) (hW : (s.setDrawn d0).WarmedH t.vm) (hs : (s.setDrawn d0).sameButNew ({ t with vm := s.vm } : State) L k n) : State.butDraws s t lw_cs (fun t1 => Framed s o t1 L k n) := by
  have h2 : t.drawn = d0 := congrArg State.drawn hs.1
  refine ⟨⟨hv, hW, State.sameButNew.setDrawn hs s.drawn⟩, ?_, by decide⟩
  rw [h2]
  exact hd0
def lw_Q (_ : Array Value) (s : State) (o : Outcome) (t : State) : Prop := o = .returned (some (.int 1)) ∧ State.butDraws s t lw_cs (fun t1 => Framed s o t1 [] 601024 7293033)
def lw_Z (below : List Frame) (a : Array Value) (s : State) : State → Prop := fun t => ∃ o, t.status = .running ∧ Ended t below o ∧ lw_Q a s o t
/-- the law's own end, with 1 on the stack, nothing written that was there before, its room as the claim has it; d0: the record of draws at this point (at the entry s.drawn: begin with 'refine W.base ?_' and 'have hd0 := Drawn.sameBut.refl s.drawn lw_cs') -/
theorem lw_ret {p : Program} {l : Launch} {e : Env} {s : State} {m : MethodId} {below : List Frame} {meth : Method} {c : Code} {b : Nat} {d0 : Drawn} (hd0 : s.drawn.sameBut d0 lw_cs) (hx : p.tables.exec = Jvm.exec) (hb : c.code = code) (hr : meth.sig.returnType = ret) (hlocks : meth.locks = false) {pc : Nat} {H : Heap} {ls : Array Slot} (hdg : decode code pc = .ok (.ireturn, 1)) : W p l e room_1 (s.setDrawn d0) m #[Value.ref b] below meth c H [] 601024 7293033 (lw_Z below #[Value.ref b] s) (F0 m pc ls [.int 1]) := by
  intro T hT X
  obtain ⟨fs, hret, hrun, hended, hW, hframe⟩ := X.leave (v := some (.int 1)) (hlocks := hlocks) (fun h => by rw [hr] at h; cases h)
  have hmeth' : T.vm.method? m = some meth := X.method'
  refine ⟨T.setFrames fs, ?_, .returned (some (.int 1)), hrun, hended, rfl, lw_closed hd0 ⟨_, rfl⟩ hW hframe⟩
  jvm_step X.here [X.here.top, hx, hb, hdg, hmeth', hr, ret, narrow_b1]
  (try refine ⟨rfl, ?_⟩); (try refine ⟨rfl, ?_⟩)
  first | (intro acts; rw [hret _ acts rfl rfl rfl]) | rw [hret _ _ rfl rfl rfl]
  exact Steps.refl _
/-- what holds at the law's entry: the machine, the code, the tables' words (any of lw_tbl by 'hts w (by decide +kernel)'), the script of L ints xs at the cell b, what the Statement gives of the start (any of its parts by flat_of_before) -/
def lw_At (p : Program) (s : State) (m : MethodId) (meth : Method) (c : Code) (b L : Nat) (xs : Nat → Int32) : Prop :=
  p.tables.exec = Jvm.exec ∧ c.code = code ∧ meth.sig.returnType = ret ∧ c.maxLocals = 9 ∧ s.vm.findClass R_law = some m.cls ∧ (∀ w ∈ lw_tbl, w.before #[Value.ref b] s = true) ∧ va_X b L xs s s.heap ∧ b < s.heap.size ∧ meth.locks = false ∧ (Jvm.Cond.and given_1 narrow_1).before #[Value.ref b] s = true
end
section
/-! the law's start: what is left is a statement about the small machine alone -/
section QST
def qa_h0 (L : Nat) (xs : Nat → Int32) : qa_H := ((0, 1), fun q => if q = (0, 0) then .inr (9, L, .inl xs) else .inl (99, fun _ => .inr .null))
/-- the claim about the small machine -/
def qa_Goal : Prop := ∀ (L : Nat) (xs : Nat → Int32), L ≤ 2048 → ∃ (n : Nat) (r : qa_Z), qa_ex n qa_mL_law 0 [(0, .inl (0, 0))] [] (qa_h0 L xs) = some r ∧ r.1 = .inl (some (.inr (.int 1))) ∧ r.2.2.1 ≤ 601024 ∧ r.2.2.2 ≤ 7293033
variable {p : Program} {e : Env} {s : State} {m : MethodId} {below : List Frame} {meth : Method} {c : Code} {args : Array Value}
theorem qa_ca_ex (hts : ∀ w ∈ qa_gw, w.before args s = true) (hq : va_AO RX1 s) : ∃ ca : Nat → ClassId, ∀ (k : Nat) (q : ClassId × FieldType), (qa_tys ca)[k]? = some q → ArrOfT s q.1 q.2 ∧ va_RA s q.1 q.2 := by
  have hwa := List.all_eq_true.mp qa_ar_w
  obtain ⟨c0, k0, d0, a0, b0, e0⟩ := Cond.arrayClass_spec (hts _ (qa_gw_in (hwa (.arrayClass .int) List.mem_cons_self)))
  obtain ⟨c1, k1, d1, a1, b1, e1⟩ := Cond.arrayClass_spec (hts _ (qa_gw_in (hwa (.arrayClass .boolean) (List.mem_cons_of_mem _ List.mem_cons_self))))
  obtain ⟨c2, k2, d2, a2, b2, e2⟩ := Cond.arrayClass_spec (hts _ (qa_gw_in (hwa (.arrayClass .long) (List.mem_cons_of_mem _ (List.mem_cons_of_mem _ List.mem_cons_self)))))
  obtain ⟨d3, c3, k3, f3, i3, b3, e3, a3⟩ := Cond.arrayOver_spec (args := #[]) (va_AO.use (A := #[]) hq)
  refine ⟨fun k => match k with
    | 0 => c0
    | 1 => c1
    | 2 => c2
    | _ => c3, fun k q hk => ?_⟩
  match k, hk with
  | 0, hk => cases hk; exact ⟨fun n z => ⟨fun k h => (by cases h), k0, b0, d0, e0⟩, a0⟩
  | 1, hk => cases hk; exact ⟨fun n z => ⟨fun k h => (by cases h), k1, b1, d1, e1⟩, a1⟩
  | 2, hk => cases hk; exact ⟨fun n z => ⟨fun k h => (by cases h), k2, b2, d2, e2⟩, a2⟩
  | 3, hk => cases hk; exact ⟨fun n z => ⟨fun k h => (by cases h), k3, b3, d3, e3⟩, ⟨k3, d3, b3, e3, f3, a3⟩⟩
  | k + 4, hk => cases hk
theorem qa_D_ex (hts : ∀ w ∈ qa_gw, w.before args s = true) : ∃ D : va_G, ∀ (k : Nat) (q : vw_C), vwCl[k]? = some q → u_Kn s q.1 q.2.1 q.2.2 (D.1 k) (D.2 k) := by
  have h0 : ∀ k : Nat, ∃ r : ClassId × (Nat → Nat), ∀ q : vw_C, vwCl[k]? = some q → u_Kn s q.1 q.2.1 q.2.2 r.1 r.2 := by
    intro k
    cases hq : vwCl[k]? with
    | none =>
      obtain ⟨cC, iS, h1⟩ := u_known hts (qa_cws (k := 0) rfl).2.2 (hts _ (qa_cws (k := 0) rfl).2.1)
      exact ⟨(cC, iS), fun q h => by cases h⟩
    | some q =>
      obtain ⟨cC, iS, h1⟩ := u_known hts (qa_cws hq).2.2 (hts _ (qa_cws hq).2.1)
      exact ⟨(cC, iS), fun q' h => by cases h; exact h1⟩
  obtain ⟨f, hf⟩ := Classical.axiomOfChoice h0
  exact ⟨(fun k => (f k).1, fun k => (f k).2), fun k q h => hf k q h⟩
theorem qa_ao_w : decide (Cond.arrayOver (.object RX1) ∈ lw_tbl) = true := by decide +kernel
theorem qa_ls_w : decide (Cond.laysStatic Bundle.tN "UNASSIGNED_STACK" Bundle.steD ∈ lw_tbl) = true ∧ decide (Cond.laysStatic Bundle.tN "SUPPRESSED_SENTINEL" Bundle.listD ∈ lw_tbl) = true ∧ decide (Cond.initialized Bundle.tN ∈ lw_tbl) = true := by decide +kernel
theorem qa_nc_w : ∀ q ∈ qa_ncl, Cond.not (.castable q.1 q.2) ∈ flatC (Jvm.Cond.and given_1 narrow_1) := by decide +kernel
theorem qa_ir_w : Cond.isRef (.static Bundle.tN "UNASSIGNED_STACK" Bundle.steD) ∈ flatC (Jvm.Cond.and given_1 narrow_1) ∧ Cond.isRef (.static Bundle.tN "SUPPRESSED_SENTINEL" Bundle.listD) ∈ flatC (Jvm.Cond.and given_1 narrow_1) := by decide +kernel
theorem qa_gw_tbl {w : Cond} (h : w ∈ qa_gw) : w ∈ lw_tbl := (List.mem_filter.mp h).1
theorem qa_En0 {b L : Nat} {xs : Nat → Int32} (hts : ∀ w ∈ lw_tbl, w.before args s = true) (hX : va_X b L xs s s.heap) (hbl : b < s.heap.size) (hgv : (Jvm.Cond.and given_1 narrow_1).before args s = true) : ∃ (D : va_G) (ca : Nat → ClassId), qa_En D ca b L s.heap.size xs s := by
  have hg : ∀ w ∈ qa_gw, w.before args s = true := fun w hw => hts w (qa_gw_tbl hw)
  have hao : va_AO RX1 s := va_AO.of (hts _ (of_decide_eq_true qa_ao_w))
  have hfl := flat_of_before _ hgv
  obtain ⟨ca, hca⟩ := qa_ca_ex hg hao
  obtain ⟨D, hD⟩ := qa_D_ex hg
  have hA : ∀ a : Nat, a < s.heap.size → ¬ qa_A s.heap.size a := fun a h => Nat.not_le.mpr h
  exact ⟨D, ca, ⟨hD, hca⟩, fun w hw => va_Nw.of (qa_nwo_tab (List.mem_filter.mp hw).2) (hts w (List.mem_filter.mp hw).1), hao, fun q hq => va_Nc.of (hfl _ (qa_nc_w q hq)), hX,
    vx_Zqof (hts _ (of_decide_eq_true qa_ls_w.1)) (hts _ (of_decide_eq_true qa_ls_w.2.2)) (hfl _ qa_ir_w.1) hA, vx_Zqof (hts _ (of_decide_eq_true qa_ls_w.2.1)) (hts _ (of_decide_eq_true qa_ls_w.2.2)) (hfl _ qa_ir_w.2) hA, hbl, Nat.le_refl _⟩
theorem qa_lst (l : Launch) (hflags : l.flags = flags0) : l.stackTraces = false := by
  unfold Launch.stackTraces
  rw [hflags]
  decide +kernel
set_option maxHeartbeats 1000000 in
theorem qa_whole (hgoal : qa_Goal) (l : Launch) (hflags : l.flags = flags0) {b L : Nat} {xs : Nat → Int32} (hL : L ≤ 2048) (C0 : lw_At p s m meth c b L xs) : W p l e room_1 s m #[Value.ref b] below meth c s.heap [] 0 0 (lw_Z below #[Value.ref b] s) (entryFrame m ([Value.ref b] : List Value).toArray 9) := by
  obtain ⟨hx, hb, hr, hml, hown, hts, hX, hbl, hlocks, hgv⟩ := C0
  obtain ⟨n, r, hex, hr1, hk, hsl⟩ := hgoal L xs hL
  refine W.base ?_
  have hd0 := Drawn.sameBut.refl s.drawn lw_cs
  obtain ⟨D, ca, hE⟩ := qa_En0 hts hX hbl hgv
  have hE2 : qa_En D ca b L s.heap.size xs (s.setDrawn s.drawn) := qa_En_same rfl rfl hE
  have hg : ∀ w ∈ qa_gw, w.before #[Value.ref b] (s.setDrawn s.drawn) = true := dr_words (fun w hw => hts w (qa_gw_tbl hw)) s.drawn
  have hFr : qa_Fr qa_mL_law p room_1 (s.setDrawn s.drawn) m #[Value.ref b] c := ⟨hx, hb, hml, hown, hg, by decide +kernel, by decide +kernel, by decide +kernel⟩
  have hI : qa_Hp D ca b L s.heap.size xs (fun _ => b) [] (qa_h0 L xs) s.heap := by
    refine ⟨fun k q h => (by cases h), ⟨fun i j p q h => (by cases h), fun k q h => (by cases h)⟩, fun q hq => ?_, fun q hq => absurd hq List.not_mem_nil, fun q n r hq => ?_, fun q hq => absurd hq List.not_mem_nil⟩
    · exfalso
      unfold qa_h0 at hq
      dsimp only at hq
      split at hq
      · cases hq
      · cases hq
    · unfold qa_h0 at hq
      dsimp only at hq
      split at hq
      · cases hq; exact ⟨rfl, rfl, rfl⟩
      · cases hq
  rw [lg_entry_eq]
  have hl := lv_entry ([.ref b]) (n := 9) (Nat.le_of_ble_eq_true rfl)
  refine qa_main (l := l) (qa_lst l hflags) n qa_mL_law 0 [(0, .inl (0, 0))] [] (qa_h0 L xs) r qa_dL_law hex p e room_1 (s.setDrawn s.drawn) m #[Value.ref b] below meth c s.heap [] 0 0 _ (fun _ => b) [] _ (0 + r.2.2.1) (0 + r.2.2.2) hFr (fun h0 => absurd h0 (by decide +kernel)) hE2 (Or.inl rfl) rfl rfl ?_ ?_ hI va_S.rf hl (fun q hq => ?_) (fun _ h => nomatch h) ⟨?_, ?_, ?_⟩
  · show 0 + r.2.2.1 ≤ room_1.cells
    exact Nat.le_trans (by omega) (show 601024 ≤ room_1.cells from Nat.le_of_ble_eq_true rfl)
  · show 0 + r.2.2.2 ≤ room_1.slots
    exact Nat.le_trans (by omega) (show 7293033 ≤ room_1.slots from Nat.le_of_ble_eq_true rfl)
  · rw [List.mem_singleton.mp hq]
    exact Or.inr ⟨rfl, Nat.zero_lt_one⟩
  · intro v ψ al1 H1 locs1 pc1 ls1 ins a1 a2 a3 a4 a5 a6 a7 a8
    rw [hr1] at a1
    cases a1
    have hins : ins = .ireturn := by
      cases ins <;> first | rfl | cases a8
    subst hins
    refine va_forget (fun q hq => a5.2.2 q hq) (W.widen (k := 601024) (n := 7293033) (by omega) (by omega) ?_)
    exact lw_ret hd0 hx hb hr hlocks a7
  · intro E ψ al1 H1 locs1 pc1 ls1 st1 ins len1 cells1 slots1 a1
    rw [hr1] at a1
    cases a1
  · intro E ψ al1 H1 locs1 pc1 ls1 rest ce q a1
    rw [hr1] at a1
    cases a1
end QST
end
section
/-! runs over a heap of a fixed shape: what the cells hold is a function of position and place -/
section QBK
theorem qa_ex_succ : ∀ (n : Nat) (M : qa_M) (pc : Nat) (lv : qa_L) (st : List qa_V) (h : qa_H) (r : qa_Z), qa_ex n M pc lv st h = some r → qa_ex (n + 1) M pc lv st h = some r := by
  intro n
  induction n with
  | zero => intro M pc lv st h r e; cases e
  | succ n ih =>
    intro M pc lv st h r e
    rw [qa_ex] at e
    rw [qa_ex]
    split at e
    · cases e
    · next ins len h1 =>
      try rw [h1]
      try dsimp only
      split at e
      · next F h2 =>
        try rw [h2]
        exact ih _ _ _ _ _ _ e
      · next h2 =>
        try rw [h2]
        try dsimp only
        split at e
        · next v h3 =>
          try rw [h3]
          exact e
        · next h3 =>
          try rw [h3]
          try dsimp only
          split at e
          · next w h4 =>
            try rw [h4]
            exact ih _ _ _ _ _ _ e
          · next h4 =>
            try rw [h4]
            try dsimp only
            split at e
            · next w h5 =>
              try rw [h5]
              try dsimp only
              obtain ⟨r1, e1, e2⟩ := Option.map_eq_some_iff.mp e
              rw [ih _ _ _ _ _ _ e1]
              exact congrArg some e2
            · next h5 =>
              try rw [h5]
              try dsimp only
              split at e
              · next E h6 =>
                try rw [h6]
                exact e
              · next h6 =>
                try rw [h6]
                try dsimp only
                split at e
                · cases e
                · next w h7 =>
                  try rw [h7]
                  try dsimp only
                  split at e
                  · cases e
                  · next v h1 k sl h8 =>
                    rw [ih _ _ _ _ _ _ h8]
                    try dsimp only
                    obtain ⟨r1, e1, e2⟩ := Option.map_eq_some_iff.mp e
                    rw [ih _ _ _ _ _ _ e1]
                    exact congrArg some e2
                  · next E h1 k sl h8 =>
                    rw [ih _ _ _ _ _ _ h8]
                    try dsimp only
                    split at e
                    · cases e
                    · next h9 =>
                      try rw [if_neg h9]
                      split at e
                      · next h10 =>
                        try rw [if_pos h10]
                        exact e
                      · next h10 =>
                        try rw [if_neg h10]
                        split at e
                        · cases e
                        · next t h11 =>
                          try rw [h11]
                          try dsimp only
                          obtain ⟨r1, e1, e2⟩ := Option.map_eq_some_iff.mp e
                          rw [ih _ _ _ _ _ _ e1]
                          exact congrArg some e2
theorem qa_ex_mono {n m : Nat} (hm : n ≤ m) {M : qa_M} {pc : Nat} {lv : qa_L} {st : List qa_V} {h : qa_H} {r : qa_Z} (e : qa_ex n M pc lv st h = some r) : qa_ex m M pc lv st h = some r := by
  induction hm with
  | refl => exact e
  | step _ ih => exact qa_ex_succ _ _ _ _ _ _ _ ih
/-- the shape of a cell: an object (class; what its fields are: a value for good, an int, a long), or an array (kind, length, references for good) -/
abbrev qa_D : Type := (Nat × (Nat → qa_V ⊕ Nat)) ⊕ (Nat × Nat × (Nat → Option qa_P))
/-- what is in the cells: ints and longs -/
abbrev qa_T : Type := (qa_P → Nat → Int32) × (qa_P → Nat → Int64)
def qa_fv (K : Nat → qa_V ⊕ Nat) (g : Nat → Int32) (j : Nat → Int64) (i : Nat) : qa_V := match K i with
  | .inl v => v
  | .inr 0 => .inr (.int (g i))
  | .inr _ => .inr (.long (j i))
def qa_sh (d : qa_D) (g : Nat → Int32) (j : Nat → Int64) : qa_C := match d with
  | .inl (ci, K) => .inl (ci, qa_fv K g j)
  | .inr (τ, n, f) => .inr (τ, n, if τ = 2 then .inr (.inl j) else if τ = 3 then .inr (.inr f) else .inl g)
def qa_hp (ds : qa_P → qa_D) (σ : qa_T) : qa_P → qa_C := fun p => qa_sh (ds p) (σ.1 p) (σ.2 p)
def qa_wi (σ : qa_T) (p : qa_P) (i : Nat) (v : Int32) : qa_T := (fun q => if q = p then upd (σ.1 q) i v else σ.1 q, σ.2)
def qa_wl (σ : qa_T) (p : qa_P) (i : Nat) (v : Int64) : qa_T := (σ.1, fun q => if q = p then vp_updL (σ.2 q) i v else σ.2 q)
theorem qa_hp_wi {ds : qa_P → qa_D} {σ : qa_T} {p : qa_P} {i : Nat} {v : Int32} {c : qa_C} (hc : qa_sh (ds p) (upd (σ.1 p) i v) (σ.2 p) = c) : qa_up (qa_hp ds σ) p c = qa_hp ds (qa_wi σ p i v) := by
  funext q
  unfold qa_up qa_hp qa_wi
  by_cases e : q = p
  · subst e
    rw [if_pos rfl]
    dsimp only
    rw [if_pos rfl]
    exact hc.symm
  · rw [if_neg e]
    dsimp only
    rw [if_neg e]
theorem qa_hp_wl {ds : qa_P → qa_D} {σ : qa_T} {p : qa_P} {i : Nat} {v : Int64} {c : qa_C} (hc : qa_sh (ds p) (σ.1 p) (vp_updL (σ.2 p) i v) = c) : qa_up (qa_hp ds σ) p c = qa_hp ds (qa_wl σ p i v) := by
  funext q
  unfold qa_up qa_hp qa_wl
  by_cases e : q = p
  · subst e
    rw [if_pos rfl]
    dsimp only
    rw [if_pos rfl]
    exact hc.symm
  · rw [if_neg e]
    dsimp only
    rw [if_neg e]
theorem qa_fv_i {K : Nat → qa_V ⊕ Nat} {g : Nat → Int32} {j : Nat → Int64} {sl : Nat} {v : Int32} (hK : K sl = .inr 0) : qa_fv K (upd g sl v) j = fun i => if i = sl then .inr (.int v) else qa_fv K g j i := by
  funext i
  unfold qa_fv
  by_cases e : i = sl
  · subst e
    rw [hK, if_pos rfl]
    show (.inr (.int (if i = i then v else g i)) : qa_V) = _
    rw [if_pos rfl]
  · rw [if_neg e]
    have h1 : upd g sl v i = g i := if_neg e
    rw [h1]
theorem qa_fv_l {K : Nat → qa_V ⊕ Nat} {g : Nat → Int32} {j : Nat → Int64} {sl : Nat} {v : Int64} (hK : K sl = .inr 1) : qa_fv K g (vp_updL j sl v) = fun i => if i = sl then .inr (.long v) else qa_fv K g j i := by
  funext i
  unfold qa_fv
  by_cases e : i = sl
  · subst e
    rw [hK, if_pos rfl]
    show (.inr (.long (if i = i then v else j i)) : qa_V) = _
    rw [if_pos rfl]
  · rw [if_neg e]
    have h1 : vp_updL j sl v i = j i := if_neg e
    rw [h1]
/-- how much a run makes, by its end -/
def qa_cc (res : Option qa_V ⊕ Nat) : Nat := match res with
  | .inl _ => 0
  | .inr _ => 1
/-- from this place on the run ends so -/
def qa_Bk (ds : qa_P → qa_D) (M : qa_M) (pc : Nat) (lv : qa_L) (st : List qa_V) (σ : qa_T) (res : Option qa_V ⊕ Nat) (σ' : qa_T) : Prop := ∃ n, ∀ nx : qa_P, qa_ex n M pc lv st (nx, qa_hp ds σ) = some (res, (nx, qa_hp ds σ'), qa_cc res, 6 * qa_cc res)
variable {ds : qa_P → qa_D} {M : qa_M} {pc : Nat} {lv : qa_L} {st : List qa_V} {σ σ' : qa_T} {res : Option qa_V ⊕ Nat} {ins : Instr} {len : Nat}
theorem qa_bk_do {pc' : Nat} {lv' : qa_L} {st' : List qa_V} (h1 : qa_lk (qa_is M) pc = some (ins, len)) (h2 : qa_do M (qa_hp ds σ) ins len pc lv st = some (pc', lv', st')) (k : qa_Bk ds M pc' lv' st' σ res σ') : qa_Bk ds M pc lv st σ res σ' := by
  obtain ⟨n, hn⟩ := k
  refine ⟨n + 1, fun nx => ?_⟩
  rw [qa_ex, h1]
  dsimp only
  rw [h2]
  exact hn nx
/-- a step whose target hangs on a condition -/
theorem qa_bk_br {c : Prop} [Decidable c] {a b : Nat} {lv' : qa_L} {st' : List qa_V} (h1 : qa_lk (qa_is M) pc = some (ins, len)) (h2 : qa_do M (qa_hp ds σ) ins len pc lv st = some (if c then a else b, lv', st')) (kt : c → qa_Bk ds M a lv' st' σ res σ') (kf : ¬ c → qa_Bk ds M b lv' st' σ res σ') : qa_Bk ds M pc lv st σ res σ' := by
  by_cases hc : c
  · rw [if_pos hc] at h2
    exact qa_bk_do h1 h2 (kt hc)
  · rw [if_neg hc] at h2
    exact qa_bk_do h1 h2 (kf hc)
theorem qa_bk_re {v : Option qa_V} (h1 : qa_lk (qa_is M) pc = some (ins, len)) (h0 : qa_do M (qa_hp ds σ) ins len pc lv st = none) (h2 : qa_re (qa_rt M) ins len st = some v) : qa_Bk ds M pc lv st σ (.inl v) σ := by
  refine ⟨1, fun nx => ?_⟩
  rw [qa_ex, h1]
  dsimp only
  rw [h0]
  dsimp only
  rw [h2]
  rfl
theorem qa_bk_th {E : Nat} (h1 : qa_lk (qa_is M) pc = some (ins, len)) (h0 : qa_do M (qa_hp ds σ) ins len pc lv st = none) (h2 : qa_re (qa_rt M) ins len st = none) (h3 : qa_wr M ins len pc st (qa_hp ds σ) = none) (h4 : qa_mkc M ins len pc st = none) (h5 : qa_th M ins len pc st = some E) : qa_Bk ds M pc lv st σ (.inr E) σ := by
  refine ⟨1, fun nx => ?_⟩
  rw [qa_ex, h1]
  dsimp only
  rw [h0]
  dsimp only
  rw [h2]
  dsimp only
  rw [h3]
  dsimp only
  rw [h4]
  dsimp only
  rw [h5]
  rfl
theorem qa_bk_wr {pc' : Nat} {st' : List qa_V} {p : qa_P} {c : qa_C} {σ1 : qa_T} (h1 : qa_lk (qa_is M) pc = some (ins, len)) (h0 : qa_do M (qa_hp ds σ) ins len pc lv st = none) (h2 : qa_re (qa_rt M) ins len st = none) (h3 : qa_wr M ins len pc st (qa_hp ds σ) = some (pc', st', p, c)) (h4 : qa_up (qa_hp ds σ) p c = qa_hp ds σ1) (k : qa_Bk ds M pc' lv st' σ1 res σ') : qa_Bk ds M pc lv st σ res σ' := by
  obtain ⟨n, hn⟩ := k
  refine ⟨n + 1, fun nx => ?_⟩
  rw [qa_ex, h1]
  dsimp only
  rw [h0]
  dsimp only
  rw [h2]
  dsimp only
  rw [h3]
  dsimp only
  rw [h4]
  exact hn nx
/-- a getfield: an int, a long, a value for good -/
theorem qa_bk_gf {i ci sl pl : Nat} {x : qa_P} {r : List qa_V} {K : Nat → qa_V ⊕ Nat} (h1 : qa_lk (qa_is M) pc = some (.getfield i, 3)) (h2 : qa_lk (qa_fl (qa_cl M)) i = some (ci, sl, pl)) (hd : ds x = .inl (ci, K)) (k : qa_Bk ds M (pc + 3) lv (qa_fv K (σ.1 x) (σ.2 x) sl :: r) σ res σ') : qa_Bk ds M pc lv (.inl x :: r) σ res σ' := by
  refine qa_bk_do h1 ?_ k
  show qa_S 3 3 pc lv (qa_gf (qa_cl M) i (qa_hp ds σ) (.inl x :: r)) = _
  have h3 : qa_hp ds σ x = .inl (ci, qa_fv K (σ.1 x) (σ.2 x)) := by unfold qa_hp; rw [hd]; rfl
  unfold qa_gf
  dsimp only
  rw [h2, h3]
  dsimp only
  rw [if_pos rfl]
  rfl
theorem qa_bk_al {τ n : Nat} {f : Nat → Option qa_P} {x : qa_P} {r : List qa_V} (h1 : qa_lk (qa_is M) pc = some (.arraylength, 1)) (hd : ds x = .inr (τ, n, f)) (hτ : τ < 4 ∨ τ = 9) (k : qa_Bk ds M (pc + 1) lv (.inr (.int (Int32.ofNat n)) :: r) σ res σ') : qa_Bk ds M pc lv (.inl x :: r) σ res σ' := by
  refine qa_bk_do h1 ?_ k
  show qa_S 1 1 pc lv (qa_an_ (qa_hp ds σ) (.inl x :: r)) = _
  have h3 : qa_hp ds σ x = .inr (τ, n, if τ = 2 then .inr (.inl (σ.2 x)) else if τ = 3 then .inr (.inr f) else .inl (σ.1 x)) := by unfold qa_hp; rw [hd]; rfl
  unfold qa_an_
  dsimp only
  rw [h3]
  dsimp only
  rw [if_pos hτ]
  rfl
theorem qa_bk_ia {n τ : Nat} {f : Nat → Option qa_P} {i : Int32} {x : qa_P} {r : List qa_V} (h1 : qa_lk (qa_is M) pc = some (.iaload, 1)) (hd : ds x = .inr (τ, n, f)) (hτ : τ = 0 ∨ τ = 9) (hi : qa_in i n = true) (k : qa_Bk ds M (pc + 1) lv (.inr (.int (σ.1 x i.toNatClampNeg)) :: r) σ res σ') : qa_Bk ds M pc lv (.inr (.int i) :: .inl x :: r) σ res σ' := by
  refine qa_bk_do h1 ?_ k
  show qa_S 1 1 pc lv (qa_ia (qa_hp ds σ) (.inr (.int i) :: .inl x :: r)) = _
  have h3 : qa_hp ds σ x = .inr (τ, n, .inl (σ.1 x)) := by
    unfold qa_hp
    rw [hd]
    rcases hτ with rfl | rfl <;> rfl
  unfold qa_ia
  dsimp only
  rw [h3]
  dsimp only
  rw [if_pos ⟨hτ, hi⟩]
  rfl
theorem qa_bk_ba {n : Nat} {f : Nat → Option qa_P} {i : Int32} {x : qa_P} {r : List qa_V} (h1 : qa_lk (qa_is M) pc = some (.baload, 1)) (hd : ds x = .inr (1, n, f)) (hi : qa_in i n = true) (k : qa_Bk ds M (pc + 1) lv (.inr (.int (σ.1 x i.toNatClampNeg)) :: r) σ res σ') : qa_Bk ds M pc lv (.inr (.int i) :: .inl x :: r) σ res σ' := by
  refine qa_bk_do h1 ?_ k
  show qa_S 1 1 pc lv (qa_ba (qa_hp ds σ) (.inr (.int i) :: .inl x :: r)) = _
  have h3 : qa_hp ds σ x = .inr (1, n, .inl (σ.1 x)) := by unfold qa_hp; rw [hd]; rfl
  unfold qa_ba
  dsimp only
  rw [h3]
  dsimp only
  rw [if_pos ⟨rfl, hi⟩]
  rfl
theorem qa_bk_ja {n : Nat} {f : Nat → Option qa_P} {i : Int32} {x : qa_P} {r : List qa_V} (h1 : qa_lk (qa_is M) pc = some (.laload, 1)) (hd : ds x = .inr (2, n, f)) (hi : qa_in i n = true) (k : qa_Bk ds M (pc + 1) lv (.inr (.long (σ.2 x i.toNatClampNeg)) :: r) σ res σ') : qa_Bk ds M pc lv (.inr (.int i) :: .inl x :: r) σ res σ' := by
  refine qa_bk_do h1 ?_ k
  show qa_S 1 1 pc lv (qa_ja (qa_hp ds σ) (.inr (.int i) :: .inl x :: r)) = _
  have h3 : qa_hp ds σ x = .inr (2, n, .inr (.inl (σ.2 x))) := by unfold qa_hp; rw [hd]; rfl
  unfold qa_ja
  dsimp only
  rw [h3]
  dsimp only
  rw [if_pos ⟨rfl, hi⟩]
  rfl
theorem qa_bk_aa {n : Nat} {f : Nat → Option qa_P} {i : Int32} {x : qa_P} {r : List qa_V} (h1 : qa_lk (qa_is M) pc = some (.aaload, 1)) (hd : ds x = .inr (3, n, f)) (hi : qa_in i n = true) (k : qa_Bk ds M (pc + 1) lv (qa_rv (f i.toNatClampNeg) :: r) σ res σ') : qa_Bk ds M pc lv (.inr (.int i) :: .inl x :: r) σ res σ' := by
  refine qa_bk_do h1 ?_ k
  show qa_S 1 1 pc lv (qa_aa (qa_hp ds σ) (.inr (.int i) :: .inl x :: r)) = _
  have h3 : qa_hp ds σ x = .inr (3, n, .inr (.inr f)) := by unfold qa_hp; rw [hd]; rfl
  unfold qa_aa
  dsimp only
  rw [h3]
  dsimp only
  rw [if_pos ⟨rfl, hi⟩]
  rfl
theorem qa_bk_pf {i ci sl pl : Nat} {x : qa_P} {v : Int32} {r : List qa_V} {K : Nat → qa_V ⊕ Nat} (h1 : qa_lk (qa_is M) pc = some (.putfield i, 3)) (h2 : qa_lk (qa_fl (qa_cl M)) i = some (ci, sl, pl)) (hd : ds x = .inl (ci, K)) (hK : K sl = .inr 0) (hf : qa_fit (qa_ft ci sl) (.inr (.int v)) = true) (hn : qa_fn ci sl = false) (k : qa_Bk ds M (pc + 3) lv r (qa_wi σ x sl v) res σ') : qa_Bk ds M pc lv (.inr (.int v) :: .inl x :: r) σ res σ' := by
  have h3 : qa_hp ds σ x = .inl (ci, qa_fv K (σ.1 x) (σ.2 x)) := by unfold qa_hp; rw [hd]; rfl
  refine qa_bk_wr (p := x) (c := .inl (ci, fun j => if j = sl then .inr (.int v) else qa_fv K (σ.1 x) (σ.2 x) j)) h1 rfl rfl ?_ (qa_hp_wi ?_) k
  · unfold qa_wr
    dsimp only
    rw [h2, h3]
    dsimp only
    rw [if_pos ⟨rfl, rfl, hf, fun t => by rw [hn] at t; cases t⟩]
  · rw [hd]
    show (.inl (ci, qa_fv K (upd (σ.1 x) sl v) (σ.2 x)) : qa_C) = _
    rw [qa_fv_i hK]
theorem qa_bk_pl {i ci sl pl : Nat} {x : qa_P} {v : Int64} {r : List qa_V} {K : Nat → qa_V ⊕ Nat} (h1 : qa_lk (qa_is M) pc = some (.putfield i, 3)) (h2 : qa_lk (qa_fl (qa_cl M)) i = some (ci, sl, pl)) (hd : ds x = .inl (ci, K)) (hK : K sl = .inr 1) (hf : qa_fit (qa_ft ci sl) (.inr (.long v)) = true) (hn : qa_fn ci sl = false) (k : qa_Bk ds M (pc + 3) lv r (qa_wl σ x sl v) res σ') : qa_Bk ds M pc lv (.inr (.long v) :: .inl x :: r) σ res σ' := by
  have h3 : qa_hp ds σ x = .inl (ci, qa_fv K (σ.1 x) (σ.2 x)) := by unfold qa_hp; rw [hd]; rfl
  refine qa_bk_wr (p := x) (c := .inl (ci, fun j => if j = sl then .inr (.long v) else qa_fv K (σ.1 x) (σ.2 x) j)) h1 rfl rfl ?_ (qa_hp_wl ?_) k
  · unfold qa_wr
    dsimp only
    rw [h2, h3]
    dsimp only
    rw [if_pos ⟨rfl, rfl, hf, fun t => by rw [hn] at t; cases t⟩]
  · rw [hd]
    show (.inl (ci, qa_fv K (σ.1 x) (vp_updL (σ.2 x) sl v)) : qa_C) = _
    rw [qa_fv_l hK]
theorem qa_bk_is {n : Nat} {f : Nat → Option qa_P} {i v : Int32} {x : qa_P} {r : List qa_V} (h1 : qa_lk (qa_is M) pc = some (.iastore, 1)) (hd : ds x = .inr (0, n, f)) (hi : qa_in i n = true) (k : qa_Bk ds M (pc + 1) lv r (qa_wi σ x i.toNatClampNeg v) res σ') : qa_Bk ds M pc lv (.inr (.int v) :: .inr (.int i) :: .inl x :: r) σ res σ' := by
  have h3 : qa_hp ds σ x = .inr (0, n, .inl (σ.1 x)) := by unfold qa_hp; rw [hd]; rfl
  refine qa_bk_wr (p := x) (c := .inr (0, n, .inl (upd (σ.1 x) i.toNatClampNeg v))) h1 rfl rfl ?_ (qa_hp_wi ?_) k
  · unfold qa_wr
    dsimp only
    rw [h3]
    dsimp only
    rw [if_pos ⟨rfl, rfl, hi⟩]
  · rw [hd]; rfl
theorem qa_bk_bs {n : Nat} {f : Nat → Option qa_P} {i v : Int32} {x : qa_P} {r : List qa_V} (h1 : qa_lk (qa_is M) pc = some (.bastore, 1)) (hd : ds x = .inr (1, n, f)) (hi : qa_in i n = true) (hv : v = 0 ∨ v = 1) (k : qa_Bk ds M (pc + 1) lv r (qa_wi σ x i.toNatClampNeg v) res σ') : qa_Bk ds M pc lv (.inr (.int v) :: .inr (.int i) :: .inl x :: r) σ res σ' := by
  have h3 : qa_hp ds σ x = .inr (1, n, .inl (σ.1 x)) := by unfold qa_hp; rw [hd]; rfl
  refine qa_bk_wr (p := x) (c := .inr (1, n, .inl (upd (σ.1 x) i.toNatClampNeg v))) h1 rfl rfl ?_ (qa_hp_wi ?_) k
  · unfold qa_wr
    dsimp only
    rw [h3]
    dsimp only
    rw [if_pos ⟨rfl, rfl, hi, hv⟩]
  · rw [hd]; rfl
theorem qa_bk_js {n : Nat} {f : Nat → Option qa_P} {i : Int32} {v : Int64} {x : qa_P} {r : List qa_V} (h1 : qa_lk (qa_is M) pc = some (.lastore, 1)) (hd : ds x = .inr (2, n, f)) (hi : qa_in i n = true) (k : qa_Bk ds M (pc + 1) lv r (qa_wl σ x i.toNatClampNeg v) res σ') : qa_Bk ds M pc lv (.inr (.long v) :: .inr (.int i) :: .inl x :: r) σ res σ' := by
  have h3 : qa_hp ds σ x = .inr (2, n, .inr (.inl (σ.2 x))) := by unfold qa_hp; rw [hd]; rfl
  refine qa_bk_wr (p := x) (c := .inr (2, n, .inr (.inl (vp_updL (σ.2 x) i.toNatClampNeg v)))) h1 rfl rfl ?_ (qa_hp_wl ?_) k
  · unfold qa_wr
    dsimp only
    rw [h3]
    dsimp only
    rw [if_pos ⟨rfl, rfl, hi⟩]
  · rw [hd]; rfl
/-- what a call checks that hangs on the two methods alone -/
def qa_chk (M M1 : qa_M) (sk : Nat) (nest : Bool) : Bool := decide (qa_sk M1 = sk) && decide (qa_fr M1 + 1 ≤ qa_fr M) && decide (19 + qa_ml M1 + qa_lo M1 ≤ qa_lo M) && (decide ((qa_hh M1).isEmpty = true) || (decide (sk = 1) && decide (nest = false)))
theorem qa_inv_of {h : qa_P → qa_C} {M1 : qa_M} {nest : Bool} {avs rest : List qa_V} {i pl sk : Nat} (hs : (ins = .invokevirtual i ∧ sk = 2) ∨ (ins = .invokespecial i ∧ sk = 0) ∨ (ins = .invokestatic i ∧ sk = 1)) (h1 : qa_lk (qa_ca (qa_cl M)) i = some (M1, nest, pl)) (hc : qa_chk M M1 sk nest = true) (hst : st = avs.reverse ++ rest) (hna : avs.length = qa_na M1) (hr : (rest.map qa_cat).sum ≤ 8) (ha : (avs.map qa_cat).sum ≤ qa_ml M1)
    (hrc : sk = 1 ∨ ∃ x as f, avs = .inl x :: as ∧ h x = .inl (qa_cl M1, f)) : qa_inv M h ins 3 st = some (M1, nest, avs, rest) := by
  unfold qa_chk at hc
  simp only [Bool.and_eq_true, Bool.or_eq_true, decide_eq_true_eq] at hc
  obtain ⟨⟨⟨c1, c2⟩, c3⟩, c4⟩ := hc
  have ht : st.take (qa_na M1) = avs.reverse := by rw [hst, ← hna, ← List.length_reverse, List.take_left]
  have hd : st.drop (qa_na M1) = rest := by rw [hst, ← hna, ← List.length_reverse, List.drop_left]
  have hle : qa_na M1 ≤ st.length := by rw [hst, List.length_append, List.length_reverse, hna]; exact Nat.le_add_right _ _
  have hrc2 : sk = 1 ∨ qa_rc h (qa_cl M1) (st.take (qa_na M1)).getLast? = true := by
    rcases hrc with h9 | ⟨x, as, f, rfl, h9⟩
    · exact Or.inl h9
    · refine Or.inr ?_
      rw [ht, List.getLast?_reverse]
      show (match h x with
        | .inl (cj, _) => decide (cj = qa_cl M1)
        | _ => false) = true
      rw [h9]
      exact decide_eq_true rfl
  have hcond : (3 = 3 ∧ qa_sk M1 = sk ∧ qa_na M1 ≤ st.length ∧ ((st.drop (qa_na M1)).map qa_cat).sum ≤ 8 ∧ ((st.take (qa_na M1)).map qa_cat).sum ≤ qa_ml M1 ∧ qa_fr M1 + 1 ≤ qa_fr M ∧ 19 + qa_ml M1 + qa_lo M1 ≤ qa_lo M ∧ ((qa_hh M1).isEmpty = true ∨ (sk = 1 ∧ nest = false)) ∧ (sk = 1 ∨ qa_rc h (qa_cl M1) (st.take (qa_na M1)).getLast? = true)) :=
    ⟨rfl, c1, hle, by rw [hd]; exact hr, by rw [ht, List.map_reverse, List.sum_reverse]; exact ha, c2, c3, c4, hrc2⟩
  rcases hs with ⟨rfl, rfl⟩ | ⟨rfl, rfl⟩ | ⟨rfl, rfl⟩ <;>
  · unfold qa_inv
    dsimp only
    rw [h1]
    dsimp only
    rw [if_pos hcond, ht, hd, List.reverse_reverse]
/-- a call that returns -/
theorem qa_bk_in {M1 : qa_M} {nest : Bool} {avs rest : List qa_V} {v : Option qa_V} {σ1 : qa_T} (h1 : qa_lk (qa_is M) pc = some (ins, len)) (h0 : qa_do M (qa_hp ds σ) ins len pc lv st = none) (h2 : qa_re (qa_rt M) ins len st = none) (h3 : qa_wr M ins len pc st (qa_hp ds σ) = none) (h4 : qa_mkc M ins len pc st = none) (h5 : qa_th M ins len pc st = none) (h6 : qa_inv M (qa_hp ds σ) ins len st = some (M1, nest, avs, rest))
    (hc : qa_Bk ds M1 0 (qa_ag 0 avs) [] σ (.inl v) σ1) (k : qa_Bk ds M (pc + 3) lv (v.toList ++ rest) σ1 res σ') : qa_Bk ds M pc lv st σ res σ' := by
  obtain ⟨n1, hn1⟩ := hc
  obtain ⟨n2, hn2⟩ := k
  refine ⟨max n1 n2 + 1, fun nx => ?_⟩
  rw [qa_ex, h1]
  dsimp only
  rw [h0]
  dsimp only
  rw [h2]
  dsimp only
  rw [h3]
  dsimp only
  rw [h4]
  dsimp only
  rw [h5]
  dsimp only
  rw [h6]
  dsimp only
  rw [qa_ex_mono (Nat.le_max_left n1 n2) (hn1 nx)]
  dsimp only
  rw [qa_ex_mono (Nat.le_max_right n1 n2) (hn2 nx)]
  show some (res, (nx, qa_hp ds σ'), 0 + qa_cc res, 0 + 6 * qa_cc res) = _
  rw [Nat.zero_add, Nat.zero_add]
/-- a call that throws, where no handler stands -/
theorem qa_bk_ix {M1 : qa_M} {nest : Bool} {avs rest : List qa_V} {E : Nat} {σ1 : qa_T} (h1 : qa_lk (qa_is M) pc = some (ins, len)) (h0 : qa_do M (qa_hp ds σ) ins len pc lv st = none) (h2 : qa_re (qa_rt M) ins len st = none) (h3 : qa_wr M ins len pc st (qa_hp ds σ) = none) (h4 : qa_mkc M ins len pc st = none) (h5 : qa_th M ins len pc st = none) (h6 : qa_inv M (qa_hp ds σ) ins len st = some (M1, nest, avs, rest)) (h7 : ¬ (nest = true ∨ qa_sk M1 = 0)) (h8 : (qa_hh M).isEmpty = true)
    (hc : qa_Bk ds M1 0 (qa_ag 0 avs) [] σ (.inr E) σ1) : qa_Bk ds M pc lv st σ (.inr E) σ1 := by
  obtain ⟨n1, hn1⟩ := hc
  refine ⟨n1 + 1, fun nx => ?_⟩
  rw [qa_ex, h1]
  dsimp only
  rw [h0]
  dsimp only
  rw [h2]
  dsimp only
  rw [h3]
  dsimp only
  rw [h4]
  dsimp only
  rw [h5]
  dsimp only
  rw [h6]
  dsimp only
  rw [hn1 nx]
  dsimp only
  rw [if_neg h7, if_pos h8]
end QBK
end
section
/-! the shapes of the cells behind the law's start, and rows for each kind of instruction (written by wip/tools/mk_shape.py) -/
section QSH
def qa_n0 : Nat → Option qa_P := fun _ => none
def qa_K1 (R : Nat) : Nat → qa_V ⊕ Nat := fun j => match j with
  | 0 => .inl (.inl (R, 1))
  | 1 => .inl (.inl (R, 9))
  | 2 => .inl (.inl (R, 11))
  | 3 => .inl (.inl (R, 12))
  | 4 => .inl (.inl (R, 14))
  | 5 => .inl (.inl (R, 15))
  | 6 => .inl (.inl (R, 16))
  | 7 => .inl (.inl (R, 17))
  | _ => .inl (.inr .null)
def qa_K6 (R : Nat) : Nat → qa_V ⊕ Nat := fun j => match j with
  | 0 => .inr 0
  | 1 => .inl (.inl (R, 2))
  | 2 => .inl (.inl (R, 3))
  | 3 => .inl (.inl (R, 4))
  | 4 => .inl (.inl (R, 5))
  | 5 => .inl (.inl (R, 6))
  | 6 => .inl (.inl (R, 7))
  | 7 => .inl (.inl (R, 8))
  | _ => .inr 0
def qa_K3 (R : Nat) : Nat → qa_V ⊕ Nat := fun j => match j with
  | 0 => .inr 0
  | 1 => .inr 0
  | 2 => .inl (.inl (R, 10))
  | _ => .inl (.inr .null)
def qa_K2 (R : Nat) : Nat → qa_V ⊕ Nat := fun j => match j with
  | 3 => .inl (.inl (R, 13))
  | _ => .inr 0
def qa_Ki : Nat → qa_V ⊕ Nat := fun _ => .inr 0
def qa_K9 : Nat → qa_V ⊕ Nat := fun j => match j with
  | 0 => .inl (.inl (1, 0))
  | 1 => .inl (.inl (2, 0))
  | 2 => .inl (.inl (2, 18))
  | 3 => .inl (.inl (8, 18))
  | 4 => .inl (.inl (10, 18))
  | 5 => .inl (.inl (10, 19))
  | _ => .inl (.inr .null)
def qa_K5 : Nat → qa_V ⊕ Nat := fun j => match j with
  | 0 => .inr 0
  | 1 => .inr 0
  | 2 => .inl (.inl (2, 19))
  | _ => .inl (.inr .null)
def qa_K8 : Nat → qa_V ⊕ Nat := fun j => match j with
  | 1 => .inl (.inl (10, 20))
  | _ => .inr 0
def qa_K10 : Nat → qa_V ⊕ Nat := fun j => match j with
  | 0 => .inl (.inl (10, 22))
  | 1 => .inl (.inl (10, 23))
  | 2 => .inr 0
  | 3 => .inl (.inl (10, 24))
  | 4 => .inl (.inl (10, 25))
  | 5 => .inl (.inl (10, 26))
  | 6 => .inl (.inl (10, 27))
  | 7 => .inl (.inl (10, 28))
  | 8 => .inr 0
  | 9 => .inr 0
  | 10 => .inr 0
  | 11 => .inr 0
  | 12 => .inr 0
  | 13 => .inr 0
  | _ => .inr 1
def qa_jk : qa_D := .inl (99, fun _ => .inl (.inr .null))
/-- a Bonfire's region -/
def qa_db (R j : Nat) : qa_D := match j with
  | 0 => .inl (1, qa_K1 R)
  | 1 => .inl (6, qa_K6 R)
  | 2 => .inr (0, 16, qa_n0)
  | 3 => .inr (0, 16, qa_n0)
  | 4 => .inr (0, 16, qa_n0)
  | 5 => .inr (1, 16, qa_n0)
  | 6 => .inr (0, 16, qa_n0)
  | 7 => .inr (0, 16, qa_n0)
  | 8 => .inr (0, 16, qa_n0)
  | 9 => .inl (3, qa_K3 R)
  | 10 => .inr (0, 24, qa_n0)
  | 11 => .inl (7, qa_Ki)
  | 12 => .inl (2, qa_K2 R)
  | 13 => .inr (0, 16, qa_n0)
  | 14 => .inl (4, qa_Ki)
  | 15 => .inl (0, qa_Ki)
  | 16 => .inr (0, 16, qa_n0)
  | _ => .inr (0, 16, qa_n0)
def qa_dx2 (j : Nat) : qa_D := match j with
  | 18 => .inl (5, qa_K5)
  | 19 => .inr (3, 6, fun i => if i < 6 then some (3 + i, 0) else none)
  | _ => qa_jk
def qa_dx8 (j : Nat) : qa_D := match j with
  | 18 => .inr (3, 2, fun i => if i < 2 then some (9 + i, 0) else none)
  | _ => qa_jk
def qa_dx10 (j : Nat) : qa_D := match j with
  | 18 => .inr (1, 2, qa_n0)
  | 19 => .inl (8, qa_K8)
  | 20 => .inr (0, 60, qa_n0)
  | 21 => .inl (10, qa_K10)
  | 22 => .inr (0, 176, qa_n0)
  | 23 => .inr (0, 1056, qa_n0)
  | 24 => .inr (0, 352, qa_n0)
  | 25 => .inr (1, 2, qa_n0)
  | 26 => .inr (0, 176, qa_n0)
  | 27 => .inr (0, 176, qa_n0)
  | 28 => .inr (0, 60, qa_n0)
  | 29 => .inr (2, 1, qa_n0)
  | _ => qa_jk
def qa_d0 (L j : Nat) : qa_D := match j with
  | 0 => .inr (9, L, qa_n0)
  | 1 => .inl (9, qa_K9)
  | _ => qa_jk
def qa_ds (L : Nat) (p : qa_P) : qa_D := if p.1 = 0 then qa_d0 L p.2 else if p.1 ≤ 10 ∧ p.2 < 18 then qa_db p.1 p.2 else if p.1 = 2 then qa_dx2 p.2 else if p.1 = 8 then qa_dx8 p.2 else if p.1 = 10 then qa_dx10 p.2 else qa_jk
/-- a region of a Bonfire -/
def qa_rg (R : Nat) : Prop := 1 ≤ R ∧ R ≤ 10
theorem qa_rg_1 : qa_rg 1 := ⟨by decide, by decide⟩
theorem qa_rg_2 : qa_rg 2 := ⟨by decide, by decide⟩
theorem qa_dsb {L R j : Nat} (h : qa_rg R) (hj : j < 18) : qa_ds L (R, j) = qa_db R j := by
  unfold qa_ds
  dsimp only
  rw [if_neg (by have := h.1; omega), if_pos ⟨h.2, hj⟩]
theorem qa_ds0 {L R : Nat} (h : qa_rg R) : qa_ds L (R, 0) = .inl (1, qa_K1 R) := qa_dsb h (by decide)
theorem qa_ds1 {L R : Nat} (h : qa_rg R) : qa_ds L (R, 1) = .inl (6, qa_K6 R) := qa_dsb h (by decide)
theorem qa_ds2 {L R : Nat} (h : qa_rg R) : qa_ds L (R, 2) = .inr (0, 16, qa_n0) := qa_dsb h (by decide)
theorem qa_ds3 {L R : Nat} (h : qa_rg R) : qa_ds L (R, 3) = .inr (0, 16, qa_n0) := qa_dsb h (by decide)
theorem qa_ds4 {L R : Nat} (h : qa_rg R) : qa_ds L (R, 4) = .inr (0, 16, qa_n0) := qa_dsb h (by decide)
theorem qa_ds5 {L R : Nat} (h : qa_rg R) : qa_ds L (R, 5) = .inr (1, 16, qa_n0) := qa_dsb h (by decide)
theorem qa_ds6 {L R : Nat} (h : qa_rg R) : qa_ds L (R, 6) = .inr (0, 16, qa_n0) := qa_dsb h (by decide)
theorem qa_ds7 {L R : Nat} (h : qa_rg R) : qa_ds L (R, 7) = .inr (0, 16, qa_n0) := qa_dsb h (by decide)
theorem qa_ds8 {L R : Nat} (h : qa_rg R) : qa_ds L (R, 8) = .inr (0, 16, qa_n0) := qa_dsb h (by decide)
theorem qa_ds9 {L R : Nat} (h : qa_rg R) : qa_ds L (R, 9) = .inl (3, qa_K3 R) := qa_dsb h (by decide)
theorem qa_ds10 {L R : Nat} (h : qa_rg R) : qa_ds L (R, 10) = .inr (0, 24, qa_n0) := qa_dsb h (by decide)
theorem qa_ds11 {L R : Nat} (h : qa_rg R) : qa_ds L (R, 11) = .inl (7, qa_Ki) := qa_dsb h (by decide)
theorem qa_ds12 {L R : Nat} (h : qa_rg R) : qa_ds L (R, 12) = .inl (2, qa_K2 R) := qa_dsb h (by decide)
theorem qa_ds13 {L R : Nat} (h : qa_rg R) : qa_ds L (R, 13) = .inr (0, 16, qa_n0) := qa_dsb h (by decide)
theorem qa_ds14 {L R : Nat} (h : qa_rg R) : qa_ds L (R, 14) = .inl (4, qa_Ki) := qa_dsb h (by decide)
theorem qa_ds15 {L R : Nat} (h : qa_rg R) : qa_ds L (R, 15) = .inl (0, qa_Ki) := qa_dsb h (by decide)
theorem qa_ds16 {L R : Nat} (h : qa_rg R) : qa_ds L (R, 16) = .inr (0, 16, qa_n0) := qa_dsb h (by decide)
theorem qa_ds17 {L R : Nat} (h : qa_rg R) : qa_ds L (R, 17) = .inr (0, 16, qa_n0) := qa_dsb h (by decide)
theorem qa_dx_2_18 {L : Nat} : qa_ds L (2, 18) = .inl (5, qa_K5) := rfl
theorem qa_dx_2_19 {L : Nat} : qa_ds L (2, 19) = .inr (3, 6, fun i => if i < 6 then some (3 + i, 0) else none) := rfl
theorem qa_dx_8_18 {L : Nat} : qa_ds L (8, 18) = .inr (3, 2, fun i => if i < 2 then some (9 + i, 0) else none) := rfl
theorem qa_dx_10_18 {L : Nat} : qa_ds L (10, 18) = .inr (1, 2, qa_n0) := rfl
theorem qa_dx_10_19 {L : Nat} : qa_ds L (10, 19) = .inl (8, qa_K8) := rfl
theorem qa_dx_10_20 {L : Nat} : qa_ds L (10, 20) = .inr (0, 60, qa_n0) := rfl
theorem qa_dx_10_21 {L : Nat} : qa_ds L (10, 21) = .inl (10, qa_K10) := rfl
theorem qa_dx_10_22 {L : Nat} : qa_ds L (10, 22) = .inr (0, 176, qa_n0) := rfl
theorem qa_dx_10_23 {L : Nat} : qa_ds L (10, 23) = .inr (0, 1056, qa_n0) := rfl
theorem qa_dx_10_24 {L : Nat} : qa_ds L (10, 24) = .inr (0, 352, qa_n0) := rfl
theorem qa_dx_10_25 {L : Nat} : qa_ds L (10, 25) = .inr (1, 2, qa_n0) := rfl
theorem qa_dx_10_26 {L : Nat} : qa_ds L (10, 26) = .inr (0, 176, qa_n0) := rfl
theorem qa_dx_10_27 {L : Nat} : qa_ds L (10, 27) = .inr (0, 176, qa_n0) := rfl
theorem qa_dx_10_28 {L : Nat} : qa_ds L (10, 28) = .inr (0, 60, qa_n0) := rfl
theorem qa_dx_10_29 {L : Nat} : qa_ds L (10, 29) = .inr (2, 1, qa_n0) := rfl
theorem qa_dx_0_1 {L : Nat} : qa_ds L (0, 1) = .inl (9, qa_K9) := rfl
theorem qa_dx_0_0 {L : Nat} : qa_ds L (0, 0) = .inr (9, L, qa_n0) := rfl
variable {L : Nat} {M : qa_M} {pc : Nat} {lv : qa_L} {st : List qa_V} {σ σ' : qa_T} {res : Option qa_V ⊕ Nat} {ins : Instr} {len : Nat}
theorem qa_bk_gi {i ci sl pl : Nat} {x : qa_P} {r : List qa_V} {K : Nat → qa_V ⊕ Nat} (h1 : qa_lk (qa_is M) pc = some (.getfield i, 3)) (h2 : qa_lk (qa_fl (qa_cl M)) i = some (ci, sl, pl)) (hd : qa_ds L x = .inl (ci, K)) (hK : K sl = .inr 0) (k : qa_Bk (qa_ds L) M (pc + 3) lv (.inr (.int (σ.1 x sl)) :: r) σ res σ') : qa_Bk (qa_ds L) M pc lv (.inl x :: r) σ res σ' := by
  refine qa_bk_gf h1 h2 hd ?_
  unfold qa_fv
  rw [hK]
  exact k
theorem qa_bk_gl {i ci sl pl : Nat} {x : qa_P} {r : List qa_V} {K : Nat → qa_V ⊕ Nat} (h1 : qa_lk (qa_is M) pc = some (.getfield i, 3)) (h2 : qa_lk (qa_fl (qa_cl M)) i = some (ci, sl, pl)) (hd : qa_ds L x = .inl (ci, K)) (hK : K sl = .inr 1) (k : qa_Bk (qa_ds L) M (pc + 3) lv (.inr (.long (σ.2 x sl)) :: r) σ res σ') : qa_Bk (qa_ds L) M pc lv (.inl x :: r) σ res σ' := by
  refine qa_bk_gf h1 h2 hd ?_
  unfold qa_fv
  rw [hK]
  exact k
theorem qa_bk_gr {i ci sl pl : Nat} {x : qa_P} {v : qa_V} {r : List qa_V} {K : Nat → qa_V ⊕ Nat} (h1 : qa_lk (qa_is M) pc = some (.getfield i, 3)) (h2 : qa_lk (qa_fl (qa_cl M)) i = some (ci, sl, pl)) (hd : qa_ds L x = .inl (ci, K)) (hK : K sl = .inl v) (k : qa_Bk (qa_ds L) M (pc + 3) lv (v :: r) σ res σ') : qa_Bk (qa_ds L) M pc lv (.inl x :: r) σ res σ' := by
  refine qa_bk_gf h1 h2 hd ?_
  unfold qa_fv
  rw [hK]
  exact k
/-- conditions: taken, not taken -/
theorem qa_bk_1t {c : Prop} [Decidable c] {a b : Nat} {lv' : qa_L} {st' : List qa_V} (hc : c) (h1 : qa_lk (qa_is M) pc = some (ins, len)) (h2 : qa_do M (qa_hp (qa_ds L) σ) ins len pc lv st = some (if decide c = true then a else b, lv', st')) (k : qa_Bk (qa_ds L) M a lv' st' σ res σ') : qa_Bk (qa_ds L) M pc lv st σ res σ' := by
  rw [if_pos (decide_eq_true hc)] at h2
  exact qa_bk_do h1 h2 k
theorem qa_bk_1f {c : Prop} [Decidable c] {a b : Nat} {lv' : qa_L} {st' : List qa_V} (hc : ¬ c) (h1 : qa_lk (qa_is M) pc = some (ins, len)) (h2 : qa_do M (qa_hp (qa_ds L) σ) ins len pc lv st = some (if decide c = true then a else b, lv', st')) (k : qa_Bk (qa_ds L) M b lv' st' σ res σ') : qa_Bk (qa_ds L) M pc lv st σ res σ' := by
  rw [if_neg (fun t => hc (of_decide_eq_true t))] at h2
  exact qa_bk_do h1 h2 k
theorem qa_bk_dv {x y : Int32} {r : List qa_V} (hy : ¬ y = 0) (h1 : qa_lk (qa_is M) pc = some (.idiv, 1)) (k : qa_Bk (qa_ds L) M (pc + 1) lv (.inr (.int (x / y)) :: r) σ res σ') : qa_Bk (qa_ds L) M pc lv (.inr (.int y) :: .inr (.int x) :: r) σ res σ' := by
  refine qa_bk_do h1 ?_ k
  show qa_S 1 1 pc lv ((if y = 0 then none else some (Value.int (x / y))).map (fun v => (.inr v :: r : List qa_V))) = _
  rw [if_neg hy]
  rfl
theorem qa_bk_rm {x y : Int32} {r : List qa_V} (hy : ¬ y = 0) (h1 : qa_lk (qa_is M) pc = some (.irem, 1)) (k : qa_Bk (qa_ds L) M (pc + 1) lv (.inr (.int (x - x / y * y)) :: r) σ res σ') : qa_Bk (qa_ds L) M pc lv (.inr (.int y) :: .inr (.int x) :: r) σ res σ' := by
  refine qa_bk_do h1 ?_ k
  show qa_S 1 1 pc lv ((if y = 0 then none else some (Value.int (x - x / y * y))).map (fun v => (.inr v :: r : List qa_V))) = _
  rw [if_neg hy]
  rfl
/-- a double's result that is a number -/
abbrev qa_nn (x : UInt64) : Prop := x &&& 0x7fffffffffffffff ≤ 0x7ff0000000000000
theorem qa_bk_dd {x y : UInt64} {r : List qa_V} (hy : qa_nn (FP.ddiv x y)) (h1 : qa_lk (qa_is M) pc = some (.ddiv, 1)) (k : qa_Bk (qa_ds L) M (pc + 1) lv (.inr (.double (FP.ddiv x y)) :: r) σ res σ') : qa_Bk (qa_ds L) M pc lv (.inr (.double y) :: .inr (.double x) :: r) σ res σ' := by
  refine qa_bk_do h1 ?_ k
  show qa_S 1 1 pc lv ((if FP.ddiv x y &&& 0x7fffffffffffffff ≤ 0x7ff0000000000000 then some (Value.double (FP.ddiv x y)) else none).map (fun v => (.inr v :: r : List qa_V))) = _
  have hy2 : FP.ddiv x y &&& 0x7fffffffffffffff ≤ 0x7ff0000000000000 := hy
  rw [if_pos hy2]
  rfl
theorem qa_bk_dm {x y : UInt64} {r : List qa_V} (hy : qa_nn (FP.dmul x y)) (h1 : qa_lk (qa_is M) pc = some (.dmul, 1)) (k : qa_Bk (qa_ds L) M (pc + 1) lv (.inr (.double (FP.dmul x y)) :: r) σ res σ') : qa_Bk (qa_ds L) M pc lv (.inr (.double y) :: .inr (.double x) :: r) σ res σ' := by
  refine qa_bk_do h1 ?_ k
  show qa_S 1 1 pc lv ((if FP.dmul x y &&& 0x7fffffffffffffff ≤ 0x7ff0000000000000 then some (Value.double (FP.dmul x y)) else none).map (fun v => (.inr v :: r : List qa_V))) = _
  have hy2 : FP.dmul x y &&& 0x7fffffffffffffff ≤ 0x7ff0000000000000 := hy
  rw [if_pos hy2]
  rfl
theorem qa_bk_du {x y : UInt64} {r : List qa_V} (hy : qa_nn (FP.dsub x y)) (h1 : qa_lk (qa_is M) pc = some (.dsub, 1)) (k : qa_Bk (qa_ds L) M (pc + 1) lv (.inr (.double (FP.dsub x y)) :: r) σ res σ') : qa_Bk (qa_ds L) M pc lv (.inr (.double y) :: .inr (.double x) :: r) σ res σ' := by
  refine qa_bk_do h1 ?_ k
  show qa_S 1 1 pc lv ((if FP.dsub x y &&& 0x7fffffffffffffff ≤ 0x7ff0000000000000 then some (Value.double (FP.dsub x y)) else none).map (fun v => (.inr v :: r : List qa_V))) = _
  have hy2 : FP.dsub x y &&& 0x7fffffffffffffff ≤ 0x7ff0000000000000 := hy
  rw [if_pos hy2]
  rfl
theorem qa_bk_cv {i pl : Nat} {M1 : qa_M} {nest : Bool} {x : qa_P} {as rest : List qa_V} {v : Option qa_V} {σ1 : qa_T} {K : Nat → qa_V ⊕ Nat} (hb : qa_Bk (qa_ds L) M1 0 (qa_ag 0 (.inl x :: as)) [] σ (.inl v) σ1) (h1 : qa_lk (qa_is M) pc = some (.invokevirtual i, 3)) (h2 : qa_lk (qa_ca (qa_cl M)) i = some (M1, nest, pl)) (hst : st = (.inl x :: as : List qa_V).reverse ++ rest) (hc : qa_chk M M1 2 nest = true) (hna : (.inl x :: as : List qa_V).length = qa_na M1) (hr : Nat.ble (rest.map qa_cat).sum 8 = true) (ha : Nat.ble ((.inl x :: as : List qa_V).map qa_cat).sum (qa_ml M1) = true) (hd : qa_ds L x = .inl (qa_cl M1, K))
    (k : qa_Bk (qa_ds L) M (pc + 3) lv (v.toList ++ rest) σ1 res σ') : qa_Bk (qa_ds L) M pc lv st σ res σ' :=
  qa_bk_in h1 rfl rfl rfl rfl rfl (qa_inv_of (Or.inl ⟨rfl, rfl⟩) h2 hc hst hna (Nat.le_of_ble_eq_true hr) (Nat.le_of_ble_eq_true ha) (Or.inr ⟨x, as, qa_fv K (σ.1 x) (σ.2 x), rfl, by unfold qa_hp; rw [hd]; rfl⟩)) hb k
theorem qa_bk_cs {i pl : Nat} {M1 : qa_M} {nest : Bool} {as rest : List qa_V} {v : Option qa_V} {σ1 : qa_T} (hb : qa_Bk (qa_ds L) M1 0 (qa_ag 0 as) [] σ (.inl v) σ1) (h1 : qa_lk (qa_is M) pc = some (.invokestatic i, 3)) (h2 : qa_lk (qa_ca (qa_cl M)) i = some (M1, nest, pl)) (hst : st = as.reverse ++ rest) (hc : qa_chk M M1 1 nest = true) (hna : as.length = qa_na M1) (hr : Nat.ble (rest.map qa_cat).sum 8 = true) (ha : Nat.ble (as.map qa_cat).sum (qa_ml M1) = true)
    (k : qa_Bk (qa_ds L) M (pc + 3) lv (v.toList ++ rest) σ1 res σ') : qa_Bk (qa_ds L) M pc lv st σ res σ' :=
  qa_bk_in h1 rfl rfl rfl rfl rfl (qa_inv_of (Or.inr (Or.inr ⟨rfl, rfl⟩)) h2 hc hst hna (Nat.le_of_ble_eq_true hr) (Nat.le_of_ble_eq_true ha) (Or.inl rfl)) hb k
theorem qa_bk_cx {i pl : Nat} {M1 : qa_M} {as rest : List qa_V} {E : Nat} {σ1 : qa_T} (hb : qa_Bk (qa_ds L) M1 0 (qa_ag 0 as) [] σ (.inr E) σ1) (h1 : qa_lk (qa_is M) pc = some (.invokestatic i, 3)) (h2 : qa_lk (qa_ca (qa_cl M)) i = some (M1, false, pl)) (hst : st = as.reverse ++ rest) (hc : qa_chk M M1 1 false = true) (hna : as.length = qa_na M1) (hr : Nat.ble (rest.map qa_cat).sum 8 = true) (ha : Nat.ble (as.map qa_cat).sum (qa_ml M1) = true) (hh : (qa_hh M).isEmpty = true) : qa_Bk (qa_ds L) M pc lv st σ (.inr E) σ1 :=
  qa_bk_ix h1 rfl rfl rfl rfl rfl (qa_inv_of (Or.inr (Or.inr ⟨rfl, rfl⟩)) h2 hc hst hna (Nat.le_of_ble_eq_true hr) (Nat.le_of_ble_eq_true ha) (Or.inl rfl)) (fun t => by
    rcases t with t | t
    · cases t
    · have h9 : qa_sk M1 = 1 := by
        unfold qa_chk at hc
        simp only [Bool.and_eq_true] at hc
        exact of_decide_eq_true hc.1.1.1
      omega) hh hb
/-- the locals, put in another order or fewer -/
def qa_nd : qa_L → Bool
  | [] => true
  | (i, _) :: l => !(l.any (fun q => q.1 == i)) && qa_nd l
def qa_sb : qa_L → qa_L → Prop
  | [], _ => True
  | (i, v) :: l, lv => qa_lk lv i = some v ∧ qa_sb l lv
def qa_le (l m : qa_L) : Prop := ∀ (i : Nat) (v : qa_V), qa_lk l i = some v → qa_lk m i = some v
theorem qa_sb_le : ∀ (l m : qa_L), qa_sb l m → qa_le l m
  | [], _, _, i, v, h => by cases h
  | (j, w) :: l, m, hs, i, v, h => by
    unfold qa_lk at h
    split at h
    · next e => cases h; rw [← e]; exact hs.1
    · exact qa_sb_le l m hs.2 i v h
theorem qa_lk_no : ∀ (l : qa_L) (i : Nat), (l.any (fun q => q.1 == i)) = false → qa_lk l i = none
  | [], _, _ => rfl
  | (j, w) :: l, i, h => by
    rw [List.any_cons, Bool.or_eq_false_iff] at h
    unfold qa_lk
    rw [if_neg (fun t => by have := h.1; dsimp only at this; rw [t, beq_self_eq_true] at this; cases this)]
    exact qa_lk_no l i h.2
theorem qa_lk_fl (P : Nat × qa_V → Bool) : ∀ (l : qa_L), qa_nd l = true → ∀ i : Nat, qa_lk (l.filter P) i = (match qa_lk l i with
    | some v => if P (i, v) = true then some v else none
    | none => none)
  | [], _, _ => rfl
  | (j, w) :: l, h, i => by
    unfold qa_nd at h
    simp only [Bool.and_eq_true, Bool.not_eq_true'] at h
    have ih := qa_lk_fl P l h.2 i
    by_cases e : j = i
    · subst e
      have h0 := qa_lk_no l j h.1
      rw [h0] at ih
      rw [List.filter_cons]
      by_cases hp : P (j, w) = true
      · rw [if_pos hp]
        show (if j = j then some w else qa_lk (l.filter P) j) = (match (if j = j then some w else qa_lk l j) with
          | some v => if P (j, v) = true then some v else none
          | none => none)
        rw [if_pos rfl, if_pos rfl]
        dsimp only
        rw [if_pos hp]
      · rw [if_neg hp, ih]
        show _ = (match (if j = j then some w else qa_lk l j) with
          | some v => if P (j, v) = true then some v else none
          | none => none)
        rw [if_pos rfl]
        dsimp only
        rw [if_neg hp]
    · have e2 : qa_lk ((j, w) :: l) i = qa_lk l i := if_neg e
      rw [e2, ← ih, List.filter_cons]
      by_cases hp : P (j, w) = true
      · rw [if_pos hp]; exact if_neg e
      · rw [if_neg hp]
theorem qa_nd_fl (P : Nat × qa_V → Bool) : ∀ (l : qa_L), qa_nd l = true → qa_nd (l.filter P) = true
  | [], _ => rfl
  | (j, w) :: l, h => by
    unfold qa_nd at h
    simp only [Bool.and_eq_true, Bool.not_eq_true'] at h
    rw [List.filter_cons]
    by_cases hp : P (j, w) = true
    · rw [if_pos hp]
      unfold qa_nd
      rw [qa_nd_fl P l h.2, Bool.and_true, Bool.not_eq_true']
      rw [List.any_eq_false]
      intro q hq
      exact List.any_eq_false.mp h.1 q (List.mem_filter.mp hq).1
    · rw [if_neg hp]; exact qa_nd_fl P l h.2
/-- a store keeps the order of two lists of locals -/
theorem qa_le_st {l m : qa_L} {i : Nat} {v : qa_V} (P : Nat × qa_V → Bool) (hl : qa_nd l = true) (hm : qa_nd m = true) (h : qa_le l m) : qa_le ((i, v) :: l.filter P) ((i, v) :: m.filter P) := by
  intro j w hj
  unfold qa_lk at hj ⊢
  split at hj
  · next e => rw [if_pos e]; exact hj
  · next e =>
    rw [if_neg e]
    rw [qa_lk_fl P l hl] at hj
    rw [qa_lk_fl P m hm]
    split at hj
    · next u hu =>
      rw [h j u hu]
      exact hj
    · cases hj
theorem qa_nd_st {l : qa_L} {i : Nat} {v : qa_V} (P : Nat × qa_V → Bool) (hP : ∀ w, P (i, w) = false) (hl : qa_nd l = true) : qa_nd ((i, v) :: l.filter P) = true := by
  unfold qa_nd
  rw [qa_nd_fl P l hl, Bool.and_true, Bool.not_eq_true', List.any_eq_false]
  intro q hq t
  have h1 := (List.mem_filter.mp hq).2
  have h2 : q.1 = i := by simpa using t
  rw [show q = (i, q.2) from by rw [← h2], hP] at h1
  cases h1
end QSH
end
section
/-! more locals, or in another order: the run stays -/
section QLV
variable {M : qa_M} {h : qa_P → qa_C} {ins : Instr} {len pc : Nat} {lv lw : qa_L} {st : List qa_V}
/-- does the instruction look at the locals -/
def qa_loc (ins : Instr) : Bool := match ins with
  | .iload_n _ => true
  | .iload _ => true
  | .lload_n _ => true
  | .lload _ => true
  | .dload_n _ => true
  | .dload _ => true
  | .aload_n _ => true
  | .aload _ => true
  | .istore_n _ => true
  | .istore _ => true
  | .lstore_n _ => true
  | .lstore _ => true
  | .dstore_n _ => true
  | .dstore _ => true
  | .astore_n _ => true
  | .astore _ => true
  | .iinc _ _ => true
  | _ => false
def qa_ml2 (lv : qa_L) (F : qa_F) : qa_F := (F.1, lv, F.2.2)
theorem qa_nl_S {n : Nat} {o : Option (List qa_V)} : qa_S len n pc lv o = (qa_S len n pc [] o).map (qa_ml2 lv) := by
  unfold qa_S
  split
  · cases o <;> rfl
  · rfl
theorem qa_nl_b1 {off : Int} {t : Int32 → Bool} : qa_b1 len pc off lv st t = (qa_b1 len pc off [] st t).map (qa_ml2 lv) := by
  unfold qa_b1
  split
  · split <;> rfl
  · rfl
theorem qa_nl_b2 {off : Int} {t : Int32 → Int32 → Bool} : qa_b2 len pc off lv st t = (qa_b2 len pc off [] st t).map (qa_ml2 lv) := by
  unfold qa_b2
  split
  · split <;> rfl
  · rfl
theorem qa_nl_bn {off : Int} : qa_bn len pc off lv st = (qa_bn len pc off [] st).map (qa_ml2 lv) := by
  unfold qa_bn
  split
  · split <;> rfl
  · split <;> rfl
  · rfl
theorem qa_nl_ls {dflt : Int} {ps : Array (Int × Int)} : qa_ls pc dflt ps lv st = (qa_ls pc dflt ps [] st).map (qa_ml2 lv) := by
  unfold qa_ls
  split
  · split <;> rfl
  · rfl
theorem qa_nl_ts {dflt lo hi : Int} {offs : Array Int} : qa_ts pc dflt lo hi offs lv st = (qa_ts pc dflt lo hi offs [] st).map (qa_ml2 lv) := by
  unfold qa_ts
  split
  · split
    · split <;> rfl
    · split
      · split <;> rfl
      · rfl
  · rfl
theorem qa_do_nl (hn : qa_loc ins = false) : qa_do M h ins len pc lv st = (qa_do M h ins len pc [] st).map (qa_ml2 lv) := by
  cases ins with
  | goto off => unfold qa_do; dsimp only; split <;> rfl
  | ifCond cnd off => cases cnd <;> exact qa_nl_b1
  | if_icmp cnd off => cases cnd <;> exact qa_nl_b2
  | ifnull off => exact qa_nl_bn
  | lookupswitch d ps => exact qa_nl_ls
  | tableswitch d lo hi offs => exact qa_nl_ts
  | _ => first | exact qa_nl_S | rfl | cases hn
theorem qa_le_refl (l : qa_L) : qa_le l l := fun _ _ h => h
/-- the same for the instructions that look at them -/
theorem qa_do_lc (hn : qa_loc ins = true) (hle : qa_le lw lv) (h1 : qa_nd lw = true) (h2 : qa_nd lv = true) {F : qa_F} (e : qa_do M h ins len pc lw st = some F) : ∃ lv', qa_do M h ins len pc lv st = some (F.1, lv', F.2.2) ∧ qa_le F.2.1 lv' ∧ qa_nd F.2.1 = true ∧ qa_nd lv' = true := by
  have hP1 : ∀ (i : Nat) (w : qa_V), (fun q : Nat × qa_V => !(q.1 == i) && !(q.1 + 1 == i && qa_cat q.2 == 2)) (i, w) = false := fun i w => by simp
  have hP2 : ∀ (i : Nat) (w : qa_V), (fun q : Nat × qa_V => !(q.1 == i) && (!(q.1 == i + 1) && !(q.1 + 1 == i && qa_cat q.2 == 2))) (i, w) = false := fun i w => by simp
  have ld : ∀ {n : Nat} {o o' : Option (List qa_V)}, (∀ s, o = some s → o' = some s) → qa_S len n pc lw o = some F → ∃ lv', qa_S len n pc lv o' = some (F.1, lv', F.2.2) ∧ qa_le F.2.1 lv' ∧ qa_nd F.2.1 = true ∧ qa_nd lv' = true := by
    intro n o o' ho e
    obtain ⟨rfl, s, hs, rfl⟩ := qa_S_inv e
    refine ⟨lv, ?_, hle, h1, h2⟩
    rw [ho s hs]
    unfold qa_S
    rw [if_pos rfl]
    rfl
  have li : ∀ (i : Nat) (s : List qa_V), qa_li lw i st = some s → qa_li lv i st = some s := fun i s e => by
    obtain ⟨x, h3, rfl⟩ := qa_li_inv e
    unfold qa_li
    rw [hle _ _ h3]
  have ll : ∀ (i : Nat) (s : List qa_V), qa_ll lw i st = some s → qa_ll lv i st = some s := fun i s e => by
    obtain ⟨x, h3, rfl⟩ := qa_ll_inv e
    unfold qa_ll
    rw [hle _ _ h3]
  have lD : ∀ (i : Nat) (s : List qa_V), qa_ld lw i st = some s → qa_ld lv i st = some s := fun i s e => by
    obtain ⟨x, h3, rfl⟩ := qa_ld_inv e
    unfold qa_ld
    rw [hle _ _ h3]
  have la : ∀ (i : Nat) (s : List qa_V), qa_la lw i st = some s → qa_la lv i st = some s := fun i s e => by
    obtain ⟨x, h3, rfl⟩ := qa_la_inv e
    unfold qa_la
    rw [hle _ _ h3]
  have si : ∀ {nL n i : Nat}, qa_si nL len n pc i lw st = some F → ∃ lv', qa_si nL len n pc i lv st = some (F.1, lv', F.2.2) ∧ qa_le F.2.1 lv' ∧ qa_nd F.2.1 = true ∧ qa_nd lv' = true := fun {nL n i} e => by
    obtain ⟨x, r, rfl, rfl, hi, rfl⟩ := qa_si_inv e
    refine ⟨qa_s1 i (.inr (.int x)) lv, by unfold qa_si; dsimp only; rw [if_pos ⟨rfl, hi⟩], qa_le_st _ h1 h2 hle, qa_nd_st _ (hP1 i) h1, qa_nd_st _ (hP1 i) h2⟩
  have sa : ∀ {nL n i : Nat}, qa_sa nL len n pc i lw st = some F → ∃ lv', qa_sa nL len n pc i lv st = some (F.1, lv', F.2.2) ∧ qa_le F.2.1 lv' ∧ qa_nd F.2.1 = true ∧ qa_nd lv' = true := fun {nL n i} e => by
    obtain ⟨x, r, rfl, rfl, hi, rfl⟩ := qa_sa_inv e
    refine ⟨qa_s1 i (.inl x) lv, by unfold qa_sa; dsimp only; rw [if_pos ⟨rfl, hi⟩], qa_le_st _ h1 h2 hle, qa_nd_st _ (hP1 i) h1, qa_nd_st _ (hP1 i) h2⟩
  have sl : ∀ {nL n i : Nat}, qa_sl nL len n pc i lw st = some F → ∃ lv', qa_sl nL len n pc i lv st = some (F.1, lv', F.2.2) ∧ qa_le F.2.1 lv' ∧ qa_nd F.2.1 = true ∧ qa_nd lv' = true := fun {nL n i} e => by
    obtain ⟨x, r, rfl, rfl, hi, rfl⟩ := qa_sl_inv e
    refine ⟨qa_s2 i (.inr (.long x)) lv, by unfold qa_sl; dsimp only; rw [if_pos ⟨rfl, hi⟩], qa_le_st _ h1 h2 hle, qa_nd_st _ (hP2 i) h1, qa_nd_st _ (hP2 i) h2⟩
  have sd : ∀ {nL n i : Nat}, qa_sd nL len n pc i lw st = some F → ∃ lv', qa_sd nL len n pc i lv st = some (F.1, lv', F.2.2) ∧ qa_le F.2.1 lv' ∧ qa_nd F.2.1 = true ∧ qa_nd lv' = true := fun {nL n i} e => by
    obtain ⟨x, r, rfl, rfl, hi, rfl⟩ := qa_sd_inv e
    refine ⟨qa_s2 i (.inr (.double x)) lv, by unfold qa_sd; dsimp only; rw [if_pos ⟨rfl, hi⟩], qa_le_st _ h1 h2 hle, qa_nd_st _ (hP2 i) h1, qa_nd_st _ (hP2 i) h2⟩
  cases ins with
  | iload_n i => exact ld (li _) e
  | iload i => exact ld (li _) e
  | lload_n i => exact ld (ll _) e
  | lload i => exact ld (ll _) e
  | dload_n i => exact ld (lD _) e
  | dload i => exact ld (lD _) e
  | aload_n i => exact ld (la _) e
  | aload i => exact ld (la _) e
  | istore_n i => exact si e
  | istore i => exact si e
  | lstore_n i => exact sl e
  | lstore i => exact sl e
  | dstore_n i => exact sd e
  | dstore i => exact sd e
  | astore_n i => exact sa e
  | astore i => exact sa e
  | iinc i n =>
    unfold qa_do at e ⊢
    dsimp only at e ⊢
    split at e
    · next x hx =>
      split at e
      · next hc =>
        cases e
        rw [hle _ _ hx]
        dsimp only
        rw [if_pos hc]
        exact ⟨_, rfl, qa_le_st _ h1 h2 hle, qa_nd_st _ (hP1 i) h1, qa_nd_st _ (hP1 i) h2⟩
      · cases e
    · cases e
  | _ => cases hn
theorem qa_do_le (hle : qa_le lw lv) (h1 : qa_nd lw = true) (h2 : qa_nd lv = true) {F : qa_F} (e : qa_do M h ins len pc lw st = some F) : ∃ lv', qa_do M h ins len pc lv st = some (F.1, lv', F.2.2) ∧ qa_le F.2.1 lv' ∧ qa_nd F.2.1 = true ∧ qa_nd lv' = true := by
  cases hn : qa_loc ins with
  | true => exact qa_do_lc hn hle h1 h2 e
  | false =>
    rw [qa_do_nl hn] at e
    obtain ⟨G, hG, rfl⟩ := Option.map_eq_some_iff.mp e
    refine ⟨lv, ?_, hle, h1, h2⟩
    rw [qa_do_nl hn, hG]
    rfl
theorem qa_do_no (e : qa_do M h ins len pc lw st = none) : qa_do M h ins len pc lv st = none ∨ qa_loc ins = true := by
  cases hn : qa_loc ins with
  | true => exact Or.inr rfl
  | false =>
    refine Or.inl ?_
    rw [qa_do_nl hn] at e ⊢
    rw [Option.map_eq_none_iff] at e
    rw [e]
    rfl
theorem qa_loc_no {ret : Option FieldType} (hn : qa_loc ins = true) : qa_re ret ins len st = none ∧ qa_wr M ins len pc st h = none ∧ qa_mkc M ins len pc st = none ∧ qa_th M ins len pc st = none ∧ qa_inv M h ins len st = none := by
  cases ins <;> first | exact ⟨rfl, rfl, rfl, rfl, rfl⟩ | cases hn
theorem qa_ex_le : ∀ (n : Nat) (pc : Nat) (lw lv : qa_L) (st : List qa_V) (h : qa_H) (r : qa_Z), qa_le lw lv → qa_nd lw = true → qa_nd lv = true → qa_ex n M pc lw st h = some r → qa_ex n M pc lv st h = some r := by
  intro n
  induction n with
  | zero => intro pc lw lv st h r _ _ _ e; cases e
  | succ n ih =>
    intro pc lw lv st h r hle n1 n2 e
    rw [qa_ex] at e
    rw [qa_ex]
    cases h1 : qa_lk (qa_is M) pc with
    | none => rw [h1] at e; cases e
    | some q =>
      obtain ⟨ins, len⟩ := q
      rw [h1] at e
      dsimp only at e ⊢
      cases h2 : qa_do M h.2 ins len pc lw st with
      | some F =>
        rw [h2] at e
        obtain ⟨lv', e1, e2, e3, e4⟩ := qa_do_le hle n1 n2 h2
        rw [e1]
        exact ih _ _ _ _ _ _ e2 e3 e4 e
      | none =>
        rw [h2] at e
        dsimp only at e
        rcases qa_do_no (lv := lv) h2 with h3 | h3
        · rw [h3]
          dsimp only
          cases h4 : qa_re (qa_rt M) ins len st with
          | some v => rw [h4] at e; exact e
          | none =>
            rw [h4] at e
            dsimp only at e ⊢
            cases h5 : qa_wr M ins len pc st h.2 with
            | some w => rw [h5] at e; exact ih _ _ _ _ _ _ hle n1 n2 e
            | none =>
              rw [h5] at e
              dsimp only at e ⊢
              cases h6 : qa_mkc M ins len pc st with
              | some w =>
                rw [h6] at e
                dsimp only at e ⊢
                obtain ⟨r1, e1, e2⟩ := Option.map_eq_some_iff.mp e
                rw [ih _ _ _ _ _ _ hle n1 n2 e1]
                exact congrArg some e2
              | none =>
                rw [h6] at e
                dsimp only at e ⊢
                cases h7 : qa_th M ins len pc st with
                | some E => rw [h7] at e; exact e
                | none =>
                  rw [h7] at e
                  dsimp only at e ⊢
                  cases h8 : qa_inv M h.2 ins len st with
                  | none => rw [h8] at e; exact e
                  | some w =>
                    rw [h8] at e
                    dsimp only at e ⊢
                    cases h9 : qa_ex n w.1 0 (qa_ag 0 w.2.2.1) [] h with
                    | none => rw [h9] at e; cases e
                    | some z =>
                      obtain ⟨z1, hz, k, sl⟩ := z
                      rw [h9] at e
                      cases z1 with
                      | inl v =>
                        dsimp only at e ⊢
                        obtain ⟨r1, e1, e2⟩ := Option.map_eq_some_iff.mp e
                        rw [ih _ _ _ _ _ _ hle n1 n2 e1]
                        exact congrArg some e2
                      | inr E =>
                        dsimp only at e ⊢
                        split at e
                        · cases e
                        · next g1 =>
                          rw [if_neg g1]
                          split at e
                          · next g2 => rw [if_pos g2]; exact e
                          · next g2 =>
                            rw [if_neg g2]
                            cases g3 : qa_hd (qa_hh M) pc E with
                            | none => rw [g3] at e; cases e
                            | some t =>
                              rw [g3] at e
                              dsimp only at e ⊢
                              obtain ⟨r1, e1, e2⟩ := Option.map_eq_some_iff.mp e
                              rw [ih _ _ _ _ _ _ hle n1 n2 e1]
                              exact congrArg some e2
        · obtain ⟨g1, g2, g3, g4, g5⟩ := qa_loc_no (M := M) (h := h.2) (len := len) (pc := pc) (st := st) (ret := qa_rt M) h3
          rw [g1, g2, g3, g4, g5] at e
          cases e
variable {ds : qa_P → qa_D} {σ σ' : qa_T} {res : Option qa_V ⊕ Nat}
theorem qa_bk_lv (h1 : qa_nd lw = true) (h2 : qa_nd lv = true) (hs : qa_sb lw lv) (k : qa_Bk ds M pc lw st σ res σ') : qa_Bk ds M pc lv st σ res σ' := by
  obtain ⟨n, hn⟩ := k
  exact ⟨n, fun nx => qa_ex_le n pc lw lv st _ _ (qa_sb_le lw lv hs) h1 h2 (hn nx)⟩
end QLV
end
section
/-! help for the functions of the methods -/
section QHE
def qa_bi (b : Bool) : Int32 := match b with
  | true => 1
  | false => 0
theorem qa_bi01 (b : Bool) : qa_bi b = 0 ∨ qa_bi b = 1 := by cases b <;> decide
theorem qa_fitz (b : Bool) : qa_fit .boolean (.inr (.int (qa_bi b))) = true := by cases b <;> rfl
theorem qa_fiti (v : Int32) : qa_fit .int (.inr (.int v)) = true := by
  unfold qa_fit
  dsimp only
  rw [show (decide (narrow .int (.int v) = .int v)) = true from decide_eq_true rfl]
  rfl
theorem qa_fitj (v : Int64) : qa_fit .long (.inr (.long v)) = true := by
  unfold qa_fit
  dsimp only
  rw [show (decide (narrow .long (.long v) = .long v)) = true from decide_eq_true rfl]
  rfl
theorem qa_ite {α : Type} {c : Prop} [Decidable c] {a b r : α} (h : (if c then a else b) = r) : (c ∧ a = r) ∨ (¬ c ∧ b = r) := by
  by_cases hc : c
  · rw [if_pos hc] at h; exact Or.inl ⟨hc, h⟩
  · rw [if_neg hc] at h; exact Or.inr ⟨hc, h⟩
theorem qa_ne0 {x : Int32} (h : ¬ x ≤ 0) : ¬ x = 0 := fun e => h (by rw [e]; decide)
theorem qa_in_g {i : Int32} {n : Nat} (h1 : ¬ i < 0) (h2 : ¬ Int32.ofNat n ≤ i) (hn : n < 2147483648) : qa_in i n = true := by
  unfold qa_in
  refine decide_eq_true (fun t => ?_)
  rcases t with t | t
  · exact h1 t
  · apply h2
    rw [Int32.le_iff_toInt_le, Int32.toInt_ofNat_of_lt hn]
    have h3 : (i.toNatClampNeg : Int) = i.toInt := Int.toNat_of_nonneg (by
      rw [Int32.lt_iff_toInt_lt] at h1
      have h0 : (0 : Int32).toInt = 0 := by decide
      omega)
    omega
theorem qa_in_lt {i : Int32} {n : Nat} (h : qa_in i n = true) : i.toNatClampNeg < n := by
  have h1 := qa_in_ok h
  exact Nat.lt_of_not_le fun t => h1 (Or.inr t)
theorem qa_rg3 {i : Int32} (h : qa_in i 6 = true) : qa_rg (3 + i.toNatClampNeg) := by
  have := qa_in_lt h
  exact ⟨by omega, by omega⟩
theorem qa_rg9 {i : Int32} (h : qa_in i 2 = true) : qa_rg (9 + i.toNatClampNeg) := by
  have := qa_in_lt h
  exact ⟨by omega, by omega⟩
theorem qa_rf3 {i : Int32} (h : qa_in i 6 = true) : (fun i : Nat => if i < 6 then some ((3 + i, 0) : qa_P) else none) i.toNatClampNeg = some (3 + i.toNatClampNeg, 0) := if_pos (qa_in_lt h)
theorem qa_rf9 {i : Int32} (h : qa_in i 2 = true) : (fun i : Nat => if i < 2 then some ((9 + i, 0) : qa_P) else none) i.toNatClampNeg = some (9 + i.toNatClampNeg, 0) := if_pos (qa_in_lt h)
/-- the fuel of a loop -/
def qa_fu : Nat := 3000
def qa_ri (r : Int32 ⊕ Nat) : Option qa_V ⊕ Nat := match r with
  | .inl v => .inl (some (.inr (.int v)))
  | .inr E => .inr E
def qa_rz (r : Bool ⊕ Nat) : Option qa_V ⊕ Nat := match r with
  | .inl v => .inl (some (.inr (.int (qa_bi v))))
  | .inr E => .inr E
def qa_rj (r : Int64 ⊕ Nat) : Option qa_V ⊕ Nat := match r with
  | .inl v => .inl (some (.inr (.long v)))
  | .inr E => .inr E
def qa_rd (r : UInt64 ⊕ Nat) : Option qa_V ⊕ Nat := match r with
  | .inl v => .inl (some (.inr (.double v)))
  | .inr E => .inr E
def qa_ru (r : Unit ⊕ Nat) : Option qa_V ⊕ Nat := match r with
  | .inl _ => .inl none
  | .inr E => .inr E
variable {L : Nat} {M : qa_M} {pc : Nat} {lv : qa_L} {st : List qa_V} {σ σ' : qa_T} {res : Option qa_V ⊕ Nat} {len : Nat}
theorem qa_bk_lw {ds : qa_P → qa_D} {lw : qa_L} (k : qa_Bk ds M pc lw st σ res σ') (h1 : qa_nd lw = true) (h2 : qa_nd lv = true) (hs : qa_sb lw lv) : qa_Bk ds M pc lv st σ res σ' := qa_bk_lv h1 h2 hs k
theorem qa_bk_ri {x : Int32} (h1 : qa_lk (qa_is M) pc = some (.ireturn, 1)) (hr : qa_rt M = some .int) : qa_Bk (qa_ds L) M pc lv [.inr (.int x)] σ (.inl (some (.inr (.int x)))) σ := by
  refine qa_bk_re h1 rfl ?_
  rw [hr]
  unfold qa_re
  dsimp only
  rw [if_pos ⟨rfl, rfl⟩]
theorem qa_bk_rb {x : Int32} {b : Bool} (hx : x = qa_bi b) (h1 : qa_lk (qa_is M) pc = some (.ireturn, 1)) (hr : qa_rt M = some .boolean) : qa_Bk (qa_ds L) M pc lv [.inr (.int x)] σ (.inl (some (.inr (.int (qa_bi b))))) σ := by
  subst hx
  refine qa_bk_re h1 rfl ?_
  rw [hr]
  unfold qa_re
  dsimp only
  rw [if_pos ⟨rfl, by cases b <;> rfl⟩]
theorem qa_bk_ar {n : Nat} {f : Nat → Option qa_P} {i : Int32} {x q : qa_P} {r : List qa_V} (h1 : qa_lk (qa_is M) pc = some (.aaload, 1)) (hd : qa_ds L x = .inr (3, n, f)) (hi : qa_in i n = true) (hf : f i.toNatClampNeg = some q) (k : qa_Bk (qa_ds L) M (pc + 1) lv (.inl q :: r) σ res σ') : qa_Bk (qa_ds L) M pc lv (.inr (.int i) :: .inl x :: r) σ res σ' := by
  refine qa_bk_aa h1 hd hi ?_
  rw [hf]
  exact k
theorem qa_bk_lk {dflt off : Int} {ps : Array (Int × Int)} {x : Int32} {r : List qa_V} {pc' : Nat} (h1 : qa_lk (qa_is M) pc = some (.lookupswitch dflt ps, len)) (hs : (ps.toList.zip (ps.toList.drop 1)).all (fun q => decide (q.1.1 < q.2.1)) = true) (ho : Op.lookupswitch.offset ps.toList dflt x.toInt = off) (hn : 0 ≤ (pc : Int) + off) (hp : qa_to pc off = pc') (k : qa_Bk (qa_ds L) M pc' lv r σ res σ') : qa_Bk (qa_ds L) M pc lv (.inr (.int x) :: r) σ res σ' := by
  subst hp
  subst ho
  refine qa_bk_do h1 ?_ k
  show qa_ls pc dflt ps lv (.inr (.int x) :: r) = _
  unfold qa_ls
  dsimp only
  rw [if_pos ⟨hs, hn⟩]
theorem qa_lk5 {k a b c d e : Int} {oa ob oc od oe df : Int} (h1 : ¬ k = a) (h2 : ¬ k = b) (h3 : ¬ k = c) (h4 : ¬ k = d) (h5 : ¬ k = e) : Op.lookupswitch.offset [(a, oa), (b, ob), (c, oc), (d, od), (e, oe)] df k = df := by
  rw [Op.lookupswitch.offset_cons, if_neg (Ne.symm h1), Op.lookupswitch.offset_cons, if_neg (Ne.symm h2), Op.lookupswitch.offset_cons, if_neg (Ne.symm h3), Op.lookupswitch.offset_cons, if_neg (Ne.symm h4), Op.lookupswitch.offset_cons, if_neg (Ne.symm h5), Op.lookupswitch.offset_nil]
theorem qa_tX9_needArgument_o {x : Int32} (h : ¬ x = 0) : qa_Bk (qa_ds L) qa_mX9_needArgument 0 (qa_ag 0 [.inr (.int x)]) [] σ (.inl none) σ := by
  show qa_Bk (qa_ds L) qa_mX9_needArgument 0 [(0, .inr (.int x))] [] σ _ _
  refine qa_bk_do (pc' := 1) rfl rfl ?_
  refine qa_bk_1t (a := 12) (b := 4) h rfl rfl ?_
  exact qa_bk_re rfl rfl rfl
theorem qa_tX9_needIndex_o {x : Int32} (h : ¬ x = 0) : qa_Bk (qa_ds L) qa_mX9_needIndex 0 (qa_ag 0 [.inr (.int x)]) [] σ (.inl none) σ := by
  show qa_Bk (qa_ds L) qa_mX9_needIndex 0 [(0, .inr (.int x))] [] σ _ _
  refine qa_bk_do (pc' := 1) rfl rfl ?_
  refine qa_bk_1t (a := 12) (b := 4) h rfl rfl ?_
  exact qa_bk_re rfl rfl rfl
theorem qa_tX9_needState_o {x : Int32} (h : ¬ x = 0) : qa_Bk (qa_ds L) qa_mX9_needState 0 (qa_ag 0 [.inr (.int x)]) [] σ (.inl none) σ := by
  show qa_Bk (qa_ds L) qa_mX9_needState 0 [(0, .inr (.int x))] [] σ _ _
  refine qa_bk_do (pc' := 1) rfl rfl ?_
  refine qa_bk_1t (a := 12) (b := 4) h rfl rfl ?_
  exact qa_bk_re rfl rfl rfl
theorem qa_tX9_needArgument_x {x : Int32} (h : x = 0) : qa_Bk (qa_ds L) qa_mX9_needArgument 0 (qa_ag 0 [.inr (.int x)]) [] σ (.inr 342) σ := by
  show qa_Bk (qa_ds L) qa_mX9_needArgument 0 [(0, .inr (.int x))] [] σ _ _
  refine qa_bk_do (pc' := 1) rfl rfl ?_
  refine qa_bk_1f (c := ¬ x = 0) (a := 12) (b := 4) (fun t => t h) rfl rfl ?_
  exact qa_bk_th rfl rfl rfl rfl rfl rfl
theorem qa_tX9_needIndex_x {x : Int32} (h : x = 0) : qa_Bk (qa_ds L) qa_mX9_needIndex 0 (qa_ag 0 [.inr (.int x)]) [] σ (.inr 345) σ := by
  show qa_Bk (qa_ds L) qa_mX9_needIndex 0 [(0, .inr (.int x))] [] σ _ _
  refine qa_bk_do (pc' := 1) rfl rfl ?_
  refine qa_bk_1f (c := ¬ x = 0) (a := 12) (b := 4) (fun t => t h) rfl rfl ?_
  exact qa_bk_th rfl rfl rfl rfl rfl rfl
theorem qa_tX9_needState_x {x : Int32} (h : x = 0) : qa_Bk (qa_ds L) qa_mX9_needState 0 (qa_ag 0 [.inr (.int x)]) [] σ (.inr 348) σ := by
  show qa_Bk (qa_ds L) qa_mX9_needState 0 [(0, .inr (.int x))] [] σ _ _
  refine qa_bk_do (pc' := 1) rfl rfl ?_
  refine qa_bk_1f (c := ¬ x = 0) (a := 12) (b := 4) (fun t => t h) rfl rfl ?_
  exact qa_bk_th rfl rfl rfl rfl rfl rfl
end QHE
end
section
/-! runs of constructors -/
section QCS
def qa_hr (R : Nat) (l : List (Nat × qa_C)) (b : qa_P → qa_C) : qa_P → qa_C := fun q => if q.1 = R then (match qa_lk l q.2 with
  | some c => c
  | none => b q) else b q
theorem qa_hr_at {R j : Nat} {l : List (Nat × qa_C)} {b : qa_P → qa_C} {c : qa_C} (h : qa_lk l j = some c) : qa_hr R l b (R, j) = c := by
  unfold qa_hr
  dsimp only
  rw [if_pos rfl, h]
theorem qa_hr_up {R j : Nat} {l : List (Nat × qa_C)} {b : qa_P → qa_C} {c : qa_C} : qa_up (qa_hr R l b) (R, j) c = qa_hr R ((j, c) :: l) b := by
  funext q
  obtain ⟨q1, q2⟩ := q
  unfold qa_up qa_hr
  dsimp only
  by_cases h : q1 = R
  · subst h
    rw [if_pos rfl, if_pos rfl]
    by_cases h2 : q2 = j
    · subst h2
      rw [if_pos rfl]
      rw [show qa_lk ((q2, c) :: l) q2 = some c from if_pos rfl]
    · rw [if_neg (fun t => h2 (congrArg Prod.snd t))]
      rw [show qa_lk ((j, c) :: l) q2 = qa_lk l q2 from if_neg (Ne.symm h2)]
  · rw [if_neg (fun t => h (congrArg Prod.fst t)), if_neg h, if_neg h]
/-- the constructor ends, having made so much -/
def qa_Cs (M : qa_M) (pc : Nat) (lv : qa_L) (st : List qa_V) (h h' : qa_H) (k s : Nat) : Prop := ∃ n, qa_ex n M pc lv st h = some (.inl none, h', k, s)
variable {M : qa_M} {pc : Nat} {lv : qa_L} {st : List qa_V} {nx : qa_P} {g : qa_P → qa_C} {h' : qa_H} {k s : Nat} {ins : Instr} {len : Nat}
theorem qa_cs_do {pc' : Nat} {lv' : qa_L} {st' : List qa_V} (h1 : qa_lk (qa_is M) pc = some (ins, len)) (h2 : qa_do M g ins len pc lv st = some (pc', lv', st')) (c : qa_Cs M pc' lv' st' (nx, g) h' k s) : qa_Cs M pc lv st (nx, g) h' k s := by
  obtain ⟨n, hn⟩ := c
  refine ⟨n + 1, ?_⟩
  rw [qa_ex, h1]
  dsimp only
  rw [h2]
  exact hn
theorem qa_cs_re (h1 : qa_lk (qa_is M) pc = some (.return_, 1)) (hr : qa_rt M = none := by rfl) : qa_Cs M pc lv [] (nx, g) (nx, g) 0 0 := by
  refine ⟨1, ?_⟩
  rw [qa_ex, h1]
  dsimp only
  rw [show qa_do M g .return_ 1 pc lv [] = none from rfl]
  dsimp only
  rw [hr]
  rfl
theorem qa_cs_mk {pc' sl : Nat} {st' : List qa_V} {c : qa_C} {p : qa_P} (h1 : qa_lk (qa_is M) pc = some (ins, len)) (h0 : qa_do M g ins len pc lv st = none) (h9 : qa_re (qa_rt M) ins len st = none) (h8 : qa_wr M ins len pc st g = none) (h2 : qa_mkc M ins len pc st = some (pc', st', c, sl)) (hp : qa_at nx c = p) (e : qa_Cs M pc' lv (.inl p :: st') (qa_nxt p, qa_up g p c) h' k s) : qa_Cs M pc lv st (nx, g) h' (1 + k) (sl + s) := by
  obtain ⟨n, hn⟩ := e
  subst hp
  refine ⟨n + 1, ?_⟩
  rw [qa_ex, h1]
  dsimp only
  rw [h0]
  dsimp only
  rw [h9]
  dsimp only
  rw [h8]
  dsimp only
  rw [h2]
  dsimp only
  rw [hn]
  rfl
theorem qa_mk_no (h2 : (qa_mkc M ins len pc st).isSome = true) : qa_do M g ins len pc lv st = none ∧ qa_re (qa_rt M) ins len st = none ∧ qa_wr M ins len pc st g = none := by
  cases ins <;> first | exact ⟨rfl, rfl, rfl⟩ | cases h2
theorem qa_cs_mt {pc' sl : Nat} {st' : List qa_V} {c : qa_C} {p : qa_P} (h1 : qa_lk (qa_is M) pc = some (ins, len)) (h2 : qa_mkc M ins len pc st = some (pc', st', c, sl)) (hp : qa_at nx c = p) (e : qa_Cs M pc' lv (.inl p :: st') (qa_nxt p, qa_up g p c) h' k s) : qa_Cs M pc lv st (nx, g) h' (1 + k) (sl + s) := by
  obtain ⟨a1, a2, a3⟩ := qa_mk_no (M := M) (ins := ins) (len := len) (pc := pc) (st := st) (g := g) (lv := lv) (by rw [h2]; rfl)
  exact qa_cs_mk h1 a1 a2 a3 h2 hp e
theorem qa_cs_mr {pc' sl R j : Nat} {st' : List qa_V} {c : qa_C} {l : List (Nat × qa_C)} {b : qa_P → qa_C} (h1 : qa_lk (qa_is M) pc = some (ins, len)) (h2 : qa_mkc M ins len pc st = some (pc', st', c, sl)) (hp : qa_at (R, j) c = (R, j)) (e : qa_Cs M pc' lv (.inl (R, j) :: st') ((R, j + 1), qa_hr R ((j, c) :: l) b) h' k s) : qa_Cs M pc lv st ((R, j), qa_hr R l b) h' (1 + k) (sl + s) := by
  refine qa_cs_mt h1 h2 hp ?_
  rw [qa_hr_up]
  exact e
theorem qa_cs_wr {pc' : Nat} {st' : List qa_V} {c : qa_C} {p : qa_P} (h1 : qa_lk (qa_is M) pc = some (ins, len)) (h0 : qa_do M g ins len pc lv st = none) (h9 : qa_re (qa_rt M) ins len st = none) (h2 : qa_wr M ins len pc st g = some (pc', st', p, c)) (e : qa_Cs M pc' lv st' (nx, qa_up g p c) h' k s) : qa_Cs M pc lv st (nx, g) h' k s := by
  obtain ⟨n, hn⟩ := e
  refine ⟨n + 1, ?_⟩
  rw [qa_ex, h1]
  dsimp only
  rw [h0]
  dsimp only
  rw [h9]
  dsimp only
  rw [h2]
  exact hn
theorem qa_cs_pt {i ci sl pl : Nat} {x : qa_P} {v : qa_V} {r : List qa_V} {f : Nat → qa_V} (h1 : qa_lk (qa_is M) pc = some (.putfield i, 3)) (h2 : qa_lk (qa_fl (qa_cl M)) i = some (ci, sl, pl)) (hd : g x = .inl (ci, f)) (hf : qa_fit (qa_ft ci sl) v = true) (hn : qa_fn ci sl = true → qa_sk M = 0 ∧ ci = qa_cl M) (e : qa_Cs M (pc + 3) lv r (nx, qa_up g x (.inl (ci, fun j => if j = sl then v else f j))) h' k s) : qa_Cs M pc lv (v :: .inl x :: r) (nx, g) h' k s := by
  refine qa_cs_wr h1 rfl rfl ?_ e
  unfold qa_wr
  dsimp only
  rw [h2, hd]
  dsimp only
  rw [if_pos ⟨rfl, rfl, hf, hn⟩]
theorem qa_cs_pr {i ci sl pl R j : Nat} {v : qa_V} {r : List qa_V} {f : Nat → qa_V} {l : List (Nat × qa_C)} {b : qa_P → qa_C} (h1 : qa_lk (qa_is M) pc = some (.putfield i, 3)) (h2 : qa_lk (qa_fl (qa_cl M)) i = some (ci, sl, pl)) (hd : qa_hr R l b (R, j) = .inl (ci, f)) (hf : qa_fit (qa_ft ci sl) v = true) (hn : qa_fn ci sl = true → qa_sk M = 0 ∧ ci = qa_cl M) (e : qa_Cs M (pc + 3) lv r (nx, qa_hr R ((j, .inl (ci, fun j => if j = sl then v else f j)) :: l) b) h' k s) : qa_Cs M pc lv (v :: .inl (R, j) :: r) (nx, qa_hr R l b) h' k s := by
  refine qa_cs_pt h1 h2 hd hf hn ?_
  rw [qa_hr_up]
  exact e
theorem qa_cs_gf {i ci sl pl : Nat} {x : qa_P} {r : List qa_V} {f : Nat → qa_V} (h1 : qa_lk (qa_is M) pc = some (.getfield i, 3)) (h2 : qa_lk (qa_fl (qa_cl M)) i = some (ci, sl, pl)) (hd : g x = .inl (ci, f)) (e : qa_Cs M (pc + 3) lv (f sl :: r) (nx, g) h' k s) : qa_Cs M pc lv (.inl x :: r) (nx, g) h' k s := by
  refine qa_cs_do h1 ?_ e
  show qa_S 3 3 pc lv (qa_gf (qa_cl M) i g (.inl x :: r)) = _
  unfold qa_gf
  dsimp only
  rw [h2, hd]
  dsimp only
  rw [if_pos rfl]
  rfl
theorem qa_cs_al {τ n : Nat} {x : qa_P} {r : List qa_V} {f : qa_R} (h1 : qa_lk (qa_is M) pc = some (.arraylength, 1)) (hd : g x = .inr (τ, n, f)) (hτ : τ < 4 ∨ τ = 9) (e : qa_Cs M (pc + 1) lv (.inr (.int (Int32.ofNat n)) :: r) (nx, g) h' k s) : qa_Cs M pc lv (.inl x :: r) (nx, g) h' k s := by
  refine qa_cs_do h1 ?_ e
  show qa_S 1 1 pc lv (qa_an_ g (.inl x :: r)) = _
  unfold qa_an_
  dsimp only
  rw [hd]
  dsimp only
  rw [if_pos hτ]
  rfl
theorem qa_cs_is {n : Nat} {f : Nat → Int32} {i v : Int32} {x : qa_P} {r : List qa_V} (h1 : qa_lk (qa_is M) pc = some (.iastore, 1)) (hd : g x = .inr (0, n, .inl f)) (hi : qa_in i n = true) (e : qa_Cs M (pc + 1) lv r (nx, qa_up g x (.inr (0, n, .inl (upd f i.toNatClampNeg v)))) h' k s) : qa_Cs M pc lv (.inr (.int v) :: .inr (.int i) :: .inl x :: r) (nx, g) h' k s := by
  refine qa_cs_wr h1 rfl rfl ?_ e
  unfold qa_wr
  dsimp only
  rw [hd]
  dsimp only
  rw [if_pos ⟨rfl, rfl, hi⟩]
theorem qa_cs_as {n : Nat} {f : Nat → Option qa_P} {i : Int32} {x y : qa_P} {r : List qa_V} {u : Nat → qa_V} (h1 : qa_lk (qa_is M) pc = some (.aastore, 1)) (hd : g x = .inr (3, n, .inr (.inr f))) (hy : g y = .inl (1, u)) (hi : qa_in i n = true) (e : qa_Cs M (pc + 1) lv r (nx, qa_up g x (.inr (3, n, .inr (.inr (va_up f i.toNatClampNeg (some y)))))) h' k s) : qa_Cs M pc lv (.inl y :: .inr (.int i) :: .inl x :: r) (nx, g) h' k s := by
  refine qa_cs_wr h1 rfl rfl ?_ e
  unfold qa_wr
  dsimp only
  rw [hd, hy]
  dsimp only
  rw [if_pos ⟨rfl, rfl, rfl, hi⟩]
/-- a constructor called -/
theorem qa_cs_cl {i pl : Nat} {M1 : qa_M} {nest : Bool} {x : qa_P} {as rest : List qa_V} {h1 : qa_H} {k1 s1 : Nat} {f : Nat → qa_V} (hb : qa_Cs M1 0 (qa_ag 0 (.inl x :: as)) [] (nx, g) h1 k1 s1) (e1 : qa_lk (qa_is M) pc = some (.invokespecial i, 3)) (h0 : qa_do M g (.invokespecial i) 3 pc lv st = none) (h2 : qa_lk (qa_ca (qa_cl M)) i = some (M1, nest, pl)) (hst : st = (.inl x :: as : List qa_V).reverse ++ rest) (hc : qa_chk M M1 0 nest = true) (hna : (.inl x :: as : List qa_V).length = qa_na M1) (hr : Nat.ble (rest.map qa_cat).sum 8 = true) (hd : g x = .inl (qa_cl M1, f)) (e : qa_Cs M (pc + 3) lv rest h1 h' k s) (ha : Nat.ble ((.inl x :: as : List qa_V).map qa_cat).sum (qa_ml M1) = true := by rfl) : qa_Cs M pc lv st (nx, g) h' (k1 + k) (s1 + s) := by
  obtain ⟨n1, hn1⟩ := hb
  obtain ⟨n2, hn2⟩ := e
  refine ⟨max n1 n2 + 1, ?_⟩
  rw [qa_ex, e1]
  dsimp only
  rw [h0]
  dsimp only
  rw [show qa_re (qa_rt M) (.invokespecial i) 3 st = none from rfl]
  dsimp only
  rw [show qa_wr M (.invokespecial i) 3 pc st g = none from rfl]
  dsimp only
  rw [show qa_mkc M (.invokespecial i) 3 pc st = none from rfl]
  dsimp only
  rw [show qa_th M (.invokespecial i) 3 pc st = none from rfl]
  dsimp only
  rw [qa_inv_of (sk := 0) (Or.inr (Or.inl ⟨rfl, rfl⟩)) h2 hc hst hna (Nat.le_of_ble_eq_true hr) (Nat.le_of_ble_eq_true ha) (Or.inr ⟨x, as, f, rfl, hd⟩)]
  dsimp only
  rw [qa_ex_mono (Nat.le_max_left n1 n2) hn1]
  dsimp only
  rw [show (none : Option qa_V).toList ++ rest = rest from rfl, qa_ex_mono (Nat.le_max_right n1 n2) hn2]
  rfl
theorem qa_cs_ct {h : qa_H} {k1 s1 : Nat} (e : qa_Cs M pc lv st h h' k s) (e1 : k = k1) (e2 : s = s1) : qa_Cs M pc lv st h h' k1 s1 := by
  subst e1
  subst e2
  exact e
end QCS
end
section
/-! the law's start: the constructors run (written by wip/tools/gen_init.py) -/
def qa_g0 (j : Nat) : Nat → Int32 := match j with
  | 9 => fun i => if i = 1 then Int32.ofInt (-1) else 0
  | 11 => fun i => if i = 0 then Int32.ofInt (-1) else if i = 2 then Int32.ofInt (-1) else if i = 4 then Int32.ofInt (-1) else 0
  | 12 => fun i => if i = 0 then Int32.ofInt (-1) else 0
  | 14 => fun i => if i = 0 then (Int16.ofInt 150).toInt32 else if i = 1 then Int32.ofInt 1 else if i = 3 then Int32.ofInt 5 else 0
  | _ => fun _ => 0
theorem qa_sh_o {ci : Nat} {K : Nat → qa_V ⊕ Nat} {g : Nat → Int32} {w : Nat → Int64} {f : Nat → qa_V} (h : ∀ i, f i = qa_fv K g w i) : some (.inl (ci, f) : qa_C) = some (qa_sh (.inl (ci, K)) g w) := by
  rw [show f = qa_fv K g w from funext h]
  rfl
set_option maxRecDepth 1000000 in
set_option maxHeartbeats 4000000 in
theorem qa_cX1_run {R : Nat} {b : qa_P → qa_C} : ∃ l : List (Nat × qa_C), qa_Cs qa_mX1_init 0 [(0, .inl (R, 0))] [] ((R, 1), qa_hr R [(0, .inl (1, fun j => .inr (defaultValue (qa_ft 1 j))))] b) ((R, 18), qa_hr R l b) 17 218 ∧ (∀ j, j < 18 → qa_lk l j = some (qa_sh (qa_db R j) (qa_g0 j) (fun _ => 0))) ∧ (∀ j, qa_lk l (j + 18) = none) := by
  apply Exists.intro
  apply And.intro
  · apply qa_cs_ct
    · skip
      refine qa_cs_do (pc' := 1) rfl rfl ?_
      refine qa_cs_do (pc' := 4) rfl rfl ?_
      refine qa_cs_do (pc' := 5) rfl rfl ?_
      refine qa_cs_mr rfl rfl rfl ?_
      refine qa_cs_do (pc' := 9) rfl rfl ?_
      refine qa_cs_cl (M1 := qa_mX6_init) (x := (R, 1)) (as := []) (by
        refine qa_cs_do (pc' := 1) rfl rfl ?_
        refine qa_cs_do (pc' := 4) rfl rfl ?_
        refine qa_cs_do (pc' := 5) rfl rfl ?_
        refine qa_cs_do (pc' := 7) rfl rfl ?_
        refine qa_cs_mr rfl rfl rfl ?_
        refine qa_cs_pr rfl rfl (qa_hr_at rfl) rfl (fun _ => ⟨rfl, rfl⟩) ?_
        refine qa_cs_do (pc' := 13) rfl rfl ?_
        refine qa_cs_do (pc' := 15) rfl rfl ?_
        refine qa_cs_mr rfl rfl rfl ?_
        refine qa_cs_pr rfl rfl (qa_hr_at rfl) rfl (fun _ => ⟨rfl, rfl⟩) ?_
        refine qa_cs_do (pc' := 21) rfl rfl ?_
        refine qa_cs_do (pc' := 23) rfl rfl ?_
        refine qa_cs_mr rfl rfl rfl ?_
        refine qa_cs_pr rfl rfl (qa_hr_at rfl) rfl (fun _ => ⟨rfl, rfl⟩) ?_
        refine qa_cs_do (pc' := 29) rfl rfl ?_
        refine qa_cs_do (pc' := 31) rfl rfl ?_
        refine qa_cs_mr rfl rfl rfl ?_
        refine qa_cs_pr rfl rfl (qa_hr_at rfl) rfl (fun _ => ⟨rfl, rfl⟩) ?_
        refine qa_cs_do (pc' := 37) rfl rfl ?_
        refine qa_cs_do (pc' := 39) rfl rfl ?_
        refine qa_cs_mr rfl rfl rfl ?_
        refine qa_cs_pr rfl rfl (qa_hr_at rfl) rfl (fun _ => ⟨rfl, rfl⟩) ?_
        refine qa_cs_do (pc' := 45) rfl rfl ?_
        refine qa_cs_do (pc' := 47) rfl rfl ?_
        refine qa_cs_mr rfl rfl rfl ?_
        refine qa_cs_pr rfl rfl (qa_hr_at rfl) rfl (fun _ => ⟨rfl, rfl⟩) ?_
        refine qa_cs_do (pc' := 53) rfl rfl ?_
        refine qa_cs_do (pc' := 55) rfl rfl ?_
        refine qa_cs_mr rfl rfl rfl ?_
        refine qa_cs_pr rfl rfl (qa_hr_at rfl) rfl (fun _ => ⟨rfl, rfl⟩) ?_
        exact qa_cs_re rfl
        ) rfl rfl rfl rfl rfl rfl rfl (qa_hr_at rfl) ?_
      refine qa_cs_pr rfl rfl (qa_hr_at rfl) rfl (fun _ => ⟨rfl, rfl⟩) ?_
      refine qa_cs_do (pc' := 16) rfl rfl ?_
      refine qa_cs_mr rfl rfl rfl ?_
      refine qa_cs_do (pc' := 20) rfl rfl ?_
      refine qa_cs_cl (M1 := qa_mX3_init) (x := (R, 9)) (as := []) (by
        refine qa_cs_do (pc' := 1) rfl rfl ?_
        refine qa_cs_do (pc' := 4) rfl rfl ?_
        refine qa_cs_do (pc' := 5) rfl rfl ?_
        refine qa_cs_do (pc' := 6) rfl rfl ?_
        refine qa_cs_pr rfl rfl (qa_hr_at rfl) rfl (fun _ => ⟨rfl, rfl⟩) ?_
        refine qa_cs_do (pc' := 10) rfl rfl ?_
        refine qa_cs_do (pc' := 12) rfl rfl ?_
        refine qa_cs_mr rfl rfl rfl ?_
        refine qa_cs_pr rfl rfl (qa_hr_at rfl) rfl (fun _ => ⟨rfl, rfl⟩) ?_
        exact qa_cs_re rfl
        ) rfl rfl rfl rfl rfl rfl rfl (qa_hr_at rfl) ?_
      refine qa_cs_pr rfl rfl (qa_hr_at rfl) rfl (fun _ => ⟨rfl, rfl⟩) ?_
      refine qa_cs_do (pc' := 27) rfl rfl ?_
      refine qa_cs_mr rfl rfl rfl ?_
      refine qa_cs_do (pc' := 31) rfl rfl ?_
      refine qa_cs_cl (M1 := qa_mX7_init) (x := (R, 11)) (as := []) (by
        refine qa_cs_do (pc' := 1) rfl rfl ?_
        refine qa_cs_do (pc' := 4) rfl rfl ?_
        refine qa_cs_do (pc' := 5) rfl rfl ?_
        refine qa_cs_do (pc' := 6) rfl rfl ?_
        refine qa_cs_pr rfl rfl (qa_hr_at rfl) rfl (fun _ => ⟨rfl, rfl⟩) ?_
        refine qa_cs_do (pc' := 10) rfl rfl ?_
        refine qa_cs_do (pc' := 11) rfl rfl ?_
        refine qa_cs_pr rfl rfl (qa_hr_at rfl) rfl (fun _ => ⟨rfl, rfl⟩) ?_
        refine qa_cs_do (pc' := 15) rfl rfl ?_
        refine qa_cs_do (pc' := 16) rfl rfl ?_
        refine qa_cs_pr rfl rfl (qa_hr_at rfl) rfl (fun _ => ⟨rfl, rfl⟩) ?_
        exact qa_cs_re rfl
        ) rfl rfl rfl rfl rfl rfl rfl (qa_hr_at rfl) ?_
      refine qa_cs_pr rfl rfl (qa_hr_at rfl) rfl (fun _ => ⟨rfl, rfl⟩) ?_
      refine qa_cs_do (pc' := 38) rfl rfl ?_
      refine qa_cs_mr rfl rfl rfl ?_
      refine qa_cs_do (pc' := 42) rfl rfl ?_
      refine qa_cs_cl (M1 := qa_mX2_init) (x := (R, 12)) (as := []) (by
        refine qa_cs_do (pc' := 1) rfl rfl ?_
        refine qa_cs_do (pc' := 4) rfl rfl ?_
        refine qa_cs_do (pc' := 5) rfl rfl ?_
        refine qa_cs_do (pc' := 6) rfl rfl ?_
        refine qa_cs_pr rfl rfl (qa_hr_at rfl) rfl (fun _ => ⟨rfl, rfl⟩) ?_
        refine qa_cs_do (pc' := 10) rfl rfl ?_
        refine qa_cs_do (pc' := 12) rfl rfl ?_
        refine qa_cs_mr rfl rfl rfl ?_
        refine qa_cs_pr rfl rfl (qa_hr_at rfl) rfl (fun _ => ⟨rfl, rfl⟩) ?_
        exact qa_cs_re rfl
        ) rfl rfl rfl rfl rfl rfl rfl (qa_hr_at rfl) ?_
      refine qa_cs_pr rfl rfl (qa_hr_at rfl) rfl (fun _ => ⟨rfl, rfl⟩) ?_
      refine qa_cs_do (pc' := 49) rfl rfl ?_
      refine qa_cs_mr rfl rfl rfl ?_
      refine qa_cs_do (pc' := 53) rfl rfl ?_
      refine qa_cs_cl (M1 := qa_mX4_init) (x := (R, 14)) (as := []) (by
        refine qa_cs_do (pc' := 1) rfl rfl ?_
        refine qa_cs_do (pc' := 4) rfl rfl ?_
        refine qa_cs_do (pc' := 5) rfl rfl ?_
        refine qa_cs_do (pc' := 8) rfl rfl ?_
        refine qa_cs_pr rfl rfl (qa_hr_at rfl) rfl (fun _ => ⟨rfl, rfl⟩) ?_
        refine qa_cs_do (pc' := 12) rfl rfl ?_
        refine qa_cs_do (pc' := 13) rfl rfl ?_
        refine qa_cs_pr rfl rfl (qa_hr_at rfl) rfl (fun _ => ⟨rfl, rfl⟩) ?_
        refine qa_cs_do (pc' := 17) rfl rfl ?_
        refine qa_cs_do (pc' := 18) rfl rfl ?_
        refine qa_cs_pr rfl rfl (qa_hr_at rfl) rfl (fun _ => ⟨rfl, rfl⟩) ?_
        exact qa_cs_re rfl
        ) rfl rfl rfl rfl rfl rfl rfl (qa_hr_at rfl) ?_
      refine qa_cs_pr rfl rfl (qa_hr_at rfl) rfl (fun _ => ⟨rfl, rfl⟩) ?_
      refine qa_cs_do (pc' := 60) rfl rfl ?_
      refine qa_cs_mr rfl rfl rfl ?_
      refine qa_cs_do (pc' := 64) rfl rfl ?_
      refine qa_cs_cl (M1 := qa_mX0_init) (x := (R, 15)) (as := []) (by
        refine qa_cs_do (pc' := 1) rfl rfl ?_
        refine qa_cs_do (pc' := 4) rfl rfl ?_
        exact qa_cs_re rfl
        ) rfl rfl rfl rfl rfl rfl rfl (qa_hr_at rfl) ?_
      refine qa_cs_pr rfl rfl (qa_hr_at rfl) rfl (fun _ => ⟨rfl, rfl⟩) ?_
      refine qa_cs_do (pc' := 71) rfl rfl ?_
      refine qa_cs_do (pc' := 73) rfl rfl ?_
      refine qa_cs_mr rfl rfl rfl ?_
      refine qa_cs_pr rfl rfl (qa_hr_at rfl) rfl (fun _ => ⟨rfl, rfl⟩) ?_
      refine qa_cs_do (pc' := 79) rfl rfl ?_
      refine qa_cs_do (pc' := 81) rfl rfl ?_
      refine qa_cs_mr rfl rfl rfl ?_
      refine qa_cs_pr rfl rfl (qa_hr_at rfl) rfl (fun _ => ⟨rfl, rfl⟩) ?_
      exact qa_cs_re rfl
    · rfl
    · rfl
  · refine ⟨fun j hj => ?_, fun j => ?_⟩
    · match j, hj with
      | 0, _ => exact qa_sh_o (fun i => by
      match i with
      | 0 => rfl
      | 1 => rfl
      | 2 => rfl
      | 3 => rfl
      | 4 => rfl
      | 5 => rfl
      | 6 => rfl
      | 7 => rfl
      | i + 8 => simp [qa_fv, qa_K1, qa_ft, tyX1, defaultValue, qa_g0])
      | 1, _ => exact qa_sh_o (fun i => by
      match i with
      | 0 => rfl
      | 1 => rfl
      | 2 => rfl
      | 3 => rfl
      | 4 => rfl
      | 5 => rfl
      | 6 => rfl
      | 7 => rfl
      | 8 => rfl
      | i + 9 => simp [qa_fv, qa_K6, qa_ft, tyX6, defaultValue, qa_g0])
      | 2, _ => rfl
      | 3, _ => rfl
      | 4, _ => rfl
      | 5, _ => rfl
      | 6, _ => rfl
      | 7, _ => rfl
      | 8, _ => rfl
      | 9, _ => exact qa_sh_o (fun i => by
      match i with
      | 0 => rfl
      | 1 => rfl
      | 2 => rfl
      | i + 3 => simp [qa_fv, qa_K3, qa_ft, tyX3, defaultValue, qa_g0])
      | 10, _ => rfl
      | 11, _ => exact qa_sh_o (fun i => by
      match i with
      | 0 => rfl
      | 1 => rfl
      | 2 => rfl
      | 3 => rfl
      | 4 => rfl
      | i + 5 => simp [qa_fv, qa_Ki, qa_ft, tyX7, defaultValue, qa_g0])
      | 12, _ => exact qa_sh_o (fun i => by
      match i with
      | 0 => rfl
      | 1 => rfl
      | 2 => rfl
      | 3 => rfl
      | 4 => rfl
      | i + 5 => simp [qa_fv, qa_K2, qa_ft, tyX2, defaultValue, qa_g0])
      | 13, _ => rfl
      | 14, _ => exact qa_sh_o (fun i => by
      match i with
      | 0 => rfl
      | 1 => rfl
      | 2 => rfl
      | 3 => rfl
      | 4 => rfl
      | i + 5 => simp [qa_fv, qa_Ki, qa_ft, tyX4, defaultValue, qa_g0])
      | 15, _ => exact qa_sh_o (fun i => by
      match i with
      | 0 => rfl
      | 1 => rfl
      | 2 => rfl
      | 3 => rfl
      | 4 => rfl
      | 5 => rfl
      | 6 => rfl
      | i + 7 => simp [qa_fv, qa_Ki, qa_ft, tyX0, defaultValue, qa_g0])
      | 16, _ => rfl
      | 17, _ => rfl
      | j + 18, h => exact absurd h (by omega)
    · simp [qa_lk]
end
