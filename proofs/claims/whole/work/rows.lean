section
-- ===== PART A: goes FIRST, ahead of the names: the tables' words, and 'selects' of the private methods out of them =====
/-- a private method of a class that the tables say can be made, by its rows of tables_1 -/
def lw_okq (q : MethodName × Nat) : Prop := (q.1.cls ≠ "java/lang/invoke/MethodHandle" ∧ q.1.cls ≠ "java/lang/invoke/VarHandle") ∧ Cond.instantiable q.1.cls q.2 ∈ tables_1 ∧ Cond.privateMethod q.1 ∈ tables_1 ∧ Cond.instanceMethod q.1 ∈ tables_1
theorem lw_p0 : lw_okq (⟨"SlideBonfire", "mixSlide", "(JI)J"⟩, 6) := ⟨⟨by decide +kernel, by decide +kernel⟩, List.mem_of_getElem? (i := 19) (by decide +kernel), List.mem_of_getElem? (i := 469) (by decide +kernel), List.mem_of_getElem? (i := 470) (by decide +kernel)⟩
theorem lw_p1 : lw_okq (⟨"SlideBonfire", "mixProgramme", "(J)J"⟩, 6) := ⟨⟨by decide +kernel, by decide +kernel⟩, List.mem_of_getElem? (i := 19) (by decide +kernel), List.mem_of_getElem? (i := 521) (by decide +kernel), List.mem_of_getElem? (i := 522) (by decide +kernel)⟩
theorem lw_p2 : lw_okq (⟨"SlideBonfire", "mixLoading", "(J)J"⟩, 6) := ⟨⟨by decide +kernel, by decide +kernel⟩, List.mem_of_getElem? (i := 19) (by decide +kernel), List.mem_of_getElem? (i := 525) (by decide +kernel), List.mem_of_getElem? (i := 526) (by decide +kernel)⟩
theorem lw_p3 : lw_okq (⟨"SlideBonfire", "waitOnTrial", "()I"⟩, 6) := ⟨⟨by decide +kernel, by decide +kernel⟩, List.mem_of_getElem? (i := 19) (by decide +kernel), List.mem_of_getElem? (i := 529) (by decide +kernel), List.mem_of_getElem? (i := 530) (by decide +kernel)⟩
theorem lw_p4 : lw_okq (⟨"SlideBonfire", "mixAccounts", "(J)J"⟩, 6) := ⟨⟨by decide +kernel, by decide +kernel⟩, List.mem_of_getElem? (i := 19) (by decide +kernel), List.mem_of_getElem? (i := 655) (by decide +kernel), List.mem_of_getElem? (i := 656) (by decide +kernel)⟩
theorem lw_p5 : lw_okq (⟨"SlideBonfire", "hasSnapshot", "(I)Z"⟩, 6) := ⟨⟨by decide +kernel, by decide +kernel⟩, List.mem_of_getElem? (i := 19) (by decide +kernel), List.mem_of_getElem? (i := 664) (by decide +kernel), List.mem_of_getElem? (i := 665) (by decide +kernel)⟩
theorem lw_p6 : lw_okq (⟨"java/lang/Throwable", "fillInStackTrace", "(I)Ljava/lang/Throwable;"⟩, 6) := ⟨⟨by decide +kernel, by decide +kernel⟩, List.mem_of_getElem? (i := 721) (by decide +kernel), List.mem_of_getElem? (i := 719) (by decide +kernel), List.mem_of_getElem? (i := 720) (by decide +kernel)⟩
theorem lw_p7 : lw_okq (⟨"SlideBonfire", "missesOnTrial", "(I)I"⟩, 6) := ⟨⟨by decide +kernel, by decide +kernel⟩, List.mem_of_getElem? (i := 19) (by decide +kernel), List.mem_of_getElem? (i := 1133) (by decide +kernel), List.mem_of_getElem? (i := 1134) (by decide +kernel)⟩
theorem lw_p8 : lw_okq (⟨"SlideBonfireModel", "throwing", "(I)I"⟩, 15) := ⟨⟨by decide +kernel, by decide +kernel⟩, List.mem_of_getElem? (i := 1144) (by decide +kernel), List.mem_of_getElem? (i := 1207) (by decide +kernel), List.mem_of_getElem? (i := 1208) (by decide +kernel)⟩
theorem lw_p9 : lw_okq (⟨"SlideBonfireModel", "save", "()V"⟩, 15) := ⟨⟨by decide +kernel, by decide +kernel⟩, List.mem_of_getElem? (i := 1144) (by decide +kernel), List.mem_of_getElem? (i := 1211) (by decide +kernel), List.mem_of_getElem? (i := 1212) (by decide +kernel)⟩
theorem lw_p10 : lw_okq (⟨"SlideBonfireModel", "lay", "(III)V"⟩, 15) := ⟨⟨by decide +kernel, by decide +kernel⟩, List.mem_of_getElem? (i := 1144) (by decide +kernel), List.mem_of_getElem? (i := 1215) (by decide +kernel), List.mem_of_getElem? (i := 1216) (by decide +kernel)⟩
theorem lw_p11 : lw_okq (⟨"SlideBonfireModel", "isThere", "(I)Z"⟩, 15) := ⟨⟨by decide +kernel, by decide +kernel⟩, List.mem_of_getElem? (i := 1144) (by decide +kernel), List.mem_of_getElem? (i := 1223) (by decide +kernel), List.mem_of_getElem? (i := 1224) (by decide +kernel)⟩
theorem lw_p12 : lw_okq (⟨"SlideBonfireModel", "inserts", "(II)I"⟩, 15) := ⟨⟨by decide +kernel, by decide +kernel⟩, List.mem_of_getElem? (i := 1144) (by decide +kernel), List.mem_of_getElem? (i := 1227) (by decide +kernel), List.mem_of_getElem? (i := 1228) (by decide +kernel)⟩
theorem lw_p13 : lw_okq (⟨"SlideBonfireModel", "begins", "()V"⟩, 15) := ⟨⟨by decide +kernel, by decide +kernel⟩, List.mem_of_getElem? (i := 1144) (by decide +kernel), List.mem_of_getElem? (i := 1231) (by decide +kernel), List.mem_of_getElem? (i := 1232) (by decide +kernel)⟩
theorem lw_p14 : lw_okq (⟨"SlideBonfireModel", "starts", "(I)V"⟩, 15) := ⟨⟨by decide +kernel, by decide +kernel⟩, List.mem_of_getElem? (i := 1144) (by decide +kernel), List.mem_of_getElem? (i := 1235) (by decide +kernel), List.mem_of_getElem? (i := 1236) (by decide +kernel)⟩
theorem lw_p15 : lw_okq (⟨"SlideBonfireModel", "of", "(II)I"⟩, 15) := ⟨⟨by decide +kernel, by decide +kernel⟩, List.mem_of_getElem? (i := 1144) (by decide +kernel), List.mem_of_getElem? (i := 1239) (by decide +kernel), List.mem_of_getElem? (i := 1240) (by decide +kernel)⟩
def lw_privs_1 : List (MethodName × Nat) := [(⟨"SlideBonfire", "mixSlide", "(JI)J"⟩, 6), (⟨"SlideBonfire", "mixProgramme", "(J)J"⟩, 6), (⟨"SlideBonfire", "mixLoading", "(J)J"⟩, 6), (⟨"SlideBonfire", "waitOnTrial", "()I"⟩, 6), (⟨"SlideBonfire", "mixAccounts", "(J)J"⟩, 6), (⟨"SlideBonfire", "hasSnapshot", "(I)Z"⟩, 6), (⟨"java/lang/Throwable", "fillInStackTrace", "(I)Ljava/lang/Throwable;"⟩, 6), (⟨"SlideBonfire", "missesOnTrial", "(I)I"⟩, 6), (⟨"SlideBonfireModel", "throwing", "(I)I"⟩, 15), (⟨"SlideBonfireModel", "save", "()V"⟩, 15), (⟨"SlideBonfireModel", "lay", "(III)V"⟩, 15), (⟨"SlideBonfireModel", "isThere", "(I)Z"⟩, 15), (⟨"SlideBonfireModel", "inserts", "(II)I"⟩, 15), (⟨"SlideBonfireModel", "begins", "()V"⟩, 15), (⟨"SlideBonfireModel", "starts", "(I)V"⟩, 15), (⟨"SlideBonfireModel", "of", "(II)I"⟩, 15)]
theorem lw_r1 : ∀ q ∈ lw_privs_1, lw_okq q := List.forall_mem_cons.mpr ⟨lw_p0, List.forall_mem_cons.mpr ⟨lw_p1, List.forall_mem_cons.mpr ⟨lw_p2, List.forall_mem_cons.mpr ⟨lw_p3, List.forall_mem_cons.mpr ⟨lw_p4, List.forall_mem_cons.mpr ⟨lw_p5, List.forall_mem_cons.mpr ⟨lw_p6, List.forall_mem_cons.mpr ⟨lw_p7, List.forall_mem_cons.mpr ⟨lw_p8, List.forall_mem_cons.mpr ⟨lw_p9, List.forall_mem_cons.mpr ⟨lw_p10, List.forall_mem_cons.mpr ⟨lw_p11, List.forall_mem_cons.mpr ⟨lw_p12, List.forall_mem_cons.mpr ⟨lw_p13, List.forall_mem_cons.mpr ⟨lw_p14, List.forall_mem_cons.mpr ⟨lw_p15, fun _ h => absurd h List.not_mem_nil⟩⟩⟩⟩⟩⟩⟩⟩⟩⟩⟩⟩⟩⟩⟩⟩
theorem lw_p16 : lw_okq (⟨"SlideBonfireModel", "makesRoom", "(I)I"⟩, 15) := ⟨⟨by decide +kernel, by decide +kernel⟩, List.mem_of_getElem? (i := 1144) (by decide +kernel), List.mem_of_getElem? (i := 1243) (by decide +kernel), List.mem_of_getElem? (i := 1244) (by decide +kernel)⟩
theorem lw_p17 : lw_okq (⟨"SlideBonfireModel", "taken", "()I"⟩, 15) := ⟨⟨by decide +kernel, by decide +kernel⟩, List.mem_of_getElem? (i := 1144) (by decide +kernel), List.mem_of_getElem? (i := 1247) (by decide +kernel), List.mem_of_getElem? (i := 1248) (by decide +kernel)⟩
theorem lw_p18 : lw_okq (⟨"SlideBonfireModel", "loaded", "(I)Z"⟩, 15) := ⟨⟨by decide +kernel, by decide +kernel⟩, List.mem_of_getElem? (i := 1144) (by decide +kernel), List.mem_of_getElem? (i := 1251) (by decide +kernel), List.mem_of_getElem? (i := 1252) (by decide +kernel)⟩
theorem lw_p19 : lw_okq (⟨"SlideBonfireModel", "nextToBurn", "()I"⟩, 15) := ⟨⟨by decide +kernel, by decide +kernel⟩, List.mem_of_getElem? (i := 1144) (by decide +kernel), List.mem_of_getElem? (i := 1255) (by decide +kernel), List.mem_of_getElem? (i := 1256) (by decide +kernel)⟩
theorem lw_p20 : lw_okq (⟨"SlideBonfireModel", "canBurn", "(I)Z"⟩, 15) := ⟨⟨by decide +kernel, by decide +kernel⟩, List.mem_of_getElem? (i := 1144) (by decide +kernel), List.mem_of_getElem? (i := 1259) (by decide +kernel), List.mem_of_getElem? (i := 1260) (by decide +kernel)⟩
theorem lw_p21 : lw_okq (⟨"SlideBonfireModel", "onShow", "(I)Z"⟩, 15) := ⟨⟨by decide +kernel, by decide +kernel⟩, List.mem_of_getElem? (i := 1144) (by decide +kernel), List.mem_of_getElem? (i := 1263) (by decide +kernel), List.mem_of_getElem? (i := 1264) (by decide +kernel)⟩
theorem lw_p22 : lw_okq (⟨"SlideBonfireModel", "isFirst", "(II)Z"⟩, 15) := ⟨⟨by decide +kernel, by decide +kernel⟩, List.mem_of_getElem? (i := 1144) (by decide +kernel), List.mem_of_getElem? (i := 1267) (by decide +kernel), List.mem_of_getElem? (i := 1268) (by decide +kernel)⟩
theorem lw_p23 : lw_okq (⟨"SlideBonfireModel", "nextOf", "(I)I"⟩, 15) := ⟨⟨by decide +kernel, by decide +kernel⟩, List.mem_of_getElem? (i := 1144) (by decide +kernel), List.mem_of_getElem? (i := 1271) (by decide +kernel), List.mem_of_getElem? (i := 1272) (by decide +kernel)⟩
theorem lw_p24 : lw_okq (⟨"SlideBonfireModel", "burns", "(I)I"⟩, 15) := ⟨⟨by decide +kernel, by decide +kernel⟩, List.mem_of_getElem? (i := 1144) (by decide +kernel), List.mem_of_getElem? (i := 1275) (by decide +kernel), List.mem_of_getElem? (i := 1276) (by decide +kernel)⟩
theorem lw_p25 : lw_okq (⟨"SlideBonfireModel", "due", "(I)I"⟩, 15) := ⟨⟨by decide +kernel, by decide +kernel⟩, List.mem_of_getElem? (i := 1144) (by decide +kernel), List.mem_of_getElem? (i := 1279) (by decide +kernel), List.mem_of_getElem? (i := 1280) (by decide +kernel)⟩
theorem lw_p26 : lw_okq (⟨"SlideBonfireModel", "forgets", "(I)V"⟩, 15) := ⟨⟨by decide +kernel, by decide +kernel⟩, List.mem_of_getElem? (i := 1144) (by decide +kernel), List.mem_of_getElem? (i := 1283) (by decide +kernel), List.mem_of_getElem? (i := 1284) (by decide +kernel)⟩
theorem lw_p27 : lw_okq (⟨"SlideBonfireModel", "canGoOn", "()Z"⟩, 15) := ⟨⟨by decide +kernel, by decide +kernel⟩, List.mem_of_getElem? (i := 1144) (by decide +kernel), List.mem_of_getElem? (i := 1295) (by decide +kernel), List.mem_of_getElem? (i := 1296) (by decide +kernel)⟩
theorem lw_p28 : lw_okq (⟨"SlideBonfireModel", "goesOn", "()Z"⟩, 15) := ⟨⟨by decide +kernel, by decide +kernel⟩, List.mem_of_getElem? (i := 1144) (by decide +kernel), List.mem_of_getElem? (i := 1299) (by decide +kernel), List.mem_of_getElem? (i := 1300) (by decide +kernel)⟩
theorem lw_p29 : lw_okq (⟨"SlideBonfireModel", "shows", "(I)V"⟩, 15) := ⟨⟨by decide +kernel, by decide +kernel⟩, List.mem_of_getElem? (i := 1144) (by decide +kernel), List.mem_of_getElem? (i := 1303) (by decide +kernel), List.mem_of_getElem? (i := 1304) (by decide +kernel)⟩
theorem lw_p30 : lw_okq (⟨"SlideBonfireModel", "uses", "(I)V"⟩, 15) := ⟨⟨by decide +kernel, by decide +kernel⟩, List.mem_of_getElem? (i := 1144) (by decide +kernel), List.mem_of_getElem? (i := 1307) (by decide +kernel), List.mem_of_getElem? (i := 1308) (by decide +kernel)⟩
theorem lw_p31 : lw_okq (⟨"SlideBonfireModel", "canAsk", "(I)Z"⟩, 15) := ⟨⟨by decide +kernel, by decide +kernel⟩, List.mem_of_getElem? (i := 1144) (by decide +kernel), List.mem_of_getElem? (i := 1315) (by decide +kernel), List.mem_of_getElem? (i := 1316) (by decide +kernel)⟩
def lw_privs_2 : List (MethodName × Nat) := [(⟨"SlideBonfireModel", "makesRoom", "(I)I"⟩, 15), (⟨"SlideBonfireModel", "taken", "()I"⟩, 15), (⟨"SlideBonfireModel", "loaded", "(I)Z"⟩, 15), (⟨"SlideBonfireModel", "nextToBurn", "()I"⟩, 15), (⟨"SlideBonfireModel", "canBurn", "(I)Z"⟩, 15), (⟨"SlideBonfireModel", "onShow", "(I)Z"⟩, 15), (⟨"SlideBonfireModel", "isFirst", "(II)Z"⟩, 15), (⟨"SlideBonfireModel", "nextOf", "(I)I"⟩, 15), (⟨"SlideBonfireModel", "burns", "(I)I"⟩, 15), (⟨"SlideBonfireModel", "due", "(I)I"⟩, 15), (⟨"SlideBonfireModel", "forgets", "(I)V"⟩, 15), (⟨"SlideBonfireModel", "canGoOn", "()Z"⟩, 15), (⟨"SlideBonfireModel", "goesOn", "()Z"⟩, 15), (⟨"SlideBonfireModel", "shows", "(I)V"⟩, 15), (⟨"SlideBonfireModel", "uses", "(I)V"⟩, 15), (⟨"SlideBonfireModel", "canAsk", "(I)Z"⟩, 15)]
theorem lw_r2 : ∀ q ∈ lw_privs_2, lw_okq q := List.forall_mem_cons.mpr ⟨lw_p16, List.forall_mem_cons.mpr ⟨lw_p17, List.forall_mem_cons.mpr ⟨lw_p18, List.forall_mem_cons.mpr ⟨lw_p19, List.forall_mem_cons.mpr ⟨lw_p20, List.forall_mem_cons.mpr ⟨lw_p21, List.forall_mem_cons.mpr ⟨lw_p22, List.forall_mem_cons.mpr ⟨lw_p23, List.forall_mem_cons.mpr ⟨lw_p24, List.forall_mem_cons.mpr ⟨lw_p25, List.forall_mem_cons.mpr ⟨lw_p26, List.forall_mem_cons.mpr ⟨lw_p27, List.forall_mem_cons.mpr ⟨lw_p28, List.forall_mem_cons.mpr ⟨lw_p29, List.forall_mem_cons.mpr ⟨lw_p30, List.forall_mem_cons.mpr ⟨lw_p31, fun _ h => absurd h List.not_mem_nil⟩⟩⟩⟩⟩⟩⟩⟩⟩⟩⟩⟩⟩⟩⟩⟩
theorem lw_p32 : lw_okq (⟨"SlideBonfireModel", "isAsked", "(I)Z"⟩, 15) := ⟨⟨by decide +kernel, by decide +kernel⟩, List.mem_of_getElem? (i := 1144) (by decide +kernel), List.mem_of_getElem? (i := 1319) (by decide +kernel), List.mem_of_getElem? (i := 1320) (by decide +kernel)⟩
theorem lw_p33 : lw_okq (⟨"SlideBonfireModel", "asks", "(I)I"⟩, 15) := ⟨⟨by decide +kernel, by decide +kernel⟩, List.mem_of_getElem? (i := 1144) (by decide +kernel), List.mem_of_getElem? (i := 1323) (by decide +kernel), List.mem_of_getElem? (i := 1324) (by decide +kernel)⟩
theorem lw_p34 : lw_okq (⟨"SlideBonfireModel", "passes", "(I)I"⟩, 15) := ⟨⟨by decide +kernel, by decide +kernel⟩, List.mem_of_getElem? (i := 1144) (by decide +kernel), List.mem_of_getElem? (i := 1335) (by decide +kernel), List.mem_of_getElem? (i := 1336) (by decide +kernel)⟩
theorem lw_p35 : lw_okq (⟨"SlideBonfireModel", "ticks", "()V"⟩, 15) := ⟨⟨by decide +kernel, by decide +kernel⟩, List.mem_of_getElem? (i := 1144) (by decide +kernel), List.mem_of_getElem? (i := 1339) (by decide +kernel), List.mem_of_getElem? (i := 1340) (by decide +kernel)⟩
theorem lw_p36 : lw_okq (⟨"SlideBonfireModel", "changes", "(IIII)I"⟩, 15) := ⟨⟨by decide +kernel, by decide +kernel⟩, List.mem_of_getElem? (i := 1144) (by decide +kernel), List.mem_of_getElem? (i := 1347) (by decide +kernel), List.mem_of_getElem? (i := 1348) (by decide +kernel)⟩
theorem lw_p37 : lw_okq (⟨"SlideBonfireModel", "go", "(Z)Z"⟩, 15) := ⟨⟨by decide +kernel, by decide +kernel⟩, List.mem_of_getElem? (i := 1144) (by decide +kernel), List.mem_of_getElem? (i := 1379) (by decide +kernel), List.mem_of_getElem? (i := 1380) (by decide +kernel)⟩
theorem lw_p38 : lw_okq (⟨"SlideBonfireModel", "isOrdered", "(Z)Z"⟩, 15) := ⟨⟨by decide +kernel, by decide +kernel⟩, List.mem_of_getElem? (i := 1144) (by decide +kernel), List.mem_of_getElem? (i := 1383) (by decide +kernel), List.mem_of_getElem? (i := 1384) (by decide +kernel)⟩
theorem lw_p39 : lw_okq (⟨"SlideBonfireModel", "number", "(II)I"⟩, 15) := ⟨⟨by decide +kernel, by decide +kernel⟩, List.mem_of_getElem? (i := 1144) (by decide +kernel), List.mem_of_getElem? (i := 1387) (by decide +kernel), List.mem_of_getElem? (i := 1388) (by decide +kernel)⟩
theorem lw_p40 : lw_okq (⟨"SlideBonfireModel", "sign", "(II)I"⟩, 15) := ⟨⟨by decide +kernel, by decide +kernel⟩, List.mem_of_getElem? (i := 1144) (by decide +kernel), List.mem_of_getElem? (i := 1391) (by decide +kernel), List.mem_of_getElem? (i := 1392) (by decide +kernel)⟩
theorem lw_p41 : lw_okq (⟨"SlideBonfireModel", "isFollowed", "(II)Z"⟩, 15) := ⟨⟨by decide +kernel, by decide +kernel⟩, List.mem_of_getElem? (i := 1144) (by decide +kernel), List.mem_of_getElem? (i := 1395) (by decide +kernel), List.mem_of_getElem? (i := 1396) (by decide +kernel)⟩
theorem lw_p42 : lw_okq (⟨"SlideBonfireModel", "keepsAside", "()V"⟩, 15) := ⟨⟨by decide +kernel, by decide +kernel⟩, List.mem_of_getElem? (i := 1144) (by decide +kernel), List.mem_of_getElem? (i := 1403) (by decide +kernel), List.mem_of_getElem? (i := 1404) (by decide +kernel)⟩
theorem lw_p43 : lw_okq (⟨"SlideBonfireModel", "putsBack", "()V"⟩, 15) := ⟨⟨by decide +kernel, by decide +kernel⟩, List.mem_of_getElem? (i := 1144) (by decide +kernel), List.mem_of_getElem? (i := 1407) (by decide +kernel), List.mem_of_getElem? (i := 1408) (by decide +kernel)⟩
theorem lw_p44 : lw_okq (⟨"SlideBonfireModel", "rule", "(I)I"⟩, 15) := ⟨⟨by decide +kernel, by decide +kernel⟩, List.mem_of_getElem? (i := 1144) (by decide +kernel), List.mem_of_getElem? (i := 1431) (by decide +kernel), List.mem_of_getElem? (i := 1432) (by decide +kernel)⟩
theorem lw_p45 : lw_okq (⟨"SlideBonfireModel", "inOrder", "(I)I"⟩, 15) := ⟨⟨by decide +kernel, by decide +kernel⟩, List.mem_of_getElem? (i := 1144) (by decide +kernel), List.mem_of_getElem? (i := 1471) (by decide +kernel), List.mem_of_getElem? (i := 1472) (by decide +kernel)⟩
theorem lw_p46 : lw_okq (⟨"SlideBonfireModel", "told", "(I)I"⟩, 15) := ⟨⟨by decide +kernel, by decide +kernel⟩, List.mem_of_getElem? (i := 1144) (by decide +kernel), List.mem_of_getElem? (i := 1487) (by decide +kernel), List.mem_of_getElem? (i := 1488) (by decide +kernel)⟩
theorem lw_p47 : lw_okq (⟨"SlideBonfireModel", "toldTicks", "()I"⟩, 15) := ⟨⟨by decide +kernel, by decide +kernel⟩, List.mem_of_getElem? (i := 1144) (by decide +kernel), List.mem_of_getElem? (i := 1559) (by decide +kernel), List.mem_of_getElem? (i := 1560) (by decide +kernel)⟩
def lw_privs_3 : List (MethodName × Nat) := [(⟨"SlideBonfireModel", "isAsked", "(I)Z"⟩, 15), (⟨"SlideBonfireModel", "asks", "(I)I"⟩, 15), (⟨"SlideBonfireModel", "passes", "(I)I"⟩, 15), (⟨"SlideBonfireModel", "ticks", "()V"⟩, 15), (⟨"SlideBonfireModel", "changes", "(IIII)I"⟩, 15), (⟨"SlideBonfireModel", "go", "(Z)Z"⟩, 15), (⟨"SlideBonfireModel", "isOrdered", "(Z)Z"⟩, 15), (⟨"SlideBonfireModel", "number", "(II)I"⟩, 15), (⟨"SlideBonfireModel", "sign", "(II)I"⟩, 15), (⟨"SlideBonfireModel", "isFollowed", "(II)Z"⟩, 15), (⟨"SlideBonfireModel", "keepsAside", "()V"⟩, 15), (⟨"SlideBonfireModel", "putsBack", "()V"⟩, 15), (⟨"SlideBonfireModel", "rule", "(I)I"⟩, 15), (⟨"SlideBonfireModel", "inOrder", "(I)I"⟩, 15), (⟨"SlideBonfireModel", "told", "(I)I"⟩, 15), (⟨"SlideBonfireModel", "toldTicks", "()I"⟩, 15)]
theorem lw_r3 : ∀ q ∈ lw_privs_3, lw_okq q := List.forall_mem_cons.mpr ⟨lw_p32, List.forall_mem_cons.mpr ⟨lw_p33, List.forall_mem_cons.mpr ⟨lw_p34, List.forall_mem_cons.mpr ⟨lw_p35, List.forall_mem_cons.mpr ⟨lw_p36, List.forall_mem_cons.mpr ⟨lw_p37, List.forall_mem_cons.mpr ⟨lw_p38, List.forall_mem_cons.mpr ⟨lw_p39, List.forall_mem_cons.mpr ⟨lw_p40, List.forall_mem_cons.mpr ⟨lw_p41, List.forall_mem_cons.mpr ⟨lw_p42, List.forall_mem_cons.mpr ⟨lw_p43, List.forall_mem_cons.mpr ⟨lw_p44, List.forall_mem_cons.mpr ⟨lw_p45, List.forall_mem_cons.mpr ⟨lw_p46, List.forall_mem_cons.mpr ⟨lw_p47, fun _ h => absurd h List.not_mem_nil⟩⟩⟩⟩⟩⟩⟩⟩⟩⟩⟩⟩⟩⟩⟩⟩
theorem lw_p48 : lw_okq (⟨"SlideBonfireModel", "untilShown", "()I"⟩, 15) := ⟨⟨by decide +kernel, by decide +kernel⟩, List.mem_of_getElem? (i := 1144) (by decide +kernel), List.mem_of_getElem? (i := 1563) (by decide +kernel), List.mem_of_getElem? (i := 1564) (by decide +kernel)⟩
theorem lw_p49 : lw_okq (⟨"SlideBonfireModel", "burningsOf", "(I)I"⟩, 15) := ⟨⟨by decide +kernel, by decide +kernel⟩, List.mem_of_getElem? (i := 1144) (by decide +kernel), List.mem_of_getElem? (i := 1575) (by decide +kernel), List.mem_of_getElem? (i := 1576) (by decide +kernel)⟩
theorem lw_p50 : lw_okq (⟨"SlideBonfireModel", "missing", "(I)I"⟩, 15) := ⟨⟨by decide +kernel, by decide +kernel⟩, List.mem_of_getElem? (i := 1144) (by decide +kernel), List.mem_of_getElem? (i := 1583) (by decide +kernel), List.mem_of_getElem? (i := 1584) (by decide +kernel)⟩
theorem lw_p51 : lw_okq (⟨"SlideBonfireModel", "share", "()D"⟩, 15) := ⟨⟨by decide +kernel, by decide +kernel⟩, List.mem_of_getElem? (i := 1144) (by decide +kernel), List.mem_of_getElem? (i := 1623) (by decide +kernel), List.mem_of_getElem? (i := 1624) (by decide +kernel)⟩
theorem lw_p52 : lw_okq (⟨"SlideBonfireModel", "mix", "(J)V"⟩, 15) := ⟨⟨by decide +kernel, by decide +kernel⟩, List.mem_of_getElem? (i := 1144) (by decide +kernel), List.mem_of_getElem? (i := 1632) (by decide +kernel), List.mem_of_getElem? (i := 1633) (by decide +kernel)⟩
theorem lw_p53 : lw_okq (⟨"SlideBonfireModel", "mixesSlide", "(I)V"⟩, 15) := ⟨⟨by decide +kernel, by decide +kernel⟩, List.mem_of_getElem? (i := 1144) (by decide +kernel), List.mem_of_getElem? (i := 1637) (by decide +kernel), List.mem_of_getElem? (i := 1638) (by decide +kernel)⟩
def lw_privs_4 : List (MethodName × Nat) := [(⟨"SlideBonfireModel", "untilShown", "()I"⟩, 15), (⟨"SlideBonfireModel", "burningsOf", "(I)I"⟩, 15), (⟨"SlideBonfireModel", "missing", "(I)I"⟩, 15), (⟨"SlideBonfireModel", "share", "()D"⟩, 15), (⟨"SlideBonfireModel", "mix", "(J)V"⟩, 15), (⟨"SlideBonfireModel", "mixesSlide", "(I)V"⟩, 15)]
theorem lw_r4 : ∀ q ∈ lw_privs_4, lw_okq q := List.forall_mem_cons.mpr ⟨lw_p48, List.forall_mem_cons.mpr ⟨lw_p49, List.forall_mem_cons.mpr ⟨lw_p50, List.forall_mem_cons.mpr ⟨lw_p51, List.forall_mem_cons.mpr ⟨lw_p52, List.forall_mem_cons.mpr ⟨lw_p53, fun _ h => absurd h List.not_mem_nil⟩⟩⟩⟩⟩⟩
def lw_privs : List (MethodName × Nat) := lw_privs_1 ++ (lw_privs_2 ++ (lw_privs_3 ++ (lw_privs_4)))
def lw_tbl : List Cond := k2_sels lw_privs ++ tables_1
theorem lw_privs_ok : ∀ q ∈ lw_privs, lw_okq q := by
  show ∀ q ∈ lw_privs_1 ++ (lw_privs_2 ++ (lw_privs_3 ++ (lw_privs_4))), lw_okq q
  exact List.forall_mem_append.mpr ⟨lw_r1, List.forall_mem_append.mpr ⟨lw_r2, List.forall_mem_append.mpr ⟨lw_r3, lw_r4⟩⟩⟩
/-- the streams that the claim lets the run draw from -/
abbrev lw_cs : List Choice := [Jvm.Choice.named "NaN.bits"]
theorem lw_bits : nanBits ∈ lw_cs := by first | decide | exact List.mem_cons_self | simp [lw_cs, nanBits]
-- ===== end of PART A; then your names; then what follows =====
end
section
/-! ===== BEGIN words of one list among another's, by their places ===== -/
theorem goodIn_r {big : List Cond} (ws : List Cond) (ps : List Nat) (hp : ws = ps.filterMap (fun i => big[i]?)) (h : ws.all goodWord = true) : GoodIn big ws := by
  intro w hw
  have h1 := List.all_eq_true.mp h w hw
  rw [hp] at hw
  obtain ⟨i, -, hi⟩ := List.mem_filterMap.mp hw
  have hm : w ∈ big := by first | exact List.mem_of_getElem? hi | exact List.getElem?_mem hi
  exact ⟨hm, good_of_word h1⟩
theorem goodIn_app {big a b : List Cond} (ha : GoodIn big a) (hb : GoodIn big b) : GoodIn big (a ++ b) := fun w h => (List.mem_append.mp h).elim (ha w) (hb w)
theorem goodIn_ca {big a b : List Cond} {c : Cond} (ha : GoodIn big (c :: a)) (hb : GoodIn big b) : GoodIn big (c :: (a ++ b)) := fun w h => (List.mem_cons.mp h).elim (fun e => ha w (List.mem_cons.mpr (Or.inl e))) (fun h => (List.mem_append.mp h).elim (fun h => ha w (List.mem_cons.mpr (Or.inr h))) (hb w))
theorem goodIn_sub {big ws : List Cond} (hm : ∀ w ∈ ws, w ∈ big) (h : ws.all goodWord = true) : GoodIn big ws := fun w hw => ⟨hm w hw, good_of_word (List.all_eq_true.mp h w hw)⟩
/-! ===== END ===== -/

/-! ===== BEGIN exceptions that leave a method, and their catching by the caller (launches without stack traces) ===== -/
section VXA
/-! The laws vx_back, vx_callV, vx_callS, vx_callSW, vx_throw0, vx_throwS follow proofs of the library, with one case more: JvmDerived/Free/Laws.lean (Back.of_free), Shelf42/LK1.lean (callV, callS), Shelf/KitTraced.lean (throwNew0V, throwNewS). -/
/-- where a method has thrown q: the class by its name, the cell, what was written, the world -/
def vx_T (XC : String → State → State → Prop) (st : State) (q : Addr) (t : State) (mc ms : Nat) (free : Addr → Prop) : Prop :=
  ∃ (E : String) (ce : Cell) (L : List Loc), XC E st t ∧ t.heap[q]? = some ce ∧ ce.vm = .none ∧ st.vm.findClass E = some ce.cls ∧ st.WarmedH t.vm ∧ st.sameButNew ({ t with vm := st.vm } : State) L mc ms ∧ ∀ z ∈ L, free z.base
def vx_Q (Qc : Array Value → State → Outcome → State → Prop) (XC : String → State → State → Prop) (mc ms : Nat) (free : Addr → Prop) : Array Value → State → Outcome → State → Prop := fun a st o t =>
  (Qc a st o t ∧ ∃ L, FrameEnd st o t L mc ms ∧ ∀ q ∈ L, free q.base) ∨ ∃ q, o = .threw q ∧ vx_T XC st q t mc ms free
/-- a callee that returns or throws -/
def vx_Met (l : Launch) (y : MethodName) (ws : List Cond) (rm : Room) (Pc : Array Value → State → Prop) (Qc : Array Value → State → Outcome → State → Prop) (XC : String → State → State → Prop) (mc ms : Nat) (free : Addr → Prop) : Prop :=
  MetFree l y (headSpec ws rm) Pc (fun _ _ _ _ _ => True) (vx_Q Qc XC mc ms free)
def vx_Post (XC : String → State → State → Prop) (mc ms : Nat) (free : Addr → Prop) : Pt → Array Value → Addr → Pt → Prop := fun A a q B =>
  ∃ (g : JFrame) (mk : MethodId) (t : State) (L : List Loc) (E : String) (ce : Cell), B.U.heap = t.heap ∧ B.U.vm = t.vm ∧ XC E (A.U.calling g mk a) t ∧ t.heap[q]? = some ce ∧ ce.vm = .none ∧ A.U.vm.findClass E = some ce.cls ∧ B.locs = A.locs ++ L ∧ (∀ z ∈ L, free z.base) ∧ B.cells = A.cells + mc ∧ B.slots = A.slots + ms
def vx_Back (l : Launch) (R : Room) (p : Program) (e : Env) (below : List Frame) (s : State) (sargs : Array Value) (y : MethodName) (len W9 : Nat)
    (Pre : Pt → Array Value → Prop) (Post : Pt → Array Value → Option Value → Pt → Prop) (PostX : Pt → Array Value → Addr → Pt → Prop) : Prop :=
  ∀ (m : MethodId) (meth : Method) (c : Code) (A : Pt) (g : JFrame) (ig : Instr) (mk : MethodId) (a : Array Value),
    Stand p l e R s m sargs below meth c A.U A.locs A.cells A.slots → g.method = m → g.locals.size = c.maxLocals → decode c.code g.pc = .ok (ig, len) →
    2 * g.monitorRoom + (g.stack.map fun v => v.category).sum ≤ W9 → A.U.methodNamed? y = some mk → Pre A a →
    (∃ (v : Option Value) (B : Pt), Stand p l e R s m sargs below meth c B.U B.locs B.cells B.slots ∧ Post A a v B ∧
      Steps p.tables e below (doInvoke e (A.U.setTop g) [] mk a).1 (B.U.setTop { g with pc := g.pc + len, stack := v.toList ++ g.stack })) ∨
    (∃ (q : Addr) (B : Pt), Stand p l e R s m sargs below meth c B.U B.locs B.cells B.slots ∧ PostX A a q B ∧
      Steps p.tables e below (doInvoke e (A.U.setTop g) [] mk a).1 ((B.U.setTop g).pushFrame (.throwing q)))
section Payer
variable {l : Launch} {R : Room} {p : Program} {e : Env} {below : List Frame} {s : State} {sargs : Array Value} {y : MethodName} {len W9 : Nat}
theorem vx_back {ws : List Cond} {rm : Room} {Pc : Array Value → State → Prop} {Qc : Array Value → State → Outcome → State → Prop} {XC : String → State → State → Prop} {mc ms : Nat} {free : Addr → Prop} {bytes : ByteArray} {maxL : Nat} {ret : Option FieldType}
    (hM : vx_Met l y ws rm Pc Qc XC mc ms free) (hblind : FrameBlind Pc) (hrc : rm.cells = mc) (hrs : rm.slots = ms)
    (hframes : rm.frames + 1 ≤ R.frames) (hlocals : W9 + (maxL + 11) + rm.locals ≤ R.locals)
    (hws : ∀ w ∈ ws, ∀ a' U, s.WarmedH U.vm → w.before a' U = true) (hcode : Cond.code y bytes maxL ret ∈ ws) (hinit : ∀ a' U, s.WarmedH U.vm → (Cond.initialized y.cls).before a' U = true) :
    vx_Back l R p e below s sargs y len W9 (PreOf R mc ms Pc) (PostOf Qc mc ms free) (vx_Post XC mc ms free) := by
  intro m meth c A g ig mk a X hg hsize hdg hW hn hp
  have h1 : (headSpec ws rm).pre.before a A.U = true := atoms_intro fun w hw => hws w hw _ _ X.warmed
  have h2 : (Cond.code y bytes maxL ret).before a A.U = true := hws _ hcode _ _ X.warmed
  have h3 : (Cond.initialized y.cls).before a A.U = true := hinit _ _ X.warmed
  have h4 : A.cells + (headSpec ws rm).room.cells ≤ R.cells := by rw [show (headSpec ws rm).room.cells = mc from hrc]; exact hp.1
  have h5 : A.slots + (headSpec ws rm).room.slots ≤ R.slots := by rw [show (headSpec ws rm).room.slots = ms from hrs]; exact hp.2.1
  have hPc : Pc a (A.U.calling g mk a) := hblind _ _ _ _ hp.2.2
  obtain ⟨U, Ls, c0, s0⟩ := A
  dsimp only [Pt.U, Pt.locs, Pt.cells, Pt.slots] at h1 h2 h3 h4 h5 X hn hPc ⊢
  obtain ⟨methY, cY, hmY, hcY, -, hlY, -, -, -, -⟩ := Cond.code_spec hn h2
  obtain ⟨kY, hkY, -⟩ := className_of_methodNamed hn
  have hinitY : kY.init = .initialized := Cond.initialized_spec (findClass_of_methodNamed hn) hkY h3
  have h : At U g.method c below := by rw [hg]; exact X.here
  have hlocals9 : W9 + (maxL + 11) + (headSpec ws rm).room.locals ≤ R.locals := hlocals
  have happ : (headSpec ws rm).appliesLoose y e.platform (U.calling g mk a) = true :=
    Spec.appliesLoose_calling (g := g) h hdg hn hkY hinitY
      (X.room_calling (g := g) (R' := (headSpec ws rm).room) hsize hmY hcY hframes (by rw [hlY]; omega) h4 h5) h1
  obtain ⟨mid, hmid⟩ := h.above
  have hfr : (U.setTop g).frames = (.java g :: mid) ++ below := by rw [State.frames_setTop' g h.top, hmid]; rfl
  obtain ⟨o, s₂, hsteps, -, hend, hq⟩ := Steps.callFree hM p X.admits X.cas X.clock (acts := []) hfr happ hPc trivial
  have hq' : vx_Q Qc XC mc ms free a (U.calling g mk a) o s₂ := hq
  rw [State.frames_setTop' g h.top] at hend
  obtain ⟨g₀, hg0⟩ := Option.isSome_iff_exists.mp h.top
  obtain ⟨r, hr⟩ := State.topJava?_eq_some.mp hg0
  have hr' : (({ U with heap := s₂.heap, slotsUsed := s₂.slotsUsed } : State).setVm s₂.vm).frames = .java g₀ :: r := hr
  rcases hq' with ⟨hqc, L, hfe, hL⟩ | ⟨q, rfl, E, ce, L, hx, hce, hcv, hcl, hW₂, hsm, hL⟩
  · obtain ⟨⟨v, rfl⟩, hW₂, e2, q2, q3, q4, q5, q6⟩ := id hfe
    have e3 : s₂ = ({ (U.calling g mk a).setFrames s₂.frames with heap := s₂.heap, slotsUsed := s₂.slotsUsed } : State).setVm s₂.vm := by
      have : s₂ = ({ s₂ with vm := (U.calling g mk a).vm } : State).setVm s₂.vm := rfl
      rw [e2] at this
      exact this
    obtain ⟨c₂, i₂, len₂, hc₂, hd₂, hf₂⟩ := hend
    have hW' : U.WarmedH s₂.vm := hW₂
    have hcc : c₂ = c := by
      have h1 : s₂.code? g.method = U.code? g.method := by
        rw [State.code?_eq, State.code?_eq, hW'.alike.method?]
      exact Option.some.inj (hc₂.symm.trans (h1.trans h.code))
    subst hcc
    have hlen : len₂ = len := by rw [hdg] at hd₂; cases hd₂; rfl
    subst hlen
    have hs₂ : s₂ = (({ U with heap := s₂.heap, slotsUsed := s₂.slotsUsed } : State).setVm s₂.vm).setTop { g with pc := g.pc + len₂, stack := v.toList ++ g.stack } := by
      refine e3.trans ?_
      rw [hf₂, State.calling_eq h.top, State.setFrames_setFrames, State.setTop_of_frames _ hr', hr]
      rfl
    have hsame : U.sameButNew ({ U with heap := s₂.heap, slotsUsed := s₂.slotsUsed } : State) L mc ms := by
      refine ⟨?_, q2, q3, q4, q5, q6⟩
      obtain ⟨t, ht, -⟩ := State.frames_cons hr
      show ({ U with heap := s₂.heap, slotsUsed := s₂.slotsUsed } : State) = { U.setFrames U.frames with heap := s₂.heap, slotsUsed := s₂.slotsUsed }
      rw [State.setFrames_self ht]
    subst hg
    refine Or.inl ⟨v, ⟨(({ U with heap := s₂.heap, slotsUsed := s₂.slotsUsed } : State).setVm s₂.vm), Ls ++ L, c0 + mc, s0 + ms⟩,
      ⟨X.admits, X.cas, X.clock, X.frames, X.room, X.hears, X.method, X.code, (X.here.setHeapUsed s₂.heap s₂.slotsUsed).setVm hW'.alike, X.tail, State.WarmedH.trans X.warmed hW', X.limits, X.bytes, X.same.trans (hsame.setVm s.vm)⟩,
      ⟨g, mk, s₂, L, rfl, rfl, hqc, rfl, hL, rfl, rfl⟩, ?_⟩
    show Steps p.tables e below _ ((({ U with heap := s₂.heap, slotsUsed := s₂.slotsUsed } : State).setVm s₂.vm).setTop { g with pc := g.pc + len₂, stack := v.toList ++ g.stack })
    rw [← hs₂]
    exact hsteps
  · obtain ⟨e2, q2, q3, q4, q5, q6⟩ := id hsm
    have e3 : s₂ = ({ (U.calling g mk a).setFrames s₂.frames with heap := s₂.heap, slotsUsed := s₂.slotsUsed } : State).setVm s₂.vm := by
      have : s₂ = ({ s₂ with vm := (U.calling g mk a).vm } : State).setVm s₂.vm := rfl
      rw [e2] at this
      exact this
    have hf₂ : s₂.frames = .throwing q :: .java g :: U.frames.tail := hend
    have hW' : U.WarmedH s₂.vm := hW₂
    have hs₂ : s₂ = ((({ U with heap := s₂.heap, slotsUsed := s₂.slotsUsed } : State).setVm s₂.vm).setTop g).pushFrame (.throwing q) := by
      refine e3.trans ?_
      rw [hf₂, State.calling_eq h.top, State.setFrames_setFrames, State.pushFrame, State.frames_setTop _ hr', State.setTop_of_frames _ hr', State.setFrames_setFrames, hr]
      rfl
    have hsame : U.sameButNew ({ U with heap := s₂.heap, slotsUsed := s₂.slotsUsed } : State) L mc ms := by
      refine ⟨?_, q2, q3, q4, q5, q6⟩
      obtain ⟨t, ht, -⟩ := State.frames_cons hr
      show ({ U with heap := s₂.heap, slotsUsed := s₂.slotsUsed } : State) = { U.setFrames U.frames with heap := s₂.heap, slotsUsed := s₂.slotsUsed }
      rw [State.setFrames_self ht]
    subst hg
    refine Or.inr ⟨q, ⟨(({ U with heap := s₂.heap, slotsUsed := s₂.slotsUsed } : State).setVm s₂.vm), Ls ++ L, c0 + mc, s0 + ms⟩,
      ⟨X.admits, X.cas, X.clock, X.frames, X.room, X.hears, X.method, X.code, (X.here.setHeapUsed s₂.heap s₂.slotsUsed).setVm hW'.alike, X.tail, State.WarmedH.trans X.warmed hW', X.limits, X.bytes, X.same.trans (hsame.setVm s.vm)⟩,
      ⟨g, mk, s₂, L, E, ce, rfl, rfl, hx, hce, hcv, hcl, rfl, hL, rfl, rfl⟩, ?_⟩
    show Steps p.tables e below _ (((({ U with heap := s₂.heap, slotsUsed := s₂.slotsUsed } : State).setVm s₂.vm).setTop g).pushFrame (.throwing q))
    rw [← hs₂]
    exact hsteps
end Payer
section Calls
variable {p : Program} {l : Launch} {e : Env} {R : Room} {s : State} {m : MethodId} {args : Array Value} {below : List Frame} {meth : Method} {c : Code} {T : State} {locs : List Loc} {cells slots : Nat}
theorem vx_callV (X : Stand p l e R s m args below meth c T locs cells slots) (hexec : p.tables.exec = Jvm.exec) {own C : String} {index : Nat} {y : MethodName} {bytes : ByteArray} {maxL : Nat} {ret : Option FieldType}
    (hown : s.vm.findClass own = some m.cls) (hlink : (Cond.methodLink own index y).before args s = true) (hinst : (Cond.instanceMethod y).before args s = true) (hsel : (Cond.selects C y y).before args s = true)
    (hcode : (Cond.code y bytes maxL ret).before args s = true) (hy : y.cls ≠ "java/lang/invoke/MethodHandle" ∧ y.cls ≠ "java/lang/invoke/VarHandle")
    {W9 : Nat} {Pre : Pt → Array Value → Prop} {Post : Pt → Array Value → Option Value → Pt → Prop} {PostX : Pt → Array Value → Addr → Pt → Prop} (hK : vx_Back l R p e below s args y 3 W9 Pre Post PostX)
    {b : Addr} {cellB : Cell} (hcell : T.heap[b]? = some cellB) (hobj : cellB.vm.isStatics = false) (hcls : s.vm.findClass C = some cellB.cls)
    {g : JFrame} (hg : g.method = m) (hsize : g.locals.size = c.maxLocals) {argsL rest : List Value} (hlen : ∀ sig, parseMethodDescriptor y.desc = some sig → argsL.length = sig.parameters.length)
    (hstack : g.stack = argsL.reverse ++ .ref b :: rest) (hW : 2 * g.monitorRoom + (rest.map fun v => v.category).sum ≤ W9) (hdg : decode c.code g.pc = .ok (.invokevirtual index, 3))
    (hpre : ∀ vm₁, s.WarmedH vm₁ → Pre ⟨T.setVm vm₁, locs, cells, slots⟩ (Value.ref b :: argsL).toArray) :
    (∃ (v : Option Value) (vm₁ : Vm) (B : Pt), s.WarmedH vm₁ ∧ Stand p l e R s m args below meth c B.U B.locs B.cells B.slots ∧ Post ⟨T.setVm vm₁, locs, cells, slots⟩ (Value.ref b :: argsL).toArray v B ∧
      ∀ target, Steps p.tables e below (B.U.setTop { g with pc := g.pc + 3, stack := v.toList ++ rest }) target → Steps p.tables e below (T.setTop g) target) ∨
    (∃ (q : Addr) (vm₁ : Vm) (B : Pt), s.WarmedH vm₁ ∧ Stand p l e R s m args below meth c B.U B.locs B.cells B.slots ∧ PostX ⟨T.setVm vm₁, locs, cells, slots⟩ (Value.ref b :: argsL).toArray q B ∧
      Steps p.tables e below (T.setTop g) ((B.U.setTop { g with stack := rest }).pushFrame (.throwing q))) := by
  obtain ⟨mk, methM, hnamed, hmethM, hstM, habM⟩ := Cond.instanceMethod_spec hinst
  obtain ⟨methM', cM, hmethM', -, -, -, -, -, -, hsigM⟩ := Cond.code_spec hnamed hcode
  cases hmethM.symm.trans hmethM'
  obtain ⟨c2, r2, m2, q1, q2, q3, q4, kP, hkP, hkPi⟩ := Cond.selects_spec hsel
  cases hcls.symm.trans q1
  cases (State.methodFound?_of_named hnamed hy).symm.trans q2
  cases hnamed.symm.trans q3
  have hselP : selectMethod e.platform s.vm cellB.cls mk = .method mk := by rw [Launch.admits_selectMethod X.admits]; exact q4
  obtain ⟨vm₁, X₁, hstep₁⟩ := X.invokevirtual hexec hown hlink hnamed hmethM hstM hkP hkPi hy (a := b) (cell := cellB) hcell
    (fun z h => by rw [h] at hobj; cases hobj) hselP hmethM habM hkP hkPi (g := g) hg (argsL := argsL) (rest := rest) (hlen _ hsigM) hstack hdg
  rcases hK m meth c ⟨T.setVm vm₁, locs, cells, slots⟩ { g with stack := rest } (.invokevirtual index) mk (Value.ref b :: argsL).toArray X₁ hg hsize hdg hW (X₁.named hnamed) (hpre vm₁ X₁.warmed) with ⟨v, B, X', hpost, hsteps⟩ | ⟨q, B, X', hpost, hsteps⟩
  · exact Or.inl ⟨v, vm₁, B, X₁.warmed, X', hpost, fun target h => hstep₁ _ fun acts => by rw [doInvoke_state]; exact hsteps.trans h⟩
  · exact Or.inr ⟨q, vm₁, B, X₁.warmed, X', hpost, hstep₁ _ fun acts => by rw [doInvoke_state]; exact hsteps⟩
theorem vx_callS (X : Stand p l e R s m args below meth c T locs cells slots) (hexec : p.tables.exec = Jvm.exec) {own : String} {index : Nat} {y : MethodName} {bytes : ByteArray} {maxL : Nat} {ret : Option FieldType}
    (hown : s.vm.findClass own = some m.cls) (hlink : (Cond.methodLink own index y).before args s = true) (hstat : (Cond.static y).before args s = true) (hinit : (Cond.initialized y.cls).before args s = true)
    (hcode : (Cond.code y bytes maxL ret).before args s = true) (hy : y.cls ≠ "java/lang/invoke/MethodHandle" ∧ y.cls ≠ "java/lang/invoke/VarHandle")
    {W9 : Nat} {Pre : Pt → Array Value → Prop} {Post : Pt → Array Value → Option Value → Pt → Prop} {PostX : Pt → Array Value → Addr → Pt → Prop} (hK : vx_Back l R p e below s args y 3 W9 Pre Post PostX)
    {g : JFrame} (hg : g.method = m) (hsize : g.locals.size = c.maxLocals) {argsL rest : List Value} (hlen : ∀ sig, parseMethodDescriptor y.desc = some sig → argsL.length = sig.parameters.length)
    (hstack : g.stack = argsL.reverse ++ rest) (hW : 2 * g.monitorRoom + (rest.map fun v => v.category).sum ≤ W9) (hdg : decode c.code g.pc = .ok (.invokestatic index, 3))
    (hpre : ∀ vm₁, s.WarmedH vm₁ → Pre ⟨T.setVm vm₁, locs, cells, slots⟩ argsL.toArray) :
    (∃ (v : Option Value) (vm₁ : Vm) (B : Pt), s.WarmedH vm₁ ∧ Stand p l e R s m args below meth c B.U B.locs B.cells B.slots ∧ Post ⟨T.setVm vm₁, locs, cells, slots⟩ argsL.toArray v B ∧
      ∀ target, Steps p.tables e below (B.U.setTop { g with pc := g.pc + 3, stack := v.toList ++ rest }) target → Steps p.tables e below (T.setTop g) target) ∨
    (∃ (q : Addr) (vm₁ : Vm) (B : Pt), s.WarmedH vm₁ ∧ Stand p l e R s m args below meth c B.U B.locs B.cells B.slots ∧ PostX ⟨T.setVm vm₁, locs, cells, slots⟩ argsL.toArray q B ∧
      Steps p.tables e below (T.setTop g) ((B.U.setTop { g with stack := rest }).pushFrame (.throwing q))) := by
  obtain ⟨mk, hnamed⟩ := Cond.code_named hcode
  obtain ⟨methM, cM, hmethM, -, -, -, -, -, -, hsigM⟩ := Cond.code_spec hnamed hcode
  have hstatic : methM.isStatic = true := Cond.static_spec hnamed hmethM hstat
  obtain ⟨kP, hkP, -⟩ := className_of_methodNamed hnamed
  have hinitP : kP.init = .initialized := Cond.initialized_spec (findClass_of_methodNamed hnamed) hkP hinit
  obtain ⟨vm₁, X₁, hstep₁⟩ := X.invokestatic hexec hown hlink hnamed hmethM hstatic hkP hinitP hy (g := g) hg (argsL := argsL) (rest := rest) (hlen _ hsigM) hstack hdg
  rcases hK m meth c ⟨T.setVm vm₁, locs, cells, slots⟩ { g with stack := rest } (.invokestatic index) mk argsL.toArray X₁ hg hsize hdg hW (X₁.named hnamed) (hpre vm₁ X₁.warmed) with ⟨v, B, X', hpost, hsteps⟩ | ⟨q, B, X', hpost, hsteps⟩
  · exact Or.inl ⟨v, vm₁, B, X₁.warmed, X', hpost, fun target h => hstep₁ _ fun acts => by rw [doInvoke_state]; exact hsteps.trans h⟩
  · exact Or.inr ⟨q, vm₁, B, X₁.warmed, X', hpost, hstep₁ _ fun acts => by rw [doInvoke_state]; exact hsteps⟩
end Calls
theorem vx_cls {s : State} {T : State} {vm₁ : Vm} {E : String} {k : ClassId} (hW : s.WarmedH vm₁) (h : (T.setVm vm₁).vm.findClass E = some k) : s.vm.findClass E = some k := by
  have h1 : vm₁.findClass E = some k := h
  rw [hW.alike.findClass] at h1
  exact h1
/-- the method's frame g, with q thrown over it -/
def vx_W (p : Program) (l : Launch) (e : Env) (R : Room) (s : State) (m : MethodId) (args : Array Value) (below : List Frame) (meth : Method) (c : Code) (H : Heap) (locs : List Loc) (cells slots : Nat) (Q : State → Prop) (g : JFrame) (q : Addr) : Prop :=
  ∀ T : State, T.heap = H → Stand p l e R s m args below meth c T locs cells slots → ∃ t, Steps p.tables e below ((T.setTop g).pushFrame (.throwing q)) t ∧ Q t
def vx_Run (p : Program) (l : Launch) (e : Env) (R : Room) (s : State) (m : MethodId) (args : Array Value) (below : List Frame) (meth : Method) (c : Code) (H : Heap) (locs : List Loc) (cells slots mc ms : Nat) (g : JFrame) (rest : List Value) (Qa : State → Outcome → State → Prop) (XC : String → State → State → Prop) (free : Addr → Prop) : Prop :=
  ∀ T : State, T.heap = H → Stand p l e R s m args below meth c T locs cells slots →
    (∃ (v : Option Value) (st₀ t T' : State) (L : List Loc), st₀.heap = H ∧ Stand p l e R s m args below meth c T' (locs ++ L) (cells + mc) (slots + ms) ∧ (∀ q ∈ L, free q.base) ∧ T'.heap = t.heap ∧ T'.vm = t.vm ∧ Qa st₀ (.returned v) t ∧
      Goes p e below T g T' { g with pc := g.pc + 3, stack := v.toList ++ rest }) ∨
    (∃ (q : Addr) (st₀ t T' : State) (L : List Loc) (E : String) (ce : Cell), st₀.heap = H ∧ Stand p l e R s m args below meth c T' (locs ++ L) (cells + mc) (slots + ms) ∧ (∀ z ∈ L, free z.base) ∧ T'.heap = t.heap ∧ T'.vm = t.vm ∧ XC E st₀ t ∧ t.heap[q]? = some ce ∧ ce.vm = .none ∧ s.vm.findClass E = some ce.cls ∧
      Steps p.tables e below (T.setTop g) ((T'.setTop { g with stack := rest }).pushFrame (.throwing q)))
def vx_X {S : Type} (px : S → Prop) (B : String → S → State → Prop) (A : Nat → Prop) : String → State → State → Prop := fun E st t => ∃ u : S, px u ∧ B E u t ∧ va_F A st t
section Runs
variable {p : Program} {l : Launch} {e : Env} {R : Room} {s : State} {m : MethodId} {args : Array Value} {below : List Frame} {meth : Method} {c : Code} {H : Heap} {locs : List Loc} {cells slots : Nat}
variable {y : MethodName} {bytes cc : ByteArray} {maxL nL mc ms n index : Nat} {ret : Option FieldType} {ws : List Cond} {rm : Room} {Pc : Array Value → State → Prop} {Qc : Array Value → State → Outcome → State → Prop} {XC : String → State → State → Prop} {free : Addr → Prop} {Ts : List Cond} {own C : String} {b : Addr} {As rest : List Value} {g : JFrame}
theorem vx_callBack (cb : CallB R s args own index y bytes maxL ret ws rm mc ms n) (hM : vx_Met l y ws rm Pc Qc XC mc ms free) (hbl : FrameBlind Pc) : vx_Back l R p e below s args y 3 8 (PreOf R mc ms Pc) (PostOf Qc mc ms free) (vx_Post XC mc ms free) := by
  obtain ⟨hrc, hrs, hfr, hlo, hws, hcw, -, hini, -⟩ := cb
  exact vx_back (bytes := bytes) (maxL := maxL) (ret := ret) hM hbl hrc hrs hfr hlo hws hcw (fun a' U hW => word_at hW (Or.inl (by first | rfl | simp [Cond.onTables, Cond.keeps, Cond.steady])) hini)
theorem vx_runV (S : CallFix p m c cc nL s args Ts own) (hM : vx_Met l y ws rm Pc Qc XC mc ms free) (cw : CallW R s args own C index y bytes maxL ret ws rm mc ms n) (hp : PreV s H C b Pc As)
    (hg : g.method = m) (hn : As.length = n) (hsize : g.locals.size = nL) (hstack : g.stack = As.reverse ++ .ref b :: rest) (hW : 2 * g.monitorRoom + (rest.map fun v => v.category).sum ≤ 8) (hdg : decode cc g.pc = .ok (.invokevirtual index, 3)) (hf : cells + mc ≤ R.cells ∧ slots + ms ≤ R.slots) :
    vx_Run p l e R s m args below meth c H locs cells slots mc ms g rest (Qc (Value.ref b :: As).toArray) XC free := by
  have hK : vx_Back l R p e below s args y 3 8 (PreOf R mc ms Pc) (PostOf Qc mc ms free) (vx_Post XC mc ms free) := vx_callBack cw.1 hM hp.1
  obtain ⟨⟨-, -, -, -, -, -, hcode, -, hy, hlen, hl⟩, hin, hse⟩ := cw
  obtain ⟨hx, hb, hml, ho, -⟩ := S
  obtain ⟨-, ⟨cellB, hcB, hoB, hclB⟩, hPc⟩ := hp
  intro T hT X
  rcases vx_callV X hx (C := C) (bytes := bytes) (maxL := maxL) (ret := ret) ho hl hin hse hcode hy hK (by rw [hT]; exact hcB) hoB hclB hg (hsize.trans hml.symm) (argsL := As) (rest := rest) (fun sig h => hn.trans (hlen sig h)) hstack hW (by rw [hb]; exact hdg)
    (fun vm₁ hW₁ => ⟨hf.1, hf.2, hPc (T.setVm vm₁) hT hW₁⟩) with ⟨v, vm₁, ⟨U', l2, c2, s2⟩, hW₁, X', ⟨g', mk, t, L, e1, e2, hq, h1, hL, h2, h3⟩, st⟩ | ⟨q, vm₁, ⟨U', l2, c2, s2⟩, hW₁, X', ⟨g', mk, t, L, E, ce, e1, e2, hq, hce, hcv, hcl, h1, hL, h2, h3⟩, st⟩
  · dsimp only [Pt.U, Pt.locs, Pt.cells, Pt.slots] at X' e1 e2 h1 h2 h3 st
    subst h1; subst h2; subst h3
    exact Or.inl ⟨v, (T.setVm vm₁).calling g' mk (Value.ref b :: As).toArray, t, U', L, hT, X', hL, e1, e2, hq, st⟩
  · dsimp only [Pt.U, Pt.locs, Pt.cells, Pt.slots] at X' e1 e2 h1 h2 h3 st hcl
    subst h1; subst h2; subst h3
    exact Or.inr ⟨q, (T.setVm vm₁).calling g' mk (Value.ref b :: As).toArray, t, U', L, E, ce, hT, X', hL, e1, e2, hq, hce, hcv, vx_cls hW₁ hcl, st⟩
theorem vx_runS (S : CallFix p m c cc nL s args Ts own) (hM : vx_Met l y ws rm Pc Qc XC mc ms free) (cw : CallB R s args own index y bytes maxL ret ws rm mc ms n ∧ (Cond.static y).before args s = true) (hp : PreS s H Pc As)
    (hg : g.method = m) (hn : As.length = n) (hsize : g.locals.size = nL) (hstack : g.stack = As.reverse ++ rest) (hW : 2 * g.monitorRoom + (rest.map fun v => v.category).sum ≤ 8) (hdg : decode cc g.pc = .ok (.invokestatic index, 3)) (hf : cells + mc ≤ R.cells ∧ slots + ms ≤ R.slots) :
    vx_Run p l e R s m args below meth c H locs cells slots mc ms g rest (Qc As.toArray) XC free := by
  have hK : vx_Back l R p e below s args y 3 8 (PreOf R mc ms Pc) (PostOf Qc mc ms free) (vx_Post XC mc ms free) := vx_callBack cw.1 hM hp.1
  obtain ⟨⟨-, -, -, -, -, -, hcode, hini, hy, hlen, hl⟩, hstt⟩ := cw
  obtain ⟨hx, hb, hml, ho, -⟩ := S
  intro T hT X
  rcases vx_callS X hx (bytes := bytes) (maxL := maxL) (ret := ret) ho hl hstt hini hcode hy hK hg (hsize.trans hml.symm) (argsL := As) (rest := rest) (fun sig h => hn.trans (hlen sig h)) hstack hW (by rw [hb]; exact hdg)
    (fun vm₁ hW₁ => ⟨hf.1, hf.2, hp.2 (T.setVm vm₁) hT hW₁⟩) with ⟨v, vm₁, ⟨U', l2, c2, s2⟩, hW₁, X', ⟨g', mk, t, L, e1, e2, hq, h1, hL, h2, h3⟩, st⟩ | ⟨q, vm₁, ⟨U', l2, c2, s2⟩, hW₁, X', ⟨g', mk, t, L, E, ce, e1, e2, hq, hce, hcv, hcl, h1, hL, h2, h3⟩, st⟩
  · dsimp only [Pt.U, Pt.locs, Pt.cells, Pt.slots] at X' e1 e2 h1 h2 h3 st
    subst h1; subst h2; subst h3
    exact Or.inl ⟨v, (T.setVm vm₁).calling g' mk As.toArray, t, U', L, hT, X', hL, e1, e2, hq, st⟩
  · dsimp only [Pt.U, Pt.locs, Pt.cells, Pt.slots] at X' e1 e2 h1 h2 h3 st hcl
    subst h1; subst h2; subst h3
    exact Or.inr ⟨q, (T.setVm vm₁).calling g' mk As.toArray, t, U', L, E, ce, hT, X', hL, e1, e2, hq, hce, hcv, vx_cls hW₁ hcl, st⟩
end Runs
section Rows
variable {p : Program} {l : Launch} {e : Env} {R : Room} {s : State} {m : MethodId} {args : Array Value} {below : List Frame} {meth : Method} {c : Code} {H : Heap} {locs : List Loc} {cells slots : Nat} {Q : State → Prop}
variable {mc ms : Nat} {free : Addr → Prop} {A0 A1 : Nat → Prop} {H0 : Heap} {a : Array Value} {pc : Nat} {ls : Array Slot} {st0 rest : List Value}
theorem vx_keep {st₀ t T' : State} {L : List Loc} (h0 : st₀.heap = H) (e1 : T'.heap = t.heap) (hS : va_S A0 H0 H locs) (hA : ∀ q, q < H.size → A1 q → A0 q) (hf : ∀ q, free q → A0 q) (hL : ∀ q ∈ L, free q.base) (hF : va_F A1 st₀ t) :
    H.size ≤ T'.heap.size ∧ (∀ q : Nat, q < H.size → ¬ A1 q → T'.heap[q]? = H[q]?) ∧ va_S A0 H0 T'.heap (locs ++ L) := by
  obtain ⟨hz, hk⟩ := hF
  rw [h0] at hz hk
  exact ⟨by rw [e1]; exact hz, fun q h1 h2 => by rw [e1]; exact hk q h1 h2,
    ⟨Nat.le_trans hS.1 (by rw [e1]; exact hz), fun q h1 h2 => by rw [e1, hk q (Nat.lt_of_lt_of_le h1 hS.1) (fun z => h2 (hA q (Nat.lt_of_lt_of_le h1 hS.1) z))]; exact hS.2.1 q h1 h2, fun q hq => by
      rcases List.mem_append.mp hq with h | h
      · exact hS.2.2 q h
      · exact hf _ (hL q h)⟩⟩
theorem vx_calli {S SX : Type} {post : Int32 → S → Prop} {px : SX → Prop} {B : S → State → Prop} {BX : String → SX → State → Prop} {AX : Nat → Prop} (hr : vx_Run p l e R s m args below meth c H locs cells slots mc ms (F0 m pc ls st0) rest (va_Qi post B A1 a) (vx_X px BX AX) free) (hS : va_S A0 H0 H locs) (hA : ∀ q, q < H.size → A1 q → A0 q) (hf : ∀ q, free q → A0 q) (hAX : ∀ q, q < H.size → AX q → A0 q)
    (kx : ∀ (E : String) (ce : Cell) (q9 : Addr) (u : SX) (t : State) (H1 : Heap) (locs1 : List Loc), t.heap = H1 → s.vm.Alike t.vm → px u → BX E u t → H.size ≤ H1.size → (∀ q : Nat, q < H.size → ¬ AX q → H1[q]? = H[q]?) → va_S A0 H0 H1 locs1 → H1[q9]? = some ce → ce.vm = .none → s.vm.findClass E = some ce.cls → vx_W p l e R s m args below meth c H1 locs1 (cells + mc) (slots + ms) Q (F0 m pc ls rest) q9)
    (kk : ∀ (r : Int32) (u : S) (t : State) (H1 : Heap) (locs1 : List Loc), t.heap = H1 → s.vm.Alike t.vm → post r u → B u t → H.size ≤ H1.size → (∀ q : Nat, q < H.size → ¬ A1 q → H1[q]? = H[q]?) → va_S A0 H0 H1 locs1 → W p l e R s m args below meth c H1 locs1 (cells + mc) (slots + ms) Q (F0 m (pc + 3) ls (.int r :: rest))) : W p l e R s m args below meth c H locs cells slots Q (F0 m pc ls st0) := by
  intro T hT X
  rcases hr T hT X with ⟨v, st₀, t, T', L, h0, X', hL, e1, e2, ⟨⟨r, u, hv, hp, hb⟩, hF⟩, st⟩ | ⟨q, st₀, t, T', L, E, ce, h0, X', hL, e1, e2, ⟨u, hp, hb, hF⟩, hce, hcv, hcl, st⟩
  · cases hv
    obtain ⟨k1, k2, k3⟩ := vx_keep h0 e1 hS hA hf hL hF
    obtain ⟨t2, a1, b1⟩ := kk r u t T'.heap (locs ++ L) e1.symm (by rw [← e2]; exact X'.warmed.alike) hp hb k1 k2 k3 T' rfl X'
    exact ⟨t2, st t2 a1, b1⟩
  · obtain ⟨k1, k2, k3⟩ := vx_keep h0 e1 hS hAX hf hL hF
    obtain ⟨t2, a1, b1⟩ := kx E ce q u t T'.heap (locs ++ L) e1.symm (by rw [← e2]; exact X'.warmed.alike) hp hb k1 k2 k3 (by rw [e1]; exact hce) hcv hcl T' rfl X'
    exact ⟨t2, st.trans a1, b1⟩
theorem vx_calll {S SX : Type} {post : Int64 → S → Prop} {px : SX → Prop} {B : S → State → Prop} {BX : String → SX → State → Prop} {AX : Nat → Prop} (hr : vx_Run p l e R s m args below meth c H locs cells slots mc ms (F0 m pc ls st0) rest (va_Ql post B A1 a) (vx_X px BX AX) free) (hS : va_S A0 H0 H locs) (hA : ∀ q, q < H.size → A1 q → A0 q) (hf : ∀ q, free q → A0 q) (hAX : ∀ q, q < H.size → AX q → A0 q)
    (kx : ∀ (E : String) (ce : Cell) (q9 : Addr) (u : SX) (t : State) (H1 : Heap) (locs1 : List Loc), t.heap = H1 → s.vm.Alike t.vm → px u → BX E u t → H.size ≤ H1.size → (∀ q : Nat, q < H.size → ¬ AX q → H1[q]? = H[q]?) → va_S A0 H0 H1 locs1 → H1[q9]? = some ce → ce.vm = .none → s.vm.findClass E = some ce.cls → vx_W p l e R s m args below meth c H1 locs1 (cells + mc) (slots + ms) Q (F0 m pc ls rest) q9)
    (kk : ∀ (r : Int64) (u : S) (t : State) (H1 : Heap) (locs1 : List Loc), t.heap = H1 → s.vm.Alike t.vm → post r u → B u t → H.size ≤ H1.size → (∀ q : Nat, q < H.size → ¬ A1 q → H1[q]? = H[q]?) → va_S A0 H0 H1 locs1 → W p l e R s m args below meth c H1 locs1 (cells + mc) (slots + ms) Q (F0 m (pc + 3) ls (.long r :: rest))) : W p l e R s m args below meth c H locs cells slots Q (F0 m pc ls st0) := by
  intro T hT X
  rcases hr T hT X with ⟨v, st₀, t, T', L, h0, X', hL, e1, e2, ⟨⟨r, u, hv, hp, hb⟩, hF⟩, st⟩ | ⟨q, st₀, t, T', L, E, ce, h0, X', hL, e1, e2, ⟨u, hp, hb, hF⟩, hce, hcv, hcl, st⟩
  · cases hv
    obtain ⟨k1, k2, k3⟩ := vx_keep h0 e1 hS hA hf hL hF
    obtain ⟨t2, a1, b1⟩ := kk r u t T'.heap (locs ++ L) e1.symm (by rw [← e2]; exact X'.warmed.alike) hp hb k1 k2 k3 T' rfl X'
    exact ⟨t2, st t2 a1, b1⟩
  · obtain ⟨k1, k2, k3⟩ := vx_keep h0 e1 hS hAX hf hL hF
    obtain ⟨t2, a1, b1⟩ := kx E ce q u t T'.heap (locs ++ L) e1.symm (by rw [← e2]; exact X'.warmed.alike) hp hb k1 k2 k3 (by rw [e1]; exact hce) hcv hcl T' rfl X'
    exact ⟨t2, st.trans a1, b1⟩
theorem vx_callf {S SX : Type} {post : UInt32 → S → Prop} {px : SX → Prop} {B : S → State → Prop} {BX : String → SX → State → Prop} {AX : Nat → Prop} (hr : vx_Run p l e R s m args below meth c H locs cells slots mc ms (F0 m pc ls st0) rest (va_Qf post B A1 a) (vx_X px BX AX) free) (hS : va_S A0 H0 H locs) (hA : ∀ q, q < H.size → A1 q → A0 q) (hf : ∀ q, free q → A0 q) (hAX : ∀ q, q < H.size → AX q → A0 q)
    (kx : ∀ (E : String) (ce : Cell) (q9 : Addr) (u : SX) (t : State) (H1 : Heap) (locs1 : List Loc), t.heap = H1 → s.vm.Alike t.vm → px u → BX E u t → H.size ≤ H1.size → (∀ q : Nat, q < H.size → ¬ AX q → H1[q]? = H[q]?) → va_S A0 H0 H1 locs1 → H1[q9]? = some ce → ce.vm = .none → s.vm.findClass E = some ce.cls → vx_W p l e R s m args below meth c H1 locs1 (cells + mc) (slots + ms) Q (F0 m pc ls rest) q9)
    (kk : ∀ (r : UInt32) (u : S) (t : State) (H1 : Heap) (locs1 : List Loc), t.heap = H1 → s.vm.Alike t.vm → post r u → B u t → H.size ≤ H1.size → (∀ q : Nat, q < H.size → ¬ A1 q → H1[q]? = H[q]?) → va_S A0 H0 H1 locs1 → W p l e R s m args below meth c H1 locs1 (cells + mc) (slots + ms) Q (F0 m (pc + 3) ls (.float r :: rest))) : W p l e R s m args below meth c H locs cells slots Q (F0 m pc ls st0) := by
  intro T hT X
  rcases hr T hT X with ⟨v, st₀, t, T', L, h0, X', hL, e1, e2, ⟨⟨r, u, hv, hp, hb⟩, hF⟩, st⟩ | ⟨q, st₀, t, T', L, E, ce, h0, X', hL, e1, e2, ⟨u, hp, hb, hF⟩, hce, hcv, hcl, st⟩
  · cases hv
    obtain ⟨k1, k2, k3⟩ := vx_keep h0 e1 hS hA hf hL hF
    obtain ⟨t2, a1, b1⟩ := kk r u t T'.heap (locs ++ L) e1.symm (by rw [← e2]; exact X'.warmed.alike) hp hb k1 k2 k3 T' rfl X'
    exact ⟨t2, st t2 a1, b1⟩
  · obtain ⟨k1, k2, k3⟩ := vx_keep h0 e1 hS hAX hf hL hF
    obtain ⟨t2, a1, b1⟩ := kx E ce q u t T'.heap (locs ++ L) e1.symm (by rw [← e2]; exact X'.warmed.alike) hp hb k1 k2 k3 (by rw [e1]; exact hce) hcv hcl T' rfl X'
    exact ⟨t2, st.trans a1, b1⟩
theorem vx_calld {S SX : Type} {post : UInt64 → S → Prop} {px : SX → Prop} {B : S → State → Prop} {BX : String → SX → State → Prop} {AX : Nat → Prop} (hr : vx_Run p l e R s m args below meth c H locs cells slots mc ms (F0 m pc ls st0) rest (va_Qd post B A1 a) (vx_X px BX AX) free) (hS : va_S A0 H0 H locs) (hA : ∀ q, q < H.size → A1 q → A0 q) (hf : ∀ q, free q → A0 q) (hAX : ∀ q, q < H.size → AX q → A0 q)
    (kx : ∀ (E : String) (ce : Cell) (q9 : Addr) (u : SX) (t : State) (H1 : Heap) (locs1 : List Loc), t.heap = H1 → s.vm.Alike t.vm → px u → BX E u t → H.size ≤ H1.size → (∀ q : Nat, q < H.size → ¬ AX q → H1[q]? = H[q]?) → va_S A0 H0 H1 locs1 → H1[q9]? = some ce → ce.vm = .none → s.vm.findClass E = some ce.cls → vx_W p l e R s m args below meth c H1 locs1 (cells + mc) (slots + ms) Q (F0 m pc ls rest) q9)
    (kk : ∀ (r : UInt64) (u : S) (t : State) (H1 : Heap) (locs1 : List Loc), t.heap = H1 → s.vm.Alike t.vm → post r u → B u t → H.size ≤ H1.size → (∀ q : Nat, q < H.size → ¬ A1 q → H1[q]? = H[q]?) → va_S A0 H0 H1 locs1 → W p l e R s m args below meth c H1 locs1 (cells + mc) (slots + ms) Q (F0 m (pc + 3) ls (.double r :: rest))) : W p l e R s m args below meth c H locs cells slots Q (F0 m pc ls st0) := by
  intro T hT X
  rcases hr T hT X with ⟨v, st₀, t, T', L, h0, X', hL, e1, e2, ⟨⟨r, u, hv, hp, hb⟩, hF⟩, st⟩ | ⟨q, st₀, t, T', L, E, ce, h0, X', hL, e1, e2, ⟨u, hp, hb, hF⟩, hce, hcv, hcl, st⟩
  · cases hv
    obtain ⟨k1, k2, k3⟩ := vx_keep h0 e1 hS hA hf hL hF
    obtain ⟨t2, a1, b1⟩ := kk r u t T'.heap (locs ++ L) e1.symm (by rw [← e2]; exact X'.warmed.alike) hp hb k1 k2 k3 T' rfl X'
    exact ⟨t2, st t2 a1, b1⟩
  · obtain ⟨k1, k2, k3⟩ := vx_keep h0 e1 hS hAX hf hL hF
    obtain ⟨t2, a1, b1⟩ := kx E ce q u t T'.heap (locs ++ L) e1.symm (by rw [← e2]; exact X'.warmed.alike) hp hb k1 k2 k3 (by rw [e1]; exact hce) hcv hcl T' rfl X'
    exact ⟨t2, st.trans a1, b1⟩
theorem vx_callv {S SX : Type} {post : S → Prop} {px : SX → Prop} {B : S → State → Prop} {BX : String → SX → State → Prop} {AX : Nat → Prop} (hr : vx_Run p l e R s m args below meth c H locs cells slots mc ms (F0 m pc ls st0) rest (va_Qv post B A1 a) (vx_X px BX AX) free) (hS : va_S A0 H0 H locs) (hA : ∀ q, q < H.size → A1 q → A0 q) (hf : ∀ q, free q → A0 q) (hAX : ∀ q, q < H.size → AX q → A0 q)
    (kx : ∀ (E : String) (ce : Cell) (q9 : Addr) (u : SX) (t : State) (H1 : Heap) (locs1 : List Loc), t.heap = H1 → s.vm.Alike t.vm → px u → BX E u t → H.size ≤ H1.size → (∀ q : Nat, q < H.size → ¬ AX q → H1[q]? = H[q]?) → va_S A0 H0 H1 locs1 → H1[q9]? = some ce → ce.vm = .none → s.vm.findClass E = some ce.cls → vx_W p l e R s m args below meth c H1 locs1 (cells + mc) (slots + ms) Q (F0 m pc ls rest) q9)
    (kk : ∀ (u : S) (t : State) (H1 : Heap) (locs1 : List Loc), t.heap = H1 → s.vm.Alike t.vm → post u → B u t → H.size ≤ H1.size → (∀ q : Nat, q < H.size → ¬ A1 q → H1[q]? = H[q]?) → va_S A0 H0 H1 locs1 → W p l e R s m args below meth c H1 locs1 (cells + mc) (slots + ms) Q (F0 m (pc + 3) ls (rest))) : W p l e R s m args below meth c H locs cells slots Q (F0 m pc ls st0) := by
  intro T hT X
  rcases hr T hT X with ⟨v, st₀, t, T', L, h0, X', hL, e1, e2, ⟨⟨u, hv, hp, hb⟩, hF⟩, st⟩ | ⟨q, st₀, t, T', L, E, ce, h0, X', hL, e1, e2, ⟨u, hp, hb, hF⟩, hce, hcv, hcl, st⟩
  · cases hv
    obtain ⟨k1, k2, k3⟩ := vx_keep h0 e1 hS hA hf hL hF
    obtain ⟨t2, a1, b1⟩ := kk u t T'.heap (locs ++ L) e1.symm (by rw [← e2]; exact X'.warmed.alike) hp hb k1 k2 k3 T' rfl X'
    exact ⟨t2, st t2 a1, b1⟩
  · obtain ⟨k1, k2, k3⟩ := vx_keep h0 e1 hS hAX hf hL hF
    obtain ⟨t2, a1, b1⟩ := kx E ce q u t T'.heap (locs ++ L) e1.symm (by rw [← e2]; exact X'.warmed.alike) hp hb k1 k2 k3 (by rw [e1]; exact hce) hcv hcl T' rfl X'
    exact ⟨t2, st.trans a1, b1⟩
/-- caught by the row x of this method's table; the rows ahead don't take it -/
theorem vx_catch {own name : String} {E : String} {ce : Cell} {q : Addr} (hown : s.vm.findClass own = some m.cls) (pre : List ExceptionTableEntry) (x : ExceptionTableEntry) (suf : List ExceptionTableEntry) (hsplit : c.exceptionTable.toList = pre ++ x :: suf)
    (hpass : ∀ z ∈ pre, covers z pc = false ∨ (z.catchType ≠ 0 ∧ ∃ nm : String, (Cond.classLink own z.catchType nm).before args s = true ∧ va_Nc E nm s)) (hx : covers x pc = true) (h0 : x.catchType ≠ 0)
    (hlink : (Cond.classLink own x.catchType name).before args s = true) (hcast : (Cond.castable E name).before args s = true) (hcell : H[q]? = some ce) (hv : ce.vm = .none) (hcl : s.vm.findClass E = some ce.cls)
    (kk : W p l e R s m args below meth c H locs cells slots Q (F0 m x.handlerPc ls [.ref q])) : vx_W p l e R s m args below meth c H locs cells slots Q (F0 m pc ls rest) q := by
  intro T hT X
  have hpl : e.platform.magicAccessors = ({} : Platform).magicAccessors := by rw [X.admits.platform]
  obtain ⟨c3, c4, hc3, hc4, hasg⟩ := Cond.castable_spec hcast
  cases Option.some.inj (hc3.symm.trans hcl)
  obtain ⟨c5, hc5, hcl5⟩ := Cond.classLink_spec hown hlink e.platform hpl
  cases Option.some.inj (hc4.symm.trans hc5)
  obtain ⟨vm', X', st⟩ := X.thenCaughtThrough q (g := F0 m pc ls rest) rfl (Steps.refl _) (by rw [hT]; exact hcell) (by rw [hv]; rfl) (by obtain ⟨k9, h9, -⟩ := Vm.findClass_spec hcl; exact ⟨k9, h9⟩) pre x suf hsplit
    (fun z hz => by
      rcases hpass z hz with h | ⟨hz0, nm, hl1, hn1⟩
      · exact Or.inl h
      · obtain ⟨c6, hc6, hcl6⟩ := Cond.classLink_spec hown hl1 e.platform hpl
        obtain ⟨a8, b8, h1, h2, h3⟩ := hn1
        cases Option.some.inj (h1.symm.trans hcl)
        cases Option.some.inj (h2.symm.trans hc6)
        exact Or.inr ⟨hz0, _, hcl6, h3⟩) hx (Or.inr ⟨h0, c4, hcl5, hasg⟩)
  obtain ⟨t, a1, b1⟩ := kk (T.setVm vm') hT X'
  exact ⟨t, st.trans a1, b1⟩
end Rows
section Ends
variable {p : Program} {l : Launch} {e : Env} {R : Room} {s : State} {m : MethodId} {args : Array Value} {below : List Frame} {meth : Method} {c : Code} {H : Heap} {locs : List Loc} {cells slots : Nat} {Q : State → Prop}
variable {mc ms : Nat} {free : Addr → Prop} {A0 A1 : Nat → Prop} {H0 : Heap} {a : Array Value} {ls : Array Slot} {st0 rest : List Value}
variable {Qc : Array Value → State → Outcome → State → Prop} {XC : String → State → State → Prop}
/-- what a body that may throw owes at its end -/
def vx_MQ (below : List Frame) (Qc : Array Value → State → Outcome → State → Prop) (XC : String → State → State → Prop) (a : Array Value) (s : State) (mc ms : Nat) (free : Addr → Prop) : State → Prop := fun t =>
  ∃ o, t.status = .running ∧ Ended t below o ∧ vx_Q Qc XC mc ms free a s o t
theorem vx_ret {g : JFrame} {mc ms : Nat} (k : W p l e R s m args below meth c H locs cells slots (MQ below Qc args s mc ms free) g) : W p l e R s m args below meth c H locs cells slots (vx_MQ below Qc XC args s mc ms free) g := by
  intro T hT X
  obtain ⟨t, a1, o, b1, b2, b3, b4⟩ := k T hT X
  exact ⟨t, a1, o, b1, b2, Or.inl ⟨b3, b4⟩⟩
/-- not caught here: it goes on to the caller -/
theorem vx_widen {g : JFrame} {q : Addr} {k n : Nat} (h1 : cells ≤ k) (h2 : slots ≤ n) (kk : vx_W p l e R s m args below meth c H locs k n Q g q) : vx_W p l e R s m args below meth c H locs cells slots Q g q := fun T hT X => kk T hT (stand_widen X h1 h2)
theorem vx_out {pc : Nat} {E : String} {ce : Cell} {q : Addr} {mc ms : Nat} (hout : ∀ x ∈ c.exceptionTable.toList, covers x pc = false) (hlocks : meth.locks = false) (hcell : H[q]? = some ce) (hv : ce.vm = .none) (hcl : s.vm.findClass E = some ce.cls)
    (hx : ∀ t : State, t.heap = H → s.vm.Alike t.vm → XC E s t) (hf : ∀ z ∈ locs, free z.base) (hc : cells ≤ mc) (hs : slots ≤ ms) :
    vx_W p l e R s m args below meth c H locs cells slots (vx_MQ below Qc XC args s mc ms free) (F0 m pc ls rest) q := by
  intro T hT X
  obtain ⟨st1, hrun, hend, hW, hsm⟩ := X.leaveThrown q (g := F0 m pc ls rest) rfl rfl rfl hout hlocks
  have hcell9 : (T.setFrames (.throwing q :: below)).heap[q]? = some ce := by
    show T.heap[q]? = some ce
    rw [hT]; exact hcell
  exact ⟨_, st1, .threw q, hrun, hend, Or.inr ⟨q, rfl, E, ce, locs, hx _ hT hW.alike, hcell9, hv, hcl, hW, hsm.mono hc hs, hf⟩⟩
theorem vx_frame {U : State} {k n : Nat} (h : s.sameButNew ({ U with vm := s.vm } : State) locs k n) : s.heap.size ≤ U.heap.size ∧ ∀ q : Nat, q < s.heap.size → (∀ z ∈ locs, z.base ≠ q) → U.heap[q]? = s.heap[q]? := by
  obtain ⟨-, h2, -, -, -, h6⟩ := h
  refine ⟨h2, fun q hq hz => ?_⟩
  obtain ⟨c9, e1, e2, e3, e4⟩ := h6 q _ (Array.getElem?_eq_getElem hq)
  have hs : c9.slots = (s.heap[q]).slots := Array.ext_getElem? fun i => e4 i fun hm => hz _ hm rfl
  have h9 : c9 = s.heap[q] := by
    rw [hs] at e2
    exact e2
  have e5 : U.heap[q]? = some c9 := e1
  rw [e5, h9, Array.getElem?_eq_getElem hq]
/-- the words of a throw but the four that speak of the heap -/
def vx_no (w : Cond) : Bool := decide (w ≠ .isRef (.static Bundle.tN "UNASSIGNED_STACK" Bundle.steD)) && decide (w ≠ .isRef (.static Bundle.tN "SUPPRESSED_SENTINEL" Bundle.listD)) && decide (w ≠ .laysStatic Bundle.tN "UNASSIGNED_STACK" Bundle.steD) && decide (w ≠ .laysStatic Bundle.tN "SUPPRESSED_SENTINEL" Bundle.listD)
def vx_at0 (own : String) (ic : Nat) (X : String) (names : List String) : List Cond := (Bundle.ownAtoms0 own ic X names).filter vx_no
def vx_atS (own : String) (ic : Nat) (X : String) (names : List String) : List Cond := (Bundle.ownAtoms own ic X names).filter vx_no
/-- a word that the tables alone decide, or a good one -/
def vx_ot (w : Cond) : Bool := w.onTables || goodWord w
theorem vx_ot_at {args a' : Array Value} {s U : State} {w : Cond} (hW : s.WarmedH U.vm) (hvm : s.vm = U.vm) (hg : vx_ot w = true) (h : w.before args s = true) : w.before a' U = true := by
  simp only [vx_ot, Bool.or_eq_true] at hg
  rcases hg with hg | hg
  · exact va_tabs hg hvm h
  · exact word_at hW (good_of_word hg) h
/-- a list's words: the good ones out of the method's own list, the others by premises of their own -/
theorem vx_hat {args : Array Value} {s : State} {L B : List Cond} (h1 : ∀ w ∈ L.filter goodWord, w.before args s = true) (h2 : ∀ w ∈ L.filter (fun w => !goodWord w), w ∈ B) (h3 : ∀ w ∈ B, w.before args s = true) : ∀ w ∈ L, w.before args s = true := by
  intro w hw
  by_cases g : goodWord w = true
  · exact h1 w (List.mem_filter.mpr ⟨hw, g⟩)
  · refine h3 w (h2 w (List.mem_filter.mpr ⟨hw, ?_⟩))
    show (!goodWord w) = true
    cases hgw : goodWord w
    · rfl
    · exact absurd hgw g
theorem vx_c {args : Array Value} {s : State} {w : Cond} {B : List Cond} (h : w.before args s = true) (t : ∀ w ∈ B, w.before args s = true) : ∀ w' ∈ w :: B, w'.before args s = true := fun w' h' => (List.mem_cons.mp h').elim (fun e => by rw [e]; exact h) (t w')
theorem vx_n {args : Array Value} {s : State} : ∀ w ∈ ([] : List Cond), w.before args s = true := fun _ h => nomatch h
theorem vx_own {args : Array Value} {s : State} {L : List Cond} (h1 : ∀ w ∈ L.filter vx_no, w.before args s = true)
    (hU : (Cond.isRef (.static Bundle.tN "UNASSIGNED_STACK" Bundle.steD)).before args s = true) (hN : (Cond.isRef (.static Bundle.tN "SUPPRESSED_SENTINEL" Bundle.listD)).before args s = true)
    (lU : (Cond.laysStatic Bundle.tN "UNASSIGNED_STACK" Bundle.steD).before args s = true) (lN : (Cond.laysStatic Bundle.tN "SUPPRESSED_SENTINEL" Bundle.listD).before args s = true) : ∀ w ∈ L, w.before args s = true := by
  intro w hw
  by_cases e1 : w = .isRef (.static Bundle.tN "UNASSIGNED_STACK" Bundle.steD)
  · rw [e1]; exact hU
  · by_cases e2 : w = .isRef (.static Bundle.tN "SUPPRESSED_SENTINEL" Bundle.listD)
    · rw [e2]; exact hN
    · by_cases e3 : w = .laysStatic Bundle.tN "UNASSIGNED_STACK" Bundle.steD
      · rw [e3]; exact lU
      · by_cases e4 : w = .laysStatic Bundle.tN "SUPPRESSED_SENTINEL" Bundle.listD
        · rw [e4]; exact lN
        · exact h1 w (List.mem_filter.mpr ⟨hw, by unfold vx_no; rw [decide_eq_true e1, decide_eq_true e2, decide_eq_true e3, decide_eq_true e4]; rfl⟩)
/-- where a static field lies, its class's statics cell in H -/
def vx_L (C n d : String) (A : Nat → Prop) (U : State) (H : Heap) : Prop := ∃ (c : ClassId) (k : Class) (i : Nat) (f : Field) (a : Nat) (cell : Cell), U.vm.findClass C = some c ∧ U.fieldFound? C n d = some (c, k, i, f) ∧ f.isStatic = true ∧ k.statics = some a ∧ H[a]? = some cell ∧ cell.vm.isStatics = true ∧ cell.cls = c ∧ f.slot < cell.slots.size ∧ k.staticTypes[f.slot]? = some f.type ∧ ¬ A a
theorem vx_L.moved {C n d : String} {A : Nat → Prop} {u U : State} {H : Heap} (hvm : u.vm.Alike U.vm) (h : vx_L C n d A u H) : vx_L C n d A U H := by
  obtain ⟨c, k, i, f, a, cell, h1, h2, h3, h4, h5, h6, h7, h8, h9, h10⟩ := h
  obtain ⟨k', hi', he⟩ := State.fieldFound?_setVm hvm h2
  exact ⟨c, k', i, f, a, cell, by rw [hvm.findClass]; exact h1, hi', h3, by rw [he]; exact h4, h5, h6, h7, h8, by rw [he]; exact h9, h10⟩
theorem vx_L.kept {C n d : String} {A : Nat → Prop} {U : State} {H H1 : Heap} (h : vx_L C n d A U H) (hq : ∀ a : Nat, a < H.size → ¬ A a → H1[a]? = H[a]?) : vx_L C n d A U H1 := by
  obtain ⟨c, k, i, f, a, cell, h1, h2, h3, h4, h5, h6, h7, h8, h9, h10⟩ := h
  exact ⟨c, k, i, f, a, cell, h1, h2, h3, h4, by rw [hq a (Array.getElem?_eq_some_iff.mp h5).1 h10]; exact h5, h6, h7, h8, h9, h10⟩
theorem vx_L.narrow {C n d : String} {A B : Nat → Prop} {U : State} {H : Heap} (h : vx_L C n d A U H) (hAB : ∀ q, B q → A q) : vx_L C n d B U H := by
  obtain ⟨c, k, i, f, a, cell, h1, h2, h3, h4, h5, h6, h7, h8, h9, h10⟩ := h
  exact ⟨c, k, i, f, a, cell, h1, h2, h3, h4, h5, h6, h7, h8, h9, fun z => h10 (hAB _ z)⟩
theorem vx_L.word {C n d : String} {A : Nat → Prop} {s : State} {args : Array Value} (h : vx_L C n d A s s.heap) : (Cond.laysStatic C n d).before args s = true := by
  obtain ⟨c, k, i, f, a, cell, h1, h2, h3, h4, h5, h6, h7, h8, h9, -⟩ := h
  show (Cond.laysStatic C n d).holds args s none s [] = true
  exact Cond.laysStatic_of h1 h2 h3 h4 h5 h6 h7 h8 h9
/-- .. and what it holds: null or some reference -/
def vx_Zq (C n d : String) (A : Nat → Prop) (U : State) (H : Heap) : Prop := va_Zq C n d A U H ∧ vx_L C n d A U H
theorem vx_Zq.moved {C n d : String} {A : Nat → Prop} {u U : State} {H : Heap} (hvm : u.vm.Alike U.vm) (h : vx_Zq C n d A u H) : vx_Zq C n d A U H := ⟨va_Zq.moved hvm h.1, vx_L.moved hvm h.2⟩
theorem vx_Zq.kept {C n d : String} {A : Nat → Prop} {U : State} {H H1 : Heap} (h : vx_Zq C n d A U H) (hq : ∀ a : Nat, a < H.size → ¬ A a → H1[a]? = H[a]?) : vx_Zq C n d A U H1 := ⟨va_Zq.kept h.1 hq, vx_L.kept h.2 hq⟩
theorem vx_Zq.narrow {C n d : String} {A B : Nat → Prop} {U : State} {H : Heap} (h : vx_Zq C n d A U H) (hAB : ∀ q, B q → A q) : vx_Zq C n d B U H := ⟨va_Zq.narrow h.1 hAB, vx_L.narrow h.2 hAB⟩
theorem vx_Zqof {args : Array Value} {s : State} {C n d : String} {A : Nat → Prop} (hl : (Cond.laysStatic C n d).before args s = true) (hini : (Cond.initialized C).before args s = true) (h : (Cond.isRef (.static C n d)).before args s = true) (hA : ∀ a : Nat, a < s.heap.size → ¬ A a) : vx_Zq C n d A s s.heap := by
  refine ⟨va_Zqof hl hini h hA, ?_⟩
  obtain ⟨c, k, i, f, a, cell, h1, h2, h3, h4, h5, h6, h7, h8, h9⟩ := Cond.laysStatic_spec hl
  exact ⟨c, k, i, f, a, cell, h1, h2, h3, h4, h5, h6, h7, h8, h9, hA a (Array.getElem?_eq_some_iff.mp h5).1⟩
theorem vx_isRef {C n d : String} {v : Value} {A : Nat → Prop} {s : State} {args : Array Value} (h : va_Z C n d v A s s.heap) (hv : v.isRef = true) : (Cond.isRef (.static C n d)).before args s = true := by
  obtain ⟨cf, kf, fi, f, a, cell, h1, h2, h3, h4, h5, h6, h7, -⟩ := h
  have he : (Term.static C n d).eval args s none [] s = some v := by
    simp [Term.eval, State.fieldNamed?, h1, h2, h4, h5, h6, h7]
  simp only [Cond.before, Cond.holds, Cond.value, he]
  cases v <;> simp_all [Value.isRef]
theorem vx_isRefq {C n d : String} {A : Nat → Prop} {s : State} {args : Array Value} (h : va_Zq C n d A s s.heap) : (Cond.isRef (.static C n d)).before args s = true := by
  rcases h with h | ⟨t, h⟩
  · exact vx_isRef h rfl
  · exact vx_isRef h rfl
/-- the same frame, seen from here: as if the method were called anew in this heap -/
theorem vx_rebase {T : State} (X : Stand p l e R s m args below meth c T locs cells slots) {R' : Room} (hf : R'.frames ≤ R.frames) (hl : R'.locals ≤ R.locals) (hc : cells + R'.cells ≤ R.cells) (hs : slots + R'.slots ≤ R.slots) :
    Stand p l e R' ((T.setVm s.vm).setFrames (.invoking m args :: below)) m args below meth c T [] 0 0 := by
  have htop : (T.setVm s.vm).topJava?.isSome := X.here.top
  have hF : ((T.setVm s.vm).setFrames (.invoking m args :: below)).frames = .invoking m args :: below := State.frames_setFrames _ (State.cur_lt_of_top htop)
  obtain ⟨g₀, hg0⟩ := Option.isSome_iff_exists.mp htop
  obtain ⟨r, hr⟩ := State.topJava?_eq_some.mp hg0
  have hl9 : e.platform.stackLimits (T.setVm s.vm).me = e.platform.stackLimits s.me := X.limits
  have hb9 : (T.setVm s.vm).me.stackBytes = s.me.stackBytes := X.bytes
  refine ⟨X.admits, X.cas, X.clock, hF, ?_, X.hears, X.method, X.code, X.here, X.tail, X.warmed, ?_, ?_, ?_⟩
  · have h := X.room
    have hU : ((T.setVm s.vm).setFrames (.invoking m args :: below)).localsInUse = s.localsInUse := by
      rw [State.localsInUse_invoking hF (meth := meth) (c := c) X.method X.code, State.localsInUse_invoking X.frames X.method X.code]
    simp only [State.hasRoom, Bool.and_eq_true, decide_eq_true_eq] at h ⊢
    obtain ⟨⟨⟨⟨h1, h2, h3, h4, h5, h6⟩, h7⟩, h8⟩, h9⟩ := h
    rw [X.frames, List.length_cons] at h2 h3
    have q1 := X.heapSize
    have q2 := X.used
    simp only [hF, hU, List.length_cons, State.stackLimits_setFrames, State.stackBytes_setFrames, hl9, hb9]
    refine ⟨⟨⟨⟨by omega, by omega, by omega, by omega, by omega, h6⟩, ?_⟩, ?_⟩, X.book⟩
    · show T.heap.size + R'.cells ≤ e.platform.maxCells
      omega
    · show T.slotsUsed + R'.slots ≤ e.platform.maxSlots
      omega
  · rw [State.stackLimits_setFrames]; rfl
  · rw [State.stackBytes_setFrames]; rfl
  · refine ⟨?_, Nat.le_refl _, Nat.le_refl _, ?_, ?_, fun a c9 h9 => ⟨c9, h9, rfl, rfl, fun _ _ => rfl⟩⟩
    · obtain ⟨t, ht, -⟩ := State.frames_cons hr
      show T.setVm s.vm = { ((T.setVm s.vm).setFrames (.invoking m args :: below)).setFrames (T.setVm s.vm).frames with heap := T.heap, slotsUsed := T.slotsUsed }
      rw [State.setFrames_setFrames, State.setFrames_self ht]
      rfl
    · show T.slotsUsed = T.slotsUsed + ((T.heap.toList.drop T.heap.size).map (·.slots.size)).sum
      rw [List.drop_eq_nil_of_le (Nat.le_of_eq Array.length_toList)]
      rfl
    · show ((T.heap.toList.drop T.heap.size).map (·.slots.size)).sum ≤ 0
      rw [List.drop_eq_nil_of_le (Nat.le_of_eq Array.length_toList)]
      exact Nat.le_refl _
/-- 'throw new E()': new; dup; invokespecial; athrow -/
theorem vx_throw0 {cc : ByteArray} {pc : Nat} (hexec : p.tables.exec = Jvm.exec) (hb : c.code = cc) (hl : l.stackTraces = false) {own cls : String} {names : List String} {ik ic mc ms : Nat} {A : Nat → Prop}
    (hown : s.vm.findClass own = some m.cls) (hcls : Bundle.fit cls = true) (hnames : ∀ n ∈ names, Bundle.fit n = true)
    (hk : (Cond.classLink own ik cls).before args s = true) (hini : (Cond.initialized cls).before args s = true) (hat : ∀ w ∈ vx_at0 own ic cls names, w.before args s = true)
    (hgood : ∀ w ∈ Cond.classLink own ik cls :: Cond.initialized cls :: vx_at0 own ic cls names, vx_ot w = true)
    (hU : vx_Zq Bundle.tN "UNASSIGNED_STACK" Bundle.steD A s s.heap) (hN : vx_Zq Bundle.tN "SUPPRESSED_SENTINEL" Bundle.listD A s s.heap) (hS : va_S A s.heap H locs) (hsize : ls.size = c.maxLocals)
    (d0 : decode cc pc = .ok (.new ik, 3)) (d3 : decode cc (pc + 3) = .ok (.dup, 1)) (d4 : decode cc (pc + 4) = .ok (.invokespecial ic, 3)) (d7 : decode cc (pc + 7) = .ok (.athrow, 1))
    (hout : ∀ x ∈ c.exceptionTable.toList, covers x (pc + 7) = false)
    (hRframes : names.length + 3 < R.frames) (hRlocals : (rest.map fun v => v.category).sum + (13 * (names.length + 1) + 42) ≤ R.locals) (hRcells : cells + 1 ≤ R.cells) (hRslots : slots + 6 ≤ R.slots) (hlocks : meth.locks = false)
    (hx : ∀ t : State, s.vm.Alike t.vm → H.size ≤ t.heap.size → (∀ q : Nat, q < H.size → t.heap[q]? = H[q]?) → XC cls s t)
    (hf : ∀ z ∈ locs, free z.base) (hc : cells + 1 ≤ mc) (hs : slots + 6 ≤ ms) :
    W p l e R s m args below meth c H locs cells slots (vx_MQ below Qc XC args s mc ms free) (F0 m pc ls rest) := by
  intro T hT X
  have htr : e.platform.stackTraces = false := (show e.platform.stackTraces = l.stackTraces by rw [X.admits.platform]).trans hl
  have Y := vx_rebase X (R' := { frames := R.frames, locals := R.locals, cells := 1, slots := 6 }) (Nat.le_refl _) (Nat.le_refl _) hRcells hRslots
  obtain ⟨s', hA⟩ : ∃ z, z = (T.setVm s.vm).setFrames (.invoking m args :: below) := ⟨_, rfl⟩
  rw [← hA] at Y
  have hvm : s'.vm = s.vm := by rw [hA]; rfl
  have hhp : s'.heap = H := by rw [hA]; exact hT
  have hW0 : s.WarmedH s'.vm := by rw [hvm]; exact State.WarmedH.refl s
  have hat' : ∀ w ∈ vx_at0 own ic cls names, w.before args s' = true := fun w hw => vx_ot_at hW0 hvm.symm (hgood w (List.mem_cons_of_mem _ (List.mem_cons_of_mem _ hw))) (hat w hw)
  have hk' : (Cond.classLink own ik cls).before args s' = true := vx_ot_at hW0 hvm.symm (hgood _ List.mem_cons_self) hk
  have hini' : (Cond.initialized cls).before args s' = true := vx_ot_at hW0 hvm.symm (hgood _ (List.mem_cons_of_mem _ List.mem_cons_self)) hini
  have hU' : vx_Zq Bundle.tN "UNASSIGNED_STACK" Bundle.steD A s' s'.heap := by rw [hhp]; exact vx_Zq.moved hW0.alike (hU.kept hS.2.1)
  have hN' : vx_Zq Bundle.tN "SUPPRESSED_SENTINEL" Bundle.listD A s' s'.heap := by rw [hhp]; exact vx_Zq.moved hW0.alike (hN.kept hS.2.1)
  have h : ∀ w ∈ Bundle.ownAtoms0 own ic cls names, w.before args s' = true := vx_own hat' (vx_isRefq hU'.1) (vx_isRefq hN'.1) hU'.2.word hN'.2.word
  have hown' : s'.vm.findClass own = some m.cls := by rw [hvm]; exact hown
  have hins : (Cond.instantiable cls 6).before args s' = true := h _ (by simp [Bundle.ownAtoms0])
  obtain ⟨vm₁, cX, kX, hfX, hkX, -, -, X₁, st1⟩ := Y.newCold hexec (own := own) (C := cls) (index := ik) (n := 6) hown' hk' hins hini'
    (g := F0 m pc ls rest) rfl (by rw [hb]; exact d0) (Nat.le_refl _) (Nat.le_refl _)
  generalize hT1 : (T.setVm vm₁).pushCell { cls := cX, slots := kX.instanceTypes.map defaultValue, vm := .none } = T1 at X₁ st1
  have hcat : (Value.ref T.heap.size).category = 1 := rfl
  have hcellA : T1.heap[T.heap.size]? = some (freshCell cX kX) := by rw [← hT1]; exact State.heap_pushCell_size _ _
  have d3' : decode c.code (pc + 3) = .ok (.dup, 1) := by rw [hb]; exact d3
  obtain ⟨U, hsteps, hrun, hend, hW, hsame, ce, hce, hO⟩ := X₁.ctorThrow0 hexec htr (own := own) (cls := cls) (names := names) (ic := ic) hown' hcls hnames h (fun x hx => nomatch hx) hfX hkX hcellA (by rw [hhp, hT]; exact Nat.le_refl _)
    (g := { method := m, pc := pc + 4, locals := ls, stack := .ref T.heap.size :: .ref T.heap.size :: rest, locked := none }) rfl hsize rfl rfl (rest := rest) rfl
    (by rw [hb]; exact d4) (by rw [hb]; exact d7) hout hRframes (by simp only [List.map_cons, List.sum_cons, hcat]; omega) hlocks
  obtain ⟨f1, f2⟩ := vx_frame hsame
  rw [hhp] at f1 f2
  have hWs : s.WarmedH U.vm := State.WarmedH.trans hW0 hW
  have hcl : s.vm.findClass cls = some ce.cls := by
    have h9 := hO.cls
    rw [hvm] at h9
    exact h9
  have hall : s.sameButNew ({ U with vm := s.vm } : State) locs mc ms := by
    subst hA
    obtain ⟨e1, e2⟩ := hsame
    rw [State.setFrames_setFrames] at e1
    have h2 : (T.setVm s.vm).sameButNew ({ U with vm := s.vm } : State) [] (0 + 1) (0 + 6) := ⟨e1, e2⟩
    have h3 := X.same.trans h2
    rw [List.append_nil] at h3
    exact h3.mono hc hs
  refine ⟨U, ?_, .threw T.heap.size, hrun, hend, Or.inr ⟨T.heap.size, rfl, cls, ce, locs, hx U hWs.alike f1 (fun q hq => f2 q hq (fun z hz => nomatch hz)), hce, hO.vm, hcl, hWs, hall, hf⟩⟩
  refine st1 _ ?_
  show Steps p.tables e below (T1.setTop { method := m, pc := pc + 3, locals := ls, stack := .ref T.heap.size :: rest, locked := none }) _
  jvm_step X₁.here [X₁.here.top, hexec, d3', Value.category]
  exact hsteps
/-- 'throw new E("text")': new; dup; ldc; invokespecial; athrow -/
theorem vx_throwS {cc : ByteArray} {pc : Nat} (hexec : p.tables.exec = Jvm.exec) (hb : c.code = cc) (hl : l.stackTraces = false) {own cls text : String} {names : List String} {ik is ic mc ms sa : Nat} {A : Nat → Prop}
    (hown : s.vm.findClass own = some m.cls) (hcls : Bundle.fit cls = true) (hnames : ∀ n ∈ names, Bundle.fit n = true)
    (hk : (Cond.classLink own ik cls).before args s = true) (hini : (Cond.initialized cls).before args s = true) (hstr : vk_R own is text sa s) (hat : ∀ w ∈ vx_atS own ic cls names, w.before args s = true)
    (hgood : ∀ w ∈ Cond.classLink own ik cls :: Cond.initialized cls :: vx_atS own ic cls names, vx_ot w = true)
    (hU : vx_Zq Bundle.tN "UNASSIGNED_STACK" Bundle.steD A s s.heap) (hN : vx_Zq Bundle.tN "SUPPRESSED_SENTINEL" Bundle.listD A s s.heap) (hS : va_S A s.heap H locs) (hsize : ls.size = c.maxLocals)
    (d0 : decode cc pc = .ok (.new ik, 3)) (d3 : decode cc (pc + 3) = .ok (.dup, 1)) (d4 : decode cc (pc + 4) = .ok (.ldc is, 2)) (d6 : decode cc (pc + 6) = .ok (.invokespecial ic, 3)) (d9 : decode cc (pc + 9) = .ok (.athrow, 1))
    (hout : ∀ x ∈ c.exceptionTable.toList, covers x (pc + 9) = false)
    (hRframes : names.length + 3 < R.frames) (hRlocals : (rest.map fun v => v.category).sum + (13 * (names.length + 1) + 43) ≤ R.locals) (hRcells : cells + 1 ≤ R.cells) (hRslots : slots + 6 ≤ R.slots) (hlocks : meth.locks = false)
    (hx : ∀ t : State, s.vm.Alike t.vm → H.size ≤ t.heap.size → (∀ q : Nat, q < H.size → t.heap[q]? = H[q]?) → XC cls s t)
    (hf : ∀ z ∈ locs, free z.base) (hc : cells + 1 ≤ mc) (hs : slots + 6 ≤ ms) :
    W p l e R s m args below meth c H locs cells slots (vx_MQ below Qc XC args s mc ms free) (F0 m pc ls rest) := by
  intro T hT X
  have htr : e.platform.stackTraces = false := (show e.platform.stackTraces = l.stackTraces by rw [X.admits.platform]).trans hl
  have Y := vx_rebase X (R' := { frames := R.frames, locals := R.locals, cells := 1, slots := 6 }) (Nat.le_refl _) (Nat.le_refl _) hRcells hRslots
  obtain ⟨s', hA⟩ : ∃ z, z = (T.setVm s.vm).setFrames (.invoking m args :: below) := ⟨_, rfl⟩
  rw [← hA] at Y
  have hvm : s'.vm = s.vm := by rw [hA]; rfl
  have hhp : s'.heap = H := by rw [hA]; exact hT
  have hW0 : s.WarmedH s'.vm := by rw [hvm]; exact State.WarmedH.refl s
  have hat' : ∀ w ∈ vx_atS own ic cls names, w.before args s' = true := fun w hw => vx_ot_at hW0 hvm.symm (hgood w (List.mem_cons_of_mem _ (List.mem_cons_of_mem _ hw))) (hat w hw)
  have hk' : (Cond.classLink own ik cls).before args s' = true := vx_ot_at hW0 hvm.symm (hgood _ List.mem_cons_self) hk
  have hini' : (Cond.initialized cls).before args s' = true := vx_ot_at hW0 hvm.symm (hgood _ (List.mem_cons_of_mem _ List.mem_cons_self)) hini
  have hU' : vx_Zq Bundle.tN "UNASSIGNED_STACK" Bundle.steD A s' s'.heap := by rw [hhp]; exact vx_Zq.moved hW0.alike (hU.kept hS.2.1)
  have hN' : vx_Zq Bundle.tN "SUPPRESSED_SENTINEL" Bundle.listD A s' s'.heap := by rw [hhp]; exact vx_Zq.moved hW0.alike (hN.kept hS.2.1)
  have h : ∀ w ∈ Bundle.ownAtoms own ic cls names, w.before args s' = true := vx_own hat' (vx_isRefq hU'.1) (vx_isRefq hN'.1) hU'.2.word hN'.2.word
  have hown' : s'.vm.findClass own = some m.cls := by rw [hvm]; exact hown
  have hins : (Cond.instantiable cls 6).before args s' = true := h _ (by simp [Bundle.ownAtoms])
  obtain ⟨vm₁, cX, kX, hfX, hkX, -, -, X₁, st1⟩ := Y.newCold hexec (own := own) (C := cls) (index := ik) (n := 6) hown' hk' hins hini'
    (g := F0 m pc ls rest) rfl (by rw [hb]; exact d0) (Nat.le_refl _) (Nat.le_refl _)
  generalize hT1 : (T.setVm vm₁).pushCell { cls := cX, slots := kX.instanceTypes.map defaultValue, vm := .none } = T1 at X₁ st1
  have hcat : (Value.ref T.heap.size).category = 1 := rfl
  have hcellA : T1.heap[T.heap.size]? = some (freshCell cX kX) := by rw [← hT1]; exact State.heap_pushCell_size _ _
  have d3' : decode c.code (pc + 3) = .ok (.dup, 1) := by rw [hb]; exact d3
  have d4' : decode c.code (pc + 4) = .ok (.ldc is, 2) := by rw [hb]; exact d4
  have hstr' : vk_R own is text sa s' := vk_R.warm hW0 hstr
  obtain ⟨U, hsteps, hrun, hend, hW, hsame, ce, hce, hO⟩ := X₁.ctorThrowS hexec htr (own := own) (cls := cls) (names := names) (ic := ic) hown' hcls hnames h (fun x hx => nomatch hx) hfX hkX hcellA (by rw [hhp, hT]; exact Nat.le_refl _) (msg := .ref sa) rfl
    (g := { method := m, pc := pc + 6, locals := ls, stack := .ref sa :: .ref T.heap.size :: .ref T.heap.size :: rest, locked := none }) rfl hsize rfl rfl (rest := rest) rfl
    (by rw [hb]; exact d6) (by rw [hb]; exact d9) hout hRframes (by simp only [List.map_cons, List.sum_cons, hcat]; omega) hlocks
  obtain ⟨f1, f2⟩ := vx_frame hsame
  rw [hhp] at f1 f2
  have hWs : s.WarmedH U.vm := State.WarmedH.trans hW0 hW
  have hcl : s.vm.findClass cls = some ce.cls := by
    have h9 := hO.cls
    rw [hvm] at h9
    exact h9
  have hall : s.sameButNew ({ U with vm := s.vm } : State) locs mc ms := by
    subst hA
    obtain ⟨e1, e2⟩ := hsame
    rw [State.setFrames_setFrames] at e1
    have h2 : (T.setVm s.vm).sameButNew ({ U with vm := s.vm } : State) [] (0 + 1) (0 + 6) := ⟨e1, e2⟩
    have h3 := X.same.trans h2
    rw [List.append_nil] at h3
    exact h3.mono hc hs
  refine ⟨U, ?_, .threw T.heap.size, hrun, hend, Or.inr ⟨T.heap.size, rfl, cls, ce, locs, hx U hWs.alike f1 (fun q hq => f2 q hq (fun z hz => nomatch hz)), hce, hO.vm, hcl, hWs, hall, hf⟩⟩
  refine st1 _ ?_
  show Steps p.tables e below (T1.setTop { method := m, pc := pc + 3, locals := ls, stack := .ref T.heap.size :: rest, locked := none }) _
  jvm_step X₁.here [X₁.here.top, hexec, d3', Value.category]
  exact X₁.ldcString hexec (own := own) (text := text) (index := is) (a := sa) hown' hstr'.1 hstr'.2
    (g := { method := m, pc := pc + 4, locals := ls, stack := .ref T.heap.size :: .ref T.heap.size :: rest, locked := none }) rfl d4' _ hsteps
/-- 'throw new E("text")', the text by a wide index -/
theorem vx_throwSW {cc : ByteArray} {pc : Nat} (hexec : p.tables.exec = Jvm.exec) (hb : c.code = cc) (hl : l.stackTraces = false) {own cls text : String} {names : List String} {ik is ic mc ms sa : Nat} {A : Nat → Prop}
    (hown : s.vm.findClass own = some m.cls) (hcls : Bundle.fit cls = true) (hnames : ∀ n ∈ names, Bundle.fit n = true)
    (hk : (Cond.classLink own ik cls).before args s = true) (hini : (Cond.initialized cls).before args s = true) (hstr : vk_R own is text sa s) (hat : ∀ w ∈ vx_atS own ic cls names, w.before args s = true)
    (hgood : ∀ w ∈ Cond.classLink own ik cls :: Cond.initialized cls :: vx_atS own ic cls names, vx_ot w = true)
    (hU : vx_Zq Bundle.tN "UNASSIGNED_STACK" Bundle.steD A s s.heap) (hN : vx_Zq Bundle.tN "SUPPRESSED_SENTINEL" Bundle.listD A s s.heap) (hS : va_S A s.heap H locs) (hsize : ls.size = c.maxLocals)
    (d0 : decode cc pc = .ok (.new ik, 3)) (d3 : decode cc (pc + 3) = .ok (.dup, 1)) (d4 : decode cc (pc + 4) = .ok (.ldc_w is, 3)) (d7 : decode cc (pc + 7) = .ok (.invokespecial ic, 3)) (d10 : decode cc (pc + 10) = .ok (.athrow, 1))
    (hout : ∀ x ∈ c.exceptionTable.toList, covers x (pc + 10) = false)
    (hRframes : names.length + 3 < R.frames) (hRlocals : (rest.map fun v => v.category).sum + (13 * (names.length + 1) + 43) ≤ R.locals) (hRcells : cells + 1 ≤ R.cells) (hRslots : slots + 6 ≤ R.slots) (hlocks : meth.locks = false)
    (hx : ∀ t : State, s.vm.Alike t.vm → H.size ≤ t.heap.size → (∀ q : Nat, q < H.size → t.heap[q]? = H[q]?) → XC cls s t)
    (hf : ∀ z ∈ locs, free z.base) (hc : cells + 1 ≤ mc) (hs : slots + 6 ≤ ms) :
    W p l e R s m args below meth c H locs cells slots (vx_MQ below Qc XC args s mc ms free) (F0 m pc ls rest) := by
  intro T hT X
  have htr : e.platform.stackTraces = false := (show e.platform.stackTraces = l.stackTraces by rw [X.admits.platform]).trans hl
  have Y := vx_rebase X (R' := { frames := R.frames, locals := R.locals, cells := 1, slots := 6 }) (Nat.le_refl _) (Nat.le_refl _) hRcells hRslots
  obtain ⟨s', hA⟩ : ∃ z, z = (T.setVm s.vm).setFrames (.invoking m args :: below) := ⟨_, rfl⟩
  rw [← hA] at Y
  have hvm : s'.vm = s.vm := by rw [hA]; rfl
  have hhp : s'.heap = H := by rw [hA]; exact hT
  have hW0 : s.WarmedH s'.vm := by rw [hvm]; exact State.WarmedH.refl s
  have hat' : ∀ w ∈ vx_atS own ic cls names, w.before args s' = true := fun w hw => vx_ot_at hW0 hvm.symm (hgood w (List.mem_cons_of_mem _ (List.mem_cons_of_mem _ hw))) (hat w hw)
  have hk' : (Cond.classLink own ik cls).before args s' = true := vx_ot_at hW0 hvm.symm (hgood _ List.mem_cons_self) hk
  have hini' : (Cond.initialized cls).before args s' = true := vx_ot_at hW0 hvm.symm (hgood _ (List.mem_cons_of_mem _ List.mem_cons_self)) hini
  have hU' : vx_Zq Bundle.tN "UNASSIGNED_STACK" Bundle.steD A s' s'.heap := by rw [hhp]; exact vx_Zq.moved hW0.alike (hU.kept hS.2.1)
  have hN' : vx_Zq Bundle.tN "SUPPRESSED_SENTINEL" Bundle.listD A s' s'.heap := by rw [hhp]; exact vx_Zq.moved hW0.alike (hN.kept hS.2.1)
  have h : ∀ w ∈ Bundle.ownAtoms own ic cls names, w.before args s' = true := vx_own hat' (vx_isRefq hU'.1) (vx_isRefq hN'.1) hU'.2.word hN'.2.word
  have hown' : s'.vm.findClass own = some m.cls := by rw [hvm]; exact hown
  have hins : (Cond.instantiable cls 6).before args s' = true := h _ (by simp [Bundle.ownAtoms])
  obtain ⟨vm₁, cX, kX, hfX, hkX, -, -, X₁, st1⟩ := Y.newCold hexec (own := own) (C := cls) (index := ik) (n := 6) hown' hk' hins hini'
    (g := F0 m pc ls rest) rfl (by rw [hb]; exact d0) (Nat.le_refl _) (Nat.le_refl _)
  generalize hT1 : (T.setVm vm₁).pushCell { cls := cX, slots := kX.instanceTypes.map defaultValue, vm := .none } = T1 at X₁ st1
  have hcat : (Value.ref T.heap.size).category = 1 := rfl
  have hcellA : T1.heap[T.heap.size]? = some (freshCell cX kX) := by rw [← hT1]; exact State.heap_pushCell_size _ _
  have d3' : decode c.code (pc + 3) = .ok (.dup, 1) := by rw [hb]; exact d3
  have d4' : decode c.code (pc + 4) = .ok (.ldc_w is, 3) := by rw [hb]; exact d4
  have hstr' : vk_R own is text sa s' := vk_R.warm hW0 hstr
  obtain ⟨U, hsteps, hrun, hend, hW, hsame, ce, hce, hO⟩ := X₁.ctorThrowS hexec htr (own := own) (cls := cls) (names := names) (ic := ic) hown' hcls hnames h (fun x hx => nomatch hx) hfX hkX hcellA (by rw [hhp, hT]; exact Nat.le_refl _) (msg := .ref sa) rfl
    (g := { method := m, pc := pc + 7, locals := ls, stack := .ref sa :: .ref T.heap.size :: .ref T.heap.size :: rest, locked := none }) rfl hsize rfl rfl (rest := rest) rfl
    (by rw [hb]; exact d7) (by rw [hb]; exact d10) hout hRframes (by simp only [List.map_cons, List.sum_cons, hcat]; omega) hlocks
  obtain ⟨f1, f2⟩ := vx_frame hsame
  rw [hhp] at f1 f2
  have hWs : s.WarmedH U.vm := State.WarmedH.trans hW0 hW
  have hcl : s.vm.findClass cls = some ce.cls := by
    have h9 := hO.cls
    rw [hvm] at h9
    exact h9
  have hall : s.sameButNew ({ U with vm := s.vm } : State) locs mc ms := by
    subst hA
    obtain ⟨e1, e2⟩ := hsame
    rw [State.setFrames_setFrames] at e1
    have h2 : (T.setVm s.vm).sameButNew ({ U with vm := s.vm } : State) [] (0 + 1) (0 + 6) := ⟨e1, e2⟩
    have h3 := X.same.trans h2
    rw [List.append_nil] at h3
    exact h3.mono hc hs
  refine ⟨U, ?_, .threw T.heap.size, hrun, hend, Or.inr ⟨T.heap.size, rfl, cls, ce, locs, hx U hWs.alike f1 (fun q hq => f2 q hq (fun z hz => nomatch hz)), hce, hO.vm, hcl, hWs, hall, hf⟩⟩
  refine st1 _ ?_
  show Steps p.tables e below (T1.setTop { method := m, pc := pc + 3, locals := ls, stack := .ref T.heap.size :: rest, locked := none }) _
  jvm_step X₁.here [X₁.here.top, hexec, d3', Value.category]
  exact X₁.ldcStringW hexec (own := own) (text := text) (index := is) (a := sa) hown' hstr'.1 hstr'.2
    (g := { method := m, pc := pc + 4, locals := ls, stack := .ref T.heap.size :: .ref T.heap.size :: rest, locked := none }) rfl d4' _ hsteps
end Ends
section Bodies
variable {l : Launch}
theorem vx_ofW {y : MethodName} {ws ws' : List Cond} {rm : Room} {Pc : Array Value → State → Prop} {Qc : Array Value → State → Outcome → State → Prop} {XC : String → State → State → Prop} {mc ms : Nat} {free : Addr → Prop} {cc : ByteArray} {maxL : Nat} {ret : Option FieldType}
    (hy : plainName y.cls = true) (hw : ws = Cond.code y cc maxL ret :: ws')
    (body : ∀ p e s m args below meth c s₁, BodyLoose p l y (headSpec ws rm) cc maxL ret e s m args below meth c s₁ → c.maxLocals = maxL → (∀ x ∈ c.exceptionTable.toList, False) → Pc args s →
      W p l e (headSpec ws rm).room s m args below meth c s.heap [] 0 0 (vx_MQ below Qc XC args s mc ms free) (entryFrame m args maxL)) : vx_Met l y ws rm Pc Qc XC mc ms free := by
  refine MetFree.of_bodyS (code := cc) (maxLocals := maxL) (ret := ret) hy ?_ ?_
  · intro args s m h hn
    obtain ⟨meth, c, h1, h2, h3, h4, h5, h6, -, -⟩ := Cond.code_spec hn (atoms_spec (ws := ws) h _ (by rw [hw]; exact List.mem_cons_self))
    exact ⟨meth, c, h1, h2, h3, h4, h5, h6⟩
  · intro p e s m args below meth c s₁ B hml hP _
    have hh0 : s₁.heap = s.heap := by rw [B.state]; rfl
    have ht : ∀ x ∈ c.exceptionTable.toList, False := by
      obtain ⟨meth9, c9, h1, h2, -, -, -, -, h7, -⟩ := Cond.code_spec B.named (atoms_spec (ws := ws) B.pre _ (by rw [hw]; exact List.mem_cons_self))
      cases Option.some.inj (h1.symm.trans B.method)
      cases Option.some.inj (h2.symm.trans (Stand.of_body B).code)
      intro x hx
      rw [Array.isEmpty_iff.mp h7] at hx
      cases hx
    obtain ⟨t, a1, o, b1, b2, b3⟩ := body p e s m args below meth c s₁ B hml ht hP s₁ hh0 (Stand.of_body B)
    exact ⟨t, o, a1, b1, b2, b3⟩
/-- the table of a body with handlers -/
theorem vx_table {p : Program} {x y : MethodName} {S : Spec} {cc bytes : ByteArray} {maxL maxL' : Nat} {ret ret' : Option FieldType} {e : Env} {s s₁ : State} {m : MethodId} {args : Array Value} {below : List Frame} {meth : Method} {c : Code} {hh : List (Nat × Nat × Nat × Nat)}
    (B : BodyLoose p l y S cc maxL ret e s m args below meth c s₁) (h : (Cond.codeWith y bytes maxL' ret' hh).before args s = true) : c.exceptionTable.toList = tableOf hh := by
  obtain ⟨m9, meth9, c9, hn9, h1, h2, -, -, h6, -⟩ := Cond.codeWith_spec h
  cases Option.some.inj (hn9.symm.trans B.named)
  cases Option.some.inj (h1.symm.trans B.method)
  cases Option.some.inj (h2.symm.trans (Stand.of_body B).code)
  rw [← h6, table_eq]
end Bodies
end VXA
/-! ===== END ===== -/
/-! ===== BEGIN a static call of a method with an exception table ===== -/
section VXS
variable {p : Program} {l : Launch} {e : Env} {R : Room} {s : State} {m : MethodId} {args : Array Value} {below : List Frame} {meth : Method} {c : Code} {T : State} {H : Heap} {locs : List Loc} {cells slots : Nat}
abbrev vx_CSW (R : Room) (s : State) (args : Array Value) (own : String) (index : Nat) (y : MethodName) (bytes : ByteArray) (maxL : Nat) (ret : Option FieldType) (hh : List (Nat × Nat × Nat × Nat)) (ws : List Cond) (rm : Room) (mc ms n : Nat) : Prop :=
  (rm.cells = mc ∧ rm.slots = ms ∧ rm.frames + 1 ≤ R.frames ∧ 8 + (maxL + 11) + rm.locals ≤ R.locals ∧ (∀ w ∈ ws, ∀ (a' : Array Value) (U : State), s.WarmedH U.vm → w.before a' U = true) ∧ Cond.codeWith y bytes maxL ret hh ∈ ws) ∧
  (Cond.codeWith y bytes maxL ret hh).before args s = true ∧ (Cond.initialized y.cls).before args s = true ∧ (y.cls ≠ "java/lang/invoke/MethodHandle" ∧ y.cls ≠ "java/lang/invoke/VarHandle") ∧
  (∀ sig, parseMethodDescriptor y.desc = some sig → n = sig.parameters.length) ∧ (Cond.methodLink own index y).before args s = true ∧ (Cond.static y).before args s = true
theorem vx_cwSW {own : String} {index maxL mc ms : Nat} {y : MethodName} {bytes : ByteArray} {ret : Option FieldType} {hh : List (Nat × Nat × Nat × Nat)} {Ts ws ws' : List Cond} {rm : Room} (n : Nat) (ht : ∀ w ∈ Ts, w.before args s = true) (hT : GoodIn Ts (va_wsS own index y ws)) (hw : ws = Cond.codeWith y bytes maxL ret hh :: ws') (hrc : rm.cells = mc) (hrs : rm.slots = ms)
    (hd : y.cls ≠ "java/lang/invoke/MethodHandle" ∧ y.cls ≠ "java/lang/invoke/VarHandle" ∧ (parseMethodDescriptor y.desc).map (fun d => d.parameters.length) = some n) (hR : rm.frames + 1 ≤ R.frames ∧ 8 + (maxL + 11) + rm.locals ≤ R.locals) :
    vx_CSW R s args own index y bytes maxL ret hh ws rm mc ms n := by
  have ok : ∀ w ∈ va_wsS own index y ws, w.before args s = true := fun w h => ht w (hT w h).1
  have hG : GoodIn Ts ws := fun w h => hT w (by unfold va_wsS; exact List.mem_append_right _ h)
  have hc : Cond.codeWith y bytes maxL ret hh ∈ ws := by rw [hw]; exact List.mem_cons_self
  refine ⟨⟨hrc, hrs, hR.1, hR.2, pay_in ht hG, hc⟩, ht _ (hG _ hc).1, ok _ (by simp [va_wsS]), ⟨hd.1, hd.2.1⟩, fun sig h => ?_, ok _ (by simp [va_wsS]), ok _ (by simp [va_wsS])⟩
  have h2 := hd.2.2
  rw [h] at h2
  exact (Option.some.inj h2).symm
theorem vx_callSW (X : Stand p l e R s m args below meth c T locs cells slots) (hexec : p.tables.exec = Jvm.exec) {own : String} {index : Nat} {y : MethodName} {bytes : ByteArray} {maxL : Nat} {ret : Option FieldType} {hh : List (Nat × Nat × Nat × Nat)}
    (hown : s.vm.findClass own = some m.cls) (hlink : (Cond.methodLink own index y).before args s = true) (hstat : (Cond.static y).before args s = true) (hinit : (Cond.initialized y.cls).before args s = true)
    (hcode : (Cond.codeWith y bytes maxL ret hh).before args s = true) (hy : y.cls ≠ "java/lang/invoke/MethodHandle" ∧ y.cls ≠ "java/lang/invoke/VarHandle")
    {W9 : Nat} {Pre : Pt → Array Value → Prop} {Post : Pt → Array Value → Option Value → Pt → Prop} (hK : Back l R p e below s args y 3 W9 Pre Post)
    {g : JFrame} (hg : g.method = m) (hsize : g.locals.size = c.maxLocals) {argsL rest : List Value} (hlen : ∀ sig, parseMethodDescriptor y.desc = some sig → argsL.length = sig.parameters.length)
    (hstack : g.stack = argsL.reverse ++ rest) (hW : 2 * g.monitorRoom + (rest.map fun v => v.category).sum ≤ W9) (hdg : decode c.code g.pc = .ok (.invokestatic index, 3))
    (hpre : ∀ vm₁, s.WarmedH vm₁ → Pre ⟨T.setVm vm₁, locs, cells, slots⟩ argsL.toArray) :
    ∃ (v : Option Value) (vm₁ : Vm) (B : Pt), s.WarmedH vm₁ ∧ Stand p l e R s m args below meth c B.U B.locs B.cells B.slots ∧ Post ⟨T.setVm vm₁, locs, cells, slots⟩ argsL.toArray v B ∧
      ∀ target, Steps p.tables e below (B.U.setTop { g with pc := g.pc + 3, stack := v.toList ++ rest }) target → Steps p.tables e below (T.setTop g) target := by
  obtain ⟨mk, methM, cM, hnamed, hmethM, -, -, -, -, -, -, hsigM⟩ := Cond.codeWith_spec hcode
  have hstatic : methM.isStatic = true := Cond.static_spec hnamed hmethM hstat
  obtain ⟨kP, hkP, -⟩ := className_of_methodNamed hnamed
  have hinitP : kP.init = .initialized := Cond.initialized_spec (findClass_of_methodNamed hnamed) hkP hinit
  obtain ⟨vm₁, X₁, hstep₁⟩ := X.invokestatic hexec hown hlink hnamed hmethM hstatic hkP hinitP hy (g := g) hg (argsL := argsL) (rest := rest) (hlen _ hsigM) hstack hdg
  obtain ⟨v, B, X', hpost, hsteps⟩ := hK m meth c ⟨T.setVm vm₁, locs, cells, slots⟩ { g with stack := rest } (.invokestatic index) mk argsL.toArray X₁ hg hsize hdg hW (X₁.named hnamed) (hpre vm₁ X₁.warmed)
  exact ⟨v, vm₁, B, X₁.warmed, X', hpost, fun target h => hstep₁ _ fun acts => by rw [doInvoke_state]; exact hsteps.trans h⟩
theorem vx_runSW {y : MethodName} {bytes cc : ByteArray} {maxL nL mc ms n index : Nat} {ret : Option FieldType} {hh : List (Nat × Nat × Nat × Nat)} {ws : List Cond} {rm : Room} {Pc : Array Value → State → Prop} {Qc : Array Value → State → Outcome → State → Prop} {free : Addr → Prop} {Ts : List Cond} {own : String} {As rest : List Value} {g : JFrame}
    (S : CallFix p m c cc nL s args Ts own) (hM : Met l y ws rm Pc Qc mc ms free) (cw : vx_CSW R s args own index y bytes maxL ret hh ws rm mc ms n) (hp : PreS s H Pc As)
    (hg : g.method = m) (hn : As.length = n) (hsize : g.locals.size = nL) (hstack : g.stack = As.reverse ++ rest) (hW : 2 * g.monitorRoom + (rest.map fun v => v.category).sum ≤ 8) (hdg : decode cc g.pc = .ok (.invokestatic index, 3)) (hf : cells + mc ≤ R.cells ∧ slots + ms ≤ R.slots) :
    va_Run p l e R s m args below meth c H locs cells slots mc ms g rest (Qc As.toArray) (free) := by
  obtain ⟨⟨hrc, hrs, hfr, hlo, hws, hcw⟩, hcode, hini, hy, hlen, hl, hstt⟩ := cw
  have hK : Back l R p e below s args y 3 8 (PreOf R mc ms Pc) (PostOf Qc mc ms free) := va_backW (hh := hh) (bytes := bytes) (maxL := maxL) (ret := ret) hM hp.1 hrc hrs hfr hlo hws hcw (fun a' U hW => word_at hW (Or.inl (by first | rfl | simp [Cond.onTables, Cond.keeps, Cond.steady])) hini)
  obtain ⟨hx, hb, hml, ho, -⟩ := S
  intro T hT X
  obtain ⟨v, vm₁, ⟨U', l2, c2, s2⟩, hW₁, X', ⟨g', mk, t, L, e1, e2, hq, h1, hL, h2, h3⟩, st⟩ := vx_callSW X hx (hh := hh) (bytes := bytes) (maxL := maxL) (ret := ret) ho hl hstt hini hcode hy hK hg (hsize.trans hml.symm) (argsL := As) (rest := rest) (fun sig h => hn.trans (hlen sig h)) hstack hW (by rw [hb]; exact hdg)
    (fun vm₁ hW₁ => ⟨hf.1, hf.2, hp.2 (T.setVm vm₁) hT hW₁⟩)
  dsimp only [Pt.U, Pt.locs, Pt.cells, Pt.slots] at X' e1 e2 h1 h2 h3 st
  subst h1; subst h2; subst h3
  exact ⟨v, (T.setVm vm₁).calling g' mk As.toArray, t, U', L, hT, X', hL, e1, e2, hq, st⟩
/-- not caught here, past rows that name other classes: it goes on to the caller -/
theorem vx_outP {p : Program} {l : Launch} {e : Env} {R : Room} {s : State} {m : MethodId} {args : Array Value} {below : List Frame} {meth : Method} {c : Code} {H : Heap} {locs : List Loc} {cells slots : Nat} {free : Addr → Prop} {ls : Array Slot} {rest : List Value} {Qc : Array Value → State → Outcome → State → Prop} {XC : String → State → State → Prop}
    {pc : Nat} {own E : String} {ce : Cell} {q : Addr} {mc ms : Nat} (hown : s.vm.findClass own = some m.cls) (hlocks : meth.locks = false)
    (hpass : ∀ z ∈ c.exceptionTable.toList, covers z pc = false ∨ (z.catchType ≠ 0 ∧ ∃ nm : String, (Cond.classLink own z.catchType nm).before args s = true ∧ va_Nc E nm s)) (hcell : H[q]? = some ce) (hv : ce.vm = .none) (hcl : s.vm.findClass E = some ce.cls)
    (hx : ∀ t : State, t.heap = H → s.vm.Alike t.vm → XC E s t) (hf : ∀ z ∈ locs, free z.base) (hc : cells ≤ mc) (hs : slots ≤ ms) :
    vx_W p l e R s m args below meth c H locs cells slots (vx_MQ below Qc XC args s mc ms free) (F0 m pc ls rest) q := by
  intro T hT X
  have hpl : e.platform.magicAccessors = ({} : Platform).magicAccessors := by rw [X.admits.platform]
  obtain ⟨vm', hW', X', st⟩ := X.outThrough hlocks q (g := F0 m pc ls rest) rfl rfl rfl (cell := ce) (by rw [hT]; exact hcell) (by rw [hv]; rfl)
    (by obtain ⟨k9, h9, -⟩ := Vm.findClass_spec hcl; exact ⟨k9, h9⟩) (fun z hz => by
      rcases hpass z hz with h | ⟨hz0, nm, hl1, hn1⟩
      · exact Or.inl h
      · obtain ⟨c6, hc6, hcl6⟩ := Cond.classLink_spec hown hl1 e.platform hpl
        obtain ⟨a8, b8, h1, h2, h3⟩ := hn1
        cases Option.some.inj (h1.symm.trans hcl)
        cases Option.some.inj (h2.symm.trans hc6)
        exact Or.inr ⟨hz0, _, hcl6, h3⟩)
  obtain ⟨g₀, hfr⟩ := X'.frames_eq
  have hcell9 : ((T.setVm vm').setFrames (.throwing q :: below)).heap[q]? = some ce := by
    show T.heap[q]? = some ce
    rw [hT]; exact hcell
  have hend : Ended ((T.setVm vm').setFrames (.throwing q :: below)) below (.threw q) := State.frames_setFrames _ (State.cur_lt_of_frames hfr)
  refine ⟨(T.setVm vm').setFrames (.throwing q :: below), ?_, .threw q, X'.here.running, hend, Or.inr ⟨q, rfl, E, ce, locs, hx _ hT (X'.ends _).1.alike, hcell9, hv, hcl, (X'.ends _).1, (X'.ends _).2.mono hc hs, hf⟩⟩
  rw [X.pushThrowing_eq]
  exact st
/-- a thing of a world lies in the heap -/
theorem vx_lt {D : va_G} {cl : List vw_C} {ws : va_W} {H1 : Heap} (h : va_P D cl ws H1) {k : Nat} {q : Nat × va_E} (hk : ws[k]? = some q) : q.1 < H1.size := (h k q hk).lt
end VXS
/-! ===== END ===== -/
/-! ===== BEGIN methods with a table of their own: called by a name, returning or throwing ===== -/
section VXH
/-! vx_backW, vx_callVX, vx_callSX, vx_callVW, vx_runVW, vx_runVX, vx_runSX, vx_ofWH follow the same proofs as their sisters above (Free/Laws.lean, Shelf42/LK1.lean); vx_outP calls Shelf42/NT130.lean (outThrough). -/
section
variable {l : Launch} {R : Room} {p : Program} {e : Env} {below : List Frame} {s : State} {sargs : Array Value} {y : MethodName} {len W9 : Nat}
theorem vx_backW {ws : List Cond} {rm : Room} {Pc : Array Value → State → Prop} {Qc : Array Value → State → Outcome → State → Prop} {XC : String → State → State → Prop} {mc ms : Nat} {free : Addr → Prop} {bytes : ByteArray} {maxL : Nat} {ret : Option FieldType} {hh : List (Nat × Nat × Nat × Nat)}
    (hM : vx_Met l y ws rm Pc Qc XC mc ms free) (hblind : FrameBlind Pc) (hrc : rm.cells = mc) (hrs : rm.slots = ms)
    (hframes : rm.frames + 1 ≤ R.frames) (hlocals : W9 + (maxL + 11) + rm.locals ≤ R.locals)
    (hws : ∀ w ∈ ws, ∀ a' U, s.WarmedH U.vm → w.before a' U = true) (hcode : Cond.codeWith y bytes maxL ret hh ∈ ws) (hinit : ∀ a' U, s.WarmedH U.vm → (Cond.initialized y.cls).before a' U = true) :
    vx_Back l R p e below s sargs y len W9 (PreOf R mc ms Pc) (PostOf Qc mc ms free) (vx_Post XC mc ms free) := by
  intro m meth c A g ig mk a X hg hsize hdg hW hn hp
  have h1 : (headSpec ws rm).pre.before a A.U = true := atoms_intro fun w hw => hws w hw _ _ X.warmed
  have h2 : (Cond.codeWith y bytes maxL ret hh).before a A.U = true := hws _ hcode _ _ X.warmed
  have h3 : (Cond.initialized y.cls).before a A.U = true := hinit _ _ X.warmed
  have h4 : A.cells + (headSpec ws rm).room.cells ≤ R.cells := by rw [show (headSpec ws rm).room.cells = mc from hrc]; exact hp.1
  have h5 : A.slots + (headSpec ws rm).room.slots ≤ R.slots := by rw [show (headSpec ws rm).room.slots = ms from hrs]; exact hp.2.1
  have hPc : Pc a (A.U.calling g mk a) := hblind _ _ _ _ hp.2.2
  obtain ⟨U, Ls, c0, s0⟩ := A
  dsimp only [Pt.U, Pt.locs, Pt.cells, Pt.slots] at h1 h2 h3 h4 h5 X hn hPc ⊢
  obtain ⟨m9, methY, cY, hn9, hmY, hcY, -, hlY, -⟩ := Cond.codeWith_spec h2
  cases Option.some.inj (hn9.symm.trans hn)
  obtain ⟨kY, hkY, -⟩ := className_of_methodNamed hn
  have hinitY : kY.init = .initialized := Cond.initialized_spec (findClass_of_methodNamed hn) hkY h3
  have h : At U g.method c below := by rw [hg]; exact X.here
  have hlocals9 : W9 + (maxL + 11) + (headSpec ws rm).room.locals ≤ R.locals := hlocals
  have happ : (headSpec ws rm).appliesLoose y e.platform (U.calling g mk a) = true :=
    Spec.appliesLoose_calling (g := g) h hdg hn hkY hinitY
      (X.room_calling (g := g) (R' := (headSpec ws rm).room) hsize hmY hcY hframes (by rw [hlY]; omega) h4 h5) h1
  obtain ⟨mid, hmid⟩ := h.above
  have hfr : (U.setTop g).frames = (.java g :: mid) ++ below := by rw [State.frames_setTop' g h.top, hmid]; rfl
  obtain ⟨o, s₂, hsteps, -, hend, hq⟩ := Steps.callFree hM p X.admits X.cas X.clock (acts := []) hfr happ hPc trivial
  have hq' : vx_Q Qc XC mc ms free a (U.calling g mk a) o s₂ := hq
  rw [State.frames_setTop' g h.top] at hend
  obtain ⟨g₀, hg0⟩ := Option.isSome_iff_exists.mp h.top
  obtain ⟨r, hr⟩ := State.topJava?_eq_some.mp hg0
  have hr' : (({ U with heap := s₂.heap, slotsUsed := s₂.slotsUsed } : State).setVm s₂.vm).frames = .java g₀ :: r := hr
  rcases hq' with ⟨hqc, L, hfe, hL⟩ | ⟨q, rfl, E, ce, L, hx, hce, hcv, hcl, hW₂, hsm, hL⟩
  · obtain ⟨⟨v, rfl⟩, hW₂, e2, q2, q3, q4, q5, q6⟩ := id hfe
    have e3 : s₂ = ({ (U.calling g mk a).setFrames s₂.frames with heap := s₂.heap, slotsUsed := s₂.slotsUsed } : State).setVm s₂.vm := by
      have : s₂ = ({ s₂ with vm := (U.calling g mk a).vm } : State).setVm s₂.vm := rfl
      rw [e2] at this
      exact this
    obtain ⟨c₂, i₂, len₂, hc₂, hd₂, hf₂⟩ := hend
    have hW' : U.WarmedH s₂.vm := hW₂
    have hcc : c₂ = c := by
      have h1 : s₂.code? g.method = U.code? g.method := by
        rw [State.code?_eq, State.code?_eq, hW'.alike.method?]
      exact Option.some.inj (hc₂.symm.trans (h1.trans h.code))
    subst hcc
    have hlen : len₂ = len := by rw [hdg] at hd₂; cases hd₂; rfl
    subst hlen
    have hs₂ : s₂ = (({ U with heap := s₂.heap, slotsUsed := s₂.slotsUsed } : State).setVm s₂.vm).setTop { g with pc := g.pc + len₂, stack := v.toList ++ g.stack } := by
      refine e3.trans ?_
      rw [hf₂, State.calling_eq h.top, State.setFrames_setFrames, State.setTop_of_frames _ hr', hr]
      rfl
    have hsame : U.sameButNew ({ U with heap := s₂.heap, slotsUsed := s₂.slotsUsed } : State) L mc ms := by
      refine ⟨?_, q2, q3, q4, q5, q6⟩
      obtain ⟨t, ht, -⟩ := State.frames_cons hr
      show ({ U with heap := s₂.heap, slotsUsed := s₂.slotsUsed } : State) = { U.setFrames U.frames with heap := s₂.heap, slotsUsed := s₂.slotsUsed }
      rw [State.setFrames_self ht]
    subst hg
    refine Or.inl ⟨v, ⟨(({ U with heap := s₂.heap, slotsUsed := s₂.slotsUsed } : State).setVm s₂.vm), Ls ++ L, c0 + mc, s0 + ms⟩,
      ⟨X.admits, X.cas, X.clock, X.frames, X.room, X.hears, X.method, X.code, (X.here.setHeapUsed s₂.heap s₂.slotsUsed).setVm hW'.alike, X.tail, State.WarmedH.trans X.warmed hW', X.limits, X.bytes, X.same.trans (hsame.setVm s.vm)⟩,
      ⟨g, mk, s₂, L, rfl, rfl, hqc, rfl, hL, rfl, rfl⟩, ?_⟩
    show Steps p.tables e below _ ((({ U with heap := s₂.heap, slotsUsed := s₂.slotsUsed } : State).setVm s₂.vm).setTop { g with pc := g.pc + len₂, stack := v.toList ++ g.stack })
    rw [← hs₂]
    exact hsteps
  · obtain ⟨e2, q2, q3, q4, q5, q6⟩ := id hsm
    have e3 : s₂ = ({ (U.calling g mk a).setFrames s₂.frames with heap := s₂.heap, slotsUsed := s₂.slotsUsed } : State).setVm s₂.vm := by
      have : s₂ = ({ s₂ with vm := (U.calling g mk a).vm } : State).setVm s₂.vm := rfl
      rw [e2] at this
      exact this
    have hf₂ : s₂.frames = .throwing q :: .java g :: U.frames.tail := hend
    have hW' : U.WarmedH s₂.vm := hW₂
    have hs₂ : s₂ = ((({ U with heap := s₂.heap, slotsUsed := s₂.slotsUsed } : State).setVm s₂.vm).setTop g).pushFrame (.throwing q) := by
      refine e3.trans ?_
      rw [hf₂, State.calling_eq h.top, State.setFrames_setFrames, State.pushFrame, State.frames_setTop _ hr', State.setTop_of_frames _ hr', State.setFrames_setFrames, hr]
      rfl
    have hsame : U.sameButNew ({ U with heap := s₂.heap, slotsUsed := s₂.slotsUsed } : State) L mc ms := by
      refine ⟨?_, q2, q3, q4, q5, q6⟩
      obtain ⟨t, ht, -⟩ := State.frames_cons hr
      show ({ U with heap := s₂.heap, slotsUsed := s₂.slotsUsed } : State) = { U.setFrames U.frames with heap := s₂.heap, slotsUsed := s₂.slotsUsed }
      rw [State.setFrames_self ht]
    subst hg
    refine Or.inr ⟨q, ⟨(({ U with heap := s₂.heap, slotsUsed := s₂.slotsUsed } : State).setVm s₂.vm), Ls ++ L, c0 + mc, s0 + ms⟩,
      ⟨X.admits, X.cas, X.clock, X.frames, X.room, X.hears, X.method, X.code, (X.here.setHeapUsed s₂.heap s₂.slotsUsed).setVm hW'.alike, X.tail, State.WarmedH.trans X.warmed hW', X.limits, X.bytes, X.same.trans (hsame.setVm s.vm)⟩,
      ⟨g, mk, s₂, L, E, ce, rfl, rfl, hx, hce, hcv, hcl, rfl, hL, rfl, rfl⟩, ?_⟩
    show Steps p.tables e below _ (((({ U with heap := s₂.heap, slotsUsed := s₂.slotsUsed } : State).setVm s₂.vm).setTop g).pushFrame (.throwing q))
    rw [← hs₂]
    exact hsteps
end
variable {p : Program} {l : Launch} {e : Env} {R : Room} {s : State} {m : MethodId} {args : Array Value} {below : List Frame} {meth : Method} {c : Code} {T : State} {H : Heap} {locs : List Loc} {cells slots : Nat}
theorem vx_callVX (X : Stand p l e R s m args below meth c T locs cells slots) (hexec : p.tables.exec = Jvm.exec) {own C : String} {index : Nat} {y : MethodName} {bytes : ByteArray} {maxL : Nat} {ret : Option FieldType} {hh : List (Nat × Nat × Nat × Nat)}
    (hown : s.vm.findClass own = some m.cls) (hlink : (Cond.methodLink own index y).before args s = true) (hinst : (Cond.instanceMethod y).before args s = true) (hsel : (Cond.selects C y y).before args s = true)
    (hcode : (Cond.codeWith y bytes maxL ret hh).before args s = true) (hy : y.cls ≠ "java/lang/invoke/MethodHandle" ∧ y.cls ≠ "java/lang/invoke/VarHandle")
    {W9 : Nat} {Pre : Pt → Array Value → Prop} {Post : Pt → Array Value → Option Value → Pt → Prop} {PostX : Pt → Array Value → Addr → Pt → Prop} (hK : vx_Back l R p e below s args y 3 W9 Pre Post PostX)
    {b : Addr} {cellB : Cell} (hcell : T.heap[b]? = some cellB) (hobj : cellB.vm.isStatics = false) (hcls : s.vm.findClass C = some cellB.cls)
    {g : JFrame} (hg : g.method = m) (hsize : g.locals.size = c.maxLocals) {argsL rest : List Value} (hlen : ∀ sig, parseMethodDescriptor y.desc = some sig → argsL.length = sig.parameters.length)
    (hstack : g.stack = argsL.reverse ++ .ref b :: rest) (hW : 2 * g.monitorRoom + (rest.map fun v => v.category).sum ≤ W9) (hdg : decode c.code g.pc = .ok (.invokevirtual index, 3))
    (hpre : ∀ vm₁, s.WarmedH vm₁ → Pre ⟨T.setVm vm₁, locs, cells, slots⟩ (Value.ref b :: argsL).toArray) :
    (∃ (v : Option Value) (vm₁ : Vm) (B : Pt), s.WarmedH vm₁ ∧ Stand p l e R s m args below meth c B.U B.locs B.cells B.slots ∧ Post ⟨T.setVm vm₁, locs, cells, slots⟩ (Value.ref b :: argsL).toArray v B ∧
      ∀ target, Steps p.tables e below (B.U.setTop { g with pc := g.pc + 3, stack := v.toList ++ rest }) target → Steps p.tables e below (T.setTop g) target) ∨
    (∃ (q : Addr) (vm₁ : Vm) (B : Pt), s.WarmedH vm₁ ∧ Stand p l e R s m args below meth c B.U B.locs B.cells B.slots ∧ PostX ⟨T.setVm vm₁, locs, cells, slots⟩ (Value.ref b :: argsL).toArray q B ∧
      Steps p.tables e below (T.setTop g) ((B.U.setTop { g with stack := rest }).pushFrame (.throwing q))) := by
  obtain ⟨mk, methM, hnamed, hmethM, hstM, habM⟩ := Cond.instanceMethod_spec hinst
  obtain ⟨m8, methM', cM, hn8, hmethM', -, -, -, -, -, -, hsigM⟩ := Cond.codeWith_spec hcode
  cases Option.some.inj (hn8.symm.trans hnamed)
  cases hmethM.symm.trans hmethM'
  obtain ⟨c2, r2, m2, q1, q2, q3, q4, kP, hkP, hkPi⟩ := Cond.selects_spec hsel
  cases hcls.symm.trans q1
  cases (State.methodFound?_of_named hnamed hy).symm.trans q2
  cases hnamed.symm.trans q3
  have hselP : selectMethod e.platform s.vm cellB.cls mk = .method mk := by rw [Launch.admits_selectMethod X.admits]; exact q4
  obtain ⟨vm₁, X₁, hstep₁⟩ := X.invokevirtual hexec hown hlink hnamed hmethM hstM hkP hkPi hy (a := b) (cell := cellB) hcell
    (fun z h => by rw [h] at hobj; cases hobj) hselP hmethM habM hkP hkPi (g := g) hg (argsL := argsL) (rest := rest) (hlen _ hsigM) hstack hdg
  rcases hK m meth c ⟨T.setVm vm₁, locs, cells, slots⟩ { g with stack := rest } (.invokevirtual index) mk (Value.ref b :: argsL).toArray X₁ hg hsize hdg hW (X₁.named hnamed) (hpre vm₁ X₁.warmed) with ⟨v, B, X', hpost, hsteps⟩ | ⟨q, B, X', hpost, hsteps⟩
  · exact Or.inl ⟨v, vm₁, B, X₁.warmed, X', hpost, fun target h => hstep₁ _ fun acts => by rw [doInvoke_state]; exact hsteps.trans h⟩
  · exact Or.inr ⟨q, vm₁, B, X₁.warmed, X', hpost, hstep₁ _ fun acts => by rw [doInvoke_state]; exact hsteps⟩
theorem vx_callSX (X : Stand p l e R s m args below meth c T locs cells slots) (hexec : p.tables.exec = Jvm.exec) {own : String} {index : Nat} {y : MethodName} {bytes : ByteArray} {maxL : Nat} {ret : Option FieldType} {hh : List (Nat × Nat × Nat × Nat)}
    (hown : s.vm.findClass own = some m.cls) (hlink : (Cond.methodLink own index y).before args s = true) (hstat : (Cond.static y).before args s = true) (hinit : (Cond.initialized y.cls).before args s = true)
    (hcode : (Cond.codeWith y bytes maxL ret hh).before args s = true) (hy : y.cls ≠ "java/lang/invoke/MethodHandle" ∧ y.cls ≠ "java/lang/invoke/VarHandle")
    {W9 : Nat} {Pre : Pt → Array Value → Prop} {Post : Pt → Array Value → Option Value → Pt → Prop} {PostX : Pt → Array Value → Addr → Pt → Prop} (hK : vx_Back l R p e below s args y 3 W9 Pre Post PostX)
    {g : JFrame} (hg : g.method = m) (hsize : g.locals.size = c.maxLocals) {argsL rest : List Value} (hlen : ∀ sig, parseMethodDescriptor y.desc = some sig → argsL.length = sig.parameters.length)
    (hstack : g.stack = argsL.reverse ++ rest) (hW : 2 * g.monitorRoom + (rest.map fun v => v.category).sum ≤ W9) (hdg : decode c.code g.pc = .ok (.invokestatic index, 3))
    (hpre : ∀ vm₁, s.WarmedH vm₁ → Pre ⟨T.setVm vm₁, locs, cells, slots⟩ argsL.toArray) :
    (∃ (v : Option Value) (vm₁ : Vm) (B : Pt), s.WarmedH vm₁ ∧ Stand p l e R s m args below meth c B.U B.locs B.cells B.slots ∧ Post ⟨T.setVm vm₁, locs, cells, slots⟩ argsL.toArray v B ∧
      ∀ target, Steps p.tables e below (B.U.setTop { g with pc := g.pc + 3, stack := v.toList ++ rest }) target → Steps p.tables e below (T.setTop g) target) ∨
    (∃ (q : Addr) (vm₁ : Vm) (B : Pt), s.WarmedH vm₁ ∧ Stand p l e R s m args below meth c B.U B.locs B.cells B.slots ∧ PostX ⟨T.setVm vm₁, locs, cells, slots⟩ argsL.toArray q B ∧
      Steps p.tables e below (T.setTop g) ((B.U.setTop { g with stack := rest }).pushFrame (.throwing q))) := by
  obtain ⟨mk, methM, cM, hnamed, hmethM, -, -, -, -, -, -, hsigM⟩ := Cond.codeWith_spec hcode
  have hstatic : methM.isStatic = true := Cond.static_spec hnamed hmethM hstat
  obtain ⟨kP, hkP, -⟩ := className_of_methodNamed hnamed
  have hinitP : kP.init = .initialized := Cond.initialized_spec (findClass_of_methodNamed hnamed) hkP hinit
  obtain ⟨vm₁, X₁, hstep₁⟩ := X.invokestatic hexec hown hlink hnamed hmethM hstatic hkP hinitP hy (g := g) hg (argsL := argsL) (rest := rest) (hlen _ hsigM) hstack hdg
  rcases hK m meth c ⟨T.setVm vm₁, locs, cells, slots⟩ { g with stack := rest } (.invokestatic index) mk argsL.toArray X₁ hg hsize hdg hW (X₁.named hnamed) (hpre vm₁ X₁.warmed) with ⟨v, B, X', hpost, hsteps⟩ | ⟨q, B, X', hpost, hsteps⟩
  · exact Or.inl ⟨v, vm₁, B, X₁.warmed, X', hpost, fun target h => hstep₁ _ fun acts => by rw [doInvoke_state]; exact hsteps.trans h⟩
  · exact Or.inr ⟨q, vm₁, B, X₁.warmed, X', hpost, hstep₁ _ fun acts => by rw [doInvoke_state]; exact hsteps⟩
theorem vx_callVW (X : Stand p l e R s m args below meth c T locs cells slots) (hexec : p.tables.exec = Jvm.exec) {own C : String} {index : Nat} {y : MethodName} {bytes : ByteArray} {maxL : Nat} {ret : Option FieldType} {hh : List (Nat × Nat × Nat × Nat)}
    (hown : s.vm.findClass own = some m.cls) (hlink : (Cond.methodLink own index y).before args s = true) (hinst : (Cond.instanceMethod y).before args s = true) (hsel : (Cond.selects C y y).before args s = true)
    (hcode : (Cond.codeWith y bytes maxL ret hh).before args s = true) (hy : y.cls ≠ "java/lang/invoke/MethodHandle" ∧ y.cls ≠ "java/lang/invoke/VarHandle")
    {W9 : Nat} {Pre : Pt → Array Value → Prop} {Post : Pt → Array Value → Option Value → Pt → Prop} (hK : Back l R p e below s args y 3 W9 Pre Post)
    {b : Addr} {cellB : Cell} (hcell : T.heap[b]? = some cellB) (hobj : cellB.vm.isStatics = false) (hcls : s.vm.findClass C = some cellB.cls)
    {g : JFrame} (hg : g.method = m) (hsize : g.locals.size = c.maxLocals) {argsL rest : List Value} (hlen : ∀ sig, parseMethodDescriptor y.desc = some sig → argsL.length = sig.parameters.length)
    (hstack : g.stack = argsL.reverse ++ .ref b :: rest) (hW : 2 * g.monitorRoom + (rest.map fun v => v.category).sum ≤ W9) (hdg : decode c.code g.pc = .ok (.invokevirtual index, 3))
    (hpre : ∀ vm₁, s.WarmedH vm₁ → Pre ⟨T.setVm vm₁, locs, cells, slots⟩ (Value.ref b :: argsL).toArray) :
    ∃ (v : Option Value) (vm₁ : Vm) (B : Pt), s.WarmedH vm₁ ∧ Stand p l e R s m args below meth c B.U B.locs B.cells B.slots ∧ Post ⟨T.setVm vm₁, locs, cells, slots⟩ (Value.ref b :: argsL).toArray v B ∧
      ∀ target, Steps p.tables e below (B.U.setTop { g with pc := g.pc + 3, stack := v.toList ++ rest }) target → Steps p.tables e below (T.setTop g) target := by
  obtain ⟨mk, methM, hnamed, hmethM, hstM, habM⟩ := Cond.instanceMethod_spec hinst
  obtain ⟨m8, methM', cM, hn8, hmethM', -, -, -, -, -, -, hsigM⟩ := Cond.codeWith_spec hcode
  cases Option.some.inj (hn8.symm.trans hnamed)
  cases hmethM.symm.trans hmethM'
  obtain ⟨c2, r2, m2, q1, q2, q3, q4, kP, hkP, hkPi⟩ := Cond.selects_spec hsel
  cases hcls.symm.trans q1
  cases (State.methodFound?_of_named hnamed hy).symm.trans q2
  cases hnamed.symm.trans q3
  have hselP : selectMethod e.platform s.vm cellB.cls mk = .method mk := by rw [Launch.admits_selectMethod X.admits]; exact q4
  obtain ⟨vm₁, X₁, hstep₁⟩ := X.invokevirtual hexec hown hlink hnamed hmethM hstM hkP hkPi hy (a := b) (cell := cellB) hcell
    (fun z h => by rw [h] at hobj; cases hobj) hselP hmethM habM hkP hkPi (g := g) hg (argsL := argsL) (rest := rest) (hlen _ hsigM) hstack hdg
  obtain ⟨v, B, X', hpost, hsteps⟩ := hK m meth c ⟨T.setVm vm₁, locs, cells, slots⟩ { g with stack := rest } (.invokevirtual index) mk (Value.ref b :: argsL).toArray X₁ hg hsize hdg hW (X₁.named hnamed) (hpre vm₁ X₁.warmed)
  exact ⟨v, vm₁, B, X₁.warmed, X', hpost, fun target h => hstep₁ _ fun acts => by rw [doInvoke_state]; exact hsteps.trans h⟩
abbrev vx_CVW (R : Room) (s : State) (args : Array Value) (own C : String) (index : Nat) (y : MethodName) (bytes : ByteArray) (maxL : Nat) (ret : Option FieldType) (hh : List (Nat × Nat × Nat × Nat)) (ws : List Cond) (rm : Room) (mc ms n : Nat) : Prop :=
  (rm.cells = mc ∧ rm.slots = ms ∧ rm.frames + 1 ≤ R.frames ∧ 8 + (maxL + 11) + rm.locals ≤ R.locals ∧ (∀ w ∈ ws, ∀ (a' : Array Value) (U : State), s.WarmedH U.vm → w.before a' U = true) ∧ Cond.codeWith y bytes maxL ret hh ∈ ws) ∧
  (Cond.codeWith y bytes maxL ret hh).before args s = true ∧ (Cond.initialized y.cls).before args s = true ∧ (y.cls ≠ "java/lang/invoke/MethodHandle" ∧ y.cls ≠ "java/lang/invoke/VarHandle") ∧
  (∀ sig, parseMethodDescriptor y.desc = some sig → n = sig.parameters.length) ∧ (Cond.methodLink own index y).before args s = true ∧ (Cond.instanceMethod y).before args s = true ∧ (Cond.selects C y y).before args s = true
theorem vx_cwVW {own C : String} {index maxL mc ms : Nat} {y : MethodName} {bytes : ByteArray} {ret : Option FieldType} {hh : List (Nat × Nat × Nat × Nat)} {Ts ws ws' : List Cond} {rm : Room} (n : Nat) (ht : ∀ w ∈ Ts, w.before args s = true) (hT : GoodIn Ts (wsV own index C y ws)) (hw : ws = Cond.codeWith y bytes maxL ret hh :: ws') (hrc : rm.cells = mc) (hrs : rm.slots = ms)
    (hd : y.cls = C ∧ y.cls ≠ "java/lang/invoke/MethodHandle" ∧ y.cls ≠ "java/lang/invoke/VarHandle" ∧ (parseMethodDescriptor y.desc).map (fun d => d.parameters.length) = some n) (hR : rm.frames + 1 ≤ R.frames ∧ 8 + (maxL + 11) + rm.locals ≤ R.locals) :
    vx_CVW R s args own C index y bytes maxL ret hh ws rm mc ms n := by
  obtain ⟨hC, hd⟩ := hd
  subst hC
  have ok : ∀ w ∈ wsV own index y.cls y ws, w.before args s = true := fun w h => ht w (hT w h).1
  have hG : GoodIn Ts ws := fun w h => hT w (by unfold wsV; exact List.mem_append_right _ h)
  have hc : Cond.codeWith y bytes maxL ret hh ∈ ws := by rw [hw]; exact List.mem_cons_self
  refine ⟨⟨hrc, hrs, hR.1, hR.2, pay_in ht hG, hc⟩, ht _ (hG _ hc).1, ok _ (by simp [wsV]), ⟨hd.1, hd.2.1⟩, fun sig h => ?_, ok _ (by simp [wsV]), ok _ (by simp [wsV]), ok _ (by simp [wsV])⟩
  have h2 := hd.2.2
  rw [h] at h2
  exact (Option.some.inj h2).symm
theorem vx_runVW {y : MethodName} {bytes cc : ByteArray} {maxL nL mc ms n index : Nat} {ret : Option FieldType} {hh : List (Nat × Nat × Nat × Nat)} {ws : List Cond} {rm : Room} {Pc : Array Value → State → Prop} {Qc : Array Value → State → Outcome → State → Prop} {free : Addr → Prop} {Ts : List Cond} {own C : String} {b : Addr} {As rest : List Value} {g : JFrame}
    (S : CallFix p m c cc nL s args Ts own) (hM : Met l y ws rm Pc Qc mc ms free) (cw : vx_CVW R s args own C index y bytes maxL ret hh ws rm mc ms n) (hp : PreV s H C b Pc As)
    (hg : g.method = m) (hn : As.length = n) (hsize : g.locals.size = nL) (hstack : g.stack = As.reverse ++ .ref b :: rest) (hW : 2 * g.monitorRoom + (rest.map fun v => v.category).sum ≤ 8) (hdg : decode cc g.pc = .ok (.invokevirtual index, 3)) (hf : cells + mc ≤ R.cells ∧ slots + ms ≤ R.slots) :
    va_Run p l e R s m args below meth c H locs cells slots mc ms g rest (Qc (Value.ref b :: As).toArray) free := by
  obtain ⟨⟨hrc, hrs, hfr, hlo, hws, hcw⟩, hcode, hini, hy, hlen, hl, hin, hse⟩ := cw
  have hK : Back l R p e below s args y 3 8 (PreOf R mc ms Pc) (PostOf Qc mc ms free) := va_backW (hh := hh) (bytes := bytes) (maxL := maxL) (ret := ret) hM hp.1 hrc hrs hfr hlo hws hcw (fun a' U hW => word_at hW (Or.inl (by first | rfl | simp [Cond.onTables, Cond.keeps, Cond.steady])) hini)
  obtain ⟨hx, hb, hml, ho, -⟩ := S
  obtain ⟨-, ⟨cellB, hcB, hoB, hclB⟩, hPc⟩ := hp
  intro T hT X
  obtain ⟨v, vm₁, ⟨U', l2, c2, s2⟩, hW₁, X', ⟨g', mk, t, L, e1, e2, hq, h1, hL, h2, h3⟩, st⟩ := vx_callVW X hx (C := C) (hh := hh) (bytes := bytes) (maxL := maxL) (ret := ret) ho hl hin hse hcode hy hK (by rw [hT]; exact hcB) hoB hclB hg (hsize.trans hml.symm) (argsL := As) (rest := rest) (fun sig h => hn.trans (hlen sig h)) hstack hW (by rw [hb]; exact hdg)
    (fun vm₁ hW₁ => ⟨hf.1, hf.2, hPc (T.setVm vm₁) hT hW₁⟩)
  dsimp only [Pt.U, Pt.locs, Pt.cells, Pt.slots] at X' e1 e2 h1 h2 h3 st
  subst h1; subst h2; subst h3
  exact ⟨v, (T.setVm vm₁).calling g' mk (Value.ref b :: As).toArray, t, U', L, hT, X', hL, e1, e2, hq, st⟩
section
variable {y : MethodName} {bytes cc : ByteArray} {maxL nL mc ms n index : Nat} {ret : Option FieldType} {ws : List Cond} {rm : Room} {Pc : Array Value → State → Prop} {Qc : Array Value → State → Outcome → State → Prop} {XC : String → State → State → Prop} {free : Addr → Prop} {Ts : List Cond} {own C : String} {b : Addr} {As rest : List Value} {g : JFrame}
theorem vx_runVX {hh : List (Nat × Nat × Nat × Nat)} (S : CallFix p m c cc nL s args Ts own) (hM : vx_Met l y ws rm Pc Qc XC mc ms free) (cw : vx_CVW R s args own C index y bytes maxL ret hh ws rm mc ms n) (hp : PreV s H C b Pc As)
    (hg : g.method = m) (hn : As.length = n) (hsize : g.locals.size = nL) (hstack : g.stack = As.reverse ++ .ref b :: rest) (hW : 2 * g.monitorRoom + (rest.map fun v => v.category).sum ≤ 8) (hdg : decode cc g.pc = .ok (.invokevirtual index, 3)) (hf : cells + mc ≤ R.cells ∧ slots + ms ≤ R.slots) :
    vx_Run p l e R s m args below meth c H locs cells slots mc ms g rest (Qc (Value.ref b :: As).toArray) XC free := by
  obtain ⟨⟨hrc, hrs, hfr, hlo, hws, hcw⟩, hcode, hini, hy, hlen, hl, hin, hse⟩ := cw
  have hK : vx_Back l R p e below s args y 3 8 (PreOf R mc ms Pc) (PostOf Qc mc ms free) (vx_Post XC mc ms free) := vx_backW (hh := hh) (bytes := bytes) (maxL := maxL) (ret := ret) hM hp.1 hrc hrs hfr hlo hws hcw (fun a' U hW => word_at hW (Or.inl (by first | rfl | simp [Cond.onTables, Cond.keeps, Cond.steady])) hini)
  obtain ⟨hx, hb, hml, ho, -⟩ := S
  obtain ⟨-, ⟨cellB, hcB, hoB, hclB⟩, hPc⟩ := hp
  intro T hT X
  rcases vx_callVX X hx (C := C) (hh := hh) (bytes := bytes) (maxL := maxL) (ret := ret) ho hl hin hse hcode hy hK (by rw [hT]; exact hcB) hoB hclB hg (hsize.trans hml.symm) (argsL := As) (rest := rest) (fun sig h => hn.trans (hlen sig h)) hstack hW (by rw [hb]; exact hdg)
    (fun vm₁ hW₁ => ⟨hf.1, hf.2, hPc (T.setVm vm₁) hT hW₁⟩) with ⟨v, vm₁, ⟨U', l2, c2, s2⟩, hW₁, X', ⟨g', mk, t, L, e1, e2, hq, h1, hL, h2, h3⟩, st⟩ | ⟨q, vm₁, ⟨U', l2, c2, s2⟩, hW₁, X', ⟨g', mk, t, L, E, ce, e1, e2, hq, hce, hcv, hcl, h1, hL, h2, h3⟩, st⟩
  · dsimp only [Pt.U, Pt.locs, Pt.cells, Pt.slots] at X' e1 e2 h1 h2 h3 st
    subst h1; subst h2; subst h3
    exact Or.inl ⟨v, (T.setVm vm₁).calling g' mk (Value.ref b :: As).toArray, t, U', L, hT, X', hL, e1, e2, hq, st⟩
  · dsimp only [Pt.U, Pt.locs, Pt.cells, Pt.slots] at X' e1 e2 h1 h2 h3 st hcl
    subst h1; subst h2; subst h3
    exact Or.inr ⟨q, (T.setVm vm₁).calling g' mk (Value.ref b :: As).toArray, t, U', L, E, ce, hT, X', hL, e1, e2, hq, hce, hcv, vx_cls hW₁ hcl, st⟩
theorem vx_runSX {hh : List (Nat × Nat × Nat × Nat)} (S : CallFix p m c cc nL s args Ts own) (hM : vx_Met l y ws rm Pc Qc XC mc ms free) (cw : vx_CSW R s args own index y bytes maxL ret hh ws rm mc ms n) (hp : PreS s H Pc As)
    (hg : g.method = m) (hn : As.length = n) (hsize : g.locals.size = nL) (hstack : g.stack = As.reverse ++ rest) (hW : 2 * g.monitorRoom + (rest.map fun v => v.category).sum ≤ 8) (hdg : decode cc g.pc = .ok (.invokestatic index, 3)) (hf : cells + mc ≤ R.cells ∧ slots + ms ≤ R.slots) :
    vx_Run p l e R s m args below meth c H locs cells slots mc ms g rest (Qc As.toArray) XC free := by
  obtain ⟨⟨hrc, hrs, hfr, hlo, hws, hcw⟩, hcode, hini, hy, hlen, hl, hstt⟩ := cw
  have hK : vx_Back l R p e below s args y 3 8 (PreOf R mc ms Pc) (PostOf Qc mc ms free) (vx_Post XC mc ms free) := vx_backW (hh := hh) (bytes := bytes) (maxL := maxL) (ret := ret) hM hp.1 hrc hrs hfr hlo hws hcw (fun a' U hW => word_at hW (Or.inl (by first | rfl | simp [Cond.onTables, Cond.keeps, Cond.steady])) hini)
  obtain ⟨hx, hb, hml, ho, -⟩ := S
  intro T hT X
  rcases vx_callSX X hx (hh := hh) (bytes := bytes) (maxL := maxL) (ret := ret) ho hl hstt hini hcode hy hK hg (hsize.trans hml.symm) (argsL := As) (rest := rest) (fun sig h => hn.trans (hlen sig h)) hstack hW (by rw [hb]; exact hdg)
    (fun vm₁ hW₁ => ⟨hf.1, hf.2, hp.2 (T.setVm vm₁) hT hW₁⟩) with ⟨v, vm₁, ⟨U', l2, c2, s2⟩, hW₁, X', ⟨g', mk, t, L, e1, e2, hq, h1, hL, h2, h3⟩, st⟩ | ⟨q, vm₁, ⟨U', l2, c2, s2⟩, hW₁, X', ⟨g', mk, t, L, E, ce, e1, e2, hq, hce, hcv, hcl, h1, hL, h2, h3⟩, st⟩
  · dsimp only [Pt.U, Pt.locs, Pt.cells, Pt.slots] at X' e1 e2 h1 h2 h3 st
    subst h1; subst h2; subst h3
    exact Or.inl ⟨v, (T.setVm vm₁).calling g' mk As.toArray, t, U', L, hT, X', hL, e1, e2, hq, st⟩
  · dsimp only [Pt.U, Pt.locs, Pt.cells, Pt.slots] at X' e1 e2 h1 h2 h3 st hcl
    subst h1; subst h2; subst h3
    exact Or.inr ⟨q, (T.setVm vm₁).calling g' mk As.toArray, t, U', L, E, ce, hT, X', hL, e1, e2, hq, hce, hcv, vx_cls hW₁ hcl, st⟩
end
end VXH
theorem vx_ofWH {l : Launch} {y : MethodName} {ws ws' : List Cond} {rm : Room} {Pc : Array Value → State → Prop} {Qc : Array Value → State → Outcome → State → Prop} {XC : String → State → State → Prop} {mc ms : Nat} {free : Addr → Prop} {cc : ByteArray} {maxL : Nat} {ret : Option FieldType} {hh : List (Nat × Nat × Nat × Nat)}
    (hy : plainName y.cls = true) (hw : ws = Cond.codeWith y cc maxL ret hh :: ws')
    (body : ∀ p e s m args below meth c s₁, BodyLoose p l y (headSpec ws rm) cc maxL ret e s m args below meth c s₁ → c.maxLocals = maxL → Pc args s →
      W p l e (headSpec ws rm).room s m args below meth c s.heap [] 0 0 (vx_MQ below Qc XC args s mc ms free) (entryFrame m args maxL)) : vx_Met l y ws rm Pc Qc XC mc ms free := by
  refine MetFree.of_bodyS (code := cc) (maxLocals := maxL) (ret := ret) hy ?_ ?_
  · intro args s m h hn
    obtain ⟨m9, meth, c, hn9, h1, h2, h3, h4, -, h5, h6, -⟩ := Cond.codeWith_spec (atoms_spec (ws := ws) h _ (by rw [hw]; exact List.mem_cons_self))
    cases hn.symm.trans hn9
    exact ⟨meth, c, h1, h2, h3, h4, h5, h6⟩
  · intro p e s m args below meth c s₁ B hml hP _
    have hh0 : s₁.heap = s.heap := by rw [B.state]; rfl
    obtain ⟨t, a1, o, b1, b2, b3⟩ := body p e s m args below meth c s₁ B hml hP s₁ hh0 (Stand.of_body B)
    exact ⟨t, o, a1, b1, b2, b3⟩
/-! ===== END ===== -/
end
section
def RX0 : String := "SlideBonfire$Accounts"
def TX0 : u_T := fun k => match k with
  | 0 => ("SlideBonfire$Accounts", "time", "I", false)
  | 1 => ("SlideBonfire$Accounts", "hits", "I", false)
  | 2 => ("SlideBonfire$Accounts", "misses", "I", false)
  | 3 => ("SlideBonfire$Accounts", "loads", "I", false)
  | 4 => ("SlideBonfire$Accounts", "warmLoads", "I", false)
  | 5 => ("SlideBonfire$Accounts", "burnings", "I", false)
  | _ => ("SlideBonfire$Accounts", "waited", "I", false)
def tyX0 : Nat → FieldType := fun k => match k with
  | 0 => .int
  | 1 => .int
  | 2 => .int
  | 3 => .int
  | 4 => .int
  | 5 => .int
  | _ => .int
abbrev wsX00 : List Cond := u_ws RX0 TX0 7
theorem nmX0 : ∀ a, a < 7 → ∀ b, b < 7 → a ≠ b → (TX0 a).2.1 ≠ (TX0 b).2.1 := by decide +kernel
theorem tyX0_ok : ∀ k, k < 7 → parseFieldDescriptor (TX0 k).2.2.1 = some (tyX0 k) := by decide +kernel
abbrev cX0_init : ByteArray := prog_2_method_1_code
def yX0_init : MethodName := ⟨RX0, "<init>", "()V"⟩
abbrev cX0_copyFrom : ByteArray := prog_2_method_2_code
def yX0_copyFrom : MethodName := ⟨RX0, "copyFrom", "(LSlideBonfire$Accounts;)V"⟩
abbrev cX0_shareOfHits : ByteArray := prog_2_method_3_code
def yX0_shareOfHits : MethodName := ⟨RX0, "shareOfHits", "()D"⟩
def RX1 : String := "SlideBonfire$Bonfire"
def TX1 : u_T := fun k => match k with
  | 0 => ("SlideBonfire$Bonfire", "slides", "LSlideBonfire$Slides;", true)
  | 1 => ("SlideBonfire$Bonfire", "programme", "LSlideBonfire$Programme;", true)
  | 2 => ("SlideBonfire$Bonfire", "stage", "LSlideBonfire$Stage;", true)
  | 3 => ("SlideBonfire$Bonfire", "loader", "LSlideBonfire$Loader;", true)
  | 4 => ("SlideBonfire$Bonfire", "settings", "LSlideBonfire$Settings;", true)
  | 5 => ("SlideBonfire$Bonfire", "accounts", "LSlideBonfire$Accounts;", true)
  | 6 => ("SlideBonfire$Bonfire", "weight", "[I", true)
  | _ => ("SlideBonfire$Bonfire", "line", "[I", true)
def tyX1 : Nat → FieldType := fun k => match k with
  | 0 => .object "SlideBonfire$Slides"
  | 1 => .object "SlideBonfire$Programme"
  | 2 => .object "SlideBonfire$Stage"
  | 3 => .object "SlideBonfire$Loader"
  | 4 => .object "SlideBonfire$Settings"
  | 5 => .object "SlideBonfire$Accounts"
  | 6 => .array .int
  | _ => .array .int
abbrev wsX10 : List Cond := u_ws RX1 TX1 8
theorem nmX1 : ∀ a, a < 8 → ∀ b, b < 8 → a ≠ b → (TX1 a).2.1 ≠ (TX1 b).2.1 := by decide +kernel
theorem tyX1_ok : ∀ k, k < 8 → parseFieldDescriptor (TX1 k).2.2.1 = some (tyX1 k) := by decide +kernel
abbrev cX1_init : ByteArray := prog_3_method_1_code
def yX1_init : MethodName := ⟨RX1, "<init>", "()V"⟩
abbrev cX1_copyFrom : ByteArray := prog_3_method_2_code
def yX1_copyFrom : MethodName := ⟨RX1, "copyFrom", "(LSlideBonfire$Bonfire;)V"⟩
abbrev cX1_mayGoOn : ByteArray := prog_3_method_3_code
def yX1_mayGoOn : MethodName := ⟨RX1, "mayGoOn", "()Z"⟩
abbrev cX1_mayAsk : ByteArray := prog_3_method_4_code
def yX1_mayAsk : MethodName := ⟨RX1, "mayAsk", "(I)Z"⟩
abbrev cX1_mayBurn : ByteArray := prog_3_method_5_code
def yX1_mayBurn : MethodName := ⟨RX1, "mayBurn", "(I)Z"⟩
abbrev cX1_obey : ByteArray := prog_3_method_6_code
def yX1_obey : MethodName := ⟨RX1, "obey", "(II)Z"⟩
abbrev cX1_obeyGoOn : ByteArray := prog_3_method_7_code
def yX1_obeyGoOn : MethodName := ⟨RX1, "obeyGoOn", "()Z"⟩
abbrev cX1_obeyAsk : ByteArray := prog_3_method_8_code
def yX1_obeyAsk : MethodName := ⟨RX1, "obeyAsk", "(I)Z"⟩
abbrev cX1_obeyBurn : ByteArray := prog_3_method_9_code
def yX1_obeyBurn : MethodName := ⟨RX1, "obeyBurn", "(I)Z"⟩
abbrev cX1_obeyInsert : ByteArray := prog_3_method_10_code
def yX1_obeyInsert : MethodName := ⟨RX1, "obeyInsert", "(I)Z"⟩
abbrev cX1_proceed : ByteArray := prog_3_method_11_code
def yX1_proceed : MethodName := ⟨RX1, "proceed", "()Z"⟩
abbrev cX1_bringOn : ByteArray := prog_3_method_12_code
def yX1_bringOn : MethodName := ⟨RX1, "bringOn", "(I)V"⟩
abbrev cX1_passTicks : ByteArray := prog_3_method_13_code
def yX1_passTicks : MethodName := ⟨RX1, "passTicks", "(I)I"⟩
abbrev cX1_passTick : ByteArray := prog_3_method_14_code
def yX1_passTick : MethodName := ⟨RX1, "passTick", "()I"⟩
abbrev cX1_paceIsReached : ByteArray := prog_3_method_15_code
def yX1_paceIsReached : MethodName := ⟨RX1, "paceIsReached", "()Z"⟩
abbrev cX1_loadOnce : ByteArray := prog_3_method_16_code
def yX1_loadOnce : MethodName := ⟨RX1, "loadOnce", "()Z"⟩
abbrev cX1_beginLoading : ByteArray := prog_3_method_17_code
def yX1_beginLoading : MethodName := ⟨RX1, "beginLoading", "()V"⟩
abbrev cX1_nextToLoad : ByteArray := prog_3_method_18_code
def yX1_nextToLoad : MethodName := ⟨RX1, "nextToLoad", "()I"⟩
abbrev cX1_nextInGoodTime : ByteArray := prog_3_method_19_code
def yX1_nextInGoodTime : MethodName := ⟨RX1, "nextInGoodTime", "()I"⟩
abbrev cX1_putOnFire : ByteArray := prog_3_method_20_code
def yX1_putOnFire : MethodName := ⟨RX1, "putOnFire", "(I)V"⟩
abbrev cX1_burnDownTo : ByteArray := prog_3_method_21_code
def yX1_burnDownTo : MethodName := ⟨RX1, "burnDownTo", "(I)V"⟩
abbrev cX1_lineUp : ByteArray := prog_3_method_22_code
def yX1_lineUp : MethodName := ⟨RX1, "lineUp", "()I"⟩
abbrev cX1_weighByUseOrCost : ByteArray := prog_3_method_23_code
def yX1_weighByUseOrCost : MethodName := ⟨RX1, "weighByUseOrCost", "()V"⟩
abbrev cX1_weighByNextUse : ByteArray := prog_3_method_24_code
def yX1_weighByNextUse : MethodName := ⟨RX1, "weighByNextUse", "()V"⟩
abbrev cX1_placeInLine : ByteArray := prog_3_method_25_code
def yX1_placeInLine : MethodName := ⟨RX1, "placeInLine", "(I)I"⟩
abbrev cX1_burningsToLoad : ByteArray := prog_3_method_26_code
def yX1_burningsToLoad : MethodName := ⟨RX1, "burningsToLoad", "(I)I"⟩
abbrev cX1_sumOfCosts : ByteArray := prog_3_method_27_code
def yX1_sumOfCosts : MethodName := ⟨RX1, "sumOfCosts", "()I"⟩
abbrev cX1_sumOfWait : ByteArray := prog_3_method_28_code
def yX1_sumOfWait : MethodName := ⟨RX1, "sumOfWait", "()I"⟩
def RX2 : String := "SlideBonfire$Loader"
def TX2 : u_T := fun k => match k with
  | 0 => ("SlideBonfire$Loader", "slide", "I", false)
  | 1 => ("SlideBonfire$Loader", "left", "I", false)
  | 2 => ("SlideBonfire$Loader", "queued", "I", false)
  | 3 => ("SlideBonfire$Loader", "row", "[I", true)
  | _ => ("SlideBonfire$Loader", "taken", "I", false)
def tyX2 : Nat → FieldType := fun k => match k with
  | 0 => .int
  | 1 => .int
  | 2 => .int
  | 3 => .array .int
  | _ => .int
abbrev wsX20 : List Cond := u_ws RX2 TX2 5
theorem nmX2 : ∀ a, a < 5 → ∀ b, b < 5 → a ≠ b → (TX2 a).2.1 ≠ (TX2 b).2.1 := by decide +kernel
theorem tyX2_ok : ∀ k, k < 5 → parseFieldDescriptor (TX2 k).2.2.1 = some (tyX2 k) := by decide +kernel
abbrev cX2_init : ByteArray := prog_4_method_1_code
def yX2_init : MethodName := ⟨RX2, "<init>", "()V"⟩
abbrev cX2_copyFrom : ByteArray := prog_4_method_2_code
def yX2_copyFrom : MethodName := ⟨RX2, "copyFrom", "(LSlideBonfire$Loader;)V"⟩
abbrev cX2_queuePlace : ByteArray := prog_4_method_3_code
def yX2_queuePlace : MethodName := ⟨RX2, "queuePlace", "(I)I"⟩
abbrev cX2_queue : ByteArray := prog_4_method_4_code
def yX2_queue : MethodName := ⟨RX2, "queue", "(I)V"⟩
abbrev cX2_unqueue : ByteArray := prog_4_method_5_code
def yX2_unqueue : MethodName := ⟨RX2, "unqueue", "(I)V"⟩
def RX3 : String := "SlideBonfire$Programme"
def TX3 : u_T := fun k => match k with
  | 0 => ("SlideBonfire$Programme", "count", "I", false)
  | 1 => ("SlideBonfire$Programme", "place", "I", false)
  | _ => ("SlideBonfire$Programme", "row", "[I", true)
def tyX3 : Nat → FieldType := fun k => match k with
  | 0 => .int
  | 1 => .int
  | _ => .array .int
abbrev wsX30 : List Cond := u_ws RX3 TX3 3
theorem nmX3 : ∀ a, a < 3 → ∀ b, b < 3 → a ≠ b → (TX3 a).2.1 ≠ (TX3 b).2.1 := by decide +kernel
theorem tyX3_ok : ∀ k, k < 3 → parseFieldDescriptor (TX3 k).2.2.1 = some (tyX3 k) := by decide +kernel
abbrev cX3_init : ByteArray := prog_5_method_1_code
def yX3_init : MethodName := ⟨RX3, "<init>", "()V"⟩
abbrev cX3_copyFrom : ByteArray := prog_5_method_2_code
def yX3_copyFrom : MethodName := ⟨RX3, "copyFrom", "(LSlideBonfire$Programme;)V"⟩
abbrev cX3_has : ByteArray := prog_5_method_3_code
def yX3_has : MethodName := ⟨RX3, "has", "(I)Z"⟩
abbrev cX3_put : ByteArray := prog_5_method_4_code
def yX3_put : MethodName := ⟨RX3, "put", "(II)V"⟩
abbrev cX3_remove : ByteArray := prog_5_method_5_code
def yX3_remove : MethodName := ⟨RX3, "remove", "(I)I"⟩
abbrev cX3_advance : ByteArray := prog_5_method_6_code
def yX3_advance : MethodName := ⟨RX3, "advance", "()I"⟩
abbrev cX3_slideAhead : ByteArray := prog_5_method_7_code
def yX3_slideAhead : MethodName := ⟨RX3, "slideAhead", "(I)I"⟩
abbrev cX3_placesUntil : ByteArray := prog_5_method_8_code
def yX3_placesUntil : MethodName := ⟨RX3, "placesUntil", "(I)I"⟩
def RX4 : String := "SlideBonfire$Settings"
def TX4 : u_T := fun k => match k with
  | 0 => ("SlideBonfire$Settings", "memory", "I", false)
  | 1 => ("SlideBonfire$Settings", "ahead", "I", false)
  | 2 => ("SlideBonfire$Settings", "order", "I", false)
  | 3 => ("SlideBonfire$Settings", "glow", "I", false)
  | _ => ("SlideBonfire$Settings", "pace", "I", false)
def tyX4 : Nat → FieldType := fun k => match k with
  | 0 => .int
  | 1 => .int
  | 2 => .int
  | 3 => .int
  | _ => .int
abbrev wsX40 : List Cond := u_ws RX4 TX4 5
theorem nmX4 : ∀ a, a < 5 → ∀ b, b < 5 → a ≠ b → (TX4 a).2.1 ≠ (TX4 b).2.1 := by decide +kernel
theorem tyX4_ok : ∀ k, k < 5 → parseFieldDescriptor (TX4 k).2.2.1 = some (tyX4 k) := by decide +kernel
abbrev cX4_init : ByteArray := prog_6_method_1_code
def yX4_init : MethodName := ⟨RX4, "<init>", "()V"⟩
abbrev cX4_copyFrom : ByteArray := prog_6_method_2_code
def yX4_copyFrom : MethodName := ⟨RX4, "copyFrom", "(LSlideBonfire$Settings;)V"⟩
def RX5 : String := "SlideBonfire$Shelf"
def TX5 : u_T := fun k => match k with
  | 0 => ("SlideBonfire$Shelf", "first", "I", false)
  | 1 => ("SlideBonfire$Shelf", "count", "I", false)
  | _ => ("SlideBonfire$Shelf", "ring", "[LSlideBonfire$Bonfire;", true)
def tyX5 : Nat → FieldType := fun k => match k with
  | 0 => .int
  | 1 => .int
  | _ => .array (.object "SlideBonfire$Bonfire")
abbrev wsX50 : List Cond := u_ws RX5 TX5 3
theorem nmX5 : ∀ a, a < 3 → ∀ b, b < 3 → a ≠ b → (TX5 a).2.1 ≠ (TX5 b).2.1 := by decide +kernel
theorem tyX5_ok : ∀ k, k < 3 → parseFieldDescriptor (TX5 k).2.2.1 = some (tyX5 k) := by decide +kernel
abbrev cX5_init : ByteArray := prog_7_method_1_code
def yX5_init : MethodName := ⟨RX5, "<init>", "()V"⟩
abbrev cX5_push : ByteArray := prog_7_method_2_code
def yX5_push : MethodName := ⟨RX5, "push", "(LSlideBonfire$Bonfire;)V"⟩
abbrev cX5_popInto : ByteArray := prog_7_method_3_code
def yX5_popInto : MethodName := ⟨RX5, "popInto", "(LSlideBonfire$Bonfire;)V"⟩
def RX6 : String := "SlideBonfire$Slides"
def TX6 : u_T := fun k => match k with
  | 0 => ("SlideBonfire$Slides", "count", "I", false)
  | 1 => ("SlideBonfire$Slides", "cost", "[I", true)
  | 2 => ("SlideBonfire$Slides", "load", "[I", true)
  | 3 => ("SlideBonfire$Slides", "fade", "[I", true)
  | 4 => ("SlideBonfire$Slides", "ready", "[Z", true)
  | 5 => ("SlideBonfire$Slides", "ember", "[I", true)
  | 6 => ("SlideBonfire$Slides", "burnt", "[I", true)
  | 7 => ("SlideBonfire$Slides", "usedAt", "[I", true)
  | _ => ("SlideBonfire$Slides", "uses", "I", false)
def tyX6 : Nat → FieldType := fun k => match k with
  | 0 => .int
  | 1 => .array .int
  | 2 => .array .int
  | 3 => .array .int
  | 4 => .array .boolean
  | 5 => .array .int
  | 6 => .array .int
  | 7 => .array .int
  | _ => .int
abbrev wsX60 : List Cond := u_ws RX6 TX6 9
theorem nmX6 : ∀ a, a < 9 → ∀ b, b < 9 → a ≠ b → (TX6 a).2.1 ≠ (TX6 b).2.1 := by decide +kernel
theorem tyX6_ok : ∀ k, k < 9 → parseFieldDescriptor (TX6 k).2.2.1 = some (tyX6 k) := by decide +kernel
abbrev cX6_init : ByteArray := prog_8_method_1_code
def yX6_init : MethodName := ⟨RX6, "<init>", "()V"⟩
abbrev cX6_copyFrom : ByteArray := prog_8_method_2_code
def yX6_copyFrom : MethodName := ⟨RX6, "copyFrom", "(LSlideBonfire$Slides;)V"⟩
abbrev cX6_has : ByteArray := prog_8_method_3_code
def yX6_has : MethodName := ⟨RX6, "has", "(I)Z"⟩
abbrev cX6_isReady : ByteArray := prog_8_method_4_code
def yX6_isReady : MethodName := ⟨RX6, "isReady", "(I)Z"⟩
abbrev cX6_setReady : ByteArray := prog_8_method_5_code
def yX6_setReady : MethodName := ⟨RX6, "setReady", "(IZ)V"⟩
abbrev cX6_add : ByteArray := prog_8_method_6_code
def yX6_add : MethodName := ⟨RX6, "add", "(III)I"⟩
abbrev cX6_ticksToLoad : ByteArray := prog_8_method_7_code
def yX6_ticksToLoad : MethodName := ⟨RX6, "ticksToLoad", "(II)I"⟩
abbrev cX6_use : ByteArray := prog_8_method_8_code
def yX6_use : MethodName := ⟨RX6, "use", "(I)V"⟩
abbrev cX6_coolEmbers : ByteArray := prog_8_method_9_code
def yX6_coolEmbers : MethodName := ⟨RX6, "coolEmbers", "()V"⟩
def RX7 : String := "SlideBonfire$Stage"
def TX7 : u_T := fun k => match k with
  | 0 => ("SlideBonfire$Stage", "shown", "I", false)
  | 1 => ("SlideBonfire$Stage", "shownFor", "I", false)
  | 2 => ("SlideBonfire$Stage", "fading", "I", false)
  | 3 => ("SlideBonfire$Stage", "fadeLeft", "I", false)
  | _ => ("SlideBonfire$Stage", "awaited", "I", false)
def tyX7 : Nat → FieldType := fun k => match k with
  | 0 => .int
  | 1 => .int
  | 2 => .int
  | 3 => .int
  | _ => .int
abbrev wsX70 : List Cond := u_ws RX7 TX7 5
theorem nmX7 : ∀ a, a < 5 → ∀ b, b < 5 → a ≠ b → (TX7 a).2.1 ≠ (TX7 b).2.1 := by decide +kernel
theorem tyX7_ok : ∀ k, k < 5 → parseFieldDescriptor (TX7 k).2.2.1 = some (tyX7 k) := by decide +kernel
abbrev cX7_init : ByteArray := prog_9_method_1_code
def yX7_init : MethodName := ⟨RX7, "<init>", "()V"⟩
abbrev cX7_copyFrom : ByteArray := prog_9_method_2_code
def yX7_copyFrom : MethodName := ⟨RX7, "copyFrom", "(LSlideBonfire$Stage;)V"⟩
abbrev cX7_bears : ByteArray := prog_9_method_3_code
def yX7_bears : MethodName := ⟨RX7, "bears", "(I)Z"⟩
abbrev cX7_bring : ByteArray := prog_9_method_4_code
def yX7_bring : MethodName := ⟨RX7, "bring", "(II)V"⟩
abbrev cX7_fadeOnce : ByteArray := prog_9_method_5_code
def yX7_fadeOnce : MethodName := ⟨RX7, "fadeOnce", "()V"⟩
abbrev cX7_countShown : ByteArray := prog_9_method_6_code
def yX7_countShown : MethodName := ⟨RX7, "countShown", "()V"⟩
def RX8 : String := "SlideBonfire$Text"
def TX8 : u_T := fun k => match k with
  | 0 => ("SlideBonfire$Text", "length", "I", false)
  | 1 => ("SlideBonfire$Text", "codes", "[I", true)
  | 2 => ("SlideBonfire$Text", "letter", "I", false)
  | 3 => ("SlideBonfire$Text", "number", "I", false)
  | _ => ("SlideBonfire$Text", "nextPart", "I", false)
def tyX8 : Nat → FieldType := fun k => match k with
  | 0 => .int
  | 1 => .array .int
  | 2 => .int
  | 3 => .int
  | _ => .int
abbrev wsX80 : List Cond := u_ws RX8 TX8 5
theorem nmX8 : ∀ a, a < 5 → ∀ b, b < 5 → a ≠ b → (TX8 a).2.1 ≠ (TX8 b).2.1 := by decide +kernel
theorem tyX8_ok : ∀ k, k < 5 → parseFieldDescriptor (TX8 k).2.2.1 = some (tyX8 k) := by decide +kernel
abbrev cX8_init : ByteArray := prog_10_method_1_code
def yX8_init : MethodName := ⟨RX8, "<init>", "()V"⟩
abbrev cX8_add : ByteArray := prog_10_method_2_code
def yX8_add : MethodName := ⟨RX8, "add", "(I)V"⟩
abbrev cX8_startReading : ByteArray := prog_10_method_3_code
def yX8_startReading : MethodName := ⟨RX8, "startReading", "()V"⟩
abbrev cX8_startPart : ByteArray := prog_10_method_4_code
def yX8_startPart : MethodName := ⟨RX8, "startPart", "()V"⟩
abbrev cX8_readPart : ByteArray := prog_10_method_5_code
def yX8_readPart : MethodName := ⟨RX8, "readPart", "()Z"⟩
abbrev cX8_readToError : ByteArray := prog_10_method_6_code
def yX8_readToError : MethodName := ⟨RX8, "readToError", "()I"⟩
abbrev cX8_tellsOrders : ByteArray := prog_10_method_7_code
def yX8_tellsOrders : MethodName := ⟨RX8, "tellsOrders", "()Z"⟩
abbrev cX8_partMayEnd : ByteArray := prog_10_method_8_code
def yX8_partMayEnd : MethodName := ⟨RX8, "partMayEnd", "()Z"⟩
abbrev cX8_accept : ByteArray := prog_10_method_9_code
def yX8_accept : MethodName := ⟨RX8, "accept", "(I)Z"⟩
abbrev cX8_acceptDigit : ByteArray := prog_10_method_10_code
def yX8_acceptDigit : MethodName := ⟨RX8, "acceptDigit", "(I)Z"⟩
def RX9 : String := "SlideBonfire"
def TX9 : u_T := fun k => match k with
  | 0 => ("SlideBonfire", "now", "LSlideBonfire$Bonfire;", true)
  | 1 => ("SlideBonfire", "trial", "LSlideBonfire$Bonfire;", true)
  | 2 => ("SlideBonfire", "saved", "LSlideBonfire$Shelf;", true)
  | 3 => ("SlideBonfire", "kept", "[LSlideBonfire$Bonfire;", true)
  | 4 => ("SlideBonfire", "isKept", "[Z", true)
  | _ => ("SlideBonfire", "buffer", "LSlideBonfire$Text;", true)
def tyX9 : Nat → FieldType := fun k => match k with
  | 0 => .object "SlideBonfire$Bonfire"
  | 1 => .object "SlideBonfire$Bonfire"
  | 2 => .object "SlideBonfire$Shelf"
  | 3 => .array (.object "SlideBonfire$Bonfire")
  | 4 => .array .boolean
  | _ => .object "SlideBonfire$Text"
abbrev wsX90 : List Cond := u_ws RX9 TX9 6
theorem nmX9 : ∀ a, a < 6 → ∀ b, b < 6 → a ≠ b → (TX9 a).2.1 ≠ (TX9 b).2.1 := by decide +kernel
theorem tyX9_ok : ∀ k, k < 6 → parseFieldDescriptor (TX9 k).2.2.1 = some (tyX9 k) := by decide +kernel
abbrev cX9_init : ByteArray := prog_1_method_1_code
def yX9_init : MethodName := ⟨RX9, "<init>", "()V"⟩
abbrev cX9_addSlide : ByteArray := prog_1_method_2_code
def yX9_addSlide : MethodName := ⟨RX9, "addSlide", "(III)I"⟩
abbrev cX9_insert : ByteArray := prog_1_method_3_code
def yX9_insert : MethodName := ⟨RX9, "insert", "(II)I"⟩
abbrev cX9_takeOut : ByteArray := prog_1_method_4_code
def yX9_takeOut : MethodName := ⟨RX9, "takeOut", "(I)I"⟩
abbrev cX9_goOn : ByteArray := prog_1_method_5_code
def yX9_goOn : MethodName := ⟨RX9, "goOn", "()Z"⟩
abbrev cX9_ask : ByteArray := prog_1_method_6_code
def yX9_ask : MethodName := ⟨RX9, "ask", "(I)I"⟩
abbrev cX9_burn : ByteArray := prog_1_method_7_code
def yX9_burn : MethodName := ⟨RX9, "burn", "(I)I"⟩
abbrev cX9_tick : ByteArray := prog_1_method_8_code
def yX9_tick : MethodName := ⟨RX9, "tick", "(I)I"⟩
abbrev cX9_changeMemory : ByteArray := prog_1_method_9_code
def yX9_changeMemory : MethodName := ⟨RX9, "changeMemory", "(I)I"⟩
abbrev cX9_changeAhead : ByteArray := prog_1_method_10_code
def yX9_changeAhead : MethodName := ⟨RX9, "changeAhead", "(I)I"⟩
abbrev cX9_changeOrder : ByteArray := prog_1_method_11_code
def yX9_changeOrder : MethodName := ⟨RX9, "changeOrder", "(I)I"⟩
abbrev cX9_changeGlow : ByteArray := prog_1_method_12_code
def yX9_changeGlow : MethodName := ⟨RX9, "changeGlow", "(I)I"⟩
abbrev cX9_changePace : ByteArray := prog_1_method_13_code
def yX9_changePace : MethodName := ⟨RX9, "changePace", "(I)I"⟩
abbrev cX9_append : ByteArray := prog_1_method_14_code
def yX9_append : MethodName := ⟨RX9, "append", "(I)I"⟩
abbrev cX9_clearBuffer : ByteArray := prog_1_method_15_code
def yX9_clearBuffer : MethodName := ⟨RX9, "clearBuffer", "()I"⟩
abbrev cX9_firstError : ByteArray := prog_1_method_16_code
def yX9_firstError : MethodName := ⟨RX9, "firstError", "()I"⟩
abbrev cX9_follow : ByteArray := prog_1_method_17_code
def yX9_follow : MethodName := ⟨RX9, "follow", "()I"⟩
abbrev cX9_keep : ByteArray := prog_1_method_18_code
def yX9_keep : MethodName := ⟨RX9, "keep", "(I)V"⟩
abbrev cX9_goBack : ByteArray := prog_1_method_19_code
def yX9_goBack : MethodName := ⟨RX9, "goBack", "(I)V"⟩
abbrev cX9_undo : ByteArray := prog_1_method_20_code
def yX9_undo : MethodName := ⟨RX9, "undo", "()V"⟩
abbrev cX9_savedStates : ByteArray := prog_1_method_21_code
def yX9_savedStates : MethodName := ⟨RX9, "savedStates", "()I"⟩
abbrev cX9_slides : ByteArray := prog_1_method_22_code
def yX9_slides : MethodName := ⟨RX9, "slides", "()I"⟩
abbrev cX9_costOf : ByteArray := prog_1_method_23_code
def yX9_costOf : MethodName := ⟨RX9, "costOf", "(I)I"⟩
abbrev cX9_loadOf : ByteArray := prog_1_method_24_code
def yX9_loadOf : MethodName := ⟨RX9, "loadOf", "(I)I"⟩
abbrev cX9_fadeOf : ByteArray := prog_1_method_25_code
def yX9_fadeOf : MethodName := ⟨RX9, "fadeOf", "(I)I"⟩
abbrev cX9_isLoaded : ByteArray := prog_1_method_26_code
def yX9_isLoaded : MethodName := ⟨RX9, "isLoaded", "(I)Z"⟩
abbrev cX9_isOnShow : ByteArray := prog_1_method_27_code
def yX9_isOnShow : MethodName := ⟨RX9, "isOnShow", "(I)Z"⟩
abbrev cX9_glowOf : ByteArray := prog_1_method_28_code
def yX9_glowOf : MethodName := ⟨RX9, "glowOf", "(I)I"⟩
abbrev cX9_burntTimes : ByteArray := prog_1_method_29_code
def yX9_burntTimes : MethodName := ⟨RX9, "burntTimes", "(I)I"⟩
abbrev cX9_nextUse : ByteArray := prog_1_method_30_code
def yX9_nextUse : MethodName := ⟨RX9, "nextUse", "(I)I"⟩
abbrev cX9_burnPlace : ByteArray := prog_1_method_31_code
def yX9_burnPlace : MethodName := ⟨RX9, "burnPlace", "(I)I"⟩
abbrev cX9_places : ByteArray := prog_1_method_32_code
def yX9_places : MethodName := ⟨RX9, "places", "()I"⟩
abbrev cX9_slideAt : ByteArray := prog_1_method_33_code
def yX9_slideAt : MethodName := ⟨RX9, "slideAt", "(I)I"⟩
abbrev cX9_showPlace : ByteArray := prog_1_method_34_code
def yX9_showPlace : MethodName := ⟨RX9, "showPlace", "()I"⟩
abbrev cX9_shown : ByteArray := prog_1_method_35_code
def yX9_shown : MethodName := ⟨RX9, "shown", "()I"⟩
abbrev cX9_fading : ByteArray := prog_1_method_36_code
def yX9_fading : MethodName := ⟨RX9, "fading", "()I"⟩
abbrev cX9_fadeLeft : ByteArray := prog_1_method_37_code
def yX9_fadeLeft : MethodName := ⟨RX9, "fadeLeft", "()I"⟩
abbrev cX9_awaited : ByteArray := prog_1_method_38_code
def yX9_awaited : MethodName := ⟨RX9, "awaited", "()I"⟩
abbrev cX9_shownFor : ByteArray := prog_1_method_39_code
def yX9_shownFor : MethodName := ⟨RX9, "shownFor", "()I"⟩
abbrev cX9_loading : ByteArray := prog_1_method_40_code
def yX9_loading : MethodName := ⟨RX9, "loading", "()I"⟩
abbrev cX9_loadLeft : ByteArray := prog_1_method_41_code
def yX9_loadLeft : MethodName := ⟨RX9, "loadLeft", "()I"⟩
abbrev cX9_asked : ByteArray := prog_1_method_42_code
def yX9_asked : MethodName := ⟨RX9, "asked", "()I"⟩
abbrev cX9_askedAt : ByteArray := prog_1_method_43_code
def yX9_askedAt : MethodName := ⟨RX9, "askedAt", "(I)I"⟩
abbrev cX9_takenBySlides : ByteArray := prog_1_method_44_code
def yX9_takenBySlides : MethodName := ⟨RX9, "takenBySlides", "()I"⟩
abbrev cX9_takenByAccount : ByteArray := prog_1_method_45_code
def yX9_takenByAccount : MethodName := ⟨RX9, "takenByAccount", "()I"⟩
abbrev cX9_memory : ByteArray := prog_1_method_46_code
def yX9_memory : MethodName := ⟨RX9, "memory", "()I"⟩
abbrev cX9_ahead : ByteArray := prog_1_method_47_code
def yX9_ahead : MethodName := ⟨RX9, "ahead", "()I"⟩
abbrev cX9_order : ByteArray := prog_1_method_48_code
def yX9_order : MethodName := ⟨RX9, "order", "()I"⟩
abbrev cX9_glow : ByteArray := prog_1_method_49_code
def yX9_glow : MethodName := ⟨RX9, "glow", "()I"⟩
abbrev cX9_pace : ByteArray := prog_1_method_50_code
def yX9_pace : MethodName := ⟨RX9, "pace", "()I"⟩
abbrev cX9_ticksToShowByTicks : ByteArray := prog_1_method_51_code
def yX9_ticksToShowByTicks : MethodName := ⟨RX9, "ticksToShowByTicks", "()I"⟩
abbrev cX9_ticksToShowBySums : ByteArray := prog_1_method_52_code
def yX9_ticksToShowBySums : MethodName := ⟨RX9, "ticksToShowBySums", "()I"⟩
abbrev cX9_burningsFor : ByteArray := prog_1_method_53_code
def yX9_burningsFor : MethodName := ⟨RX9, "burningsFor", "(I)I"⟩
abbrev cX9_missesWith : ByteArray := prog_1_method_54_code
def yX9_missesWith : MethodName := ⟨RX9, "missesWith", "(I)I"⟩
abbrev cX9_bestOrder : ByteArray := prog_1_method_55_code
def yX9_bestOrder : MethodName := ⟨RX9, "bestOrder", "()I"⟩
abbrev cX9_time : ByteArray := prog_1_method_56_code
def yX9_time : MethodName := ⟨RX9, "time", "()I"⟩
abbrev cX9_hits : ByteArray := prog_1_method_57_code
def yX9_hits : MethodName := ⟨RX9, "hits", "()I"⟩
abbrev cX9_misses : ByteArray := prog_1_method_58_code
def yX9_misses : MethodName := ⟨RX9, "misses", "()I"⟩
abbrev cX9_loads : ByteArray := prog_1_method_59_code
def yX9_loads : MethodName := ⟨RX9, "loads", "()I"⟩
abbrev cX9_warmLoads : ByteArray := prog_1_method_60_code
def yX9_warmLoads : MethodName := ⟨RX9, "warmLoads", "()I"⟩
abbrev cX9_burnings : ByteArray := prog_1_method_61_code
def yX9_burnings : MethodName := ⟨RX9, "burnings", "()I"⟩
abbrev cX9_waited : ByteArray := prog_1_method_62_code
def yX9_waited : MethodName := ⟨RX9, "waited", "()I"⟩
abbrev cX9_hitShare : ByteArray := prog_1_method_63_code
def yX9_hitShare : MethodName := ⟨RX9, "hitShare", "()D"⟩
abbrev cX9_digest : ByteArray := prog_1_method_64_code
def yX9_digest : MethodName := ⟨RX9, "digest", "()J"⟩
abbrev cX9_mix : ByteArray := prog_1_method_65_code
def yX9_mix : MethodName := ⟨RX9, "mix", "(JJ)J"⟩
abbrev cX9_mixSlide : ByteArray := prog_1_method_66_code
def yX9_mixSlide : MethodName := ⟨RX9, "mixSlide", "(JI)J"⟩
abbrev cX9_mixProgramme : ByteArray := prog_1_method_67_code
def yX9_mixProgramme : MethodName := ⟨RX9, "mixProgramme", "(J)J"⟩
abbrev cX9_mixLoading : ByteArray := prog_1_method_68_code
def yX9_mixLoading : MethodName := ⟨RX9, "mixLoading", "(J)J"⟩
abbrev cX9_mixAccounts : ByteArray := prog_1_method_69_code
def yX9_mixAccounts : MethodName := ⟨RX9, "mixAccounts", "(J)J"⟩
abbrev cX9_bitsOfShare : ByteArray := prog_1_method_70_code
def yX9_bitsOfShare : MethodName := ⟨RX9, "bitsOfShare", "(D)J"⟩
abbrev cX9_waitOnTrial : ByteArray := prog_1_method_71_code
def yX9_waitOnTrial : MethodName := ⟨RX9, "waitOnTrial", "()I"⟩
abbrev cX9_missesOnTrial : ByteArray := prog_1_method_72_code
def yX9_missesOnTrial : MethodName := ⟨RX9, "missesOnTrial", "(I)I"⟩
abbrev cX9_hasSnapshot : ByteArray := prog_1_method_73_code
def yX9_hasSnapshot : MethodName := ⟨RX9, "hasSnapshot", "(I)Z"⟩
abbrev cX9_needArgument : ByteArray := prog_1_method_74_code
def yX9_needArgument : MethodName := ⟨RX9, "needArgument", "(Z)V"⟩
abbrev cX9_needIndex : ByteArray := prog_1_method_75_code
def yX9_needIndex : MethodName := ⟨RX9, "needIndex", "(Z)V"⟩
abbrev cX9_needState : ByteArray := prog_1_method_76_code
def yX9_needState : MethodName := ⟨RX9, "needState", "(Z)V"⟩
abbrev cX9_isWithin : ByteArray := prog_1_method_77_code
def yX9_isWithin : MethodName := ⟨RX9, "isWithin", "(III)Z"⟩
abbrev cX9_at : ByteArray := prog_1_method_78_code
def yX9_at : MethodName := ⟨RX9, "at", "([II)I"⟩
abbrev cX9_set : ByteArray := prog_1_method_79_code
def yX9_set : MethodName := ⟨RX9, "set", "([III)V"⟩
abbrev cX9_copyRow : ByteArray := prog_1_method_80_code
def yX9_copyRow : MethodName := ⟨RX9, "copyRow", "([I[I)V"⟩
def RX10 : String := "SlideBonfireModel"
def TX10 : u_T := fun k => match k with
  | 0 => ("SlideBonfireModel", "s", "[I", true)
  | 1 => ("SlideBonfireModel", "before", "[I", true)
  | 2 => ("SlideBonfireModel", "known", "I", false)
  | 3 => ("SlideBonfireModel", "slots", "[I", true)
  | 4 => ("SlideBonfireModel", "isKept", "[Z", true)
  | 5 => ("SlideBonfireModel", "aside", "[I", true)
  | 6 => ("SlideBonfireModel", "trial", "[I", true)
  | 7 => ("SlideBonfireModel", "buffer", "[I", true)
  | 8 => ("SlideBonfireModel", "length", "I", false)
  | 9 => ("SlideBonfireModel", "thrown", "I", false)
  | 10 => ("SlideBonfireModel", "showings", "I", false)
  | 11 => ("SlideBonfireModel", "at", "I", false)
  | 12 => ("SlideBonfireModel", "isWrong", "Z", false)
  | 13 => ("SlideBonfireModel", "orders", "I", false)
  | _ => ("SlideBonfireModel", "hash", "J", false)
def tyX10 : Nat → FieldType := fun k => match k with
  | 0 => .array .int
  | 1 => .array .int
  | 2 => .int
  | 3 => .array .int
  | 4 => .array .boolean
  | 5 => .array .int
  | 6 => .array .int
  | 7 => .array .int
  | 8 => .int
  | 9 => .int
  | 10 => .int
  | 11 => .int
  | 12 => .boolean
  | 13 => .int
  | _ => .long
abbrev wsX100 : List Cond := u_ws RX10 TX10 15
theorem nmX10 : ∀ a, a < 15 → ∀ b, b < 15 → a ≠ b → (TX10 a).2.1 ≠ (TX10 b).2.1 := by decide +kernel
theorem tyX10_ok : ∀ k, k < 15 → parseFieldDescriptor (TX10 k).2.2.1 = some (tyX10 k) := by decide +kernel
abbrev cX10_init : ByteArray := prog_12_method_1_code
def yX10_init : MethodName := ⟨RX10, "<init>", "()V"⟩
abbrev cX10_thrown : ByteArray := prog_12_method_2_code
def yX10_thrown : MethodName := ⟨RX10, "thrown", "()I"⟩
abbrev cX10_throwing : ByteArray := prog_12_method_3_code
def yX10_throwing : MethodName := ⟨RX10, "throwing", "(I)I"⟩
abbrev cX10_in : ByteArray := prog_12_method_4_code
def yX10_in : MethodName := ⟨RX10, "in", "(III)Z"⟩
abbrev cX10_save : ByteArray := prog_12_method_5_code
def yX10_save : MethodName := ⟨RX10, "save", "()V"⟩
abbrev cX10_of : ByteArray := prog_12_method_6_code
def yX10_of : MethodName := ⟨RX10, "of", "(II)I"⟩
abbrev cX10_lay : ByteArray := prog_12_method_7_code
def yX10_lay : MethodName := ⟨RX10, "lay", "(III)V"⟩
abbrev cX10_isThere : ByteArray := prog_12_method_8_code
def yX10_isThere : MethodName := ⟨RX10, "isThere", "(I)Z"⟩
abbrev cX10_loaded : ByteArray := prog_12_method_9_code
def yX10_loaded : MethodName := ⟨RX10, "loaded", "(I)Z"⟩
abbrev cX10_onShow : ByteArray := prog_12_method_10_code
def yX10_onShow : MethodName := ⟨RX10, "onShow", "(I)Z"⟩
abbrev cX10_taken : ByteArray := prog_12_method_11_code
def yX10_taken : MethodName := ⟨RX10, "taken", "()I"⟩
abbrev cX10_nextOf : ByteArray := prog_12_method_12_code
def yX10_nextOf : MethodName := ⟨RX10, "nextOf", "(I)I"⟩
abbrev cX10_isFirst : ByteArray := prog_12_method_13_code
def yX10_isFirst : MethodName := ⟨RX10, "isFirst", "(II)Z"⟩
abbrev cX10_canBurn : ByteArray := prog_12_method_14_code
def yX10_canBurn : MethodName := ⟨RX10, "canBurn", "(I)Z"⟩
abbrev cX10_nextToBurn : ByteArray := prog_12_method_15_code
def yX10_nextToBurn : MethodName := ⟨RX10, "nextToBurn", "()I"⟩
abbrev cX10_burns : ByteArray := prog_12_method_16_code
def yX10_burns : MethodName := ⟨RX10, "burns", "(I)I"⟩
abbrev cX10_makesRoom : ByteArray := prog_12_method_17_code
def yX10_makesRoom : MethodName := ⟨RX10, "makesRoom", "(I)I"⟩
abbrev cX10_due : ByteArray := prog_12_method_18_code
def yX10_due : MethodName := ⟨RX10, "due", "(I)I"⟩
abbrev cX10_starts : ByteArray := prog_12_method_19_code
def yX10_starts : MethodName := ⟨RX10, "starts", "(I)V"⟩
abbrev cX10_forgets : ByteArray := prog_12_method_20_code
def yX10_forgets : MethodName := ⟨RX10, "forgets", "(I)V"⟩
abbrev cX10_begins : ByteArray := prog_12_method_21_code
def yX10_begins : MethodName := ⟨RX10, "begins", "()V"⟩
abbrev cX10_uses : ByteArray := prog_12_method_22_code
def yX10_uses : MethodName := ⟨RX10, "uses", "(I)V"⟩
abbrev cX10_shows : ByteArray := prog_12_method_23_code
def yX10_shows : MethodName := ⟨RX10, "shows", "(I)V"⟩
abbrev cX10_goesOn : ByteArray := prog_12_method_24_code
def yX10_goesOn : MethodName := ⟨RX10, "goesOn", "()Z"⟩
abbrev cX10_ticks : ByteArray := prog_12_method_25_code
def yX10_ticks : MethodName := ⟨RX10, "ticks", "()V"⟩
abbrev cX10_inserts : ByteArray := prog_12_method_26_code
def yX10_inserts : MethodName := ⟨RX10, "inserts", "(II)I"⟩
abbrev cX10_canGoOn : ByteArray := prog_12_method_27_code
def yX10_canGoOn : MethodName := ⟨RX10, "canGoOn", "()Z"⟩
abbrev cX10_isAsked : ByteArray := prog_12_method_28_code
def yX10_isAsked : MethodName := ⟨RX10, "isAsked", "(I)Z"⟩
abbrev cX10_canAsk : ByteArray := prog_12_method_29_code
def yX10_canAsk : MethodName := ⟨RX10, "canAsk", "(I)Z"⟩
abbrev cX10_asks : ByteArray := prog_12_method_30_code
def yX10_asks : MethodName := ⟨RX10, "asks", "(I)I"⟩
abbrev cX10_passes : ByteArray := prog_12_method_31_code
def yX10_passes : MethodName := ⟨RX10, "passes", "(I)I"⟩
abbrev cX10_addSlide : ByteArray := prog_12_method_32_code
def yX10_addSlide : MethodName := ⟨RX10, "addSlide", "(III)I"⟩
abbrev cX10_insert : ByteArray := prog_12_method_33_code
def yX10_insert : MethodName := ⟨RX10, "insert", "(II)I"⟩
abbrev cX10_takeOut : ByteArray := prog_12_method_34_code
def yX10_takeOut : MethodName := ⟨RX10, "takeOut", "(I)I"⟩
abbrev cX10_goOn : ByteArray := prog_12_method_35_code
def yX10_goOn : MethodName := ⟨RX10, "goOn", "()Z"⟩
abbrev cX10_ask : ByteArray := prog_12_method_36_code
def yX10_ask : MethodName := ⟨RX10, "ask", "(I)I"⟩
abbrev cX10_burn : ByteArray := prog_12_method_37_code
def yX10_burn : MethodName := ⟨RX10, "burn", "(I)I"⟩
abbrev cX10_tick : ByteArray := prog_12_method_38_code
def yX10_tick : MethodName := ⟨RX10, "tick", "(I)I"⟩
abbrev cX10_changes : ByteArray := prog_12_method_39_code
def yX10_changes : MethodName := ⟨RX10, "changes", "(IIII)I"⟩
abbrev cX10_changeMemory : ByteArray := prog_12_method_40_code
def yX10_changeMemory : MethodName := ⟨RX10, "changeMemory", "(I)I"⟩
abbrev cX10_changeAhead : ByteArray := prog_12_method_41_code
def yX10_changeAhead : MethodName := ⟨RX10, "changeAhead", "(I)I"⟩
abbrev cX10_changeOrder : ByteArray := prog_12_method_42_code
def yX10_changeOrder : MethodName := ⟨RX10, "changeOrder", "(I)I"⟩
abbrev cX10_changeGlow : ByteArray := prog_12_method_43_code
def yX10_changeGlow : MethodName := ⟨RX10, "changeGlow", "(I)I"⟩
abbrev cX10_changePace : ByteArray := prog_12_method_44_code
def yX10_changePace : MethodName := ⟨RX10, "changePace", "(I)I"⟩
abbrev cX10_append : ByteArray := prog_12_method_45_code
def yX10_append : MethodName := ⟨RX10, "append", "(I)I"⟩
abbrev cX10_clearBuffer : ByteArray := prog_12_method_46_code
def yX10_clearBuffer : MethodName := ⟨RX10, "clearBuffer", "()I"⟩
abbrev cX10_sign : ByteArray := prog_12_method_47_code
def yX10_sign : MethodName := ⟨RX10, "sign", "(II)I"⟩
abbrev cX10_number : ByteArray := prog_12_method_48_code
def yX10_number : MethodName := ⟨RX10, "number", "(II)I"⟩
abbrev cX10_isOrdered : ByteArray := prog_12_method_49_code
def yX10_isOrdered : MethodName := ⟨RX10, "isOrdered", "(Z)Z"⟩
abbrev cX10_isFollowed : ByteArray := prog_12_method_50_code
def yX10_isFollowed : MethodName := ⟨RX10, "isFollowed", "(II)Z"⟩
abbrev cX10_go : ByteArray := prog_12_method_51_code
def yX10_go : MethodName := ⟨RX10, "go", "(Z)Z"⟩
abbrev cX10_firstError : ByteArray := prog_12_method_52_code
def yX10_firstError : MethodName := ⟨RX10, "firstError", "()I"⟩
abbrev cX10_keepsAside : ByteArray := prog_12_method_53_code
def yX10_keepsAside : MethodName := ⟨RX10, "keepsAside", "()V"⟩
abbrev cX10_putsBack : ByteArray := prog_12_method_54_code
def yX10_putsBack : MethodName := ⟨RX10, "putsBack", "()V"⟩
abbrev cX10_follow : ByteArray := prog_12_method_55_code
def yX10_follow : MethodName := ⟨RX10, "follow", "()I"⟩
abbrev cX10_keep : ByteArray := prog_12_method_56_code
def yX10_keep : MethodName := ⟨RX10, "keep", "(I)V"⟩
abbrev cX10_goBack : ByteArray := prog_12_method_57_code
def yX10_goBack : MethodName := ⟨RX10, "goBack", "(I)V"⟩
abbrev cX10_undo : ByteArray := prog_12_method_58_code
def yX10_undo : MethodName := ⟨RX10, "undo", "()V"⟩
abbrev cX10_savedStates : ByteArray := prog_12_method_59_code
def yX10_savedStates : MethodName := ⟨RX10, "savedStates", "()I"⟩
abbrev cX10_rule : ByteArray := prog_12_method_60_code
def yX10_rule : MethodName := ⟨RX10, "rule", "(I)I"⟩
abbrev cX10_slides : ByteArray := prog_12_method_61_code
def yX10_slides : MethodName := ⟨RX10, "slides", "()I"⟩
abbrev cX10_costOf : ByteArray := prog_12_method_62_code
def yX10_costOf : MethodName := ⟨RX10, "costOf", "(I)I"⟩
abbrev cX10_loadOf : ByteArray := prog_12_method_63_code
def yX10_loadOf : MethodName := ⟨RX10, "loadOf", "(I)I"⟩
abbrev cX10_fadeOf : ByteArray := prog_12_method_64_code
def yX10_fadeOf : MethodName := ⟨RX10, "fadeOf", "(I)I"⟩
abbrev cX10_isLoaded : ByteArray := prog_12_method_65_code
def yX10_isLoaded : MethodName := ⟨RX10, "isLoaded", "(I)Z"⟩
abbrev cX10_isOnShow : ByteArray := prog_12_method_66_code
def yX10_isOnShow : MethodName := ⟨RX10, "isOnShow", "(I)Z"⟩
abbrev cX10_glowOf : ByteArray := prog_12_method_67_code
def yX10_glowOf : MethodName := ⟨RX10, "glowOf", "(I)I"⟩
abbrev cX10_burntTimes : ByteArray := prog_12_method_68_code
def yX10_burntTimes : MethodName := ⟨RX10, "burntTimes", "(I)I"⟩
abbrev cX10_nextUse : ByteArray := prog_12_method_69_code
def yX10_nextUse : MethodName := ⟨RX10, "nextUse", "(I)I"⟩
abbrev cX10_inOrder : ByteArray := prog_12_method_70_code
def yX10_inOrder : MethodName := ⟨RX10, "inOrder", "(I)I"⟩
abbrev cX10_burnPlace : ByteArray := prog_12_method_71_code
def yX10_burnPlace : MethodName := ⟨RX10, "burnPlace", "(I)I"⟩
abbrev cX10_places : ByteArray := prog_12_method_72_code
def yX10_places : MethodName := ⟨RX10, "places", "()I"⟩
abbrev cX10_slideAt : ByteArray := prog_12_method_73_code
def yX10_slideAt : MethodName := ⟨RX10, "slideAt", "(I)I"⟩
abbrev cX10_told : ByteArray := prog_12_method_74_code
def yX10_told : MethodName := ⟨RX10, "told", "(I)I"⟩
abbrev cX10_showPlace : ByteArray := prog_12_method_75_code
def yX10_showPlace : MethodName := ⟨RX10, "showPlace", "()I"⟩
abbrev cX10_shown : ByteArray := prog_12_method_76_code
def yX10_shown : MethodName := ⟨RX10, "shown", "()I"⟩
abbrev cX10_fading : ByteArray := prog_12_method_77_code
def yX10_fading : MethodName := ⟨RX10, "fading", "()I"⟩
abbrev cX10_fadeLeft : ByteArray := prog_12_method_78_code
def yX10_fadeLeft : MethodName := ⟨RX10, "fadeLeft", "()I"⟩
abbrev cX10_awaited : ByteArray := prog_12_method_79_code
def yX10_awaited : MethodName := ⟨RX10, "awaited", "()I"⟩
abbrev cX10_shownFor : ByteArray := prog_12_method_80_code
def yX10_shownFor : MethodName := ⟨RX10, "shownFor", "()I"⟩
abbrev cX10_loading : ByteArray := prog_12_method_81_code
def yX10_loading : MethodName := ⟨RX10, "loading", "()I"⟩
abbrev cX10_loadLeft : ByteArray := prog_12_method_82_code
def yX10_loadLeft : MethodName := ⟨RX10, "loadLeft", "()I"⟩
abbrev cX10_asked : ByteArray := prog_12_method_83_code
def yX10_asked : MethodName := ⟨RX10, "asked", "()I"⟩
abbrev cX10_askedAt : ByteArray := prog_12_method_84_code
def yX10_askedAt : MethodName := ⟨RX10, "askedAt", "(I)I"⟩
abbrev cX10_takenBySlides : ByteArray := prog_12_method_85_code
def yX10_takenBySlides : MethodName := ⟨RX10, "takenBySlides", "()I"⟩
abbrev cX10_takenByAccount : ByteArray := prog_12_method_86_code
def yX10_takenByAccount : MethodName := ⟨RX10, "takenByAccount", "()I"⟩
abbrev cX10_memory : ByteArray := prog_12_method_87_code
def yX10_memory : MethodName := ⟨RX10, "memory", "()I"⟩
abbrev cX10_ahead : ByteArray := prog_12_method_88_code
def yX10_ahead : MethodName := ⟨RX10, "ahead", "()I"⟩
abbrev cX10_order : ByteArray := prog_12_method_89_code
def yX10_order : MethodName := ⟨RX10, "order", "()I"⟩
abbrev cX10_glow : ByteArray := prog_12_method_90_code
def yX10_glow : MethodName := ⟨RX10, "glow", "()I"⟩
abbrev cX10_pace : ByteArray := prog_12_method_91_code
def yX10_pace : MethodName := ⟨RX10, "pace", "()I"⟩
abbrev cX10_untilShown : ByteArray := prog_12_method_92_code
def yX10_untilShown : MethodName := ⟨RX10, "untilShown", "()I"⟩
abbrev cX10_toldTicks : ByteArray := prog_12_method_93_code
def yX10_toldTicks : MethodName := ⟨RX10, "toldTicks", "()I"⟩
abbrev cX10_ticksToShowByTicks : ByteArray := prog_12_method_94_code
def yX10_ticksToShowByTicks : MethodName := ⟨RX10, "ticksToShowByTicks", "()I"⟩
abbrev cX10_ticksToShowBySums : ByteArray := prog_12_method_95_code
def yX10_ticksToShowBySums : MethodName := ⟨RX10, "ticksToShowBySums", "()I"⟩
abbrev cX10_burningsOf : ByteArray := prog_12_method_96_code
def yX10_burningsOf : MethodName := ⟨RX10, "burningsOf", "(I)I"⟩
abbrev cX10_burningsFor : ByteArray := prog_12_method_97_code
def yX10_burningsFor : MethodName := ⟨RX10, "burningsFor", "(I)I"⟩
abbrev cX10_missing : ByteArray := prog_12_method_98_code
def yX10_missing : MethodName := ⟨RX10, "missing", "(I)I"⟩
abbrev cX10_missesWith : ByteArray := prog_12_method_99_code
def yX10_missesWith : MethodName := ⟨RX10, "missesWith", "(I)I"⟩
abbrev cX10_bestOrder : ByteArray := prog_12_method_100_code
def yX10_bestOrder : MethodName := ⟨RX10, "bestOrder", "()I"⟩
abbrev cX10_loads : ByteArray := prog_12_method_101_code
def yX10_loads : MethodName := ⟨RX10, "loads", "()I"⟩
abbrev cX10_burnings : ByteArray := prog_12_method_102_code
def yX10_burnings : MethodName := ⟨RX10, "burnings", "()I"⟩
abbrev cX10_time : ByteArray := prog_12_method_103_code
def yX10_time : MethodName := ⟨RX10, "time", "()I"⟩
abbrev cX10_hits : ByteArray := prog_12_method_104_code
def yX10_hits : MethodName := ⟨RX10, "hits", "()I"⟩
abbrev cX10_misses : ByteArray := prog_12_method_105_code
def yX10_misses : MethodName := ⟨RX10, "misses", "()I"⟩
abbrev cX10_warmLoads : ByteArray := prog_12_method_106_code
def yX10_warmLoads : MethodName := ⟨RX10, "warmLoads", "()I"⟩
abbrev cX10_waited : ByteArray := prog_12_method_107_code
def yX10_waited : MethodName := ⟨RX10, "waited", "()I"⟩
abbrev cX10_share : ByteArray := prog_12_method_108_code
def yX10_share : MethodName := ⟨RX10, "share", "()D"⟩
abbrev cX10_hitShare : ByteArray := prog_12_method_109_code
def yX10_hitShare : MethodName := ⟨RX10, "hitShare", "()D"⟩
abbrev cX10_bitsOf : ByteArray := prog_12_method_110_code
def yX10_bitsOf : MethodName := ⟨RX10, "bitsOf", "(DII)J"⟩
abbrev cX10_mix : ByteArray := prog_12_method_111_code
def yX10_mix : MethodName := ⟨RX10, "mix", "(J)V"⟩
abbrev cX10_mixesSlide : ByteArray := prog_12_method_112_code
def yX10_mixesSlide : MethodName := ⟨RX10, "mixesSlide", "(I)V"⟩
abbrev cX10_digest : ByteArray := prog_12_method_113_code
def yX10_digest : MethodName := ⟨RX10, "digest", "()J"⟩
def RL : String := "SlideBonfireLaw"
abbrev cL_addSlide : ByteArray := method_3_code
def yL_addSlide : MethodName := ⟨RL, "addSlide", "(LSlideBonfire;III[J)I"⟩
abbrev cL_insert : ByteArray := method_4_code
def yL_insert : MethodName := ⟨RL, "insert", "(LSlideBonfire;II[J)I"⟩
abbrev cL_takeOut : ByteArray := method_5_code
def yL_takeOut : MethodName := ⟨RL, "takeOut", "(LSlideBonfire;I[J)I"⟩
abbrev cL_goOn : ByteArray := method_6_code
def yL_goOn : MethodName := ⟨RL, "goOn", "(LSlideBonfire;[J)I"⟩
abbrev cL_ask : ByteArray := method_7_code
def yL_ask : MethodName := ⟨RL, "ask", "(LSlideBonfire;I[J)I"⟩
abbrev cL_burn : ByteArray := method_8_code
def yL_burn : MethodName := ⟨RL, "burn", "(LSlideBonfire;I[J)I"⟩
abbrev cL_tick : ByteArray := method_9_code
def yL_tick : MethodName := ⟨RL, "tick", "(LSlideBonfire;I[J)I"⟩
abbrev cL_changeMemory : ByteArray := method_10_code
def yL_changeMemory : MethodName := ⟨RL, "changeMemory", "(LSlideBonfire;I[J)I"⟩
abbrev cL_changeAhead : ByteArray := method_11_code
def yL_changeAhead : MethodName := ⟨RL, "changeAhead", "(LSlideBonfire;I[J)I"⟩
abbrev cL_changeOrder : ByteArray := method_12_code
def yL_changeOrder : MethodName := ⟨RL, "changeOrder", "(LSlideBonfire;I[J)I"⟩
abbrev cL_changeGlow : ByteArray := method_13_code
def yL_changeGlow : MethodName := ⟨RL, "changeGlow", "(LSlideBonfire;I[J)I"⟩
abbrev cL_changePace : ByteArray := method_14_code
def yL_changePace : MethodName := ⟨RL, "changePace", "(LSlideBonfire;I[J)I"⟩
abbrev cL_append : ByteArray := method_15_code
def yL_append : MethodName := ⟨RL, "append", "(LSlideBonfire;I[J)I"⟩
abbrev cL_follow : ByteArray := method_16_code
def yL_follow : MethodName := ⟨RL, "follow", "(LSlideBonfire;[J)I"⟩
abbrev cL_keep : ByteArray := method_17_code
def yL_keep : MethodName := ⟨RL, "keep", "(LSlideBonfire;I)I"⟩
abbrev cL_goBack : ByteArray := method_18_code
def yL_goBack : MethodName := ⟨RL, "goBack", "(LSlideBonfire;I)I"⟩
abbrev cL_undo : ByteArray := method_19_code
def yL_undo : MethodName := ⟨RL, "undo", "(LSlideBonfire;)I"⟩
abbrev cL_costOf : ByteArray := method_20_code
def yL_costOf : MethodName := ⟨RL, "costOf", "(LSlideBonfire;I[J)I"⟩
abbrev cL_loadOf : ByteArray := method_21_code
def yL_loadOf : MethodName := ⟨RL, "loadOf", "(LSlideBonfire;I[J)I"⟩
abbrev cL_fadeOf : ByteArray := method_22_code
def yL_fadeOf : MethodName := ⟨RL, "fadeOf", "(LSlideBonfire;I[J)I"⟩
abbrev cL_isLoaded : ByteArray := method_23_code
def yL_isLoaded : MethodName := ⟨RL, "isLoaded", "(LSlideBonfire;I[J)I"⟩
abbrev cL_isOnShow : ByteArray := method_24_code
def yL_isOnShow : MethodName := ⟨RL, "isOnShow", "(LSlideBonfire;I[J)I"⟩
abbrev cL_glowOf : ByteArray := method_25_code
def yL_glowOf : MethodName := ⟨RL, "glowOf", "(LSlideBonfire;I[J)I"⟩
abbrev cL_burntTimes : ByteArray := method_26_code
def yL_burntTimes : MethodName := ⟨RL, "burntTimes", "(LSlideBonfire;I[J)I"⟩
abbrev cL_nextUse : ByteArray := method_27_code
def yL_nextUse : MethodName := ⟨RL, "nextUse", "(LSlideBonfire;I[J)I"⟩
abbrev cL_burnPlace : ByteArray := method_28_code
def yL_burnPlace : MethodName := ⟨RL, "burnPlace", "(LSlideBonfire;I[J)I"⟩
abbrev cL_slideAt : ByteArray := method_29_code
def yL_slideAt : MethodName := ⟨RL, "slideAt", "(LSlideBonfire;I[J)I"⟩
abbrev cL_showPlace : ByteArray := method_30_code
def yL_showPlace : MethodName := ⟨RL, "showPlace", "(LSlideBonfire;[J)I"⟩
abbrev cL_shown : ByteArray := method_31_code
def yL_shown : MethodName := ⟨RL, "shown", "(LSlideBonfire;[J)I"⟩
abbrev cL_fading : ByteArray := method_32_code
def yL_fading : MethodName := ⟨RL, "fading", "(LSlideBonfire;[J)I"⟩
abbrev cL_awaited : ByteArray := method_33_code
def yL_awaited : MethodName := ⟨RL, "awaited", "(LSlideBonfire;[J)I"⟩
abbrev cL_shownFor : ByteArray := method_34_code
def yL_shownFor : MethodName := ⟨RL, "shownFor", "(LSlideBonfire;[J)I"⟩
abbrev cL_loading : ByteArray := method_35_code
def yL_loading : MethodName := ⟨RL, "loading", "(LSlideBonfire;[J)I"⟩
abbrev cL_askedAt : ByteArray := method_36_code
def yL_askedAt : MethodName := ⟨RL, "askedAt", "(LSlideBonfire;I[J)I"⟩
abbrev cL_ticksToShowByTicks : ByteArray := method_37_code
def yL_ticksToShowByTicks : MethodName := ⟨RL, "ticksToShowByTicks", "(LSlideBonfire;[J)I"⟩
abbrev cL_ticksToShowBySums : ByteArray := method_38_code
def yL_ticksToShowBySums : MethodName := ⟨RL, "ticksToShowBySums", "(LSlideBonfire;[J)I"⟩
abbrev cL_burningsFor : ByteArray := method_39_code
def yL_burningsFor : MethodName := ⟨RL, "burningsFor", "(LSlideBonfire;I[J)I"⟩
abbrev cL_missesWith : ByteArray := method_40_code
def yL_missesWith : MethodName := ⟨RL, "missesWith", "(LSlideBonfire;I[J)I"⟩
abbrev cL_bestOrder : ByteArray := method_41_code
def yL_bestOrder : MethodName := ⟨RL, "bestOrder", "(LSlideBonfire;[J)I"⟩
abbrev cL_law : ByteArray := code
def yL_law : MethodName := ⟨RL, "law", "([I)Z"⟩
abbrev vwCl : List vw_C := [(RX0, TX0, 7), (RX1, TX1, 8), (RX2, TX2, 5), (RX3, TX3, 3), (RX4, TX4, 5), (RX5, TX5, 3), (RX6, TX6, 9), (RX7, TX7, 5), (RX8, TX8, 5), (RX9, TX9, 6), (RX10, TX10, 15)]
end
section
/-! A small machine of my own for the program's bytecode (qa_): its words. Positions of cells are pairs (region, place). -/
abbrev qa_P : Type := Nat × Nat
/-- a value: a reference by its position, or a value of the machine that is none -/
abbrev qa_V : Type := qa_P ⊕ Value
abbrev qa_R : Type := (Nat → Int32) ⊕ (Nat → Int64) ⊕ (Nat → Option qa_P)
/-- a cell: an object (class, fields by slot) or an array (kind of its elements, length, elements) -/
abbrev qa_C : Type := (Nat × (Nat → qa_V)) ⊕ (Nat × Nat × qa_R)
/-- the heap: the next free position, the cells -/
abbrev qa_H : Type := qa_P × (qa_P → qa_C)
abbrev qa_L : Type := List (Nat × qa_V)
/-- a method: name, bytes, locals, return type, class, instructions, arguments with the receiver, kind (0 constructor, 1 static, 2 of an object), frames, locals' room, handlers, places of its words in lw_tbl -/
abbrev qa_M : Type := MethodName × ByteArray × Nat × Option FieldType × Nat × List (Nat × Instr × Nat) × Nat × Nat × Nat × Nat × List (Nat × Nat × Nat × Nat) × Nat × Nat × Nat
def qa_nm (M : qa_M) : MethodName := M.1
def qa_by (M : qa_M) : ByteArray := M.2.1
def qa_ml (M : qa_M) : Nat := M.2.2.1
def qa_rt (M : qa_M) : Option FieldType := M.2.2.2.1
def qa_cl (M : qa_M) : Nat := M.2.2.2.2.1
def qa_is (M : qa_M) : List (Nat × Instr × Nat) := M.2.2.2.2.2.1
def qa_na (M : qa_M) : Nat := M.2.2.2.2.2.2.1
def qa_sk (M : qa_M) : Nat := M.2.2.2.2.2.2.2.1
def qa_fr (M : qa_M) : Nat := M.2.2.2.2.2.2.2.2.1
def qa_lo (M : qa_M) : Nat := M.2.2.2.2.2.2.2.2.2.1
def qa_hh (M : qa_M) : List (Nat × Nat × Nat × Nat) := M.2.2.2.2.2.2.2.2.2.2.1
def qa_wp (M : qa_M) : Nat × Nat × Nat := M.2.2.2.2.2.2.2.2.2.2.2
def qa_lk {α : Type} : List (Nat × α) → Nat → Option α
  | [], _ => none
  | (k, a) :: l, n => if k = n then some a else qa_lk l n
theorem qa_lk_mem {α : Type} {l : List (Nat × α)} {n : Nat} {a : α} (h : qa_lk l n = some a) : (n, a) ∈ l := by
  induction l with
  | nil => cases h
  | cons q l ih =>
    obtain ⟨k, b⟩ := q
    unfold qa_lk at h
    split at h
    · next e => cases h; rw [e]; exact List.mem_cons_self
    · exact List.mem_cons_of_mem _ (ih h)
/-- each instruction stands where the listing says -/
def qa_de (M : qa_M) : Bool := (qa_is M).all (fun q => decide (decode (qa_by M) q.1 = .ok (q.2.1, q.2.2)))
end
section
/-! the tables of the program, by class number and number of the pool (written by wip/tools/mk_tab.py) -/
def qa_cn : Nat → String := fun k => match k with
  | 0 => RX0
  | 1 => RX1
  | 2 => RX2
  | 3 => RX3
  | 4 => RX4
  | 5 => RX5
  | 6 => RX6
  | 7 => RX7
  | 8 => RX8
  | 9 => RX9
  | 10 => RX10
  | _ => RL
def qa_fl0 : List (Nat × (Nat × Nat × Nat)) := [(7, (0, 0, 253)), (13, (0, 1, 256)), (16, (0, 2, 259)), (19, (0, 3, 262)), (22, (0, 4, 265)), (25, (0, 5, 268)), (28, (0, 6, 271))]
def qa_fl1 : List (Nat × (Nat × Nat × Nat)) := [(12, (1, 0, 289)), (21, (1, 1, 291)), (28, (1, 2, 293)), (35, (1, 3, 295)), (42, (1, 4, 297)), (49, (1, 5, 299)), (53, (1, 6, 301)), (57, (1, 7, 302)), (79, (3, 0, 140)), (83, (7, 4, 170)), (90, (2, 0, 190)), (149, (0, 1, 257)), (155, (0, 2, 260)), (161, (6, 3, 100)), (174, (0, 0, 254)), (177, (0, 6, 272)), (195, (4, 4, 235)), (198, (7, 0, 160)), (201, (7, 1, 163)), (204, (2, 1, 193)), (214, (6, 1, 97)), (217, (4, 0, 223)), (223, (6, 5, 104)), (226, (0, 4, 266)), (229, (0, 3, 263)), (236, (2, 4, 202)), (243, (2, 2, 197)), (246, (2, 3, 199)), (252, (4, 1, 226)), (258, (4, 3, 232)), (261, (6, 6, 107)), (264, (0, 5, 269)), (270, (4, 2, 229)), (279, (6, 0, 94)), (280, (6, 7, 110))]
def qa_fl2 : List (Nat × (Nat × Nat × Nat)) := [(9, (2, 0, 189)), (15, (2, 3, 198)), (19, (2, 1, 192)), (22, (2, 2, 195)), (29, (2, 4, 201))]
def qa_fl3 : List (Nat × (Nat × Nat × Nat)) := [(9, (3, 1, 142)), (15, (3, 2, 144)), (19, (3, 0, 139))]
def qa_fl4 : List (Nat × (Nat × Nat × Nat)) := [(9, (4, 0, 221)), (15, (4, 1, 224)), (18, (4, 3, 230)), (21, (4, 2, 227)), (24, (4, 4, 233))]
def qa_fl5 : List (Nat × (Nat × Nat × Nat)) := [(11, (5, 2, 332)), (18, (5, 0, 329)), (22, (5, 1, 330))]
def qa_fl6 : List (Nat × (Nat × Nat × Nat)) := [(9, (6, 1, 95)), (15, (6, 2, 98)), (18, (6, 3, 99)), (21, (6, 4, 102)), (25, (6, 5, 103)), (28, (6, 6, 106)), (31, (6, 7, 109)), (34, (6, 0, 92)), (42, (6, 8, 111))]
def qa_fl7 : List (Nat × (Nat × Nat × Nat)) := [(9, (7, 0, 159)), (15, (7, 2, 165)), (18, (7, 4, 169)), (21, (7, 1, 162)), (24, (7, 3, 167))]
def qa_fl8 : List (Nat × (Nat × Nat × Nat)) := [(9, (8, 1, 348)), (15, (8, 0, 346)), (26, (8, 4, 354)), (29, (8, 2, 350)), (32, (8, 3, 352))]
def qa_fl9 : List (Nat × (Nat × Nat × Nat)) := [(10, (9, 0, 366)), (16, (9, 1, 367)), (22, (9, 2, 368)), (26, (9, 3, 369)), (30, (9, 4, 370)), (37, (9, 5, 371)), (49, (1, 0, 290)), (53, (6, 0, 93)), (73, (1, 1, 292)), (77, (3, 0, 141)), (106, (1, 3, 296)), (116, (2, 2, 196)), (125, (6, 1, 96)), (136, (1, 4, 298)), (140, (4, 0, 222)), (148, (4, 1, 225)), (151, (4, 2, 228)), (154, (4, 3, 231)), (157, (4, 4, 234)), (160, (8, 0, 347)), (181, (8, 2, 351)), (184, (8, 3, 353)), (194, (5, 1, 331)), (202, (6, 3, 101)), (208, (1, 2, 294)), (217, (6, 5, 105)), (220, (6, 6, 108)), (229, (3, 2, 145)), (232, (3, 1, 143)), (235, (7, 0, 161)), (238, (7, 2, 166)), (241, (7, 3, 168)), (244, (7, 4, 171)), (247, (7, 1, 164)), (250, (2, 0, 191)), (253, (2, 1, 194)), (256, (2, 3, 200)), (260, (2, 4, 203)), (275, (1, 5, 300)), (279, (0, 0, 255)), (284, (0, 1, 258)), (287, (0, 2, 261)), (290, (0, 3, 264)), (293, (0, 4, 267)), (296, (0, 5, 270)), (299, (0, 6, 273)), (326, (8, 1, 349))]
def qa_fl10 : List (Nat × (Nat × Nat × Nat)) := [(7, (10, 0, 1203)), (13, (10, 1, 1204)), (16, (10, 3, 1206)), (19, (10, 4, 1207)), (23, (10, 5, 1208)), (26, (10, 6, 1209)), (29, (10, 7, 1210)), (32, (10, 9, 1212)), (36, (10, 2, 1205)), (95, (10, 10, 1213)), (142, (10, 8, 1211)), (145, (10, 11, 1214)), (148, (10, 12, 1215)), (161, (10, 13, 1216)), (208, (10, 14, 1217))]
def qa_fl11 : List (Nat × (Nat × Nat × Nat)) := []
def qa_fl : Nat → List (Nat × (Nat × Nat × Nat)) := fun k => match k with
  | 0 => qa_fl0
  | 1 => qa_fl1
  | 2 => qa_fl2
  | 3 => qa_fl3
  | 4 => qa_fl4
  | 5 => qa_fl5
  | 6 => qa_fl6
  | 7 => qa_fl7
  | 8 => qa_fl8
  | 9 => qa_fl9
  | 10 => qa_fl10
  | _ => qa_fl11
def qa_nw0 : List (Nat × (Nat × Nat)) := []
def qa_nw1 : List (Nat × (Nat × Nat)) := [(9, (6, 86)), (18, (3, 133)), (25, (7, 153)), (32, (2, 183)), (39, (4, 215)), (46, (0, 247))]
def qa_nw2 : List (Nat × (Nat × Nat)) := []
def qa_nw3 : List (Nat × (Nat × Nat)) := []
def qa_nw4 : List (Nat × (Nat × Nat)) := []
def qa_nw5 : List (Nat × (Nat × Nat)) := [(9, (1, 326))]
def qa_nw6 : List (Nat × (Nat × Nat)) := []
def qa_nw7 : List (Nat × (Nat × Nat)) := []
def qa_nw8 : List (Nat × (Nat × Nat)) := []
def qa_nw9 : List (Nat × (Nat × Nat)) := [(7, (1, 80)), (19, (5, 320)), (34, (8, 340))]
def qa_nw10 : List (Nat × (Nat × Nat)) := []
def qa_nw11 : List (Nat × (Nat × Nat)) := [(8, (9, 72)), (140, (10, 1197))]
def qa_nw : Nat → List (Nat × (Nat × Nat)) := fun k => match k with
  | 0 => qa_nw0
  | 1 => qa_nw1
  | 2 => qa_nw2
  | 3 => qa_nw3
  | 4 => qa_nw4
  | 5 => qa_nw5
  | 6 => qa_nw6
  | 7 => qa_nw7
  | 8 => qa_nw8
  | 9 => qa_nw9
  | 10 => qa_nw10
  | _ => qa_nw11
def qa_kl0 : List (Nat × (Value × Nat)) := []
def qa_kl1 : List (Nat × (Value × Nat)) := []
def qa_kl2 : List (Nat × (Value × Nat)) := []
def qa_kl3 : List (Nat × (Value × Nat)) := []
def qa_kl4 : List (Nat × (Value × Nat)) := []
def qa_kl5 : List (Nat × (Value × Nat)) := []
def qa_kl6 : List (Nat × (Value × Nat)) := []
def qa_kl7 : List (Nat × (Value × Nat)) := []
def qa_kl8 : List (Nat × (Value × Nat)) := []
def qa_kl9 : List (Nat × (Value × Nat)) := [(306, (.long 4447, 517)), (329, (.long 31, 521)), (335, (.double 4611686018427387904, 715)), (337, (.double 4841369599423283200, 716))]
def qa_kl10 : List (Nat × (Value × Nat)) := [(202, (.double 4611686018427387904, 1697)), (204, (.long 2, 1698)), (206, (.long 31, 1689)), (216, (.long 4447, 1684))]
def qa_kl11 : List (Nat × (Value × Nat)) := []
def qa_kl : Nat → List (Nat × (Value × Nat)) := fun k => match k with
  | 0 => qa_kl0
  | 1 => qa_kl1
  | 2 => qa_kl2
  | 3 => qa_kl3
  | 4 => qa_kl4
  | 5 => qa_kl5
  | 6 => qa_kl6
  | 7 => qa_kl7
  | 8 => qa_kl8
  | 9 => qa_kl9
  | 10 => qa_kl10
  | _ => qa_kl11
def qa_iX0_init : List (Nat × Instr × Nat) := [(0, .aload_n 0, 1), (1, .invokespecial 1, 3), (4, .return_, 1)]
def qa_mX0_init : qa_M := (yX0_init, cX0_init, 1, none, 0, qa_iX0_init, 1, 0, 1, 20, [], 251, 250, 0)
def qa_iX0_copyFrom : List (Nat × Instr × Nat) := [(0, .aload_n 0, 1), (1, .aload_n 1, 1), (2, .getfield 7, 3), (5, .putfield 7, 3), (8, .aload_n 0, 1), (9, .aload_n 1, 1), (10, .getfield 13, 3), (13, .putfield 13, 3), (16, .aload_n 0, 1), (17, .aload_n 1, 1), (18, .getfield 16, 3), (21, .putfield 16, 3), (24, .aload_n 0, 1), (25, .aload_n 1, 1), (26, .getfield 19, 3), (29, .putfield 19, 3), (32, .aload_n 0, 1), (33, .aload_n 1, 1), (34, .getfield 22, 3), (37, .putfield 22, 3), (40, .aload_n 0, 1), (41, .aload_n 1, 1), (42, .getfield 25, 3), (45, .putfield 25, 3), (48, .aload_n 0, 1), (49, .aload_n 1, 1), (50, .getfield 28, 3), (53, .putfield 28, 3), (56, .return_, 1)]
def qa_mX0_copyFrom : qa_M := (yX0_copyFrom, cX0_copyFrom, 2, none, 0, qa_iX0_copyFrom, 2, 2, 0, 0, [], 618, 616, 617)
def qa_iX0_shareOfHits : List (Nat × Instr × Nat) := [(0, .aload_n 0, 1), (1, .getfield 13, 3), (4, .aload_n 0, 1), (5, .getfield 16, 3), (8, .iadd, 1), (9, .istore_n 1, 1), (10, .iload_n 1, 1), (11, .ifCond .le 14, 3), (14, .aload_n 0, 1), (15, .getfield 13, 3), (18, .i2d, 1), (19, .iload_n 1, 1), (20, .i2d, 1), (21, .ddiv, 1), (22, .goto 4, 3), (25, .dconst 0, 1), (26, .dreturn, 1)]
def qa_mX0_shareOfHits : qa_M := (yX0_shareOfHits, cX0_shareOfHits, 2, (some .double), 0, qa_iX0_shareOfHits, 1, 2, 0, 0, [], 512, 510, 511)
def qa_iX1_init : List (Nat × Instr × Nat) := [(0, .aload_n 0, 1), (1, .invokespecial 3, 3), (4, .aload_n 0, 1), (5, .new 9, 3), (8, .dup, 1), (9, .invokespecial 11, 3), (12, .putfield 12, 3), (15, .aload_n 0, 1), (16, .new 18, 3), (19, .dup, 1), (20, .invokespecial 20, 3), (23, .putfield 21, 3), (26, .aload_n 0, 1), (27, .new 25, 3), (30, .dup, 1), (31, .invokespecial 27, 3), (34, .putfield 28, 3), (37, .aload_n 0, 1), (38, .new 32, 3), (41, .dup, 1), (42, .invokespecial 34, 3), (45, .putfield 35, 3), (48, .aload_n 0, 1), (49, .new 39, 3), (52, .dup, 1), (53, .invokespecial 41, 3), (56, .putfield 42, 3), (59, .aload_n 0, 1), (60, .new 46, 3), (63, .dup, 1), (64, .invokespecial 48, 3), (67, .putfield 49, 3), (70, .aload_n 0, 1), (71, .bipush 16, 2), (73, .newarray .int, 2), (75, .putfield 53, 3), (78, .aload_n 0, 1), (79, .bipush 16, 2), (81, .newarray .int, 2), (83, .putfield 57, 3), (86, .return_, 1)]
def qa_mX1_init : qa_M := (yX1_init, cX1_init, 1, none, 1, qa_iX1_init, 1, 0, 2, 40, [], 84, 83, 0)
def qa_iX1_copyFrom : List (Nat × Instr × Nat) := [(0, .aload_n 0, 1), (1, .getfield 12, 3), (4, .aload_n 1, 1), (5, .getfield 12, 3), (8, .invokevirtual 60, 3), (11, .aload_n 0, 1), (12, .getfield 21, 3), (15, .aload_n 1, 1), (16, .getfield 21, 3), (19, .invokevirtual 64, 3), (22, .aload_n 0, 1), (23, .getfield 28, 3), (26, .aload_n 1, 1), (27, .getfield 28, 3), (30, .invokevirtual 67, 3), (33, .aload_n 0, 1), (34, .getfield 35, 3), (37, .aload_n 1, 1), (38, .getfield 35, 3), (41, .invokevirtual 70, 3), (44, .aload_n 0, 1), (45, .getfield 42, 3), (48, .aload_n 1, 1), (49, .getfield 42, 3), (52, .invokevirtual 73, 3), (55, .aload_n 0, 1), (56, .getfield 49, 3), (59, .aload_n 1, 1), (60, .getfield 49, 3), (63, .invokevirtual 76, 3), (66, .return_, 1)]
def qa_mX1_copyFrom : qa_M := (yX1_copyFrom, cX1_copyFrom, 2, none, 1, qa_iX1_copyFrom, 2, 2, 2, 44, [], 589, 587, 588)
def qa_iX1_mayGoOn : List (Nat × Instr × Nat) := [(0, .aload_n 0, 1), (1, .getfield 21, 3), (4, .getfield 79, 3), (7, .ifCond .le 18, 3), (10, .aload_n 0, 1), (11, .getfield 28, 3), (14, .getfield 83, 3), (17, .iconst (-1), 1), (18, .if_icmp .ne 7, 3), (21, .iconst 1, 1), (22, .goto 4, 3), (25, .iconst 0, 1), (26, .ireturn, 1)]
def qa_mX1_mayGoOn : qa_M := (yX1_mayGoOn, cX1_mayGoOn, 1, (some .boolean), 1, qa_iX1_mayGoOn, 1, 2, 0, 0, [], 663, 661, 662)
def qa_iX1_mayAsk : List (Nat × Instr × Nat) := [(0, .aload_n 0, 1), (1, .getfield 12, 3), (4, .iload_n 1, 1), (5, .invokevirtual 86, 3), (8, .ifCond .ne 41, 3), (11, .iload_n 1, 1), (12, .aload_n 0, 1), (13, .getfield 35, 3), (16, .getfield 90, 3), (19, .if_icmp .eq 30, 3), (22, .iload_n 1, 1), (23, .aload_n 0, 1), (24, .getfield 28, 3), (27, .getfield 83, 3), (30, .if_icmp .eq 19, 3), (33, .aload_n 0, 1), (34, .getfield 35, 3), (37, .iload_n 1, 1), (38, .invokevirtual 93, 3), (41, .iconst (-1), 1), (42, .if_icmp .ne 7, 3), (45, .iconst 1, 1), (46, .goto 4, 3), (49, .iconst 0, 1), (50, .ireturn, 1)]
def qa_mX1_mayAsk : qa_M := (yX1_mayAsk, cX1_mayAsk, 2, (some .boolean), 1, qa_iX1_mayAsk, 2, 2, 2, 43, [], 896, 894, 895)
def qa_iX1_mayBurn : List (Nat × Instr × Nat) := [(0, .aload_n 0, 1), (1, .getfield 12, 3), (4, .iload_n 1, 1), (5, .invokevirtual 86, 3), (8, .ifCond .eq 18, 3), (11, .aload_n 0, 1), (12, .getfield 28, 3), (15, .iload_n 1, 1), (16, .invokevirtual 97, 3), (19, .ifCond .ne 7, 3), (22, .iconst 1, 1), (23, .goto 4, 3), (26, .iconst 0, 1), (27, .ireturn, 1)]
def qa_mX1_mayBurn : qa_M := (yX1_mayBurn, cX1_mayBurn, 2, (some .boolean), 1, qa_iX1_mayBurn, 2, 2, 1, 21, [], 568, 566, 567)
def qa_iX1_obey : List (Nat × Instr × Nat) := [(0, .iload_n 1, 1), (1, .lookupswitch 94 #[(97, 56), (98, 62), (110, 51), (112, 68), (116, 74)], 51), (52, .aload_n 0, 1), (53, .invokevirtual 100, 3), (56, .ireturn, 1), (57, .aload_n 0, 1), (58, .iload_n 2, 1), (59, .invokevirtual 104, 3), (62, .ireturn, 1), (63, .aload_n 0, 1), (64, .iload_n 2, 1), (65, .invokevirtual 107, 3), (68, .ireturn, 1), (69, .aload_n 0, 1), (70, .iload_n 2, 1), (71, .invokevirtual 110, 3), (74, .ireturn, 1), (75, .iconst 0, 1), (76, .istore_n 3, 1), (77, .iload_n 3, 1), (78, .iload_n 2, 1), (79, .if_icmp .ge 14, 3), (82, .aload_n 0, 1), (83, .invokevirtual 113, 3), (86, .pop, 1), (87, .iinc 3 1, 3), (90, .goto (-13), 3), (93, .iconst 1, 1), (94, .ireturn, 1), (95, .iconst 0, 1), (96, .ireturn, 1)]
def qa_mX1_obey : qa_M := (yX1_obey, cX1_obey, 4, (some .boolean), 1, qa_iX1_obey, 3, 2, 6, 133, [], 993, 991, 992)
def qa_iX1_obeyGoOn : List (Nat × Instr × Nat) := [(0, .aload_n 0, 1), (1, .invokevirtual 117, 3), (4, .ifCond .ne 5, 3), (7, .iconst 0, 1), (8, .ireturn, 1), (9, .aload_n 0, 1), (10, .invokevirtual 120, 3), (13, .pop, 1), (14, .aload_n 0, 1), (15, .invokevirtual 123, 3), (18, .iconst 1, 1), (19, .ireturn, 1)]
def qa_mX1_obeyGoOn : qa_M := (yX1_obeyGoOn, cX1_obeyGoOn, 1, (some .boolean), 1, qa_iX1_obeyGoOn, 1, 2, 5, 112, [], 997, 995, 996)
def qa_iX1_obeyAsk : List (Nat × Instr × Nat) := [(0, .aload_n 0, 1), (1, .getfield 12, 3), (4, .iload_n 1, 1), (5, .invokevirtual 126, 3), (8, .ifCond .eq 11, 3), (11, .aload_n 0, 1), (12, .iload_n 1, 1), (13, .invokevirtual 129, 3), (16, .ifCond .ne 5, 3), (19, .iconst 0, 1), (20, .ireturn, 1), (21, .aload_n 0, 1), (22, .getfield 35, 3), (25, .iload_n 1, 1), (26, .invokevirtual 132, 3), (29, .aload_n 0, 1), (30, .invokevirtual 123, 3), (33, .iconst 1, 1), (34, .ireturn, 1)]
def qa_mX1_obeyAsk : qa_M := (yX1_obeyAsk, cX1_obeyAsk, 2, (some .boolean), 1, qa_iX1_obeyAsk, 2, 2, 5, 112, [], 1001, 999, 1000)
def qa_iX1_obeyBurn : List (Nat × Instr × Nat) := [(0, .aload_n 0, 1), (1, .getfield 12, 3), (4, .iload_n 1, 1), (5, .invokevirtual 126, 3), (8, .ifCond .eq 11, 3), (11, .aload_n 0, 1), (12, .iload_n 1, 1), (13, .invokevirtual 136, 3), (16, .ifCond .ne 5, 3), (19, .iconst 0, 1), (20, .ireturn, 1), (21, .aload_n 0, 1), (22, .iload_n 1, 1), (23, .invokevirtual 139, 3), (26, .aload_n 0, 1), (27, .invokevirtual 123, 3), (30, .iconst 1, 1), (31, .ireturn, 1)]
def qa_mX1_obeyBurn : qa_M := (yX1_obeyBurn, cX1_obeyBurn, 2, (some .boolean), 1, qa_iX1_obeyBurn, 2, 2, 5, 112, [], 1008, 1006, 1007)
def qa_iX1_obeyInsert : List (Nat × Instr × Nat) := [(0, .aload_n 0, 1), (1, .getfield 12, 3), (4, .iload_n 1, 1), (5, .invokevirtual 126, 3), (8, .ifCond .eq 15, 3), (11, .aload_n 0, 1), (12, .getfield 21, 3), (15, .getfield 79, 3), (18, .bipush 24, 2), (20, .if_icmp .lt 5, 3), (23, .iconst 0, 1), (24, .ireturn, 1), (25, .aload_n 0, 1), (26, .getfield 21, 3), (29, .aload_n 0, 1), (30, .getfield 21, 3), (33, .getfield 79, 3), (36, .iload_n 1, 1), (37, .invokevirtual 142, 3), (40, .aload_n 0, 1), (41, .invokevirtual 123, 3), (44, .iconst 1, 1), (45, .ireturn, 1)]
def qa_mX1_obeyInsert : qa_M := (yX1_obeyInsert, cX1_obeyInsert, 2, (some .boolean), 1, qa_iX1_obeyInsert, 2, 2, 5, 112, [], 1012, 1010, 1011)
def qa_iX1_proceed : List (Nat × Instr × Nat) := [(0, .aload_n 0, 1), (1, .getfield 21, 3), (4, .invokevirtual 146, 3), (7, .istore_n 1, 1), (8, .aload_n 0, 1), (9, .getfield 12, 3), (12, .iload_n 1, 1), (13, .invokevirtual 86, 3), (16, .ifCond .eq 23, 3), (19, .aload_n 0, 1), (20, .getfield 49, 3), (23, .dup, 1), (24, .getfield 149, 3), (27, .iconst 1, 1), (28, .iadd, 1), (29, .putfield 149, 3), (32, .aload_n 0, 1), (33, .iload_n 1, 1), (34, .invokevirtual 152, 3), (37, .iconst 1, 1), (38, .ireturn, 1), (39, .aload_n 0, 1), (40, .getfield 49, 3), (43, .dup, 1), (44, .getfield 155, 3), (47, .iconst 1, 1), (48, .iadd, 1), (49, .putfield 155, 3), (52, .aload_n 0, 1), (53, .getfield 28, 3), (56, .iload_n 1, 1), (57, .putfield 83, 3), (60, .aload_n 0, 1), (61, .getfield 35, 3), (64, .iload_n 1, 1), (65, .invokevirtual 93, 3), (68, .istore_n 2, 1), (69, .iload_n 2, 1), (70, .iconst (-1), 1), (71, .if_icmp .eq 11, 3), (74, .aload_n 0, 1), (75, .getfield 35, 3), (78, .iload_n 2, 1), (79, .invokevirtual 158, 3), (82, .iconst 0, 1), (83, .ireturn, 1)]
def qa_mX1_proceed : qa_M := (yX1_proceed, cX1_proceed, 3, (some .boolean), 1, qa_iX1_proceed, 1, 2, 3, 64, [], 667, 665, 666)
def qa_iX1_bringOn : List (Nat × Instr × Nat) := [(0, .aload_n 0, 1), (1, .getfield 28, 3), (4, .iload_n 1, 1), (5, .aload_n 0, 1), (6, .getfield 12, 3), (9, .getfield 161, 3), (12, .iload_n 1, 1), (13, .invokestatic 164, 3), (16, .invokevirtual 168, 3), (19, .aload_n 0, 1), (20, .getfield 12, 3), (23, .iload_n 1, 1), (24, .invokevirtual 171, 3), (27, .return_, 1)]
def qa_mX1_bringOn : qa_M := (yX1_bringOn, cX1_bringOn, 2, none, 1, qa_iX1_bringOn, 2, 2, 2, 43, [], 651, 649, 650)
def qa_iX1_passTicks : List (Nat × Instr × Nat) := [(0, .iconst 0, 1), (1, .istore_n 2, 1), (2, .iconst 0, 1), (3, .istore_n 3, 1), (4, .iload_n 3, 1), (5, .iload_n 1, 1), (6, .if_icmp .ge 16, 3), (9, .iload_n 2, 1), (10, .aload_n 0, 1), (11, .invokevirtual 113, 3), (14, .iadd, 1), (15, .istore_n 2, 1), (16, .iinc 3 1, 3), (19, .goto (-15), 3), (22, .iload_n 2, 1), (23, .ireturn, 1)]
def qa_mX1_passTicks : qa_M := (yX1_passTicks, cX1_passTicks, 4, (some .int), 1, qa_iX1_passTicks, 2, 2, 6, 133, [], 920, 918, 919)
def qa_iX1_passTick : List (Nat × Instr × Nat) := [(0, .iconst 0, 1), (1, .istore_n 1, 1), (2, .aload_n 0, 1), (3, .getfield 49, 3), (6, .dup, 1), (7, .getfield 174, 3), (10, .iconst 1, 1), (11, .iadd, 1), (12, .putfield 174, 3), (15, .aload_n 0, 1), (16, .getfield 28, 3), (19, .getfield 83, 3), (22, .iconst (-1), 1), (23, .if_icmp .eq 16, 3), (26, .aload_n 0, 1), (27, .getfield 49, 3), (30, .dup, 1), (31, .getfield 177, 3), (34, .iconst 1, 1), (35, .iadd, 1), (36, .putfield 177, 3), (39, .aload_n 0, 1), (40, .getfield 12, 3), (43, .invokevirtual 180, 3), (46, .aload_n 0, 1), (47, .getfield 28, 3), (50, .invokevirtual 183, 3), (53, .aload_n 0, 1), (54, .getfield 28, 3), (57, .invokevirtual 186, 3), (60, .aload_n 0, 1), (61, .invokevirtual 189, 3), (64, .ifCond .eq 6, 3), (67, .iinc 1 1, 3), (70, .aload_n 0, 1), (71, .invokevirtual 192, 3), (74, .ifCond .eq 13, 3), (77, .aload_n 0, 1), (78, .invokevirtual 120, 3), (81, .ifCond .eq 6, 3), (84, .iinc 1 1, 3), (87, .aload_n 0, 1), (88, .invokevirtual 123, 3), (91, .iload_n 1, 1), (92, .ireturn, 1)]
def qa_mX1_passTick : qa_M := (yX1_passTick, cX1_passTick, 2, (some .int), 1, qa_iX1_passTick, 1, 2, 5, 112, [], 622, 620, 621)
def qa_iX1_paceIsReached : List (Nat × Instr × Nat) := [(0, .aload_n 0, 1), (1, .getfield 42, 3), (4, .getfield 195, 3), (7, .ifCond .le 42, 3), (10, .aload_n 0, 1), (11, .invokevirtual 117, 3), (14, .ifCond .eq 35, 3), (17, .aload_n 0, 1), (18, .getfield 28, 3), (21, .getfield 198, 3), (24, .iconst (-1), 1), (25, .if_icmp .eq 24, 3), (28, .aload_n 0, 1), (29, .getfield 28, 3), (32, .getfield 201, 3), (35, .aload_n 0, 1), (36, .getfield 42, 3), (39, .getfield 195, 3), (42, .if_icmp .lt 7, 3), (45, .iconst 1, 1), (46, .goto 4, 3), (49, .iconst 0, 1), (50, .ireturn, 1)]
def qa_mX1_paceIsReached : qa_M := (yX1_paceIsReached, cX1_paceIsReached, 1, (some .boolean), 1, qa_iX1_paceIsReached, 1, 2, 1, 20, [], 659, 657, 658)
def qa_iX1_loadOnce : List (Nat × Instr × Nat) := [(0, .aload_n 0, 1), (1, .getfield 35, 3), (4, .getfield 90, 3), (7, .istore_n 1, 1), (8, .iload_n 1, 1), (9, .iconst (-1), 1), (10, .if_icmp .ne 5, 3), (13, .iconst 0, 1), (14, .ireturn, 1), (15, .aload_n 0, 1), (16, .getfield 35, 3), (19, .dup, 1), (20, .getfield 204, 3), (23, .iconst 1, 1), (24, .isub, 1), (25, .putfield 204, 3), (28, .aload_n 0, 1), (29, .getfield 35, 3), (32, .getfield 204, 3), (35, .ifCond .le 5, 3), (38, .iconst 0, 1), (39, .ireturn, 1), (40, .aload_n 0, 1), (41, .getfield 35, 3), (44, .iconst (-1), 1), (45, .putfield 90, 3), (48, .aload_n 0, 1), (49, .getfield 12, 3), (52, .iload_n 1, 1), (53, .iconst 1, 1), (54, .invokevirtual 207, 3), (57, .aload_n 0, 1), (58, .getfield 12, 3), (61, .iload_n 1, 1), (62, .invokevirtual 171, 3), (65, .aload_n 0, 1), (66, .getfield 28, 3), (69, .getfield 83, 3), (72, .iload_n 1, 1), (73, .if_icmp .eq 5, 3), (76, .iconst 0, 1), (77, .ireturn, 1), (78, .aload_n 0, 1), (79, .iload_n 1, 1), (80, .invokevirtual 152, 3), (83, .iconst 1, 1), (84, .ireturn, 1)]
def qa_mX1_loadOnce : qa_M := (yX1_loadOnce, cX1_loadOnce, 2, (some .boolean), 1, qa_iX1_loadOnce, 1, 2, 3, 64, [], 638, 636, 637)
def qa_iX1_beginLoading : List (Nat × Instr × Nat) := [(0, .aload_n 0, 1), (1, .getfield 35, 3), (4, .getfield 90, 3), (7, .iconst (-1), 1), (8, .if_icmp .eq 4, 3), (11, .return_, 1), (12, .aload_n 0, 1), (13, .invokevirtual 211, 3), (16, .istore_n 1, 1), (17, .iload_n 1, 1), (18, .iconst (-1), 1), (19, .if_icmp .ne 4, 3), (22, .return_, 1), (23, .aload_n 0, 1), (24, .getfield 12, 3), (27, .getfield 214, 3), (30, .iload_n 1, 1), (31, .invokestatic 164, 3), (34, .istore_n 2, 1), (35, .aload_n 0, 1), (36, .aload_n 0, 1), (37, .getfield 42, 3), (40, .getfield 217, 3), (43, .iload_n 2, 1), (44, .isub, 1), (45, .invokevirtual 220, 3), (48, .aload_n 0, 1), (49, .getfield 12, 3), (52, .getfield 223, 3), (55, .iload_n 1, 1), (56, .invokestatic 164, 3), (59, .ifCond .le 16, 3), (62, .aload_n 0, 1), (63, .getfield 49, 3), (66, .dup, 1), (67, .getfield 226, 3), (70, .iconst 1, 1), (71, .iadd, 1), (72, .putfield 226, 3), (75, .aload_n 0, 1), (76, .getfield 49, 3), (79, .dup, 1), (80, .getfield 229, 3), (83, .iconst 1, 1), (84, .iadd, 1), (85, .putfield 229, 3), (88, .aload_n 0, 1), (89, .getfield 35, 3), (92, .iload_n 1, 1), (93, .putfield 90, 3), (96, .aload_n 0, 1), (97, .getfield 35, 3), (100, .aload_n 0, 1), (101, .getfield 12, 3), (104, .iload_n 1, 1), (105, .iconst 0, 1), (106, .invokevirtual 232, 3), (109, .putfield 204, 3), (112, .aload_n 0, 1), (113, .getfield 35, 3), (116, .dup, 1), (117, .getfield 236, 3), (120, .iload_n 2, 1), (121, .iadd, 1), (122, .putfield 236, 3), (125, .aload_n 0, 1), (126, .getfield 12, 3), (129, .getfield 223, 3), (132, .iload_n 1, 1), (133, .iconst 0, 1), (134, .invokestatic 239, 3), (137, .return_, 1)]
def qa_mX1_beginLoading : qa_M := (yX1_beginLoading, cX1_beginLoading, 3, none, 1, qa_iX1_beginLoading, 1, 2, 4, 90, [], 686, 684, 685)
def qa_iX1_nextToLoad : List (Nat × Instr × Nat) := [(0, .aload_n 0, 1), (1, .getfield 28, 3), (4, .getfield 83, 3), (7, .iconst (-1), 1), (8, .if_icmp .eq 11, 3), (11, .aload_n 0, 1), (12, .getfield 28, 3), (15, .getfield 83, 3), (18, .ireturn, 1), (19, .aload_n 0, 1), (20, .getfield 35, 3), (23, .getfield 243, 3), (26, .ifCond .le 25, 3), (29, .aload_n 0, 1), (30, .getfield 35, 3), (33, .getfield 246, 3), (36, .iconst 0, 1), (37, .invokestatic 164, 3), (40, .istore_n 1, 1), (41, .aload_n 0, 1), (42, .getfield 35, 3), (45, .iconst 0, 1), (46, .invokevirtual 158, 3), (49, .iload_n 1, 1), (50, .ireturn, 1), (51, .aload_n 0, 1), (52, .invokevirtual 249, 3), (55, .ireturn, 1)]
def qa_mX1_nextToLoad : qa_M := (yX1_nextToLoad, cX1_nextToLoad, 2, (some .int), 1, qa_iX1_nextToLoad, 1, 2, 2, 44, [], 690, 688, 689)
def qa_iX1_nextInGoodTime : List (Nat × Instr × Nat) := [(0, .iconst 1, 1), (1, .istore_n 1, 1), (2, .iload_n 1, 1), (3, .aload_n 0, 1), (4, .getfield 42, 3), (7, .getfield 252, 3), (10, .if_icmp .gt 69, 3), (13, .aload_n 0, 1), (14, .getfield 21, 3), (17, .iload_n 1, 1), (18, .invokevirtual 255, 3), (21, .istore_n 2, 1), (22, .iload_n 2, 1), (23, .iconst (-1), 1), (24, .if_icmp .eq 49, 3), (27, .aload_n 0, 1), (28, .getfield 12, 3), (31, .iload_n 2, 1), (32, .invokevirtual 86, 3), (35, .ifCond .ne 38, 3), (38, .aload_n 0, 1), (39, .getfield 35, 3), (42, .getfield 236, 3), (45, .aload_n 0, 1), (46, .getfield 12, 3), (49, .getfield 214, 3), (52, .iload_n 2, 1), (53, .invokestatic 164, 3), (56, .iadd, 1), (57, .aload_n 0, 1), (58, .getfield 42, 3), (61, .getfield 217, 3), (64, .if_icmp .gt 7, 3), (67, .iload_n 2, 1), (68, .goto 4, 3), (71, .iconst (-1), 1), (72, .ireturn, 1), (73, .iinc 1 1, 3), (76, .goto (-74), 3), (79, .iconst (-1), 1), (80, .ireturn, 1)]
def qa_mX1_nextInGoodTime : qa_M := (yX1_nextInGoodTime, cX1_nextInGoodTime, 3, (some .int), 1, qa_iX1_nextInGoodTime, 1, 2, 1, 22, [], 694, 692, 693)
def qa_iX1_putOnFire : List (Nat × Instr × Nat) := [(0, .aload_n 0, 1), (1, .getfield 12, 3), (4, .iload_n 1, 1), (5, .iconst 0, 1), (6, .invokevirtual 207, 3), (9, .aload_n 0, 1), (10, .getfield 12, 3), (13, .getfield 223, 3), (16, .iload_n 1, 1), (17, .aload_n 0, 1), (18, .getfield 42, 3), (21, .getfield 258, 3), (24, .invokestatic 239, 3), (27, .aload_n 0, 1), (28, .getfield 12, 3), (31, .getfield 261, 3), (34, .iload_n 1, 1), (35, .aload_n 0, 1), (36, .getfield 12, 3), (39, .getfield 261, 3), (42, .iload_n 1, 1), (43, .invokestatic 164, 3), (46, .iconst 1, 1), (47, .iadd, 1), (48, .invokestatic 239, 3), (51, .aload_n 0, 1), (52, .getfield 35, 3), (55, .dup, 1), (56, .getfield 236, 3), (59, .aload_n 0, 1), (60, .getfield 12, 3), (63, .getfield 214, 3), (66, .iload_n 1, 1), (67, .invokestatic 164, 3), (70, .isub, 1), (71, .putfield 236, 3), (74, .aload_n 0, 1), (75, .getfield 49, 3), (78, .dup, 1), (79, .getfield 264, 3), (82, .iconst 1, 1), (83, .iadd, 1), (84, .putfield 264, 3), (87, .return_, 1)]
def qa_mX1_putOnFire : qa_M := (yX1_putOnFire, cX1_putOnFire, 2, none, 1, qa_iX1_putOnFire, 2, 2, 1, 22, [], 702, 700, 701)
def qa_iX1_burnDownTo : List (Nat × Instr × Nat) := [(0, .aload_n 0, 1), (1, .getfield 35, 3), (4, .getfield 236, 3), (7, .iload_n 1, 1), (8, .if_icmp .gt 4, 3), (11, .return_, 1), (12, .aload_n 0, 1), (13, .invokevirtual 267, 3), (16, .istore_n 2, 1), (17, .iconst 0, 1), (18, .istore_n 3, 1), (19, .iload_n 3, 1), (20, .iload_n 2, 1), (21, .if_icmp .ge 32, 3), (24, .aload_n 0, 1), (25, .getfield 35, 3), (28, .getfield 236, 3), (31, .iload_n 1, 1), (32, .if_icmp .le 21, 3), (35, .aload_n 0, 1), (36, .aload_n 0, 1), (37, .getfield 57, 3), (40, .iload_n 3, 1), (41, .invokestatic 164, 3), (44, .invokevirtual 139, 3), (47, .iinc 3 1, 3), (50, .goto (-31), 3), (53, .return_, 1)]
def qa_mX1_burnDownTo : qa_M := (yX1_burnDownTo, cX1_burnDownTo, 4, none, 1, qa_iX1_burnDownTo, 2, 2, 3, 67, [], 698, 696, 697)
def qa_iX1_lineUp : List (Nat × Instr × Nat) := [(0, .aload_n 0, 1), (1, .getfield 42, 3), (4, .getfield 270, 3), (7, .iconst 2, 1), (8, .if_icmp .ne 10, 3), (11, .aload_n 0, 1), (12, .invokevirtual 273, 3), (15, .goto 7, 3), (18, .aload_n 0, 1), (19, .invokevirtual 276, 3), (22, .iconst 0, 1), (23, .istore_n 1, 1), (24, .iconst 0, 1), (25, .istore_n 2, 1), (26, .iload_n 2, 1), (27, .aload_n 0, 1), (28, .getfield 12, 3), (31, .getfield 279, 3), (34, .if_icmp .ge 87, 3), (37, .aload_n 0, 1), (38, .iload_n 2, 1), (39, .invokevirtual 136, 3), (42, .ifCond .eq 73, 3), (45, .iload_n 1, 1), (46, .istore_n 3, 1), (47, .iload_n 3, 1), (48, .ifCond .le 55, 3), (51, .aload_n 0, 1), (52, .getfield 53, 3), (55, .aload_n 0, 1), (56, .getfield 57, 3), (59, .iload_n 3, 1), (60, .iconst 1, 1), (61, .isub, 1), (62, .invokestatic 164, 3), (65, .invokestatic 164, 3), (68, .aload_n 0, 1), (69, .getfield 53, 3), (72, .iload_n 2, 1), (73, .invokestatic 164, 3), (76, .if_icmp .ge 27, 3), (79, .aload_n 0, 1), (80, .getfield 57, 3), (83, .iload_n 3, 1), (84, .aload_n 0, 1), (85, .getfield 57, 3), (88, .iload_n 3, 1), (89, .iconst 1, 1), (90, .isub, 1), (91, .invokestatic 164, 3), (94, .invokestatic 239, 3), (97, .iinc 3 (-1), 3), (100, .goto (-53), 3), (103, .aload_n 0, 1), (104, .getfield 57, 3), (107, .iload_n 3, 1), (108, .iload_n 2, 1), (109, .invokestatic 239, 3), (112, .iinc 1 1, 3), (115, .iinc 2 1, 3), (118, .goto (-92), 3), (121, .iload_n 1, 1), (122, .ireturn, 1)]
def qa_mX1_lineUp : qa_M := (yX1_lineUp, cX1_lineUp, 4, (some .int), 1, qa_iX1_lineUp, 1, 2, 2, 44, [], 552, 550, 551)
def qa_iX1_weighByUseOrCost : List (Nat × Instr × Nat) := [(0, .iconst 0, 1), (1, .istore_n 1, 1), (2, .iload_n 1, 1), (3, .aload_n 0, 1), (4, .getfield 12, 3), (7, .getfield 279, 3), (10, .if_icmp .ge 63, 3), (13, .aload_n 0, 1), (14, .getfield 42, 3), (17, .getfield 270, 3), (20, .ifCond .ne 7, 3), (23, .iconst 1, 1), (24, .goto 4, 3), (27, .iconst 0, 1), (28, .istore_n 2, 1), (29, .aload_n 0, 1), (30, .getfield 53, 3), (33, .iload_n 1, 1), (34, .iload_n 2, 1), (35, .ifCond .eq 18, 3), (38, .aload_n 0, 1), (39, .getfield 12, 3), (42, .getfield 280, 3), (45, .iload_n 1, 1), (46, .invokestatic 164, 3), (49, .ineg, 1), (50, .goto 14, 3), (53, .aload_n 0, 1), (54, .getfield 12, 3), (57, .getfield 214, 3), (60, .iload_n 1, 1), (61, .invokestatic 164, 3), (64, .invokestatic 239, 3), (67, .iinc 1 1, 3), (70, .goto (-68), 3), (73, .return_, 1)]
def qa_mX1_weighByUseOrCost : qa_M := (yX1_weighByUseOrCost, cX1_weighByUseOrCost, 3, none, 1, qa_iX1_weighByUseOrCost, 1, 2, 1, 22, [], 564, 562, 563)
def qa_iX1_weighByNextUse : List (Nat × Instr × Nat) := [(0, .iconst 0, 1), (1, .istore_n 1, 1), (2, .iload_n 1, 1), (3, .aload_n 0, 1), (4, .getfield 12, 3), (7, .getfield 279, 3), (10, .if_icmp .ge 19, 3), (13, .aload_n 0, 1), (14, .getfield 53, 3), (17, .iload_n 1, 1), (18, .bipush 25, 2), (20, .invokestatic 239, 3), (23, .iinc 1 1, 3), (26, .goto (-24), 3), (29, .aload_n 0, 1), (30, .getfield 21, 3), (33, .getfield 79, 3), (36, .istore_n 1, 1), (37, .iload_n 1, 1), (38, .ifCond .le 25, 3), (41, .aload_n 0, 1), (42, .getfield 53, 3), (45, .aload_n 0, 1), (46, .getfield 21, 3), (49, .iload_n 1, 1), (50, .invokevirtual 255, 3), (53, .iload_n 1, 1), (54, .invokestatic 239, 3), (57, .iinc 1 (-1), 3), (60, .goto (-23), 3), (63, .return_, 1)]
def qa_mX1_weighByNextUse : qa_M := (yX1_weighByNextUse, cX1_weighByNextUse, 2, none, 1, qa_iX1_weighByNextUse, 1, 2, 1, 22, [], 556, 554, 555)
def qa_iX1_placeInLine : List (Nat × Instr × Nat) := [(0, .aload_n 0, 1), (1, .invokevirtual 267, 3), (4, .istore_n 2, 1), (5, .iconst 0, 1), (6, .istore_n 3, 1), (7, .iload_n 3, 1), (8, .iload_n 2, 1), (9, .if_icmp .ge 23, 3), (12, .aload_n 0, 1), (13, .getfield 57, 3), (16, .iload_n 3, 1), (17, .invokestatic 164, 3), (20, .iload_n 1, 1), (21, .if_icmp .ne 5, 3), (24, .iload_n 3, 1), (25, .ireturn, 1), (26, .iinc 3 1, 3), (29, .goto (-22), 3), (32, .iconst (-1), 1), (33, .ireturn, 1)]
def qa_mX1_placeInLine : qa_M := (yX1_placeInLine, cX1_placeInLine, 4, (some .int), 1, qa_iX1_placeInLine, 2, 2, 3, 67, [], 548, 546, 547)
def qa_iX1_burningsToLoad : List (Nat × Instr × Nat) := [(0, .aload_n 0, 1), (1, .getfield 12, 3), (4, .iload_n 1, 1), (5, .invokevirtual 86, 3), (8, .ifCond .ne 14, 3), (11, .iload_n 1, 1), (12, .aload_n 0, 1), (13, .getfield 35, 3), (16, .getfield 90, 3), (19, .if_icmp .ne 5, 3), (22, .iconst 0, 1), (23, .ireturn, 1), (24, .aload_n 0, 1), (25, .getfield 35, 3), (28, .getfield 236, 3), (31, .aload_n 0, 1), (32, .getfield 12, 3), (35, .getfield 214, 3), (38, .iload_n 1, 1), (39, .invokestatic 164, 3), (42, .iadd, 1), (43, .aload_n 0, 1), (44, .getfield 42, 3), (47, .getfield 217, 3), (50, .isub, 1), (51, .istore_n 2, 1), (52, .aload_n 0, 1), (53, .invokevirtual 267, 3), (56, .istore_n 3, 1), (57, .iconst 0, 1), (58, .istore 4, 2), (60, .iload 4, 2), (62, .iload_n 3, 1), (63, .if_icmp .ge 35, 3), (66, .iload_n 2, 1), (67, .ifCond .le 31, 3), (70, .iload_n 2, 1), (71, .aload_n 0, 1), (72, .getfield 12, 3), (75, .getfield 214, 3), (78, .aload_n 0, 1), (79, .getfield 57, 3), (82, .iload 4, 2), (84, .invokestatic 164, 3), (87, .invokestatic 164, 3), (90, .isub, 1), (91, .istore_n 2, 1), (92, .iinc 4 1, 3), (95, .goto (-35), 3), (98, .iload 4, 2), (100, .ireturn, 1)]
def qa_mX1_burningsToLoad : qa_M := (yX1_burningsToLoad, cX1_burningsToLoad, 5, (some .int), 1, qa_iX1_burningsToLoad, 2, 2, 3, 67, [], 573, 571, 572)
def qa_iX1_sumOfCosts : List (Nat × Instr × Nat) := [(0, .iconst 0, 1), (1, .istore_n 1, 1), (2, .iconst 0, 1), (3, .istore_n 2, 1), (4, .iload_n 2, 1), (5, .aload_n 0, 1), (6, .getfield 12, 3), (9, .getfield 279, 3), (12, .if_icmp .ge 45, 3), (15, .aload_n 0, 1), (16, .getfield 12, 3), (19, .iload_n 2, 1), (20, .invokevirtual 86, 3), (23, .ifCond .ne 14, 3), (26, .iload_n 2, 1), (27, .aload_n 0, 1), (28, .getfield 35, 3), (31, .getfield 90, 3), (34, .if_icmp .ne 17, 3), (37, .iload_n 1, 1), (38, .aload_n 0, 1), (39, .getfield 12, 3), (42, .getfield 214, 3), (45, .iload_n 2, 1), (46, .invokestatic 164, 3), (49, .iadd, 1), (50, .istore_n 1, 1), (51, .iinc 2 1, 3), (54, .goto (-50), 3), (57, .iload_n 1, 1), (58, .ireturn, 1)]
def qa_mX1_sumOfCosts : qa_M := (yX1_sumOfCosts, cX1_sumOfCosts, 3, (some .int), 1, qa_iX1_sumOfCosts, 1, 2, 1, 21, [], 447, 445, 446)
def qa_iX1_sumOfWait : List (Nat × Instr × Nat) := [(0, .aload_n 0, 1), (1, .getfield 35, 3), (4, .getfield 90, 3), (7, .aload_n 0, 1), (8, .getfield 28, 3), (11, .getfield 83, 3), (14, .if_icmp .ne 11, 3), (17, .aload_n 0, 1), (18, .getfield 35, 3), (21, .getfield 204, 3), (24, .ireturn, 1), (25, .aload_n 0, 1), (26, .getfield 35, 3), (29, .getfield 204, 3), (32, .aload_n 0, 1), (33, .getfield 12, 3), (36, .aload_n 0, 1), (37, .getfield 28, 3), (40, .getfield 83, 3), (43, .aload_n 0, 1), (44, .getfield 35, 3), (47, .getfield 204, 3), (50, .invokevirtual 232, 3), (53, .iadd, 1), (54, .ireturn, 1)]
def qa_mX1_sumOfWait : qa_M := (yX1_sumOfWait, cX1_sumOfWait, 1, (some .int), 1, qa_iX1_sumOfWait, 1, 2, 2, 44, [], 707, 705, 706)
def qa_iX2_init : List (Nat × Instr × Nat) := [(0, .aload_n 0, 1), (1, .invokespecial 3, 3), (4, .aload_n 0, 1), (5, .iconst (-1), 1), (6, .putfield 9, 3), (9, .aload_n 0, 1), (10, .bipush 16, 2), (12, .newarray .int, 2), (14, .putfield 15, 3), (17, .return_, 1)]
def qa_mX2_init : qa_M := (yX2_init, cX2_init, 1, none, 2, qa_iX2_init, 1, 0, 1, 20, [], 187, 186, 0)
def qa_iX2_copyFrom : List (Nat × Instr × Nat) := [(0, .aload_n 0, 1), (1, .aload_n 1, 1), (2, .getfield 9, 3), (5, .putfield 9, 3), (8, .aload_n 0, 1), (9, .aload_n 1, 1), (10, .getfield 19, 3), (13, .putfield 19, 3), (16, .aload_n 0, 1), (17, .aload_n 1, 1), (18, .getfield 22, 3), (21, .putfield 22, 3), (24, .aload_n 1, 1), (25, .getfield 15, 3), (28, .aload_n 0, 1), (29, .getfield 15, 3), (32, .invokestatic 25, 3), (35, .aload_n 0, 1), (36, .aload_n 1, 1), (37, .getfield 29, 3), (40, .putfield 29, 3), (43, .return_, 1)]
def qa_mX2_copyFrom : qa_M := (yX2_copyFrom, cX2_copyFrom, 2, none, 2, qa_iX2_copyFrom, 2, 2, 1, 22, [], 609, 607, 608)
def qa_iX2_queuePlace : List (Nat × Instr × Nat) := [(0, .iconst 0, 1), (1, .istore_n 2, 1), (2, .iload_n 2, 1), (3, .aload_n 0, 1), (4, .getfield 22, 3), (7, .if_icmp .ge 23, 3), (10, .aload_n 0, 1), (11, .getfield 15, 3), (14, .iload_n 2, 1), (15, .invokestatic 32, 3), (18, .iload_n 1, 1), (19, .if_icmp .ne 5, 3), (22, .iload_n 2, 1), (23, .ireturn, 1), (24, .iinc 2 1, 3), (27, .goto (-25), 3), (30, .iconst (-1), 1), (31, .ireturn, 1)]
def qa_mX2_queuePlace : qa_M := (yX2_queuePlace, cX2_queuePlace, 3, (some .int), 2, qa_iX2_queuePlace, 2, 2, 1, 21, [], 676, 674, 675)
def qa_iX2_queue : List (Nat × Instr × Nat) := [(0, .aload_n 0, 1), (1, .getfield 15, 3), (4, .aload_n 0, 1), (5, .getfield 22, 3), (8, .iload_n 1, 1), (9, .invokestatic 36, 3), (12, .aload_n 0, 1), (13, .dup, 1), (14, .getfield 22, 3), (17, .iconst 1, 1), (18, .iadd, 1), (19, .putfield 22, 3), (22, .return_, 1)]
def qa_mX2_queue : qa_M := (yX2_queue, cX2_queue, 2, none, 2, qa_iX2_queue, 2, 2, 1, 22, [], 900, 898, 899)
def qa_iX2_unqueue : List (Nat × Instr × Nat) := [(0, .iload_n 1, 1), (1, .istore_n 2, 1), (2, .iload_n 2, 1), (3, .iconst 1, 1), (4, .iadd, 1), (5, .aload_n 0, 1), (6, .getfield 22, 3), (9, .if_icmp .ge 27, 3), (12, .aload_n 0, 1), (13, .getfield 15, 3), (16, .iload_n 2, 1), (17, .aload_n 0, 1), (18, .getfield 15, 3), (21, .iload_n 2, 1), (22, .iconst 1, 1), (23, .iadd, 1), (24, .invokestatic 32, 3), (27, .invokestatic 36, 3), (30, .iinc 2 1, 3), (33, .goto (-31), 3), (36, .aload_n 0, 1), (37, .dup, 1), (38, .getfield 22, 3), (41, .iconst 1, 1), (42, .isub, 1), (43, .putfield 22, 3), (46, .return_, 1)]
def qa_mX2_unqueue : qa_M := (yX2_unqueue, cX2_unqueue, 3, none, 2, qa_iX2_unqueue, 2, 2, 1, 22, [], 681, 679, 680)
def qa_iX3_init : List (Nat × Instr × Nat) := [(0, .aload_n 0, 1), (1, .invokespecial 3, 3), (4, .aload_n 0, 1), (5, .iconst (-1), 1), (6, .putfield 9, 3), (9, .aload_n 0, 1), (10, .bipush 24, 2), (12, .newarray .int, 2), (14, .putfield 15, 3), (17, .return_, 1)]
def qa_mX3_init : qa_M := (yX3_init, cX3_init, 1, none, 3, qa_iX3_init, 1, 0, 1, 20, [], 137, 136, 0)
def qa_iX3_copyFrom : List (Nat × Instr × Nat) := [(0, .aload_n 0, 1), (1, .aload_n 1, 1), (2, .getfield 19, 3), (5, .putfield 19, 3), (8, .aload_n 0, 1), (9, .aload_n 1, 1), (10, .getfield 9, 3), (13, .putfield 9, 3), (16, .aload_n 1, 1), (17, .getfield 15, 3), (20, .aload_n 0, 1), (21, .getfield 15, 3), (24, .invokestatic 22, 3), (27, .return_, 1)]
def qa_mX3_copyFrom : qa_M := (yX3_copyFrom, cX3_copyFrom, 2, none, 3, qa_iX3_copyFrom, 2, 2, 1, 22, [], 600, 598, 599)
def qa_iX3_has : List (Nat × Instr × Nat) := [(0, .iload_n 1, 1), (1, .ifCond .lt 15, 3), (4, .iload_n 1, 1), (5, .aload_n 0, 1), (6, .getfield 19, 3), (9, .if_icmp .ge 7, 3), (12, .iconst 1, 1), (13, .goto 4, 3), (16, .iconst 0, 1), (17, .ireturn, 1)]
def qa_mX3_has : qa_M := (yX3_has, cX3_has, 2, (some .boolean), 3, qa_iX3_has, 2, 2, 0, 0, [], 872, 870, 871)
def qa_iX3_put : List (Nat × Instr × Nat) := [(0, .aload_n 0, 1), (1, .getfield 19, 3), (4, .istore_n 3, 1), (5, .iload_n 3, 1), (6, .iload_n 1, 1), (7, .if_icmp .le 27, 3), (10, .aload_n 0, 1), (11, .getfield 15, 3), (14, .iload_n 3, 1), (15, .aload_n 0, 1), (16, .getfield 15, 3), (19, .iload_n 3, 1), (20, .iconst 1, 1), (21, .isub, 1), (22, .invokestatic 26, 3), (25, .invokestatic 30, 3), (28, .iinc 3 (-1), 3), (31, .goto (-26), 3), (34, .aload_n 0, 1), (35, .getfield 15, 3), (38, .iload_n 1, 1), (39, .iload_n 2, 1), (40, .invokestatic 30, 3), (43, .aload_n 0, 1), (44, .dup, 1), (45, .getfield 19, 3), (48, .iconst 1, 1), (49, .iadd, 1), (50, .putfield 19, 3), (53, .iload_n 1, 1), (54, .aload_n 0, 1), (55, .getfield 9, 3), (58, .if_icmp .gt 13, 3), (61, .aload_n 0, 1), (62, .dup, 1), (63, .getfield 9, 3), (66, .iconst 1, 1), (67, .iadd, 1), (68, .putfield 9, 3), (71, .return_, 1)]
def qa_mX3_put : qa_M := (yX3_put, cX3_put, 4, none, 3, qa_iX3_put, 3, 2, 1, 22, [], 860, 858, 859)
def qa_iX3_remove : List (Nat × Instr × Nat) := [(0, .aload_n 0, 1), (1, .getfield 15, 3), (4, .iload_n 1, 1), (5, .invokestatic 26, 3), (8, .istore_n 2, 1), (9, .iload_n 1, 1), (10, .istore_n 3, 1), (11, .iload_n 3, 1), (12, .iconst 1, 1), (13, .iadd, 1), (14, .aload_n 0, 1), (15, .getfield 19, 3), (18, .if_icmp .ge 27, 3), (21, .aload_n 0, 1), (22, .getfield 15, 3), (25, .iload_n 3, 1), (26, .aload_n 0, 1), (27, .getfield 15, 3), (30, .iload_n 3, 1), (31, .iconst 1, 1), (32, .iadd, 1), (33, .invokestatic 26, 3), (36, .invokestatic 30, 3), (39, .iinc 3 1, 3), (42, .goto (-31), 3), (45, .aload_n 0, 1), (46, .dup, 1), (47, .getfield 19, 3), (50, .iconst 1, 1), (51, .isub, 1), (52, .putfield 19, 3), (55, .iload_n 1, 1), (56, .aload_n 0, 1), (57, .getfield 9, 3), (60, .if_icmp .gt 13, 3), (63, .aload_n 0, 1), (64, .dup, 1), (65, .getfield 9, 3), (68, .iconst 1, 1), (69, .isub, 1), (70, .putfield 9, 3), (73, .iload_n 2, 1), (74, .ireturn, 1)]
def qa_mX3_remove : qa_M := (yX3_remove, cX3_remove, 4, (some .int), 3, qa_iX3_remove, 2, 2, 1, 22, [], 876, 874, 875)
def qa_iX3_advance : List (Nat × Instr × Nat) := [(0, .aload_n 0, 1), (1, .aload_n 0, 1), (2, .getfield 9, 3), (5, .iconst 1, 1), (6, .iadd, 1), (7, .aload_n 0, 1), (8, .getfield 19, 3), (11, .if_icmp .ge 12, 3), (14, .aload_n 0, 1), (15, .getfield 9, 3), (18, .iconst 1, 1), (19, .iadd, 1), (20, .goto 4, 3), (23, .iconst 0, 1), (24, .putfield 9, 3), (27, .aload_n 0, 1), (28, .getfield 15, 3), (31, .aload_n 0, 1), (32, .getfield 9, 3), (35, .invokestatic 26, 3), (38, .ireturn, 1)]
def qa_mX3_advance : qa_M := (yX3_advance, cX3_advance, 1, (some .int), 3, qa_iX3_advance, 1, 2, 1, 21, [], 671, 669, 670)
def qa_iX3_slideAhead : List (Nat × Instr × Nat) := [(0, .aload_n 0, 1), (1, .getfield 19, 3), (4, .ifCond .gt 5, 3), (7, .iconst (-1), 1), (8, .ireturn, 1), (9, .aload_n 0, 1), (10, .getfield 9, 3), (13, .iload_n 1, 1), (14, .iadd, 1), (15, .aload_n 0, 1), (16, .getfield 19, 3), (19, .irem, 1), (20, .istore_n 2, 1), (21, .iload_n 2, 1), (22, .ifCond .lt 21, 3), (25, .iload_n 2, 1), (26, .aload_n 0, 1), (27, .getfield 15, 3), (30, .arraylength, 1), (31, .if_icmp .ge 12, 3), (34, .aload_n 0, 1), (35, .getfield 15, 3), (38, .iload_n 2, 1), (39, .iaload, 1), (40, .goto 4, 3), (43, .iconst (-1), 1), (44, .ireturn, 1)]
def qa_mX3_slideAhead : qa_M := (yX3_slideAhead, cX3_slideAhead, 3, (some .int), 3, qa_iX3_slideAhead, 2, 2, 0, 0, [], 544, 542, 543)
def qa_iX3_placesUntil : List (Nat × Instr × Nat) := [(0, .iconst 1, 1), (1, .istore_n 2, 1), (2, .iload_n 2, 1), (3, .aload_n 0, 1), (4, .getfield 19, 3), (7, .if_icmp .gt 20, 3), (10, .aload_n 0, 1), (11, .iload_n 2, 1), (12, .invokevirtual 34, 3), (15, .iload_n 1, 1), (16, .if_icmp .ne 5, 3), (19, .iload_n 2, 1), (20, .ireturn, 1), (21, .iinc 2 1, 3), (24, .goto (-22), 3), (27, .iconst 0, 1), (28, .ireturn, 1)]
def qa_mX3_placesUntil : qa_M := (yX3_placesUntil, cX3_placesUntil, 3, (some .int), 3, qa_iX3_placesUntil, 2, 2, 1, 22, [], 540, 538, 539)
def qa_iX4_init : List (Nat × Instr × Nat) := [(0, .aload_n 0, 1), (1, .invokespecial 3, 3), (4, .aload_n 0, 1), (5, .sipush 150, 3), (8, .putfield 9, 3), (11, .aload_n 0, 1), (12, .iconst 1, 1), (13, .putfield 15, 3), (16, .aload_n 0, 1), (17, .iconst 5, 1), (18, .putfield 18, 3), (21, .return_, 1)]
def qa_mX4_init : qa_M := (yX4_init, cX4_init, 1, none, 4, qa_iX4_init, 1, 0, 1, 20, [], 219, 218, 0)
def qa_iX4_copyFrom : List (Nat × Instr × Nat) := [(0, .aload_n 0, 1), (1, .aload_n 1, 1), (2, .getfield 9, 3), (5, .putfield 9, 3), (8, .aload_n 0, 1), (9, .aload_n 1, 1), (10, .getfield 15, 3), (13, .putfield 15, 3), (16, .aload_n 0, 1), (17, .aload_n 1, 1), (18, .getfield 21, 3), (21, .putfield 21, 3), (24, .aload_n 0, 1), (25, .aload_n 1, 1), (26, .getfield 18, 3), (29, .putfield 18, 3), (32, .aload_n 0, 1), (33, .aload_n 1, 1), (34, .getfield 24, 3), (37, .putfield 24, 3), (40, .return_, 1)]
def qa_mX4_copyFrom : qa_M := (yX4_copyFrom, cX4_copyFrom, 2, none, 4, qa_iX4_copyFrom, 2, 2, 0, 0, [], 614, 612, 613)
def qa_iX5_init : List (Nat × Instr × Nat) := [(0, .aload_n 0, 1), (1, .invokespecial 3, 3), (4, .aload_n 0, 1), (5, .bipush 6, 2), (7, .anewarray 9, 3), (10, .putfield 11, 3), (13, .iconst 0, 1), (14, .istore_n 1, 1), (15, .iload_n 1, 1), (16, .aload_n 0, 1), (17, .getfield 11, 3), (20, .arraylength, 1), (21, .if_icmp .ge 22, 3), (24, .aload_n 0, 1), (25, .getfield 11, 3), (28, .iload_n 1, 1), (29, .new 9, 3), (32, .dup, 1), (33, .invokespecial 17, 3), (36, .aastore, 1), (37, .iinc 1 1, 3), (40, .goto (-25), 3), (43, .return_, 1)]
def qa_mX5_init : qa_M := (yX5_init, cX5_init, 2, none, 5, qa_iX5_init, 1, 0, 3, 60, [], 324, 323, 0)
def qa_iX5_push : List (Nat × Instr × Nat) := [(0, .aload_n 0, 1), (1, .getfield 18, 3), (4, .aload_n 0, 1), (5, .getfield 22, 3), (8, .iadd, 1), (9, .bipush 6, 2), (11, .irem, 1), (12, .istore_n 2, 1), (13, .iload_n 2, 1), (14, .ifCond .lt 31, 3), (17, .iload_n 2, 1), (18, .aload_n 0, 1), (19, .getfield 11, 3), (22, .arraylength, 1), (23, .if_icmp .ge 22, 3), (26, .aload_n 0, 1), (27, .getfield 11, 3), (30, .iload_n 2, 1), (31, .aaload, 1), (32, .ifnull 13, 3), (35, .aload_n 0, 1), (36, .getfield 11, 3), (39, .iload_n 2, 1), (40, .aaload, 1), (41, .aload_n 1, 1), (42, .invokevirtual 25, 3), (45, .aload_n 0, 1), (46, .getfield 22, 3), (49, .bipush 6, 2), (51, .if_icmp .ge 16, 3), (54, .aload_n 0, 1), (55, .dup, 1), (56, .getfield 22, 3), (59, .iconst 1, 1), (60, .iadd, 1), (61, .putfield 22, 3), (64, .goto 16, 3), (67, .aload_n 0, 1), (68, .aload_n 0, 1), (69, .getfield 18, 3), (72, .iconst 1, 1), (73, .iadd, 1), (74, .bipush 6, 2), (76, .irem, 1), (77, .putfield 18, 3), (80, .return_, 1)]
def qa_mX5_push : qa_M := (yX5_push, cX5_push, 3, none, 5, qa_iX5_push, 2, 2, 3, 65, [], 820, 818, 819)
def qa_iX5_popInto : List (Nat × Instr × Nat) := [(0, .aload_n 0, 1), (1, .dup, 1), (2, .getfield 22, 3), (5, .iconst 1, 1), (6, .isub, 1), (7, .putfield 22, 3), (10, .aload_n 0, 1), (11, .getfield 18, 3), (14, .aload_n 0, 1), (15, .getfield 22, 3), (18, .iadd, 1), (19, .bipush 6, 2), (21, .irem, 1), (22, .istore_n 2, 1), (23, .iload_n 2, 1), (24, .ifCond .lt 31, 3), (27, .iload_n 2, 1), (28, .aload_n 0, 1), (29, .getfield 11, 3), (32, .arraylength, 1), (33, .if_icmp .ge 22, 3), (36, .aload_n 0, 1), (37, .getfield 11, 3), (40, .iload_n 2, 1), (41, .aaload, 1), (42, .ifnull 13, 3), (45, .aload_n 1, 1), (46, .aload_n 0, 1), (47, .getfield 11, 3), (50, .iload_n 2, 1), (51, .aaload, 1), (52, .invokevirtual 25, 3), (55, .return_, 1)]
def qa_mX5_popInto : qa_M := (yX5_popInto, cX5_popInto, 3, none, 5, qa_iX5_popInto, 2, 2, 3, 65, [], 1038, 1036, 1037)
def qa_iX6_init : List (Nat × Instr × Nat) := [(0, .aload_n 0, 1), (1, .invokespecial 3, 3), (4, .aload_n 0, 1), (5, .bipush 16, 2), (7, .newarray .int, 2), (9, .putfield 9, 3), (12, .aload_n 0, 1), (13, .bipush 16, 2), (15, .newarray .int, 2), (17, .putfield 15, 3), (20, .aload_n 0, 1), (21, .bipush 16, 2), (23, .newarray .int, 2), (25, .putfield 18, 3), (28, .aload_n 0, 1), (29, .bipush 16, 2), (31, .newarray .boolean, 2), (33, .putfield 21, 3), (36, .aload_n 0, 1), (37, .bipush 16, 2), (39, .newarray .int, 2), (41, .putfield 25, 3), (44, .aload_n 0, 1), (45, .bipush 16, 2), (47, .newarray .int, 2), (49, .putfield 28, 3), (52, .aload_n 0, 1), (53, .bipush 16, 2), (55, .newarray .int, 2), (57, .putfield 31, 3), (60, .return_, 1)]
def qa_mX6_init : qa_M := (yX6_init, cX6_init, 1, none, 6, qa_iX6_init, 1, 0, 1, 20, [], 90, 89, 0)
def qa_iX6_copyFrom : List (Nat × Instr × Nat) := [(0, .aload_n 0, 1), (1, .aload_n 1, 1), (2, .getfield 34, 3), (5, .putfield 34, 3), (8, .aload_n 1, 1), (9, .getfield 9, 3), (12, .aload_n 0, 1), (13, .getfield 9, 3), (16, .invokestatic 38, 3), (19, .aload_n 1, 1), (20, .getfield 15, 3), (23, .aload_n 0, 1), (24, .getfield 15, 3), (27, .invokestatic 38, 3), (30, .aload_n 1, 1), (31, .getfield 18, 3), (34, .aload_n 0, 1), (35, .getfield 18, 3), (38, .invokestatic 38, 3), (41, .aload_n 1, 1), (42, .getfield 25, 3), (45, .aload_n 0, 1), (46, .getfield 25, 3), (49, .invokestatic 38, 3), (52, .aload_n 1, 1), (53, .getfield 28, 3), (56, .aload_n 0, 1), (57, .getfield 28, 3), (60, .invokestatic 38, 3), (63, .aload_n 1, 1), (64, .getfield 31, 3), (67, .aload_n 0, 1), (68, .getfield 31, 3), (71, .invokestatic 38, 3), (74, .iconst 0, 1), (75, .istore_n 2, 1), (76, .iload_n 2, 1), (77, .aload_n 0, 1), (78, .getfield 21, 3), (81, .arraylength, 1), (82, .if_icmp .ge 30, 3), (85, .iload_n 2, 1), (86, .aload_n 1, 1), (87, .getfield 21, 3), (90, .arraylength, 1), (91, .if_icmp .ge 21, 3), (94, .aload_n 0, 1), (95, .getfield 21, 3), (98, .iload_n 2, 1), (99, .aload_n 1, 1), (100, .getfield 21, 3), (103, .iload_n 2, 1), (104, .baload, 1), (105, .bastore, 1), (106, .iinc 2 1, 3), (109, .goto (-33), 3), (112, .aload_n 0, 1), (113, .aload_n 1, 1), (114, .getfield 42, 3), (117, .putfield 42, 3), (120, .return_, 1)]
def qa_mX6_copyFrom : qa_M := (yX6_copyFrom, cX6_copyFrom, 3, none, 6, qa_iX6_copyFrom, 2, 2, 1, 22, [], 593, 591, 592)
def qa_iX6_has : List (Nat × Instr × Nat) := [(0, .iload_n 1, 1), (1, .ifCond .lt 15, 3), (4, .iload_n 1, 1), (5, .aload_n 0, 1), (6, .getfield 34, 3), (9, .if_icmp .ge 7, 3), (12, .iconst 1, 1), (13, .goto 4, 3), (16, .iconst 0, 1), (17, .ireturn, 1)]
def qa_mX6_has : qa_M := (yX6_has, cX6_has, 2, (some .boolean), 6, qa_iX6_has, 2, 2, 0, 0, [], 838, 836, 837)
def qa_iX6_isReady : List (Nat × Instr × Nat) := [(0, .iload_n 1, 1), (1, .ifCond .lt 25, 3), (4, .iload_n 1, 1), (5, .aload_n 0, 1), (6, .getfield 21, 3), (9, .arraylength, 1), (10, .if_icmp .ge 16, 3), (13, .aload_n 0, 1), (14, .getfield 21, 3), (17, .iload_n 1, 1), (18, .baload, 1), (19, .ifCond .eq 7, 3), (22, .iconst 1, 1), (23, .goto 4, 3), (26, .iconst 0, 1), (27, .ireturn, 1)]
def qa_mX6_isReady : qa_M := (yX6_isReady, cX6_isReady, 2, (some .boolean), 6, qa_iX6_isReady, 2, 2, 0, 0, [], 451, 449, 450)
def qa_iX6_setReady : List (Nat × Instr × Nat) := [(0, .iload_n 1, 1), (1, .ifCond .lt 19, 3), (4, .iload_n 1, 1), (5, .aload_n 0, 1), (6, .getfield 21, 3), (9, .arraylength, 1), (10, .if_icmp .ge 10, 3), (13, .aload_n 0, 1), (14, .getfield 21, 3), (17, .iload_n 1, 1), (18, .iload_n 2, 1), (19, .bastore, 1), (20, .return_, 1)]
def qa_mX6_setReady : qa_M := (yX6_setReady, cX6_setReady, 3, none, 6, qa_iX6_setReady, 3, 2, 0, 0, [], 642, 640, 641)
def qa_iX6_add : List (Nat × Instr × Nat) := [(0, .aload_n 0, 1), (1, .getfield 34, 3), (4, .istore 4, 2), (6, .aload_n 0, 1), (7, .getfield 9, 3), (10, .iload 4, 2), (12, .iload_n 1, 1), (13, .invokestatic 45, 3), (16, .aload_n 0, 1), (17, .getfield 15, 3), (20, .iload 4, 2), (22, .iload_n 2, 1), (23, .invokestatic 45, 3), (26, .aload_n 0, 1), (27, .getfield 18, 3), (30, .iload 4, 2), (32, .iload_n 3, 1), (33, .invokestatic 45, 3), (36, .aload_n 0, 1), (37, .dup, 1), (38, .getfield 34, 3), (41, .iconst 1, 1), (42, .iadd, 1), (43, .putfield 34, 3), (46, .iload 4, 2), (48, .ireturn, 1)]
def qa_mX6_add : qa_M := (yX6_add, cX6_add, 5, (some .int), 6, qa_iX6_add, 4, 2, 1, 22, [], 825, 823, 824)
def qa_iX6_ticksToLoad : List (Nat × Instr × Nat) := [(0, .aload_n 0, 1), (1, .getfield 15, 3), (4, .iload_n 1, 1), (5, .invokestatic 49, 3), (8, .istore_n 3, 1), (9, .aload_n 0, 1), (10, .getfield 25, 3), (13, .iload_n 1, 1), (14, .invokestatic 49, 3), (17, .iload_n 2, 1), (18, .if_icmp .le 11, 3), (21, .iload_n 3, 1), (22, .iconst 1, 1), (23, .iadd, 1), (24, .iconst 2, 1), (25, .idiv, 1), (26, .goto 4, 3), (29, .iload_n 3, 1), (30, .ireturn, 1)]
def qa_mX6_ticksToLoad : qa_M := (yX6_ticksToLoad, cX6_ticksToLoad, 4, (some .int), 6, qa_iX6_ticksToLoad, 3, 2, 1, 21, [], 530, 528, 529)
def qa_iX6_use : List (Nat × Instr × Nat) := [(0, .aload_n 0, 1), (1, .dup, 1), (2, .getfield 42, 3), (5, .iconst 1, 1), (6, .iadd, 1), (7, .putfield 42, 3), (10, .aload_n 0, 1), (11, .getfield 31, 3), (14, .iload_n 1, 1), (15, .aload_n 0, 1), (16, .getfield 42, 3), (19, .invokestatic 45, 3), (22, .return_, 1)]
def qa_mX6_use : qa_M := (yX6_use, cX6_use, 2, none, 6, qa_iX6_use, 2, 2, 1, 22, [], 646, 644, 645)
def qa_iX6_coolEmbers : List (Nat × Instr × Nat) := [(0, .iconst 0, 1), (1, .istore_n 1, 1), (2, .iload_n 1, 1), (3, .aload_n 0, 1), (4, .getfield 34, 3), (7, .if_icmp .ge 37, 3), (10, .iload_n 1, 1), (11, .aload_n 0, 1), (12, .getfield 25, 3), (15, .arraylength, 1), (16, .if_icmp .ge 28, 3), (19, .aload_n 0, 1), (20, .getfield 25, 3), (23, .iload_n 1, 1), (24, .iaload, 1), (25, .ifCond .le 13, 3), (28, .aload_n 0, 1), (29, .getfield 25, 3), (32, .iload_n 1, 1), (33, .dup2, 1), (34, .iaload, 1), (35, .iconst 1, 1), (36, .isub, 1), (37, .iastore, 1), (38, .iinc 1 1, 3), (41, .goto (-39), 3), (44, .return_, 1)]
def qa_mX6_coolEmbers : qa_M := (yX6_coolEmbers, cX6_coolEmbers, 2, none, 6, qa_iX6_coolEmbers, 1, 2, 0, 0, [], 626, 624, 625)
def qa_iX7_init : List (Nat × Instr × Nat) := [(0, .aload_n 0, 1), (1, .invokespecial 3, 3), (4, .aload_n 0, 1), (5, .iconst (-1), 1), (6, .putfield 9, 3), (9, .aload_n 0, 1), (10, .iconst (-1), 1), (11, .putfield 15, 3), (14, .aload_n 0, 1), (15, .iconst (-1), 1), (16, .putfield 18, 3), (19, .return_, 1)]
def qa_mX7_init : qa_M := (yX7_init, cX7_init, 1, none, 7, qa_iX7_init, 1, 0, 1, 20, [], 157, 156, 0)
def qa_iX7_copyFrom : List (Nat × Instr × Nat) := [(0, .aload_n 0, 1), (1, .aload_n 1, 1), (2, .getfield 9, 3), (5, .putfield 9, 3), (8, .aload_n 0, 1), (9, .aload_n 1, 1), (10, .getfield 21, 3), (13, .putfield 21, 3), (16, .aload_n 0, 1), (17, .aload_n 1, 1), (18, .getfield 15, 3), (21, .putfield 15, 3), (24, .aload_n 0, 1), (25, .aload_n 1, 1), (26, .getfield 24, 3), (29, .putfield 24, 3), (32, .aload_n 0, 1), (33, .aload_n 1, 1), (34, .getfield 18, 3), (37, .putfield 18, 3), (40, .return_, 1)]
def qa_mX7_copyFrom : qa_M := (yX7_copyFrom, cX7_copyFrom, 2, none, 7, qa_iX7_copyFrom, 2, 2, 0, 0, [], 605, 603, 604)
def qa_iX7_bears : List (Nat × Instr × Nat) := [(0, .iload_n 1, 1), (1, .aload_n 0, 1), (2, .getfield 9, 3), (5, .if_icmp .eq 11, 3), (8, .iload_n 1, 1), (9, .aload_n 0, 1), (10, .getfield 15, 3), (13, .if_icmp .ne 7, 3), (16, .iconst 1, 1), (17, .goto 4, 3), (20, .iconst 0, 1), (21, .ireturn, 1)]
def qa_mX7_bears : qa_M := (yX7_bears, cX7_bears, 2, (some .boolean), 7, qa_iX7_bears, 2, 2, 0, 0, [], 536, 534, 535)
def qa_iX7_bring : List (Nat × Instr × Nat) := [(0, .iload_n 1, 1), (1, .aload_n 0, 1), (2, .getfield 9, 3), (5, .if_icmp .eq 36, 3), (8, .aload_n 0, 1), (9, .iload_n 2, 1), (10, .ifCond .le 10, 3), (13, .aload_n 0, 1), (14, .getfield 9, 3), (17, .goto 4, 3), (20, .iconst (-1), 1), (21, .putfield 15, 3), (24, .aload_n 0, 1), (25, .aload_n 0, 1), (26, .getfield 15, 3), (29, .iconst (-1), 1), (30, .if_icmp .eq 7, 3), (33, .iload_n 2, 1), (34, .goto 4, 3), (37, .iconst 0, 1), (38, .putfield 24, 3), (41, .aload_n 0, 1), (42, .iload_n 1, 1), (43, .putfield 9, 3), (46, .aload_n 0, 1), (47, .iconst 0, 1), (48, .putfield 21, 3), (51, .aload_n 0, 1), (52, .iconst (-1), 1), (53, .putfield 18, 3), (56, .return_, 1)]
def qa_mX7_bring : qa_M := (yX7_bring, cX7_bring, 3, none, 7, qa_iX7_bring, 3, 2, 0, 0, [], 655, 653, 654)
def qa_iX7_fadeOnce : List (Nat × Instr × Nat) := [(0, .aload_n 0, 1), (1, .getfield 24, 3), (4, .ifCond .le 13, 3), (7, .aload_n 0, 1), (8, .dup, 1), (9, .getfield 24, 3), (12, .iconst 1, 1), (13, .isub, 1), (14, .putfield 24, 3), (17, .aload_n 0, 1), (18, .getfield 24, 3), (21, .ifCond .ne 8, 3), (24, .aload_n 0, 1), (25, .iconst (-1), 1), (26, .putfield 15, 3), (29, .return_, 1)]
def qa_mX7_fadeOnce : qa_M := (yX7_fadeOnce, cX7_fadeOnce, 1, none, 7, qa_iX7_fadeOnce, 1, 2, 0, 0, [], 630, 628, 629)
def qa_iX7_countShown : List (Nat × Instr × Nat) := [(0, .aload_n 0, 1), (1, .getfield 9, 3), (4, .iconst (-1), 1), (5, .if_icmp .eq 13, 3), (8, .aload_n 0, 1), (9, .dup, 1), (10, .getfield 21, 3), (13, .iconst 1, 1), (14, .iadd, 1), (15, .putfield 21, 3), (18, .return_, 1)]
def qa_mX7_countShown : qa_M := (yX7_countShown, cX7_countShown, 1, none, 7, qa_iX7_countShown, 1, 2, 0, 0, [], 634, 632, 633)
def qa_iX8_init : List (Nat × Instr × Nat) := [(0, .aload_n 0, 1), (1, .invokespecial 3, 3), (4, .aload_n 0, 1), (5, .bipush 60, 2), (7, .newarray .int, 2), (9, .putfield 9, 3), (12, .return_, 1)]
def qa_mX8_init : qa_M := (yX8_init, cX8_init, 1, none, 8, qa_iX8_init, 1, 0, 1, 20, [], 344, 343, 0)
def qa_iX8_add : List (Nat × Instr × Nat) := [(0, .aload_n 0, 1), (1, .getfield 9, 3), (4, .aload_n 0, 1), (5, .getfield 15, 3), (8, .iload_n 1, 1), (9, .invokestatic 19, 3), (12, .aload_n 0, 1), (13, .dup, 1), (14, .getfield 15, 3), (17, .iconst 1, 1), (18, .iadd, 1), (19, .putfield 15, 3), (22, .return_, 1)]
def qa_mX8_add : qa_M := (yX8_add, cX8_add, 2, none, 8, qa_iX8_add, 2, 2, 1, 22, [], 968, 966, 967)
def qa_iX8_startReading : List (Nat × Instr × Nat) := [(0, .aload_n 0, 1), (1, .invokevirtual 23, 3), (4, .aload_n 0, 1), (5, .iconst 0, 1), (6, .putfield 26, 3), (9, .return_, 1)]
def qa_mX8_startReading : qa_M := (yX8_startReading, cX8_startReading, 1, none, 8, qa_iX8_startReading, 1, 2, 1, 20, [], 985, 983, 984)
def qa_iX8_startPart : List (Nat × Instr × Nat) := [(0, .aload_n 0, 1), (1, .iconst 0, 1), (2, .putfield 29, 3), (5, .aload_n 0, 1), (6, .iconst (-1), 1), (7, .putfield 32, 3), (10, .return_, 1)]
def qa_mX8_startPart : qa_M := (yX8_startPart, cX8_startPart, 1, none, 8, qa_iX8_startPart, 1, 2, 0, 0, [], 400, 398, 399)
def qa_iX8_readPart : List (Nat × Instr × Nat) := [(0, .aload_n 0, 1), (1, .invokevirtual 23, 3), (4, .aload_n 0, 1), (5, .getfield 26, 3), (8, .istore_n 1, 1), (9, .iload_n 1, 1), (10, .aload_n 0, 1), (11, .getfield 15, 3), (14, .if_icmp .ge 35, 3), (17, .aload_n 0, 1), (18, .getfield 9, 3), (21, .iload_n 1, 1), (22, .invokestatic 35, 3), (25, .bipush 59, 2), (27, .if_icmp .eq 22, 3), (30, .aload_n 0, 1), (31, .aload_n 0, 1), (32, .getfield 9, 3), (35, .iload_n 1, 1), (36, .invokestatic 35, 3), (39, .invokevirtual 39, 3), (42, .pop, 1), (43, .iinc 1 1, 3), (46, .goto (-37), 3), (49, .aload_n 0, 1), (50, .iload_n 1, 1), (51, .iconst 1, 1), (52, .iadd, 1), (53, .putfield 26, 3), (56, .aload_n 0, 1), (57, .getfield 29, 3), (60, .ifCond .eq 7, 3), (63, .iconst 1, 1), (64, .goto 4, 3), (67, .iconst 0, 1), (68, .ireturn, 1)]
def qa_mX8_readPart : qa_M := (yX8_readPart, cX8_readPart, 2, (some .boolean), 8, qa_iX8_readPart, 1, 2, 2, 44, [], 989, 987, 988)
def qa_iX8_readToError : List (Nat × Instr × Nat) := [(0, .aload_n 0, 1), (1, .invokevirtual 23, 3), (4, .iconst 0, 1), (5, .istore_n 1, 1), (6, .iload_n 1, 1), (7, .aload_n 0, 1), (8, .getfield 15, 3), (11, .if_icmp .ge 26, 3), (14, .aload_n 0, 1), (15, .aload_n 0, 1), (16, .getfield 9, 3), (19, .iload_n 1, 1), (20, .invokestatic 35, 3), (23, .invokevirtual 39, 3), (26, .ifCond .ne 5, 3), (29, .iload_n 1, 1), (30, .ireturn, 1), (31, .iinc 1 1, 3), (34, .goto (-28), 3), (37, .aload_n 0, 1), (38, .getfield 15, 3), (41, .ireturn, 1)]
def qa_mX8_readToError : qa_M := (yX8_readToError, cX8_readToError, 2, (some .int), 8, qa_iX8_readToError, 1, 2, 2, 44, [], 396, 394, 395)
def qa_iX8_tellsOrders : List (Nat × Instr × Nat) := [(0, .aload_n 0, 1), (1, .invokevirtual 43, 3), (4, .aload_n 0, 1), (5, .getfield 15, 3), (8, .if_icmp .ne 14, 3), (11, .aload_n 0, 1), (12, .invokevirtual 47, 3), (15, .ifCond .eq 7, 3), (18, .iconst 1, 1), (19, .goto 4, 3), (22, .iconst 0, 1), (23, .ireturn, 1)]
def qa_mX8_tellsOrders : qa_M := (yX8_tellsOrders, cX8_tellsOrders, 1, (some .boolean), 8, qa_iX8_tellsOrders, 1, 2, 3, 65, [], 980, 978, 979)
def qa_iX8_partMayEnd : List (Nat × Instr × Nat) := [(0, .aload_n 0, 1), (1, .getfield 29, 3), (4, .bipush 110, 2), (6, .if_icmp .eq 11, 3), (9, .aload_n 0, 1), (10, .getfield 32, 3), (13, .iconst (-1), 1), (14, .if_icmp .eq 7, 3), (17, .iconst 1, 1), (18, .goto 4, 3), (21, .iconst 0, 1), (22, .ireturn, 1)]
def qa_mX8_partMayEnd : qa_M := (yX8_partMayEnd, cX8_partMayEnd, 1, (some .boolean), 8, qa_iX8_partMayEnd, 1, 2, 0, 0, [], 411, 409, 410)
def qa_iX8_accept : List (Nat × Instr × Nat) := [(0, .aload_n 0, 1), (1, .getfield 29, 3), (4, .ifCond .ne 44, 3), (7, .aload_n 0, 1), (8, .iload_n 1, 1), (9, .putfield 29, 3), (12, .iload_n 1, 1), (13, .bipush 110, 2), (15, .if_icmp .eq 27, 3), (18, .iload_n 1, 1), (19, .bipush 97, 2), (21, .if_icmp .eq 21, 3), (24, .iload_n 1, 1), (25, .bipush 98, 2), (27, .if_icmp .eq 15, 3), (30, .iload_n 1, 1), (31, .bipush 112, 2), (33, .if_icmp .eq 9, 3), (36, .iload_n 1, 1), (37, .bipush 116, 2), (39, .if_icmp .ne 7, 3), (42, .iconst 1, 1), (43, .goto 4, 3), (46, .iconst 0, 1), (47, .ireturn, 1), (48, .iload_n 1, 1), (49, .bipush 59, 2), (51, .if_icmp .ne 14, 3), (54, .aload_n 0, 1), (55, .invokevirtual 47, 3), (58, .istore_n 2, 1), (59, .aload_n 0, 1), (60, .invokevirtual 23, 3), (63, .iload_n 2, 1), (64, .ireturn, 1), (65, .aload_n 0, 1), (66, .iload_n 1, 1), (67, .invokevirtual 51, 3), (70, .ireturn, 1)]
def qa_mX8_accept : qa_M := (yX8_accept, cX8_accept, 3, (some .boolean), 8, qa_iX8_accept, 2, 2, 1, 22, [], 407, 405, 406)
def qa_iX8_acceptDigit : List (Nat × Instr × Nat) := [(0, .aload_n 0, 1), (1, .getfield 29, 3), (4, .bipush 110, 2), (6, .if_icmp .eq 22, 3), (9, .iload_n 1, 1), (10, .bipush 48, 2), (12, .if_icmp .lt 16, 3), (15, .iload_n 1, 1), (16, .bipush 57, 2), (18, .if_icmp .gt 10, 3), (21, .aload_n 0, 1), (22, .getfield 32, 3), (25, .ifCond .ne 5, 3), (28, .iconst 0, 1), (29, .ireturn, 1), (30, .iload_n 1, 1), (31, .bipush 48, 2), (33, .isub, 1), (34, .istore_n 2, 1), (35, .aload_n 0, 1), (36, .getfield 32, 3), (39, .iconst (-1), 1), (40, .if_icmp .ne 27, 3), (43, .aload_n 0, 1), (44, .iload_n 2, 1), (45, .putfield 32, 3), (48, .iload_n 2, 1), (49, .ifCond .gt 12, 3), (52, .aload_n 0, 1), (53, .getfield 29, 3), (56, .bipush 116, 2), (58, .if_icmp .eq 7, 3), (61, .iconst 1, 1), (62, .goto 4, 3), (65, .iconst 0, 1), (66, .ireturn, 1), (67, .aload_n 0, 1), (68, .bipush 10, 2), (70, .aload_n 0, 1), (71, .getfield 32, 3), (74, .imul, 1), (75, .iload_n 2, 1), (76, .iadd, 1), (77, .putfield 32, 3), (80, .aload_n 0, 1), (81, .getfield 32, 3), (84, .aload_n 0, 1), (85, .getfield 29, 3), (88, .bipush 116, 2), (90, .if_icmp .ne 8, 3), (93, .bipush 100, 2), (95, .goto 5, 3), (98, .bipush 15, 2), (100, .if_icmp .gt 7, 3), (103, .iconst 1, 1), (104, .goto 4, 3), (107, .iconst 0, 1), (108, .ireturn, 1)]
def qa_mX8_acceptDigit : qa_M := (yX8_acceptDigit, cX8_acceptDigit, 3, (some .boolean), 8, qa_iX8_acceptDigit, 2, 2, 0, 0, [], 415, 413, 414)
def qa_iX9_init : List (Nat × Instr × Nat) := [(0, .aload_n 0, 1), (1, .invokespecial 1, 3), (4, .aload_n 0, 1), (5, .new 7, 3), (8, .dup, 1), (9, .invokespecial 9, 3), (12, .putfield 10, 3), (15, .aload_n 0, 1), (16, .new 7, 3), (19, .dup, 1), (20, .invokespecial 9, 3), (23, .putfield 16, 3), (26, .aload_n 0, 1), (27, .new 19, 3), (30, .dup, 1), (31, .invokespecial 21, 3), (34, .putfield 22, 3), (37, .aload_n 0, 1), (38, .iconst 2, 1), (39, .anewarray 7, 3), (42, .putfield 26, 3), (45, .iconst 0, 1), (46, .istore_n 1, 1), (47, .iload_n 1, 1), (48, .aload_n 0, 1), (49, .getfield 26, 3), (52, .arraylength, 1), (53, .if_icmp .ge 22, 3), (56, .aload_n 0, 1), (57, .getfield 26, 3), (60, .iload_n 1, 1), (61, .new 7, 3), (64, .dup, 1), (65, .invokespecial 9, 3), (68, .aastore, 1), (69, .iinc 1 1, 3), (72, .goto (-25), 3), (75, .aload_n 0, 1), (76, .iconst 2, 1), (77, .newarray .boolean, 2), (79, .putfield 30, 3), (82, .aload_n 0, 1), (83, .new 34, 3), (86, .dup, 1), (87, .invokespecial 36, 3), (90, .putfield 37, 3), (93, .return_, 1)]
def qa_mX9_init : qa_M := (yX9_init, cX9_init, 2, none, 9, qa_iX9_init, 1, 0, 4, 81, [], 76, 75, 0)
def qa_iX9_addSlide : List (Nat × Instr × Nat) := [(0, .iload_n 1, 1), (1, .iconst 1, 1), (2, .bipush 50, 2), (4, .invokestatic 41, 3), (7, .ifCond .eq 27, 3), (10, .iload_n 2, 1), (11, .iconst 1, 1), (12, .bipush 20, 2), (14, .invokestatic 41, 3), (17, .ifCond .eq 17, 3), (20, .iload_n 3, 1), (21, .iconst 0, 1), (22, .bipush 10, 2), (24, .invokestatic 41, 3), (27, .ifCond .eq 7, 3), (30, .iconst 1, 1), (31, .goto 4, 3), (34, .iconst 0, 1), (35, .invokestatic 45, 3), (38, .aload_n 0, 1), (39, .getfield 10, 3), (42, .getfield 49, 3), (45, .getfield 53, 3), (48, .bipush 16, 2), (50, .if_icmp .ge 7, 3), (53, .iconst 1, 1), (54, .goto 4, 3), (57, .iconst 0, 1), (58, .invokestatic 59, 3), (61, .aload_n 0, 1), (62, .getfield 22, 3), (65, .aload_n 0, 1), (66, .getfield 10, 3), (69, .invokevirtual 62, 3), (72, .aload_n 0, 1), (73, .getfield 10, 3), (76, .getfield 49, 3), (79, .iload_n 1, 1), (80, .iload_n 2, 1), (81, .iload_n 3, 1), (82, .invokevirtual 66, 3), (85, .istore 4, 2), (87, .aload_n 0, 1), (88, .getfield 10, 3), (91, .invokevirtual 70, 3), (94, .iload 4, 2), (96, .ireturn, 1)]
def qa_mX9_addSlide : qa_M := (yX9_addSlide, cX9_addSlide, 5, (some .int), 9, qa_iX9_addSlide, 4, 2, 7, 112, [], 729, 727, 728)
def qa_iX9_insert : List (Nat × Instr × Nat) := [(0, .iload_n 1, 1), (1, .iconst 0, 1), (2, .aload_n 0, 1), (3, .getfield 10, 3), (6, .getfield 73, 3), (9, .getfield 77, 3), (12, .invokestatic 41, 3), (15, .ifCond .eq 21, 3), (18, .aload_n 0, 1), (19, .getfield 10, 3), (22, .getfield 49, 3), (25, .iload_n 2, 1), (26, .invokevirtual 80, 3), (29, .ifCond .eq 7, 3), (32, .iconst 1, 1), (33, .goto 4, 3), (36, .iconst 0, 1), (37, .invokestatic 84, 3), (40, .aload_n 0, 1), (41, .getfield 10, 3), (44, .getfield 73, 3), (47, .getfield 77, 3), (50, .bipush 24, 2), (52, .if_icmp .ge 7, 3), (55, .iconst 1, 1), (56, .goto 4, 3), (59, .iconst 0, 1), (60, .invokestatic 59, 3), (63, .aload_n 0, 1), (64, .getfield 22, 3), (67, .aload_n 0, 1), (68, .getfield 10, 3), (71, .invokevirtual 62, 3), (74, .aload_n 0, 1), (75, .getfield 10, 3), (78, .getfield 73, 3), (81, .iload_n 1, 1), (82, .iload_n 2, 1), (83, .invokevirtual 87, 3), (86, .aload_n 0, 1), (87, .getfield 10, 3), (90, .invokevirtual 70, 3), (93, .aload_n 0, 1), (94, .getfield 10, 3), (97, .getfield 73, 3), (100, .getfield 77, 3), (103, .ireturn, 1)]
def qa_mX9_insert : qa_M := (yX9_insert, cX9_insert, 3, (some .int), 9, qa_iX9_insert, 3, 2, 7, 112, [], 834, 832, 833)
def qa_iX9_takeOut : List (Nat × Instr × Nat) := [(0, .aload_n 0, 1), (1, .getfield 10, 3), (4, .getfield 73, 3), (7, .iload_n 1, 1), (8, .invokevirtual 91, 3), (11, .invokestatic 84, 3), (14, .aload_n 0, 1), (15, .getfield 22, 3), (18, .aload_n 0, 1), (19, .getfield 10, 3), (22, .invokevirtual 62, 3), (25, .aload_n 0, 1), (26, .getfield 10, 3), (29, .getfield 73, 3), (32, .iload_n 1, 1), (33, .invokevirtual 92, 3), (36, .istore_n 2, 1), (37, .aload_n 0, 1), (38, .getfield 10, 3), (41, .invokevirtual 70, 3), (44, .iload_n 2, 1), (45, .ireturn, 1)]
def qa_mX9_takeOut : qa_M := (yX9_takeOut, cX9_takeOut, 3, (some .int), 9, qa_iX9_takeOut, 2, 2, 7, 112, [], 868, 866, 867)
def qa_iX9_goOn : List (Nat × Instr × Nat) := [(0, .aload_n 0, 1), (1, .getfield 10, 3), (4, .invokevirtual 96, 3), (7, .invokestatic 59, 3), (10, .aload_n 0, 1), (11, .getfield 22, 3), (14, .aload_n 0, 1), (15, .getfield 10, 3), (18, .invokevirtual 62, 3), (21, .aload_n 0, 1), (22, .getfield 10, 3), (25, .invokevirtual 100, 3), (28, .istore_n 1, 1), (29, .aload_n 0, 1), (30, .getfield 10, 3), (33, .invokevirtual 70, 3), (36, .iload_n 1, 1), (37, .ireturn, 1)]
def qa_mX9_goOn : qa_M := (yX9_goOn, cX9_goOn, 2, (some .boolean), 9, qa_iX9_goOn, 1, 2, 7, 112, [], 883, 881, 882)
def qa_iX9_ask : List (Nat × Instr × Nat) := [(0, .aload_n 0, 1), (1, .getfield 10, 3), (4, .getfield 49, 3), (7, .iload_n 1, 1), (8, .invokevirtual 80, 3), (11, .invokestatic 84, 3), (14, .aload_n 0, 1), (15, .getfield 10, 3), (18, .iload_n 1, 1), (19, .invokevirtual 103, 3), (22, .invokestatic 59, 3), (25, .aload_n 0, 1), (26, .getfield 22, 3), (29, .aload_n 0, 1), (30, .getfield 10, 3), (33, .invokevirtual 62, 3), (36, .aload_n 0, 1), (37, .getfield 10, 3), (40, .getfield 106, 3), (43, .iload_n 1, 1), (44, .invokevirtual 110, 3), (47, .aload_n 0, 1), (48, .getfield 10, 3), (51, .invokevirtual 70, 3), (54, .aload_n 0, 1), (55, .getfield 10, 3), (58, .getfield 106, 3), (61, .getfield 116, 3), (64, .ireturn, 1)]
def qa_mX9_ask : qa_M := (yX9_ask, cX9_ask, 2, (some .int), 9, qa_iX9_ask, 2, 2, 7, 112, [], 892, 890, 891)
def qa_iX9_burn : List (Nat × Instr × Nat) := [(0, .aload_n 0, 1), (1, .getfield 10, 3), (4, .getfield 49, 3), (7, .iload_n 1, 1), (8, .invokevirtual 80, 3), (11, .invokestatic 84, 3), (14, .aload_n 0, 1), (15, .getfield 10, 3), (18, .iload_n 1, 1), (19, .invokevirtual 119, 3), (22, .invokestatic 59, 3), (25, .aload_n 0, 1), (26, .getfield 22, 3), (29, .aload_n 0, 1), (30, .getfield 10, 3), (33, .invokevirtual 62, 3), (36, .aload_n 0, 1), (37, .getfield 10, 3), (40, .iload_n 1, 1), (41, .invokevirtual 122, 3), (44, .aload_n 0, 1), (45, .getfield 10, 3), (48, .invokevirtual 70, 3), (51, .aload_n 0, 1), (52, .getfield 10, 3), (55, .getfield 49, 3), (58, .getfield 125, 3), (61, .iload_n 1, 1), (62, .invokestatic 129, 3), (65, .ireturn, 1)]
def qa_mX9_burn : qa_M := (yX9_burn, cX9_burn, 2, (some .int), 9, qa_iX9_burn, 2, 2, 7, 112, [], 907, 905, 906)
def qa_iX9_tick : List (Nat × Instr × Nat) := [(0, .iload_n 1, 1), (1, .iconst 1, 1), (2, .bipush 100, 2), (4, .invokestatic 41, 3), (7, .invokestatic 45, 3), (10, .aload_n 0, 1), (11, .getfield 22, 3), (14, .aload_n 0, 1), (15, .getfield 10, 3), (18, .invokevirtual 62, 3), (21, .aload_n 0, 1), (22, .getfield 10, 3), (25, .iload_n 1, 1), (26, .invokevirtual 133, 3), (29, .ireturn, 1)]
def qa_mX9_tick : qa_M := (yX9_tick, cX9_tick, 2, (some .int), 9, qa_iX9_tick, 2, 2, 7, 156, [], 916, 914, 915)
def qa_iX9_changeMemory : List (Nat × Instr × Nat) := [(0, .iload_n 1, 1), (1, .sipush 150, 3), (4, .sipush 400, 3), (7, .invokestatic 41, 3), (10, .invokestatic 45, 3), (13, .aload_n 0, 1), (14, .getfield 22, 3), (17, .aload_n 0, 1), (18, .getfield 10, 3), (21, .invokevirtual 62, 3), (24, .aload_n 0, 1), (25, .getfield 10, 3), (28, .getfield 136, 3), (31, .getfield 140, 3), (34, .istore_n 2, 1), (35, .aload_n 0, 1), (36, .getfield 10, 3), (39, .getfield 136, 3), (42, .iload_n 1, 1), (43, .putfield 140, 3), (46, .aload_n 0, 1), (47, .getfield 10, 3), (50, .iload_n 1, 1), (51, .invokevirtual 145, 3), (54, .aload_n 0, 1), (55, .getfield 10, 3), (58, .invokevirtual 70, 3), (61, .iload_n 2, 1), (62, .ireturn, 1)]
def qa_mX9_changeMemory : qa_M := (yX9_changeMemory, cX9_changeMemory, 3, (some .int), 9, qa_iX9_changeMemory, 2, 2, 7, 112, [], 928, 926, 927)
def qa_iX9_changeAhead : List (Nat × Instr × Nat) := [(0, .iload_n 1, 1), (1, .iconst 0, 1), (2, .iconst 4, 1), (3, .invokestatic 41, 3), (6, .invokestatic 45, 3), (9, .aload_n 0, 1), (10, .getfield 22, 3), (13, .aload_n 0, 1), (14, .getfield 10, 3), (17, .invokevirtual 62, 3), (20, .aload_n 0, 1), (21, .getfield 10, 3), (24, .getfield 136, 3), (27, .getfield 148, 3), (30, .istore_n 2, 1), (31, .aload_n 0, 1), (32, .getfield 10, 3), (35, .getfield 136, 3), (38, .iload_n 1, 1), (39, .putfield 148, 3), (42, .aload_n 0, 1), (43, .getfield 10, 3), (46, .invokevirtual 70, 3), (49, .iload_n 2, 1), (50, .ireturn, 1)]
def qa_mX9_changeAhead : qa_M := (yX9_changeAhead, cX9_changeAhead, 3, (some .int), 9, qa_iX9_changeAhead, 2, 2, 7, 112, [], 936, 934, 935)
def qa_iX9_changeOrder : List (Nat × Instr × Nat) := [(0, .iload_n 1, 1), (1, .iconst 0, 1), (2, .iconst 2, 1), (3, .invokestatic 41, 3), (6, .invokestatic 45, 3), (9, .aload_n 0, 1), (10, .getfield 22, 3), (13, .aload_n 0, 1), (14, .getfield 10, 3), (17, .invokevirtual 62, 3), (20, .aload_n 0, 1), (21, .getfield 10, 3), (24, .getfield 136, 3), (27, .getfield 151, 3), (30, .istore_n 2, 1), (31, .aload_n 0, 1), (32, .getfield 10, 3), (35, .getfield 136, 3), (38, .iload_n 1, 1), (39, .putfield 151, 3), (42, .aload_n 0, 1), (43, .getfield 10, 3), (46, .invokevirtual 70, 3), (49, .iload_n 2, 1), (50, .ireturn, 1)]
def qa_mX9_changeOrder : qa_M := (yX9_changeOrder, cX9_changeOrder, 3, (some .int), 9, qa_iX9_changeOrder, 2, 2, 7, 112, [], 943, 941, 942)
def qa_iX9_changeGlow : List (Nat × Instr × Nat) := [(0, .iload_n 1, 1), (1, .iconst 0, 1), (2, .bipush 20, 2), (4, .invokestatic 41, 3), (7, .invokestatic 45, 3), (10, .aload_n 0, 1), (11, .getfield 22, 3), (14, .aload_n 0, 1), (15, .getfield 10, 3), (18, .invokevirtual 62, 3), (21, .aload_n 0, 1), (22, .getfield 10, 3), (25, .getfield 136, 3), (28, .getfield 154, 3), (31, .istore_n 2, 1), (32, .aload_n 0, 1), (33, .getfield 10, 3), (36, .getfield 136, 3), (39, .iload_n 1, 1), (40, .putfield 154, 3), (43, .aload_n 0, 1), (44, .getfield 10, 3), (47, .invokevirtual 70, 3), (50, .iload_n 2, 1), (51, .ireturn, 1)]
def qa_mX9_changeGlow : qa_M := (yX9_changeGlow, cX9_changeGlow, 3, (some .int), 9, qa_iX9_changeGlow, 2, 2, 7, 112, [], 950, 948, 949)
def qa_iX9_changePace : List (Nat × Instr × Nat) := [(0, .iload_n 1, 1), (1, .iconst 0, 1), (2, .bipush 50, 2), (4, .invokestatic 41, 3), (7, .invokestatic 45, 3), (10, .aload_n 0, 1), (11, .getfield 22, 3), (14, .aload_n 0, 1), (15, .getfield 10, 3), (18, .invokevirtual 62, 3), (21, .aload_n 0, 1), (22, .getfield 10, 3), (25, .getfield 136, 3), (28, .getfield 157, 3), (31, .istore_n 2, 1), (32, .aload_n 0, 1), (33, .getfield 10, 3), (36, .getfield 136, 3), (39, .iload_n 1, 1), (40, .putfield 157, 3), (43, .aload_n 0, 1), (44, .getfield 10, 3), (47, .invokevirtual 70, 3), (50, .iload_n 2, 1), (51, .ireturn, 1)]
def qa_mX9_changePace : qa_M := (yX9_changePace, cX9_changePace, 3, (some .int), 9, qa_iX9_changePace, 2, 2, 7, 112, [], 957, 955, 956)
def qa_iX9_append : List (Nat × Instr × Nat) := [(0, .iload_n 1, 1), (1, .bipush 33, 2), (3, .bipush 126, 2), (5, .invokestatic 41, 3), (8, .invokestatic 45, 3), (11, .aload_n 0, 1), (12, .getfield 37, 3), (15, .getfield 160, 3), (18, .bipush 60, 2), (20, .if_icmp .ge 7, 3), (23, .iconst 1, 1), (24, .goto 4, 3), (27, .iconst 0, 1), (28, .invokestatic 59, 3), (31, .aload_n 0, 1), (32, .getfield 37, 3), (35, .iload_n 1, 1), (36, .invokevirtual 163, 3), (39, .aload_n 0, 1), (40, .getfield 37, 3), (43, .getfield 160, 3), (46, .ireturn, 1)]
def qa_mX9_append : qa_M := (yX9_append, cX9_append, 2, (some .int), 9, qa_iX9_append, 2, 2, 7, 110, [], 964, 962, 963)
def qa_iX9_clearBuffer : List (Nat × Instr × Nat) := [(0, .aload_n 0, 1), (1, .getfield 37, 3), (4, .getfield 160, 3), (7, .istore_n 1, 1), (8, .aload_n 0, 1), (9, .getfield 37, 3), (12, .iconst 0, 1), (13, .putfield 160, 3), (16, .iload_n 1, 1), (17, .ireturn, 1)]
def qa_mX9_clearBuffer : qa_M := (yX9_clearBuffer, cX9_clearBuffer, 2, (some .int), 9, qa_iX9_clearBuffer, 1, 2, 0, 0, [], 388, 386, 387)
def qa_iX9_firstError : List (Nat × Instr × Nat) := [(0, .aload_n 0, 1), (1, .getfield 37, 3), (4, .invokevirtual 165, 3), (7, .ireturn, 1)]
def qa_mX9_firstError : qa_M := (yX9_firstError, cX9_firstError, 1, (some .int), 9, qa_iX9_firstError, 1, 2, 3, 65, [], 392, 390, 391)
def qa_iX9_follow : List (Nat × Instr × Nat) := [(0, .aload_n 0, 1), (1, .getfield 37, 3), (4, .invokevirtual 169, 3), (7, .invokestatic 45, 3), (10, .aload_n 0, 1), (11, .getfield 16, 3), (14, .aload_n 0, 1), (15, .getfield 10, 3), (18, .invokevirtual 172, 3), (21, .aload_n 0, 1), (22, .getfield 37, 3), (25, .invokevirtual 175, 3), (28, .iconst 0, 1), (29, .istore_n 1, 1), (30, .iload_n 1, 1), (31, .bipush 60, 2), (33, .if_icmp .ge 43, 3), (36, .aload_n 0, 1), (37, .getfield 37, 3), (40, .invokevirtual 178, 3), (43, .ifCond .eq 33, 3), (46, .aload_n 0, 1), (47, .getfield 16, 3), (50, .aload_n 0, 1), (51, .getfield 37, 3), (54, .getfield 181, 3), (57, .aload_n 0, 1), (58, .getfield 37, 3), (61, .getfield 184, 3), (64, .invokevirtual 187, 3), (67, .invokestatic 59, 3), (70, .iinc 1 1, 3), (73, .goto (-43), 3), (76, .aload_n 0, 1), (77, .getfield 22, 3), (80, .aload_n 0, 1), (81, .getfield 10, 3), (84, .invokevirtual 62, 3), (87, .aload_n 0, 1), (88, .getfield 10, 3), (91, .aload_n 0, 1), (92, .getfield 16, 3), (95, .invokevirtual 172, 3), (98, .aload_n 0, 1), (99, .getfield 37, 3), (102, .iconst 0, 1), (103, .putfield 160, 3), (106, .iload_n 1, 1), (107, .ireturn, 1)]
def qa_mX9_follow : qa_M := (yX9_follow, cX9_follow, 2, (some .int), 9, qa_iX9_follow, 1, 2, 7, 156, [], 976, 974, 975)
def qa_iX9_keep : List (Nat × Instr × Nat) := [(0, .iload_n 1, 1), (1, .iconst 0, 1), (2, .iconst 1, 1), (3, .invokestatic 41, 3), (6, .invokestatic 45, 3), (9, .iload_n 1, 1), (10, .ifCond .lt 50, 3), (13, .iload_n 1, 1), (14, .aload_n 0, 1), (15, .getfield 26, 3), (18, .arraylength, 1), (19, .if_icmp .ge 41, 3), (22, .iload_n 1, 1), (23, .aload_n 0, 1), (24, .getfield 30, 3), (27, .arraylength, 1), (28, .if_icmp .ge 32, 3), (31, .aload_n 0, 1), (32, .getfield 26, 3), (35, .iload_n 1, 1), (36, .aaload, 1), (37, .ifnull 23, 3), (40, .aload_n 0, 1), (41, .getfield 26, 3), (44, .iload_n 1, 1), (45, .aaload, 1), (46, .aload_n 0, 1), (47, .getfield 10, 3), (50, .invokevirtual 172, 3), (53, .aload_n 0, 1), (54, .getfield 30, 3), (57, .iload_n 1, 1), (58, .iconst 1, 1), (59, .bastore, 1), (60, .return_, 1)]
def qa_mX9_keep : qa_M := (yX9_keep, cX9_keep, 2, none, 9, qa_iX9_keep, 2, 2, 7, 110, [], 1020, 1018, 1019)
def qa_iX9_goBack : List (Nat × Instr × Nat) := [(0, .iload_n 1, 1), (1, .iconst 0, 1), (2, .iconst 1, 1), (3, .invokestatic 41, 3), (6, .invokestatic 45, 3), (9, .aload_n 0, 1), (10, .iload_n 1, 1), (11, .invokevirtual 191, 3), (14, .invokestatic 59, 3), (17, .aload_n 0, 1), (18, .getfield 22, 3), (21, .aload_n 0, 1), (22, .getfield 10, 3), (25, .invokevirtual 62, 3), (28, .iload_n 1, 1), (29, .ifCond .lt 34, 3), (32, .iload_n 1, 1), (33, .aload_n 0, 1), (34, .getfield 26, 3), (37, .arraylength, 1), (38, .if_icmp .ge 25, 3), (41, .aload_n 0, 1), (42, .getfield 26, 3), (45, .iload_n 1, 1), (46, .aaload, 1), (47, .ifnull 16, 3), (50, .aload_n 0, 1), (51, .getfield 10, 3), (54, .aload_n 0, 1), (55, .getfield 26, 3), (58, .iload_n 1, 1), (59, .aaload, 1), (60, .invokevirtual 172, 3), (63, .return_, 1)]
def qa_mX9_goBack : qa_M := (yX9_goBack, cX9_goBack, 2, none, 9, qa_iX9_goBack, 2, 2, 7, 110, [], 1027, 1025, 1026)
def qa_iX9_undo : List (Nat × Instr × Nat) := [(0, .aload_n 0, 1), (1, .getfield 22, 3), (4, .getfield 194, 3), (7, .ifCond .le 7, 3), (10, .iconst 1, 1), (11, .goto 4, 3), (14, .iconst 0, 1), (15, .invokestatic 59, 3), (18, .aload_n 0, 1), (19, .getfield 22, 3), (22, .aload_n 0, 1), (23, .getfield 10, 3), (26, .invokevirtual 195, 3), (29, .return_, 1)]
def qa_mX9_undo : qa_M := (yX9_undo, cX9_undo, 1, none, 9, qa_iX9_undo, 1, 2, 7, 110, [], 1034, 1032, 1033)
def qa_iX9_savedStates : List (Nat × Instr × Nat) := [(0, .aload_n 0, 1), (1, .getfield 22, 3), (4, .getfield 194, 3), (7, .ireturn, 1)]
def qa_mX9_savedStates : qa_M := (yX9_savedStates, cX9_savedStates, 1, (some .int), 9, qa_iX9_savedStates, 1, 2, 0, 0, [], 419, 417, 418)
def qa_iX9_slides : List (Nat × Instr × Nat) := [(0, .aload_n 0, 1), (1, .getfield 10, 3), (4, .getfield 49, 3), (7, .getfield 53, 3), (10, .ireturn, 1)]
def qa_mX9_slides : qa_M := (yX9_slides, cX9_slides, 1, (some .int), 9, qa_iX9_slides, 1, 2, 0, 0, [], 423, 421, 422)
def qa_iX9_costOf : List (Nat × Instr × Nat) := [(0, .aload_n 0, 1), (1, .getfield 10, 3), (4, .getfield 49, 3), (7, .iload_n 1, 1), (8, .invokevirtual 80, 3), (11, .invokestatic 84, 3), (14, .aload_n 0, 1), (15, .getfield 10, 3), (18, .getfield 49, 3), (21, .getfield 125, 3), (24, .iload_n 1, 1), (25, .invokestatic 129, 3), (28, .ireturn, 1)]
def qa_mX9_costOf : qa_M := (yX9_costOf, cX9_costOf, 2, (some .int), 9, qa_iX9_costOf, 2, 2, 7, 110, [], 1045, 1043, 1044)
def qa_iX9_loadOf : List (Nat × Instr × Nat) := [(0, .aload_n 0, 1), (1, .getfield 10, 3), (4, .getfield 49, 3), (7, .iload_n 1, 1), (8, .invokevirtual 80, 3), (11, .invokestatic 84, 3), (14, .aload_n 0, 1), (15, .getfield 10, 3), (18, .getfield 49, 3), (21, .iload_n 1, 1), (22, .iconst 0, 1), (23, .invokevirtual 198, 3), (26, .ireturn, 1)]
def qa_mX9_loadOf : qa_M := (yX9_loadOf, cX9_loadOf, 2, (some .int), 9, qa_iX9_loadOf, 2, 2, 7, 110, [], 1052, 1050, 1051)
def qa_iX9_fadeOf : List (Nat × Instr × Nat) := [(0, .aload_n 0, 1), (1, .getfield 10, 3), (4, .getfield 49, 3), (7, .iload_n 1, 1), (8, .invokevirtual 80, 3), (11, .invokestatic 84, 3), (14, .aload_n 0, 1), (15, .getfield 10, 3), (18, .getfield 49, 3), (21, .getfield 202, 3), (24, .iload_n 1, 1), (25, .invokestatic 129, 3), (28, .ireturn, 1)]
def qa_mX9_fadeOf : qa_M := (yX9_fadeOf, cX9_fadeOf, 2, (some .int), 9, qa_iX9_fadeOf, 2, 2, 7, 110, [], 1059, 1057, 1058)
def qa_iX9_isLoaded : List (Nat × Instr × Nat) := [(0, .aload_n 0, 1), (1, .getfield 10, 3), (4, .getfield 49, 3), (7, .iload_n 1, 1), (8, .invokevirtual 80, 3), (11, .invokestatic 84, 3), (14, .aload_n 0, 1), (15, .getfield 10, 3), (18, .getfield 49, 3), (21, .iload_n 1, 1), (22, .invokevirtual 205, 3), (25, .ireturn, 1)]
def qa_mX9_isLoaded : qa_M := (yX9_isLoaded, cX9_isLoaded, 2, (some .boolean), 9, qa_iX9_isLoaded, 2, 2, 7, 110, [], 1066, 1064, 1065)
def qa_iX9_isOnShow : List (Nat × Instr × Nat) := [(0, .aload_n 0, 1), (1, .getfield 10, 3), (4, .getfield 49, 3), (7, .iload_n 1, 1), (8, .invokevirtual 80, 3), (11, .invokestatic 84, 3), (14, .aload_n 0, 1), (15, .getfield 10, 3), (18, .getfield 208, 3), (21, .iload_n 1, 1), (22, .invokevirtual 212, 3), (25, .ireturn, 1)]
def qa_mX9_isOnShow : qa_M := (yX9_isOnShow, cX9_isOnShow, 2, (some .boolean), 9, qa_iX9_isOnShow, 2, 2, 7, 110, [], 1073, 1071, 1072)
def qa_iX9_glowOf : List (Nat × Instr × Nat) := [(0, .aload_n 0, 1), (1, .getfield 10, 3), (4, .getfield 49, 3), (7, .iload_n 1, 1), (8, .invokevirtual 80, 3), (11, .invokestatic 84, 3), (14, .aload_n 0, 1), (15, .getfield 10, 3), (18, .getfield 49, 3), (21, .getfield 217, 3), (24, .iload_n 1, 1), (25, .invokestatic 129, 3), (28, .ireturn, 1)]
def qa_mX9_glowOf : qa_M := (yX9_glowOf, cX9_glowOf, 2, (some .int), 9, qa_iX9_glowOf, 2, 2, 7, 110, [], 1080, 1078, 1079)
def qa_iX9_burntTimes : List (Nat × Instr × Nat) := [(0, .aload_n 0, 1), (1, .getfield 10, 3), (4, .getfield 49, 3), (7, .iload_n 1, 1), (8, .invokevirtual 80, 3), (11, .invokestatic 84, 3), (14, .aload_n 0, 1), (15, .getfield 10, 3), (18, .getfield 49, 3), (21, .getfield 220, 3), (24, .iload_n 1, 1), (25, .invokestatic 129, 3), (28, .ireturn, 1)]
def qa_mX9_burntTimes : qa_M := (yX9_burntTimes, cX9_burntTimes, 2, (some .int), 9, qa_iX9_burntTimes, 2, 2, 7, 110, [], 1087, 1085, 1086)
def qa_iX9_nextUse : List (Nat × Instr × Nat) := [(0, .aload_n 0, 1), (1, .getfield 10, 3), (4, .getfield 49, 3), (7, .iload_n 1, 1), (8, .invokevirtual 80, 3), (11, .invokestatic 84, 3), (14, .aload_n 0, 1), (15, .getfield 10, 3), (18, .getfield 73, 3), (21, .iload_n 1, 1), (22, .invokevirtual 223, 3), (25, .istore_n 2, 1), (26, .iload_n 2, 1), (27, .ifCond .le 7, 3), (30, .iconst 1, 1), (31, .goto 4, 3), (34, .iconst 0, 1), (35, .invokestatic 59, 3), (38, .iload_n 2, 1), (39, .ireturn, 1)]
def qa_mX9_nextUse : qa_M := (yX9_nextUse, cX9_nextUse, 3, (some .int), 9, qa_iX9_nextUse, 2, 2, 7, 110, [], 1094, 1092, 1093)
def qa_iX9_burnPlace : List (Nat × Instr × Nat) := [(0, .aload_n 0, 1), (1, .getfield 10, 3), (4, .getfield 49, 3), (7, .iload_n 1, 1), (8, .invokevirtual 80, 3), (11, .invokestatic 84, 3), (14, .aload_n 0, 1), (15, .getfield 10, 3), (18, .iload_n 1, 1), (19, .invokevirtual 226, 3), (22, .istore_n 2, 1), (23, .iload_n 2, 1), (24, .iconst (-1), 1), (25, .if_icmp .eq 7, 3), (28, .iconst 1, 1), (29, .goto 4, 3), (32, .iconst 0, 1), (33, .invokestatic 59, 3), (36, .iload_n 2, 1), (37, .ireturn, 1)]
def qa_mX9_burnPlace : qa_M := (yX9_burnPlace, cX9_burnPlace, 3, (some .int), 9, qa_iX9_burnPlace, 2, 2, 7, 110, [], 1101, 1099, 1100)
def qa_iX9_places : List (Nat × Instr × Nat) := [(0, .aload_n 0, 1), (1, .getfield 10, 3), (4, .getfield 73, 3), (7, .getfield 77, 3), (10, .ireturn, 1)]
def qa_mX9_places : qa_M := (yX9_places, cX9_places, 1, (some .int), 9, qa_iX9_places, 1, 2, 0, 0, [], 427, 425, 426)
def qa_iX9_slideAt : List (Nat × Instr × Nat) := [(0, .aload_n 0, 1), (1, .getfield 10, 3), (4, .getfield 73, 3), (7, .iload_n 1, 1), (8, .invokevirtual 91, 3), (11, .invokestatic 84, 3), (14, .aload_n 0, 1), (15, .getfield 10, 3), (18, .getfield 73, 3), (21, .getfield 229, 3), (24, .iload_n 1, 1), (25, .invokestatic 129, 3), (28, .ireturn, 1)]
def qa_mX9_slideAt : qa_M := (yX9_slideAt, cX9_slideAt, 2, (some .int), 9, qa_iX9_slideAt, 2, 2, 7, 110, [], 1108, 1106, 1107)
def qa_iX9_showPlace : List (Nat × Instr × Nat) := [(0, .aload_n 0, 1), (1, .getfield 10, 3), (4, .getfield 73, 3), (7, .getfield 232, 3), (10, .iconst (-1), 1), (11, .if_icmp .eq 7, 3), (14, .iconst 1, 1), (15, .goto 4, 3), (18, .iconst 0, 1), (19, .invokestatic 59, 3), (22, .aload_n 0, 1), (23, .getfield 10, 3), (26, .getfield 73, 3), (29, .getfield 232, 3), (32, .ireturn, 1)]
def qa_mX9_showPlace : qa_M := (yX9_showPlace, cX9_showPlace, 1, (some .int), 9, qa_iX9_showPlace, 1, 2, 7, 110, [], 1115, 1113, 1114)
def qa_iX9_shown : List (Nat × Instr × Nat) := [(0, .aload_n 0, 1), (1, .getfield 10, 3), (4, .getfield 208, 3), (7, .getfield 235, 3), (10, .iconst (-1), 1), (11, .if_icmp .eq 7, 3), (14, .iconst 1, 1), (15, .goto 4, 3), (18, .iconst 0, 1), (19, .invokestatic 59, 3), (22, .aload_n 0, 1), (23, .getfield 10, 3), (26, .getfield 208, 3), (29, .getfield 235, 3), (32, .ireturn, 1)]
def qa_mX9_shown : qa_M := (yX9_shown, cX9_shown, 1, (some .int), 9, qa_iX9_shown, 1, 2, 7, 110, [], 1122, 1120, 1121)
def qa_iX9_fading : List (Nat × Instr × Nat) := [(0, .aload_n 0, 1), (1, .getfield 10, 3), (4, .getfield 208, 3), (7, .getfield 238, 3), (10, .iconst (-1), 1), (11, .if_icmp .eq 7, 3), (14, .iconst 1, 1), (15, .goto 4, 3), (18, .iconst 0, 1), (19, .invokestatic 59, 3), (22, .aload_n 0, 1), (23, .getfield 10, 3), (26, .getfield 208, 3), (29, .getfield 238, 3), (32, .ireturn, 1)]
def qa_mX9_fading : qa_M := (yX9_fading, cX9_fading, 1, (some .int), 9, qa_iX9_fading, 1, 2, 7, 110, [], 1129, 1127, 1128)
def qa_iX9_fadeLeft : List (Nat × Instr × Nat) := [(0, .aload_n 0, 1), (1, .getfield 10, 3), (4, .getfield 208, 3), (7, .getfield 241, 3), (10, .ireturn, 1)]
def qa_mX9_fadeLeft : qa_M := (yX9_fadeLeft, cX9_fadeLeft, 1, (some .int), 9, qa_iX9_fadeLeft, 1, 2, 0, 0, [], 431, 429, 430)
def qa_iX9_awaited : List (Nat × Instr × Nat) := [(0, .aload_n 0, 1), (1, .getfield 10, 3), (4, .getfield 208, 3), (7, .getfield 244, 3), (10, .iconst (-1), 1), (11, .if_icmp .eq 7, 3), (14, .iconst 1, 1), (15, .goto 4, 3), (18, .iconst 0, 1), (19, .invokestatic 59, 3), (22, .aload_n 0, 1), (23, .getfield 10, 3), (26, .getfield 208, 3), (29, .getfield 244, 3), (32, .ireturn, 1)]
def qa_mX9_awaited : qa_M := (yX9_awaited, cX9_awaited, 1, (some .int), 9, qa_iX9_awaited, 1, 2, 7, 110, [], 1136, 1134, 1135)
def qa_iX9_shownFor : List (Nat × Instr × Nat) := [(0, .aload_n 0, 1), (1, .getfield 10, 3), (4, .getfield 208, 3), (7, .getfield 235, 3), (10, .iconst (-1), 1), (11, .if_icmp .eq 7, 3), (14, .iconst 1, 1), (15, .goto 4, 3), (18, .iconst 0, 1), (19, .invokestatic 59, 3), (22, .aload_n 0, 1), (23, .getfield 10, 3), (26, .getfield 208, 3), (29, .getfield 247, 3), (32, .ireturn, 1)]
def qa_mX9_shownFor : qa_M := (yX9_shownFor, cX9_shownFor, 1, (some .int), 9, qa_iX9_shownFor, 1, 2, 7, 110, [], 1143, 1141, 1142)
def qa_iX9_loading : List (Nat × Instr × Nat) := [(0, .aload_n 0, 1), (1, .getfield 10, 3), (4, .getfield 106, 3), (7, .getfield 250, 3), (10, .iconst (-1), 1), (11, .if_icmp .eq 7, 3), (14, .iconst 1, 1), (15, .goto 4, 3), (18, .iconst 0, 1), (19, .invokestatic 59, 3), (22, .aload_n 0, 1), (23, .getfield 10, 3), (26, .getfield 106, 3), (29, .getfield 250, 3), (32, .ireturn, 1)]
def qa_mX9_loading : qa_M := (yX9_loading, cX9_loading, 1, (some .int), 9, qa_iX9_loading, 1, 2, 7, 110, [], 1150, 1148, 1149)
def qa_iX9_loadLeft : List (Nat × Instr × Nat) := [(0, .aload_n 0, 1), (1, .getfield 10, 3), (4, .getfield 106, 3), (7, .getfield 253, 3), (10, .ireturn, 1)]
def qa_mX9_loadLeft : qa_M := (yX9_loadLeft, cX9_loadLeft, 1, (some .int), 9, qa_iX9_loadLeft, 1, 2, 0, 0, [], 435, 433, 434)
def qa_iX9_asked : List (Nat × Instr × Nat) := [(0, .aload_n 0, 1), (1, .getfield 10, 3), (4, .getfield 106, 3), (7, .getfield 116, 3), (10, .ireturn, 1)]
def qa_mX9_asked : qa_M := (yX9_asked, cX9_asked, 1, (some .int), 9, qa_iX9_asked, 1, 2, 0, 0, [], 439, 437, 438)
def qa_iX9_askedAt : List (Nat × Instr × Nat) := [(0, .iload_n 1, 1), (1, .iconst 0, 1), (2, .aload_n 0, 1), (3, .getfield 10, 3), (6, .getfield 106, 3), (9, .getfield 116, 3), (12, .iconst 1, 1), (13, .isub, 1), (14, .invokestatic 41, 3), (17, .invokestatic 84, 3), (20, .aload_n 0, 1), (21, .getfield 10, 3), (24, .getfield 106, 3), (27, .getfield 256, 3), (30, .iload_n 1, 1), (31, .invokestatic 129, 3), (34, .ireturn, 1)]
def qa_mX9_askedAt : qa_M := (yX9_askedAt, cX9_askedAt, 2, (some .int), 9, qa_iX9_askedAt, 2, 2, 7, 110, [], 1157, 1155, 1156)
def qa_iX9_takenBySlides : List (Nat × Instr × Nat) := [(0, .aload_n 0, 1), (1, .getfield 10, 3), (4, .invokevirtual 257, 3), (7, .ireturn, 1)]
def qa_mX9_takenBySlides : qa_M := (yX9_takenBySlides, cX9_takenBySlides, 1, (some .int), 9, qa_iX9_takenBySlides, 1, 2, 2, 43, [], 443, 441, 442)
def qa_iX9_takenByAccount : List (Nat × Instr × Nat) := [(0, .aload_n 0, 1), (1, .getfield 10, 3), (4, .getfield 106, 3), (7, .getfield 260, 3), (10, .ireturn, 1)]
def qa_mX9_takenByAccount : qa_M := (yX9_takenByAccount, cX9_takenByAccount, 1, (some .int), 9, qa_iX9_takenByAccount, 1, 2, 0, 0, [], 456, 454, 455)
def qa_iX9_memory : List (Nat × Instr × Nat) := [(0, .aload_n 0, 1), (1, .getfield 10, 3), (4, .getfield 136, 3), (7, .getfield 140, 3), (10, .ireturn, 1)]
def qa_mX9_memory : qa_M := (yX9_memory, cX9_memory, 1, (some .int), 9, qa_iX9_memory, 1, 2, 0, 0, [], 460, 458, 459)
def qa_iX9_ahead : List (Nat × Instr × Nat) := [(0, .aload_n 0, 1), (1, .getfield 10, 3), (4, .getfield 136, 3), (7, .getfield 148, 3), (10, .ireturn, 1)]
def qa_mX9_ahead : qa_M := (yX9_ahead, cX9_ahead, 1, (some .int), 9, qa_iX9_ahead, 1, 2, 0, 0, [], 464, 462, 463)
def qa_iX9_order : List (Nat × Instr × Nat) := [(0, .aload_n 0, 1), (1, .getfield 10, 3), (4, .getfield 136, 3), (7, .getfield 151, 3), (10, .ireturn, 1)]
def qa_mX9_order : qa_M := (yX9_order, cX9_order, 1, (some .int), 9, qa_iX9_order, 1, 2, 0, 0, [], 468, 466, 467)
def qa_iX9_glow : List (Nat × Instr × Nat) := [(0, .aload_n 0, 1), (1, .getfield 10, 3), (4, .getfield 136, 3), (7, .getfield 154, 3), (10, .ireturn, 1)]
def qa_mX9_glow : qa_M := (yX9_glow, cX9_glow, 1, (some .int), 9, qa_iX9_glow, 1, 2, 0, 0, [], 472, 470, 471)
def qa_iX9_pace : List (Nat × Instr × Nat) := [(0, .aload_n 0, 1), (1, .getfield 10, 3), (4, .getfield 136, 3), (7, .getfield 157, 3), (10, .ireturn, 1)]
def qa_mX9_pace : qa_M := (yX9_pace, cX9_pace, 1, (some .int), 9, qa_iX9_pace, 1, 2, 0, 0, [], 476, 474, 475)
def qa_iX9_ticksToShowByTicks : List (Nat × Instr × Nat) := [(0, .aload_n 0, 1), (1, .getfield 10, 3), (4, .getfield 208, 3), (7, .getfield 244, 3), (10, .iconst (-1), 1), (11, .if_icmp .eq 7, 3), (14, .iconst 1, 1), (15, .goto 4, 3), (18, .iconst 0, 1), (19, .invokestatic 59, 3), (22, .aload_n 0, 1), (23, .invokevirtual 263, 3), (26, .ireturn, 1)]
def qa_mX9_ticksToShowByTicks : qa_M := (yX9_ticksToShowByTicks, cX9_ticksToShowByTicks, 1, (some .int), 9, qa_iX9_ticksToShowByTicks, 1, 2, 7, 154, [], 1164, 1162, 1163)
def qa_iX9_ticksToShowBySums : List (Nat × Instr × Nat) := [(0, .aload_n 0, 1), (1, .getfield 10, 3), (4, .getfield 208, 3), (7, .getfield 244, 3), (10, .iconst (-1), 1), (11, .if_icmp .eq 7, 3), (14, .iconst 1, 1), (15, .goto 4, 3), (18, .iconst 0, 1), (19, .invokestatic 59, 3), (22, .aload_n 0, 1), (23, .getfield 10, 3), (26, .invokevirtual 266, 3), (29, .ireturn, 1)]
def qa_mX9_ticksToShowBySums : qa_M := (yX9_ticksToShowBySums, cX9_ticksToShowBySums, 1, (some .int), 9, qa_iX9_ticksToShowBySums, 1, 2, 7, 110, [], 1171, 1169, 1170)
def qa_iX9_burningsFor : List (Nat × Instr × Nat) := [(0, .aload_n 0, 1), (1, .getfield 10, 3), (4, .getfield 49, 3), (7, .iload_n 1, 1), (8, .invokevirtual 80, 3), (11, .invokestatic 84, 3), (14, .aload_n 0, 1), (15, .getfield 10, 3), (18, .iload_n 1, 1), (19, .invokevirtual 269, 3), (22, .ireturn, 1)]
def qa_mX9_burningsFor : qa_M := (yX9_burningsFor, cX9_burningsFor, 2, (some .int), 9, qa_iX9_burningsFor, 2, 2, 7, 110, [], 1178, 1176, 1177)
def qa_iX9_missesWith : List (Nat × Instr × Nat) := [(0, .iload_n 1, 1), (1, .iconst 0, 1), (2, .iconst 2, 1), (3, .invokestatic 41, 3), (6, .invokestatic 45, 3), (9, .aload_n 0, 1), (10, .getfield 10, 3), (13, .invokevirtual 96, 3), (16, .invokestatic 59, 3), (19, .aload_n 0, 1), (20, .iload_n 1, 1), (21, .invokevirtual 272, 3), (24, .ireturn, 1)]
def qa_mX9_missesWith : qa_M := (yX9_missesWith, cX9_missesWith, 2, (some .int), 9, qa_iX9_missesWith, 2, 2, 7, 157, [], 1185, 1183, 1184)
def qa_iX9_bestOrder : List (Nat × Instr × Nat) := [(0, .aload_n 0, 1), (1, .getfield 10, 3), (4, .invokevirtual 96, 3), (7, .invokestatic 59, 3), (10, .iconst 0, 1), (11, .istore_n 1, 1), (12, .aload_n 0, 1), (13, .iload_n 1, 1), (14, .invokevirtual 272, 3), (17, .istore_n 2, 1), (18, .iconst 1, 1), (19, .istore_n 3, 1), (20, .iload_n 3, 1), (21, .iconst 3, 1), (22, .if_icmp .ge 27, 3), (25, .aload_n 0, 1), (26, .iload_n 3, 1), (27, .invokevirtual 272, 3), (30, .istore 4, 2), (32, .iload 4, 2), (34, .iload_n 2, 1), (35, .if_icmp .ge 8, 3), (38, .iload_n 3, 1), (39, .istore_n 1, 1), (40, .iload 4, 2), (42, .istore_n 2, 1), (43, .iinc 3 1, 3), (46, .goto (-26), 3), (49, .iload_n 1, 1), (50, .ireturn, 1)]
def qa_mX9_bestOrder : qa_M := (yX9_bestOrder, cX9_bestOrder, 5, (some .int), 9, qa_iX9_bestOrder, 1, 2, 7, 157, [], 1196, 1194, 1195)
def qa_iX9_time : List (Nat × Instr × Nat) := [(0, .aload_n 0, 1), (1, .getfield 10, 3), (4, .getfield 275, 3), (7, .getfield 279, 3), (10, .ireturn, 1)]
def qa_mX9_time : qa_M := (yX9_time, cX9_time, 1, (some .int), 9, qa_iX9_time, 1, 2, 0, 0, [], 480, 478, 479)
def qa_iX9_hits : List (Nat × Instr × Nat) := [(0, .aload_n 0, 1), (1, .getfield 10, 3), (4, .getfield 275, 3), (7, .getfield 284, 3), (10, .ireturn, 1)]
def qa_mX9_hits : qa_M := (yX9_hits, cX9_hits, 1, (some .int), 9, qa_iX9_hits, 1, 2, 0, 0, [], 484, 482, 483)
def qa_iX9_misses : List (Nat × Instr × Nat) := [(0, .aload_n 0, 1), (1, .getfield 10, 3), (4, .getfield 275, 3), (7, .getfield 287, 3), (10, .ireturn, 1)]
def qa_mX9_misses : qa_M := (yX9_misses, cX9_misses, 1, (some .int), 9, qa_iX9_misses, 1, 2, 0, 0, [], 488, 486, 487)
def qa_iX9_loads : List (Nat × Instr × Nat) := [(0, .aload_n 0, 1), (1, .getfield 10, 3), (4, .getfield 275, 3), (7, .getfield 290, 3), (10, .ireturn, 1)]
def qa_mX9_loads : qa_M := (yX9_loads, cX9_loads, 1, (some .int), 9, qa_iX9_loads, 1, 2, 0, 0, [], 492, 490, 491)
def qa_iX9_warmLoads : List (Nat × Instr × Nat) := [(0, .aload_n 0, 1), (1, .getfield 10, 3), (4, .getfield 275, 3), (7, .getfield 293, 3), (10, .ireturn, 1)]
def qa_mX9_warmLoads : qa_M := (yX9_warmLoads, cX9_warmLoads, 1, (some .int), 9, qa_iX9_warmLoads, 1, 2, 0, 0, [], 496, 494, 495)
def qa_iX9_burnings : List (Nat × Instr × Nat) := [(0, .aload_n 0, 1), (1, .getfield 10, 3), (4, .getfield 275, 3), (7, .getfield 296, 3), (10, .ireturn, 1)]
def qa_mX9_burnings : qa_M := (yX9_burnings, cX9_burnings, 1, (some .int), 9, qa_iX9_burnings, 1, 2, 0, 0, [], 500, 498, 499)
def qa_iX9_waited : List (Nat × Instr × Nat) := [(0, .aload_n 0, 1), (1, .getfield 10, 3), (4, .getfield 275, 3), (7, .getfield 299, 3), (10, .ireturn, 1)]
def qa_mX9_waited : qa_M := (yX9_waited, cX9_waited, 1, (some .int), 9, qa_iX9_waited, 1, 2, 0, 0, [], 504, 502, 503)
def qa_iX9_hitShare : List (Nat × Instr × Nat) := [(0, .aload_n 0, 1), (1, .getfield 10, 3), (4, .getfield 275, 3), (7, .invokevirtual 302, 3), (10, .dreturn, 1)]
def qa_mX9_hitShare : qa_M := (yX9_hitShare, cX9_hitShare, 1, (some .double), 9, qa_iX9_hitShare, 1, 2, 1, 21, [], 508, 506, 507)
def qa_iX9_digest : List (Nat × Instr × Nat) := [(0, .ldc2_w 306, 3), (3, .aload_n 0, 1), (4, .getfield 10, 3), (7, .getfield 49, 3), (10, .getfield 53, 3), (13, .i2l, 1), (14, .invokestatic 308, 3), (17, .lstore_n 1, 1), (18, .iconst 0, 1), (19, .istore_n 3, 1), (20, .iload_n 3, 1), (21, .aload_n 0, 1), (22, .getfield 10, 3), (25, .getfield 49, 3), (28, .getfield 53, 3), (31, .if_icmp .ge 16, 3), (34, .aload_n 0, 1), (35, .lload_n 1, 1), (36, .iload_n 3, 1), (37, .invokevirtual 312, 3), (40, .lstore_n 1, 1), (41, .iinc 3 1, 3), (44, .goto (-24), 3), (47, .aload_n 0, 1), (48, .lload_n 1, 1), (49, .invokevirtual 316, 3), (52, .lstore_n 1, 1), (53, .aload_n 0, 1), (54, .lload_n 1, 1), (55, .invokevirtual 320, 3), (58, .lstore_n 1, 1), (59, .aload_n 0, 1), (60, .getfield 10, 3), (63, .getfield 208, 3), (66, .getfield 244, 3), (69, .iconst (-1), 1), (70, .if_icmp .eq 7, 3), (73, .iconst 1, 1), (74, .goto 4, 3), (77, .iconst 0, 1), (78, .istore_n 3, 1), (79, .lload_n 1, 1), (80, .iload_n 3, 1), (81, .ifCond .eq 11, 3), (84, .aload_n 0, 1), (85, .invokevirtual 263, 3), (88, .i2l, 1), (89, .goto 4, 3), (92, .lconst 0, 1), (93, .invokestatic 308, 3), (96, .lstore_n 1, 1), (97, .lload_n 1, 1), (98, .iload_n 3, 1), (99, .ifCond .eq 14, 3), (102, .aload_n 0, 1), (103, .getfield 10, 3), (106, .invokevirtual 266, 3), (109, .i2l, 1), (110, .goto 4, 3), (113, .lconst 0, 1), (114, .invokestatic 308, 3), (117, .lstore_n 1, 1), (118, .aload_n 0, 1), (119, .lload_n 1, 1), (120, .invokevirtual 323, 3), (123, .lstore_n 1, 1), (124, .iconst 0, 1), (125, .istore 4, 2), (127, .iload 4, 2), (129, .iconst 2, 1), (130, .if_icmp .ge 28, 3), (133, .lload_n 1, 1), (134, .aload_n 0, 1), (135, .iload 4, 2), (137, .invokevirtual 191, 3), (140, .ifCond .eq 7, 3), (143, .lconst 1, 1), (144, .goto 4, 3), (147, .lconst 0, 1), (148, .invokestatic 308, 3), (151, .lstore_n 1, 1), (152, .iinc 4 1, 3), (155, .goto (-28), 3), (158, .lload_n 1, 1), (159, .aload_n 0, 1), (160, .getfield 37, 3), (163, .getfield 160, 3), (166, .i2l, 1), (167, .invokestatic 308, 3), (170, .lstore_n 1, 1), (171, .iconst 0, 1), (172, .istore 4, 2), (174, .iload 4, 2), (176, .aload_n 0, 1), (177, .getfield 37, 3), (180, .getfield 160, 3), (183, .if_icmp .ge 27, 3), (186, .lload_n 1, 1), (187, .aload_n 0, 1), (188, .getfield 37, 3), (191, .getfield 326, 3), (194, .iload 4, 2), (196, .invokestatic 129, 3), (199, .i2l, 1), (200, .invokestatic 308, 3), (203, .lstore_n 1, 1), (204, .iinc 4 1, 3), (207, .goto (-33), 3), (210, .lload_n 1, 1), (211, .lreturn, 1)]
def qa_mX9_digest : qa_M := (yX9_digest, cX9_digest, 5, (some .long), 9, qa_iX9_digest, 1, 2, 7, 154, [], 516, 514, 515)
def qa_iX9_mix : List (Nat × Instr × Nat) := [(0, .ldc2_w 329, 3), (3, .lload_n 0, 1), (4, .lmul, 1), (5, .lload_n 2, 1), (6, .ladd, 1), (7, .lreturn, 1)]
def qa_mX9_mix : qa_M := (yX9_mix, cX9_mix, 4, (some .long), 9, qa_iX9_mix, 2, 1, 0, 0, [], 520, 519, 0)
def qa_iX9_mixSlide : List (Nat × Instr × Nat) := [(0, .lload_n 1, 1), (1, .aload_n 0, 1), (2, .getfield 10, 3), (5, .getfield 49, 3), (8, .getfield 125, 3), (11, .iload_n 3, 1), (12, .invokestatic 129, 3), (15, .i2l, 1), (16, .invokestatic 308, 3), (19, .lstore 4, 2), (21, .lload 4, 2), (23, .aload_n 0, 1), (24, .getfield 10, 3), (27, .getfield 49, 3), (30, .iload_n 3, 1), (31, .iconst 0, 1), (32, .invokevirtual 198, 3), (35, .i2l, 1), (36, .invokestatic 308, 3), (39, .lstore 4, 2), (41, .lload 4, 2), (43, .aload_n 0, 1), (44, .getfield 10, 3), (47, .getfield 49, 3), (50, .getfield 202, 3), (53, .iload_n 3, 1), (54, .invokestatic 129, 3), (57, .i2l, 1), (58, .invokestatic 308, 3), (61, .lstore 4, 2), (63, .lload 4, 2), (65, .aload_n 0, 1), (66, .getfield 10, 3), (69, .getfield 49, 3), (72, .iload_n 3, 1), (73, .invokevirtual 205, 3), (76, .ifCond .eq 7, 3), (79, .lconst 1, 1), (80, .goto 4, 3), (83, .lconst 0, 1), (84, .invokestatic 308, 3), (87, .lstore 4, 2), (89, .lload 4, 2), (91, .aload_n 0, 1), (92, .getfield 10, 3), (95, .getfield 208, 3), (98, .iload_n 3, 1), (99, .invokevirtual 212, 3), (102, .ifCond .eq 7, 3), (105, .lconst 1, 1), (106, .goto 4, 3), (109, .lconst 0, 1), (110, .invokestatic 308, 3), (113, .lstore 4, 2), (115, .lload 4, 2), (117, .aload_n 0, 1), (118, .getfield 10, 3), (121, .getfield 49, 3), (124, .getfield 217, 3), (127, .iload_n 3, 1), (128, .invokestatic 129, 3), (131, .i2l, 1), (132, .invokestatic 308, 3), (135, .lstore 4, 2), (137, .lload 4, 2), (139, .aload_n 0, 1), (140, .getfield 10, 3), (143, .getfield 49, 3), (146, .getfield 220, 3), (149, .iload_n 3, 1), (150, .invokestatic 129, 3), (153, .i2l, 1), (154, .invokestatic 308, 3), (157, .lstore 4, 2), (159, .lload 4, 2), (161, .aload_n 0, 1), (162, .getfield 10, 3), (165, .getfield 73, 3), (168, .iload_n 3, 1), (169, .invokevirtual 223, 3), (172, .i2l, 1), (173, .invokestatic 308, 3), (176, .lstore 4, 2), (178, .lload 4, 2), (180, .aload_n 0, 1), (181, .getfield 10, 3), (184, .iload_n 3, 1), (185, .invokevirtual 226, 3), (188, .iconst 1, 1), (189, .iadd, 1), (190, .i2l, 1), (191, .invokestatic 308, 3), (194, .lstore 4, 2), (196, .lload 4, 2), (198, .aload_n 0, 1), (199, .getfield 10, 3), (202, .iload_n 3, 1), (203, .invokevirtual 269, 3), (206, .i2l, 1), (207, .invokestatic 308, 3), (210, .lreturn, 1)]
def qa_mX9_mixSlide : qa_M := (yX9_mixSlide, cX9_mixSlide, 6, (some .long), 9, qa_iX9_mixSlide, 3, 2, 4, 91, [], 525, 524, 0)
def qa_iX9_mixProgramme : List (Nat × Instr × Nat) := [(0, .lload_n 1, 1), (1, .aload_n 0, 1), (2, .getfield 10, 3), (5, .getfield 73, 3), (8, .getfield 77, 3), (11, .i2l, 1), (12, .invokestatic 308, 3), (15, .lstore_n 3, 1), (16, .iconst 0, 1), (17, .istore 5, 2), (19, .iload 5, 2), (21, .aload_n 0, 1), (22, .getfield 10, 3), (25, .getfield 73, 3), (28, .getfield 77, 3), (31, .if_icmp .ge 30, 3), (34, .lload_n 3, 1), (35, .aload_n 0, 1), (36, .getfield 10, 3), (39, .getfield 73, 3), (42, .getfield 229, 3), (45, .iload 5, 2), (47, .invokestatic 129, 3), (50, .i2l, 1), (51, .invokestatic 308, 3), (54, .lstore_n 3, 1), (55, .iinc 5 1, 3), (58, .goto (-39), 3), (61, .lload_n 3, 1), (62, .aload_n 0, 1), (63, .getfield 10, 3), (66, .getfield 73, 3), (69, .getfield 232, 3), (72, .iconst 1, 1), (73, .iadd, 1), (74, .i2l, 1), (75, .invokestatic 308, 3), (78, .lstore_n 3, 1), (79, .lload_n 3, 1), (80, .aload_n 0, 1), (81, .getfield 10, 3), (84, .getfield 208, 3), (87, .getfield 235, 3), (90, .iconst 1, 1), (91, .iadd, 1), (92, .i2l, 1), (93, .invokestatic 308, 3), (96, .lstore_n 3, 1), (97, .lload_n 3, 1), (98, .aload_n 0, 1), (99, .getfield 10, 3), (102, .getfield 208, 3), (105, .getfield 238, 3), (108, .iconst 1, 1), (109, .iadd, 1), (110, .i2l, 1), (111, .invokestatic 308, 3), (114, .lstore_n 3, 1), (115, .lload_n 3, 1), (116, .aload_n 0, 1), (117, .getfield 10, 3), (120, .getfield 208, 3), (123, .getfield 241, 3), (126, .i2l, 1), (127, .invokestatic 308, 3), (130, .lstore_n 3, 1), (131, .lload_n 3, 1), (132, .aload_n 0, 1), (133, .getfield 10, 3), (136, .getfield 208, 3), (139, .getfield 244, 3), (142, .iconst 1, 1), (143, .iadd, 1), (144, .i2l, 1), (145, .invokestatic 308, 3), (148, .lstore_n 3, 1), (149, .lload_n 3, 1), (150, .aload_n 0, 1), (151, .getfield 10, 3), (154, .getfield 208, 3), (157, .getfield 247, 3), (160, .i2l, 1), (161, .invokestatic 308, 3), (164, .lreturn, 1)]
def qa_mX9_mixProgramme : qa_M := (yX9_mixProgramme, cX9_mixProgramme, 6, (some .long), 9, qa_iX9_mixProgramme, 2, 2, 1, 23, [], 577, 576, 1)
def qa_iX9_mixLoading : List (Nat × Instr × Nat) := [(0, .lload_n 1, 1), (1, .aload_n 0, 1), (2, .getfield 10, 3), (5, .getfield 106, 3), (8, .getfield 250, 3), (11, .iconst 1, 1), (12, .iadd, 1), (13, .i2l, 1), (14, .invokestatic 308, 3), (17, .lstore_n 3, 1), (18, .lload_n 3, 1), (19, .aload_n 0, 1), (20, .getfield 10, 3), (23, .getfield 106, 3), (26, .getfield 253, 3), (29, .i2l, 1), (30, .invokestatic 308, 3), (33, .lstore_n 3, 1), (34, .lload_n 3, 1), (35, .aload_n 0, 1), (36, .getfield 10, 3), (39, .getfield 106, 3), (42, .getfield 116, 3), (45, .i2l, 1), (46, .invokestatic 308, 3), (49, .lstore_n 3, 1), (50, .iconst 0, 1), (51, .istore 5, 2), (53, .iload 5, 2), (55, .aload_n 0, 1), (56, .getfield 10, 3), (59, .getfield 106, 3), (62, .getfield 116, 3), (65, .if_icmp .ge 30, 3), (68, .lload_n 3, 1), (69, .aload_n 0, 1), (70, .getfield 10, 3), (73, .getfield 106, 3), (76, .getfield 256, 3), (79, .iload 5, 2), (81, .invokestatic 129, 3), (84, .i2l, 1), (85, .invokestatic 308, 3), (88, .lstore_n 3, 1), (89, .iinc 5 1, 3), (92, .goto (-39), 3), (95, .lload_n 3, 1), (96, .aload_n 0, 1), (97, .getfield 10, 3), (100, .invokevirtual 257, 3), (103, .i2l, 1), (104, .invokestatic 308, 3), (107, .lstore_n 3, 1), (108, .lload_n 3, 1), (109, .aload_n 0, 1), (110, .getfield 10, 3), (113, .getfield 106, 3), (116, .getfield 260, 3), (119, .i2l, 1), (120, .invokestatic 308, 3), (123, .lstore_n 3, 1), (124, .lload_n 3, 1), (125, .aload_n 0, 1), (126, .getfield 10, 3), (129, .getfield 136, 3), (132, .getfield 140, 3), (135, .i2l, 1), (136, .invokestatic 308, 3), (139, .lstore_n 3, 1), (140, .lload_n 3, 1), (141, .aload_n 0, 1), (142, .getfield 10, 3), (145, .getfield 136, 3), (148, .getfield 148, 3), (151, .i2l, 1), (152, .invokestatic 308, 3), (155, .lstore_n 3, 1), (156, .lload_n 3, 1), (157, .aload_n 0, 1), (158, .getfield 10, 3), (161, .getfield 136, 3), (164, .getfield 151, 3), (167, .i2l, 1), (168, .invokestatic 308, 3), (171, .lstore_n 3, 1), (172, .lload_n 3, 1), (173, .aload_n 0, 1), (174, .getfield 10, 3), (177, .getfield 136, 3), (180, .getfield 154, 3), (183, .i2l, 1), (184, .invokestatic 308, 3), (187, .lstore_n 3, 1), (188, .lload_n 3, 1), (189, .aload_n 0, 1), (190, .getfield 10, 3), (193, .getfield 136, 3), (196, .getfield 157, 3), (199, .i2l, 1), (200, .invokestatic 308, 3), (203, .lreturn, 1)]
def qa_mX9_mixLoading : qa_M := (yX9_mixLoading, cX9_mixLoading, 6, (some .long), 9, qa_iX9_mixLoading, 2, 2, 2, 43, [], 581, 580, 2)
def qa_iX9_mixAccounts : List (Nat × Instr × Nat) := [(0, .lload_n 1, 1), (1, .aload_n 0, 1), (2, .getfield 10, 3), (5, .getfield 275, 3), (8, .getfield 279, 3), (11, .i2l, 1), (12, .invokestatic 308, 3), (15, .lstore_n 3, 1), (16, .lload_n 3, 1), (17, .aload_n 0, 1), (18, .getfield 10, 3), (21, .getfield 275, 3), (24, .getfield 284, 3), (27, .i2l, 1), (28, .invokestatic 308, 3), (31, .lstore_n 3, 1), (32, .lload_n 3, 1), (33, .aload_n 0, 1), (34, .getfield 10, 3), (37, .getfield 275, 3), (40, .getfield 287, 3), (43, .i2l, 1), (44, .invokestatic 308, 3), (47, .lstore_n 3, 1), (48, .lload_n 3, 1), (49, .aload_n 0, 1), (50, .getfield 10, 3), (53, .getfield 275, 3), (56, .getfield 290, 3), (59, .i2l, 1), (60, .invokestatic 308, 3), (63, .lstore_n 3, 1), (64, .lload_n 3, 1), (65, .aload_n 0, 1), (66, .getfield 10, 3), (69, .getfield 275, 3), (72, .getfield 293, 3), (75, .i2l, 1), (76, .invokestatic 308, 3), (79, .lstore_n 3, 1), (80, .lload_n 3, 1), (81, .aload_n 0, 1), (82, .getfield 10, 3), (85, .getfield 275, 3), (88, .getfield 296, 3), (91, .i2l, 1), (92, .invokestatic 308, 3), (95, .lstore_n 3, 1), (96, .lload_n 3, 1), (97, .aload_n 0, 1), (98, .getfield 10, 3), (101, .getfield 275, 3), (104, .getfield 299, 3), (107, .i2l, 1), (108, .invokestatic 308, 3), (111, .lstore_n 3, 1), (112, .lload_n 3, 1), (113, .aload_n 0, 1), (114, .getfield 22, 3), (117, .getfield 194, 3), (120, .i2l, 1), (121, .invokestatic 308, 3), (124, .lstore_n 3, 1), (125, .lload_n 3, 1), (126, .aload_n 0, 1), (127, .getfield 10, 3), (130, .getfield 275, 3), (133, .invokevirtual 302, 3), (136, .invokestatic 331, 3), (139, .invokestatic 308, 3), (142, .lreturn, 1)]
def qa_mX9_mixAccounts : qa_M := (yX9_mixAccounts, cX9_mixAccounts, 5, (some .long), 9, qa_iX9_mixAccounts, 2, 2, 1, 26, [], 711, 710, 4)
def qa_iX9_bitsOfShare : List (Nat × Instr × Nat) := [(0, .dload_n 0, 1), (1, .dconst 0, 1), (2, .dcmp .l, 1), (3, .ifCond .gt 5, 3), (6, .lconst 0, 1), (7, .lreturn, 1), (8, .dload_n 0, 1), (9, .dstore_n 2, 1), (10, .sipush 1023, 3), (13, .istore 4, 2), (15, .dload_n 2, 1), (16, .dconst 1, 1), (17, .dcmp .g, 1), (18, .ifCond .ge 21, 3), (21, .iload 4, 2), (23, .iconst 1, 1), (24, .if_icmp .le 15, 3), (27, .dload_n 2, 1), (28, .ldc2_w 335, 3), (31, .dmul, 1), (32, .dstore_n 2, 1), (33, .iinc 4 (-1), 3), (36, .goto (-21), 3), (39, .dload_n 2, 1), (40, .dconst 1, 1), (41, .dsub, 1), (42, .ldc2_w 337, 3), (45, .dmul, 1), (46, .d2l, 1), (47, .lstore 5, 2), (49, .iload 4, 2), (51, .i2l, 1), (52, .bipush 52, 2), (54, .lshl, 1), (55, .lload 5, 2), (57, .ladd, 1), (58, .lreturn, 1)]
def qa_mX9_bitsOfShare : qa_M := (yX9_bitsOfShare, cX9_bitsOfShare, 7, (some .long), 9, qa_iX9_bitsOfShare, 1, 1, 0, 0, [], 714, 713, 0)
def qa_iX9_waitOnTrial : List (Nat × Instr × Nat) := [(0, .aload_n 0, 1), (1, .getfield 16, 3), (4, .aload_n 0, 1), (5, .getfield 10, 3), (8, .invokevirtual 172, 3), (11, .iconst 1, 1), (12, .istore_n 1, 1), (13, .iload_n 1, 1), (14, .sipush 1000, 3), (17, .if_icmp .ge 21, 3), (20, .aload_n 0, 1), (21, .getfield 16, 3), (24, .invokevirtual 339, 3), (27, .ifCond .le 5, 3), (30, .iload_n 1, 1), (31, .ireturn, 1), (32, .iinc 1 1, 3), (35, .goto (-22), 3), (38, .sipush 1000, 3), (41, .ireturn, 1)]
def qa_mX9_waitOnTrial : qa_M := (yX9_waitOnTrial, cX9_waitOnTrial, 2, (some .int), 9, qa_iX9_waitOnTrial, 1, 2, 6, 133, [], 585, 584, 3)
def qa_iX9_missesOnTrial : List (Nat × Instr × Nat) := [(0, .aload_n 0, 1), (1, .getfield 16, 3), (4, .aload_n 0, 1), (5, .getfield 10, 3), (8, .invokevirtual 172, 3), (11, .aload_n 0, 1), (12, .getfield 16, 3), (15, .getfield 136, 3), (18, .iload_n 1, 1), (19, .putfield 151, 3), (22, .aload_n 0, 1), (23, .getfield 16, 3), (26, .getfield 136, 3), (29, .iconst 0, 1), (30, .putfield 157, 3), (33, .iconst 0, 1), (34, .istore_n 2, 1), (35, .iconst 0, 1), (36, .istore_n 3, 1), (37, .iload_n 3, 1), (38, .aload_n 0, 1), (39, .getfield 10, 3), (42, .getfield 73, 3), (45, .getfield 77, 3), (48, .if_icmp .ge 92, 3), (51, .aload_n 0, 1), (52, .getfield 16, 3), (55, .invokevirtual 100, 3), (58, .ifCond .ne 6, 3), (61, .iinc 2 1, 3), (64, .aload_n 0, 1), (65, .getfield 16, 3), (68, .invokevirtual 70, 3), (71, .iconst 0, 1), (72, .istore 4, 2), (74, .aload_n 0, 1), (75, .getfield 16, 3), (78, .getfield 208, 3), (81, .getfield 244, 3), (84, .iconst (-1), 1), (85, .if_icmp .eq 25, 3), (88, .iload 4, 2), (90, .sipush 1000, 3), (93, .if_icmp .ge 17, 3), (96, .aload_n 0, 1), (97, .getfield 16, 3), (100, .invokevirtual 339, 3), (103, .pop, 1), (104, .iinc 4 1, 3), (107, .goto (-33), 3), (110, .iconst 0, 1), (111, .istore 4, 2), (113, .iload 4, 2), (115, .bipush 10, 2), (117, .if_icmp .ge 17, 3), (120, .aload_n 0, 1), (121, .getfield 16, 3), (124, .invokevirtual 339, 3), (127, .pop, 1), (128, .iinc 4 1, 3), (131, .goto (-18), 3), (134, .iinc 3 1, 3), (137, .goto (-100), 3), (140, .iload_n 2, 1), (141, .ireturn, 1)]
def qa_mX9_missesOnTrial : qa_M := (yX9_missesOnTrial, cX9_missesOnTrial, 5, (some .int), 9, qa_iX9_missesOnTrial, 2, 2, 6, 133, [], 1189, 1188, 7)
def qa_iX9_hasSnapshot : List (Nat × Instr × Nat) := [(0, .iload_n 1, 1), (1, .ifCond .lt 25, 3), (4, .iload_n 1, 1), (5, .aload_n 0, 1), (6, .getfield 30, 3), (9, .arraylength, 1), (10, .if_icmp .ge 16, 3), (13, .aload_n 0, 1), (14, .getfield 30, 3), (17, .iload_n 1, 1), (18, .baload, 1), (19, .ifCond .eq 7, 3), (22, .iconst 1, 1), (23, .goto 4, 3), (26, .iconst 0, 1), (27, .ireturn, 1)]
def qa_mX9_hasSnapshot : qa_M := (yX9_hasSnapshot, cX9_hasSnapshot, 2, (some .boolean), 9, qa_iX9_hasSnapshot, 2, 2, 0, 0, [], 720, 719, 5)
def qa_iX9_needArgument : List (Nat × Instr × Nat) := [(0, .iload_n 0, 1), (1, .ifCond .ne 11, 3), (4, .new 342, 3), (7, .dup, 1), (8, .invokespecial 344, 3), (11, .athrow, 1), (12, .return_, 1)]
def qa_mX9_needArgument : qa_M := (yX9_needArgument, cX9_needArgument, 1, none, 9, qa_iX9_needArgument, 1, 1, 6, 90, [], 735, 734, 0)
def qa_iX9_needIndex : List (Nat × Instr × Nat) := [(0, .iload_n 0, 1), (1, .ifCond .ne 11, 3), (4, .new 345, 3), (7, .dup, 1), (8, .invokespecial 347, 3), (11, .athrow, 1), (12, .return_, 1)]
def qa_mX9_needIndex : qa_M := (yX9_needIndex, cX9_needIndex, 1, none, 9, qa_iX9_needIndex, 1, 1, 6, 90, [], 841, 840, 0)
def qa_iX9_needState : List (Nat × Instr × Nat) := [(0, .iload_n 0, 1), (1, .ifCond .ne 11, 3), (4, .new 348, 3), (7, .dup, 1), (8, .invokespecial 350, 3), (11, .athrow, 1), (12, .return_, 1)]
def qa_mX9_needState : qa_M := (yX9_needState, cX9_needState, 1, none, 9, qa_iX9_needState, 1, 1, 6, 90, [], 801, 800, 0)
def qa_iX9_isWithin : List (Nat × Instr × Nat) := [(0, .iload_n 0, 1), (1, .iload_n 1, 1), (2, .if_icmp .lt 12, 3), (5, .iload_n 0, 1), (6, .iload_n 2, 1), (7, .if_icmp .gt 7, 3), (10, .iconst 1, 1), (11, .goto 4, 3), (14, .iconst 0, 1), (15, .ireturn, 1)]
def qa_mX9_isWithin : qa_M := (yX9_isWithin, cX9_isWithin, 3, (some .boolean), 9, qa_iX9_isWithin, 3, 1, 0, 0, [], 732, 731, 0)
def qa_iX9_at : List (Nat × Instr × Nat) := [(0, .iload_n 1, 1), (1, .ifCond .lt 15, 3), (4, .iload_n 1, 1), (5, .aload_n 0, 1), (6, .arraylength, 1), (7, .if_icmp .ge 9, 3), (10, .aload_n 0, 1), (11, .iload_n 1, 1), (12, .iaload, 1), (13, .goto 4, 3), (16, .iconst 0, 1), (17, .ireturn, 1)]
def qa_mX9_at : qa_M := (yX9_at, cX9_at, 2, (some .int), 9, qa_iX9_at, 2, 1, 0, 0, [], 403, 402, 0)
def qa_iX9_set : List (Nat × Instr × Nat) := [(0, .iload_n 1, 1), (1, .ifCond .lt 13, 3), (4, .iload_n 1, 1), (5, .aload_n 0, 1), (6, .arraylength, 1), (7, .if_icmp .ge 7, 3), (10, .aload_n 0, 1), (11, .iload_n 1, 1), (12, .iload_n 2, 1), (13, .iastore, 1), (14, .return_, 1)]
def qa_mX9_set : qa_M := (yX9_set, cX9_set, 3, none, 9, qa_iX9_set, 3, 1, 0, 0, [], 559, 558, 0)
def qa_iX9_copyRow : List (Nat × Instr × Nat) := [(0, .iconst 0, 1), (1, .istore_n 2, 1), (2, .iload_n 2, 1), (3, .aload_n 0, 1), (4, .arraylength, 1), (5, .if_icmp .ge 21, 3), (8, .iload_n 2, 1), (9, .aload_n 1, 1), (10, .arraylength, 1), (11, .if_icmp .ge 15, 3), (14, .aload_n 1, 1), (15, .iload_n 2, 1), (16, .aload_n 0, 1), (17, .iload_n 2, 1), (18, .iaload, 1), (19, .iastore, 1), (20, .iinc 2 1, 3), (23, .goto (-21), 3), (26, .return_, 1)]
def qa_mX9_copyRow : qa_M := (yX9_copyRow, cX9_copyRow, 3, none, 9, qa_iX9_copyRow, 2, 1, 0, 0, [], 596, 595, 0)
def qa_iX10_init : List (Nat × Instr × Nat) := [(0, .aload_n 0, 1), (1, .invokespecial 1, 3), (4, .aload_n 0, 1), (5, .sipush 176, 3), (8, .newarray .int, 2), (10, .putfield 7, 3), (13, .aload_n 0, 1), (14, .sipush 1056, 3), (17, .newarray .int, 2), (19, .putfield 13, 3), (22, .aload_n 0, 1), (23, .sipush 352, 3), (26, .newarray .int, 2), (28, .putfield 16, 3), (31, .aload_n 0, 1), (32, .iconst 2, 1), (33, .newarray .boolean, 2), (35, .putfield 19, 3), (38, .aload_n 0, 1), (39, .sipush 176, 3), (42, .newarray .int, 2), (44, .putfield 23, 3), (47, .aload_n 0, 1), (48, .sipush 176, 3), (51, .newarray .int, 2), (53, .putfield 26, 3), (56, .aload_n 0, 1), (57, .bipush 60, 2), (59, .newarray .int, 2), (61, .putfield 29, 3), (64, .aload_n 0, 1), (65, .getfield 7, 3), (68, .sipush 138, 3), (71, .iconst (-1), 1), (72, .iastore, 1), (73, .aload_n 0, 1), (74, .getfield 7, 3), (77, .sipush 139, 3), (80, .iconst (-1), 1), (81, .iastore, 1), (82, .aload_n 0, 1), (83, .getfield 7, 3), (86, .sipush 140, 3), (89, .iconst (-1), 1), (90, .iastore, 1), (91, .aload_n 0, 1), (92, .getfield 7, 3), (95, .sipush 142, 3), (98, .iconst (-1), 1), (99, .iastore, 1), (100, .aload_n 0, 1), (101, .getfield 7, 3), (104, .sipush 144, 3), (107, .iconst (-1), 1), (108, .iastore, 1), (109, .aload_n 0, 1), (110, .getfield 7, 3), (113, .sipush 163, 3), (116, .sipush 150, 3), (119, .iastore, 1), (120, .aload_n 0, 1), (121, .getfield 7, 3), (124, .sipush 164, 3), (127, .iconst 1, 1), (128, .iastore, 1), (129, .aload_n 0, 1), (130, .getfield 7, 3), (133, .sipush 166, 3), (136, .iconst 5, 1), (137, .iastore, 1), (138, .return_, 1)]
def qa_mX10_init : qa_M := (yX10_init, cX10_init, 1, none, 10, qa_iX10_init, 1, 0, 1, 20, [], 1201, 1200, 0)
def qa_iX10_thrown : List (Nat × Instr × Nat) := [(0, .aload_n 0, 1), (1, .getfield 32, 3), (4, .ireturn, 1)]
def qa_mX10_thrown : qa_M := (yX10_thrown, cX10_thrown, 1, (some .int), 10, qa_iX10_thrown, 1, 2, 0, 0, [], 1252, 1250, 1251)
def qa_iX10_throwing : List (Nat × Instr × Nat) := [(0, .aload_n 0, 1), (1, .iload_n 1, 1), (2, .putfield 32, 3), (5, .iconst 0, 1), (6, .ireturn, 1)]
def qa_mX10_throwing : qa_M := (yX10_throwing, cX10_throwing, 2, (some .int), 10, qa_iX10_throwing, 2, 2, 0, 0, [], 1263, 1262, 8)
def qa_iX10_in : List (Nat × Instr × Nat) := [(0, .iload_n 0, 1), (1, .iload_n 1, 1), (2, .if_icmp .lt 12, 3), (5, .iload_n 0, 1), (6, .iload_n 2, 1), (7, .if_icmp .gt 7, 3), (10, .iconst 1, 1), (11, .goto 4, 3), (14, .iconst 0, 1), (15, .ireturn, 1)]
def qa_mX10_in : qa_M := (yX10_in, cX10_in, 3, (some .boolean), 10, qa_iX10_in, 3, 1, 0, 0, [], 1259, 1258, 0)
def qa_iX10_save : List (Nat × Instr × Nat) := [(0, .aload_n 0, 1), (1, .getfield 36, 3), (4, .bipush 6, 2), (6, .if_icmp .ne 44, 3), (9, .iconst 0, 1), (10, .istore_n 1, 1), (11, .iload_n 1, 1), (12, .sipush 880, 3), (15, .if_icmp .ge 25, 3), (18, .aload_n 0, 1), (19, .getfield 13, 3), (22, .iload_n 1, 1), (23, .aload_n 0, 1), (24, .getfield 13, 3), (27, .sipush 176, 3), (30, .iload_n 1, 1), (31, .iadd, 1), (32, .iaload, 1), (33, .iastore, 1), (34, .iinc 1 1, 3), (37, .goto (-26), 3), (40, .aload_n 0, 1), (41, .dup, 1), (42, .getfield 36, 3), (45, .iconst 1, 1), (46, .isub, 1), (47, .putfield 36, 3), (50, .iconst 0, 1), (51, .istore_n 1, 1), (52, .iload_n 1, 1), (53, .sipush 176, 3), (56, .if_icmp .ge 30, 3), (59, .aload_n 0, 1), (60, .getfield 13, 3), (63, .sipush 176, 3), (66, .aload_n 0, 1), (67, .getfield 36, 3), (70, .imul, 1), (71, .iload_n 1, 1), (72, .iadd, 1), (73, .aload_n 0, 1), (74, .getfield 7, 3), (77, .iload_n 1, 1), (78, .iaload, 1), (79, .iastore, 1), (80, .iinc 1 1, 3), (83, .goto (-31), 3), (86, .aload_n 0, 1), (87, .dup, 1), (88, .getfield 36, 3), (91, .iconst 1, 1), (92, .iadd, 1), (93, .putfield 36, 3), (96, .return_, 1)]
def qa_mX10_save : qa_M := (yX10_save, cX10_save, 2, none, 10, qa_iX10_save, 1, 2, 0, 0, [], 1267, 1266, 9)
def qa_iX10_of : List (Nat × Instr × Nat) := [(0, .aload_n 0, 1), (1, .getfield 7, 3), (4, .iconst 1, 1), (5, .bipush 7, 2), (7, .iload_n 1, 1), (8, .imul, 1), (9, .iadd, 1), (10, .iload_n 2, 1), (11, .iadd, 1), (12, .iaload, 1), (13, .ireturn, 1)]
def qa_mX10_of : qa_M := (yX10_of, cX10_of, 3, (some .int), 10, qa_iX10_of, 3, 2, 0, 0, [], 1295, 1294, 15)
def qa_iX10_lay : List (Nat × Instr × Nat) := [(0, .aload_n 0, 1), (1, .getfield 7, 3), (4, .iconst 1, 1), (5, .bipush 7, 2), (7, .iload_n 1, 1), (8, .imul, 1), (9, .iadd, 1), (10, .iload_n 2, 1), (11, .iadd, 1), (12, .iload_n 3, 1), (13, .iastore, 1), (14, .return_, 1)]
def qa_mX10_lay : qa_M := (yX10_lay, cX10_lay, 4, none, 10, qa_iX10_lay, 4, 2, 0, 0, [], 1271, 1270, 10)
def qa_iX10_isThere : List (Nat × Instr × Nat) := [(0, .aload_n 0, 1), (1, .iload_n 1, 1), (2, .iconst 0, 1), (3, .aload_n 0, 1), (4, .getfield 7, 3), (7, .iconst 0, 1), (8, .iaload, 1), (9, .iconst 1, 1), (10, .isub, 1), (11, .invokestatic 39, 3), (14, .ifCond .eq 7, 3), (17, .iconst 0, 1), (18, .goto 4, 3), (21, .iconst 1, 1), (22, .putfield 32, 3), (25, .aload_n 0, 1), (26, .getfield 32, 3), (29, .ifCond .ne 7, 3), (32, .iconst 1, 1), (33, .goto 4, 3), (36, .iconst 0, 1), (37, .ireturn, 1)]
def qa_mX10_isThere : qa_M := (yX10_isThere, cX10_isThere, 2, (some .boolean), 10, qa_iX10_isThere, 2, 2, 1, 22, [], 1279, 1278, 11)
def qa_iX10_loaded : List (Nat × Instr × Nat) := [(0, .aload_n 0, 1), (1, .iload_n 1, 1), (2, .iconst 3, 1), (3, .invokevirtual 43, 3), (6, .iconst 1, 1), (7, .if_icmp .ne 7, 3), (10, .iconst 1, 1), (11, .goto 4, 3), (14, .iconst 0, 1), (15, .ireturn, 1)]
def qa_mX10_loaded : qa_M := (yX10_loaded, cX10_loaded, 2, (some .boolean), 10, qa_iX10_loaded, 2, 2, 1, 22, [], 1307, 1306, 18)
def qa_iX10_onShow : List (Nat × Instr × Nat) := [(0, .iload_n 1, 1), (1, .aload_n 0, 1), (2, .getfield 7, 3), (5, .sipush 139, 3), (8, .iaload, 1), (9, .if_icmp .eq 15, 3), (12, .iload_n 1, 1), (13, .aload_n 0, 1), (14, .getfield 7, 3), (17, .sipush 140, 3), (20, .iaload, 1), (21, .if_icmp .ne 7, 3), (24, .iconst 1, 1), (25, .goto 4, 3), (28, .iconst 0, 1), (29, .ireturn, 1)]
def qa_mX10_onShow : qa_M := (yX10_onShow, cX10_onShow, 2, (some .boolean), 10, qa_iX10_onShow, 2, 2, 0, 0, [], 1319, 1318, 21)
def qa_iX10_taken : List (Nat × Instr × Nat) := [(0, .iconst 0, 1), (1, .istore_n 1, 1), (2, .iconst 0, 1), (3, .istore_n 2, 1), (4, .iload_n 2, 1), (5, .aload_n 0, 1), (6, .getfield 7, 3), (9, .iconst 0, 1), (10, .iaload, 1), (11, .if_icmp .ge 42, 3), (14, .iload_n 1, 1), (15, .aload_n 0, 1), (16, .iload_n 2, 1), (17, .invokevirtual 47, 3), (20, .ifCond .ne 15, 3), (23, .aload_n 0, 1), (24, .getfield 7, 3), (27, .sipush 144, 3), (30, .iaload, 1), (31, .iload_n 2, 1), (32, .if_icmp .ne 12, 3), (35, .aload_n 0, 1), (36, .iload_n 2, 1), (37, .iconst 0, 1), (38, .invokevirtual 43, 3), (41, .goto 4, 3), (44, .iconst 0, 1), (45, .iadd, 1), (46, .istore_n 1, 1), (47, .iinc 2 1, 3), (50, .goto (-46), 3), (53, .iload_n 1, 1), (54, .ireturn, 1)]
def qa_mX10_taken : qa_M := (yX10_taken, cX10_taken, 3, (some .int), 10, qa_iX10_taken, 1, 2, 2, 43, [], 1303, 1302, 17)
def qa_iX10_nextOf : List (Nat × Instr × Nat) := [(0, .iconst 1, 1), (1, .istore_n 2, 1), (2, .iload_n 2, 1), (3, .aload_n 0, 1), (4, .getfield 7, 3), (7, .bipush 113, 2), (9, .iaload, 1), (10, .if_icmp .gt 41, 3), (13, .aload_n 0, 1), (14, .getfield 7, 3), (17, .bipush 114, 2), (19, .aload_n 0, 1), (20, .getfield 7, 3), (23, .sipush 138, 3), (26, .iaload, 1), (27, .iload_n 2, 1), (28, .iadd, 1), (29, .aload_n 0, 1), (30, .getfield 7, 3), (33, .bipush 113, 2), (35, .iaload, 1), (36, .irem, 1), (37, .iadd, 1), (38, .iaload, 1), (39, .iload_n 1, 1), (40, .if_icmp .ne 5, 3), (43, .iload_n 2, 1), (44, .ireturn, 1), (45, .iinc 2 1, 3), (48, .goto (-46), 3), (51, .bipush 25, 2), (53, .ireturn, 1)]
def qa_mX10_nextOf : qa_M := (yX10_nextOf, cX10_nextOf, 3, (some .int), 10, qa_iX10_nextOf, 2, 2, 0, 0, [], 1327, 1326, 23)
def qa_iX10_isFirst : List (Nat × Instr × Nat) := [(0, .aload_n 0, 1), (1, .getfield 7, 3), (4, .sipush 165, 3), (7, .iaload, 1), (8, .ifCond .ne 21, 3), (11, .aload_n 0, 1), (12, .iload_n 2, 1), (13, .bipush 6, 2), (15, .invokevirtual 43, 3), (18, .aload_n 0, 1), (19, .iload_n 1, 1), (20, .bipush 6, 2), (22, .invokevirtual 43, 3), (25, .isub, 1), (26, .goto 42, 3), (29, .aload_n 0, 1), (30, .getfield 7, 3), (33, .sipush 165, 3), (36, .iaload, 1), (37, .iconst 1, 1), (38, .if_icmp .ne 19, 3), (41, .aload_n 0, 1), (42, .iload_n 1, 1), (43, .iconst 0, 1), (44, .invokevirtual 43, 3), (47, .aload_n 0, 1), (48, .iload_n 2, 1), (49, .iconst 0, 1), (50, .invokevirtual 43, 3), (53, .isub, 1), (54, .goto 14, 3), (57, .aload_n 0, 1), (58, .iload_n 1, 1), (59, .invokevirtual 51, 3), (62, .aload_n 0, 1), (63, .iload_n 2, 1), (64, .invokevirtual 51, 3), (67, .isub, 1), (68, .istore_n 3, 1), (69, .iload_n 3, 1), (70, .ifCond .gt 12, 3), (73, .iload_n 3, 1), (74, .ifCond .ne 12, 3), (77, .iload_n 1, 1), (78, .iload_n 2, 1), (79, .if_icmp .ge 7, 3), (82, .iconst 1, 1), (83, .goto 4, 3), (86, .iconst 0, 1), (87, .ireturn, 1)]
def qa_mX10_isFirst : qa_M := (yX10_isFirst, cX10_isFirst, 4, (some .boolean), 10, qa_iX10_isFirst, 3, 2, 1, 22, [], 1323, 1322, 22)
def qa_iX10_canBurn : List (Nat × Instr × Nat) := [(0, .aload_n 0, 1), (1, .iload_n 1, 1), (2, .invokevirtual 47, 3), (5, .ifCond .eq 15, 3), (8, .aload_n 0, 1), (9, .iload_n 1, 1), (10, .invokevirtual 55, 3), (13, .ifCond .ne 7, 3), (16, .iconst 1, 1), (17, .goto 4, 3), (20, .iconst 0, 1), (21, .ireturn, 1)]
def qa_mX10_canBurn : qa_M := (yX10_canBurn, cX10_canBurn, 2, (some .boolean), 10, qa_iX10_canBurn, 2, 2, 2, 43, [], 1315, 1314, 20)
def qa_iX10_nextToBurn : List (Nat × Instr × Nat) := [(0, .iconst (-1), 1), (1, .istore_n 1, 1), (2, .iconst 0, 1), (3, .istore_n 2, 1), (4, .iload_n 2, 1), (5, .aload_n 0, 1), (6, .getfield 7, 3), (9, .iconst 0, 1), (10, .iaload, 1), (11, .if_icmp .ge 37, 3), (14, .aload_n 0, 1), (15, .iload_n 2, 1), (16, .invokevirtual 58, 3), (19, .ifCond .eq 21, 3), (22, .iload_n 1, 1), (23, .iconst (-1), 1), (24, .if_icmp .eq 12, 3), (27, .aload_n 0, 1), (28, .iload_n 2, 1), (29, .iload_n 1, 1), (30, .invokevirtual 61, 3), (33, .ifCond .eq 7, 3), (36, .iload_n 2, 1), (37, .goto 4, 3), (40, .iload_n 1, 1), (41, .istore_n 1, 1), (42, .iinc 2 1, 3), (45, .goto (-41), 3), (48, .iload_n 1, 1), (49, .ireturn, 1)]
def qa_mX10_nextToBurn : qa_M := (yX10_nextToBurn, cX10_nextToBurn, 3, (some .int), 10, qa_iX10_nextToBurn, 1, 2, 3, 64, [], 1311, 1310, 19)
def qa_iX10_burns : List (Nat × Instr × Nat) := [(0, .aload_n 0, 1), (1, .iload_n 1, 1), (2, .iconst 3, 1), (3, .iconst 0, 1), (4, .invokevirtual 65, 3), (7, .aload_n 0, 1), (8, .iload_n 1, 1), (9, .iconst 4, 1), (10, .aload_n 0, 1), (11, .getfield 7, 3), (14, .sipush 166, 3), (17, .iaload, 1), (18, .invokevirtual 65, 3), (21, .aload_n 0, 1), (22, .iload_n 1, 1), (23, .iconst 5, 1), (24, .aload_n 0, 1), (25, .iload_n 1, 1), (26, .iconst 5, 1), (27, .invokevirtual 43, 3), (30, .iconst 1, 1), (31, .iadd, 1), (32, .invokevirtual 65, 3), (35, .aload_n 0, 1), (36, .getfield 7, 3), (39, .sipush 173, 3), (42, .dup2, 1), (43, .iaload, 1), (44, .iconst 1, 1), (45, .iadd, 1), (46, .iastore, 1), (47, .aload_n 0, 1), (48, .iload_n 1, 1), (49, .iconst 0, 1), (50, .invokevirtual 43, 3), (53, .ireturn, 1)]
def qa_mX10_burns : qa_M := (yX10_burns, cX10_burns, 2, (some .int), 10, qa_iX10_burns, 2, 2, 1, 23, [], 1331, 1330, 24)
def qa_iX10_makesRoom : List (Nat × Instr × Nat) := [(0, .iconst 0, 1), (1, .istore_n 2, 1), (2, .aload_n 0, 1), (3, .invokevirtual 69, 3), (6, .iload_n 1, 1), (7, .iadd, 1), (8, .aload_n 0, 1), (9, .getfield 7, 3), (12, .sipush 163, 3), (15, .iaload, 1), (16, .if_icmp .le 26, 3), (19, .aload_n 0, 1), (20, .invokevirtual 73, 3), (23, .iconst (-1), 1), (24, .if_icmp .eq 18, 3), (27, .aload_n 0, 1), (28, .aload_n 0, 1), (29, .invokevirtual 73, 3), (32, .invokevirtual 76, 3), (35, .istore_n 3, 1), (36, .iinc 2 1, 3), (39, .goto (-37), 3), (42, .iload_n 2, 1), (43, .ireturn, 1)]
def qa_mX10_makesRoom : qa_M := (yX10_makesRoom, cX10_makesRoom, 4, (some .int), 10, qa_iX10_makesRoom, 2, 2, 4, 86, [], 1299, 1298, 16)
def qa_iX10_due : List (Nat × Instr × Nat) := [(0, .aload_n 0, 1), (1, .iload_n 1, 1), (2, .iconst 4, 1), (3, .invokevirtual 43, 3), (6, .ifCond .le 16, 3), (9, .aload_n 0, 1), (10, .iload_n 1, 1), (11, .iconst 1, 1), (12, .invokevirtual 43, 3), (15, .iconst 1, 1), (16, .iadd, 1), (17, .iconst 2, 1), (18, .idiv, 1), (19, .goto 9, 3), (22, .aload_n 0, 1), (23, .iload_n 1, 1), (24, .iconst 1, 1), (25, .invokevirtual 43, 3), (28, .ireturn, 1)]
def qa_mX10_due : qa_M := (yX10_due, cX10_due, 2, (some .int), 10, qa_iX10_due, 2, 2, 1, 22, [], 1335, 1334, 25)
def qa_iX10_starts : List (Nat × Instr × Nat) := [(0, .aload_n 0, 1), (1, .aload_n 0, 1), (2, .iload_n 1, 1), (3, .iconst 0, 1), (4, .invokevirtual 43, 3), (7, .invokevirtual 79, 3), (10, .istore_n 2, 1), (11, .aload_n 0, 1), (12, .getfield 7, 3), (15, .sipush 144, 3), (18, .iload_n 1, 1), (19, .iastore, 1), (20, .aload_n 0, 1), (21, .getfield 7, 3), (24, .sipush 145, 3), (27, .aload_n 0, 1), (28, .iload_n 1, 1), (29, .invokevirtual 82, 3), (32, .iastore, 1), (33, .aload_n 0, 1), (34, .getfield 7, 3), (37, .sipush 171, 3), (40, .dup2, 1), (41, .iaload, 1), (42, .iconst 1, 1), (43, .iadd, 1), (44, .iastore, 1), (45, .aload_n 0, 1), (46, .getfield 7, 3), (49, .sipush 172, 3), (52, .dup2, 1), (53, .iaload, 1), (54, .aload_n 0, 1), (55, .iload_n 1, 1), (56, .iconst 4, 1), (57, .invokevirtual 43, 3), (60, .ifCond .le 7, 3), (63, .iconst 1, 1), (64, .goto 4, 3), (67, .iconst 0, 1), (68, .iadd, 1), (69, .iastore, 1), (70, .aload_n 0, 1), (71, .iload_n 1, 1), (72, .iconst 4, 1), (73, .iconst 0, 1), (74, .invokevirtual 65, 3), (77, .return_, 1)]
def qa_mX10_starts : qa_M := (yX10_starts, cX10_starts, 3, none, 10, qa_iX10_starts, 2, 2, 5, 109, [], 1291, 1290, 14)
def qa_iX10_forgets : List (Nat × Instr × Nat) := [(0, .iconst 0, 1), (1, .istore_n 2, 1), (2, .iconst 0, 1), (3, .istore_n 3, 1), (4, .iload_n 3, 1), (5, .aload_n 0, 1), (6, .getfield 7, 3), (9, .sipush 146, 3), (12, .iaload, 1), (13, .if_icmp .ge 46, 3), (16, .aload_n 0, 1), (17, .getfield 7, 3), (20, .sipush 147, 3), (23, .iload_n 3, 1), (24, .iadd, 1), (25, .iaload, 1), (26, .iload_n 1, 1), (27, .if_icmp .eq 26, 3), (30, .aload_n 0, 1), (31, .getfield 7, 3), (34, .sipush 147, 3), (37, .iload_n 2, 1), (38, .iadd, 1), (39, .aload_n 0, 1), (40, .getfield 7, 3), (43, .sipush 147, 3), (46, .iload_n 3, 1), (47, .iadd, 1), (48, .iaload, 1), (49, .iastore, 1), (50, .iinc 2 1, 3), (53, .iinc 3 1, 3), (56, .goto (-52), 3), (59, .iload_n 2, 1), (60, .istore_n 3, 1), (61, .iload_n 3, 1), (62, .aload_n 0, 1), (63, .getfield 7, 3), (66, .sipush 146, 3), (69, .iaload, 1), (70, .if_icmp .ge 20, 3), (73, .aload_n 0, 1), (74, .getfield 7, 3), (77, .sipush 147, 3), (80, .iload_n 3, 1), (81, .iadd, 1), (82, .iconst 0, 1), (83, .iastore, 1), (84, .iinc 3 1, 3), (87, .goto (-26), 3), (90, .aload_n 0, 1), (91, .getfield 7, 3), (94, .sipush 146, 3), (97, .iload_n 2, 1), (98, .iastore, 1), (99, .return_, 1)]
def qa_mX10_forgets : qa_M := (yX10_forgets, cX10_forgets, 4, none, 10, qa_iX10_forgets, 2, 2, 0, 0, [], 1339, 1338, 26)
def qa_iX10_begins : List (Nat × Instr × Nat) := [(0, .aload_n 0, 1), (1, .getfield 7, 3), (4, .sipush 144, 3), (7, .iaload, 1), (8, .iconst (-1), 1), (9, .if_icmp .eq 4, 3), (12, .return_, 1), (13, .aload_n 0, 1), (14, .getfield 7, 3), (17, .sipush 142, 3), (20, .iaload, 1), (21, .iconst (-1), 1), (22, .if_icmp .eq 18, 3), (25, .aload_n 0, 1), (26, .aload_n 0, 1), (27, .getfield 7, 3), (30, .sipush 142, 3), (33, .iaload, 1), (34, .invokevirtual 85, 3), (37, .goto 146, 3), (40, .aload_n 0, 1), (41, .getfield 7, 3), (44, .sipush 146, 3), (47, .iaload, 1), (48, .ifCond .le 25, 3), (51, .aload_n 0, 1), (52, .getfield 7, 3), (55, .sipush 147, 3), (58, .iaload, 1), (59, .istore_n 1, 1), (60, .aload_n 0, 1), (61, .iload_n 1, 1), (62, .invokevirtual 89, 3), (65, .aload_n 0, 1), (66, .iload_n 1, 1), (67, .invokevirtual 85, 3), (70, .goto 113, 3), (73, .iconst (-1), 1), (74, .istore_n 1, 1), (75, .iconst 1, 1), (76, .istore_n 2, 1), (77, .iload_n 2, 1), (78, .aload_n 0, 1), (79, .getfield 7, 3), (82, .sipush 164, 3), (85, .iaload, 1), (86, .if_icmp .gt 65, 3), (89, .aload_n 0, 1), (90, .getfield 7, 3), (93, .bipush 113, 2), (95, .iaload, 1), (96, .ifCond .le 55, 3), (99, .iload_n 1, 1), (100, .iconst (-1), 1), (101, .if_icmp .ne 50, 3), (104, .aload_n 0, 1), (105, .getfield 7, 3), (108, .bipush 114, 2), (110, .aload_n 0, 1), (111, .getfield 7, 3), (114, .sipush 138, 3), (117, .iaload, 1), (118, .iload_n 2, 1), (119, .iadd, 1), (120, .aload_n 0, 1), (121, .getfield 7, 3), (124, .bipush 113, 2), (126, .iaload, 1), (127, .irem, 1), (128, .iadd, 1), (129, .iaload, 1), (130, .istore_n 3, 1), (131, .aload_n 0, 1), (132, .iload_n 3, 1), (133, .invokevirtual 47, 3), (136, .ifCond .eq 7, 3), (139, .iconst (-1), 1), (140, .goto 4, 3), (143, .iload_n 3, 1), (144, .istore_n 1, 1), (145, .iinc 2 1, 3), (148, .goto (-71), 3), (151, .iload_n 1, 1), (152, .iconst (-1), 1), (153, .if_icmp .eq 30, 3), (156, .aload_n 0, 1), (157, .invokevirtual 69, 3), (160, .aload_n 0, 1), (161, .iload_n 1, 1), (162, .iconst 0, 1), (163, .invokevirtual 43, 3), (166, .iadd, 1), (167, .aload_n 0, 1), (168, .getfield 7, 3), (171, .sipush 163, 3), (174, .iaload, 1), (175, .if_icmp .gt 8, 3), (178, .aload_n 0, 1), (179, .iload_n 1, 1), (180, .invokevirtual 85, 3), (183, .return_, 1)]
def qa_mX10_begins : qa_M := (yX10_begins, cX10_begins, 4, none, 10, qa_iX10_begins, 1, 2, 6, 131, [], 1287, 1286, 13)
def qa_iX10_uses : List (Nat × Instr × Nat) := [(0, .aload_n 0, 1), (1, .getfield 7, 3), (4, .sipush 175, 3), (7, .dup2, 1), (8, .iaload, 1), (9, .iconst 1, 1), (10, .iadd, 1), (11, .iastore, 1), (12, .aload_n 0, 1), (13, .iload_n 1, 1), (14, .bipush 6, 2), (16, .aload_n 0, 1), (17, .getfield 7, 3), (20, .sipush 175, 3), (23, .iaload, 1), (24, .invokevirtual 65, 3), (27, .return_, 1)]
def qa_mX10_uses : qa_M := (yX10_uses, cX10_uses, 2, none, 10, qa_iX10_uses, 2, 2, 1, 23, [], 1363, 1362, 30)
def qa_iX10_shows : List (Nat × Instr × Nat) := [(0, .aload_n 0, 1), (1, .getfield 7, 3), (4, .sipush 139, 3), (7, .iaload, 1), (8, .iconst (-1), 1), (9, .if_icmp .eq 60, 3), (12, .aload_n 0, 1), (13, .getfield 7, 3), (16, .sipush 139, 3), (19, .iaload, 1), (20, .iload_n 1, 1), (21, .if_icmp .eq 48, 3), (24, .aload_n 0, 1), (25, .getfield 7, 3), (28, .sipush 141, 3), (31, .aload_n 0, 1), (32, .iload_n 1, 1), (33, .iconst 2, 1), (34, .invokevirtual 43, 3), (37, .iastore, 1), (38, .aload_n 0, 1), (39, .getfield 7, 3), (42, .sipush 140, 3), (45, .aload_n 0, 1), (46, .getfield 7, 3), (49, .sipush 141, 3), (52, .iaload, 1), (53, .ifCond .le 14, 3), (56, .aload_n 0, 1), (57, .getfield 7, 3), (60, .sipush 139, 3), (63, .iaload, 1), (64, .goto 4, 3), (67, .iconst (-1), 1), (68, .iastore, 1), (69, .aload_n 0, 1), (70, .getfield 7, 3), (73, .sipush 139, 3), (76, .iload_n 1, 1), (77, .iastore, 1), (78, .aload_n 0, 1), (79, .getfield 7, 3), (82, .sipush 143, 3), (85, .iconst 0, 1), (86, .iastore, 1), (87, .aload_n 0, 1), (88, .getfield 7, 3), (91, .sipush 142, 3), (94, .iconst (-1), 1), (95, .iastore, 1), (96, .aload_n 0, 1), (97, .iload_n 1, 1), (98, .invokevirtual 92, 3), (101, .aload_n 0, 1), (102, .dup, 1), (103, .getfield 95, 3), (106, .iconst 1, 1), (107, .iadd, 1), (108, .putfield 95, 3), (111, .return_, 1)]
def qa_mX10_shows : qa_M := (yX10_shows, cX10_shows, 2, none, 10, qa_iX10_shows, 2, 2, 2, 44, [], 1359, 1358, 29)
def qa_iX10_goesOn : List (Nat × Instr × Nat) := [(0, .aload_n 0, 1), (1, .getfield 7, 3), (4, .sipush 138, 3), (7, .aload_n 0, 1), (8, .getfield 7, 3), (11, .sipush 138, 3), (14, .iaload, 1), (15, .iconst 1, 1), (16, .iadd, 1), (17, .aload_n 0, 1), (18, .getfield 7, 3), (21, .bipush 113, 2), (23, .iaload, 1), (24, .irem, 1), (25, .iastore, 1), (26, .aload_n 0, 1), (27, .getfield 7, 3), (30, .bipush 114, 2), (32, .aload_n 0, 1), (33, .getfield 7, 3), (36, .sipush 138, 3), (39, .iaload, 1), (40, .iadd, 1), (41, .iaload, 1), (42, .istore_n 1, 1), (43, .aload_n 0, 1), (44, .iload_n 1, 1), (45, .invokevirtual 47, 3), (48, .istore_n 2, 1), (49, .iload_n 2, 1), (50, .ifCond .eq 23, 3), (53, .aload_n 0, 1), (54, .getfield 7, 3), (57, .sipush 169, 3), (60, .dup2, 1), (61, .iaload, 1), (62, .iconst 1, 1), (63, .iadd, 1), (64, .iastore, 1), (65, .aload_n 0, 1), (66, .iload_n 1, 1), (67, .invokevirtual 98, 3), (70, .goto 29, 3), (73, .aload_n 0, 1), (74, .getfield 7, 3), (77, .sipush 170, 3), (80, .dup2, 1), (81, .iaload, 1), (82, .iconst 1, 1), (83, .iadd, 1), (84, .iastore, 1), (85, .aload_n 0, 1), (86, .getfield 7, 3), (89, .sipush 142, 3), (92, .iload_n 1, 1), (93, .iastore, 1), (94, .aload_n 0, 1), (95, .iload_n 1, 1), (96, .invokevirtual 89, 3), (99, .iload_n 2, 1), (100, .ireturn, 1)]
def qa_mX10_goesOn : qa_M := (yX10_goesOn, cX10_goesOn, 3, (some .boolean), 10, qa_iX10_goesOn, 1, 2, 3, 65, [], 1355, 1354, 28)
def qa_iX10_ticks : List (Nat × Instr × Nat) := [(0, .aload_n 0, 1), (1, .getfield 7, 3), (4, .sipush 168, 3), (7, .dup2, 1), (8, .iaload, 1), (9, .iconst 1, 1), (10, .iadd, 1), (11, .iastore, 1), (12, .aload_n 0, 1), (13, .getfield 7, 3), (16, .sipush 174, 3), (19, .dup2, 1), (20, .iaload, 1), (21, .aload_n 0, 1), (22, .getfield 7, 3), (25, .sipush 142, 3), (28, .iaload, 1), (29, .iconst (-1), 1), (30, .if_icmp .eq 7, 3), (33, .iconst 1, 1), (34, .goto 4, 3), (37, .iconst 0, 1), (38, .iadd, 1), (39, .iastore, 1), (40, .aload_n 0, 1), (41, .getfield 7, 3), (44, .sipush 143, 3), (47, .dup2, 1), (48, .iaload, 1), (49, .aload_n 0, 1), (50, .getfield 7, 3), (53, .sipush 139, 3), (56, .iaload, 1), (57, .iconst (-1), 1), (58, .if_icmp .eq 7, 3), (61, .iconst 1, 1), (62, .goto 4, 3), (65, .iconst 0, 1), (66, .iadd, 1), (67, .iastore, 1), (68, .iconst 0, 1), (69, .istore_n 1, 1), (70, .iload_n 1, 1), (71, .aload_n 0, 1), (72, .getfield 7, 3), (75, .iconst 0, 1), (76, .iaload, 1), (77, .if_icmp .ge 36, 3), (80, .aload_n 0, 1), (81, .iload_n 1, 1), (82, .iconst 4, 1), (83, .aload_n 0, 1), (84, .iload_n 1, 1), (85, .iconst 4, 1), (86, .invokevirtual 43, 3), (89, .ifCond .le 14, 3), (92, .aload_n 0, 1), (93, .iload_n 1, 1), (94, .iconst 4, 1), (95, .invokevirtual 43, 3), (98, .iconst 1, 1), (99, .isub, 1), (100, .goto 4, 3), (103, .iconst 0, 1), (104, .invokevirtual 65, 3), (107, .iinc 1 1, 3), (110, .goto (-40), 3), (113, .aload_n 0, 1), (114, .getfield 7, 3), (117, .sipush 141, 3), (120, .dup2, 1), (121, .iaload, 1), (122, .aload_n 0, 1), (123, .getfield 7, 3), (126, .sipush 141, 3), (129, .iaload, 1), (130, .ifCond .le 7, 3), (133, .iconst 1, 1), (134, .goto 4, 3), (137, .iconst 0, 1), (138, .isub, 1), (139, .iastore, 1), (140, .aload_n 0, 1), (141, .getfield 7, 3), (144, .sipush 140, 3), (147, .aload_n 0, 1), (148, .getfield 7, 3), (151, .sipush 141, 3), (154, .iaload, 1), (155, .ifCond .le 14, 3), (158, .aload_n 0, 1), (159, .getfield 7, 3), (162, .sipush 140, 3), (165, .iaload, 1), (166, .goto 4, 3), (169, .iconst (-1), 1), (170, .iastore, 1), (171, .aload_n 0, 1), (172, .getfield 7, 3), (175, .sipush 144, 3), (178, .iaload, 1), (179, .iconst (-1), 1), (180, .if_icmp .eq 73, 3), (183, .aload_n 0, 1), (184, .getfield 7, 3), (187, .sipush 145, 3), (190, .dup2, 1), (191, .iaload, 1), (192, .iconst 1, 1), (193, .isub, 1), (194, .iastore, 1), (195, .aload_n 0, 1), (196, .getfield 7, 3), (199, .sipush 145, 3), (202, .iaload, 1), (203, .ifCond .ne 50, 3), (206, .aload_n 0, 1), (207, .getfield 7, 3), (210, .sipush 144, 3), (213, .iaload, 1), (214, .istore_n 1, 1), (215, .aload_n 0, 1), (216, .getfield 7, 3), (219, .sipush 144, 3), (222, .iconst (-1), 1), (223, .iastore, 1), (224, .aload_n 0, 1), (225, .iload_n 1, 1), (226, .iconst 3, 1), (227, .iconst 1, 1), (228, .invokevirtual 65, 3), (231, .aload_n 0, 1), (232, .iload_n 1, 1), (233, .invokevirtual 92, 3), (236, .aload_n 0, 1), (237, .getfield 7, 3), (240, .sipush 142, 3), (243, .iaload, 1), (244, .iload_n 1, 1), (245, .if_icmp .ne 8, 3), (248, .aload_n 0, 1), (249, .iload_n 1, 1), (250, .invokevirtual 98, 3), (253, .aload_n 0, 1), (254, .getfield 7, 3), (257, .sipush 142, 3), (260, .iaload, 1), (261, .iconst (-1), 1), (262, .if_icmp .ne 60, 3), (265, .aload_n 0, 1), (266, .getfield 7, 3), (269, .sipush 139, 3), (272, .iaload, 1), (273, .iconst (-1), 1), (274, .if_icmp .eq 48, 3), (277, .aload_n 0, 1), (278, .getfield 7, 3), (281, .sipush 167, 3), (284, .iaload, 1), (285, .ifCond .le 37, 3), (288, .aload_n 0, 1), (289, .getfield 7, 3), (292, .sipush 143, 3), (295, .iaload, 1), (296, .aload_n 0, 1), (297, .getfield 7, 3), (300, .sipush 167, 3), (303, .iaload, 1), (304, .if_icmp .lt 18, 3), (307, .aload_n 0, 1), (308, .getfield 7, 3), (311, .bipush 113, 2), (313, .iaload, 1), (314, .ifCond .le 8, 3), (317, .aload_n 0, 1), (318, .invokevirtual 101, 3), (321, .istore_n 1, 1), (322, .aload_n 0, 1), (323, .invokevirtual 105, 3), (326, .return_, 1)]
def qa_mX10_ticks : qa_M := (yX10_ticks, cX10_ticks, 2, none, 10, qa_iX10_ticks, 1, 2, 7, 154, [], 1395, 1394, 35)
def qa_iX10_inserts : List (Nat × Instr × Nat) := [(0, .aload_n 0, 1), (1, .getfield 7, 3), (4, .bipush 113, 2), (6, .iaload, 1), (7, .istore_n 3, 1), (8, .iload_n 3, 1), (9, .iload_n 1, 1), (10, .if_icmp .le 29, 3), (13, .aload_n 0, 1), (14, .getfield 7, 3), (17, .bipush 114, 2), (19, .iload_n 3, 1), (20, .iadd, 1), (21, .aload_n 0, 1), (22, .getfield 7, 3), (25, .bipush 114, 2), (27, .iload_n 3, 1), (28, .iadd, 1), (29, .iconst 1, 1), (30, .isub, 1), (31, .iaload, 1), (32, .iastore, 1), (33, .iinc 3 (-1), 3), (36, .goto (-28), 3), (39, .aload_n 0, 1), (40, .getfield 7, 3), (43, .bipush 114, 2), (45, .iload_n 1, 1), (46, .iadd, 1), (47, .iload_n 2, 1), (48, .iastore, 1), (49, .aload_n 0, 1), (50, .getfield 7, 3), (53, .bipush 113, 2), (55, .dup2, 1), (56, .iaload, 1), (57, .iconst 1, 1), (58, .iadd, 1), (59, .iastore, 1), (60, .aload_n 0, 1), (61, .getfield 7, 3), (64, .sipush 138, 3), (67, .dup2, 1), (68, .iaload, 1), (69, .aload_n 0, 1), (70, .getfield 7, 3), (73, .sipush 138, 3), (76, .iaload, 1), (77, .iconst (-1), 1), (78, .if_icmp .eq 19, 3), (81, .iload_n 1, 1), (82, .aload_n 0, 1), (83, .getfield 7, 3), (86, .sipush 138, 3), (89, .iaload, 1), (90, .if_icmp .gt 7, 3), (93, .iconst 1, 1), (94, .goto 4, 3), (97, .iconst 0, 1), (98, .iadd, 1), (99, .iastore, 1), (100, .aload_n 0, 1), (101, .invokevirtual 105, 3), (104, .aload_n 0, 1), (105, .getfield 7, 3), (108, .bipush 113, 2), (110, .iaload, 1), (111, .ireturn, 1)]
def qa_mX10_inserts : qa_M := (yX10_inserts, cX10_inserts, 4, (some .int), 10, qa_iX10_inserts, 3, 2, 7, 154, [], 1283, 1282, 12)
def qa_iX10_canGoOn : List (Nat × Instr × Nat) := [(0, .aload_n 0, 1), (1, .getfield 7, 3), (4, .bipush 113, 2), (6, .iaload, 1), (7, .ifCond .le 19, 3), (10, .aload_n 0, 1), (11, .getfield 7, 3), (14, .sipush 142, 3), (17, .iaload, 1), (18, .iconst (-1), 1), (19, .if_icmp .ne 7, 3), (22, .iconst 1, 1), (23, .goto 4, 3), (26, .iconst 0, 1), (27, .ireturn, 1)]
def qa_mX10_canGoOn : qa_M := (yX10_canGoOn, cX10_canGoOn, 1, (some .boolean), 10, qa_iX10_canGoOn, 1, 2, 0, 0, [], 1351, 1350, 27)
def qa_iX10_isAsked : List (Nat × Instr × Nat) := [(0, .iload_n 1, 1), (1, .aload_n 0, 1), (2, .getfield 7, 3), (5, .sipush 142, 3), (8, .iaload, 1), (9, .if_icmp .ne 7, 3), (12, .iconst 1, 1), (13, .goto 4, 3), (16, .iconst 0, 1), (17, .istore_n 2, 1), (18, .iconst 0, 1), (19, .istore_n 3, 1), (20, .iload_n 3, 1), (21, .aload_n 0, 1), (22, .getfield 7, 3), (25, .sipush 146, 3), (28, .iaload, 1), (29, .if_icmp .ge 33, 3), (32, .iload_n 2, 1), (33, .ifCond .ne 17, 3), (36, .aload_n 0, 1), (37, .getfield 7, 3), (40, .sipush 147, 3), (43, .iload_n 3, 1), (44, .iadd, 1), (45, .iaload, 1), (46, .iload_n 1, 1), (47, .if_icmp .ne 7, 3), (50, .iconst 1, 1), (51, .goto 4, 3), (54, .iconst 0, 1), (55, .istore_n 2, 1), (56, .iinc 3 1, 3), (59, .goto (-39), 3), (62, .iload_n 2, 1), (63, .ireturn, 1)]
def qa_mX10_isAsked : qa_M := (yX10_isAsked, cX10_isAsked, 4, (some .boolean), 10, qa_iX10_isAsked, 2, 2, 0, 0, [], 1375, 1374, 32)
def qa_iX10_canAsk : List (Nat × Instr × Nat) := [(0, .aload_n 0, 1), (1, .iload_n 1, 1), (2, .invokevirtual 47, 3), (5, .ifCond .ne 27, 3), (8, .aload_n 0, 1), (9, .getfield 7, 3), (12, .sipush 144, 3), (15, .iaload, 1), (16, .iload_n 1, 1), (17, .if_icmp .eq 15, 3), (20, .aload_n 0, 1), (21, .iload_n 1, 1), (22, .invokevirtual 108, 3), (25, .ifCond .ne 7, 3), (28, .iconst 1, 1), (29, .goto 4, 3), (32, .iconst 0, 1), (33, .ireturn, 1)]
def qa_mX10_canAsk : qa_M := (yX10_canAsk, cX10_canAsk, 2, (some .boolean), 10, qa_iX10_canAsk, 2, 2, 2, 43, [], 1371, 1370, 31)
def qa_iX10_asks : List (Nat × Instr × Nat) := [(0, .aload_n 0, 1), (1, .getfield 7, 3), (4, .sipush 147, 3), (7, .aload_n 0, 1), (8, .getfield 7, 3), (11, .sipush 146, 3), (14, .iaload, 1), (15, .iadd, 1), (16, .iload_n 1, 1), (17, .iastore, 1), (18, .aload_n 0, 1), (19, .getfield 7, 3), (22, .sipush 146, 3), (25, .dup2, 1), (26, .iaload, 1), (27, .iconst 1, 1), (28, .iadd, 1), (29, .iastore, 1), (30, .aload_n 0, 1), (31, .invokevirtual 105, 3), (34, .aload_n 0, 1), (35, .getfield 7, 3), (38, .sipush 146, 3), (41, .iaload, 1), (42, .ireturn, 1)]
def qa_mX10_asks : qa_M := (yX10_asks, cX10_asks, 2, (some .int), 10, qa_iX10_asks, 2, 2, 7, 154, [], 1379, 1378, 33)
def qa_iX10_passes : List (Nat × Instr × Nat) := [(0, .aload_n 0, 1), (1, .iconst 0, 1), (2, .putfield 95, 3), (5, .iconst 0, 1), (6, .istore_n 2, 1), (7, .iload_n 2, 1), (8, .iload_n 1, 1), (9, .if_icmp .ge 13, 3), (12, .aload_n 0, 1), (13, .invokevirtual 111, 3), (16, .iinc 2 1, 3), (19, .goto (-12), 3), (22, .aload_n 0, 1), (23, .getfield 95, 3), (26, .ireturn, 1)]
def qa_mX10_passes : qa_M := (yX10_passes, cX10_passes, 3, (some .int), 10, qa_iX10_passes, 2, 2, 8, 175, [], 1391, 1390, 34)
def qa_iX10_addSlide : List (Nat × Instr × Nat) := [(0, .aload_n 0, 1), (1, .iconst 0, 1), (2, .putfield 32, 3), (5, .iload_n 1, 1), (6, .iconst 1, 1), (7, .bipush 50, 2), (9, .invokestatic 39, 3), (12, .ifCond .eq 23, 3), (15, .iload_n 2, 1), (16, .iconst 1, 1), (17, .bipush 20, 2), (19, .invokestatic 39, 3), (22, .ifCond .eq 13, 3), (25, .iload_n 3, 1), (26, .iconst 0, 1), (27, .bipush 10, 2), (29, .invokestatic 39, 3), (32, .ifCond .ne 9, 3), (35, .aload_n 0, 1), (36, .iconst 1, 1), (37, .invokevirtual 114, 3), (40, .ireturn, 1), (41, .aload_n 0, 1), (42, .getfield 7, 3), (45, .iconst 0, 1), (46, .iaload, 1), (47, .bipush 16, 2), (49, .if_icmp .ne 9, 3), (52, .aload_n 0, 1), (53, .iconst 2, 1), (54, .invokevirtual 114, 3), (57, .ireturn, 1), (58, .aload_n 0, 1), (59, .invokevirtual 117, 3), (62, .aload_n 0, 1), (63, .getfield 7, 3), (66, .iconst 0, 1), (67, .iaload, 1), (68, .istore 4, 2), (70, .aload_n 0, 1), (71, .getfield 7, 3), (74, .iconst 0, 1), (75, .dup2, 1), (76, .iaload, 1), (77, .iconst 1, 1), (78, .iadd, 1), (79, .iastore, 1), (80, .aload_n 0, 1), (81, .iload 4, 2), (83, .iconst 0, 1), (84, .iload_n 1, 1), (85, .invokevirtual 65, 3), (88, .aload_n 0, 1), (89, .iload 4, 2), (91, .iconst 1, 1), (92, .iload_n 2, 1), (93, .invokevirtual 65, 3), (96, .aload_n 0, 1), (97, .iload 4, 2), (99, .iconst 2, 1), (100, .iload_n 3, 1), (101, .invokevirtual 65, 3), (104, .iload 4, 2), (106, .ireturn, 1)]
def qa_mX10_addSlide : qa_M := (yX10_addSlide, cX10_addSlide, 5, (some .int), 10, qa_iX10_addSlide, 4, 2, 1, 23, [], 1256, 1254, 1255)
def qa_iX10_insert : List (Nat × Instr × Nat) := [(0, .aload_n 0, 1), (1, .iload_n 2, 1), (2, .invokevirtual 120, 3), (5, .ifCond .eq 18, 3), (8, .iload_n 1, 1), (9, .iconst 0, 1), (10, .aload_n 0, 1), (11, .getfield 7, 3), (14, .bipush 113, 2), (16, .iaload, 1), (17, .invokestatic 39, 3), (20, .ifCond .ne 9, 3), (23, .aload_n 0, 1), (24, .iconst 1, 1), (25, .invokevirtual 114, 3), (28, .ireturn, 1), (29, .aload_n 0, 1), (30, .getfield 7, 3), (33, .bipush 113, 2), (35, .iaload, 1), (36, .bipush 24, 2), (38, .if_icmp .ne 9, 3), (41, .aload_n 0, 1), (42, .iconst 2, 1), (43, .invokevirtual 114, 3), (46, .ireturn, 1), (47, .aload_n 0, 1), (48, .invokevirtual 117, 3), (51, .aload_n 0, 1), (52, .iload_n 1, 1), (53, .iload_n 2, 1), (54, .invokevirtual 123, 3), (57, .ireturn, 1)]
def qa_mX10_insert : qa_M := (yX10_insert, cX10_insert, 3, (some .int), 10, qa_iX10_insert, 3, 2, 8, 177, [], 1275, 1273, 1274)
def qa_iX10_takeOut : List (Nat × Instr × Nat) := [(0, .aload_n 0, 1), (1, .iconst 0, 1), (2, .putfield 32, 3), (5, .iload_n 1, 1), (6, .iconst 0, 1), (7, .aload_n 0, 1), (8, .getfield 7, 3), (11, .bipush 113, 2), (13, .iaload, 1), (14, .iconst 1, 1), (15, .isub, 1), (16, .invokestatic 39, 3), (19, .ifCond .ne 9, 3), (22, .aload_n 0, 1), (23, .iconst 1, 1), (24, .invokevirtual 114, 3), (27, .ireturn, 1), (28, .aload_n 0, 1), (29, .invokevirtual 117, 3), (32, .aload_n 0, 1), (33, .getfield 7, 3), (36, .bipush 114, 2), (38, .iload_n 1, 1), (39, .iadd, 1), (40, .iaload, 1), (41, .istore_n 2, 1), (42, .aload_n 0, 1), (43, .getfield 7, 3), (46, .bipush 113, 2), (48, .dup2, 1), (49, .iaload, 1), (50, .iconst 1, 1), (51, .isub, 1), (52, .iastore, 1), (53, .iload_n 1, 1), (54, .istore_n 3, 1), (55, .iload_n 3, 1), (56, .aload_n 0, 1), (57, .getfield 7, 3), (60, .bipush 113, 2), (62, .iaload, 1), (63, .if_icmp .ge 29, 3), (66, .aload_n 0, 1), (67, .getfield 7, 3), (70, .bipush 114, 2), (72, .iload_n 3, 1), (73, .iadd, 1), (74, .aload_n 0, 1), (75, .getfield 7, 3), (78, .bipush 114, 2), (80, .iload_n 3, 1), (81, .iadd, 1), (82, .iconst 1, 1), (83, .iadd, 1), (84, .iaload, 1), (85, .iastore, 1), (86, .iinc 3 1, 3), (89, .goto (-34), 3), (92, .aload_n 0, 1), (93, .getfield 7, 3), (96, .bipush 114, 2), (98, .aload_n 0, 1), (99, .getfield 7, 3), (102, .bipush 113, 2), (104, .iaload, 1), (105, .iadd, 1), (106, .iconst 0, 1), (107, .iastore, 1), (108, .aload_n 0, 1), (109, .getfield 7, 3), (112, .sipush 138, 3), (115, .dup2, 1), (116, .iaload, 1), (117, .aload_n 0, 1), (118, .getfield 7, 3), (121, .sipush 138, 3), (124, .iaload, 1), (125, .iconst (-1), 1), (126, .if_icmp .eq 19, 3), (129, .iload_n 1, 1), (130, .aload_n 0, 1), (131, .getfield 7, 3), (134, .sipush 138, 3), (137, .iaload, 1), (138, .if_icmp .gt 7, 3), (141, .iconst 1, 1), (142, .goto 4, 3), (145, .iconst 0, 1), (146, .isub, 1), (147, .iastore, 1), (148, .aload_n 0, 1), (149, .invokevirtual 105, 3), (152, .iload_n 2, 1), (153, .ireturn, 1)]
def qa_mX10_takeOut : qa_M := (yX10_takeOut, cX10_takeOut, 4, (some .int), 10, qa_iX10_takeOut, 2, 2, 7, 154, [], 1343, 1341, 1342)
def qa_iX10_goOn : List (Nat × Instr × Nat) := [(0, .aload_n 0, 1), (1, .aload_n 0, 1), (2, .invokevirtual 126, 3), (5, .ifCond .eq 7, 3), (8, .iconst 0, 1), (9, .goto 4, 3), (12, .iconst 1, 1), (13, .putfield 32, 3), (16, .aload_n 0, 1), (17, .getfield 32, 3), (20, .ifCond .le 5, 3), (23, .iconst 0, 1), (24, .ireturn, 1), (25, .aload_n 0, 1), (26, .invokevirtual 117, 3), (29, .aload_n 0, 1), (30, .invokevirtual 101, 3), (33, .istore_n 1, 1), (34, .aload_n 0, 1), (35, .invokevirtual 105, 3), (38, .iload_n 1, 1), (39, .ireturn, 1)]
def qa_mX10_goOn : qa_M := (yX10_goOn, cX10_goOn, 2, (some .boolean), 10, qa_iX10_goOn, 1, 2, 7, 154, [], 1347, 1345, 1346)
def qa_iX10_ask : List (Nat × Instr × Nat) := [(0, .aload_n 0, 1), (1, .iload_n 1, 1), (2, .invokevirtual 120, 3), (5, .ifCond .ne 5, 3), (8, .iconst 0, 1), (9, .ireturn, 1), (10, .aload_n 0, 1), (11, .iload_n 1, 1), (12, .invokevirtual 129, 3), (15, .ifCond .ne 9, 3), (18, .aload_n 0, 1), (19, .iconst 2, 1), (20, .invokevirtual 114, 3), (23, .ireturn, 1), (24, .aload_n 0, 1), (25, .invokevirtual 117, 3), (28, .aload_n 0, 1), (29, .iload_n 1, 1), (30, .invokevirtual 132, 3), (33, .ireturn, 1)]
def qa_mX10_ask : qa_M := (yX10_ask, cX10_ask, 2, (some .int), 10, qa_iX10_ask, 2, 2, 8, 175, [], 1367, 1365, 1366)
def qa_iX10_burn : List (Nat × Instr × Nat) := [(0, .aload_n 0, 1), (1, .iload_n 1, 1), (2, .invokevirtual 120, 3), (5, .ifCond .ne 5, 3), (8, .iconst 0, 1), (9, .ireturn, 1), (10, .aload_n 0, 1), (11, .iload_n 1, 1), (12, .invokevirtual 58, 3), (15, .ifCond .ne 9, 3), (18, .aload_n 0, 1), (19, .iconst 2, 1), (20, .invokevirtual 114, 3), (23, .ireturn, 1), (24, .aload_n 0, 1), (25, .invokevirtual 117, 3), (28, .aload_n 0, 1), (29, .iload_n 1, 1), (30, .invokevirtual 76, 3), (33, .istore_n 2, 1), (34, .aload_n 0, 1), (35, .invokevirtual 105, 3), (38, .iload_n 2, 1), (39, .ireturn, 1)]
def qa_mX10_burn : qa_M := (yX10_burn, cX10_burn, 3, (some .int), 10, qa_iX10_burn, 2, 2, 7, 154, [], 1383, 1381, 1382)
def qa_iX10_tick : List (Nat × Instr × Nat) := [(0, .aload_n 0, 1), (1, .iconst 0, 1), (2, .putfield 32, 3), (5, .iload_n 1, 1), (6, .iconst 1, 1), (7, .bipush 100, 2), (9, .invokestatic 39, 3), (12, .ifCond .ne 9, 3), (15, .aload_n 0, 1), (16, .iconst 1, 1), (17, .invokevirtual 114, 3), (20, .ireturn, 1), (21, .aload_n 0, 1), (22, .invokevirtual 117, 3), (25, .aload_n 0, 1), (26, .iload_n 1, 1), (27, .invokevirtual 135, 3), (30, .ireturn, 1)]
def qa_mX10_tick : qa_M := (yX10_tick, cX10_tick, 2, (some .int), 10, qa_iX10_tick, 2, 2, 9, 197, [], 1387, 1385, 1386)
def qa_iX10_changes : List (Nat × Instr × Nat) := [(0, .aload_n 0, 1), (1, .iconst 0, 1), (2, .putfield 32, 3), (5, .iload_n 2, 1), (6, .iload_n 3, 1), (7, .iload 4, 2), (9, .invokestatic 39, 3), (12, .ifCond .ne 9, 3), (15, .aload_n 0, 1), (16, .iconst 1, 1), (17, .invokevirtual 114, 3), (20, .ireturn, 1), (21, .aload_n 0, 1), (22, .invokevirtual 117, 3), (25, .aload_n 0, 1), (26, .getfield 7, 3), (29, .iload_n 1, 1), (30, .iaload, 1), (31, .istore 5, 2), (33, .aload_n 0, 1), (34, .getfield 7, 3), (37, .iload_n 1, 1), (38, .iload_n 2, 1), (39, .iastore, 1), (40, .aload_n 0, 1), (41, .iconst 0, 1), (42, .invokevirtual 79, 3), (45, .istore 6, 2), (47, .aload_n 0, 1), (48, .invokevirtual 105, 3), (51, .iload 5, 2), (53, .ireturn, 1)]
def qa_mX10_changes : qa_M := (yX10_changes, cX10_changes, 7, (some .int), 10, qa_iX10_changes, 5, 2, 7, 154, [], 1403, 1402, 36)
def qa_iX10_changeMemory : List (Nat × Instr × Nat) := [(0, .aload_n 0, 1), (1, .sipush 163, 3), (4, .iload_n 1, 1), (5, .sipush 150, 3), (8, .sipush 400, 3), (11, .invokevirtual 138, 3), (14, .ireturn, 1)]
def qa_mX10_changeMemory : qa_M := (yX10_changeMemory, cX10_changeMemory, 2, (some .int), 10, qa_iX10_changeMemory, 2, 2, 8, 180, [], 1399, 1397, 1398)
def qa_iX10_changeAhead : List (Nat × Instr × Nat) := [(0, .aload_n 0, 1), (1, .sipush 164, 3), (4, .iload_n 1, 1), (5, .iconst 0, 1), (6, .iconst 4, 1), (7, .invokevirtual 138, 3), (10, .ireturn, 1)]
def qa_mX10_changeAhead : qa_M := (yX10_changeAhead, cX10_changeAhead, 2, (some .int), 10, qa_iX10_changeAhead, 2, 2, 8, 180, [], 1407, 1405, 1406)
def qa_iX10_changeOrder : List (Nat × Instr × Nat) := [(0, .aload_n 0, 1), (1, .sipush 165, 3), (4, .iload_n 1, 1), (5, .iconst 0, 1), (6, .iconst 2, 1), (7, .invokevirtual 138, 3), (10, .ireturn, 1)]
def qa_mX10_changeOrder : qa_M := (yX10_changeOrder, cX10_changeOrder, 2, (some .int), 10, qa_iX10_changeOrder, 2, 2, 8, 180, [], 1411, 1409, 1410)
def qa_iX10_changeGlow : List (Nat × Instr × Nat) := [(0, .aload_n 0, 1), (1, .sipush 166, 3), (4, .iload_n 1, 1), (5, .iconst 0, 1), (6, .bipush 20, 2), (8, .invokevirtual 138, 3), (11, .ireturn, 1)]
def qa_mX10_changeGlow : qa_M := (yX10_changeGlow, cX10_changeGlow, 2, (some .int), 10, qa_iX10_changeGlow, 2, 2, 8, 180, [], 1415, 1413, 1414)
def qa_iX10_changePace : List (Nat × Instr × Nat) := [(0, .aload_n 0, 1), (1, .sipush 167, 3), (4, .iload_n 1, 1), (5, .iconst 0, 1), (6, .bipush 50, 2), (8, .invokevirtual 138, 3), (11, .ireturn, 1)]
def qa_mX10_changePace : qa_M := (yX10_changePace, cX10_changePace, 2, (some .int), 10, qa_iX10_changePace, 2, 2, 8, 180, [], 1419, 1417, 1418)
def qa_iX10_append : List (Nat × Instr × Nat) := [(0, .aload_n 0, 1), (1, .iconst 0, 1), (2, .putfield 32, 3), (5, .iload_n 1, 1), (6, .bipush 33, 2), (8, .bipush 126, 2), (10, .invokestatic 39, 3), (13, .ifCond .ne 9, 3), (16, .aload_n 0, 1), (17, .iconst 1, 1), (18, .invokevirtual 114, 3), (21, .ireturn, 1), (22, .aload_n 0, 1), (23, .getfield 142, 3), (26, .bipush 60, 2), (28, .if_icmp .ne 9, 3), (31, .aload_n 0, 1), (32, .iconst 2, 1), (33, .invokevirtual 114, 3), (36, .ireturn, 1), (37, .aload_n 0, 1), (38, .getfield 29, 3), (41, .aload_n 0, 1), (42, .getfield 142, 3), (45, .iload_n 1, 1), (46, .iastore, 1), (47, .aload_n 0, 1), (48, .dup, 1), (49, .getfield 142, 3), (52, .iconst 1, 1), (53, .iadd, 1), (54, .putfield 142, 3), (57, .aload_n 0, 1), (58, .getfield 142, 3), (61, .ireturn, 1)]
def qa_mX10_append : qa_M := (yX10_append, cX10_append, 2, (some .int), 10, qa_iX10_append, 2, 2, 1, 22, [], 1423, 1421, 1422)
def qa_iX10_clearBuffer : List (Nat × Instr × Nat) := [(0, .aload_n 0, 1), (1, .iconst 0, 1), (2, .putfield 32, 3), (5, .aload_n 0, 1), (6, .getfield 142, 3), (9, .istore_n 1, 1), (10, .aload_n 0, 1), (11, .iconst 0, 1), (12, .putfield 142, 3), (15, .iload_n 1, 1), (16, .ireturn, 1)]
def qa_mX10_clearBuffer : qa_M := (yX10_clearBuffer, cX10_clearBuffer, 2, (some .int), 10, qa_iX10_clearBuffer, 1, 2, 0, 0, [], 1427, 1425, 1426)
def qa_iX10_sign : List (Nat × Instr × Nat) := [(0, .aload_n 0, 1), (1, .getfield 145, 3), (4, .aload_n 0, 1), (5, .getfield 142, 3), (8, .if_icmp .ge 22, 3), (11, .aload_n 0, 1), (12, .getfield 148, 3), (15, .ifCond .ne 15, 3), (18, .aload_n 0, 1), (19, .getfield 29, 3), (22, .aload_n 0, 1), (23, .getfield 145, 3), (26, .iaload, 1), (27, .goto 4, 3), (30, .iconst 0, 1), (31, .istore_n 3, 1), (32, .aload_n 0, 1), (33, .aload_n 0, 1), (34, .getfield 148, 3), (37, .ifCond .ne 12, 3), (40, .iload_n 3, 1), (41, .iload_n 1, 1), (42, .iload_n 2, 1), (43, .invokestatic 39, 3), (46, .ifCond .ne 7, 3), (49, .iconst 1, 1), (50, .goto 4, 3), (53, .iconst 0, 1), (54, .putfield 148, 3), (57, .aload_n 0, 1), (58, .dup, 1), (59, .getfield 145, 3), (62, .aload_n 0, 1), (63, .getfield 148, 3), (66, .ifCond .eq 7, 3), (69, .iconst 0, 1), (70, .goto 4, 3), (73, .iconst 1, 1), (74, .iadd, 1), (75, .putfield 145, 3), (78, .iload_n 3, 1), (79, .ireturn, 1)]
def qa_mX10_sign : qa_M := (yX10_sign, cX10_sign, 4, (some .int), 10, qa_iX10_sign, 3, 2, 1, 22, [], 1447, 1446, 40)
def qa_iX10_number : List (Nat × Instr × Nat) := [(0, .aload_n 0, 1), (1, .bipush 48, 2), (3, .iload_n 1, 1), (4, .iadd, 1), (5, .bipush 57, 2), (7, .invokevirtual 152, 3), (10, .bipush 48, 2), (12, .isub, 1), (13, .istore_n 3, 1), (14, .aload_n 0, 1), (15, .getfield 148, 3), (18, .ifCond .ne 78, 3), (21, .iload_n 3, 1), (22, .ifCond .le 74, 3), (25, .aload_n 0, 1), (26, .getfield 145, 3), (29, .aload_n 0, 1), (30, .getfield 142, 3), (33, .if_icmp .ge 63, 3), (36, .aload_n 0, 1), (37, .getfield 29, 3), (40, .aload_n 0, 1), (41, .getfield 145, 3), (44, .iaload, 1), (45, .bipush 48, 2), (47, .bipush 57, 2), (49, .invokestatic 39, 3), (52, .ifCond .eq 44, 3), (55, .bipush 10, 2), (57, .iload_n 3, 1), (58, .imul, 1), (59, .aload_n 0, 1), (60, .getfield 29, 3), (63, .aload_n 0, 1), (64, .getfield 145, 3), (67, .iaload, 1), (68, .iadd, 1), (69, .bipush 48, 2), (71, .isub, 1), (72, .iload_n 2, 1), (73, .if_icmp .gt 23, 3), (76, .bipush 10, 2), (78, .iload_n 3, 1), (79, .imul, 1), (80, .aload_n 0, 1), (81, .bipush 48, 2), (83, .bipush 57, 2), (85, .invokevirtual 152, 3), (88, .iadd, 1), (89, .bipush 48, 2), (91, .isub, 1), (92, .istore_n 3, 1), (93, .goto (-79), 3), (96, .iload_n 3, 1), (97, .ireturn, 1)]
def qa_mX10_number : qa_M := (yX10_number, cX10_number, 4, (some .int), 10, qa_iX10_number, 3, 2, 2, 45, [], 1443, 1442, 39)
def qa_iX10_isOrdered : List (Nat × Instr × Nat) := [(0, .aload_n 0, 1), (1, .getfield 145, 3), (4, .aload_n 0, 1), (5, .getfield 142, 3), (8, .if_icmp .ge 22, 3), (11, .aload_n 0, 1), (12, .getfield 148, 3), (15, .ifCond .ne 15, 3), (18, .aload_n 0, 1), (19, .getfield 29, 3), (22, .aload_n 0, 1), (23, .getfield 145, 3), (26, .iaload, 1), (27, .goto 4, 3), (30, .iconst 0, 1), (31, .istore_n 2, 1), (32, .iload_n 2, 1), (33, .bipush 97, 2), (35, .if_icmp .eq 15, 3), (38, .iload_n 2, 1), (39, .bipush 98, 2), (41, .if_icmp .eq 9, 3), (44, .iload_n 2, 1), (45, .bipush 112, 2), (47, .if_icmp .ne 7, 3), (50, .iconst 1, 1), (51, .goto 4, 3), (54, .iconst 0, 1), (55, .istore_n 3, 1), (56, .aload_n 0, 1), (57, .aload_n 0, 1), (58, .getfield 148, 3), (61, .ifCond .ne 19, 3), (64, .iload_n 3, 1), (65, .ifCond .ne 19, 3), (68, .iload_n 2, 1), (69, .bipush 110, 2), (71, .if_icmp .eq 13, 3), (74, .iload_n 2, 1), (75, .bipush 116, 2), (77, .if_icmp .eq 7, 3), (80, .iconst 1, 1), (81, .goto 4, 3), (84, .iconst 0, 1), (85, .putfield 148, 3), (88, .aload_n 0, 1), (89, .dup, 1), (90, .getfield 145, 3), (93, .aload_n 0, 1), (94, .getfield 148, 3), (97, .ifCond .eq 7, 3), (100, .iconst 0, 1), (101, .goto 4, 3), (104, .iconst 1, 1), (105, .iadd, 1), (106, .putfield 145, 3), (109, .iload_n 3, 1), (110, .ifCond .eq 13, 3), (113, .aload_n 0, 1), (114, .iconst 0, 1), (115, .bipush 15, 2), (117, .invokevirtual 155, 3), (120, .goto 20, 3), (123, .iload_n 2, 1), (124, .bipush 116, 2), (126, .if_icmp .ne 13, 3), (129, .aload_n 0, 1), (130, .iconst 1, 1), (131, .bipush 100, 2), (133, .invokevirtual 155, 3), (136, .goto 4, 3), (139, .iconst 0, 1), (140, .istore 4, 2), (142, .iload_n 1, 1), (143, .ifCond .eq 13, 3), (146, .aload_n 0, 1), (147, .iload_n 2, 1), (148, .iload 4, 2), (150, .invokevirtual 158, 3), (153, .ifCond .eq 7, 3), (156, .iconst 1, 1), (157, .goto 4, 3), (160, .iconst 0, 1), (161, .ireturn, 1)]
def qa_mX10_isOrdered : qa_M := (yX10_isOrdered, cX10_isOrdered, 5, (some .boolean), 10, qa_iX10_isOrdered, 2, 2, 10, 222, [], 1439, 1438, 38)
def qa_iX10_isFollowed : List (Nat × Instr × Nat) := [(0, .iload_n 1, 1), (1, .bipush 116, 2), (3, .if_icmp .eq 29, 3), (6, .iload_n 1, 1), (7, .bipush 110, 2), (9, .if_icmp .ne 13, 3), (12, .aload_n 0, 1), (13, .invokevirtual 126, 3), (16, .ifCond .eq 20, 3), (19, .goto 13, 3), (22, .iload_n 2, 1), (23, .aload_n 0, 1), (24, .getfield 7, 3), (27, .iconst 0, 1), (28, .iaload, 1), (29, .if_icmp .ge 7, 3), (32, .iconst 1, 1), (33, .goto 4, 3), (36, .iconst 0, 1), (37, .istore_n 3, 1), (38, .iload_n 3, 1), (39, .ifCond .eq 53, 3), (42, .iload_n 1, 1), (43, .bipush 97, 2), (45, .if_icmp .ne 11, 3), (48, .aload_n 0, 1), (49, .iload_n 2, 1), (50, .invokevirtual 129, 3), (53, .ifCond .eq 39, 3), (56, .iload_n 1, 1), (57, .bipush 98, 2), (59, .if_icmp .ne 11, 3), (62, .aload_n 0, 1), (63, .iload_n 2, 1), (64, .invokevirtual 58, 3), (67, .ifCond .eq 25, 3), (70, .iload_n 1, 1), (71, .bipush 112, 2), (73, .if_icmp .ne 15, 3), (76, .aload_n 0, 1), (77, .getfield 7, 3), (80, .bipush 113, 2), (82, .iaload, 1), (83, .bipush 24, 2), (85, .if_icmp .ge 7, 3), (88, .iconst 1, 1), (89, .goto 4, 3), (92, .iconst 0, 1), (93, .istore_n 3, 1), (94, .iload_n 3, 1), (95, .ifCond .eq 93, 3), (98, .iload_n 1, 1), (99, .bipush 110, 2), (101, .if_icmp .ne 14, 3), (104, .aload_n 0, 1), (105, .invokevirtual 101, 3), (108, .ifCond .eq 7, 3), (111, .iconst 1, 1), (112, .goto 4, 3), (115, .iconst 0, 1), (116, .istore 4, 2), (118, .iload_n 1, 1), (119, .bipush 97, 2), (121, .if_icmp .ne 11, 3), (124, .aload_n 0, 1), (125, .iload_n 2, 1), (126, .invokevirtual 132, 3), (129, .goto 53, 3), (132, .iload_n 1, 1), (133, .bipush 98, 2), (135, .if_icmp .ne 11, 3), (138, .aload_n 0, 1), (139, .iload_n 2, 1), (140, .invokevirtual 76, 3), (143, .goto 39, 3), (146, .iload_n 1, 1), (147, .bipush 112, 2), (149, .if_icmp .ne 18, 3), (152, .aload_n 0, 1), (153, .aload_n 0, 1), (154, .getfield 7, 3), (157, .bipush 113, 2), (159, .iaload, 1), (160, .iload_n 2, 1), (161, .invokevirtual 123, 3), (164, .goto 18, 3), (167, .iload_n 1, 1), (168, .bipush 116, 2), (170, .if_icmp .ne 11, 3), (173, .aload_n 0, 1), (174, .iload_n 2, 1), (175, .invokevirtual 135, 3), (178, .goto 4, 3), (181, .iconst 0, 1), (182, .istore 5, 2), (184, .aload_n 0, 1), (185, .invokevirtual 105, 3), (188, .iload_n 3, 1), (189, .ireturn, 1)]
def qa_mX10_isFollowed : qa_M := (yX10_isFollowed, cX10_isFollowed, 6, (some .boolean), 10, qa_iX10_isFollowed, 3, 2, 9, 197, [], 1451, 1450, 41)
def qa_iX10_go : List (Nat × Instr × Nat) := [(0, .aload_n 0, 1), (1, .iconst 0, 1), (2, .putfield 145, 3), (5, .aload_n 0, 1), (6, .iconst 0, 1), (7, .putfield 148, 3), (10, .aload_n 0, 1), (11, .iconst 0, 1), (12, .putfield 161, 3), (15, .iconst 1, 1), (16, .istore_n 2, 1), (17, .iload_n 2, 1), (18, .ifCond .eq 76, 3), (21, .aload_n 0, 1), (22, .iload_n 1, 1), (23, .invokevirtual 164, 3), (26, .ifCond .ne 5, 3), (29, .iconst 0, 1), (30, .ireturn, 1), (31, .aload_n 0, 1), (32, .dup, 1), (33, .getfield 161, 3), (36, .iconst 1, 1), (37, .iadd, 1), (38, .putfield 161, 3), (41, .aload_n 0, 1), (42, .getfield 148, 3), (45, .ifCond .ne 18, 3), (48, .aload_n 0, 1), (49, .getfield 145, 3), (52, .aload_n 0, 1), (53, .getfield 142, 3), (56, .if_icmp .ge 7, 3), (59, .iconst 1, 1), (60, .goto 4, 3), (63, .iconst 0, 1), (64, .istore_n 2, 1), (65, .iload_n 2, 1), (66, .ifCond .eq (-49), 3), (69, .aload_n 0, 1), (70, .bipush 59, 2), (72, .bipush 59, 2), (74, .invokevirtual 152, 3), (77, .istore_n 3, 1), (78, .aload_n 0, 1), (79, .getfield 148, 3), (82, .ifCond .ne 7, 3), (85, .iconst 1, 1), (86, .goto 4, 3), (89, .iconst 0, 1), (90, .istore_n 2, 1), (91, .goto (-74), 3), (94, .iconst 1, 1), (95, .ireturn, 1)]
def qa_mX10_go : qa_M := (yX10_go, cX10_go, 4, (some .boolean), 10, qa_iX10_go, 2, 2, 11, 246, [], 1435, 1434, 37)
def qa_iX10_firstError : List (Nat × Instr × Nat) := [(0, .aload_n 0, 1), (1, .iconst 0, 1), (2, .putfield 32, 3), (5, .aload_n 0, 1), (6, .iconst 0, 1), (7, .invokevirtual 168, 3), (10, .istore_n 1, 1), (11, .aload_n 0, 1), (12, .getfield 148, 3), (15, .ifCond .eq 10, 3), (18, .aload_n 0, 1), (19, .getfield 145, 3), (22, .goto 7, 3), (25, .aload_n 0, 1), (26, .getfield 142, 3), (29, .ireturn, 1)]
def qa_mX10_firstError : qa_M := (yX10_firstError, cX10_firstError, 2, (some .int), 10, qa_iX10_firstError, 1, 2, 12, 269, [], 1431, 1429, 1430)
def qa_iX10_keepsAside : List (Nat × Instr × Nat) := [(0, .iconst 0, 1), (1, .istore_n 1, 1), (2, .iload_n 1, 1), (3, .sipush 176, 3), (6, .if_icmp .ge 21, 3), (9, .aload_n 0, 1), (10, .getfield 23, 3), (13, .iload_n 1, 1), (14, .aload_n 0, 1), (15, .getfield 7, 3), (18, .iload_n 1, 1), (19, .iaload, 1), (20, .iastore, 1), (21, .iinc 1 1, 3), (24, .goto (-22), 3), (27, .return_, 1)]
def qa_mX10_keepsAside : qa_M := (yX10_keepsAside, cX10_keepsAside, 2, none, 10, qa_iX10_keepsAside, 1, 2, 0, 0, [], 1459, 1458, 42)
def qa_iX10_putsBack : List (Nat × Instr × Nat) := [(0, .iconst 0, 1), (1, .istore_n 1, 1), (2, .iload_n 1, 1), (3, .sipush 176, 3), (6, .if_icmp .ge 21, 3), (9, .aload_n 0, 1), (10, .getfield 7, 3), (13, .iload_n 1, 1), (14, .aload_n 0, 1), (15, .getfield 23, 3), (18, .iload_n 1, 1), (19, .iaload, 1), (20, .iastore, 1), (21, .iinc 1 1, 3), (24, .goto (-22), 3), (27, .return_, 1)]
def qa_mX10_putsBack : qa_M := (yX10_putsBack, cX10_putsBack, 2, none, 10, qa_iX10_putsBack, 1, 2, 0, 0, [], 1463, 1462, 43)
def qa_iX10_follow : List (Nat × Instr × Nat) := [(0, .aload_n 0, 1), (1, .iconst 0, 1), (2, .putfield 32, 3), (5, .aload_n 0, 1), (6, .iconst 0, 1), (7, .invokevirtual 168, 3), (10, .istore_n 1, 1), (11, .aload_n 0, 1), (12, .getfield 148, 3), (15, .ifCond .eq 9, 3), (18, .aload_n 0, 1), (19, .iconst 1, 1), (20, .invokevirtual 114, 3), (23, .ireturn, 1), (24, .aload_n 0, 1), (25, .invokevirtual 171, 3), (28, .aload_n 0, 1), (29, .iconst 1, 1), (30, .invokevirtual 168, 3), (33, .istore_n 1, 1), (34, .aload_n 0, 1), (35, .invokevirtual 174, 3), (38, .iload_n 1, 1), (39, .ifCond .ne 9, 3), (42, .aload_n 0, 1), (43, .iconst 2, 1), (44, .invokevirtual 114, 3), (47, .ireturn, 1), (48, .aload_n 0, 1), (49, .invokevirtual 117, 3), (52, .aload_n 0, 1), (53, .iconst 1, 1), (54, .invokevirtual 168, 3), (57, .istore_n 1, 1), (58, .aload_n 0, 1), (59, .iconst 0, 1), (60, .putfield 142, 3), (63, .aload_n 0, 1), (64, .getfield 161, 3), (67, .ireturn, 1)]
def qa_mX10_follow : qa_M := (yX10_follow, cX10_follow, 2, (some .int), 10, qa_iX10_follow, 1, 2, 12, 269, [], 1455, 1453, 1454)
def qa_iX10_keep : List (Nat × Instr × Nat) := [(0, .aload_n 0, 1), (1, .iload_n 1, 1), (2, .iconst 0, 1), (3, .iconst 1, 1), (4, .invokestatic 39, 3), (7, .ifCond .eq 7, 3), (10, .iconst 0, 1), (11, .goto 4, 3), (14, .iconst 1, 1), (15, .putfield 32, 3), (18, .iconst 0, 1), (19, .istore_n 2, 1), (20, .iload_n 2, 1), (21, .sipush 176, 3), (24, .if_icmp .ge 34, 3), (27, .aload_n 0, 1), (28, .getfield 32, 3), (31, .ifCond .ne 27, 3), (34, .aload_n 0, 1), (35, .getfield 16, 3), (38, .sipush 176, 3), (41, .iload_n 1, 1), (42, .imul, 1), (43, .iload_n 2, 1), (44, .iadd, 1), (45, .aload_n 0, 1), (46, .getfield 7, 3), (49, .iload_n 2, 1), (50, .iaload, 1), (51, .iastore, 1), (52, .iinc 2 1, 3), (55, .goto (-35), 3), (58, .aload_n 0, 1), (59, .getfield 32, 3), (62, .ifCond .ne 10, 3), (65, .aload_n 0, 1), (66, .getfield 19, 3), (69, .iload_n 1, 1), (70, .iconst 1, 1), (71, .bastore, 1), (72, .return_, 1)]
def qa_mX10_keep : qa_M := (yX10_keep, cX10_keep, 3, none, 10, qa_iX10_keep, 2, 2, 1, 22, [], 1467, 1465, 1466)
def qa_iX10_goBack : List (Nat × Instr × Nat) := [(0, .aload_n 0, 1), (1, .iload_n 1, 1), (2, .iconst 0, 1), (3, .iconst 1, 1), (4, .invokestatic 39, 3), (7, .ifCond .ne 7, 3), (10, .iconst 1, 1), (11, .goto 17, 3), (14, .aload_n 0, 1), (15, .getfield 19, 3), (18, .iload_n 1, 1), (19, .baload, 1), (20, .ifCond .eq 7, 3), (23, .iconst 0, 1), (24, .goto 4, 3), (27, .iconst 2, 1), (28, .putfield 32, 3), (31, .aload_n 0, 1), (32, .getfield 32, 3), (35, .ifCond .ne 40, 3), (38, .aload_n 0, 1), (39, .invokevirtual 117, 3), (42, .iconst 0, 1), (43, .istore_n 2, 1), (44, .iload_n 2, 1), (45, .sipush 176, 3), (48, .if_icmp .ge 27, 3), (51, .aload_n 0, 1), (52, .getfield 7, 3), (55, .iload_n 2, 1), (56, .aload_n 0, 1), (57, .getfield 16, 3), (60, .sipush 176, 3), (63, .iload_n 1, 1), (64, .imul, 1), (65, .iload_n 2, 1), (66, .iadd, 1), (67, .iaload, 1), (68, .iastore, 1), (69, .iinc 2 1, 3), (72, .goto (-28), 3), (75, .return_, 1)]
def qa_mX10_goBack : qa_M := (yX10_goBack, cX10_goBack, 3, none, 10, qa_iX10_goBack, 2, 2, 1, 22, [], 1471, 1469, 1470)
def qa_iX10_undo : List (Nat × Instr × Nat) := [(0, .aload_n 0, 1), (1, .aload_n 0, 1), (2, .getfield 36, 3), (5, .ifCond .ne 7, 3), (8, .iconst 1, 1), (9, .goto 4, 3), (12, .iconst 0, 1), (13, .putfield 32, 3), (16, .aload_n 0, 1), (17, .getfield 32, 3), (20, .ifCond .ne 49, 3), (23, .aload_n 0, 1), (24, .dup, 1), (25, .getfield 36, 3), (28, .iconst 1, 1), (29, .isub, 1), (30, .putfield 36, 3), (33, .iconst 0, 1), (34, .istore_n 1, 1), (35, .iload_n 1, 1), (36, .sipush 176, 3), (39, .if_icmp .ge 30, 3), (42, .aload_n 0, 1), (43, .getfield 7, 3), (46, .iload_n 1, 1), (47, .aload_n 0, 1), (48, .getfield 13, 3), (51, .sipush 176, 3), (54, .aload_n 0, 1), (55, .getfield 36, 3), (58, .imul, 1), (59, .iload_n 1, 1), (60, .iadd, 1), (61, .iaload, 1), (62, .iastore, 1), (63, .iinc 1 1, 3), (66, .goto (-31), 3), (69, .return_, 1)]
def qa_mX10_undo : qa_M := (yX10_undo, cX10_undo, 2, none, 10, qa_iX10_undo, 1, 2, 0, 0, [], 1475, 1473, 1474)
def qa_iX10_savedStates : List (Nat × Instr × Nat) := [(0, .aload_n 0, 1), (1, .iconst 0, 1), (2, .putfield 32, 3), (5, .aload_n 0, 1), (6, .getfield 36, 3), (9, .ireturn, 1)]
def qa_mX10_savedStates : qa_M := (yX10_savedStates, cX10_savedStates, 1, (some .int), 10, qa_iX10_savedStates, 1, 2, 0, 0, [], 1479, 1477, 1478)
def qa_iX10_rule : List (Nat × Instr × Nat) := [(0, .aload_n 0, 1), (1, .iconst 0, 1), (2, .putfield 32, 3), (5, .aload_n 0, 1), (6, .getfield 7, 3), (9, .iload_n 1, 1), (10, .iaload, 1), (11, .ireturn, 1)]
def qa_mX10_rule : qa_M := (yX10_rule, cX10_rule, 2, (some .int), 10, qa_iX10_rule, 2, 2, 0, 0, [], 1487, 1486, 44)
def qa_iX10_slides : List (Nat × Instr × Nat) := [(0, .aload_n 0, 1), (1, .iconst 0, 1), (2, .invokevirtual 177, 3), (5, .ireturn, 1)]
def qa_mX10_slides : qa_M := (yX10_slides, cX10_slides, 1, (some .int), 10, qa_iX10_slides, 1, 2, 1, 21, [], 1483, 1481, 1482)
def qa_iX10_costOf : List (Nat × Instr × Nat) := [(0, .aload_n 0, 1), (1, .iload_n 1, 1), (2, .invokevirtual 120, 3), (5, .ifCond .eq 12, 3), (8, .aload_n 0, 1), (9, .iload_n 1, 1), (10, .iconst 0, 1), (11, .invokevirtual 43, 3), (14, .goto 4, 3), (17, .iconst 0, 1), (18, .ireturn, 1)]
def qa_mX10_costOf : qa_M := (yX10_costOf, cX10_costOf, 2, (some .int), 10, qa_iX10_costOf, 2, 2, 2, 43, [], 1491, 1489, 1490)
def qa_iX10_loadOf : List (Nat × Instr × Nat) := [(0, .aload_n 0, 1), (1, .iload_n 1, 1), (2, .invokevirtual 120, 3), (5, .ifCond .eq 11, 3), (8, .aload_n 0, 1), (9, .iload_n 1, 1), (10, .invokevirtual 82, 3), (13, .goto 4, 3), (16, .iconst 0, 1), (17, .ireturn, 1)]
def qa_mX10_loadOf : qa_M := (yX10_loadOf, cX10_loadOf, 2, (some .int), 10, qa_iX10_loadOf, 2, 2, 2, 43, [], 1495, 1493, 1494)
def qa_iX10_fadeOf : List (Nat × Instr × Nat) := [(0, .aload_n 0, 1), (1, .iload_n 1, 1), (2, .invokevirtual 120, 3), (5, .ifCond .eq 12, 3), (8, .aload_n 0, 1), (9, .iload_n 1, 1), (10, .iconst 2, 1), (11, .invokevirtual 43, 3), (14, .goto 4, 3), (17, .iconst 0, 1), (18, .ireturn, 1)]
def qa_mX10_fadeOf : qa_M := (yX10_fadeOf, cX10_fadeOf, 2, (some .int), 10, qa_iX10_fadeOf, 2, 2, 2, 43, [], 1499, 1497, 1498)
def qa_iX10_isLoaded : List (Nat × Instr × Nat) := [(0, .aload_n 0, 1), (1, .iload_n 1, 1), (2, .invokevirtual 120, 3), (5, .ifCond .eq 15, 3), (8, .aload_n 0, 1), (9, .iload_n 1, 1), (10, .invokevirtual 47, 3), (13, .ifCond .eq 7, 3), (16, .iconst 1, 1), (17, .goto 4, 3), (20, .iconst 0, 1), (21, .ireturn, 1)]
def qa_mX10_isLoaded : qa_M := (yX10_isLoaded, cX10_isLoaded, 2, (some .boolean), 10, qa_iX10_isLoaded, 2, 2, 2, 43, [], 1503, 1501, 1502)
def qa_iX10_isOnShow : List (Nat × Instr × Nat) := [(0, .aload_n 0, 1), (1, .iload_n 1, 1), (2, .invokevirtual 120, 3), (5, .ifCond .eq 15, 3), (8, .aload_n 0, 1), (9, .iload_n 1, 1), (10, .invokevirtual 55, 3), (13, .ifCond .eq 7, 3), (16, .iconst 1, 1), (17, .goto 4, 3), (20, .iconst 0, 1), (21, .ireturn, 1)]
def qa_mX10_isOnShow : qa_M := (yX10_isOnShow, cX10_isOnShow, 2, (some .boolean), 10, qa_iX10_isOnShow, 2, 2, 2, 43, [], 1507, 1505, 1506)
def qa_iX10_glowOf : List (Nat × Instr × Nat) := [(0, .aload_n 0, 1), (1, .iload_n 1, 1), (2, .invokevirtual 120, 3), (5, .ifCond .eq 12, 3), (8, .aload_n 0, 1), (9, .iload_n 1, 1), (10, .iconst 4, 1), (11, .invokevirtual 43, 3), (14, .goto 4, 3), (17, .iconst 0, 1), (18, .ireturn, 1)]
def qa_mX10_glowOf : qa_M := (yX10_glowOf, cX10_glowOf, 2, (some .int), 10, qa_iX10_glowOf, 2, 2, 2, 43, [], 1511, 1509, 1510)
def qa_iX10_burntTimes : List (Nat × Instr × Nat) := [(0, .aload_n 0, 1), (1, .iload_n 1, 1), (2, .invokevirtual 120, 3), (5, .ifCond .eq 12, 3), (8, .aload_n 0, 1), (9, .iload_n 1, 1), (10, .iconst 5, 1), (11, .invokevirtual 43, 3), (14, .goto 4, 3), (17, .iconst 0, 1), (18, .ireturn, 1)]
def qa_mX10_burntTimes : qa_M := (yX10_burntTimes, cX10_burntTimes, 2, (some .int), 10, qa_iX10_burntTimes, 2, 2, 2, 43, [], 1515, 1513, 1514)
def qa_iX10_nextUse : List (Nat × Instr × Nat) := [(0, .aload_n 0, 1), (1, .iload_n 1, 1), (2, .invokevirtual 120, 3), (5, .ifCond .ne 5, 3), (8, .iconst 0, 1), (9, .ireturn, 1), (10, .aload_n 0, 1), (11, .iload_n 1, 1), (12, .invokevirtual 51, 3), (15, .aload_n 0, 1), (16, .getfield 7, 3), (19, .bipush 113, 2), (21, .iaload, 1), (22, .if_icmp .le 11, 3), (25, .aload_n 0, 1), (26, .iconst 2, 1), (27, .invokevirtual 114, 3), (30, .goto 8, 3), (33, .aload_n 0, 1), (34, .iload_n 1, 1), (35, .invokevirtual 51, 3), (38, .ireturn, 1)]
def qa_mX10_nextUse : qa_M := (yX10_nextUse, cX10_nextUse, 2, (some .int), 10, qa_iX10_nextUse, 2, 2, 2, 43, [], 1519, 1517, 1518)
def qa_iX10_inOrder : List (Nat × Instr × Nat) := [(0, .iconst 0, 1), (1, .istore_n 2, 1), (2, .iconst 0, 1), (3, .istore_n 3, 1), (4, .iload_n 3, 1), (5, .aload_n 0, 1), (6, .getfield 7, 3), (9, .iconst 0, 1), (10, .iaload, 1), (11, .if_icmp .ge 39, 3), (14, .iload_n 2, 1), (15, .aload_n 0, 1), (16, .iload_n 3, 1), (17, .invokevirtual 58, 3), (20, .ifCond .eq 21, 3), (23, .iload_n 3, 1), (24, .iload_n 1, 1), (25, .if_icmp .eq 16, 3), (28, .aload_n 0, 1), (29, .iload_n 3, 1), (30, .iload_n 1, 1), (31, .invokevirtual 61, 3), (34, .ifCond .eq 7, 3), (37, .iconst 1, 1), (38, .goto 4, 3), (41, .iconst 0, 1), (42, .iadd, 1), (43, .istore_n 2, 1), (44, .iinc 3 1, 3), (47, .goto (-43), 3), (50, .iload_n 2, 1), (51, .ireturn, 1)]
def qa_mX10_inOrder : qa_M := (yX10_inOrder, cX10_inOrder, 4, (some .int), 10, qa_iX10_inOrder, 2, 2, 3, 64, [], 1527, 1526, 45)
def qa_iX10_burnPlace : List (Nat × Instr × Nat) := [(0, .aload_n 0, 1), (1, .iload_n 1, 1), (2, .invokevirtual 120, 3), (5, .ifCond .ne 5, 3), (8, .iconst 0, 1), (9, .ireturn, 1), (10, .aload_n 0, 1), (11, .iload_n 1, 1), (12, .invokevirtual 58, 3), (15, .ifCond .eq 11, 3), (18, .aload_n 0, 1), (19, .iload_n 1, 1), (20, .invokevirtual 180, 3), (23, .goto 8, 3), (26, .aload_n 0, 1), (27, .iconst 2, 1), (28, .invokevirtual 114, 3), (31, .ireturn, 1)]
def qa_mX10_burnPlace : qa_M := (yX10_burnPlace, cX10_burnPlace, 2, (some .int), 10, qa_iX10_burnPlace, 2, 2, 4, 87, [], 1523, 1521, 1522)
def qa_iX10_places : List (Nat × Instr × Nat) := [(0, .aload_n 0, 1), (1, .bipush 113, 2), (3, .invokevirtual 177, 3), (6, .ireturn, 1)]
def qa_mX10_places : qa_M := (yX10_places, cX10_places, 1, (some .int), 10, qa_iX10_places, 1, 2, 1, 21, [], 1531, 1529, 1530)
def qa_iX10_slideAt : List (Nat × Instr × Nat) := [(0, .aload_n 0, 1), (1, .iconst 0, 1), (2, .putfield 32, 3), (5, .iload_n 1, 1), (6, .iconst 0, 1), (7, .aload_n 0, 1), (8, .getfield 7, 3), (11, .bipush 113, 2), (13, .iaload, 1), (14, .iconst 1, 1), (15, .isub, 1), (16, .invokestatic 39, 3), (19, .ifCond .eq 15, 3), (22, .aload_n 0, 1), (23, .getfield 7, 3), (26, .bipush 114, 2), (28, .iload_n 1, 1), (29, .iadd, 1), (30, .iaload, 1), (31, .goto 8, 3), (34, .aload_n 0, 1), (35, .iconst 1, 1), (36, .invokevirtual 114, 3), (39, .ireturn, 1)]
def qa_mX10_slideAt : qa_M := (yX10_slideAt, cX10_slideAt, 2, (some .int), 10, qa_iX10_slideAt, 2, 2, 1, 22, [], 1535, 1533, 1534)
def qa_iX10_told : List (Nat × Instr × Nat) := [(0, .aload_n 0, 1), (1, .aload_n 0, 1), (2, .getfield 7, 3), (5, .iload_n 1, 1), (6, .iaload, 1), (7, .iconst (-1), 1), (8, .if_icmp .ne 7, 3), (11, .iconst 1, 1), (12, .goto 4, 3), (15, .iconst 0, 1), (16, .putfield 32, 3), (19, .aload_n 0, 1), (20, .getfield 32, 3), (23, .ifCond .ne 12, 3), (26, .aload_n 0, 1), (27, .getfield 7, 3), (30, .iload_n 1, 1), (31, .iaload, 1), (32, .goto 4, 3), (35, .iconst 0, 1), (36, .ireturn, 1)]
def qa_mX10_told : qa_M := (yX10_told, cX10_told, 2, (some .int), 10, qa_iX10_told, 2, 2, 0, 0, [], 1543, 1542, 46)
def qa_iX10_showPlace : List (Nat × Instr × Nat) := [(0, .aload_n 0, 1), (1, .sipush 138, 3), (4, .invokevirtual 183, 3), (7, .ireturn, 1)]
def qa_mX10_showPlace : qa_M := (yX10_showPlace, cX10_showPlace, 1, (some .int), 10, qa_iX10_showPlace, 1, 2, 1, 21, [], 1539, 1537, 1538)
def qa_iX10_shown : List (Nat × Instr × Nat) := [(0, .aload_n 0, 1), (1, .sipush 139, 3), (4, .invokevirtual 183, 3), (7, .ireturn, 1)]
def qa_mX10_shown : qa_M := (yX10_shown, cX10_shown, 1, (some .int), 10, qa_iX10_shown, 1, 2, 1, 21, [], 1547, 1545, 1546)
def qa_iX10_fading : List (Nat × Instr × Nat) := [(0, .aload_n 0, 1), (1, .sipush 140, 3), (4, .invokevirtual 183, 3), (7, .ireturn, 1)]
def qa_mX10_fading : qa_M := (yX10_fading, cX10_fading, 1, (some .int), 10, qa_iX10_fading, 1, 2, 1, 21, [], 1551, 1549, 1550)
def qa_iX10_fadeLeft : List (Nat × Instr × Nat) := [(0, .aload_n 0, 1), (1, .sipush 141, 3), (4, .invokevirtual 177, 3), (7, .ireturn, 1)]
def qa_mX10_fadeLeft : qa_M := (yX10_fadeLeft, cX10_fadeLeft, 1, (some .int), 10, qa_iX10_fadeLeft, 1, 2, 1, 21, [], 1555, 1553, 1554)
def qa_iX10_awaited : List (Nat × Instr × Nat) := [(0, .aload_n 0, 1), (1, .sipush 142, 3), (4, .invokevirtual 183, 3), (7, .ireturn, 1)]
def qa_mX10_awaited : qa_M := (yX10_awaited, cX10_awaited, 1, (some .int), 10, qa_iX10_awaited, 1, 2, 1, 21, [], 1559, 1557, 1558)
def qa_iX10_shownFor : List (Nat × Instr × Nat) := [(0, .aload_n 0, 1), (1, .sipush 139, 3), (4, .invokevirtual 183, 3), (7, .istore_n 1, 1), (8, .aload_n 0, 1), (9, .getfield 32, 3), (12, .ifCond .ne 14, 3), (15, .aload_n 0, 1), (16, .getfield 7, 3), (19, .sipush 143, 3), (22, .iaload, 1), (23, .goto 4, 3), (26, .iconst 0, 1), (27, .ireturn, 1)]
def qa_mX10_shownFor : qa_M := (yX10_shownFor, cX10_shownFor, 2, (some .int), 10, qa_iX10_shownFor, 1, 2, 1, 21, [], 1563, 1561, 1562)
def qa_iX10_loading : List (Nat × Instr × Nat) := [(0, .aload_n 0, 1), (1, .sipush 144, 3), (4, .invokevirtual 183, 3), (7, .ireturn, 1)]
def qa_mX10_loading : qa_M := (yX10_loading, cX10_loading, 1, (some .int), 10, qa_iX10_loading, 1, 2, 1, 21, [], 1567, 1565, 1566)
def qa_iX10_loadLeft : List (Nat × Instr × Nat) := [(0, .aload_n 0, 1), (1, .sipush 145, 3), (4, .invokevirtual 177, 3), (7, .ireturn, 1)]
def qa_mX10_loadLeft : qa_M := (yX10_loadLeft, cX10_loadLeft, 1, (some .int), 10, qa_iX10_loadLeft, 1, 2, 1, 21, [], 1571, 1569, 1570)
def qa_iX10_asked : List (Nat × Instr × Nat) := [(0, .aload_n 0, 1), (1, .sipush 146, 3), (4, .invokevirtual 177, 3), (7, .ireturn, 1)]
def qa_mX10_asked : qa_M := (yX10_asked, cX10_asked, 1, (some .int), 10, qa_iX10_asked, 1, 2, 1, 21, [], 1575, 1573, 1574)
def qa_iX10_askedAt : List (Nat × Instr × Nat) := [(0, .aload_n 0, 1), (1, .iconst 0, 1), (2, .putfield 32, 3), (5, .iload_n 1, 1), (6, .iconst 0, 1), (7, .aload_n 0, 1), (8, .getfield 7, 3), (11, .sipush 146, 3), (14, .iaload, 1), (15, .iconst 1, 1), (16, .isub, 1), (17, .invokestatic 39, 3), (20, .ifCond .eq 16, 3), (23, .aload_n 0, 1), (24, .getfield 7, 3), (27, .sipush 147, 3), (30, .iload_n 1, 1), (31, .iadd, 1), (32, .iaload, 1), (33, .goto 8, 3), (36, .aload_n 0, 1), (37, .iconst 1, 1), (38, .invokevirtual 114, 3), (41, .ireturn, 1)]
def qa_mX10_askedAt : qa_M := (yX10_askedAt, cX10_askedAt, 2, (some .int), 10, qa_iX10_askedAt, 2, 2, 1, 22, [], 1579, 1577, 1578)
def qa_iX10_takenBySlides : List (Nat × Instr × Nat) := [(0, .aload_n 0, 1), (1, .iconst 0, 1), (2, .putfield 32, 3), (5, .aload_n 0, 1), (6, .invokevirtual 69, 3), (9, .ireturn, 1)]
def qa_mX10_takenBySlides : qa_M := (yX10_takenBySlides, cX10_takenBySlides, 1, (some .int), 10, qa_iX10_takenBySlides, 1, 2, 3, 65, [], 1583, 1581, 1582)
def qa_iX10_takenByAccount : List (Nat × Instr × Nat) := [(0, .aload_n 0, 1), (1, .iconst 0, 1), (2, .putfield 32, 3), (5, .aload_n 0, 1), (6, .invokevirtual 69, 3), (9, .ireturn, 1)]
def qa_mX10_takenByAccount : qa_M := (yX10_takenByAccount, cX10_takenByAccount, 1, (some .int), 10, qa_iX10_takenByAccount, 1, 2, 3, 65, [], 1587, 1585, 1586)
def qa_iX10_memory : List (Nat × Instr × Nat) := [(0, .aload_n 0, 1), (1, .sipush 163, 3), (4, .invokevirtual 177, 3), (7, .ireturn, 1)]
def qa_mX10_memory : qa_M := (yX10_memory, cX10_memory, 1, (some .int), 10, qa_iX10_memory, 1, 2, 1, 21, [], 1591, 1589, 1590)
def qa_iX10_ahead : List (Nat × Instr × Nat) := [(0, .aload_n 0, 1), (1, .sipush 164, 3), (4, .invokevirtual 177, 3), (7, .ireturn, 1)]
def qa_mX10_ahead : qa_M := (yX10_ahead, cX10_ahead, 1, (some .int), 10, qa_iX10_ahead, 1, 2, 1, 21, [], 1595, 1593, 1594)
def qa_iX10_order : List (Nat × Instr × Nat) := [(0, .aload_n 0, 1), (1, .sipush 165, 3), (4, .invokevirtual 177, 3), (7, .ireturn, 1)]
def qa_mX10_order : qa_M := (yX10_order, cX10_order, 1, (some .int), 10, qa_iX10_order, 1, 2, 1, 21, [], 1599, 1597, 1598)
def qa_iX10_glow : List (Nat × Instr × Nat) := [(0, .aload_n 0, 1), (1, .sipush 166, 3), (4, .invokevirtual 177, 3), (7, .ireturn, 1)]
def qa_mX10_glow : qa_M := (yX10_glow, cX10_glow, 1, (some .int), 10, qa_iX10_glow, 1, 2, 1, 21, [], 1603, 1601, 1602)
def qa_iX10_pace : List (Nat × Instr × Nat) := [(0, .aload_n 0, 1), (1, .sipush 167, 3), (4, .invokevirtual 177, 3), (7, .ireturn, 1)]
def qa_mX10_pace : qa_M := (yX10_pace, cX10_pace, 1, (some .int), 10, qa_iX10_pace, 1, 2, 1, 21, [], 1607, 1605, 1606)
def qa_iX10_untilShown : List (Nat × Instr × Nat) := [(0, .iconst 0, 1), (1, .istore_n 1, 1), (2, .iload_n 1, 1), (3, .sipush 176, 3), (6, .if_icmp .ge 21, 3), (9, .aload_n 0, 1), (10, .getfield 26, 3), (13, .iload_n 1, 1), (14, .aload_n 0, 1), (15, .getfield 7, 3), (18, .iload_n 1, 1), (19, .iaload, 1), (20, .iastore, 1), (21, .iinc 1 1, 3), (24, .goto (-22), 3), (27, .iconst 0, 1), (28, .istore_n 1, 1), (29, .aload_n 0, 1), (30, .getfield 7, 3), (33, .sipush 142, 3), (36, .iaload, 1), (37, .iconst (-1), 1), (38, .if_icmp .eq 13, 3), (41, .aload_n 0, 1), (42, .invokevirtual 111, 3), (45, .iinc 1 1, 3), (48, .goto (-19), 3), (51, .iconst 0, 1), (52, .istore_n 2, 1), (53, .iload_n 2, 1), (54, .sipush 176, 3), (57, .if_icmp .ge 21, 3), (60, .aload_n 0, 1), (61, .getfield 7, 3), (64, .iload_n 2, 1), (65, .aload_n 0, 1), (66, .getfield 26, 3), (69, .iload_n 2, 1), (70, .iaload, 1), (71, .iastore, 1), (72, .iinc 2 1, 3), (75, .goto (-22), 3), (78, .iload_n 1, 1), (79, .ireturn, 1)]
def qa_mX10_untilShown : qa_M := (yX10_untilShown, cX10_untilShown, 3, (some .int), 10, qa_iX10_untilShown, 1, 2, 8, 175, [], 1619, 1618, 48)
def qa_iX10_toldTicks : List (Nat × Instr × Nat) := [(0, .aload_n 0, 1), (1, .sipush 142, 3), (4, .invokevirtual 183, 3), (7, .istore_n 1, 1), (8, .aload_n 0, 1), (9, .getfield 32, 3), (12, .ifCond .ne 10, 3), (15, .aload_n 0, 1), (16, .invokevirtual 186, 3), (19, .goto 4, 3), (22, .iconst 0, 1), (23, .ireturn, 1)]
def qa_mX10_toldTicks : qa_M := (yX10_toldTicks, cX10_toldTicks, 2, (some .int), 10, qa_iX10_toldTicks, 1, 2, 9, 197, [], 1615, 1614, 47)
def qa_iX10_ticksToShowByTicks : List (Nat × Instr × Nat) := [(0, .aload_n 0, 1), (1, .invokevirtual 189, 3), (4, .ireturn, 1)]
def qa_mX10_ticksToShowByTicks : qa_M := (yX10_ticksToShowByTicks, cX10_ticksToShowByTicks, 1, (some .int), 10, qa_iX10_ticksToShowByTicks, 1, 2, 10, 218, [], 1611, 1609, 1610)
def qa_iX10_ticksToShowBySums : List (Nat × Instr × Nat) := [(0, .aload_n 0, 1), (1, .invokevirtual 189, 3), (4, .ireturn, 1)]
def qa_mX10_ticksToShowBySums : qa_M := (yX10_ticksToShowBySums, cX10_ticksToShowBySums, 1, (some .int), 10, qa_iX10_ticksToShowBySums, 1, 2, 10, 218, [], 1623, 1621, 1622)
def qa_iX10_burningsOf : List (Nat × Instr × Nat) := [(0, .aload_n 0, 1), (1, .iload_n 1, 1), (2, .invokevirtual 47, 3), (5, .ifCond .ne 15, 3), (8, .aload_n 0, 1), (9, .getfield 7, 3), (12, .sipush 144, 3), (15, .iaload, 1), (16, .iload_n 1, 1), (17, .if_icmp .ne 5, 3), (20, .iconst 0, 1), (21, .ireturn, 1), (22, .aload_n 0, 1), (23, .invokevirtual 171, 3), (26, .aload_n 0, 1), (27, .aload_n 0, 1), (28, .iload_n 1, 1), (29, .iconst 0, 1), (30, .invokevirtual 43, 3), (33, .invokevirtual 79, 3), (36, .istore_n 2, 1), (37, .aload_n 0, 1), (38, .invokevirtual 174, 3), (41, .iload_n 2, 1), (42, .ireturn, 1)]
def qa_mX10_burningsOf : qa_M := (yX10_burningsOf, cX10_burningsOf, 3, (some .int), 10, qa_iX10_burningsOf, 2, 2, 5, 109, [], 1631, 1630, 49)
def qa_iX10_burningsFor : List (Nat × Instr × Nat) := [(0, .aload_n 0, 1), (1, .iload_n 1, 1), (2, .invokevirtual 120, 3), (5, .ifCond .eq 11, 3), (8, .aload_n 0, 1), (9, .iload_n 1, 1), (10, .invokevirtual 192, 3), (13, .goto 4, 3), (16, .iconst 0, 1), (17, .ireturn, 1)]
def qa_mX10_burningsFor : qa_M := (yX10_burningsFor, cX10_burningsFor, 2, (some .int), 10, qa_iX10_burningsFor, 2, 2, 6, 131, [], 1627, 1625, 1626)
def qa_iX10_missing : List (Nat × Instr × Nat) := [(0, .aload_n 0, 1), (1, .invokevirtual 171, 3), (4, .aload_n 0, 1), (5, .getfield 7, 3), (8, .sipush 170, 3), (11, .iaload, 1), (12, .istore_n 2, 1), (13, .aload_n 0, 1), (14, .getfield 7, 3), (17, .sipush 165, 3), (20, .iload_n 1, 1), (21, .iastore, 1), (22, .aload_n 0, 1), (23, .getfield 7, 3), (26, .sipush 167, 3), (29, .iconst 0, 1), (30, .iastore, 1), (31, .iconst 0, 1), (32, .istore_n 3, 1), (33, .iload_n 3, 1), (34, .aload_n 0, 1), (35, .getfield 7, 3), (38, .bipush 113, 2), (40, .iaload, 1), (41, .if_icmp .ge 46, 3), (44, .aload_n 0, 1), (45, .invokevirtual 101, 3), (48, .istore 4, 2), (50, .aload_n 0, 1), (51, .invokevirtual 105, 3), (54, .aload_n 0, 1), (55, .getfield 7, 3), (58, .sipush 142, 3), (61, .iaload, 1), (62, .iconst (-1), 1), (63, .if_icmp .eq 10, 3), (66, .aload_n 0, 1), (67, .invokevirtual 111, 3), (70, .goto (-16), 3), (73, .aload_n 0, 1), (74, .bipush 10, 2), (76, .invokevirtual 135, 3), (79, .istore 5, 2), (81, .iinc 3 1, 3), (84, .goto (-51), 3), (87, .aload_n 0, 1), (88, .getfield 7, 3), (91, .sipush 170, 3), (94, .iaload, 1), (95, .iload_n 2, 1), (96, .isub, 1), (97, .istore_n 3, 1), (98, .aload_n 0, 1), (99, .invokevirtual 174, 3), (102, .iload_n 3, 1), (103, .ireturn, 1)]
def qa_mX10_missing : qa_M := (yX10_missing, cX10_missing, 6, (some .int), 10, qa_iX10_missing, 2, 2, 9, 197, [], 1639, 1638, 50)
def qa_iX10_missesWith : List (Nat × Instr × Nat) := [(0, .aload_n 0, 1), (1, .iload_n 1, 1), (2, .iconst 0, 1), (3, .iconst 2, 1), (4, .invokestatic 39, 3), (7, .ifCond .ne 7, 3), (10, .iconst 1, 1), (11, .goto 15, 3), (14, .aload_n 0, 1), (15, .invokevirtual 126, 3), (18, .ifCond .eq 7, 3), (21, .iconst 0, 1), (22, .goto 4, 3), (25, .iconst 2, 1), (26, .putfield 32, 3), (29, .aload_n 0, 1), (30, .getfield 32, 3), (33, .ifCond .ne 11, 3), (36, .aload_n 0, 1), (37, .iload_n 1, 1), (38, .invokevirtual 195, 3), (41, .goto 4, 3), (44, .iconst 0, 1), (45, .ireturn, 1)]
def qa_mX10_missesWith : qa_M := (yX10_missesWith, cX10_missesWith, 2, (some .int), 10, qa_iX10_missesWith, 2, 2, 10, 222, [], 1635, 1633, 1634)
def qa_iX10_bestOrder : List (Nat × Instr × Nat) := [(0, .aload_n 0, 1), (1, .aload_n 0, 1), (2, .invokevirtual 126, 3), (5, .ifCond .eq 7, 3), (8, .iconst 0, 1), (9, .goto 4, 3), (12, .iconst 1, 1), (13, .putfield 32, 3), (16, .iconst 0, 1), (17, .istore_n 1, 1), (18, .iconst 1, 1), (19, .istore_n 2, 1), (20, .iload_n 2, 1), (21, .iconst 3, 1), (22, .if_icmp .ge 35, 3), (25, .aload_n 0, 1), (26, .getfield 32, 3), (29, .ifCond .ne 28, 3), (32, .aload_n 0, 1), (33, .iload_n 2, 1), (34, .invokevirtual 195, 3), (37, .aload_n 0, 1), (38, .iload_n 1, 1), (39, .invokevirtual 195, 3), (42, .if_icmp .ge 7, 3), (45, .iload_n 2, 1), (46, .goto 4, 3), (49, .iload_n 1, 1), (50, .istore_n 1, 1), (51, .iinc 2 1, 3), (54, .goto (-34), 3), (57, .iload_n 1, 1), (58, .ireturn, 1)]
def qa_mX10_bestOrder : qa_M := (yX10_bestOrder, cX10_bestOrder, 3, (some .int), 10, qa_iX10_bestOrder, 1, 2, 10, 222, [], 1643, 1641, 1642)
def qa_iX10_loads : List (Nat × Instr × Nat) := [(0, .aload_n 0, 1), (1, .sipush 171, 3), (4, .invokevirtual 177, 3), (7, .ireturn, 1)]
def qa_mX10_loads : qa_M := (yX10_loads, cX10_loads, 1, (some .int), 10, qa_iX10_loads, 1, 2, 1, 21, [], 1647, 1645, 1646)
def qa_iX10_burnings : List (Nat × Instr × Nat) := [(0, .aload_n 0, 1), (1, .sipush 173, 3), (4, .invokevirtual 177, 3), (7, .ireturn, 1)]
def qa_mX10_burnings : qa_M := (yX10_burnings, cX10_burnings, 1, (some .int), 10, qa_iX10_burnings, 1, 2, 1, 21, [], 1651, 1649, 1650)
def qa_iX10_time : List (Nat × Instr × Nat) := [(0, .aload_n 0, 1), (1, .sipush 168, 3), (4, .invokevirtual 177, 3), (7, .ireturn, 1)]
def qa_mX10_time : qa_M := (yX10_time, cX10_time, 1, (some .int), 10, qa_iX10_time, 1, 2, 1, 21, [], 1655, 1653, 1654)
def qa_iX10_hits : List (Nat × Instr × Nat) := [(0, .aload_n 0, 1), (1, .sipush 169, 3), (4, .invokevirtual 177, 3), (7, .ireturn, 1)]
def qa_mX10_hits : qa_M := (yX10_hits, cX10_hits, 1, (some .int), 10, qa_iX10_hits, 1, 2, 1, 21, [], 1659, 1657, 1658)
def qa_iX10_misses : List (Nat × Instr × Nat) := [(0, .aload_n 0, 1), (1, .sipush 170, 3), (4, .invokevirtual 177, 3), (7, .ireturn, 1)]
def qa_mX10_misses : qa_M := (yX10_misses, cX10_misses, 1, (some .int), 10, qa_iX10_misses, 1, 2, 1, 21, [], 1663, 1661, 1662)
def qa_iX10_warmLoads : List (Nat × Instr × Nat) := [(0, .aload_n 0, 1), (1, .sipush 172, 3), (4, .invokevirtual 177, 3), (7, .ireturn, 1)]
def qa_mX10_warmLoads : qa_M := (yX10_warmLoads, cX10_warmLoads, 1, (some .int), 10, qa_iX10_warmLoads, 1, 2, 1, 21, [], 1667, 1665, 1666)
def qa_iX10_waited : List (Nat × Instr × Nat) := [(0, .aload_n 0, 1), (1, .sipush 174, 3), (4, .invokevirtual 177, 3), (7, .ireturn, 1)]
def qa_mX10_waited : qa_M := (yX10_waited, cX10_waited, 1, (some .int), 10, qa_iX10_waited, 1, 2, 1, 21, [], 1671, 1669, 1670)
def qa_iX10_share : List (Nat × Instr × Nat) := [(0, .aload_n 0, 1), (1, .getfield 7, 3), (4, .sipush 169, 3), (7, .iaload, 1), (8, .aload_n 0, 1), (9, .getfield 7, 3), (12, .sipush 170, 3), (15, .iaload, 1), (16, .iadd, 1), (17, .istore_n 1, 1), (18, .iload_n 1, 1), (19, .ifCond .ne 7, 3), (22, .dconst 0, 1), (23, .goto 15, 3), (26, .aload_n 0, 1), (27, .getfield 7, 3), (30, .sipush 169, 3), (33, .iaload, 1), (34, .i2d, 1), (35, .iload_n 1, 1), (36, .i2d, 1), (37, .ddiv, 1), (38, .dreturn, 1)]
def qa_mX10_share : qa_M := (yX10_share, cX10_share, 2, (some .double), 10, qa_iX10_share, 1, 2, 0, 0, [], 1679, 1678, 51)
def qa_iX10_hitShare : List (Nat × Instr × Nat) := [(0, .aload_n 0, 1), (1, .iconst 0, 1), (2, .putfield 32, 3), (5, .aload_n 0, 1), (6, .invokevirtual 198, 3), (9, .dreturn, 1)]
def qa_mX10_hitShare : qa_M := (yX10_hitShare, cX10_hitShare, 1, (some .double), 10, qa_iX10_hitShare, 1, 2, 1, 21, [], 1675, 1673, 1674)
def qa_iX10_bitsOf : List (Nat × Instr × Nat) := [(0, .dload_n 0, 1), (1, .dconst 0, 1), (2, .dcmp .l, 1), (3, .ifCond .ne 5, 3), (6, .lconst 0, 1), (7, .lreturn, 1), (8, .dload_n 0, 1), (9, .dstore 4, 2), (11, .iload_n 3, 1), (12, .istore 6, 2), (14, .dload 4, 2), (16, .ldc2_w 202, 3), (19, .dcmp .l, 1), (20, .ifCond .lt 17, 3), (23, .dload 4, 2), (25, .ldc2_w 202, 3), (28, .ddiv, 1), (29, .dstore 4, 2), (31, .iinc 6 1, 3), (34, .goto (-20), 3), (37, .dload 4, 2), (39, .dconst 1, 1), (40, .dcmp .g, 1), (41, .ifCond .ge 17, 3), (44, .dload 4, 2), (46, .ldc2_w 202, 3), (49, .dmul, 1), (50, .dstore 4, 2), (52, .iinc 6 (-1), 3), (55, .goto (-18), 3), (58, .dload 4, 2), (60, .dconst 1, 1), (61, .dsub, 1), (62, .dstore 7, 2), (64, .iload 6, 2), (66, .i2l, 1), (67, .lstore 9, 2), (69, .iconst 0, 1), (70, .istore 11, 2), (72, .iload 11, 2), (74, .iload_n 2, 1), (75, .if_icmp .ge 50, 3), (78, .dload 7, 2), (80, .ldc2_w 202, 3), (83, .dmul, 1), (84, .dstore 7, 2), (86, .dload 7, 2), (88, .dconst 1, 1), (89, .dcmp .l, 1), (90, .ifCond .lt 7, 3), (93, .lconst 1, 1), (94, .goto 4, 3), (97, .lconst 0, 1), (98, .lstore 12, 2), (100, .dload 7, 2), (102, .lload 12, 2), (104, .l2d, 1), (105, .dsub, 1), (106, .dstore 7, 2), (108, .ldc2_w 204, 3), (111, .lload 9, 2), (113, .lmul, 1), (114, .lload 12, 2), (116, .ladd, 1), (117, .lstore 9, 2), (119, .iinc 11 1, 3), (122, .goto (-50), 3), (125, .lload 9, 2), (127, .lreturn, 1)]
def qa_mX10_bitsOf : qa_M := (yX10_bitsOf, cX10_bitsOf, 14, (some .long), 10, qa_iX10_bitsOf, 3, 1, 0, 0, [], 1696, 1695, 0)
def qa_iX10_mix : List (Nat × Instr × Nat) := [(0, .aload_n 0, 1), (1, .ldc2_w 206, 3), (4, .aload_n 0, 1), (5, .getfield 208, 3), (8, .lmul, 1), (9, .lload_n 1, 1), (10, .ladd, 1), (11, .putfield 208, 3), (14, .return_, 1)]
def qa_mX10_mix : qa_M := (yX10_mix, cX10_mix, 3, none, 10, qa_iX10_mix, 2, 2, 0, 0, [], 1688, 1687, 52)
def qa_iX10_mixesSlide : List (Nat × Instr × Nat) := [(0, .aload_n 0, 1), (1, .aload_n 0, 1), (2, .iload_n 1, 1), (3, .iconst 0, 1), (4, .invokevirtual 43, 3), (7, .i2l, 1), (8, .invokevirtual 212, 3), (11, .aload_n 0, 1), (12, .aload_n 0, 1), (13, .iload_n 1, 1), (14, .invokevirtual 82, 3), (17, .i2l, 1), (18, .invokevirtual 212, 3), (21, .aload_n 0, 1), (22, .aload_n 0, 1), (23, .iload_n 1, 1), (24, .iconst 2, 1), (25, .invokevirtual 43, 3), (28, .i2l, 1), (29, .invokevirtual 212, 3), (32, .aload_n 0, 1), (33, .aload_n 0, 1), (34, .iload_n 1, 1), (35, .iconst 3, 1), (36, .invokevirtual 43, 3), (39, .i2l, 1), (40, .invokevirtual 212, 3), (43, .aload_n 0, 1), (44, .aload_n 0, 1), (45, .iload_n 1, 1), (46, .invokevirtual 55, 3), (49, .ifCond .eq 7, 3), (52, .lconst 1, 1), (53, .goto 4, 3), (56, .lconst 0, 1), (57, .invokevirtual 212, 3), (60, .aload_n 0, 1), (61, .aload_n 0, 1), (62, .iload_n 1, 1), (63, .iconst 4, 1), (64, .invokevirtual 43, 3), (67, .i2l, 1), (68, .invokevirtual 212, 3), (71, .aload_n 0, 1), (72, .aload_n 0, 1), (73, .iload_n 1, 1), (74, .iconst 5, 1), (75, .invokevirtual 43, 3), (78, .i2l, 1), (79, .invokevirtual 212, 3), (82, .aload_n 0, 1), (83, .aload_n 0, 1), (84, .iload_n 1, 1), (85, .invokevirtual 51, 3), (88, .aload_n 0, 1), (89, .getfield 7, 3), (92, .bipush 113, 2), (94, .iaload, 1), (95, .if_icmp .le 7, 3), (98, .lconst 0, 1), (99, .goto 9, 3), (102, .aload_n 0, 1), (103, .iload_n 1, 1), (104, .invokevirtual 51, 3), (107, .i2l, 1), (108, .invokevirtual 212, 3), (111, .aload_n 0, 1), (112, .aload_n 0, 1), (113, .iload_n 1, 1), (114, .invokevirtual 58, 3), (117, .ifCond .eq 14, 3), (120, .aload_n 0, 1), (121, .iload_n 1, 1), (122, .invokevirtual 180, 3), (125, .iconst 1, 1), (126, .iadd, 1), (127, .i2l, 1), (128, .goto 4, 3), (131, .lconst 0, 1), (132, .invokevirtual 212, 3), (135, .aload_n 0, 1), (136, .aload_n 0, 1), (137, .iload_n 1, 1), (138, .invokevirtual 192, 3), (141, .i2l, 1), (142, .invokevirtual 212, 3), (145, .return_, 1)]
def qa_mX10_mixesSlide : qa_M := (yX10_mixesSlide, cX10_mixesSlide, 2, none, 10, qa_iX10_mixesSlide, 2, 2, 6, 131, [], 1693, 1692, 53)
def qa_iX10_digest : List (Nat × Instr × Nat) := [(0, .aload_n 0, 1), (1, .iconst 0, 1), (2, .putfield 32, 3), (5, .aload_n 0, 1), (6, .ldc2_w 216, 3), (9, .putfield 208, 3), (12, .aload_n 0, 1), (13, .aload_n 0, 1), (14, .getfield 7, 3), (17, .iconst 0, 1), (18, .iaload, 1), (19, .i2l, 1), (20, .invokevirtual 212, 3), (23, .iconst 0, 1), (24, .istore_n 1, 1), (25, .iload_n 1, 1), (26, .aload_n 0, 1), (27, .getfield 7, 3), (30, .iconst 0, 1), (31, .iaload, 1), (32, .if_icmp .ge 14, 3), (35, .aload_n 0, 1), (36, .iload_n 1, 1), (37, .invokevirtual 218, 3), (40, .iinc 1 1, 3), (43, .goto (-18), 3), (46, .aload_n 0, 1), (47, .aload_n 0, 1), (48, .getfield 7, 3), (51, .bipush 113, 2), (53, .iaload, 1), (54, .i2l, 1), (55, .invokevirtual 212, 3), (58, .iconst 0, 1), (59, .istore_n 1, 1), (60, .iload_n 1, 1), (61, .aload_n 0, 1), (62, .getfield 7, 3), (65, .bipush 113, 2), (67, .iaload, 1), (68, .if_icmp .ge 23, 3), (71, .aload_n 0, 1), (72, .aload_n 0, 1), (73, .getfield 7, 3), (76, .bipush 114, 2), (78, .iload_n 1, 1), (79, .iadd, 1), (80, .iaload, 1), (81, .i2l, 1), (82, .invokevirtual 212, 3), (85, .iinc 1 1, 3), (88, .goto (-28), 3), (91, .aload_n 0, 1), (92, .aload_n 0, 1), (93, .getfield 7, 3), (96, .sipush 138, 3), (99, .iaload, 1), (100, .iconst 1, 1), (101, .iadd, 1), (102, .i2l, 1), (103, .invokevirtual 212, 3), (106, .aload_n 0, 1), (107, .aload_n 0, 1), (108, .getfield 7, 3), (111, .sipush 139, 3), (114, .iaload, 1), (115, .iconst 1, 1), (116, .iadd, 1), (117, .i2l, 1), (118, .invokevirtual 212, 3), (121, .aload_n 0, 1), (122, .aload_n 0, 1), (123, .getfield 7, 3), (126, .sipush 140, 3), (129, .iaload, 1), (130, .iconst 1, 1), (131, .iadd, 1), (132, .i2l, 1), (133, .invokevirtual 212, 3), (136, .aload_n 0, 1), (137, .aload_n 0, 1), (138, .getfield 7, 3), (141, .sipush 141, 3), (144, .iaload, 1), (145, .i2l, 1), (146, .invokevirtual 212, 3), (149, .aload_n 0, 1), (150, .aload_n 0, 1), (151, .getfield 7, 3), (154, .sipush 142, 3), (157, .iaload, 1), (158, .iconst 1, 1), (159, .iadd, 1), (160, .i2l, 1), (161, .invokevirtual 212, 3), (164, .aload_n 0, 1), (165, .aload_n 0, 1), (166, .getfield 7, 3), (169, .sipush 139, 3), (172, .iaload, 1), (173, .iconst (-1), 1), (174, .if_icmp .ne 7, 3), (177, .lconst 0, 1), (178, .goto 12, 3), (181, .aload_n 0, 1), (182, .getfield 7, 3), (185, .sipush 143, 3), (188, .iaload, 1), (189, .i2l, 1), (190, .invokevirtual 212, 3), (193, .aload_n 0, 1), (194, .aload_n 0, 1), (195, .getfield 7, 3), (198, .sipush 144, 3), (201, .iaload, 1), (202, .iconst 1, 1), (203, .iadd, 1), (204, .i2l, 1), (205, .invokevirtual 212, 3), (208, .aload_n 0, 1), (209, .aload_n 0, 1), (210, .getfield 7, 3), (213, .sipush 145, 3), (216, .iaload, 1), (217, .i2l, 1), (218, .invokevirtual 212, 3), (221, .aload_n 0, 1), (222, .aload_n 0, 1), (223, .getfield 7, 3), (226, .sipush 146, 3), (229, .iaload, 1), (230, .i2l, 1), (231, .invokevirtual 212, 3), (234, .iconst 0, 1), (235, .istore_n 1, 1), (236, .iload_n 1, 1), (237, .aload_n 0, 1), (238, .getfield 7, 3), (241, .sipush 146, 3), (244, .iaload, 1), (245, .if_icmp .ge 24, 3), (248, .aload_n 0, 1), (249, .aload_n 0, 1), (250, .getfield 7, 3), (253, .sipush 147, 3), (256, .iload_n 1, 1), (257, .iadd, 1), (258, .iaload, 1), (259, .i2l, 1), (260, .invokevirtual 212, 3), (263, .iinc 1 1, 3), (266, .goto (-30), 3), (269, .aload_n 0, 1), (270, .aload_n 0, 1), (271, .invokevirtual 69, 3), (274, .i2l, 1), (275, .invokevirtual 212, 3), (278, .aload_n 0, 1), (279, .aload_n 0, 1), (280, .invokevirtual 69, 3), (283, .i2l, 1), (284, .invokevirtual 212, 3), (287, .sipush 163, 3), (290, .istore_n 1, 1), (291, .iload_n 1, 1), (292, .sipush 167, 3), (295, .if_icmp .gt 20, 3), (298, .aload_n 0, 1), (299, .aload_n 0, 1), (300, .getfield 7, 3), (303, .iload_n 1, 1), (304, .iaload, 1), (305, .i2l, 1), (306, .invokevirtual 212, 3), (309, .iinc 1 1, 3), (312, .goto (-21), 3), (315, .aload_n 0, 1), (316, .getfield 7, 3), (319, .sipush 142, 3), (322, .iaload, 1), (323, .iconst (-1), 1), (324, .if_icmp .ne 7, 3), (327, .iconst 0, 1), (328, .goto 7, 3), (331, .aload_n 0, 1), (332, .invokevirtual 186, 3), (335, .istore_n 1, 1), (336, .aload_n 0, 1), (337, .iload_n 1, 1), (338, .i2l, 1), (339, .invokevirtual 212, 3), (342, .aload_n 0, 1), (343, .iload_n 1, 1), (344, .i2l, 1), (345, .invokevirtual 212, 3), (348, .sipush 168, 3), (351, .istore_n 2, 1), (352, .iload_n 2, 1), (353, .sipush 174, 3), (356, .if_icmp .gt 20, 3), (359, .aload_n 0, 1), (360, .aload_n 0, 1), (361, .getfield 7, 3), (364, .iload_n 2, 1), (365, .iaload, 1), (366, .i2l, 1), (367, .invokevirtual 212, 3), (370, .iinc 2 1, 3), (373, .goto (-21), 3), (376, .aload_n 0, 1), (377, .aload_n 0, 1), (378, .getfield 36, 3), (381, .i2l, 1), (382, .invokevirtual 212, 3), (385, .aload_n 0, 1), (386, .aload_n 0, 1), (387, .invokevirtual 198, 3), (390, .bipush 52, 2), (392, .sipush 1023, 3), (395, .invokestatic 221, 3), (398, .invokevirtual 212, 3), (401, .aload_n 0, 1), (402, .aload_n 0, 1), (403, .getfield 19, 3), (406, .iconst 0, 1), (407, .baload, 1), (408, .ifCond .eq 7, 3), (411, .lconst 1, 1), (412, .goto 4, 3), (415, .lconst 0, 1), (416, .invokevirtual 212, 3), (419, .aload_n 0, 1), (420, .aload_n 0, 1), (421, .getfield 19, 3), (424, .iconst 1, 1), (425, .baload, 1), (426, .ifCond .eq 7, 3), (429, .lconst 1, 1), (430, .goto 4, 3), (433, .lconst 0, 1), (434, .invokevirtual 212, 3), (437, .aload_n 0, 1), (438, .aload_n 0, 1), (439, .getfield 142, 3), (442, .i2l, 1), (443, .invokevirtual 212, 3), (446, .iconst 0, 1), (447, .istore_n 2, 1), (448, .iload_n 2, 1), (449, .aload_n 0, 1), (450, .getfield 142, 3), (453, .if_icmp .ge 20, 3), (456, .aload_n 0, 1), (457, .aload_n 0, 1), (458, .getfield 29, 3), (461, .iload_n 2, 1), (462, .iaload, 1), (463, .i2l, 1), (464, .invokevirtual 212, 3), (467, .iinc 2 1, 3), (470, .goto (-22), 3), (473, .aload_n 0, 1), (474, .getfield 208, 3), (477, .lreturn, 1)]
def qa_mX10_digest : qa_M := (yX10_digest, cX10_digest, 3, (some .long), 10, qa_iX10_digest, 1, 2, 9, 197, [], 1683, 1681, 1682)
def qa_iL_addSlide : List (Nat × Instr × Nat) := [(0, .aload 4, 2), (2, .iconst 0, 1), (3, .aload_n 0, 1), (4, .iload_n 1, 1), (5, .iload_n 2, 1), (6, .iload_n 3, 1), (7, .invokevirtual 7, 3), (10, .i2l, 1), (11, .lastore, 1), (12, .goto 11, 3), (15, .astore 5, 2), (17, .iconst 1, 1), (18, .ireturn, 1), (19, .astore 5, 2), (21, .iconst 2, 1), (22, .ireturn, 1), (23, .iconst 0, 1), (24, .ireturn, 1)]
def qa_mL_addSlide : qa_M := (yL_addSlide, cL_addSlide, 6, (some .int), 11, qa_iL_addSlide, 5, 1, 8, 136, [(0, 12, 15, 13), (0, 12, 19, 15)], 723, 722, 0)
def qa_iL_insert : List (Nat × Instr × Nat) := [(0, .aload_n 3, 1), (1, .iconst 0, 1), (2, .aload_n 0, 1), (3, .iload_n 1, 1), (4, .iload_n 2, 1), (5, .invokevirtual 17, 3), (8, .i2l, 1), (9, .lastore, 1), (10, .goto 11, 3), (13, .astore 4, 2), (15, .iconst 1, 1), (16, .ireturn, 1), (17, .astore 4, 2), (19, .iconst 2, 1), (20, .ireturn, 1), (21, .iconst 0, 1), (22, .ireturn, 1)]
def qa_mL_insert : qa_M := (yL_insert, cL_insert, 5, (some .int), 11, qa_iL_insert, 4, 1, 8, 134, [(0, 10, 13, 21), (0, 10, 17, 15)], 829, 828, 0)
def qa_iL_takeOut : List (Nat × Instr × Nat) := [(0, .aload_n 2, 1), (1, .iconst 0, 1), (2, .aload_n 0, 1), (3, .iload_n 1, 1), (4, .invokevirtual 23, 3), (7, .i2l, 1), (8, .lastore, 1), (9, .goto 6, 3), (12, .astore_n 3, 1), (13, .iconst 1, 1), (14, .ireturn, 1), (15, .iconst 0, 1), (16, .ireturn, 1)]
def qa_mL_takeOut : qa_M := (yL_takeOut, cL_takeOut, 4, (some .int), 11, qa_iL_takeOut, 3, 1, 8, 134, [(0, 9, 12, 21)], 864, 863, 0)
def qa_iL_goOn : List (Nat × Instr × Nat) := [(0, .aload_n 1, 1), (1, .iconst 0, 1), (2, .aload_n 0, 1), (3, .invokevirtual 27, 3), (6, .ifCond .eq 7, 3), (9, .lconst 1, 1), (10, .goto 4, 3), (13, .lconst 0, 1), (14, .lastore, 1), (15, .goto 6, 3), (18, .astore_n 2, 1), (19, .iconst 1, 1), (20, .ireturn, 1), (21, .iconst 0, 1), (22, .ireturn, 1)]
def qa_mL_goOn : qa_M := (yL_goOn, cL_goOn, 3, (some .int), 11, qa_iL_goOn, 2, 1, 8, 133, [(0, 15, 18, 15)], 879, 878, 0)
def qa_iL_ask : List (Nat × Instr × Nat) := [(0, .aload_n 2, 1), (1, .iconst 0, 1), (2, .aload_n 0, 1), (3, .iload_n 1, 1), (4, .invokevirtual 31, 3), (7, .i2l, 1), (8, .lastore, 1), (9, .goto 9, 3), (12, .astore_n 3, 1), (13, .iconst 1, 1), (14, .ireturn, 1), (15, .astore_n 3, 1), (16, .iconst 2, 1), (17, .ireturn, 1), (18, .iconst 0, 1), (19, .ireturn, 1)]
def qa_mL_ask : qa_M := (yL_ask, cL_ask, 4, (some .int), 11, qa_iL_ask, 3, 1, 8, 133, [(0, 9, 12, 21), (0, 9, 15, 15)], 888, 887, 0)
def qa_iL_burn : List (Nat × Instr × Nat) := [(0, .aload_n 2, 1), (1, .iconst 0, 1), (2, .aload_n 0, 1), (3, .iload_n 1, 1), (4, .invokevirtual 34, 3), (7, .i2l, 1), (8, .lastore, 1), (9, .goto 9, 3), (12, .astore_n 3, 1), (13, .iconst 1, 1), (14, .ireturn, 1), (15, .astore_n 3, 1), (16, .iconst 2, 1), (17, .ireturn, 1), (18, .iconst 0, 1), (19, .ireturn, 1)]
def qa_mL_burn : qa_M := (yL_burn, cL_burn, 4, (some .int), 11, qa_iL_burn, 3, 1, 8, 133, [(0, 9, 12, 21), (0, 9, 15, 15)], 903, 902, 0)
def qa_iL_tick : List (Nat × Instr × Nat) := [(0, .aload_n 2, 1), (1, .iconst 0, 1), (2, .aload_n 0, 1), (3, .iload_n 1, 1), (4, .invokevirtual 37, 3), (7, .i2l, 1), (8, .lastore, 1), (9, .goto 6, 3), (12, .astore_n 3, 1), (13, .iconst 1, 1), (14, .ireturn, 1), (15, .iconst 0, 1), (16, .ireturn, 1)]
def qa_mL_tick : qa_M := (yL_tick, cL_tick, 4, (some .int), 11, qa_iL_tick, 3, 1, 8, 177, [(0, 9, 12, 13)], 912, 911, 0)
def qa_iL_changeMemory : List (Nat × Instr × Nat) := [(0, .aload_n 2, 1), (1, .iconst 0, 1), (2, .aload_n 0, 1), (3, .iload_n 1, 1), (4, .invokevirtual 40, 3), (7, .i2l, 1), (8, .lastore, 1), (9, .goto 6, 3), (12, .astore_n 3, 1), (13, .iconst 1, 1), (14, .ireturn, 1), (15, .iconst 0, 1), (16, .ireturn, 1)]
def qa_mL_changeMemory : qa_M := (yL_changeMemory, cL_changeMemory, 4, (some .int), 11, qa_iL_changeMemory, 3, 1, 8, 134, [(0, 9, 12, 13)], 924, 923, 0)
def qa_iL_changeAhead : List (Nat × Instr × Nat) := [(0, .aload_n 2, 1), (1, .iconst 0, 1), (2, .aload_n 0, 1), (3, .iload_n 1, 1), (4, .invokevirtual 43, 3), (7, .i2l, 1), (8, .lastore, 1), (9, .goto 6, 3), (12, .astore_n 3, 1), (13, .iconst 1, 1), (14, .ireturn, 1), (15, .iconst 0, 1), (16, .ireturn, 1)]
def qa_mL_changeAhead : qa_M := (yL_changeAhead, cL_changeAhead, 4, (some .int), 11, qa_iL_changeAhead, 3, 1, 8, 134, [(0, 9, 12, 13)], 932, 931, 0)
def qa_iL_changeOrder : List (Nat × Instr × Nat) := [(0, .aload_n 2, 1), (1, .iconst 0, 1), (2, .aload_n 0, 1), (3, .iload_n 1, 1), (4, .invokevirtual 46, 3), (7, .i2l, 1), (8, .lastore, 1), (9, .goto 6, 3), (12, .astore_n 3, 1), (13, .iconst 1, 1), (14, .ireturn, 1), (15, .iconst 0, 1), (16, .ireturn, 1)]
def qa_mL_changeOrder : qa_M := (yL_changeOrder, cL_changeOrder, 4, (some .int), 11, qa_iL_changeOrder, 3, 1, 8, 134, [(0, 9, 12, 13)], 939, 938, 0)
def qa_iL_changeGlow : List (Nat × Instr × Nat) := [(0, .aload_n 2, 1), (1, .iconst 0, 1), (2, .aload_n 0, 1), (3, .iload_n 1, 1), (4, .invokevirtual 49, 3), (7, .i2l, 1), (8, .lastore, 1), (9, .goto 6, 3), (12, .astore_n 3, 1), (13, .iconst 1, 1), (14, .ireturn, 1), (15, .iconst 0, 1), (16, .ireturn, 1)]
def qa_mL_changeGlow : qa_M := (yL_changeGlow, cL_changeGlow, 4, (some .int), 11, qa_iL_changeGlow, 3, 1, 8, 134, [(0, 9, 12, 13)], 946, 945, 0)
def qa_iL_changePace : List (Nat × Instr × Nat) := [(0, .aload_n 2, 1), (1, .iconst 0, 1), (2, .aload_n 0, 1), (3, .iload_n 1, 1), (4, .invokevirtual 52, 3), (7, .i2l, 1), (8, .lastore, 1), (9, .goto 6, 3), (12, .astore_n 3, 1), (13, .iconst 1, 1), (14, .ireturn, 1), (15, .iconst 0, 1), (16, .ireturn, 1)]
def qa_mL_changePace : qa_M := (yL_changePace, cL_changePace, 4, (some .int), 11, qa_iL_changePace, 3, 1, 8, 134, [(0, 9, 12, 13)], 953, 952, 0)
def qa_iL_append : List (Nat × Instr × Nat) := [(0, .aload_n 2, 1), (1, .iconst 0, 1), (2, .aload_n 0, 1), (3, .iload_n 1, 1), (4, .invokevirtual 55, 3), (7, .i2l, 1), (8, .lastore, 1), (9, .goto 9, 3), (12, .astore_n 3, 1), (13, .iconst 1, 1), (14, .ireturn, 1), (15, .astore_n 3, 1), (16, .iconst 2, 1), (17, .ireturn, 1), (18, .iconst 0, 1), (19, .ireturn, 1)]
def qa_mL_append : qa_M := (yL_append, cL_append, 4, (some .int), 11, qa_iL_append, 3, 1, 8, 131, [(0, 9, 12, 13), (0, 9, 15, 15)], 960, 959, 0)
def qa_iL_follow : List (Nat × Instr × Nat) := [(0, .aload_n 1, 1), (1, .iconst 0, 1), (2, .aload_n 0, 1), (3, .invokevirtual 58, 3), (6, .i2l, 1), (7, .lastore, 1), (8, .goto 9, 3), (11, .astore_n 2, 1), (12, .iconst 1, 1), (13, .ireturn, 1), (14, .astore_n 2, 1), (15, .iconst 2, 1), (16, .ireturn, 1), (17, .iconst 0, 1), (18, .ireturn, 1)]
def qa_mL_follow : qa_M := (yL_follow, cL_follow, 3, (some .int), 11, qa_iL_follow, 2, 1, 8, 177, [(0, 8, 11, 13), (0, 8, 14, 15)], 972, 971, 0)
def qa_iL_keep : List (Nat × Instr × Nat) := [(0, .aload_n 0, 1), (1, .iload_n 1, 1), (2, .invokevirtual 62, 3), (5, .goto 6, 3), (8, .astore_n 2, 1), (9, .iconst 1, 1), (10, .ireturn, 1), (11, .iconst 0, 1), (12, .ireturn, 1)]
def qa_mL_keep : qa_M := (yL_keep, cL_keep, 3, (some .int), 11, qa_iL_keep, 2, 1, 8, 131, [(0, 5, 8, 13)], 1016, 1015, 0)
def qa_iL_goBack : List (Nat × Instr × Nat) := [(0, .aload_n 0, 1), (1, .iload_n 1, 1), (2, .invokevirtual 66, 3), (5, .goto 9, 3), (8, .astore_n 2, 1), (9, .iconst 1, 1), (10, .ireturn, 1), (11, .astore_n 2, 1), (12, .iconst 2, 1), (13, .ireturn, 1), (14, .iconst 0, 1), (15, .ireturn, 1)]
def qa_mL_goBack : qa_M := (yL_goBack, cL_goBack, 3, (some .int), 11, qa_iL_goBack, 2, 1, 8, 131, [(0, 5, 8, 13), (0, 5, 11, 15)], 1023, 1022, 0)
def qa_iL_undo : List (Nat × Instr × Nat) := [(0, .aload_n 0, 1), (1, .invokevirtual 69, 3), (4, .goto 6, 3), (7, .astore_n 1, 1), (8, .iconst 1, 1), (9, .ireturn, 1), (10, .iconst 0, 1), (11, .ireturn, 1)]
def qa_mL_undo : qa_M := (yL_undo, cL_undo, 2, (some .int), 11, qa_iL_undo, 1, 1, 8, 130, [(0, 4, 7, 15)], 1030, 1029, 0)
def qa_iL_costOf : List (Nat × Instr × Nat) := [(0, .aload_n 2, 1), (1, .iconst 0, 1), (2, .aload_n 0, 1), (3, .iload_n 1, 1), (4, .invokevirtual 72, 3), (7, .i2l, 1), (8, .lastore, 1), (9, .goto 6, 3), (12, .astore_n 3, 1), (13, .iconst 1, 1), (14, .ireturn, 1), (15, .iconst 0, 1), (16, .ireturn, 1)]
def qa_mL_costOf : qa_M := (yL_costOf, cL_costOf, 4, (some .int), 11, qa_iL_costOf, 3, 1, 8, 131, [(0, 9, 12, 21)], 1041, 1040, 0)
def qa_iL_loadOf : List (Nat × Instr × Nat) := [(0, .aload_n 2, 1), (1, .iconst 0, 1), (2, .aload_n 0, 1), (3, .iload_n 1, 1), (4, .invokevirtual 75, 3), (7, .i2l, 1), (8, .lastore, 1), (9, .goto 6, 3), (12, .astore_n 3, 1), (13, .iconst 1, 1), (14, .ireturn, 1), (15, .iconst 0, 1), (16, .ireturn, 1)]
def qa_mL_loadOf : qa_M := (yL_loadOf, cL_loadOf, 4, (some .int), 11, qa_iL_loadOf, 3, 1, 8, 131, [(0, 9, 12, 21)], 1048, 1047, 0)
def qa_iL_fadeOf : List (Nat × Instr × Nat) := [(0, .aload_n 2, 1), (1, .iconst 0, 1), (2, .aload_n 0, 1), (3, .iload_n 1, 1), (4, .invokevirtual 78, 3), (7, .i2l, 1), (8, .lastore, 1), (9, .goto 6, 3), (12, .astore_n 3, 1), (13, .iconst 1, 1), (14, .ireturn, 1), (15, .iconst 0, 1), (16, .ireturn, 1)]
def qa_mL_fadeOf : qa_M := (yL_fadeOf, cL_fadeOf, 4, (some .int), 11, qa_iL_fadeOf, 3, 1, 8, 131, [(0, 9, 12, 21)], 1055, 1054, 0)
def qa_iL_isLoaded : List (Nat × Instr × Nat) := [(0, .aload_n 2, 1), (1, .iconst 0, 1), (2, .aload_n 0, 1), (3, .iload_n 1, 1), (4, .invokevirtual 81, 3), (7, .ifCond .eq 7, 3), (10, .lconst 1, 1), (11, .goto 4, 3), (14, .lconst 0, 1), (15, .lastore, 1), (16, .goto 6, 3), (19, .astore_n 3, 1), (20, .iconst 1, 1), (21, .ireturn, 1), (22, .iconst 0, 1), (23, .ireturn, 1)]
def qa_mL_isLoaded : qa_M := (yL_isLoaded, cL_isLoaded, 4, (some .int), 11, qa_iL_isLoaded, 3, 1, 8, 131, [(0, 16, 19, 21)], 1062, 1061, 0)
def qa_iL_isOnShow : List (Nat × Instr × Nat) := [(0, .aload_n 2, 1), (1, .iconst 0, 1), (2, .aload_n 0, 1), (3, .iload_n 1, 1), (4, .invokevirtual 85, 3), (7, .ifCond .eq 7, 3), (10, .lconst 1, 1), (11, .goto 4, 3), (14, .lconst 0, 1), (15, .lastore, 1), (16, .goto 6, 3), (19, .astore_n 3, 1), (20, .iconst 1, 1), (21, .ireturn, 1), (22, .iconst 0, 1), (23, .ireturn, 1)]
def qa_mL_isOnShow : qa_M := (yL_isOnShow, cL_isOnShow, 4, (some .int), 11, qa_iL_isOnShow, 3, 1, 8, 131, [(0, 16, 19, 21)], 1069, 1068, 0)
def qa_iL_glowOf : List (Nat × Instr × Nat) := [(0, .aload_n 2, 1), (1, .iconst 0, 1), (2, .aload_n 0, 1), (3, .iload_n 1, 1), (4, .invokevirtual 88, 3), (7, .i2l, 1), (8, .lastore, 1), (9, .goto 6, 3), (12, .astore_n 3, 1), (13, .iconst 1, 1), (14, .ireturn, 1), (15, .iconst 0, 1), (16, .ireturn, 1)]
def qa_mL_glowOf : qa_M := (yL_glowOf, cL_glowOf, 4, (some .int), 11, qa_iL_glowOf, 3, 1, 8, 131, [(0, 9, 12, 21)], 1076, 1075, 0)
def qa_iL_burntTimes : List (Nat × Instr × Nat) := [(0, .aload_n 2, 1), (1, .iconst 0, 1), (2, .aload_n 0, 1), (3, .iload_n 1, 1), (4, .invokevirtual 91, 3), (7, .i2l, 1), (8, .lastore, 1), (9, .goto 6, 3), (12, .astore_n 3, 1), (13, .iconst 1, 1), (14, .ireturn, 1), (15, .iconst 0, 1), (16, .ireturn, 1)]
def qa_mL_burntTimes : qa_M := (yL_burntTimes, cL_burntTimes, 4, (some .int), 11, qa_iL_burntTimes, 3, 1, 8, 131, [(0, 9, 12, 21)], 1083, 1082, 0)
def qa_iL_nextUse : List (Nat × Instr × Nat) := [(0, .aload_n 2, 1), (1, .iconst 0, 1), (2, .aload_n 0, 1), (3, .iload_n 1, 1), (4, .invokevirtual 94, 3), (7, .i2l, 1), (8, .lastore, 1), (9, .goto 9, 3), (12, .astore_n 3, 1), (13, .iconst 1, 1), (14, .ireturn, 1), (15, .astore_n 3, 1), (16, .iconst 2, 1), (17, .ireturn, 1), (18, .iconst 0, 1), (19, .ireturn, 1)]
def qa_mL_nextUse : qa_M := (yL_nextUse, cL_nextUse, 4, (some .int), 11, qa_iL_nextUse, 3, 1, 8, 132, [(0, 9, 12, 21), (0, 9, 15, 15)], 1090, 1089, 0)
def qa_iL_burnPlace : List (Nat × Instr × Nat) := [(0, .aload_n 2, 1), (1, .iconst 0, 1), (2, .aload_n 0, 1), (3, .iload_n 1, 1), (4, .invokevirtual 97, 3), (7, .i2l, 1), (8, .lastore, 1), (9, .goto 9, 3), (12, .astore_n 3, 1), (13, .iconst 1, 1), (14, .ireturn, 1), (15, .astore_n 3, 1), (16, .iconst 2, 1), (17, .ireturn, 1), (18, .iconst 0, 1), (19, .ireturn, 1)]
def qa_mL_burnPlace : qa_M := (yL_burnPlace, cL_burnPlace, 4, (some .int), 11, qa_iL_burnPlace, 3, 1, 8, 132, [(0, 9, 12, 21), (0, 9, 15, 15)], 1097, 1096, 0)
def qa_iL_slideAt : List (Nat × Instr × Nat) := [(0, .aload_n 2, 1), (1, .iconst 0, 1), (2, .aload_n 0, 1), (3, .iload_n 1, 1), (4, .invokevirtual 100, 3), (7, .i2l, 1), (8, .lastore, 1), (9, .goto 6, 3), (12, .astore_n 3, 1), (13, .iconst 1, 1), (14, .ireturn, 1), (15, .iconst 0, 1), (16, .ireturn, 1)]
def qa_mL_slideAt : qa_M := (yL_slideAt, cL_slideAt, 4, (some .int), 11, qa_iL_slideAt, 3, 1, 8, 131, [(0, 9, 12, 21)], 1104, 1103, 0)
def qa_iL_showPlace : List (Nat × Instr × Nat) := [(0, .aload_n 1, 1), (1, .iconst 0, 1), (2, .aload_n 0, 1), (3, .invokevirtual 103, 3), (6, .i2l, 1), (7, .lastore, 1), (8, .goto 6, 3), (11, .astore_n 2, 1), (12, .iconst 1, 1), (13, .ireturn, 1), (14, .iconst 0, 1), (15, .ireturn, 1)]
def qa_mL_showPlace : qa_M := (yL_showPlace, cL_showPlace, 3, (some .int), 11, qa_iL_showPlace, 2, 1, 8, 130, [(0, 8, 11, 15)], 1111, 1110, 0)
def qa_iL_shown : List (Nat × Instr × Nat) := [(0, .aload_n 1, 1), (1, .iconst 0, 1), (2, .aload_n 0, 1), (3, .invokevirtual 106, 3), (6, .i2l, 1), (7, .lastore, 1), (8, .goto 6, 3), (11, .astore_n 2, 1), (12, .iconst 1, 1), (13, .ireturn, 1), (14, .iconst 0, 1), (15, .ireturn, 1)]
def qa_mL_shown : qa_M := (yL_shown, cL_shown, 3, (some .int), 11, qa_iL_shown, 2, 1, 8, 130, [(0, 8, 11, 15)], 1118, 1117, 0)
def qa_iL_fading : List (Nat × Instr × Nat) := [(0, .aload_n 1, 1), (1, .iconst 0, 1), (2, .aload_n 0, 1), (3, .invokevirtual 109, 3), (6, .i2l, 1), (7, .lastore, 1), (8, .goto 6, 3), (11, .astore_n 2, 1), (12, .iconst 1, 1), (13, .ireturn, 1), (14, .iconst 0, 1), (15, .ireturn, 1)]
def qa_mL_fading : qa_M := (yL_fading, cL_fading, 3, (some .int), 11, qa_iL_fading, 2, 1, 8, 130, [(0, 8, 11, 15)], 1125, 1124, 0)
def qa_iL_awaited : List (Nat × Instr × Nat) := [(0, .aload_n 1, 1), (1, .iconst 0, 1), (2, .aload_n 0, 1), (3, .invokevirtual 112, 3), (6, .i2l, 1), (7, .lastore, 1), (8, .goto 6, 3), (11, .astore_n 2, 1), (12, .iconst 1, 1), (13, .ireturn, 1), (14, .iconst 0, 1), (15, .ireturn, 1)]
def qa_mL_awaited : qa_M := (yL_awaited, cL_awaited, 3, (some .int), 11, qa_iL_awaited, 2, 1, 8, 130, [(0, 8, 11, 15)], 1132, 1131, 0)
def qa_iL_shownFor : List (Nat × Instr × Nat) := [(0, .aload_n 1, 1), (1, .iconst 0, 1), (2, .aload_n 0, 1), (3, .invokevirtual 115, 3), (6, .i2l, 1), (7, .lastore, 1), (8, .goto 6, 3), (11, .astore_n 2, 1), (12, .iconst 1, 1), (13, .ireturn, 1), (14, .iconst 0, 1), (15, .ireturn, 1)]
def qa_mL_shownFor : qa_M := (yL_shownFor, cL_shownFor, 3, (some .int), 11, qa_iL_shownFor, 2, 1, 8, 130, [(0, 8, 11, 15)], 1139, 1138, 0)
def qa_iL_loading : List (Nat × Instr × Nat) := [(0, .aload_n 1, 1), (1, .iconst 0, 1), (2, .aload_n 0, 1), (3, .invokevirtual 118, 3), (6, .i2l, 1), (7, .lastore, 1), (8, .goto 6, 3), (11, .astore_n 2, 1), (12, .iconst 1, 1), (13, .ireturn, 1), (14, .iconst 0, 1), (15, .ireturn, 1)]
def qa_mL_loading : qa_M := (yL_loading, cL_loading, 3, (some .int), 11, qa_iL_loading, 2, 1, 8, 130, [(0, 8, 11, 15)], 1146, 1145, 0)
def qa_iL_askedAt : List (Nat × Instr × Nat) := [(0, .aload_n 2, 1), (1, .iconst 0, 1), (2, .aload_n 0, 1), (3, .iload_n 1, 1), (4, .invokevirtual 121, 3), (7, .i2l, 1), (8, .lastore, 1), (9, .goto 6, 3), (12, .astore_n 3, 1), (13, .iconst 1, 1), (14, .ireturn, 1), (15, .iconst 0, 1), (16, .ireturn, 1)]
def qa_mL_askedAt : qa_M := (yL_askedAt, cL_askedAt, 4, (some .int), 11, qa_iL_askedAt, 3, 1, 8, 131, [(0, 9, 12, 21)], 1153, 1152, 0)
def qa_iL_ticksToShowByTicks : List (Nat × Instr × Nat) := [(0, .aload_n 1, 1), (1, .iconst 0, 1), (2, .aload_n 0, 1), (3, .invokevirtual 124, 3), (6, .i2l, 1), (7, .lastore, 1), (8, .goto 6, 3), (11, .astore_n 2, 1), (12, .iconst 1, 1), (13, .ireturn, 1), (14, .iconst 0, 1), (15, .ireturn, 1)]
def qa_mL_ticksToShowByTicks : qa_M := (yL_ticksToShowByTicks, cL_ticksToShowByTicks, 3, (some .int), 11, qa_iL_ticksToShowByTicks, 2, 1, 8, 174, [(0, 8, 11, 15)], 1160, 1159, 0)
def qa_iL_ticksToShowBySums : List (Nat × Instr × Nat) := [(0, .aload_n 1, 1), (1, .iconst 0, 1), (2, .aload_n 0, 1), (3, .invokevirtual 127, 3), (6, .i2l, 1), (7, .lastore, 1), (8, .goto 6, 3), (11, .astore_n 2, 1), (12, .iconst 1, 1), (13, .ireturn, 1), (14, .iconst 0, 1), (15, .ireturn, 1)]
def qa_mL_ticksToShowBySums : qa_M := (yL_ticksToShowBySums, cL_ticksToShowBySums, 3, (some .int), 11, qa_iL_ticksToShowBySums, 2, 1, 8, 130, [(0, 8, 11, 15)], 1167, 1166, 0)
def qa_iL_burningsFor : List (Nat × Instr × Nat) := [(0, .aload_n 2, 1), (1, .iconst 0, 1), (2, .aload_n 0, 1), (3, .iload_n 1, 1), (4, .invokevirtual 130, 3), (7, .i2l, 1), (8, .lastore, 1), (9, .goto 6, 3), (12, .astore_n 3, 1), (13, .iconst 1, 1), (14, .ireturn, 1), (15, .iconst 0, 1), (16, .ireturn, 1)]
def qa_mL_burningsFor : qa_M := (yL_burningsFor, cL_burningsFor, 4, (some .int), 11, qa_iL_burningsFor, 3, 1, 8, 131, [(0, 9, 12, 21)], 1174, 1173, 0)
def qa_iL_missesWith : List (Nat × Instr × Nat) := [(0, .aload_n 2, 1), (1, .iconst 0, 1), (2, .aload_n 0, 1), (3, .iload_n 1, 1), (4, .invokevirtual 133, 3), (7, .i2l, 1), (8, .lastore, 1), (9, .goto 9, 3), (12, .astore_n 3, 1), (13, .iconst 1, 1), (14, .ireturn, 1), (15, .astore_n 3, 1), (16, .iconst 2, 1), (17, .ireturn, 1), (18, .iconst 0, 1), (19, .ireturn, 1)]
def qa_mL_missesWith : qa_M := (yL_missesWith, cL_missesWith, 4, (some .int), 11, qa_iL_missesWith, 3, 1, 8, 178, [(0, 9, 12, 13), (0, 9, 15, 15)], 1181, 1180, 0)
def qa_iL_bestOrder : List (Nat × Instr × Nat) := [(0, .aload_n 1, 1), (1, .iconst 0, 1), (2, .aload_n 0, 1), (3, .invokevirtual 136, 3), (6, .i2l, 1), (7, .lastore, 1), (8, .goto 6, 3), (11, .astore_n 2, 1), (12, .iconst 1, 1), (13, .ireturn, 1), (14, .iconst 0, 1), (15, .ireturn, 1)]
def qa_mL_bestOrder : qa_M := (yL_bestOrder, cL_bestOrder, 3, (some .int), 11, qa_iL_bestOrder, 2, 1, 8, 181, [(0, 8, 11, 15)], 1192, 1191, 0)
def qa_iL_law_0 : List (Nat × Instr × Nat) := [(0, .new 8, 3), (3, .dup, 1), (4, .invokespecial 139, 3), (7, .astore_n 1, 1), (8, .new 140, 3), (11, .dup, 1), (12, .invokespecial 142, 3), (15, .astore_n 2, 1), (16, .iconst 1, 1), (17, .newarray .long, 2), (19, .astore_n 3, 1), (20, .iconst 0, 1), (21, .istore 4, 2), (23, .iload 4, 2), (25, .aload_n 0, 1), (26, .arraylength, 1), (27, .iconst 4, 1), (28, .isub, 1), (29, .if_icmp .gt 2659, 3), (32, .aload_n 0, 1), (33, .iload 4, 2), (35, .iaload, 1), (36, .bipush 63, 2), (38, .iand, 1), (39, .tableswitch 2643 0 62 #[265, 345, 413, 469, 520, 576, 632, 688, 744, 800, 856, 912, 968, 1024, 1037, 1050, 1094, 1130, 1166, 1190, 1203, 1216, 1272, 1328, 1384, 1447, 1510, 1566, 1622, 1678, 1734, 1747, 1803, 1847, 1891, 1935, 1948, 1992, 2036, 2080, 2093, 2106, 2162, 2175, 2188, 2201, 2214, 2227, 2240, 2253, 2297, 2341, 2397, 2453, 2497, 2510, 2523, 2536, 2549, 2562, 2575, 2588, 2629], 265), (304, .aload_n 1, 1), (305, .aload_n 0, 1), (306, .iload 4, 2), (308, .iconst 1, 1), (309, .iadd, 1), (310, .iaload, 1), (311, .aload_n 0, 1), (312, .iload 4, 2), (314, .iconst 2, 1), (315, .iadd, 1), (316, .iaload, 1), (317, .aload_n 0, 1), (318, .iload 4, 2), (320, .iconst 3, 1), (321, .iadd, 1), (322, .iaload, 1), (323, .aload_n 3, 1), (324, .invokestatic 143, 3), (327, .istore 5, 2), (329, .aload_n 2, 1), (330, .aload_n 0, 1), (331, .iload 4, 2), (333, .iconst 1, 1), (334, .iadd, 1), (335, .iaload, 1), (336, .aload_n 0, 1), (337, .iload 4, 2), (339, .iconst 2, 1), (340, .iadd, 1), (341, .iaload, 1), (342, .aload_n 0, 1), (343, .iload 4, 2), (345, .iconst 3, 1), (346, .iadd, 1), (347, .iaload, 1)]
def qa_iL_law_1 : List (Nat × Instr × Nat) := [(348, .invokevirtual 148, 3), (351, .istore 6, 2), (353, .aload_n 2, 1), (354, .invokevirtual 149, 3), (357, .iload 5, 2), (359, .if_icmp .eq 5, 3), (362, .iconst 0, 1), (363, .ireturn, 1), (364, .iload 5, 2), (366, .ifCond .ne 15, 3), (369, .aload_n 3, 1), (370, .iconst 0, 1), (371, .laload, 1), (372, .iload 6, 2), (374, .i2l, 1), (375, .lcmp, 1), (376, .ifCond .eq 5, 3), (379, .iconst 0, 1), (380, .ireturn, 1), (381, .goto 2301, 3), (384, .aload_n 1, 1), (385, .aload_n 0, 1), (386, .iload 4, 2), (388, .iconst 1, 1), (389, .iadd, 1), (390, .iaload, 1), (391, .aload_n 0, 1), (392, .iload 4, 2), (394, .iconst 2, 1), (395, .iadd, 1), (396, .iaload, 1), (397, .aload_n 3, 1), (398, .invokestatic 152, 3), (401, .istore 5, 2), (403, .aload_n 2, 1), (404, .aload_n 0, 1), (405, .iload 4, 2), (407, .iconst 1, 1), (408, .iadd, 1), (409, .iaload, 1), (410, .aload_n 0, 1), (411, .iload 4, 2), (413, .iconst 2, 1), (414, .iadd, 1), (415, .iaload, 1), (416, .invokevirtual 155, 3), (419, .istore 6, 2), (421, .aload_n 2, 1), (422, .invokevirtual 149, 3), (425, .iload 5, 2), (427, .if_icmp .eq 5, 3), (430, .iconst 0, 1), (431, .ireturn, 1), (432, .iload 5, 2), (434, .ifCond .ne 15, 3), (437, .aload_n 3, 1), (438, .iconst 0, 1), (439, .laload, 1), (440, .iload 6, 2), (442, .i2l, 1)]
def qa_iL_law_2 : List (Nat × Instr × Nat) := [(443, .lcmp, 1), (444, .ifCond .eq 5, 3), (447, .iconst 0, 1), (448, .ireturn, 1), (449, .goto 2233, 3), (452, .aload_n 1, 1), (453, .aload_n 0, 1), (454, .iload 4, 2), (456, .iconst 1, 1), (457, .iadd, 1), (458, .iaload, 1), (459, .aload_n 3, 1), (460, .invokestatic 156, 3), (463, .istore 5, 2), (465, .aload_n 2, 1), (466, .aload_n 0, 1), (467, .iload 4, 2), (469, .iconst 1, 1), (470, .iadd, 1), (471, .iaload, 1), (472, .invokevirtual 159, 3), (475, .istore 6, 2), (477, .aload_n 2, 1), (478, .invokevirtual 149, 3), (481, .iload 5, 2), (483, .if_icmp .eq 5, 3), (486, .iconst 0, 1), (487, .ireturn, 1), (488, .iload 5, 2), (490, .ifCond .ne 15, 3), (493, .aload_n 3, 1), (494, .iconst 0, 1), (495, .laload, 1), (496, .iload 6, 2), (498, .i2l, 1), (499, .lcmp, 1), (500, .ifCond .eq 5, 3), (503, .iconst 0, 1), (504, .ireturn, 1), (505, .goto 2177, 3), (508, .aload_n 1, 1), (509, .aload_n 3, 1), (510, .invokestatic 160, 3), (513, .istore 5, 2), (515, .aload_n 2, 1), (516, .invokevirtual 163, 3), (519, .istore 6, 2), (521, .aload_n 2, 1), (522, .invokevirtual 149, 3), (525, .iload 5, 2), (527, .if_icmp .eq 5, 3), (530, .iconst 0, 1), (531, .ireturn, 1), (532, .iload 5, 2), (534, .ifCond .ne 22, 3), (537, .aload_n 3, 1), (538, .iconst 0, 1), (539, .laload, 1), (540, .iload 6, 2), (542, .ifCond .eq 7, 3)]
def qa_iL_law_3 : List (Nat × Instr × Nat) := [(545, .lconst 1, 1), (546, .goto 4, 3), (549, .lconst 0, 1), (550, .lcmp, 1), (551, .ifCond .eq 5, 3), (554, .iconst 0, 1), (555, .ireturn, 1), (556, .goto 2126, 3), (559, .aload_n 1, 1), (560, .aload_n 0, 1), (561, .iload 4, 2), (563, .iconst 1, 1), (564, .iadd, 1), (565, .iaload, 1), (566, .aload_n 3, 1), (567, .invokestatic 164, 3), (570, .istore 5, 2), (572, .aload_n 2, 1), (573, .aload_n 0, 1), (574, .iload 4, 2), (576, .iconst 1, 1), (577, .iadd, 1), (578, .iaload, 1), (579, .invokevirtual 166, 3), (582, .istore 6, 2), (584, .aload_n 2, 1), (585, .invokevirtual 149, 3), (588, .iload 5, 2), (590, .if_icmp .eq 5, 3), (593, .iconst 0, 1), (594, .ireturn, 1), (595, .iload 5, 2), (597, .ifCond .ne 15, 3), (600, .aload_n 3, 1), (601, .iconst 0, 1), (602, .laload, 1), (603, .iload 6, 2), (605, .i2l, 1), (606, .lcmp, 1), (607, .ifCond .eq 5, 3), (610, .iconst 0, 1), (611, .ireturn, 1), (612, .goto 2070, 3), (615, .aload_n 1, 1), (616, .aload_n 0, 1), (617, .iload 4, 2), (619, .iconst 1, 1), (620, .iadd, 1), (621, .iaload, 1), (622, .aload_n 3, 1), (623, .invokestatic 167, 3), (626, .istore 5, 2), (628, .aload_n 2, 1), (629, .aload_n 0, 1), (630, .iload 4, 2), (632, .iconst 1, 1), (633, .iadd, 1), (634, .iaload, 1), (635, .invokevirtual 169, 3), (638, .istore 6, 2)]
def qa_iL_law_4 : List (Nat × Instr × Nat) := [(640, .aload_n 2, 1), (641, .invokevirtual 149, 3), (644, .iload 5, 2), (646, .if_icmp .eq 5, 3), (649, .iconst 0, 1), (650, .ireturn, 1), (651, .iload 5, 2), (653, .ifCond .ne 15, 3), (656, .aload_n 3, 1), (657, .iconst 0, 1), (658, .laload, 1), (659, .iload 6, 2), (661, .i2l, 1), (662, .lcmp, 1), (663, .ifCond .eq 5, 3), (666, .iconst 0, 1), (667, .ireturn, 1), (668, .goto 2014, 3), (671, .aload_n 1, 1), (672, .aload_n 0, 1), (673, .iload 4, 2), (675, .iconst 1, 1), (676, .iadd, 1), (677, .iaload, 1), (678, .aload_n 3, 1), (679, .invokestatic 170, 3), (682, .istore 5, 2), (684, .aload_n 2, 1), (685, .aload_n 0, 1), (686, .iload 4, 2), (688, .iconst 1, 1), (689, .iadd, 1), (690, .iaload, 1), (691, .invokevirtual 172, 3), (694, .istore 6, 2), (696, .aload_n 2, 1), (697, .invokevirtual 149, 3), (700, .iload 5, 2), (702, .if_icmp .eq 5, 3), (705, .iconst 0, 1), (706, .ireturn, 1), (707, .iload 5, 2), (709, .ifCond .ne 15, 3), (712, .aload_n 3, 1), (713, .iconst 0, 1), (714, .laload, 1), (715, .iload 6, 2), (717, .i2l, 1), (718, .lcmp, 1), (719, .ifCond .eq 5, 3), (722, .iconst 0, 1), (723, .ireturn, 1), (724, .goto 1958, 3), (727, .aload_n 1, 1), (728, .aload_n 0, 1), (729, .iload 4, 2), (731, .iconst 1, 1), (732, .iadd, 1), (733, .iaload, 1), (734, .aload_n 3, 1)]
def qa_iL_law_5 : List (Nat × Instr × Nat) := [(735, .invokestatic 173, 3), (738, .istore 5, 2), (740, .aload_n 2, 1), (741, .aload_n 0, 1), (742, .iload 4, 2), (744, .iconst 1, 1), (745, .iadd, 1), (746, .iaload, 1), (747, .invokevirtual 175, 3), (750, .istore 6, 2), (752, .aload_n 2, 1), (753, .invokevirtual 149, 3), (756, .iload 5, 2), (758, .if_icmp .eq 5, 3), (761, .iconst 0, 1), (762, .ireturn, 1), (763, .iload 5, 2), (765, .ifCond .ne 15, 3), (768, .aload_n 3, 1), (769, .iconst 0, 1), (770, .laload, 1), (771, .iload 6, 2), (773, .i2l, 1), (774, .lcmp, 1), (775, .ifCond .eq 5, 3), (778, .iconst 0, 1), (779, .ireturn, 1), (780, .goto 1902, 3), (783, .aload_n 1, 1), (784, .aload_n 0, 1), (785, .iload 4, 2), (787, .iconst 1, 1), (788, .iadd, 1), (789, .iaload, 1), (790, .aload_n 3, 1), (791, .invokestatic 176, 3), (794, .istore 5, 2), (796, .aload_n 2, 1), (797, .aload_n 0, 1), (798, .iload 4, 2), (800, .iconst 1, 1), (801, .iadd, 1), (802, .iaload, 1), (803, .invokevirtual 178, 3), (806, .istore 6, 2), (808, .aload_n 2, 1), (809, .invokevirtual 149, 3), (812, .iload 5, 2), (814, .if_icmp .eq 5, 3), (817, .iconst 0, 1), (818, .ireturn, 1), (819, .iload 5, 2), (821, .ifCond .ne 15, 3), (824, .aload_n 3, 1), (825, .iconst 0, 1), (826, .laload, 1), (827, .iload 6, 2), (829, .i2l, 1), (830, .lcmp, 1), (831, .ifCond .eq 5, 3)]
def qa_iL_law_6 : List (Nat × Instr × Nat) := [(834, .iconst 0, 1), (835, .ireturn, 1), (836, .goto 1846, 3), (839, .aload_n 1, 1), (840, .aload_n 0, 1), (841, .iload 4, 2), (843, .iconst 1, 1), (844, .iadd, 1), (845, .iaload, 1), (846, .aload_n 3, 1), (847, .invokestatic 179, 3), (850, .istore 5, 2), (852, .aload_n 2, 1), (853, .aload_n 0, 1), (854, .iload 4, 2), (856, .iconst 1, 1), (857, .iadd, 1), (858, .iaload, 1), (859, .invokevirtual 181, 3), (862, .istore 6, 2), (864, .aload_n 2, 1), (865, .invokevirtual 149, 3), (868, .iload 5, 2), (870, .if_icmp .eq 5, 3), (873, .iconst 0, 1), (874, .ireturn, 1), (875, .iload 5, 2), (877, .ifCond .ne 15, 3), (880, .aload_n 3, 1), (881, .iconst 0, 1), (882, .laload, 1), (883, .iload 6, 2), (885, .i2l, 1), (886, .lcmp, 1), (887, .ifCond .eq 5, 3), (890, .iconst 0, 1), (891, .ireturn, 1), (892, .goto 1790, 3), (895, .aload_n 1, 1), (896, .aload_n 0, 1), (897, .iload 4, 2), (899, .iconst 1, 1), (900, .iadd, 1), (901, .iaload, 1), (902, .aload_n 3, 1), (903, .invokestatic 182, 3), (906, .istore 5, 2), (908, .aload_n 2, 1), (909, .aload_n 0, 1), (910, .iload 4, 2), (912, .iconst 1, 1), (913, .iadd, 1), (914, .iaload, 1), (915, .invokevirtual 184, 3), (918, .istore 6, 2), (920, .aload_n 2, 1), (921, .invokevirtual 149, 3), (924, .iload 5, 2), (926, .if_icmp .eq 5, 3), (929, .iconst 0, 1)]
def qa_iL_law_7 : List (Nat × Instr × Nat) := [(930, .ireturn, 1), (931, .iload 5, 2), (933, .ifCond .ne 15, 3), (936, .aload_n 3, 1), (937, .iconst 0, 1), (938, .laload, 1), (939, .iload 6, 2), (941, .i2l, 1), (942, .lcmp, 1), (943, .ifCond .eq 5, 3), (946, .iconst 0, 1), (947, .ireturn, 1), (948, .goto 1734, 3), (951, .aload_n 1, 1), (952, .aload_n 0, 1), (953, .iload 4, 2), (955, .iconst 1, 1), (956, .iadd, 1), (957, .iaload, 1), (958, .aload_n 3, 1), (959, .invokestatic 185, 3), (962, .istore 5, 2), (964, .aload_n 2, 1), (965, .aload_n 0, 1), (966, .iload 4, 2), (968, .iconst 1, 1), (969, .iadd, 1), (970, .iaload, 1), (971, .invokevirtual 187, 3), (974, .istore 6, 2), (976, .aload_n 2, 1), (977, .invokevirtual 149, 3), (980, .iload 5, 2), (982, .if_icmp .eq 5, 3), (985, .iconst 0, 1), (986, .ireturn, 1), (987, .iload 5, 2), (989, .ifCond .ne 15, 3), (992, .aload_n 3, 1), (993, .iconst 0, 1), (994, .laload, 1), (995, .iload 6, 2), (997, .i2l, 1), (998, .lcmp, 1), (999, .ifCond .eq 5, 3), (1002, .iconst 0, 1), (1003, .ireturn, 1), (1004, .goto 1678, 3), (1007, .aload_n 1, 1), (1008, .aload_n 0, 1), (1009, .iload 4, 2), (1011, .iconst 1, 1), (1012, .iadd, 1), (1013, .iaload, 1), (1014, .aload_n 3, 1), (1015, .invokestatic 188, 3), (1018, .istore 5, 2), (1020, .aload_n 2, 1), (1021, .aload_n 0, 1), (1022, .iload 4, 2)]
def qa_iL_law_8 : List (Nat × Instr × Nat) := [(1024, .iconst 1, 1), (1025, .iadd, 1), (1026, .iaload, 1), (1027, .invokevirtual 190, 3), (1030, .istore 6, 2), (1032, .aload_n 2, 1), (1033, .invokevirtual 149, 3), (1036, .iload 5, 2), (1038, .if_icmp .eq 5, 3), (1041, .iconst 0, 1), (1042, .ireturn, 1), (1043, .iload 5, 2), (1045, .ifCond .ne 15, 3), (1048, .aload_n 3, 1), (1049, .iconst 0, 1), (1050, .laload, 1), (1051, .iload 6, 2), (1053, .i2l, 1), (1054, .lcmp, 1), (1055, .ifCond .eq 5, 3), (1058, .iconst 0, 1), (1059, .ireturn, 1), (1060, .goto 1622, 3), (1063, .aload_n 1, 1), (1064, .invokevirtual 191, 3), (1067, .aload_n 2, 1), (1068, .invokevirtual 194, 3), (1071, .if_icmp .eq 1611, 3), (1074, .iconst 0, 1), (1075, .ireturn, 1), (1076, .aload_n 1, 1), (1077, .invokevirtual 195, 3), (1080, .aload_n 2, 1), (1081, .invokevirtual 198, 3), (1084, .if_icmp .eq 1598, 3), (1087, .iconst 0, 1), (1088, .ireturn, 1), (1089, .aload_n 1, 1), (1090, .aload_n 3, 1), (1091, .invokestatic 199, 3), (1094, .istore 5, 2), (1096, .aload_n 2, 1), (1097, .invokevirtual 201, 3), (1100, .istore 6, 2), (1102, .aload_n 2, 1), (1103, .invokevirtual 149, 3), (1106, .iload 5, 2), (1108, .if_icmp .eq 5, 3), (1111, .iconst 0, 1), (1112, .ireturn, 1), (1113, .iload 5, 2), (1115, .ifCond .ne 15, 3), (1118, .aload_n 3, 1), (1119, .iconst 0, 1), (1120, .laload, 1), (1121, .iload 6, 2), (1123, .i2l, 1), (1124, .lcmp, 1), (1125, .ifCond .eq 5, 3), (1128, .iconst 0, 1)]
def qa_iL_law_9 : List (Nat × Instr × Nat) := [(1129, .ireturn, 1), (1130, .goto 1552, 3), (1133, .aload_n 1, 1), (1134, .aload_n 0, 1), (1135, .iload 4, 2), (1137, .iconst 1, 1), (1138, .iadd, 1), (1139, .iaload, 1), (1140, .invokestatic 202, 3), (1143, .istore 5, 2), (1145, .aload_n 2, 1), (1146, .aload_n 0, 1), (1147, .iload 4, 2), (1149, .iconst 1, 1), (1150, .iadd, 1), (1151, .iaload, 1), (1152, .invokevirtual 205, 3), (1155, .aload_n 2, 1), (1156, .invokevirtual 149, 3), (1159, .iload 5, 2), (1161, .if_icmp .eq 5, 3), (1164, .iconst 0, 1), (1165, .ireturn, 1), (1166, .goto 1516, 3), (1169, .aload_n 1, 1), (1170, .aload_n 0, 1), (1171, .iload 4, 2), (1173, .iconst 1, 1), (1174, .iadd, 1), (1175, .iaload, 1), (1176, .invokestatic 206, 3), (1179, .istore 5, 2), (1181, .aload_n 2, 1), (1182, .aload_n 0, 1), (1183, .iload 4, 2), (1185, .iconst 1, 1), (1186, .iadd, 1), (1187, .iaload, 1), (1188, .invokevirtual 208, 3), (1191, .aload_n 2, 1), (1192, .invokevirtual 149, 3), (1195, .iload 5, 2), (1197, .if_icmp .eq 5, 3), (1200, .iconst 0, 1), (1201, .ireturn, 1), (1202, .goto 1480, 3), (1205, .aload_n 1, 1), (1206, .invokestatic 209, 3), (1209, .istore 5, 2), (1211, .aload_n 2, 1), (1212, .invokevirtual 212, 3), (1215, .aload_n 2, 1), (1216, .invokevirtual 149, 3), (1219, .iload 5, 2), (1221, .if_icmp .eq 5, 3), (1224, .iconst 0, 1), (1225, .ireturn, 1), (1226, .goto 1456, 3), (1229, .aload_n 1, 1), (1230, .invokevirtual 213, 3)]
def qa_iL_law_10 : List (Nat × Instr × Nat) := [(1233, .aload_n 2, 1), (1234, .invokevirtual 216, 3), (1237, .if_icmp .eq 1445, 3), (1240, .iconst 0, 1), (1241, .ireturn, 1), (1242, .aload_n 1, 1), (1243, .invokevirtual 217, 3), (1246, .aload_n 2, 1), (1247, .invokevirtual 220, 3), (1250, .if_icmp .eq 1432, 3), (1253, .iconst 0, 1), (1254, .ireturn, 1), (1255, .aload_n 1, 1), (1256, .aload_n 0, 1), (1257, .iload 4, 2), (1259, .iconst 1, 1), (1260, .iadd, 1), (1261, .iaload, 1), (1262, .aload_n 3, 1), (1263, .invokestatic 221, 3), (1266, .istore 5, 2), (1268, .aload_n 2, 1), (1269, .aload_n 0, 1), (1270, .iload 4, 2), (1272, .iconst 1, 1), (1273, .iadd, 1), (1274, .iaload, 1), (1275, .invokevirtual 223, 3), (1278, .istore 6, 2), (1280, .aload_n 2, 1), (1281, .invokevirtual 149, 3), (1284, .iload 5, 2), (1286, .if_icmp .eq 5, 3), (1289, .iconst 0, 1), (1290, .ireturn, 1), (1291, .iload 5, 2), (1293, .ifCond .ne 15, 3), (1296, .aload_n 3, 1), (1297, .iconst 0, 1), (1298, .laload, 1), (1299, .iload 6, 2), (1301, .i2l, 1), (1302, .lcmp, 1), (1303, .ifCond .eq 5, 3), (1306, .iconst 0, 1), (1307, .ireturn, 1), (1308, .goto 1374, 3), (1311, .aload_n 1, 1), (1312, .aload_n 0, 1), (1313, .iload 4, 2), (1315, .iconst 1, 1), (1316, .iadd, 1), (1317, .iaload, 1), (1318, .aload_n 3, 1), (1319, .invokestatic 224, 3), (1322, .istore 5, 2), (1324, .aload_n 2, 1), (1325, .aload_n 0, 1), (1326, .iload 4, 2), (1328, .iconst 1, 1)]
def qa_iL_law_11 : List (Nat × Instr × Nat) := [(1329, .iadd, 1), (1330, .iaload, 1), (1331, .invokevirtual 226, 3), (1334, .istore 6, 2), (1336, .aload_n 2, 1), (1337, .invokevirtual 149, 3), (1340, .iload 5, 2), (1342, .if_icmp .eq 5, 3), (1345, .iconst 0, 1), (1346, .ireturn, 1), (1347, .iload 5, 2), (1349, .ifCond .ne 15, 3), (1352, .aload_n 3, 1), (1353, .iconst 0, 1), (1354, .laload, 1), (1355, .iload 6, 2), (1357, .i2l, 1), (1358, .lcmp, 1), (1359, .ifCond .eq 5, 3), (1362, .iconst 0, 1), (1363, .ireturn, 1), (1364, .goto 1318, 3), (1367, .aload_n 1, 1), (1368, .aload_n 0, 1), (1369, .iload 4, 2), (1371, .iconst 1, 1), (1372, .iadd, 1), (1373, .iaload, 1), (1374, .aload_n 3, 1), (1375, .invokestatic 227, 3), (1378, .istore 5, 2), (1380, .aload_n 2, 1), (1381, .aload_n 0, 1), (1382, .iload 4, 2), (1384, .iconst 1, 1), (1385, .iadd, 1), (1386, .iaload, 1), (1387, .invokevirtual 229, 3), (1390, .istore 6, 2), (1392, .aload_n 2, 1), (1393, .invokevirtual 149, 3), (1396, .iload 5, 2), (1398, .if_icmp .eq 5, 3), (1401, .iconst 0, 1), (1402, .ireturn, 1), (1403, .iload 5, 2), (1405, .ifCond .ne 15, 3), (1408, .aload_n 3, 1), (1409, .iconst 0, 1), (1410, .laload, 1), (1411, .iload 6, 2), (1413, .i2l, 1), (1414, .lcmp, 1), (1415, .ifCond .eq 5, 3), (1418, .iconst 0, 1), (1419, .ireturn, 1), (1420, .goto 1262, 3), (1423, .aload_n 1, 1), (1424, .aload_n 0, 1), (1425, .iload 4, 2)]
def qa_iL_law_12 : List (Nat × Instr × Nat) := [(1427, .iconst 1, 1), (1428, .iadd, 1), (1429, .iaload, 1), (1430, .aload_n 3, 1), (1431, .invokestatic 230, 3), (1434, .istore 5, 2), (1436, .aload_n 2, 1), (1437, .aload_n 0, 1), (1438, .iload 4, 2), (1440, .iconst 1, 1), (1441, .iadd, 1), (1442, .iaload, 1), (1443, .invokevirtual 232, 3), (1446, .istore 6, 2), (1448, .aload_n 2, 1), (1449, .invokevirtual 149, 3), (1452, .iload 5, 2), (1454, .if_icmp .eq 5, 3), (1457, .iconst 0, 1), (1458, .ireturn, 1), (1459, .iload 5, 2), (1461, .ifCond .ne 22, 3), (1464, .aload_n 3, 1), (1465, .iconst 0, 1), (1466, .laload, 1), (1467, .iload 6, 2), (1469, .ifCond .eq 7, 3), (1472, .lconst 1, 1), (1473, .goto 4, 3), (1476, .lconst 0, 1), (1477, .lcmp, 1), (1478, .ifCond .eq 5, 3), (1481, .iconst 0, 1), (1482, .ireturn, 1), (1483, .goto 1199, 3), (1486, .aload_n 1, 1), (1487, .aload_n 0, 1), (1488, .iload 4, 2), (1490, .iconst 1, 1), (1491, .iadd, 1), (1492, .iaload, 1), (1493, .aload_n 3, 1), (1494, .invokestatic 233, 3), (1497, .istore 5, 2), (1499, .aload_n 2, 1), (1500, .aload_n 0, 1), (1501, .iload 4, 2), (1503, .iconst 1, 1), (1504, .iadd, 1), (1505, .iaload, 1), (1506, .invokevirtual 235, 3), (1509, .istore 6, 2), (1511, .aload_n 2, 1), (1512, .invokevirtual 149, 3), (1515, .iload 5, 2), (1517, .if_icmp .eq 5, 3), (1520, .iconst 0, 1), (1521, .ireturn, 1), (1522, .iload 5, 2), (1524, .ifCond .ne 22, 3)]
def qa_iL_law_13 : List (Nat × Instr × Nat) := [(1527, .aload_n 3, 1), (1528, .iconst 0, 1), (1529, .laload, 1), (1530, .iload 6, 2), (1532, .ifCond .eq 7, 3), (1535, .lconst 1, 1), (1536, .goto 4, 3), (1539, .lconst 0, 1), (1540, .lcmp, 1), (1541, .ifCond .eq 5, 3), (1544, .iconst 0, 1), (1545, .ireturn, 1), (1546, .goto 1136, 3), (1549, .aload_n 1, 1), (1550, .aload_n 0, 1), (1551, .iload 4, 2), (1553, .iconst 1, 1), (1554, .iadd, 1), (1555, .iaload, 1), (1556, .aload_n 3, 1), (1557, .invokestatic 236, 3), (1560, .istore 5, 2), (1562, .aload_n 2, 1), (1563, .aload_n 0, 1), (1564, .iload 4, 2), (1566, .iconst 1, 1), (1567, .iadd, 1), (1568, .iaload, 1), (1569, .invokevirtual 238, 3), (1572, .istore 6, 2), (1574, .aload_n 2, 1), (1575, .invokevirtual 149, 3), (1578, .iload 5, 2), (1580, .if_icmp .eq 5, 3), (1583, .iconst 0, 1), (1584, .ireturn, 1), (1585, .iload 5, 2), (1587, .ifCond .ne 15, 3), (1590, .aload_n 3, 1), (1591, .iconst 0, 1), (1592, .laload, 1), (1593, .iload 6, 2), (1595, .i2l, 1), (1596, .lcmp, 1), (1597, .ifCond .eq 5, 3), (1600, .iconst 0, 1), (1601, .ireturn, 1), (1602, .goto 1080, 3), (1605, .aload_n 1, 1), (1606, .aload_n 0, 1), (1607, .iload 4, 2), (1609, .iconst 1, 1), (1610, .iadd, 1), (1611, .iaload, 1), (1612, .aload_n 3, 1), (1613, .invokestatic 239, 3), (1616, .istore 5, 2), (1618, .aload_n 2, 1), (1619, .aload_n 0, 1), (1620, .iload 4, 2)]
def qa_iL_law_14 : List (Nat × Instr × Nat) := [(1622, .iconst 1, 1), (1623, .iadd, 1), (1624, .iaload, 1), (1625, .invokevirtual 241, 3), (1628, .istore 6, 2), (1630, .aload_n 2, 1), (1631, .invokevirtual 149, 3), (1634, .iload 5, 2), (1636, .if_icmp .eq 5, 3), (1639, .iconst 0, 1), (1640, .ireturn, 1), (1641, .iload 5, 2), (1643, .ifCond .ne 15, 3), (1646, .aload_n 3, 1), (1647, .iconst 0, 1), (1648, .laload, 1), (1649, .iload 6, 2), (1651, .i2l, 1), (1652, .lcmp, 1), (1653, .ifCond .eq 5, 3), (1656, .iconst 0, 1), (1657, .ireturn, 1), (1658, .goto 1024, 3), (1661, .aload_n 1, 1), (1662, .aload_n 0, 1), (1663, .iload 4, 2), (1665, .iconst 1, 1), (1666, .iadd, 1), (1667, .iaload, 1), (1668, .aload_n 3, 1), (1669, .invokestatic 242, 3), (1672, .istore 5, 2), (1674, .aload_n 2, 1), (1675, .aload_n 0, 1), (1676, .iload 4, 2), (1678, .iconst 1, 1), (1679, .iadd, 1), (1680, .iaload, 1), (1681, .invokevirtual 244, 3), (1684, .istore 6, 2), (1686, .aload_n 2, 1), (1687, .invokevirtual 149, 3), (1690, .iload 5, 2), (1692, .if_icmp .eq 5, 3), (1695, .iconst 0, 1), (1696, .ireturn, 1), (1697, .iload 5, 2), (1699, .ifCond .ne 15, 3), (1702, .aload_n 3, 1), (1703, .iconst 0, 1), (1704, .laload, 1), (1705, .iload 6, 2), (1707, .i2l, 1), (1708, .lcmp, 1), (1709, .ifCond .eq 5, 3), (1712, .iconst 0, 1), (1713, .ireturn, 1), (1714, .goto 968, 3), (1717, .aload_n 1, 1), (1718, .aload_n 0, 1)]
def qa_iL_law_15 : List (Nat × Instr × Nat) := [(1719, .iload 4, 2), (1721, .iconst 1, 1), (1722, .iadd, 1), (1723, .iaload, 1), (1724, .aload_n 3, 1), (1725, .invokestatic 245, 3), (1728, .istore 5, 2), (1730, .aload_n 2, 1), (1731, .aload_n 0, 1), (1732, .iload 4, 2), (1734, .iconst 1, 1), (1735, .iadd, 1), (1736, .iaload, 1), (1737, .invokevirtual 247, 3), (1740, .istore 6, 2), (1742, .aload_n 2, 1), (1743, .invokevirtual 149, 3), (1746, .iload 5, 2), (1748, .if_icmp .eq 5, 3), (1751, .iconst 0, 1), (1752, .ireturn, 1), (1753, .iload 5, 2), (1755, .ifCond .ne 15, 3), (1758, .aload_n 3, 1), (1759, .iconst 0, 1), (1760, .laload, 1), (1761, .iload 6, 2), (1763, .i2l, 1), (1764, .lcmp, 1), (1765, .ifCond .eq 5, 3), (1768, .iconst 0, 1), (1769, .ireturn, 1), (1770, .goto 912, 3), (1773, .aload_n 1, 1), (1774, .invokevirtual 248, 3), (1777, .aload_n 2, 1), (1778, .invokevirtual 251, 3), (1781, .if_icmp .eq 901, 3), (1784, .iconst 0, 1), (1785, .ireturn, 1), (1786, .aload_n 1, 1), (1787, .aload_n 0, 1), (1788, .iload 4, 2), (1790, .iconst 1, 1), (1791, .iadd, 1), (1792, .iaload, 1), (1793, .aload_n 3, 1), (1794, .invokestatic 252, 3), (1797, .istore 5, 2), (1799, .aload_n 2, 1), (1800, .aload_n 0, 1), (1801, .iload 4, 2), (1803, .iconst 1, 1), (1804, .iadd, 1), (1805, .iaload, 1), (1806, .invokevirtual 254, 3), (1809, .istore 6, 2), (1811, .aload_n 2, 1), (1812, .invokevirtual 149, 3), (1815, .iload 5, 2)]
def qa_iL_law_16 : List (Nat × Instr × Nat) := [(1817, .if_icmp .eq 5, 3), (1820, .iconst 0, 1), (1821, .ireturn, 1), (1822, .iload 5, 2), (1824, .ifCond .ne 15, 3), (1827, .aload_n 3, 1), (1828, .iconst 0, 1), (1829, .laload, 1), (1830, .iload 6, 2), (1832, .i2l, 1), (1833, .lcmp, 1), (1834, .ifCond .eq 5, 3), (1837, .iconst 0, 1), (1838, .ireturn, 1), (1839, .goto 843, 3), (1842, .aload_n 1, 1), (1843, .aload_n 3, 1), (1844, .invokestatic 255, 3), (1847, .istore 5, 2), (1849, .aload_n 2, 1), (1850, .invokevirtual 257, 3), (1853, .istore 6, 2), (1855, .aload_n 2, 1), (1856, .invokevirtual 149, 3), (1859, .iload 5, 2), (1861, .if_icmp .eq 5, 3), (1864, .iconst 0, 1), (1865, .ireturn, 1), (1866, .iload 5, 2), (1868, .ifCond .ne 15, 3), (1871, .aload_n 3, 1), (1872, .iconst 0, 1), (1873, .laload, 1), (1874, .iload 6, 2), (1876, .i2l, 1), (1877, .lcmp, 1), (1878, .ifCond .eq 5, 3), (1881, .iconst 0, 1), (1882, .ireturn, 1), (1883, .goto 799, 3), (1886, .aload_n 1, 1), (1887, .aload_n 3, 1), (1888, .invokestatic 258, 3), (1891, .istore 5, 2), (1893, .aload_n 2, 1), (1894, .invokevirtual 260, 3), (1897, .istore 6, 2), (1899, .aload_n 2, 1), (1900, .invokevirtual 149, 3), (1903, .iload 5, 2), (1905, .if_icmp .eq 5, 3), (1908, .iconst 0, 1), (1909, .ireturn, 1), (1910, .iload 5, 2), (1912, .ifCond .ne 15, 3), (1915, .aload_n 3, 1), (1916, .iconst 0, 1), (1917, .laload, 1), (1918, .iload 6, 2), (1920, .i2l, 1)]
def qa_iL_law_17 : List (Nat × Instr × Nat) := [(1921, .lcmp, 1), (1922, .ifCond .eq 5, 3), (1925, .iconst 0, 1), (1926, .ireturn, 1), (1927, .goto 755, 3), (1930, .aload_n 1, 1), (1931, .aload_n 3, 1), (1932, .invokestatic 261, 3), (1935, .istore 5, 2), (1937, .aload_n 2, 1), (1938, .invokevirtual 263, 3), (1941, .istore 6, 2), (1943, .aload_n 2, 1), (1944, .invokevirtual 149, 3), (1947, .iload 5, 2), (1949, .if_icmp .eq 5, 3), (1952, .iconst 0, 1), (1953, .ireturn, 1), (1954, .iload 5, 2), (1956, .ifCond .ne 15, 3), (1959, .aload_n 3, 1), (1960, .iconst 0, 1), (1961, .laload, 1), (1962, .iload 6, 2), (1964, .i2l, 1), (1965, .lcmp, 1), (1966, .ifCond .eq 5, 3), (1969, .iconst 0, 1), (1970, .ireturn, 1), (1971, .goto 711, 3), (1974, .aload_n 1, 1), (1975, .invokevirtual 264, 3), (1978, .aload_n 2, 1), (1979, .invokevirtual 267, 3), (1982, .if_icmp .eq 700, 3), (1985, .iconst 0, 1), (1986, .ireturn, 1), (1987, .aload_n 1, 1), (1988, .aload_n 3, 1), (1989, .invokestatic 268, 3), (1992, .istore 5, 2), (1994, .aload_n 2, 1), (1995, .invokevirtual 270, 3), (1998, .istore 6, 2), (2000, .aload_n 2, 1), (2001, .invokevirtual 149, 3), (2004, .iload 5, 2), (2006, .if_icmp .eq 5, 3), (2009, .iconst 0, 1), (2010, .ireturn, 1), (2011, .iload 5, 2), (2013, .ifCond .ne 15, 3), (2016, .aload_n 3, 1), (2017, .iconst 0, 1), (2018, .laload, 1), (2019, .iload 6, 2), (2021, .i2l, 1), (2022, .lcmp, 1), (2023, .ifCond .eq 5, 3), (2026, .iconst 0, 1)]
def qa_iL_law_18 : List (Nat × Instr × Nat) := [(2027, .ireturn, 1), (2028, .goto 654, 3), (2031, .aload_n 1, 1), (2032, .aload_n 3, 1), (2033, .invokestatic 271, 3), (2036, .istore 5, 2), (2038, .aload_n 2, 1), (2039, .invokevirtual 273, 3), (2042, .istore 6, 2), (2044, .aload_n 2, 1), (2045, .invokevirtual 149, 3), (2048, .iload 5, 2), (2050, .if_icmp .eq 5, 3), (2053, .iconst 0, 1), (2054, .ireturn, 1), (2055, .iload 5, 2), (2057, .ifCond .ne 15, 3), (2060, .aload_n 3, 1), (2061, .iconst 0, 1), (2062, .laload, 1), (2063, .iload 6, 2), (2065, .i2l, 1), (2066, .lcmp, 1), (2067, .ifCond .eq 5, 3), (2070, .iconst 0, 1), (2071, .ireturn, 1), (2072, .goto 610, 3), (2075, .aload_n 1, 1), (2076, .aload_n 3, 1), (2077, .invokestatic 274, 3), (2080, .istore 5, 2), (2082, .aload_n 2, 1), (2083, .invokevirtual 276, 3), (2086, .istore 6, 2), (2088, .aload_n 2, 1), (2089, .invokevirtual 149, 3), (2092, .iload 5, 2), (2094, .if_icmp .eq 5, 3), (2097, .iconst 0, 1), (2098, .ireturn, 1), (2099, .iload 5, 2), (2101, .ifCond .ne 15, 3), (2104, .aload_n 3, 1), (2105, .iconst 0, 1), (2106, .laload, 1), (2107, .iload 6, 2), (2109, .i2l, 1), (2110, .lcmp, 1), (2111, .ifCond .eq 5, 3), (2114, .iconst 0, 1), (2115, .ireturn, 1), (2116, .goto 566, 3), (2119, .aload_n 1, 1), (2120, .invokevirtual 277, 3), (2123, .aload_n 2, 1), (2124, .invokevirtual 280, 3), (2127, .if_icmp .eq 555, 3), (2130, .iconst 0, 1), (2131, .ireturn, 1), (2132, .aload_n 1, 1)]
def qa_iL_law_19 : List (Nat × Instr × Nat) := [(2133, .invokevirtual 281, 3), (2136, .aload_n 2, 1), (2137, .invokevirtual 284, 3), (2140, .if_icmp .eq 542, 3), (2143, .iconst 0, 1), (2144, .ireturn, 1), (2145, .aload_n 1, 1), (2146, .aload_n 0, 1), (2147, .iload 4, 2), (2149, .iconst 1, 1), (2150, .iadd, 1), (2151, .iaload, 1), (2152, .aload_n 3, 1), (2153, .invokestatic 285, 3), (2156, .istore 5, 2), (2158, .aload_n 2, 1), (2159, .aload_n 0, 1), (2160, .iload 4, 2), (2162, .iconst 1, 1), (2163, .iadd, 1), (2164, .iaload, 1), (2165, .invokevirtual 287, 3), (2168, .istore 6, 2), (2170, .aload_n 2, 1), (2171, .invokevirtual 149, 3), (2174, .iload 5, 2), (2176, .if_icmp .eq 5, 3), (2179, .iconst 0, 1), (2180, .ireturn, 1), (2181, .iload 5, 2), (2183, .ifCond .ne 15, 3), (2186, .aload_n 3, 1), (2187, .iconst 0, 1), (2188, .laload, 1), (2189, .iload 6, 2), (2191, .i2l, 1), (2192, .lcmp, 1), (2193, .ifCond .eq 5, 3), (2196, .iconst 0, 1), (2197, .ireturn, 1), (2198, .goto 484, 3), (2201, .aload_n 1, 1), (2202, .invokevirtual 288, 3), (2205, .aload_n 2, 1), (2206, .invokevirtual 291, 3), (2209, .if_icmp .eq 473, 3), (2212, .iconst 0, 1), (2213, .ireturn, 1), (2214, .aload_n 1, 1), (2215, .invokevirtual 292, 3), (2218, .aload_n 2, 1), (2219, .invokevirtual 295, 3), (2222, .if_icmp .eq 460, 3), (2225, .iconst 0, 1), (2226, .ireturn, 1), (2227, .aload_n 1, 1), (2228, .invokevirtual 296, 3), (2231, .aload_n 2, 1), (2232, .invokevirtual 299, 3), (2235, .if_icmp .eq 447, 3)]
def qa_iL_law_20 : List (Nat × Instr × Nat) := [(2238, .iconst 0, 1), (2239, .ireturn, 1), (2240, .aload_n 1, 1), (2241, .invokevirtual 300, 3), (2244, .aload_n 2, 1), (2245, .invokevirtual 303, 3), (2248, .if_icmp .eq 434, 3), (2251, .iconst 0, 1), (2252, .ireturn, 1), (2253, .aload_n 1, 1), (2254, .invokevirtual 304, 3), (2257, .aload_n 2, 1), (2258, .invokevirtual 307, 3), (2261, .if_icmp .eq 421, 3), (2264, .iconst 0, 1), (2265, .ireturn, 1), (2266, .aload_n 1, 1), (2267, .invokevirtual 308, 3), (2270, .aload_n 2, 1), (2271, .invokevirtual 311, 3), (2274, .if_icmp .eq 408, 3), (2277, .iconst 0, 1), (2278, .ireturn, 1), (2279, .aload_n 1, 1), (2280, .invokevirtual 312, 3), (2283, .aload_n 2, 1), (2284, .invokevirtual 315, 3), (2287, .if_icmp .eq 395, 3), (2290, .iconst 0, 1), (2291, .ireturn, 1), (2292, .aload_n 1, 1), (2293, .aload_n 3, 1), (2294, .invokestatic 316, 3), (2297, .istore 5, 2), (2299, .aload_n 2, 1), (2300, .invokevirtual 318, 3), (2303, .istore 6, 2), (2305, .aload_n 2, 1), (2306, .invokevirtual 149, 3), (2309, .iload 5, 2), (2311, .if_icmp .eq 5, 3), (2314, .iconst 0, 1), (2315, .ireturn, 1), (2316, .iload 5, 2), (2318, .ifCond .ne 15, 3), (2321, .aload_n 3, 1), (2322, .iconst 0, 1), (2323, .laload, 1), (2324, .iload 6, 2), (2326, .i2l, 1), (2327, .lcmp, 1), (2328, .ifCond .eq 5, 3), (2331, .iconst 0, 1), (2332, .ireturn, 1), (2333, .goto 349, 3), (2336, .aload_n 1, 1), (2337, .aload_n 3, 1), (2338, .invokestatic 319, 3), (2341, .istore 5, 2), (2343, .aload_n 2, 1)]
def qa_iL_law_21 : List (Nat × Instr × Nat) := [(2344, .invokevirtual 321, 3), (2347, .istore 6, 2), (2349, .aload_n 2, 1), (2350, .invokevirtual 149, 3), (2353, .iload 5, 2), (2355, .if_icmp .eq 5, 3), (2358, .iconst 0, 1), (2359, .ireturn, 1), (2360, .iload 5, 2), (2362, .ifCond .ne 15, 3), (2365, .aload_n 3, 1), (2366, .iconst 0, 1), (2367, .laload, 1), (2368, .iload 6, 2), (2370, .i2l, 1), (2371, .lcmp, 1), (2372, .ifCond .eq 5, 3), (2375, .iconst 0, 1), (2376, .ireturn, 1), (2377, .goto 305, 3), (2380, .aload_n 1, 1), (2381, .aload_n 0, 1), (2382, .iload 4, 2), (2384, .iconst 1, 1), (2385, .iadd, 1), (2386, .iaload, 1), (2387, .aload_n 3, 1), (2388, .invokestatic 322, 3), (2391, .istore 5, 2), (2393, .aload_n 2, 1), (2394, .aload_n 0, 1), (2395, .iload 4, 2), (2397, .iconst 1, 1), (2398, .iadd, 1), (2399, .iaload, 1), (2400, .invokevirtual 324, 3), (2403, .istore 6, 2), (2405, .aload_n 2, 1), (2406, .invokevirtual 149, 3), (2409, .iload 5, 2), (2411, .if_icmp .eq 5, 3), (2414, .iconst 0, 1), (2415, .ireturn, 1), (2416, .iload 5, 2), (2418, .ifCond .ne 15, 3), (2421, .aload_n 3, 1), (2422, .iconst 0, 1), (2423, .laload, 1), (2424, .iload 6, 2), (2426, .i2l, 1), (2427, .lcmp, 1), (2428, .ifCond .eq 5, 3), (2431, .iconst 0, 1), (2432, .ireturn, 1), (2433, .goto 249, 3), (2436, .aload_n 1, 1), (2437, .aload_n 0, 1), (2438, .iload 4, 2), (2440, .iconst 1, 1), (2441, .iadd, 1)]
def qa_iL_law_22 : List (Nat × Instr × Nat) := [(2442, .iaload, 1), (2443, .aload_n 3, 1), (2444, .invokestatic 325, 3), (2447, .istore 5, 2), (2449, .aload_n 2, 1), (2450, .aload_n 0, 1), (2451, .iload 4, 2), (2453, .iconst 1, 1), (2454, .iadd, 1), (2455, .iaload, 1), (2456, .invokevirtual 327, 3), (2459, .istore 6, 2), (2461, .aload_n 2, 1), (2462, .invokevirtual 149, 3), (2465, .iload 5, 2), (2467, .if_icmp .eq 5, 3), (2470, .iconst 0, 1), (2471, .ireturn, 1), (2472, .iload 5, 2), (2474, .ifCond .ne 15, 3), (2477, .aload_n 3, 1), (2478, .iconst 0, 1), (2479, .laload, 1), (2480, .iload 6, 2), (2482, .i2l, 1), (2483, .lcmp, 1), (2484, .ifCond .eq 5, 3), (2487, .iconst 0, 1), (2488, .ireturn, 1), (2489, .goto 193, 3), (2492, .aload_n 1, 1), (2493, .aload_n 3, 1), (2494, .invokestatic 328, 3), (2497, .istore 5, 2), (2499, .aload_n 2, 1), (2500, .invokevirtual 330, 3), (2503, .istore 6, 2), (2505, .aload_n 2, 1), (2506, .invokevirtual 149, 3), (2509, .iload 5, 2), (2511, .if_icmp .eq 5, 3), (2514, .iconst 0, 1), (2515, .ireturn, 1), (2516, .iload 5, 2), (2518, .ifCond .ne 15, 3), (2521, .aload_n 3, 1), (2522, .iconst 0, 1), (2523, .laload, 1), (2524, .iload 6, 2), (2526, .i2l, 1), (2527, .lcmp, 1), (2528, .ifCond .eq 5, 3), (2531, .iconst 0, 1), (2532, .ireturn, 1), (2533, .goto 149, 3), (2536, .aload_n 1, 1), (2537, .invokevirtual 331, 3), (2540, .aload_n 2, 1), (2541, .invokevirtual 334, 3), (2544, .if_icmp .eq 138, 3)]
def qa_iL_law_23 : List (Nat × Instr × Nat) := [(2547, .iconst 0, 1), (2548, .ireturn, 1), (2549, .aload_n 1, 1), (2550, .invokevirtual 335, 3), (2553, .aload_n 2, 1), (2554, .invokevirtual 338, 3), (2557, .if_icmp .eq 125, 3), (2560, .iconst 0, 1), (2561, .ireturn, 1), (2562, .aload_n 1, 1), (2563, .invokevirtual 339, 3), (2566, .aload_n 2, 1), (2567, .invokevirtual 342, 3), (2570, .if_icmp .eq 112, 3), (2573, .iconst 0, 1), (2574, .ireturn, 1), (2575, .aload_n 1, 1), (2576, .invokevirtual 343, 3), (2579, .aload_n 2, 1), (2580, .invokevirtual 346, 3), (2583, .if_icmp .eq 99, 3), (2586, .iconst 0, 1), (2587, .ireturn, 1), (2588, .aload_n 1, 1), (2589, .invokevirtual 347, 3), (2592, .aload_n 2, 1), (2593, .invokevirtual 350, 3), (2596, .if_icmp .eq 86, 3), (2599, .iconst 0, 1), (2600, .ireturn, 1), (2601, .aload_n 1, 1), (2602, .invokevirtual 351, 3), (2605, .aload_n 2, 1), (2606, .invokevirtual 354, 3), (2609, .if_icmp .eq 73, 3), (2612, .iconst 0, 1), (2613, .ireturn, 1), (2614, .aload_n 1, 1), (2615, .invokevirtual 355, 3), (2618, .aload_n 2, 1), (2619, .invokevirtual 358, 3), (2622, .if_icmp .eq 60, 3), (2625, .iconst 0, 1), (2626, .ireturn, 1), (2627, .aload_n 1, 1), (2628, .invokevirtual 359, 3), (2631, .dstore 5, 2), (2633, .aload_n 2, 1), (2634, .invokevirtual 363, 3), (2637, .dstore 7, 2), (2639, .dload 5, 2), (2641, .dload 7, 2), (2643, .dcmp .l, 1), (2644, .ifCond .eq 21, 3), (2647, .dload 5, 2), (2649, .dload 5, 2), (2651, .dcmp .l, 1), (2652, .ifCond .eq 11, 3), (2655, .dload 7, 2), (2657, .dload 7, 2)]
def qa_iL_law_24 : List (Nat × Instr × Nat) := [(2659, .dcmp .l, 1), (2660, .ifCond .ne 5, 3), (2663, .iconst 0, 1), (2664, .ireturn, 1), (2665, .goto 17, 3), (2668, .aload_n 1, 1), (2669, .invokevirtual 364, 3), (2672, .aload_n 2, 1), (2673, .invokevirtual 368, 3), (2676, .lcmp, 1), (2677, .ifCond .eq 5, 3), (2680, .iconst 0, 1), (2681, .ireturn, 1), (2682, .iinc 4 4, 3), (2685, .goto (-2662), 3), (2688, .iconst 1, 1), (2689, .ireturn, 1)]
def qa_iL_law : List (Nat × Instr × Nat) := qa_iL_law_0 ++ (qa_iL_law_1 ++ (qa_iL_law_2 ++ (qa_iL_law_3 ++ (qa_iL_law_4 ++ (qa_iL_law_5 ++ (qa_iL_law_6 ++ (qa_iL_law_7 ++ (qa_iL_law_8 ++ (qa_iL_law_9 ++ (qa_iL_law_10 ++ (qa_iL_law_11 ++ (qa_iL_law_12 ++ (qa_iL_law_13 ++ (qa_iL_law_14 ++ (qa_iL_law_15 ++ (qa_iL_law_16 ++ (qa_iL_law_17 ++ (qa_iL_law_18 ++ (qa_iL_law_19 ++ (qa_iL_law_20 ++ (qa_iL_law_21 ++ (qa_iL_law_22 ++ (qa_iL_law_23 ++ (qa_iL_law_24))))))))))))))))))))))))
def qa_mL_law : qa_M := (yL_law, cL_law, 9, (some .boolean), 11, qa_iL_law, 1, 1, 13, 290, [], 0, 0, 0)
def qa_ca0 : List (Nat × (qa_M × Bool × Nat)) := []
def qa_ca1 : List (Nat × (qa_M × Bool × Nat)) := [(11, (qa_mX6_init, true, 88)), (20, (qa_mX3_init, true, 135)), (27, (qa_mX7_init, true, 155)), (34, (qa_mX2_init, true, 185)), (41, (qa_mX4_init, true, 217)), (48, (qa_mX0_init, true, 249)), (60, (qa_mX6_copyFrom, false, 590)), (64, (qa_mX3_copyFrom, false, 597)), (67, (qa_mX7_copyFrom, false, 602)), (70, (qa_mX2_copyFrom, false, 606)), (73, (qa_mX4_copyFrom, false, 611)), (76, (qa_mX0_copyFrom, false, 615)), (86, (qa_mX6_isReady, false, 448)), (93, (qa_mX2_queuePlace, false, 673)), (97, (qa_mX7_bears, false, 569)), (100, (qa_mX1_obeyGoOn, false, 994)), (104, (qa_mX1_obeyAsk, false, 998)), (107, (qa_mX1_obeyBurn, false, 1005)), (110, (qa_mX1_obeyInsert, false, 1009)), (113, (qa_mX1_passTick, false, 921)), (117, (qa_mX1_mayGoOn, false, 660)), (120, (qa_mX1_proceed, false, 664)), (123, (qa_mX1_beginLoading, false, 683)), (126, (qa_mX6_has, false, 1002)), (129, (qa_mX1_mayAsk, false, 1003)), (132, (qa_mX2_queue, false, 1004)), (136, (qa_mX1_mayBurn, false, 565)), (139, (qa_mX1_putOnFire, false, 699)), (142, (qa_mX3_put, false, 1013)), (146, (qa_mX3_advance, false, 668)), (152, (qa_mX1_bringOn, false, 648)), (158, (qa_mX2_unqueue, false, 678)), (164, (qa_mX9_at, true, 452)), (168, (qa_mX7_bring, false, 652)), (171, (qa_mX6_use, false, 643)), (180, (qa_mX6_coolEmbers, false, 623)), (183, (qa_mX7_fadeOnce, false, 627)), (186, (qa_mX7_countShown, false, 631)), (189, (qa_mX1_loadOnce, false, 635)), (192, (qa_mX1_paceIsReached, false, 656)), (207, (qa_mX6_setReady, false, 639)), (211, (qa_mX1_nextToLoad, false, 687)), (220, (qa_mX1_burnDownTo, false, 695)), (232, (qa_mX6_ticksToLoad, false, 703)), (239, (qa_mX9_set, true, 557)), (249, (qa_mX1_nextInGoodTime, false, 691)), (255, (qa_mX3_slideAhead, false, 560)), (267, (qa_mX1_lineUp, false, 549)), (273, (qa_mX1_weighByNextUse, false, 553)), (276, (qa_mX1_weighByUseOrCost, false, 561))]
def qa_ca2 : List (Nat × (qa_M × Bool × Nat)) := [(25, (qa_mX9_copyRow, true, 610)), (32, (qa_mX9_at, true, 677)), (36, (qa_mX9_set, true, 682))]
def qa_ca3 : List (Nat × (qa_M × Bool × Nat)) := [(22, (qa_mX9_copyRow, true, 601)), (26, (qa_mX9_at, true, 672)), (30, (qa_mX9_set, true, 861)), (34, (qa_mX3_slideAhead, false, 541))]
def qa_ca4 : List (Nat × (qa_M × Bool × Nat)) := []
def qa_ca5 : List (Nat × (qa_M × Bool × Nat)) := [(17, (qa_mX1_init, true, 328)), (25, (qa_mX1_copyFrom, false, 821))]
def qa_ca6 : List (Nat × (qa_M × Bool × Nat)) := [(38, (qa_mX9_copyRow, true, 594)), (45, (qa_mX9_set, true, 647)), (49, (qa_mX9_at, true, 531))]
def qa_ca7 : List (Nat × (qa_M × Bool × Nat)) := []
def qa_ca8 : List (Nat × (qa_M × Bool × Nat)) := [(19, (qa_mX9_set, true, 969)), (23, (qa_mX8_startPart, false, 397)), (35, (qa_mX9_at, true, 401)), (39, (qa_mX8_accept, false, 404)), (43, (qa_mX8_readToError, false, 981)), (47, (qa_mX8_partMayEnd, false, 408)), (51, (qa_mX8_acceptDigit, false, 412))]
def qa_ca9 : List (Nat × (qa_M × Bool × Nat)) := [(9, (qa_mX1_init, true, 82)), (21, (qa_mX5_init, false, 322)), (36, (qa_mX8_init, true, 342)), (41, (qa_mX9_isWithin, false, 730)), (45, (qa_mX9_needArgument, false, 733)), (59, (qa_mX9_needState, false, 799)), (62, (qa_mX5_push, false, 817)), (66, (qa_mX6_add, false, 822)), (70, (qa_mX1_beginLoading, false, 826)), (80, (qa_mX6_has, false, 835)), (84, (qa_mX9_needIndex, false, 839)), (87, (qa_mX3_put, false, 857)), (91, (qa_mX3_has, false, 869)), (92, (qa_mX3_remove, false, 873)), (96, (qa_mX1_mayGoOn, false, 884)), (100, (qa_mX1_proceed, false, 885)), (103, (qa_mX1_mayAsk, false, 893)), (110, (qa_mX2_queue, false, 897)), (119, (qa_mX1_mayBurn, false, 908)), (122, (qa_mX1_putOnFire, false, 909)), (129, (qa_mX9_at, false, 526)), (133, (qa_mX1_passTicks, false, 917)), (145, (qa_mX1_burnDownTo, false, 929)), (163, (qa_mX8_add, false, 965)), (165, (qa_mX8_readToError, false, 393)), (169, (qa_mX8_tellsOrders, false, 977)), (172, (qa_mX1_copyFrom, false, 586)), (175, (qa_mX8_startReading, false, 982)), (178, (qa_mX8_readPart, false, 986)), (187, (qa_mX1_obey, false, 990)), (191, (qa_mX9_hasSnapshot, false, 717)), (195, (qa_mX5_popInto, false, 1035)), (198, (qa_mX6_ticksToLoad, false, 527)), (205, (qa_mX6_isReady, false, 532)), (212, (qa_mX7_bears, false, 533)), (223, (qa_mX3_placesUntil, false, 537)), (226, (qa_mX1_placeInLine, false, 545)), (257, (qa_mX1_sumOfCosts, false, 444)), (263, (qa_mX9_waitOnTrial, false, 582)), (266, (qa_mX1_sumOfWait, false, 704)), (269, (qa_mX1_burningsToLoad, false, 570)), (272, (qa_mX9_missesOnTrial, false, 1186)), (302, (qa_mX0_shareOfHits, false, 509)), (308, (qa_mX9_mix, false, 518)), (312, (qa_mX9_mixSlide, false, 522)), (316, (qa_mX9_mixProgramme, false, 574)), (320, (qa_mX9_mixLoading, false, 578)), (323, (qa_mX9_mixAccounts, false, 708)), (331, (qa_mX9_bitsOfShare, false, 712)), (339, (qa_mX1_passTick, false, 619))]
def qa_ca10 : List (Nat × (qa_M × Bool × Nat)) := [(39, (qa_mX10_in, false, 1257)), (43, (qa_mX10_of, false, 1292)), (47, (qa_mX10_loaded, false, 1304)), (51, (qa_mX10_nextOf, false, 1324)), (55, (qa_mX10_onShow, false, 1316)), (58, (qa_mX10_canBurn, false, 1312)), (61, (qa_mX10_isFirst, false, 1320)), (65, (qa_mX10_lay, false, 1268)), (69, (qa_mX10_taken, false, 1300)), (73, (qa_mX10_nextToBurn, false, 1308)), (76, (qa_mX10_burns, false, 1328)), (79, (qa_mX10_makesRoom, false, 1296)), (82, (qa_mX10_due, false, 1332)), (85, (qa_mX10_starts, false, 1288)), (89, (qa_mX10_forgets, false, 1336)), (92, (qa_mX10_uses, false, 1360)), (98, (qa_mX10_shows, false, 1356)), (101, (qa_mX10_goesOn, false, 1352)), (105, (qa_mX10_begins, false, 1284)), (108, (qa_mX10_isAsked, false, 1372)), (111, (qa_mX10_ticks, false, 1392)), (114, (qa_mX10_throwing, false, 1260)), (117, (qa_mX10_save, false, 1264)), (120, (qa_mX10_isThere, false, 1276)), (123, (qa_mX10_inserts, false, 1280)), (126, (qa_mX10_canGoOn, false, 1348)), (129, (qa_mX10_canAsk, false, 1368)), (132, (qa_mX10_asks, false, 1376)), (135, (qa_mX10_passes, false, 1388)), (138, (qa_mX10_changes, false, 1400)), (152, (qa_mX10_sign, false, 1444)), (155, (qa_mX10_number, false, 1440)), (158, (qa_mX10_isFollowed, false, 1448)), (164, (qa_mX10_isOrdered, false, 1436)), (168, (qa_mX10_go, false, 1432)), (171, (qa_mX10_keepsAside, false, 1456)), (174, (qa_mX10_putsBack, false, 1460)), (177, (qa_mX10_rule, false, 1484)), (180, (qa_mX10_inOrder, false, 1524)), (183, (qa_mX10_told, false, 1540)), (186, (qa_mX10_untilShown, false, 1616)), (189, (qa_mX10_toldTicks, false, 1612)), (192, (qa_mX10_burningsOf, false, 1628)), (195, (qa_mX10_missing, false, 1636)), (198, (qa_mX10_share, false, 1676)), (212, (qa_mX10_mix, false, 1685)), (218, (qa_mX10_mixesSlide, false, 1690)), (221, (qa_mX10_bitsOf, false, 1694))]
def qa_ca11 : List (Nat × (qa_M × Bool × Nat)) := [(7, (qa_mX9_addSlide, false, 726)), (17, (qa_mX9_insert, false, 831)), (23, (qa_mX9_takeOut, false, 865)), (27, (qa_mX9_goOn, false, 880)), (31, (qa_mX9_ask, false, 889)), (34, (qa_mX9_burn, false, 904)), (37, (qa_mX9_tick, false, 913)), (40, (qa_mX9_changeMemory, false, 925)), (43, (qa_mX9_changeAhead, false, 933)), (46, (qa_mX9_changeOrder, false, 940)), (49, (qa_mX9_changeGlow, false, 947)), (52, (qa_mX9_changePace, false, 954)), (55, (qa_mX9_append, false, 961)), (58, (qa_mX9_follow, false, 973)), (62, (qa_mX9_keep, false, 1017)), (66, (qa_mX9_goBack, false, 1024)), (69, (qa_mX9_undo, false, 1031)), (72, (qa_mX9_costOf, false, 1042)), (75, (qa_mX9_loadOf, false, 1049)), (78, (qa_mX9_fadeOf, false, 1056)), (81, (qa_mX9_isLoaded, false, 1063)), (85, (qa_mX9_isOnShow, false, 1070)), (88, (qa_mX9_glowOf, false, 1077)), (91, (qa_mX9_burntTimes, false, 1084)), (94, (qa_mX9_nextUse, false, 1091)), (97, (qa_mX9_burnPlace, false, 1098)), (100, (qa_mX9_slideAt, false, 1105)), (103, (qa_mX9_showPlace, false, 1112)), (106, (qa_mX9_shown, false, 1119)), (109, (qa_mX9_fading, false, 1126)), (112, (qa_mX9_awaited, false, 1133)), (115, (qa_mX9_shownFor, false, 1140)), (118, (qa_mX9_loading, false, 1147)), (121, (qa_mX9_askedAt, false, 1154)), (124, (qa_mX9_ticksToShowByTicks, false, 1161)), (127, (qa_mX9_ticksToShowBySums, false, 1168)), (130, (qa_mX9_burningsFor, false, 1175)), (133, (qa_mX9_missesWith, false, 1182)), (136, (qa_mX9_bestOrder, false, 1193)), (139, (qa_mX9_init, false, 74)), (142, (qa_mX10_init, false, 1199)), (143, (qa_mL_addSlide, false, 721)), (148, (qa_mX10_addSlide, false, 1253)), (149, (qa_mX10_thrown, false, 1249)), (152, (qa_mL_insert, false, 827)), (155, (qa_mX10_insert, false, 1272)), (156, (qa_mL_takeOut, false, 862)), (159, (qa_mX10_takeOut, false, 1340)), (160, (qa_mL_goOn, false, 877)), (163, (qa_mX10_goOn, false, 1344)), (164, (qa_mL_ask, false, 886)), (166, (qa_mX10_ask, false, 1364)), (167, (qa_mL_burn, false, 901)), (169, (qa_mX10_burn, false, 1380)), (170, (qa_mL_tick, false, 910)), (172, (qa_mX10_tick, false, 1384)), (173, (qa_mL_changeMemory, false, 922)), (175, (qa_mX10_changeMemory, false, 1396)), (176, (qa_mL_changeAhead, false, 930)), (178, (qa_mX10_changeAhead, false, 1404)), (179, (qa_mL_changeOrder, false, 937)), (181, (qa_mX10_changeOrder, false, 1408)), (182, (qa_mL_changeGlow, false, 944)), (184, (qa_mX10_changeGlow, false, 1412)), (185, (qa_mL_changePace, false, 951)), (187, (qa_mX10_changePace, false, 1416)), (188, (qa_mL_append, false, 958)), (190, (qa_mX10_append, false, 1420)), (191, (qa_mX9_clearBuffer, false, 385)), (194, (qa_mX10_clearBuffer, false, 1424)), (195, (qa_mX9_firstError, false, 389)), (198, (qa_mX10_firstError, false, 1428)), (199, (qa_mL_follow, false, 970)), (201, (qa_mX10_follow, false, 1452)), (202, (qa_mL_keep, false, 1014)), (205, (qa_mX10_keep, false, 1464)), (206, (qa_mL_goBack, false, 1021)), (208, (qa_mX10_goBack, false, 1468)), (209, (qa_mL_undo, false, 1028)), (212, (qa_mX10_undo, false, 1472)), (213, (qa_mX9_savedStates, false, 416)), (216, (qa_mX10_savedStates, false, 1476)), (217, (qa_mX9_slides, false, 420)), (220, (qa_mX10_slides, false, 1480)), (221, (qa_mL_costOf, false, 1039)), (223, (qa_mX10_costOf, false, 1488)), (224, (qa_mL_loadOf, false, 1046)), (226, (qa_mX10_loadOf, false, 1492)), (227, (qa_mL_fadeOf, false, 1053)), (229, (qa_mX10_fadeOf, false, 1496)), (230, (qa_mL_isLoaded, false, 1060)), (232, (qa_mX10_isLoaded, false, 1500)), (233, (qa_mL_isOnShow, false, 1067)), (235, (qa_mX10_isOnShow, false, 1504)), (236, (qa_mL_glowOf, false, 1074)), (238, (qa_mX10_glowOf, false, 1508)), (239, (qa_mL_burntTimes, false, 1081)), (241, (qa_mX10_burntTimes, false, 1512)), (242, (qa_mL_nextUse, false, 1088)), (244, (qa_mX10_nextUse, false, 1516)), (245, (qa_mL_burnPlace, false, 1095)), (247, (qa_mX10_burnPlace, false, 1520)), (248, (qa_mX9_places, false, 424)), (251, (qa_mX10_places, false, 1528)), (252, (qa_mL_slideAt, false, 1102)), (254, (qa_mX10_slideAt, false, 1532)), (255, (qa_mL_showPlace, false, 1109)), (257, (qa_mX10_showPlace, false, 1536)), (258, (qa_mL_shown, false, 1116)), (260, (qa_mX10_shown, false, 1544)), (261, (qa_mL_fading, false, 1123)), (263, (qa_mX10_fading, false, 1548)), (264, (qa_mX9_fadeLeft, false, 428)), (267, (qa_mX10_fadeLeft, false, 1552)), (268, (qa_mL_awaited, false, 1130)), (270, (qa_mX10_awaited, false, 1556)), (271, (qa_mL_shownFor, false, 1137)), (273, (qa_mX10_shownFor, false, 1560)), (274, (qa_mL_loading, false, 1144)), (276, (qa_mX10_loading, false, 1564)), (277, (qa_mX9_loadLeft, false, 432)), (280, (qa_mX10_loadLeft, false, 1568)), (281, (qa_mX9_asked, false, 436)), (284, (qa_mX10_asked, false, 1572)), (285, (qa_mL_askedAt, false, 1151)), (287, (qa_mX10_askedAt, false, 1576)), (288, (qa_mX9_takenBySlides, false, 440)), (291, (qa_mX10_takenBySlides, false, 1580)), (292, (qa_mX9_takenByAccount, false, 453)), (295, (qa_mX10_takenByAccount, false, 1584)), (296, (qa_mX9_memory, false, 457)), (299, (qa_mX10_memory, false, 1588)), (300, (qa_mX9_ahead, false, 461)), (303, (qa_mX10_ahead, false, 1592)), (304, (qa_mX9_order, false, 465)), (307, (qa_mX10_order, false, 1596)), (308, (qa_mX9_glow, false, 469)), (311, (qa_mX10_glow, false, 1600)), (312, (qa_mX9_pace, false, 473)), (315, (qa_mX10_pace, false, 1604)), (316, (qa_mL_ticksToShowByTicks, false, 1158)), (318, (qa_mX10_ticksToShowByTicks, false, 1608)), (319, (qa_mL_ticksToShowBySums, false, 1165)), (321, (qa_mX10_ticksToShowBySums, false, 1620)), (322, (qa_mL_burningsFor, false, 1172)), (324, (qa_mX10_burningsFor, false, 1624)), (325, (qa_mL_missesWith, false, 1179)), (327, (qa_mX10_missesWith, false, 1632)), (328, (qa_mL_bestOrder, false, 1190)), (330, (qa_mX10_bestOrder, false, 1640)), (331, (qa_mX9_time, false, 477)), (334, (qa_mX10_time, false, 1652)), (335, (qa_mX9_hits, false, 481)), (338, (qa_mX10_hits, false, 1656)), (339, (qa_mX9_misses, false, 485)), (342, (qa_mX10_misses, false, 1660)), (343, (qa_mX9_loads, false, 489)), (346, (qa_mX10_loads, false, 1644)), (347, (qa_mX9_warmLoads, false, 493)), (350, (qa_mX10_warmLoads, false, 1664)), (351, (qa_mX9_burnings, false, 497)), (354, (qa_mX10_burnings, false, 1648)), (355, (qa_mX9_waited, false, 501)), (358, (qa_mX10_waited, false, 1668)), (359, (qa_mX9_hitShare, false, 505)), (363, (qa_mX10_hitShare, false, 1672)), (364, (qa_mX9_digest, false, 513)), (368, (qa_mX10_digest, false, 1680))]
def qa_ca : Nat → List (Nat × (qa_M × Bool × Nat)) := fun k => match k with
  | 0 => qa_ca0
  | 1 => qa_ca1
  | 2 => qa_ca2
  | 3 => qa_ca3
  | 4 => qa_ca4
  | 5 => qa_ca5
  | 6 => qa_ca6
  | 7 => qa_ca7
  | 8 => qa_ca8
  | 9 => qa_ca9
  | 10 => qa_ca10
  | _ => qa_ca11
def qa_oi : List (Nat × Nat × Nat) := [(0, 1, 252), (1, 3, 85), (2, 3, 188), (3, 3, 138), (4, 3, 220), (5, 3, 325), (6, 3, 91), (7, 3, 158), (8, 3, 345), (9, 1, 77), (10, 1, 1202)]
def qa_an : List (Nat × Nat × Nat) := [(5, 9, 326), (9, 7, 80)]
/-- an exception: its number is its place; the pool numbers of its class and of its constructor in class 9 -/
def qa_xl : List (Nat × String × Nat × Nat) := [(342, "java/lang/IllegalArgumentException", 342, 344), (345, "java/lang/IndexOutOfBoundsException", 345, 347), (348, "java/lang/IllegalStateException", 348, 350)]
/-- a word stands at its place of lw_tbl, and is a good one -/
def qa_wk (w : Cond) (i : Nat) : Bool := decide (lw_tbl[i]? = some w) && goodWord w
def qa_fk (k : Nat) (e : Nat × Nat × Nat × Nat) : Bool := match vwCl[e.2.1]? with
  | some q => decide (e.2.2.1 < q.2.2) && qa_wk (.fieldLink (qa_cn k) e.1 (q.2.1 e.2.2.1).1 (q.2.1 e.2.2.1).2.1 (q.2.1 e.2.2.1).2.2.1) e.2.2.2
  | none => false
def qa_nk (k : Nat) (e : Nat × Nat × Nat) : Bool := match vwCl[e.2.1]? with
  | some q => qa_wk (.classLink (qa_cn k) e.1 q.1) e.2.2
  | none => false
def qa_kk (k : Nat) (e : Nat × Value × Nat) : Bool := match e.2.1 with
  | .long v => qa_wk (.constantLong (qa_cn k) e.1 v) e.2.2
  | .double v => qa_wk (.constantDouble (qa_cn k) e.1 v) e.2.2
  | _ => false
def qa_ck (k : Nat) (e : Nat × qa_M × Bool × Nat) : Bool := if e.2.2.1 then decide (lw_tbl[e.2.2.2]? = some (.methodLinkNest (qa_cn k) e.1 (qa_nm e.2.1) RX9)) else qa_wk (.methodLink (qa_cn k) e.1 (qa_nm e.2.1)) e.2.2.2
def qa_mk (M : qa_M) : Bool := decide ((qa_nm M).cls = qa_cn (qa_cl M)) && decide ((qa_nm M).cls ≠ "java/lang/invoke/MethodHandle" ∧ (qa_nm M).cls ≠ "java/lang/invoke/VarHandle") && plainName (qa_nm M).cls && decide ((parseMethodDescriptor (qa_nm M).desc).map (fun d => d.parameters.length) = some (if qa_sk M = 1 then qa_na M else qa_na M - 1)) && decide (qa_sk M = 1 ∨ 0 < qa_na M) && decide (qa_sk M = 0 ↔ (qa_nm M).name = "<init>") && decide (qa_sk M < 3)
  && qa_wk (if (qa_hh M).isEmpty then .code (qa_nm M) (qa_by M) (qa_ml M) (qa_rt M) else .codeWith (qa_nm M) (qa_by M) (qa_ml M) (qa_rt M) (qa_hh M)) (qa_wp M).1
  && qa_wk (if qa_sk M = 1 then .static (qa_nm M) else .instanceMethod (qa_nm M)) (qa_wp M).2.1
  && (decide (qa_sk M ≠ 2) || qa_wk (.selects (qa_cn (qa_cl M)) (qa_nm M) (qa_nm M)) (qa_wp M).2.2)
  && decide (qa_sk M = 0 → qa_rt M = none)
theorem qa_fl_k0 : (qa_fl 0).all (qa_fk 0) = true := by decide +kernel
theorem qa_fl_k1 : (qa_fl 1).all (qa_fk 1) = true := by decide +kernel
theorem qa_fl_k2 : (qa_fl 2).all (qa_fk 2) = true := by decide +kernel
theorem qa_fl_k3 : (qa_fl 3).all (qa_fk 3) = true := by decide +kernel
theorem qa_fl_k4 : (qa_fl 4).all (qa_fk 4) = true := by decide +kernel
theorem qa_fl_k5 : (qa_fl 5).all (qa_fk 5) = true := by decide +kernel
theorem qa_fl_k6 : (qa_fl 6).all (qa_fk 6) = true := by decide +kernel
theorem qa_fl_k7 : (qa_fl 7).all (qa_fk 7) = true := by decide +kernel
theorem qa_fl_k8 : (qa_fl 8).all (qa_fk 8) = true := by decide +kernel
theorem qa_fl_k9 : (qa_fl 9).all (qa_fk 9) = true := by decide +kernel
theorem qa_fl_k10 : (qa_fl 10).all (qa_fk 10) = true := by decide +kernel
theorem qa_fl_k11 : (qa_fl 11).all (qa_fk 11) = true := by decide +kernel
theorem qa_nw_k0 : (qa_nw 0).all (qa_nk 0) = true := by decide +kernel
theorem qa_nw_k1 : (qa_nw 1).all (qa_nk 1) = true := by decide +kernel
theorem qa_nw_k2 : (qa_nw 2).all (qa_nk 2) = true := by decide +kernel
theorem qa_nw_k3 : (qa_nw 3).all (qa_nk 3) = true := by decide +kernel
theorem qa_nw_k4 : (qa_nw 4).all (qa_nk 4) = true := by decide +kernel
theorem qa_nw_k5 : (qa_nw 5).all (qa_nk 5) = true := by decide +kernel
theorem qa_nw_k6 : (qa_nw 6).all (qa_nk 6) = true := by decide +kernel
theorem qa_nw_k7 : (qa_nw 7).all (qa_nk 7) = true := by decide +kernel
theorem qa_nw_k8 : (qa_nw 8).all (qa_nk 8) = true := by decide +kernel
theorem qa_nw_k9 : (qa_nw 9).all (qa_nk 9) = true := by decide +kernel
theorem qa_nw_k10 : (qa_nw 10).all (qa_nk 10) = true := by decide +kernel
theorem qa_nw_k11 : (qa_nw 11).all (qa_nk 11) = true := by decide +kernel
theorem qa_kl_k0 : (qa_kl 0).all (qa_kk 0) = true := by decide +kernel
theorem qa_kl_k1 : (qa_kl 1).all (qa_kk 1) = true := by decide +kernel
theorem qa_kl_k2 : (qa_kl 2).all (qa_kk 2) = true := by decide +kernel
theorem qa_kl_k3 : (qa_kl 3).all (qa_kk 3) = true := by decide +kernel
theorem qa_kl_k4 : (qa_kl 4).all (qa_kk 4) = true := by decide +kernel
theorem qa_kl_k5 : (qa_kl 5).all (qa_kk 5) = true := by decide +kernel
theorem qa_kl_k6 : (qa_kl 6).all (qa_kk 6) = true := by decide +kernel
theorem qa_kl_k7 : (qa_kl 7).all (qa_kk 7) = true := by decide +kernel
theorem qa_kl_k8 : (qa_kl 8).all (qa_kk 8) = true := by decide +kernel
theorem qa_kl_k9 : (qa_kl 9).all (qa_kk 9) = true := by decide +kernel
theorem qa_kl_k10 : (qa_kl 10).all (qa_kk 10) = true := by decide +kernel
theorem qa_kl_k11 : (qa_kl 11).all (qa_kk 11) = true := by decide +kernel
theorem qa_ca_k0 : (qa_ca 0).all (qa_ck 0) = true := by decide +kernel
theorem qa_ca_k1 : (qa_ca 1).all (qa_ck 1) = true := by decide +kernel
theorem qa_ca_k2 : (qa_ca 2).all (qa_ck 2) = true := by decide +kernel
theorem qa_ca_k3 : (qa_ca 3).all (qa_ck 3) = true := by decide +kernel
theorem qa_ca_k4 : (qa_ca 4).all (qa_ck 4) = true := by decide +kernel
theorem qa_ca_k5 : (qa_ca 5).all (qa_ck 5) = true := by decide +kernel
theorem qa_ca_k6 : (qa_ca 6).all (qa_ck 6) = true := by decide +kernel
theorem qa_ca_k7 : (qa_ca 7).all (qa_ck 7) = true := by decide +kernel
theorem qa_ca_k8 : (qa_ca 8).all (qa_ck 8) = true := by decide +kernel
theorem qa_ca_k9 : (qa_ca 9).all (qa_ck 9) = true := by decide +kernel
theorem qa_ca_k10 : (qa_ca 10).all (qa_ck 10) = true := by decide +kernel
theorem qa_ca_k11 : (qa_ca 11).all (qa_ck 11) = true := by decide +kernel
def qa_xn (E : Nat) : String := match E with
  | 342 => "java/lang/IllegalArgumentException"
  | 345 => "java/lang/IndexOutOfBoundsException"
  | _ => "java/lang/IllegalStateException"
/-- the rows of the exception tables: number of the class in the pool, which exception, the place of its word -/
def qa_hq : List (Nat × Nat × Nat) := [(13, 342, 724), (15, 348, 725), (21, 345, 830)]
def qa_ht : List (Nat × Nat) := [(13, 342), (15, 348), (21, 345)]
theorem qa_hq_k : qa_hq.all (fun q => qa_wk (.classLink RL q.1 (qa_xn q.2.1)) q.2.2) = true := by decide +kernel
theorem qa_ht_k : ∀ q ∈ qa_ht, ∃ z ∈ qa_hq, z.1 = q.1 ∧ z.2.1 = q.2 := by decide +kernel
def qa_in_tbl (w : Cond) : Bool := decide (w ∈ lw_tbl) && goodWord w
theorem qa_oi_k : qa_oi.all (fun q => qa_wk (.methodLink (qa_cn q.1) q.2.1 Lib.objectInit) q.2.2) = true := by decide +kernel
theorem qa_oi_w : ([.instanceMethod Lib.objectInit, .code Lib.objectInit ⟨#[0xb1]⟩ 1 none] : List Cond).all qa_in_tbl = true := by decide +kernel
theorem qa_an_k : qa_an.all (fun q => qa_wk (.classLink (qa_cn q.1) q.2.1 RX1) q.2.2) = true := by decide +kernel
theorem qa_ar_w : ([.arrayClass .int, .arrayClass .boolean, .arrayClass .long] : List Cond).all qa_in_tbl = true := by decide +kernel
theorem qa_cw_0 : (Cond.initialized RX0 :: Cond.instantiable RX0 7 :: u_ws RX0 TX0 7).all qa_in_tbl = true := by decide +kernel
theorem qa_cw_1 : (Cond.initialized RX1 :: Cond.instantiable RX1 8 :: u_ws RX1 TX1 8).all qa_in_tbl = true := by decide +kernel
theorem qa_cw_2 : (Cond.initialized RX2 :: Cond.instantiable RX2 5 :: u_ws RX2 TX2 5).all qa_in_tbl = true := by decide +kernel
theorem qa_cw_3 : (Cond.initialized RX3 :: Cond.instantiable RX3 3 :: u_ws RX3 TX3 3).all qa_in_tbl = true := by decide +kernel
theorem qa_cw_4 : (Cond.initialized RX4 :: Cond.instantiable RX4 5 :: u_ws RX4 TX4 5).all qa_in_tbl = true := by decide +kernel
theorem qa_cw_5 : (Cond.initialized RX5 :: Cond.instantiable RX5 3 :: u_ws RX5 TX5 3).all qa_in_tbl = true := by decide +kernel
theorem qa_cw_6 : (Cond.initialized RX6 :: Cond.instantiable RX6 9 :: u_ws RX6 TX6 9).all qa_in_tbl = true := by decide +kernel
theorem qa_cw_7 : (Cond.initialized RX7 :: Cond.instantiable RX7 5 :: u_ws RX7 TX7 5).all qa_in_tbl = true := by decide +kernel
theorem qa_cw_8 : (Cond.initialized RX8 :: Cond.instantiable RX8 5 :: u_ws RX8 TX8 5).all qa_in_tbl = true := by decide +kernel
theorem qa_cw_9 : (Cond.initialized RX9 :: Cond.instantiable RX9 6 :: u_ws RX9 TX9 6).all qa_in_tbl = true := by decide +kernel
theorem qa_cw_10 : (Cond.initialized RX10 :: Cond.instantiable RX10 15 :: u_ws RX10 TX10 15).all qa_in_tbl = true := by decide +kernel
theorem qa_ini_l : qa_in_tbl (Cond.initialized RL) = true ∨ True := Or.inr trivial
end
section
def qa_Ok (M : qa_M) : Prop := qa_de M = true ∧ qa_mk M = true
theorem qa_fl_k (k : Nat) (hk : k < 12) : (qa_fl k).all (qa_fk k) = true := by
  match k, hk with
  | 0, _ => exact qa_fl_k0
  | 1, _ => exact qa_fl_k1
  | 2, _ => exact qa_fl_k2
  | 3, _ => exact qa_fl_k3
  | 4, _ => exact qa_fl_k4
  | 5, _ => exact qa_fl_k5
  | 6, _ => exact qa_fl_k6
  | 7, _ => exact qa_fl_k7
  | 8, _ => exact qa_fl_k8
  | 9, _ => exact qa_fl_k9
  | 10, _ => exact qa_fl_k10
  | 11, _ => exact qa_fl_k11
  | _ + 12, h => exact absurd h (by omega)
theorem qa_nw_k (k : Nat) (hk : k < 12) : (qa_nw k).all (qa_nk k) = true := by
  match k, hk with
  | 0, _ => exact qa_nw_k0
  | 1, _ => exact qa_nw_k1
  | 2, _ => exact qa_nw_k2
  | 3, _ => exact qa_nw_k3
  | 4, _ => exact qa_nw_k4
  | 5, _ => exact qa_nw_k5
  | 6, _ => exact qa_nw_k6
  | 7, _ => exact qa_nw_k7
  | 8, _ => exact qa_nw_k8
  | 9, _ => exact qa_nw_k9
  | 10, _ => exact qa_nw_k10
  | 11, _ => exact qa_nw_k11
  | _ + 12, h => exact absurd h (by omega)
theorem qa_kl_k (k : Nat) (hk : k < 12) : (qa_kl k).all (qa_kk k) = true := by
  match k, hk with
  | 0, _ => exact qa_kl_k0
  | 1, _ => exact qa_kl_k1
  | 2, _ => exact qa_kl_k2
  | 3, _ => exact qa_kl_k3
  | 4, _ => exact qa_kl_k4
  | 5, _ => exact qa_kl_k5
  | 6, _ => exact qa_kl_k6
  | 7, _ => exact qa_kl_k7
  | 8, _ => exact qa_kl_k8
  | 9, _ => exact qa_kl_k9
  | 10, _ => exact qa_kl_k10
  | 11, _ => exact qa_kl_k11
  | _ + 12, h => exact absurd h (by omega)
theorem qa_ca_k (k : Nat) (hk : k < 12) : (qa_ca k).all (qa_ck k) = true := by
  match k, hk with
  | 0, _ => exact qa_ca_k0
  | 1, _ => exact qa_ca_k1
  | 2, _ => exact qa_ca_k2
  | 3, _ => exact qa_ca_k3
  | 4, _ => exact qa_ca_k4
  | 5, _ => exact qa_ca_k5
  | 6, _ => exact qa_ca_k6
  | 7, _ => exact qa_ca_k7
  | 8, _ => exact qa_ca_k8
  | 9, _ => exact qa_ca_k9
  | 10, _ => exact qa_ca_k10
  | 11, _ => exact qa_ca_k11
  | _ + 12, h => exact absurd h (by omega)
end
section
/-! the small machine: what its steps do -/
def qa_cv (φ : qa_P → Nat) (v : qa_V) : Value := match v with
  | .inl p => .ref (φ p)
  | .inr v => v
def qa_cat (v : qa_V) : Nat := match v with
  | .inl _ => 1
  | .inr v => v.category
def qa_lm (φ : qa_P → Nat) (lv : qa_L) : List (Nat × Value) := lv.map (fun q => (q.1, qa_cv φ q.2))
abbrev qa_F : Type := Nat × qa_L × List qa_V
def qa_S (len n pc : Nat) (lv : qa_L) (o : Option (List qa_V)) : Option qa_F := if len = n then o.map (fun st => (pc + n, lv, st)) else none
def qa_ii (f : Int32 → Int32 → Option Value) (st : List qa_V) : Option (List qa_V) := match st with
  | .inr (.int y) :: .inr (.int x) :: r => (f x y).map (fun v => .inr v :: r)
  | _ => none
def qa_jj (f : Int64 → Int64 → Option Value) (st : List qa_V) : Option (List qa_V) := match st with
  | .inr (.long y) :: .inr (.long x) :: r => (f x y).map (fun v => .inr v :: r)
  | _ => none
def qa_dd (f : UInt64 → UInt64 → Option Value) (st : List qa_V) : Option (List qa_V) := match st with
  | .inr (.double y) :: .inr (.double x) :: r => (f x y).map (fun v => .inr v :: r)
  | _ => none
def qa_ui (f : Int32 → Value) (st : List qa_V) : Option (List qa_V) := match st with
  | .inr (.int x) :: r => some (.inr (f x) :: r)
  | _ => none
def qa_uj (f : Int64 → Value) (st : List qa_V) : Option (List qa_V) := match st with
  | .inr (.long x) :: r => some (.inr (f x) :: r)
  | _ => none
def qa_ud (f : UInt64 → Value) (st : List qa_V) : Option (List qa_V) := match st with
  | .inr (.double x) :: r => some (.inr (f x) :: r)
  | _ => none
def qa_ji (f : Int64 → Int32 → Value) (st : List qa_V) : Option (List qa_V) := match st with
  | .inr (.int y) :: .inr (.long x) :: r => some (.inr (f x y) :: r)
  | _ => none
def qa_li (lv : qa_L) (i : Nat) (st : List qa_V) : Option (List qa_V) := match qa_lk lv i with
  | some (.inr (.int x)) => some (.inr (.int x) :: st)
  | _ => none
def qa_ll (lv : qa_L) (i : Nat) (st : List qa_V) : Option (List qa_V) := match qa_lk lv i with
  | some (.inr (.long x)) => some (.inr (.long x) :: st)
  | _ => none
def qa_ld (lv : qa_L) (i : Nat) (st : List qa_V) : Option (List qa_V) := match qa_lk lv i with
  | some (.inr (.double x)) => some (.inr (.double x) :: st)
  | _ => none
def qa_la (lv : qa_L) (i : Nat) (st : List qa_V) : Option (List qa_V) := match qa_lk lv i with
  | some (.inl x) => some (.inl x :: st)
  | _ => none
/-- the locals behind a store of one slot, of two slots -/
def qa_s1 (i : Nat) (v : qa_V) (lv : qa_L) : qa_L := (i, v) :: lv.filter (fun q => !(q.1 == i) && !(q.1 + 1 == i && qa_cat q.2 == 2))
def qa_s2 (i : Nat) (v : qa_V) (lv : qa_L) : qa_L := (i, v) :: lv.filter (fun q => !(q.1 == i) && (!(q.1 == i + 1) && !(q.1 + 1 == i && qa_cat q.2 == 2)))
def qa_si (nL len n pc i : Nat) (lv : qa_L) (st : List qa_V) : Option qa_F := match st with
  | .inr (.int x) :: r => if len = n ∧ i < nL then some (pc + n, qa_s1 i (.inr (.int x)) lv, r) else none
  | _ => none
def qa_sa (nL len n pc i : Nat) (lv : qa_L) (st : List qa_V) : Option qa_F := match st with
  | .inl x :: r => if len = n ∧ i < nL then some (pc + n, qa_s1 i (.inl x) lv, r) else none
  | _ => none
def qa_sl (nL len n pc i : Nat) (lv : qa_L) (st : List qa_V) : Option qa_F := match st with
  | .inr (.long x) :: r => if len = n ∧ i + 1 < nL then some (pc + n, qa_s2 i (.inr (.long x)) lv, r) else none
  | _ => none
def qa_sd (nL len n pc i : Nat) (lv : qa_L) (st : List qa_V) : Option qa_F := match st with
  | .inr (.double x) :: r => if len = n ∧ i + 1 < nL then some (pc + n, qa_s2 i (.inr (.double x)) lv, r) else none
  | _ => none
def qa_to (pc : Nat) (off : Int) : Nat := ((pc : Int) + off).toNat
def qa_b1 (len pc : Nat) (off : Int) (lv : qa_L) (st : List qa_V) (t : Int32 → Bool) : Option qa_F := match st with
  | .inr (.int x) :: r => if len = 3 ∧ 0 ≤ (pc : Int) + off then some (if t x = true then qa_to pc off else pc + 3, lv, r) else none
  | _ => none
def qa_b2 (len pc : Nat) (off : Int) (lv : qa_L) (st : List qa_V) (t : Int32 → Int32 → Bool) : Option qa_F := match st with
  | .inr (.int y) :: .inr (.int x) :: r => if len = 3 ∧ 0 ≤ (pc : Int) + off then some (if t x y = true then qa_to pc off else pc + 3, lv, r) else none
  | _ => none
def qa_bn (len pc : Nat) (off : Int) (lv : qa_L) (st : List qa_V) : Option qa_F := match st with
  | .inl _ :: r => if len = 3 then some (pc + 3, lv, r) else none
  | .inr .null :: r => if len = 3 ∧ 0 ≤ (pc : Int) + off then some (qa_to pc off, lv, r) else none
  | _ => none
def qa_dp (st : List qa_V) : Option (List qa_V) := match st with
  | x :: r => if qa_cat x = 1 then some (x :: x :: r) else none
  | _ => none
def qa_pp (st : List qa_V) : Option (List qa_V) := match st with
  | x :: r => if qa_cat x = 1 then some r else none
  | _ => none
def qa_d2 (st : List qa_V) : Option (List qa_V) := match st with
  | x :: y :: r => if qa_cat x = 1 ∧ qa_cat y = 1 then some (x :: y :: x :: y :: r) else none
  | _ => none
/-- is the index within -/
def qa_in (i : Int32) (n : Nat) : Bool := decide (¬ (i < 0 ∨ n ≤ i.toNatClampNeg))
def qa_gf (k idx : Nat) (h : qa_P → qa_C) (st : List qa_V) : Option (List qa_V) := match st with
  | .inl p :: r => match qa_lk (qa_fl k) idx, h p with
    | some (ci, sl, _), .inl (cj, f) => if cj = ci then some (f sl :: r) else none
    | _, _ => none
  | _ => none
def qa_an_ (h : qa_P → qa_C) (st : List qa_V) : Option (List qa_V) := match st with
  | .inl p :: r => match h p with
    | .inr (τ, n, _) => if τ < 4 ∨ τ = 9 then some (.inr (.int (Int32.ofNat n)) :: r) else none
    | _ => none
  | _ => none
def qa_ia (h : qa_P → qa_C) (st : List qa_V) : Option (List qa_V) := match st with
  | .inr (.int i) :: .inl p :: r => match h p with
    | .inr (τ, n, .inl f) => if (τ = 0 ∨ τ = 9) ∧ qa_in i n = true then some (.inr (.int (f i.toNatClampNeg)) :: r) else none
    | _ => none
  | _ => none
def qa_ba (h : qa_P → qa_C) (st : List qa_V) : Option (List qa_V) := match st with
  | .inr (.int i) :: .inl p :: r => match h p with
    | .inr (τ, n, .inl f) => if τ = 1 ∧ qa_in i n = true then some (.inr (.int (f i.toNatClampNeg)) :: r) else none
    | _ => none
  | _ => none
def qa_ja (h : qa_P → qa_C) (st : List qa_V) : Option (List qa_V) := match st with
  | .inr (.int i) :: .inl p :: r => match h p with
    | .inr (τ, n, .inr (.inl f)) => if τ = 2 ∧ qa_in i n = true then some (.inr (.long (f i.toNatClampNeg)) :: r) else none
    | _ => none
  | _ => none
def qa_rv (o : Option qa_P) : qa_V := match o with
  | some p => .inl p
  | none => .inr .null
def qa_aa (h : qa_P → qa_C) (st : List qa_V) : Option (List qa_V) := match st with
  | .inr (.int i) :: .inl p :: r => match h p with
    | .inr (τ, n, .inr (.inr f)) => if τ = 3 ∧ qa_in i n = true then some (qa_rv (f i.toNatClampNeg) :: r) else none
    | _ => none
  | _ => none
def qa_lc (k idx : Nat) (st : List qa_V) : Option (List qa_V) := match qa_lk (qa_kl k) idx with
  | some (v, _) => some (.inr v :: st)
  | _ => none
def qa_ls (pc : Nat) (dflt : Int) (ps : Array (Int × Int)) (lv : qa_L) (st : List qa_V) : Option qa_F := match st with
  | .inr (.int x) :: r => if (ps.toList.zip (ps.toList.drop 1)).all (fun q => decide (q.1.1 < q.2.1)) = true ∧ 0 ≤ (pc : Int) + Op.lookupswitch.offset ps.toList dflt x.toInt then some (qa_to pc (Op.lookupswitch.offset ps.toList dflt x.toInt), lv, r) else none
  | _ => none
def qa_ts (pc : Nat) (dflt lo hi : Int) (offs : Array Int) (lv : qa_L) (st : List qa_V) : Option qa_F := match st with
  | .inr (.int x) :: r =>
    if x.toInt < lo ∨ hi < x.toInt then (if 0 ≤ (pc : Int) + dflt then some (qa_to pc dflt, lv, r) else none)
    else match offs[(x.toInt - lo).toNat]? with
      | some off => if 0 ≤ (pc : Int) + off then some (qa_to pc off, lv, r) else none
      | none => none
  | _ => none
/-- Object's constructor -/
def qa_ob (M : qa_M) (idx : Nat) (st : List qa_V) : Option (List qa_V) := match st with
  | .inl _ :: r => if (qa_oi.any (fun q => q.1 == qa_cl M && q.2.1 == idx)) = true ∧ (r.map qa_cat).sum ≤ 8 ∧ 1 ≤ qa_fr M ∧ 20 ≤ qa_lo M then some r else none
  | _ => none
/-- a step that writes no cell -/
def qa_do (M : qa_M) (h : qa_P → qa_C) (ins : Instr) (len pc : Nat) (lv : qa_L) (st : List qa_V) : Option qa_F := match ins with
  | .iconst n => qa_S len 1 pc lv (some (.inr (.int (Int32.ofInt n)) :: st))
  | .bipush n => qa_S len 2 pc lv (some (.inr (.int (Int8.ofInt n).toInt32) :: st))
  | .sipush n => qa_S len 3 pc lv (some (.inr (.int (Int16.ofInt n).toInt32) :: st))
  | .lconst n => qa_S len 1 pc lv (some (.inr (.long (Int64.ofNat (n : Nat))) :: st))
  | .dconst d => qa_S len 1 pc lv (some (.inr (.double (if (d : Nat) = 0 then FP.dconst0 else FP.dconst1)) :: st))
  | .ldc2_w i => qa_S len 3 pc lv (qa_lc (qa_cl M) i st)
  | .iload_n i => qa_S len 1 pc lv (qa_li lv (i : Nat) st)
  | .iload i => qa_S len 2 pc lv (qa_li lv i st)
  | .lload_n i => qa_S len 1 pc lv (qa_ll lv (i : Nat) st)
  | .lload i => qa_S len 2 pc lv (qa_ll lv i st)
  | .dload_n i => qa_S len 1 pc lv (qa_ld lv (i : Nat) st)
  | .dload i => qa_S len 2 pc lv (qa_ld lv i st)
  | .aload_n i => qa_S len 1 pc lv (qa_la lv (i : Nat) st)
  | .aload i => qa_S len 2 pc lv (qa_la lv i st)
  | .istore_n i => qa_si (qa_ml M) len 1 pc (i : Nat) lv st
  | .istore i => qa_si (qa_ml M) len 2 pc i lv st
  | .lstore_n i => qa_sl (qa_ml M) len 1 pc (i : Nat) lv st
  | .lstore i => qa_sl (qa_ml M) len 2 pc i lv st
  | .dstore_n i => qa_sd (qa_ml M) len 1 pc (i : Nat) lv st
  | .dstore i => qa_sd (qa_ml M) len 2 pc i lv st
  | .astore_n i => qa_sa (qa_ml M) len 1 pc (i : Nat) lv st
  | .astore i => qa_sa (qa_ml M) len 2 pc i lv st
  | .iinc i n => match qa_lk lv i with
    | some (.inr (.int x)) => if len = 3 ∧ i < qa_ml M then some (pc + 3, qa_s1 i (.inr (.int (x + Int32.ofInt n))) lv, st) else none
    | _ => none
  | .iadd => qa_S len 1 pc lv (qa_ii (fun x y => some (.int (x + y))) st)
  | .isub => qa_S len 1 pc lv (qa_ii (fun x y => some (.int (x - y))) st)
  | .imul => qa_S len 1 pc lv (qa_ii (fun x y => some (.int (x * y))) st)
  | .iand => qa_S len 1 pc lv (qa_ii (fun x y => some (.int (x &&& y))) st)
  | .idiv => qa_S len 1 pc lv (qa_ii (fun x y => if y = 0 then none else some (.int (x / y))) st)
  | .irem => qa_S len 1 pc lv (qa_ii (fun x y => if y = 0 then none else some (.int (x - x / y * y))) st)
  | .ineg => qa_S len 1 pc lv (qa_ui (fun x => .int (-x)) st)
  | .i2l => qa_S len 1 pc lv (qa_ui (fun x => .long x.toInt64) st)
  | .i2d => qa_S len 1 pc lv (qa_ui (fun x => .double (FP.i2d x)) st)
  | .l2d => qa_S len 1 pc lv (qa_uj (fun x => .double (FP.l2d x)) st)
  | .d2l => qa_S len 1 pc lv (qa_ud (fun x => .long (FP.d2l x)) st)
  | .ladd => qa_S len 1 pc lv (qa_jj (fun x y => some (.long (x + y))) st)
  | .lmul => qa_S len 1 pc lv (qa_jj (fun x y => some (.long (x * y))) st)
  | .lcmp => qa_S len 1 pc lv (qa_jj (fun x y => some (.int (lg_cmp x y))) st)
  | .lshl => qa_S len 1 pc lv (qa_ji (fun x y => .long (x <<< (y.toInt64 &&& 63))) st)
  | .ddiv => qa_S len 1 pc lv (qa_dd (fun x y => if FP.ddiv x y &&& 0x7fffffffffffffff ≤ 0x7ff0000000000000 then some (.double (FP.ddiv x y)) else none) st)
  | .dmul => qa_S len 1 pc lv (qa_dd (fun x y => if FP.dmul x y &&& 0x7fffffffffffffff ≤ 0x7ff0000000000000 then some (.double (FP.dmul x y)) else none) st)
  | .dsub => qa_S len 1 pc lv (qa_dd (fun x y => if FP.dsub x y &&& 0x7fffffffffffffff ≤ 0x7ff0000000000000 then some (.double (FP.dsub x y)) else none) st)
  | .dcmp op => qa_S len 1 pc lv (qa_dd (fun x y => some (.int (Op.cmpValue (FP.dcmp x y) op))) st)
  | .dup => qa_S len 1 pc lv (qa_dp st)
  | .pop => qa_S len 1 pc lv (qa_pp st)
  | .dup2 => qa_S len 1 pc lv (qa_d2 st)
  | .goto off => if len = 3 ∧ 0 ≤ (pc : Int) + off then some (qa_to pc off, lv, st) else none
  | .ifCond .eq off => qa_b1 len pc off lv st (fun x => decide (x = 0))
  | .ifCond .ne off => qa_b1 len pc off lv st (fun x => decide (¬ x = 0))
  | .ifCond .lt off => qa_b1 len pc off lv st (fun x => decide (x < 0))
  | .ifCond .ge off => qa_b1 len pc off lv st (fun x => decide (0 ≤ x))
  | .ifCond .gt off => qa_b1 len pc off lv st (fun x => decide (0 < x))
  | .ifCond .le off => qa_b1 len pc off lv st (fun x => decide (x ≤ 0))
  | .if_icmp .eq off => qa_b2 len pc off lv st (fun x y => decide (x = y))
  | .if_icmp .ne off => qa_b2 len pc off lv st (fun x y => decide (¬ x = y))
  | .if_icmp .lt off => qa_b2 len pc off lv st (fun x y => decide (x < y))
  | .if_icmp .ge off => qa_b2 len pc off lv st (fun x y => decide (y ≤ x))
  | .if_icmp .gt off => qa_b2 len pc off lv st (fun x y => decide (y < x))
  | .if_icmp .le off => qa_b2 len pc off lv st (fun x y => decide (x ≤ y))
  | .ifnull off => qa_bn len pc off lv st
  | .lookupswitch dflt ps => qa_ls pc dflt ps lv st
  | .tableswitch dflt lo hi offs => qa_ts pc dflt lo hi offs lv st
  | .getfield i => qa_S len 3 pc lv (qa_gf (qa_cl M) i h st)
  | .arraylength => qa_S len 1 pc lv (qa_an_ h st)
  | .iaload => qa_S len 1 pc lv (qa_ia h st)
  | .baload => qa_S len 1 pc lv (qa_ba h st)
  | .laload => qa_S len 1 pc lv (qa_ja h st)
  | .aaload => qa_S len 1 pc lv (qa_aa h st)
  | .invokespecial i => qa_S len 3 pc lv (qa_ob M i st)
  | _ => none
/-- the type of a field, is it final, and does a value fit -/
def qa_ft (ci : Nat) : Nat → FieldType := match ci with
  | 0 => tyX0
  | 1 => tyX1
  | 2 => tyX2
  | 3 => tyX3
  | 4 => tyX4
  | 5 => tyX5
  | 6 => tyX6
  | 7 => tyX7
  | 8 => tyX8
  | 9 => tyX9
  | _ => tyX10
def qa_fn (ci sl : Nat) : Bool := match vwCl[ci]? with
  | some q => (q.2.1 sl).2.2.2
  | none => false
def qa_fz (ci : Nat) : Nat := match vwCl[ci]? with
  | some q => q.2.2
  | none => 0
def qa_fit (ty : FieldType) (v : qa_V) : Bool := match v with
  | .inl _ => (match ty with
    | .object _ | .array _ => true
    | _ => false)
  | .inr v => decide (narrow ty v = v) && fits ty v
def qa_up (h : qa_P → qa_C) (p : qa_P) (c : qa_C) : qa_P → qa_C := fun q => if q = p then c else h q
/-- a step that writes one cell: the next place, the stack, the cell's position and what it holds then -/
def qa_wr (M : qa_M) (ins : Instr) (len pc : Nat) (st : List qa_V) (h : qa_P → qa_C) : Option (Nat × List qa_V × qa_P × qa_C) := match ins with
  | .putfield i => match st with
    | v :: .inl p :: r => match qa_lk (qa_fl (qa_cl M)) i, h p with
      | some (ci, sl, _), .inl (cj, f) => if len = 3 ∧ cj = ci ∧ qa_fit (qa_ft ci sl) v = true ∧ (qa_fn ci sl = true → qa_sk M = 0 ∧ ci = qa_cl M) then some (pc + 3, r, p, .inl (ci, fun j => if j = sl then v else f j)) else none
      | _, _ => none
    | _ => none
  | .iastore => match st with
    | .inr (.int x) :: .inr (.int i) :: .inl p :: r => match h p with
      | .inr (τ, n, .inl f) => if len = 1 ∧ τ = 0 ∧ qa_in i n = true then some (pc + 1, r, p, .inr (0, n, .inl (upd f i.toNatClampNeg x))) else none
      | _ => none
    | _ => none
  | .bastore => match st with
    | .inr (.int x) :: .inr (.int i) :: .inl p :: r => match h p with
      | .inr (τ, n, .inl f) => if len = 1 ∧ τ = 1 ∧ qa_in i n = true ∧ (x = 0 ∨ x = 1) then some (pc + 1, r, p, .inr (1, n, .inl (upd f i.toNatClampNeg x))) else none
      | _ => none
    | _ => none
  | .lastore => match st with
    | .inr (.long x) :: .inr (.int i) :: .inl p :: r => match h p with
      | .inr (τ, n, .inr (.inl f)) => if len = 1 ∧ τ = 2 ∧ qa_in i n = true then some (pc + 1, r, p, .inr (2, n, .inr (.inl (vp_updL f i.toNatClampNeg x)))) else none
      | _ => none
    | _ => none
  | .aastore => match st with
    | .inl v :: .inr (.int i) :: .inl p :: r => match h p, h v with
      | .inr (τ, n, .inr (.inr f)), .inl (cj, _) => if len = 1 ∧ τ = 3 ∧ cj = 1 ∧ qa_in i n = true then some (pc + 1, r, p, .inr (3, n, .inr (.inr (va_up f i.toNatClampNeg (some v))))) else none
      | _, _ => none
    | _ => none
  | _ => none
/-- a step that makes a cell: the next place, the stack under the reference, the cell, its elements -/
def qa_mkc (M : qa_M) (ins : Instr) (len pc : Nat) (st : List qa_V) : Option (Nat × List qa_V × qa_C × Nat) := match ins with
  | .new i => match qa_lk (qa_nw (qa_cl M)) i with
    | some (ci, _) => if len = 3 then some (pc + 3, st, .inl (ci, fun j => .inr (defaultValue (qa_ft ci j))), qa_fz ci) else none
    | _ => none
  | .newarray t => match st with
    | .inr (.int n) :: r => if len = 2 ∧ ¬ n < 0 ∧ n.toNatClampNeg ≤ 60000000 then (match t with
      | .int => some (pc + 2, r, .inr (0, n.toNatClampNeg, .inl (fun _ => 0)), n.toNatClampNeg)
      | .boolean => some (pc + 2, r, .inr (1, n.toNatClampNeg, .inl (fun _ => 0)), n.toNatClampNeg)
      | .long => some (pc + 2, r, .inr (2, n.toNatClampNeg, .inr (.inl (fun _ => 0))), n.toNatClampNeg)
      | _ => none) else none
    | _ => none
  | .anewarray i => match st with
    | .inr (.int n) :: r => if len = 3 ∧ ¬ n < 0 ∧ n.toNatClampNeg ≤ 60000000 ∧ (qa_an.any (fun q => q.1 == qa_cl M && q.2.1 == i)) = true then some (pc + 3, r, .inr (3, n.toNatClampNeg, .inr (.inr (fun _ => none))), n.toNatClampNeg) else none
    | _ => none
  | _ => none
/-- where a new cell goes: a Bonfire begins a region of its own -/
def qa_at (nx : qa_P) (c : qa_C) : qa_P := match c with
  | .inl (1, _) => (nx.1 + 1, 0)
  | _ => nx
def qa_nxt (p : qa_P) : qa_P := (p.1, p.2 + 1)
/-- a return -/
def qa_re (ret : Option FieldType) (ins : Instr) (len : Nat) (st : List qa_V) : Option (Option qa_V) := match ins with
  | .ireturn => match st with
    | [.inr (.int x)] => (match ret with
      | some ty => if len = 1 ∧ narrow ty (.int x) = .int x then some (some (.inr (.int x))) else none
      | none => none)
    | _ => none
  | .lreturn => match st with
    | [.inr (.long x)] => if len = 1 ∧ ret = some .long then some (some (.inr (.long x))) else none
    | _ => none
  | .dreturn => match st with
    | [.inr (.double x)] => if len = 1 ∧ ret = some .double then some (some (.inr (.double x))) else none
    | _ => none
  | .return_ => match st with
    | [] => if len = 1 ∧ ret = none then some none else none
    | _ => none
  | _ => none
/-- a throw made here: new, dup, invokespecial, athrow -/
def qa_th (M : qa_M) (ins : Instr) (len pc : Nat) (st : List qa_V) : Option Nat := match ins with
  | .new i => match qa_lk qa_xl i with
    | some (_, ik, ic) => if len = 3 ∧ ik = i ∧ qa_cl M = 9 ∧ (qa_hh M).isEmpty = true ∧ 6 ≤ qa_fr M ∧ 90 ≤ qa_lo M ∧ (st.map qa_cat).sum ≤ 8 ∧ qa_lk (qa_is M) (pc + 3) = some (.dup, 1) ∧ qa_lk (qa_is M) (pc + 4) = some (.invokespecial ic, 3) ∧ qa_lk (qa_is M) (pc + 7) = some (.athrow, 1) then some i else none
    | _ => none
  | _ => none
/-- the locals of a method's start -/
def qa_ag : Nat → List qa_V → qa_L
  | _, [] => []
  | i, v :: vs => (i, v) :: qa_ag (if qa_cat v = 2 then i + 2 else i + 1) vs
/-- is the receiver an object of the class -/
def qa_rc (h : qa_P → qa_C) (ci : Nat) (o : Option qa_V) : Bool := match o with
  | some (.inl p) => (match h p with
    | .inl (cj, _) => decide (cj = ci)
    | _ => false)
  | _ => false
/-- a call: the callee, is it by a nest, its arguments in their order, the stack under them -/
def qa_inv (M : qa_M) (h : qa_P → qa_C) (ins : Instr) (len : Nat) (st : List qa_V) : Option (qa_M × Bool × List qa_V × List qa_V) :=
  let go := fun (i sk : Nat) => match qa_lk (qa_ca (qa_cl M)) i with
    | some (M', nest, _) =>
      if len = 3 ∧ qa_sk M' = sk ∧ qa_na M' ≤ st.length ∧ ((st.drop (qa_na M')).map qa_cat).sum ≤ 8 ∧ ((st.take (qa_na M')).map qa_cat).sum ≤ qa_ml M' ∧ qa_fr M' + 1 ≤ qa_fr M ∧ 19 + qa_ml M' + qa_lo M' ≤ qa_lo M ∧ ((qa_hh M').isEmpty = true ∨ (sk = 1 ∧ nest = false))
        ∧ (sk = 1 ∨ qa_rc h (qa_cl M') (st.take (qa_na M')).getLast? = true)
      then some (M', nest, (st.take (qa_na M')).reverse, st.drop (qa_na M')) else none
    | none => none
  match ins with
  | .invokevirtual i => go i 2
  | .invokespecial i => go i 0
  | .invokestatic i => go i 1
  | _ => none
/-- the handler that takes an exception -/
def qa_hd : List (Nat × Nat × Nat × Nat) → Nat → Nat → Option Nat
  | [], _, _ => none
  | (a, b, t, ct) :: l, pc, E => if a ≤ pc ∧ pc < b then (match qa_lk qa_ht ct with
    | some E' => if E' = E then some t else qa_hd l pc E
    | none => none) else qa_hd l pc E
abbrev qa_Z : Type := (Option qa_V ⊕ Nat) × qa_H × Nat × Nat
def qa_pl (k sl : Nat) (z : qa_Z) : qa_Z := (z.1, z.2.1, k + z.2.2.1, sl + z.2.2.2)
/-- the run of a method from a place on, with so many steps at most: how it ends, the heap, the cells and elements that it made -/
def qa_ex : Nat → qa_M → Nat → qa_L → List qa_V → qa_H → Option qa_Z
  | 0, _, _, _, _, _ => none
  | n + 1, M, pc, lv, st, h => match qa_lk (qa_is M) pc with
    | none => none
    | some (ins, len) => match qa_do M h.2 ins len pc lv st with
      | some F => qa_ex n M F.1 F.2.1 F.2.2 h
      | none => match qa_re (qa_rt M) ins len st with
        | some v => some (.inl v, h, 0, 0)
        | none => match qa_wr M ins len pc st h.2 with
          | some w => qa_ex n M w.1 lv w.2.1 (h.1, qa_up h.2 w.2.2.1 w.2.2.2)
          | none => match qa_mkc M ins len pc st with
            | some w => (qa_ex n M w.1 lv (.inl (qa_at h.1 w.2.2.1) :: w.2.1) (qa_nxt (qa_at h.1 w.2.2.1), qa_up h.2 (qa_at h.1 w.2.2.1) w.2.2.1)).map (qa_pl 1 w.2.2.2)
            | none => match qa_th M ins len pc st with
              | some E => some (.inr E, h, 1, 6)
              | none => match qa_inv M h.2 ins len st with
                | none => none
                | some w => match qa_ex n w.1 0 (qa_ag 0 w.2.2.1) [] h with
                  | none => none
                  | some (.inl v, h1, k, sl) => (qa_ex n M (pc + 3) lv (v.toList ++ w.2.2.2) h1).map (qa_pl k sl)
                  | some (.inr E, h1, k, sl) => if w.2.1 = true ∨ qa_sk w.1 = 0 then none else if (qa_hh M).isEmpty = true then some (.inr E, h1, k, sl) else match qa_hd (qa_hh M) pc E with
                    | none => none
                    | some t => (qa_ex n M t lv [.inl h1.1] (qa_nxt h1.1, qa_up h1.2 h1.1 (.inl (99, fun _ => .inr .null)))).map (qa_pl k sl)
end
section
/-! development only: the definitions of parts 15 to 33 -/
abbrev qa_T : Type := (qa_P → Nat → Int32) × (qa_P → Nat → Int64)
def qa_wi (σ : qa_T) (p : qa_P) (i : Nat) (v : Int32) : qa_T := (fun q => if q = p then upd (σ.1 q) i v else σ.1 q, σ.2)
def qa_wl (σ : qa_T) (p : qa_P) (i : Nat) (v : Int64) : qa_T := (σ.1, fun q => if q = p then vp_updL (σ.2 q) i v else σ.2 q)
abbrev qa_nn (x : UInt64) : Prop := x &&& 0x7fffffffffffffff ≤ 0x7ff0000000000000
def qa_bi (b : Bool) : Int32 := match b with
  | true => 1
  | false => 0
def qa_fu : Nat := 3000
noncomputable def qa_fX0_copyFrom (R : Nat) (S : Nat) (σ : qa_T) : qa_T :=
    let σ1 := qa_wi σ (R, 15) 0 (σ.1 (S, 15) 0)
    let σ2 := qa_wi σ1 (R, 15) 1 (σ1.1 (S, 15) 1)
    let σ3 := qa_wi σ2 (R, 15) 2 (σ2.1 (S, 15) 2)
    let σ4 := qa_wi σ3 (R, 15) 3 (σ3.1 (S, 15) 3)
    let σ5 := qa_wi σ4 (R, 15) 4 (σ4.1 (S, 15) 4)
    let σ6 := qa_wi σ5 (R, 15) 5 (σ5.1 (S, 15) 5)
    let σ7 := qa_wi σ6 (R, 15) 6 (σ6.1 (S, 15) 6)
    σ7
noncomputable def qa_fX0_shareOfHits_26 (R : Nat) (y0 : UInt64) (σ : qa_T) : Option UInt64 :=
    some y0
noncomputable def qa_fX0_shareOfHits (R : Nat) (σ : qa_T) : Option UInt64 :=
    let v1 : Int32 := ((σ.1 (R, 15) 1) + (σ.1 (R, 15) 2))
    if v1 ≤ 0 then
      qa_fX0_shareOfHits_26 R FP.dconst0 σ
    else
      if ¬ qa_nn (FP.ddiv (FP.i2d (σ.1 (R, 15) 1)) (FP.i2d v1)) then none else
      qa_fX0_shareOfHits_26 R (FP.ddiv (FP.i2d (σ.1 (R, 15) 1)) (FP.i2d v1)) σ
noncomputable def qa_fX9_copyRow_26 (p1 : qa_P) (n1 : Nat) (p2 : qa_P) (n2 : Nat) (σ : qa_T) : Option qa_T :=
    some σ
noncomputable def qa_fX9_copyRow_2 (p1 : qa_P) (n1 : Nat) (p2 : qa_P) (n2 : Nat) : Nat → Int32 → qa_T → Option qa_T
  | 0, _, _ => none
  | n + 1, x2, σ =>
    if Int32.ofNat n1 ≤ x2 then
      qa_fX9_copyRow_26 p1 n1 p2 n2 σ
    else
      if Int32.ofNat n2 ≤ x2 then
        qa_fX9_copyRow_26 p1 n1 p2 n2 σ
      else
        if ¬ qa_in x2 n1 = true then none else
        if ¬ qa_in x2 n2 = true then none else
        let σ5 := qa_wi σ p2 (x2).toNatClampNeg (σ.1 p1 (x2).toNatClampNeg)
        let v6 : Int32 := x2 + Int32.ofInt 1
        qa_fX9_copyRow_2 p1 n1 p2 n2 n v6 σ5
noncomputable def qa_fX9_copyRow (p1 : qa_P) (n1 : Nat) (p2 : qa_P) (n2 : Nat) (σ : qa_T) : Option qa_T :=
    qa_fX9_copyRow_2 p1 n1 p2 n2 qa_fu (Int32.ofInt 0) σ
noncomputable def qa_fX6_copyFrom_112 (R : Nat) (S : Nat) (σ : qa_T) : Option qa_T :=
    let σ15 := qa_wi σ (R, 1) 8 (σ.1 (S, 1) 8)
    some σ15
noncomputable def qa_fX6_copyFrom_76 (R : Nat) (S : Nat) : Nat → Int32 → qa_T → Option qa_T
  | 0, _, _ => none
  | n + 1, x2, σ =>
    if Int32.ofNat 16 ≤ x2 then
      qa_fX6_copyFrom_112 R S σ
    else
      if Int32.ofNat 16 ≤ x2 then
        qa_fX6_copyFrom_112 R S σ
      else
        if ¬ qa_in x2 16 = true then none else
        if ¬ qa_in x2 16 = true then none else
        if ¬ ((σ.1 (S, 5) (x2).toNatClampNeg) = 0 ∨ (σ.1 (S, 5) (x2).toNatClampNeg) = 1) then none else
        let σ20 := qa_wi σ (R, 5) (x2).toNatClampNeg (σ.1 (S, 5) (x2).toNatClampNeg)
        let v21 : Int32 := x2 + Int32.ofInt 1
        qa_fX6_copyFrom_76 R S n v21 σ20
noncomputable def qa_fX6_copyFrom (R : Nat) (S : Nat) (σ : qa_T) : Option qa_T :=
    let σ1 := qa_wi σ (R, 1) 0 (σ.1 (S, 1) 0)
    (qa_fX9_copyRow (S, 2) 16 (R, 2) 16 σ1).bind fun c2 =>
    (qa_fX9_copyRow (S, 3) 16 (R, 3) 16 c2).bind fun c4 =>
    (qa_fX9_copyRow (S, 4) 16 (R, 4) 16 c4).bind fun c6 =>
    (qa_fX9_copyRow (S, 6) 16 (R, 6) 16 c6).bind fun c8 =>
    (qa_fX9_copyRow (S, 7) 16 (R, 7) 16 c8).bind fun c10 =>
    (qa_fX9_copyRow (S, 8) 16 (R, 8) 16 c10).bind fun c12 =>
    qa_fX6_copyFrom_76 R S qa_fu (Int32.ofInt 0) c12
noncomputable def qa_fX3_copyFrom (R : Nat) (S : Nat) (σ : qa_T) : Option qa_T :=
    let σ1 := qa_wi σ (R, 9) 0 (σ.1 (S, 9) 0)
    let σ2 := qa_wi σ1 (R, 9) 1 (σ1.1 (S, 9) 1)
    (qa_fX9_copyRow (S, 10) 24 (R, 10) 24 σ2).bind fun c3 =>
    some c3
noncomputable def qa_fX7_copyFrom (R : Nat) (S : Nat) (σ : qa_T) : qa_T :=
    let σ1 := qa_wi σ (R, 11) 0 (σ.1 (S, 11) 0)
    let σ2 := qa_wi σ1 (R, 11) 1 (σ1.1 (S, 11) 1)
    let σ3 := qa_wi σ2 (R, 11) 2 (σ2.1 (S, 11) 2)
    let σ4 := qa_wi σ3 (R, 11) 3 (σ3.1 (S, 11) 3)
    let σ5 := qa_wi σ4 (R, 11) 4 (σ4.1 (S, 11) 4)
    σ5
noncomputable def qa_fX2_copyFrom (R : Nat) (S : Nat) (σ : qa_T) : Option qa_T :=
    let σ1 := qa_wi σ (R, 12) 0 (σ.1 (S, 12) 0)
    let σ2 := qa_wi σ1 (R, 12) 1 (σ1.1 (S, 12) 1)
    let σ3 := qa_wi σ2 (R, 12) 2 (σ2.1 (S, 12) 2)
    (qa_fX9_copyRow (S, 13) 16 (R, 13) 16 σ3).bind fun c4 =>
    let σ6 := qa_wi c4 (R, 12) 4 (c4.1 (S, 12) 4)
    some σ6
noncomputable def qa_fX4_copyFrom (R : Nat) (S : Nat) (σ : qa_T) : qa_T :=
    let σ1 := qa_wi σ (R, 14) 0 (σ.1 (S, 14) 0)
    let σ2 := qa_wi σ1 (R, 14) 1 (σ1.1 (S, 14) 1)
    let σ3 := qa_wi σ2 (R, 14) 2 (σ2.1 (S, 14) 2)
    let σ4 := qa_wi σ3 (R, 14) 3 (σ3.1 (S, 14) 3)
    let σ5 := qa_wi σ4 (R, 14) 4 (σ4.1 (S, 14) 4)
    σ5
noncomputable def qa_fX1_copyFrom (R : Nat) (S : Nat) (σ : qa_T) : Option qa_T :=
    (qa_fX6_copyFrom R S σ).bind fun c1 =>
    (qa_fX3_copyFrom R S c1).bind fun c3 =>
    let σ5 := qa_fX7_copyFrom R S c3
    (qa_fX2_copyFrom R S σ5).bind fun c6 =>
    let σ8 := qa_fX4_copyFrom R S c6
    let σ9 := qa_fX0_copyFrom R S σ8
    some σ9
noncomputable def qa_fX1_mayGoOn_25 (R : Nat) (σ : qa_T) : Bool :=
    false
noncomputable def qa_fX1_mayGoOn (R : Nat) (σ : qa_T) : Bool :=
    if (σ.1 (R, 9) 0) ≤ 0 then
      qa_fX1_mayGoOn_25 R σ
    else
      if ¬ (σ.1 (R, 11) 4) = (Int32.ofInt (-1)) then
        qa_fX1_mayGoOn_25 R σ
      else
        true
noncomputable def qa_fX6_isReady_26 (R : Nat) (a1 : Int32) (σ : qa_T) : Bool :=
    false
noncomputable def qa_fX6_isReady (R : Nat) (a1 : Int32) (σ : qa_T) : Bool :=
    if a1 < 0 then
      qa_fX6_isReady_26 R a1 σ
    else
      if Int32.ofNat 16 ≤ a1 then
        qa_fX6_isReady_26 R a1 σ
      else
        if (σ.1 (R, 5) (a1).toNatClampNeg) = 0 then
          qa_fX6_isReady_26 R a1 σ
        else
          true
noncomputable def qa_fX9_at_17 (p1 : qa_P) (n1 : Nat) (a2 : Int32) (y0 : Int32) (σ : qa_T) : Int32 :=
    y0
noncomputable def qa_fX9_at_16 (p1 : qa_P) (n1 : Nat) (a2 : Int32) (σ : qa_T) : Int32 :=
    qa_fX9_at_17 p1 n1 a2 (Int32.ofInt 0) σ
noncomputable def qa_fX9_at (p1 : qa_P) (n1 : Nat) (a2 : Int32) (σ : qa_T) : Int32 :=
    if a2 < 0 then
      qa_fX9_at_16 p1 n1 a2 σ
    else
      if Int32.ofNat n1 ≤ a2 then
        qa_fX9_at_16 p1 n1 a2 σ
      else
        qa_fX9_at_17 p1 n1 a2 (σ.1 p1 (a2).toNatClampNeg) σ
noncomputable def qa_fX2_queuePlace_2 (R : Nat) (a1 : Int32) : Nat → Int32 → qa_T → Option Int32
  | 0, _, _ => none
  | n + 1, x2, σ =>
    if (σ.1 (R, 12) 2) ≤ x2 then
      some (Int32.ofInt (-1))
    else
      if ¬ (qa_fX9_at (R, 13) 16 x2 σ) = a1 then
        let v3 : Int32 := x2 + Int32.ofInt 1
        qa_fX2_queuePlace_2 R a1 n v3 σ
      else
        some x2
noncomputable def qa_fX2_queuePlace (R : Nat) (a1 : Int32) (σ : qa_T) : Option Int32 :=
    qa_fX2_queuePlace_2 R a1 qa_fu (Int32.ofInt 0) σ
noncomputable def qa_fX1_mayAsk_49 (R : Nat) (a1 : Int32) (σ : qa_T) : Option Bool :=
    some false
noncomputable def qa_fX1_mayAsk (R : Nat) (a1 : Int32) (σ : qa_T) : Option Bool :=
    if ¬ (qa_bi (qa_fX6_isReady R a1 σ)) = 0 then
      qa_fX1_mayAsk_49 R a1 σ
    else
      if a1 = (σ.1 (R, 12) 0) then
        qa_fX1_mayAsk_49 R a1 σ
      else
        if a1 = (σ.1 (R, 11) 4) then
          qa_fX1_mayAsk_49 R a1 σ
        else
          (qa_fX2_queuePlace R a1 σ).bind fun c4 =>
          if ¬ c4 = (Int32.ofInt (-1)) then
            qa_fX1_mayAsk_49 R a1 σ
          else
            some true
noncomputable def qa_fX7_bears_16 (R : Nat) (a1 : Int32) (σ : qa_T) : Bool :=
    true
noncomputable def qa_fX7_bears (R : Nat) (a1 : Int32) (σ : qa_T) : Bool :=
    if a1 = (σ.1 (R, 11) 0) then
      qa_fX7_bears_16 R a1 σ
    else
      if ¬ a1 = (σ.1 (R, 11) 2) then
        false
      else
        qa_fX7_bears_16 R a1 σ
noncomputable def qa_fX1_mayBurn_26 (R : Nat) (a1 : Int32) (σ : qa_T) : Bool :=
    false
noncomputable def qa_fX1_mayBurn (R : Nat) (a1 : Int32) (σ : qa_T) : Bool :=
    if (qa_bi (qa_fX6_isReady R a1 σ)) = 0 then
      qa_fX1_mayBurn_26 R a1 σ
    else
      if ¬ (qa_bi (qa_fX7_bears R a1 σ)) = 0 then
        qa_fX1_mayBurn_26 R a1 σ
      else
        true
noncomputable def qa_fX3_advance_24 (R : Nat) (y0 : Int32) (σ : qa_T) : (Int32 × qa_T) :=
    let σ2 := qa_wi σ (R, 9) 1 y0
    ((qa_fX9_at (R, 10) 24 (σ2.1 (R, 9) 1) σ2), σ2)
noncomputable def qa_fX3_advance (R : Nat) (σ : qa_T) : (Int32 × qa_T) :=
    if (σ.1 (R, 9) 0) ≤ ((σ.1 (R, 9) 1) + (Int32.ofInt 1)) then
      qa_fX3_advance_24 R (Int32.ofInt 0) σ
    else
      qa_fX3_advance_24 R ((σ.1 (R, 9) 1) + (Int32.ofInt 1)) σ
noncomputable def qa_fX7_bring_41 (R : Nat) (a1 : Int32) (a2 : Int32) (σ : qa_T) : qa_T :=
    let σ2 := qa_wi σ (R, 11) 0 a1
    let σ3 := qa_wi σ2 (R, 11) 1 (Int32.ofInt 0)
    let σ4 := qa_wi σ3 (R, 11) 4 (Int32.ofInt (-1))
    σ4
noncomputable def qa_fX7_bring_38 (R : Nat) (a1 : Int32) (a2 : Int32) (y0 : Int32) (σ : qa_T) : qa_T :=
    let σ8 := qa_wi σ (R, 11) 3 y0
    qa_fX7_bring_41 R a1 a2 σ8
noncomputable def qa_fX7_bring_21 (R : Nat) (a1 : Int32) (a2 : Int32) (y0 : Int32) (σ : qa_T) : qa_T :=
    let σ6 := qa_wi σ (R, 11) 2 y0
    if (σ6.1 (R, 11) 2) = (Int32.ofInt (-1)) then
      qa_fX7_bring_38 R a1 a2 (Int32.ofInt 0) σ6
    else
      qa_fX7_bring_38 R a1 a2 a2 σ6
noncomputable def qa_fX7_bring (R : Nat) (a1 : Int32) (a2 : Int32) (σ : qa_T) : qa_T :=
    if a1 = (σ.1 (R, 11) 0) then
      qa_fX7_bring_41 R a1 a2 σ
    else
      if a2 ≤ 0 then
        qa_fX7_bring_21 R a1 a2 (Int32.ofInt (-1)) σ
      else
        qa_fX7_bring_21 R a1 a2 (σ.1 (R, 11) 0) σ
noncomputable def qa_fX9_set_14 (p1 : qa_P) (n1 : Nat) (a2 : Int32) (a3 : Int32) (σ : qa_T) : qa_T :=
    σ
noncomputable def qa_fX9_set (p1 : qa_P) (n1 : Nat) (a2 : Int32) (a3 : Int32) (σ : qa_T) : qa_T :=
    if a2 < 0 then
      qa_fX9_set_14 p1 n1 a2 a3 σ
    else
      if Int32.ofNat n1 ≤ a2 then
        qa_fX9_set_14 p1 n1 a2 a3 σ
      else
        let σ3 := qa_wi σ p1 (a2).toNatClampNeg a3
        qa_fX9_set_14 p1 n1 a2 a3 σ3
noncomputable def qa_fX6_use (R : Nat) (a1 : Int32) (σ : qa_T) : qa_T :=
    let σ1 := qa_wi σ (R, 1) 8 ((σ.1 (R, 1) 8) + (Int32.ofInt 1))
    let σ2 := qa_fX9_set (R, 8) 16 a1 (σ1.1 (R, 1) 8) σ1
    σ2
noncomputable def qa_fX1_bringOn (R : Nat) (a1 : Int32) (σ : qa_T) : qa_T :=
    let σ1 := qa_fX7_bring R a1 (qa_fX9_at (R, 4) 16 a1 σ) σ
    let σ2 := qa_fX6_use R a1 σ1
    σ2
noncomputable def qa_fX2_unqueue_2 (R : Nat) (a1 : Int32) : Nat → Int32 → qa_T → Option qa_T
  | 0, _, _ => none
  | n + 1, x2, σ =>
    if (σ.1 (R, 12) 2) ≤ (x2 + (Int32.ofInt 1)) then
      let σ2 := qa_wi σ (R, 12) 2 ((σ.1 (R, 12) 2) - (Int32.ofInt 1))
      some σ2
    else
      let σ3 := qa_fX9_set (R, 13) 16 x2 (qa_fX9_at (R, 13) 16 (x2 + (Int32.ofInt 1)) σ) σ
      let v4 : Int32 := x2 + Int32.ofInt 1
      qa_fX2_unqueue_2 R a1 n v4 σ3
noncomputable def qa_fX2_unqueue (R : Nat) (a1 : Int32) (σ : qa_T) : Option qa_T :=
    qa_fX2_unqueue_2 R a1 qa_fu a1 σ
noncomputable def qa_fX1_proceed_82 (R : Nat) (σ : qa_T) : Option (Bool × qa_T) :=
    some (false, σ)
noncomputable def qa_fX1_proceed (R : Nat) (σ : qa_T) : Option (Bool × qa_T) :=
    let c1 := qa_fX3_advance R σ
    if (qa_bi (qa_fX6_isReady R c1.1 c1.2)) = 0 then
      let σ3 := qa_wi c1.2 (R, 15) 2 ((c1.2.1 (R, 15) 2) + (Int32.ofInt 1))
      let σ4 := qa_wi σ3 (R, 11) 4 c1.1
      (qa_fX2_queuePlace R c1.1 σ4).bind fun c5 =>
      if c5 = (Int32.ofInt (-1)) then
        qa_fX1_proceed_82 R σ4
      else
        (qa_fX2_unqueue R c5 σ4).bind fun c8 =>
        qa_fX1_proceed_82 R c8
    else
      let σ10 := qa_wi c1.2 (R, 15) 1 ((c1.2.1 (R, 15) 1) + (Int32.ofInt 1))
      let σ11 := qa_fX1_bringOn R c1.1 σ10
      some (true, σ11)
noncomputable def qa_fX3_slideAhead_44 (R : Nat) (a1 : Int32) (y0 : Int32) (σ : qa_T) : Option Int32 :=
    some y0
noncomputable def qa_fX3_slideAhead_43 (R : Nat) (a1 : Int32) (σ : qa_T) : Option Int32 :=
    qa_fX3_slideAhead_44 R a1 (Int32.ofInt (-1)) σ
noncomputable def qa_fX3_slideAhead (R : Nat) (a1 : Int32) (σ : qa_T) : Option Int32 :=
    if 0 < (σ.1 (R, 9) 0) then
      if (σ.1 (R, 9) 0) = 0 then none else
      let v3 : Int32 := (((σ.1 (R, 9) 1) + a1) - ((σ.1 (R, 9) 1) + a1) / (σ.1 (R, 9) 0) * (σ.1 (R, 9) 0))
      if v3 < 0 then
        qa_fX3_slideAhead_43 R a1 σ
      else
        if Int32.ofNat 24 ≤ v3 then
          qa_fX3_slideAhead_43 R a1 σ
        else
          qa_fX3_slideAhead_44 R a1 (σ.1 (R, 10) (v3).toNatClampNeg) σ
    else
      some (Int32.ofInt (-1))
noncomputable def qa_fX1_nextInGoodTime_73 (R : Nat) (k2 : Int32 → qa_T → Option Int32) (x1 : Int32) (σ : qa_T) : Option Int32 :=
    let v5 : Int32 := x1 + Int32.ofInt 1
    k2 v5 σ
noncomputable def qa_fX1_nextInGoodTime_72 (R : Nat) (y0 : Int32) (σ : qa_T) : Option Int32 :=
    some y0
noncomputable def qa_fX1_nextInGoodTime_2 (R : Nat) : Nat → Int32 → qa_T → Option Int32
  | 0, _, _ => none
  | n + 1, x1, σ =>
    if (σ.1 (R, 14) 1) < x1 then
      some (Int32.ofInt (-1))
    else
      (qa_fX3_slideAhead R x1 σ).bind fun c2 =>
      if c2 = (Int32.ofInt (-1)) then
        qa_fX1_nextInGoodTime_73 R (qa_fX1_nextInGoodTime_2 R n) x1 σ
      else
        if ¬ (qa_bi (qa_fX6_isReady R c2 σ)) = 0 then
          qa_fX1_nextInGoodTime_73 R (qa_fX1_nextInGoodTime_2 R n) x1 σ
        else
          if (σ.1 (R, 14) 0) < ((σ.1 (R, 12) 4) + (qa_fX9_at (R, 2) 16 c2 σ)) then
            qa_fX1_nextInGoodTime_72 R (Int32.ofInt (-1)) σ
          else
            qa_fX1_nextInGoodTime_72 R c2 σ
noncomputable def qa_fX1_nextInGoodTime (R : Nat) (σ : qa_T) : Option Int32 :=
    qa_fX1_nextInGoodTime_2 R qa_fu (Int32.ofInt 1) σ
noncomputable def qa_fX1_nextToLoad (R : Nat) (σ : qa_T) : Option (Int32 × qa_T) :=
    if (σ.1 (R, 11) 4) = (Int32.ofInt (-1)) then
      if (σ.1 (R, 12) 2) ≤ 0 then
        (qa_fX1_nextInGoodTime R σ).bind fun c3 =>
        some (c3, σ)
      else
        let v5 : Int32 := (qa_fX9_at (R, 13) 16 (Int32.ofInt 0) σ)
        (qa_fX2_unqueue R (Int32.ofInt 0) σ).bind fun c6 =>
        some (v5, c6)
    else
      some ((σ.1 (R, 11) 4), σ)
noncomputable def qa_fX1_weighByNextUse_37 (R : Nat) : Nat → Int32 → qa_T → Option qa_T
  | 0, _, _ => none
  | n + 1, x1, σ =>
    if x1 ≤ 0 then
      some σ
    else
      (qa_fX3_slideAhead R x1 σ).bind fun c4 =>
      let σ6 := qa_fX9_set (R, 16) 16 c4 x1 σ
      let v7 : Int32 := x1 + Int32.ofInt (-1)
      qa_fX1_weighByNextUse_37 R n v7 σ6
noncomputable def qa_fX1_weighByNextUse_2 (R : Nat) : Nat → Int32 → qa_T → Option qa_T
  | 0, _, _ => none
  | n + 1, x1, σ =>
    if (σ.1 (R, 1) 0) ≤ x1 then
      let v2 : Int32 := (σ.1 (R, 9) 0)
      qa_fX1_weighByNextUse_37 R qa_fu v2 σ
    else
      let σ8 := qa_fX9_set (R, 16) 16 x1 ((Int8.ofInt 25).toInt32) σ
      let v9 : Int32 := x1 + Int32.ofInt 1
      qa_fX1_weighByNextUse_2 R n v9 σ8
noncomputable def qa_fX1_weighByNextUse (R : Nat) (σ : qa_T) : Option qa_T :=
    qa_fX1_weighByNextUse_2 R qa_fu (Int32.ofInt 0) σ
noncomputable def qa_fX1_weighByUseOrCost_64 (R : Nat) (k2 : Int32 → qa_T → Option qa_T) (x1 : Int32) (y0 : Int32) (y1 : Int32) (σ : qa_T) : Option qa_T :=
    let σ4 := qa_fX9_set (R, 16) 16 y1 y0 σ
    let v5 : Int32 := x1 + Int32.ofInt 1
    k2 v5 σ4
noncomputable def qa_fX1_weighByUseOrCost_28 (R : Nat) (k2 : Int32 → qa_T → Option qa_T) (x1 : Int32) (y0 : Int32) (σ : qa_T) : Option qa_T :=
    if y0 = 0 then
      qa_fX1_weighByUseOrCost_64 R k2 x1 (qa_fX9_at (R, 2) 16 x1 σ) x1 σ
    else
      qa_fX1_weighByUseOrCost_64 R k2 x1 (-(qa_fX9_at (R, 8) 16 x1 σ)) x1 σ
noncomputable def qa_fX1_weighByUseOrCost_2 (R : Nat) : Nat → Int32 → qa_T → Option qa_T
  | 0, _, _ => none
  | n + 1, x1, σ =>
    if (σ.1 (R, 1) 0) ≤ x1 then
      some σ
    else
      if ¬ (σ.1 (R, 14) 2) = 0 then
        qa_fX1_weighByUseOrCost_28 R (qa_fX1_weighByUseOrCost_2 R n) x1 (Int32.ofInt 0) σ
      else
        qa_fX1_weighByUseOrCost_28 R (qa_fX1_weighByUseOrCost_2 R n) x1 (Int32.ofInt 1) σ
noncomputable def qa_fX1_weighByUseOrCost (R : Nat) (σ : qa_T) : Option qa_T :=
    qa_fX1_weighByUseOrCost_2 R qa_fu (Int32.ofInt 0) σ
noncomputable def qa_fX1_lineUp_115 (R : Nat) (k26 : Int32 → Int32 → qa_T → Option (Int32 × qa_T)) (x1 : Int32) (x2 : Int32) (σ : qa_T) : Option (Int32 × qa_T) :=
    let v6 : Int32 := x2 + Int32.ofInt 1
    k26 x1 v6 σ
noncomputable def qa_fX1_lineUp_103 (R : Nat) (k26 : Int32 → Int32 → qa_T → Option (Int32 × qa_T)) (x1 : Int32) (x2 : Int32) (x3 : Int32) (σ : qa_T) : Option (Int32 × qa_T) :=
    let σ8 := qa_fX9_set (R, 17) 16 x3 x2 σ
    let v9 : Int32 := x1 + Int32.ofInt 1
    qa_fX1_lineUp_115 R k26 v9 x2 σ8
noncomputable def qa_fX1_lineUp_47 (R : Nat) (k26 : Int32 → Int32 → qa_T → Option (Int32 × qa_T)) : Nat → Int32 → Int32 → Int32 → qa_T → Option (Int32 × qa_T)
  | 0, _, _, _, _ => none
  | n + 1, x1, x2, x3, σ =>
    if x3 ≤ 0 then
      qa_fX1_lineUp_103 R k26 x1 x2 x3 σ
    else
      if (qa_fX9_at (R, 16) 16 x2 σ) ≤ (qa_fX9_at (R, 16) 16 (qa_fX9_at (R, 17) 16 (x3 - (Int32.ofInt 1)) σ) σ) then
        qa_fX1_lineUp_103 R k26 x1 x2 x3 σ
      else
        let σ11 := qa_fX9_set (R, 17) 16 x3 (qa_fX9_at (R, 17) 16 (x3 - (Int32.ofInt 1)) σ) σ
        let v12 : Int32 := x3 + Int32.ofInt (-1)
        qa_fX1_lineUp_47 R k26 n x1 x2 v12 σ11
noncomputable def qa_fX1_lineUp_26 (R : Nat) : Nat → Int32 → Int32 → qa_T → Option (Int32 × qa_T)
  | 0, _, _, _ => none
  | n + 1, x1, x2, σ =>
    if (σ.1 (R, 1) 0) ≤ x2 then
      some (x1, σ)
    else
      if (qa_bi (qa_fX1_mayBurn R x2 σ)) = 0 then
        qa_fX1_lineUp_115 R (qa_fX1_lineUp_26 R n) x1 x2 σ
      else
        qa_fX1_lineUp_47 R (qa_fX1_lineUp_26 R n) qa_fu x1 x2 x1 σ
noncomputable def qa_fX1_lineUp_22 (R : Nat) (σ : qa_T) : Option (Int32 × qa_T) :=
    qa_fX1_lineUp_26 R qa_fu (Int32.ofInt 0) (Int32.ofInt 0) σ
noncomputable def qa_fX1_lineUp (R : Nat) (σ : qa_T) : Option (Int32 × qa_T) :=
    if ¬ (σ.1 (R, 14) 2) = (Int32.ofInt 2) then
      (qa_fX1_weighByUseOrCost R σ).bind fun c2 =>
      qa_fX1_lineUp_22 R c2
    else
      (qa_fX1_weighByNextUse R σ).bind fun c13 =>
      qa_fX1_lineUp_22 R c13
noncomputable def qa_fX6_setReady_20 (R : Nat) (a1 : Int32) (a2 : Bool) (σ : qa_T) : qa_T :=
    σ
noncomputable def qa_fX6_setReady (R : Nat) (a1 : Int32) (a2 : Bool) (σ : qa_T) : qa_T :=
    if a1 < 0 then
      qa_fX6_setReady_20 R a1 a2 σ
    else
      if Int32.ofNat 16 ≤ a1 then
        qa_fX6_setReady_20 R a1 a2 σ
      else
        let σ3 := qa_wi σ (R, 5) (a1).toNatClampNeg (qa_bi a2)
        qa_fX6_setReady_20 R a1 a2 σ3
noncomputable def qa_fX1_putOnFire (R : Nat) (a1 : Int32) (σ : qa_T) : qa_T :=
    let σ1 := qa_fX6_setReady R a1 false σ
    let σ2 := qa_fX9_set (R, 6) 16 a1 (σ1.1 (R, 14) 3) σ1
    let σ3 := qa_fX9_set (R, 7) 16 a1 ((qa_fX9_at (R, 7) 16 a1 σ2) + (Int32.ofInt 1)) σ2
    let σ4 := qa_wi σ3 (R, 12) 4 ((σ3.1 (R, 12) 4) - (qa_fX9_at (R, 2) 16 a1 σ3))
    let σ5 := qa_wi σ4 (R, 15) 5 ((σ4.1 (R, 15) 5) + (Int32.ofInt 1))
    σ5
noncomputable def qa_fX1_burnDownTo_53 (R : Nat) (a1 : Int32) (σ : qa_T) : Option qa_T :=
    some σ
noncomputable def qa_fX1_burnDownTo_19 (R : Nat) (a1 : Int32) : Nat → Int32 → Int32 → qa_T → Option qa_T
  | 0, _, _, _ => none
  | n + 1, x2, x3, σ =>
    if x2 ≤ x3 then
      qa_fX1_burnDownTo_53 R a1 σ
    else
      if (σ.1 (R, 12) 4) ≤ a1 then
        qa_fX1_burnDownTo_53 R a1 σ
      else
        let σ6 := qa_fX1_putOnFire R (qa_fX9_at (R, 17) 16 x3 σ) σ
        let v7 : Int32 := x3 + Int32.ofInt 1
        qa_fX1_burnDownTo_19 R a1 n x2 v7 σ6
noncomputable def qa_fX1_burnDownTo (R : Nat) (a1 : Int32) (σ : qa_T) : Option qa_T :=
    if a1 < (σ.1 (R, 12) 4) then
      (qa_fX1_lineUp R σ).bind fun c2 =>
      qa_fX1_burnDownTo_19 R a1 qa_fu c2.1 (Int32.ofInt 0) c2.2
    else
      some σ
noncomputable def qa_fX6_ticksToLoad_30 (R : Nat) (a1 : Int32) (a2 : Int32) (y0 : Int32) (σ : qa_T) : Int32 :=
    y0
noncomputable def qa_fX6_ticksToLoad (R : Nat) (a1 : Int32) (a2 : Int32) (σ : qa_T) : Int32 :=
    let v1 : Int32 := (qa_fX9_at (R, 3) 16 a1 σ)
    if (qa_fX9_at (R, 6) 16 a1 σ) ≤ a2 then
      qa_fX6_ticksToLoad_30 R a1 a2 v1 σ
    else
      qa_fX6_ticksToLoad_30 R a1 a2 ((v1 + (Int32.ofInt 1)) / (Int32.ofInt 2)) σ
noncomputable def qa_fX1_beginLoading_75 (R : Nat) (x1 : Int32) (x2 : Int32) (σ : qa_T) : Option qa_T :=
    let σ9 := qa_wi σ (R, 15) 3 ((σ.1 (R, 15) 3) + (Int32.ofInt 1))
    let σ10 := qa_wi σ9 (R, 12) 0 x1
    let σ11 := qa_wi σ10 (R, 12) 1 (qa_fX6_ticksToLoad R x1 (Int32.ofInt 0) σ10)
    let σ12 := qa_wi σ11 (R, 12) 4 ((σ11.1 (R, 12) 4) + x2)
    let σ13 := qa_fX9_set (R, 6) 16 x1 (Int32.ofInt 0) σ12
    some σ13
noncomputable def qa_fX1_beginLoading (R : Nat) (σ : qa_T) : Option qa_T :=
    if (σ.1 (R, 12) 0) = (Int32.ofInt (-1)) then
      (qa_fX1_nextToLoad R σ).bind fun c2 =>
      if ¬ c2.1 = (Int32.ofInt (-1)) then
        let v5 : Int32 := (qa_fX9_at (R, 2) 16 c2.1 c2.2)
        (qa_fX1_burnDownTo R ((c2.2.1 (R, 14) 0) - v5) c2.2).bind fun c6 =>
        if (qa_fX9_at (R, 6) 16 c2.1 c6) ≤ 0 then
          qa_fX1_beginLoading_75 R c2.1 v5 c6
        else
          let σ14 := qa_wi c6 (R, 15) 4 ((c6.1 (R, 15) 4) + (Int32.ofInt 1))
          qa_fX1_beginLoading_75 R c2.1 v5 σ14
      else
        some c2.2
    else
      some σ
noncomputable def qa_fX1_obeyGoOn (R : Nat) (σ : qa_T) : Option (Bool × qa_T) :=
    if ¬ (qa_bi (qa_fX1_mayGoOn R σ)) = 0 then
      (qa_fX1_proceed R σ).bind fun c2 =>
      (qa_fX1_beginLoading R c2.2).bind fun c4 =>
      some (true, c4)
    else
      some (false, σ)
noncomputable def qa_fX6_has_16 (R : Nat) (a1 : Int32) (σ : qa_T) : Bool :=
    false
noncomputable def qa_fX6_has (R : Nat) (a1 : Int32) (σ : qa_T) : Bool :=
    if a1 < 0 then
      qa_fX6_has_16 R a1 σ
    else
      if (σ.1 (R, 1) 0) ≤ a1 then
        qa_fX6_has_16 R a1 σ
      else
        true
noncomputable def qa_fX2_queue (R : Nat) (a1 : Int32) (σ : qa_T) : qa_T :=
    let σ1 := qa_fX9_set (R, 13) 16 (σ.1 (R, 12) 2) a1 σ
    let σ2 := qa_wi σ1 (R, 12) 2 ((σ1.1 (R, 12) 2) + (Int32.ofInt 1))
    σ2
noncomputable def qa_fX1_obeyAsk_19 (R : Nat) (a1 : Int32) (σ : qa_T) : Option (Bool × qa_T) :=
    some (false, σ)
noncomputable def qa_fX1_obeyAsk (R : Nat) (a1 : Int32) (σ : qa_T) : Option (Bool × qa_T) :=
    if (qa_bi (qa_fX6_has R a1 σ)) = 0 then
      qa_fX1_obeyAsk_19 R a1 σ
    else
      (qa_fX1_mayAsk R a1 σ).bind fun c2 =>
      if ¬ (qa_bi c2) = 0 then
        let σ5 := qa_fX2_queue R a1 σ
        (qa_fX1_beginLoading R σ5).bind fun c6 =>
        some (true, c6)
      else
        qa_fX1_obeyAsk_19 R a1 σ
noncomputable def qa_fX1_obeyBurn_19 (R : Nat) (a1 : Int32) (σ : qa_T) : Option (Bool × qa_T) :=
    some (false, σ)
noncomputable def qa_fX1_obeyBurn (R : Nat) (a1 : Int32) (σ : qa_T) : Option (Bool × qa_T) :=
    if (qa_bi (qa_fX6_has R a1 σ)) = 0 then
      qa_fX1_obeyBurn_19 R a1 σ
    else
      if ¬ (qa_bi (qa_fX1_mayBurn R a1 σ)) = 0 then
        let σ3 := qa_fX1_putOnFire R a1 σ
        (qa_fX1_beginLoading R σ3).bind fun c4 =>
        some (true, c4)
      else
        qa_fX1_obeyBurn_19 R a1 σ
noncomputable def qa_fX3_put_71 (R : Nat) (a1 : Int32) (a2 : Int32) (σ : qa_T) : Option qa_T :=
    some σ
noncomputable def qa_fX3_put_5 (R : Nat) (a1 : Int32) (a2 : Int32) : Nat → Int32 → qa_T → Option qa_T
  | 0, _, _ => none
  | n + 1, x3, σ =>
    if x3 ≤ a1 then
      let σ3 := qa_fX9_set (R, 10) 24 a1 a2 σ
      let σ4 := qa_wi σ3 (R, 9) 0 ((σ3.1 (R, 9) 0) + (Int32.ofInt 1))
      if (σ4.1 (R, 9) 1) < a1 then
        qa_fX3_put_71 R a1 a2 σ4
      else
        let σ6 := qa_wi σ4 (R, 9) 1 ((σ4.1 (R, 9) 1) + (Int32.ofInt 1))
        qa_fX3_put_71 R a1 a2 σ6
    else
      let σ7 := qa_fX9_set (R, 10) 24 x3 (qa_fX9_at (R, 10) 24 (x3 - (Int32.ofInt 1)) σ) σ
      let v8 : Int32 := x3 + Int32.ofInt (-1)
      qa_fX3_put_5 R a1 a2 n v8 σ7
noncomputable def qa_fX3_put (R : Nat) (a1 : Int32) (a2 : Int32) (σ : qa_T) : Option qa_T :=
    let v1 : Int32 := (σ.1 (R, 9) 0)
    qa_fX3_put_5 R a1 a2 qa_fu v1 σ
noncomputable def qa_fX1_obeyInsert_23 (R : Nat) (a1 : Int32) (σ : qa_T) : Option (Bool × qa_T) :=
    some (false, σ)
noncomputable def qa_fX1_obeyInsert (R : Nat) (a1 : Int32) (σ : qa_T) : Option (Bool × qa_T) :=
    if (qa_bi (qa_fX6_has R a1 σ)) = 0 then
      qa_fX1_obeyInsert_23 R a1 σ
    else
      if (σ.1 (R, 9) 0) < ((Int8.ofInt 24).toInt32) then
        (qa_fX3_put R (σ.1 (R, 9) 0) a1 σ).bind fun c3 =>
        (qa_fX1_beginLoading R c3).bind fun c5 =>
        some (true, c5)
      else
        qa_fX1_obeyInsert_23 R a1 σ
noncomputable def qa_fX6_coolEmbers_44 (R : Nat) (σ : qa_T) : Option qa_T :=
    some σ
noncomputable def qa_fX6_coolEmbers_38 (R : Nat) (k2 : Int32 → qa_T → Option qa_T) (x1 : Int32) (σ : qa_T) : Option qa_T :=
    let v5 : Int32 := x1 + Int32.ofInt 1
    k2 v5 σ
noncomputable def qa_fX6_coolEmbers_2 (R : Nat) : Nat → Int32 → qa_T → Option qa_T
  | 0, _, _ => none
  | n + 1, x1, σ =>
    if (σ.1 (R, 1) 0) ≤ x1 then
      qa_fX6_coolEmbers_44 R σ
    else
      if Int32.ofNat 16 ≤ x1 then
        qa_fX6_coolEmbers_44 R σ
      else
        if ¬ qa_in x1 16 = true then none else
        if (σ.1 (R, 6) (x1).toNatClampNeg) ≤ 0 then
          qa_fX6_coolEmbers_38 R (qa_fX6_coolEmbers_2 R n) x1 σ
        else
          if ¬ qa_in x1 16 = true then none else
          if ¬ qa_in x1 16 = true then none else
          let σ8 := qa_wi σ (R, 6) (x1).toNatClampNeg ((σ.1 (R, 6) (x1).toNatClampNeg) - (Int32.ofInt 1))
          qa_fX6_coolEmbers_38 R (qa_fX6_coolEmbers_2 R n) x1 σ8
noncomputable def qa_fX6_coolEmbers (R : Nat) (σ : qa_T) : Option qa_T :=
    qa_fX6_coolEmbers_2 R qa_fu (Int32.ofInt 0) σ
noncomputable def qa_fX7_fadeOnce_29 (R : Nat) (σ : qa_T) : qa_T :=
    σ
noncomputable def qa_fX7_fadeOnce_17 (R : Nat) (σ : qa_T) : qa_T :=
    if ¬ (σ.1 (R, 11) 3) = 0 then
      qa_fX7_fadeOnce_29 R σ
    else
      let σ3 := qa_wi σ (R, 11) 2 (Int32.ofInt (-1))
      qa_fX7_fadeOnce_29 R σ3
noncomputable def qa_fX7_fadeOnce (R : Nat) (σ : qa_T) : qa_T :=
    if (σ.1 (R, 11) 3) ≤ 0 then
      qa_fX7_fadeOnce_17 R σ
    else
      let σ4 := qa_wi σ (R, 11) 3 ((σ.1 (R, 11) 3) - (Int32.ofInt 1))
      qa_fX7_fadeOnce_17 R σ4
noncomputable def qa_fX7_countShown_18 (R : Nat) (σ : qa_T) : qa_T :=
    σ
noncomputable def qa_fX7_countShown (R : Nat) (σ : qa_T) : qa_T :=
    if (σ.1 (R, 11) 0) = (Int32.ofInt (-1)) then
      qa_fX7_countShown_18 R σ
    else
      let σ2 := qa_wi σ (R, 11) 1 ((σ.1 (R, 11) 1) + (Int32.ofInt 1))
      qa_fX7_countShown_18 R σ2
noncomputable def qa_fX1_loadOnce (R : Nat) (σ : qa_T) : (Bool × qa_T) :=
    let v1 : Int32 := (σ.1 (R, 12) 0)
    if ¬ v1 = (Int32.ofInt (-1)) then
      let σ3 := qa_wi σ (R, 12) 1 ((σ.1 (R, 12) 1) - (Int32.ofInt 1))
      if (σ3.1 (R, 12) 1) ≤ 0 then
        let σ5 := qa_wi σ3 (R, 12) 0 (Int32.ofInt (-1))
        let σ6 := qa_fX6_setReady R v1 true σ5
        let σ7 := qa_fX6_use R v1 σ6
        if (σ7.1 (R, 11) 4) = v1 then
          let σ9 := qa_fX1_bringOn R v1 σ7
          (true, σ9)
        else
          (false, σ7)
      else
        (false, σ3)
    else
      (false, σ)
noncomputable def qa_fX1_paceIsReached_49 (R : Nat) (σ : qa_T) : Bool :=
    false
noncomputable def qa_fX1_paceIsReached (R : Nat) (σ : qa_T) : Bool :=
    if (σ.1 (R, 14) 4) ≤ 0 then
      qa_fX1_paceIsReached_49 R σ
    else
      if (qa_bi (qa_fX1_mayGoOn R σ)) = 0 then
        qa_fX1_paceIsReached_49 R σ
      else
        if (σ.1 (R, 11) 0) = (Int32.ofInt (-1)) then
          qa_fX1_paceIsReached_49 R σ
        else
          if (σ.1 (R, 11) 1) < (σ.1 (R, 14) 4) then
            qa_fX1_paceIsReached_49 R σ
          else
            true
noncomputable def qa_fX1_passTick_87 (R : Nat) (x1 : Int32) (σ : qa_T) : Option (Int32 × qa_T) :=
    (qa_fX1_beginLoading R σ).bind fun c10 =>
    some (x1, c10)
noncomputable def qa_fX1_passTick_70 (R : Nat) (x1 : Int32) (σ : qa_T) : Option (Int32 × qa_T) :=
    if (qa_bi (qa_fX1_paceIsReached R σ)) = 0 then
      qa_fX1_passTick_87 R x1 σ
    else
      (qa_fX1_proceed R σ).bind fun c12 =>
      if (qa_bi c12.1) = 0 then
        qa_fX1_passTick_87 R x1 c12.2
      else
        let v15 : Int32 := x1 + Int32.ofInt 1
        qa_fX1_passTick_87 R v15 c12.2
noncomputable def qa_fX1_passTick_39 (R : Nat) (x1 : Int32) (σ : qa_T) : Option (Int32 × qa_T) :=
    (qa_fX6_coolEmbers R σ).bind fun c3 =>
    let σ5 := qa_fX7_fadeOnce R c3
    let σ6 := qa_fX7_countShown R σ5
    let c7 := qa_fX1_loadOnce R σ6
    if (qa_bi c7.1) = 0 then
      qa_fX1_passTick_70 R x1 c7.2
    else
      let v16 : Int32 := x1 + Int32.ofInt 1
      qa_fX1_passTick_70 R v16 c7.2
noncomputable def qa_fX1_passTick (R : Nat) (σ : qa_T) : Option (Int32 × qa_T) :=
    let σ1 := qa_wi σ (R, 15) 0 ((σ.1 (R, 15) 0) + (Int32.ofInt 1))
    if (σ1.1 (R, 11) 4) = (Int32.ofInt (-1)) then
      qa_fX1_passTick_39 R (Int32.ofInt 0) σ1
    else
      let σ17 := qa_wi σ1 (R, 15) 6 ((σ1.1 (R, 15) 6) + (Int32.ofInt 1))
      qa_fX1_passTick_39 R (Int32.ofInt 0) σ17
noncomputable def qa_fX1_obey_77 (R : Nat) (a1 : Int32) (a2 : Int32) : Nat → Int32 → qa_T → Option (Bool × qa_T)
  | 0, _, _ => none
  | n + 1, x3, σ =>
    if a2 ≤ x3 then
      some (true, σ)
    else
      (qa_fX1_passTick R σ).bind fun c15 =>
      let v17 : Int32 := x3 + Int32.ofInt 1
      qa_fX1_obey_77 R a1 a2 n v17 c15.2
noncomputable def qa_fX1_obey (R : Nat) (a1 : Int32) (a2 : Int32) (σ : qa_T) : Option (Bool × qa_T) :=
    if a1 = 97 then
      (qa_fX1_obeyAsk R a2 σ).bind fun c2 =>
      some (c2.1, c2.2)
    else
    if a1 = 98 then
      (qa_fX1_obeyBurn R a2 σ).bind fun c5 =>
      some (c5.1, c5.2)
    else
    if a1 = 110 then
      (qa_fX1_obeyGoOn R σ).bind fun c8 =>
      some (c8.1, c8.2)
    else
    if a1 = 112 then
      (qa_fX1_obeyInsert R a2 σ).bind fun c11 =>
      some (c11.1, c11.2)
    else
    if a1 = 116 then
      qa_fX1_obey_77 R a1 a2 qa_fu (Int32.ofInt 0) σ
    else
      some (false, σ)
noncomputable def qa_fX1_passTicks_4 (R : Nat) (a1 : Int32) : Nat → Int32 → Int32 → qa_T → Option (Int32 × qa_T)
  | 0, _, _, _ => none
  | n + 1, x2, x3, σ =>
    if a1 ≤ x3 then
      some (x2, σ)
    else
      (qa_fX1_passTick R σ).bind fun c2 =>
      let v4 : Int32 := (x2 + c2.1)
      let v5 : Int32 := x3 + Int32.ofInt 1
      qa_fX1_passTicks_4 R a1 n v4 v5 c2.2
noncomputable def qa_fX1_passTicks (R : Nat) (a1 : Int32) (σ : qa_T) : Option (Int32 × qa_T) :=
    qa_fX1_passTicks_4 R a1 qa_fu (Int32.ofInt 0) (Int32.ofInt 0) σ
noncomputable def qa_fX1_placeInLine_7 (R : Nat) (a1 : Int32) : Nat → Int32 → Int32 → qa_T → Option (Int32 × qa_T)
  | 0, _, _, _ => none
  | n + 1, x2, x3, σ =>
    if x2 ≤ x3 then
      some ((Int32.ofInt (-1)), σ)
    else
      if ¬ (qa_fX9_at (R, 17) 16 x3 σ) = a1 then
        let v5 : Int32 := x3 + Int32.ofInt 1
        qa_fX1_placeInLine_7 R a1 n x2 v5 σ
      else
        some (x3, σ)
noncomputable def qa_fX1_placeInLine (R : Nat) (a1 : Int32) (σ : qa_T) : Option (Int32 × qa_T) :=
    (qa_fX1_lineUp R σ).bind fun c1 =>
    qa_fX1_placeInLine_7 R a1 qa_fu c1.1 (Int32.ofInt 0) c1.2
noncomputable def qa_fX1_burningsToLoad_22 (R : Nat) (a1 : Int32) (σ : qa_T) : Option (Int32 × qa_T) :=
    some ((Int32.ofInt 0), σ)
noncomputable def qa_fX1_burningsToLoad_98 (R : Nat) (a1 : Int32) (x4 : Int32) (σ : qa_T) : Option (Int32 × qa_T) :=
    some (x4, σ)
noncomputable def qa_fX1_burningsToLoad_60 (R : Nat) (a1 : Int32) : Nat → Int32 → Int32 → Int32 → qa_T → Option (Int32 × qa_T)
  | 0, _, _, _, _ => none
  | n + 1, x2, x3, x4, σ =>
    if x3 ≤ x4 then
      qa_fX1_burningsToLoad_98 R a1 x4 σ
    else
      if x2 ≤ 0 then
        qa_fX1_burningsToLoad_98 R a1 x4 σ
      else
        let v8 : Int32 := (x2 - (qa_fX9_at (R, 2) 16 (qa_fX9_at (R, 17) 16 x4 σ) σ))
        let v9 : Int32 := x4 + Int32.ofInt 1
        qa_fX1_burningsToLoad_60 R a1 n v8 x3 v9 σ
noncomputable def qa_fX1_burningsToLoad (R : Nat) (a1 : Int32) (σ : qa_T) : Option (Int32 × qa_T) :=
    if ¬ (qa_bi (qa_fX6_isReady R a1 σ)) = 0 then
      qa_fX1_burningsToLoad_22 R a1 σ
    else
      if ¬ a1 = (σ.1 (R, 12) 0) then
        let v3 : Int32 := (((σ.1 (R, 12) 4) + (qa_fX9_at (R, 2) 16 a1 σ)) - (σ.1 (R, 14) 0))
        (qa_fX1_lineUp R σ).bind fun c4 =>
        qa_fX1_burningsToLoad_60 R a1 qa_fu v3 c4.1 (Int32.ofInt 0) c4.2
      else
        qa_fX1_burningsToLoad_22 R a1 σ
noncomputable def qa_fX1_sumOfCosts_51 (R : Nat) (k4 : Int32 → Int32 → qa_T → Option Int32) (x1 : Int32) (x2 : Int32) (σ : qa_T) : Option Int32 :=
    let v4 : Int32 := x2 + Int32.ofInt 1
    k4 x1 v4 σ
noncomputable def qa_fX1_sumOfCosts_37 (R : Nat) (k4 : Int32 → Int32 → qa_T → Option Int32) (x1 : Int32) (x2 : Int32) (σ : qa_T) : Option Int32 :=
    let v3 : Int32 := (x1 + (qa_fX9_at (R, 2) 16 x2 σ))
    qa_fX1_sumOfCosts_51 R k4 v3 x2 σ
noncomputable def qa_fX1_sumOfCosts_4 (R : Nat) : Nat → Int32 → Int32 → qa_T → Option Int32
  | 0, _, _, _ => none
  | n + 1, x1, x2, σ =>
    if (σ.1 (R, 1) 0) ≤ x2 then
      some x1
    else
      if ¬ (qa_bi (qa_fX6_isReady R x2 σ)) = 0 then
        qa_fX1_sumOfCosts_37 R (qa_fX1_sumOfCosts_4 R n) x1 x2 σ
      else
        if ¬ x2 = (σ.1 (R, 12) 0) then
          qa_fX1_sumOfCosts_51 R (qa_fX1_sumOfCosts_4 R n) x1 x2 σ
        else
          qa_fX1_sumOfCosts_37 R (qa_fX1_sumOfCosts_4 R n) x1 x2 σ
noncomputable def qa_fX1_sumOfCosts (R : Nat) (σ : qa_T) : Option Int32 :=
    qa_fX1_sumOfCosts_4 R qa_fu (Int32.ofInt 0) (Int32.ofInt 0) σ
noncomputable def qa_fX1_sumOfWait (R : Nat) (σ : qa_T) : Int32 :=
    if ¬ (σ.1 (R, 12) 0) = (σ.1 (R, 11) 4) then
      ((σ.1 (R, 12) 1) + (qa_fX6_ticksToLoad R (σ.1 (R, 11) 4) (σ.1 (R, 12) 1) σ))
    else
      (σ.1 (R, 12) 1)
noncomputable def qa_fX3_has_16 (R : Nat) (a1 : Int32) (σ : qa_T) : Bool :=
    false
noncomputable def qa_fX3_has (R : Nat) (a1 : Int32) (σ : qa_T) : Bool :=
    if a1 < 0 then
      qa_fX3_has_16 R a1 σ
    else
      if (σ.1 (R, 9) 0) ≤ a1 then
        qa_fX3_has_16 R a1 σ
      else
        true
noncomputable def qa_fX3_remove_73 (R : Nat) (a1 : Int32) (x2 : Int32) (σ : qa_T) : Option (Int32 × qa_T) :=
    some (x2, σ)
noncomputable def qa_fX3_remove_11 (R : Nat) (a1 : Int32) : Nat → Int32 → Int32 → qa_T → Option (Int32 × qa_T)
  | 0, _, _, _ => none
  | n + 1, x2, x3, σ =>
    if (σ.1 (R, 9) 0) ≤ (x3 + (Int32.ofInt 1)) then
      let σ3 := qa_wi σ (R, 9) 0 ((σ.1 (R, 9) 0) - (Int32.ofInt 1))
      if (σ3.1 (R, 9) 1) < a1 then
        qa_fX3_remove_73 R a1 x2 σ3
      else
        let σ5 := qa_wi σ3 (R, 9) 1 ((σ3.1 (R, 9) 1) - (Int32.ofInt 1))
        qa_fX3_remove_73 R a1 x2 σ5
    else
      let σ6 := qa_fX9_set (R, 10) 24 x3 (qa_fX9_at (R, 10) 24 (x3 + (Int32.ofInt 1)) σ) σ
      let v7 : Int32 := x3 + Int32.ofInt 1
      qa_fX3_remove_11 R a1 n x2 v7 σ6
noncomputable def qa_fX3_remove (R : Nat) (a1 : Int32) (σ : qa_T) : Option (Int32 × qa_T) :=
    let v1 : Int32 := (qa_fX9_at (R, 10) 24 a1 σ)
    qa_fX3_remove_11 R a1 qa_fu v1 a1 σ
noncomputable def qa_fX3_placesUntil_2 (R : Nat) (a1 : Int32) : Nat → Int32 → qa_T → Option Int32
  | 0, _, _ => none
  | n + 1, x2, σ =>
    if (σ.1 (R, 9) 0) < x2 then
      some (Int32.ofInt 0)
    else
      (qa_fX3_slideAhead R x2 σ).bind fun c2 =>
      if ¬ c2 = a1 then
        let v5 : Int32 := x2 + Int32.ofInt 1
        qa_fX3_placesUntil_2 R a1 n v5 σ
      else
        some x2
noncomputable def qa_fX3_placesUntil (R : Nat) (a1 : Int32) (σ : qa_T) : Option Int32 :=
    qa_fX3_placesUntil_2 R a1 qa_fu (Int32.ofInt 1) σ
noncomputable def qa_fX5_push_80 (S : Nat) (σ : qa_T) : Option qa_T :=
    some σ
noncomputable def qa_fX5_push_45 (S : Nat) (σ : qa_T) : Option qa_T :=
    if ((Int8.ofInt 6).toInt32) ≤ (σ.1 (2, 18) 1) then
      let σ4 := qa_wi σ (2, 18) 0 (((σ.1 (2, 18) 0) + (Int32.ofInt 1)) - ((σ.1 (2, 18) 0) + (Int32.ofInt 1)) / ((Int8.ofInt 6).toInt32) * ((Int8.ofInt 6).toInt32))
      qa_fX5_push_80 S σ4
    else
      let σ5 := qa_wi σ (2, 18) 1 ((σ.1 (2, 18) 1) + (Int32.ofInt 1))
      qa_fX5_push_80 S σ5
noncomputable def qa_fX5_push (S : Nat) (σ : qa_T) : Option qa_T :=
    let v1 : Int32 := (((σ.1 (2, 18) 0) + (σ.1 (2, 18) 1)) - ((σ.1 (2, 18) 0) + (σ.1 (2, 18) 1)) / ((Int8.ofInt 6).toInt32) * ((Int8.ofInt 6).toInt32))
    if v1 < 0 then
      qa_fX5_push_45 S σ
    else
      if Int32.ofNat 6 ≤ v1 then
        qa_fX5_push_45 S σ
      else
        (qa_fX1_copyFrom (3 + (v1).toNatClampNeg) S σ).bind fun c9 =>
        qa_fX5_push_45 S c9
noncomputable def qa_fX5_popInto_55 (S : Nat) (σ : qa_T) : Option qa_T :=
    some σ
noncomputable def qa_fX5_popInto (S : Nat) (σ : qa_T) : Option qa_T :=
    let σ1 := qa_wi σ (2, 18) 1 ((σ.1 (2, 18) 1) - (Int32.ofInt 1))
    let v2 : Int32 := (((σ1.1 (2, 18) 0) + (σ1.1 (2, 18) 1)) - ((σ1.1 (2, 18) 0) + (σ1.1 (2, 18) 1)) / ((Int8.ofInt 6).toInt32) * ((Int8.ofInt 6).toInt32))
    if v2 < 0 then
      qa_fX5_popInto_55 S σ1
    else
      if Int32.ofNat 6 ≤ v2 then
        qa_fX5_popInto_55 S σ1
      else
        (qa_fX1_copyFrom S (3 + (v2).toNatClampNeg) σ1).bind fun c7 =>
        qa_fX5_popInto_55 S c7
noncomputable def qa_fX6_add (R : Nat) (a1 : Int32) (a2 : Int32) (a3 : Int32) (σ : qa_T) : (Int32 × qa_T) :=
    let v1 : Int32 := (σ.1 (R, 1) 0)
    let σ2 := qa_fX9_set (R, 2) 16 v1 a1 σ
    let σ3 := qa_fX9_set (R, 3) 16 v1 a2 σ2
    let σ4 := qa_fX9_set (R, 4) 16 v1 a3 σ3
    let σ5 := qa_wi σ4 (R, 1) 0 ((σ4.1 (R, 1) 0) + (Int32.ofInt 1))
    (v1, σ5)
noncomputable def qa_fX8_add (a1 : Int32) (σ : qa_T) : qa_T :=
    let σ1 := qa_fX9_set (10, 20) 60 (σ.1 (10, 19) 0) a1 σ
    let σ2 := qa_wi σ1 (10, 19) 0 ((σ1.1 (10, 19) 0) + (Int32.ofInt 1))
    σ2
noncomputable def qa_fX8_startPart  (σ : qa_T) : qa_T :=
    let σ1 := qa_wi σ (10, 19) 2 (Int32.ofInt 0)
    let σ2 := qa_wi σ1 (10, 19) 3 (Int32.ofInt (-1))
    σ2
noncomputable def qa_fX8_startReading  (σ : qa_T) : qa_T :=
    let σ1 := qa_fX8_startPart σ
    let σ2 := qa_wi σ1 (10, 19) 4 (Int32.ofInt 0)
    σ2
noncomputable def qa_fX8_partMayEnd_17  (σ : qa_T) : Bool :=
    true
noncomputable def qa_fX8_partMayEnd  (σ : qa_T) : Bool :=
    if (σ.1 (10, 19) 2) = ((Int8.ofInt 110).toInt32) then
      qa_fX8_partMayEnd_17  σ
    else
      if (σ.1 (10, 19) 3) = (Int32.ofInt (-1)) then
        false
      else
        qa_fX8_partMayEnd_17  σ
noncomputable def qa_fX8_acceptDigit_28 (a1 : Int32) (σ : qa_T) : (Bool × qa_T) :=
    (false, σ)
noncomputable def qa_fX8_acceptDigit_100 (a1 : Int32) (y0 : Int32) (y1 : Int32) (σ : qa_T) : (Bool × qa_T) :=
    if y0 < y1 then
      (false, σ)
    else
      (true, σ)
noncomputable def qa_fX8_acceptDigit_61 (a1 : Int32) (σ : qa_T) : (Bool × qa_T) :=
    (true, σ)
noncomputable def qa_fX8_acceptDigit (a1 : Int32) (σ : qa_T) : (Bool × qa_T) :=
    if (σ.1 (10, 19) 2) = ((Int8.ofInt 110).toInt32) then
      qa_fX8_acceptDigit_28 a1 σ
    else
      if a1 < ((Int8.ofInt 48).toInt32) then
        qa_fX8_acceptDigit_28 a1 σ
      else
        if ((Int8.ofInt 57).toInt32) < a1 then
          qa_fX8_acceptDigit_28 a1 σ
        else
          if ¬ (σ.1 (10, 19) 3) = 0 then
            let v5 : Int32 := (a1 - ((Int8.ofInt 48).toInt32))
            if ¬ (σ.1 (10, 19) 3) = (Int32.ofInt (-1)) then
              let σ7 := qa_wi σ (10, 19) 3 ((((Int8.ofInt 10).toInt32) * (σ.1 (10, 19) 3)) + v5)
              if ¬ (σ7.1 (10, 19) 2) = ((Int8.ofInt 116).toInt32) then
                qa_fX8_acceptDigit_100 a1 ((Int8.ofInt 15).toInt32) (σ7.1 (10, 19) 3) σ7
              else
                qa_fX8_acceptDigit_100 a1 ((Int8.ofInt 100).toInt32) (σ7.1 (10, 19) 3) σ7
            else
              let σ10 := qa_wi σ (10, 19) 3 v5
              if 0 < v5 then
                qa_fX8_acceptDigit_61 a1 σ10
              else
                if (σ10.1 (10, 19) 2) = ((Int8.ofInt 116).toInt32) then
                  (false, σ10)
                else
                  qa_fX8_acceptDigit_61 a1 σ10
          else
            qa_fX8_acceptDigit_28 a1 σ
noncomputable def qa_fX8_accept_42 (a1 : Int32) (σ : qa_T) : (Bool × qa_T) :=
    (true, σ)
noncomputable def qa_fX8_accept (a1 : Int32) (σ : qa_T) : (Bool × qa_T) :=
    if ¬ (σ.1 (10, 19) 2) = 0 then
      if ¬ a1 = ((Int8.ofInt 59).toInt32) then
        let c3 := qa_fX8_acceptDigit a1 σ
        (c3.1, c3.2)
      else
        let v4 : Int32 := (qa_bi (qa_fX8_partMayEnd σ))
        let σ5 := qa_fX8_startPart σ
        ((qa_fX8_partMayEnd σ), σ5)
    else
      let σ6 := qa_wi σ (10, 19) 2 a1
      if a1 = ((Int8.ofInt 110).toInt32) then
        qa_fX8_accept_42 a1 σ6
      else
        if a1 = ((Int8.ofInt 97).toInt32) then
          qa_fX8_accept_42 a1 σ6
        else
          if a1 = ((Int8.ofInt 98).toInt32) then
            qa_fX8_accept_42 a1 σ6
          else
            if a1 = ((Int8.ofInt 112).toInt32) then
              qa_fX8_accept_42 a1 σ6
            else
              if ¬ a1 = ((Int8.ofInt 116).toInt32) then
                (false, σ6)
              else
                qa_fX8_accept_42 a1 σ6
noncomputable def qa_fX8_readPart_49  (x1 : Int32) (σ : qa_T) : Option (Bool × qa_T) :=
    let σ4 := qa_wi σ (10, 19) 4 (x1 + (Int32.ofInt 1))
    if (σ4.1 (10, 19) 2) = 0 then
      some (false, σ4)
    else
      some (true, σ4)
noncomputable def qa_fX8_readPart_9  : Nat → Int32 → qa_T → Option (Bool × qa_T)
  | 0, _, _ => none
  | n + 1, x1, σ =>
    if (σ.1 (10, 19) 0) ≤ x1 then
      qa_fX8_readPart_49  x1 σ
    else
      if (qa_fX9_at (10, 20) 60 x1 σ) = ((Int8.ofInt 59).toInt32) then
        qa_fX8_readPart_49  x1 σ
      else
        let c7 := qa_fX8_accept (qa_fX9_at (10, 20) 60 x1 σ) σ
        let v8 : Int32 := x1 + Int32.ofInt 1
        qa_fX8_readPart_9  n v8 c7.2
noncomputable def qa_fX8_readPart  (σ : qa_T) : Option (Bool × qa_T) :=
    let σ1 := qa_fX8_startPart σ
    let v2 : Int32 := (σ1.1 (10, 19) 4)
    qa_fX8_readPart_9  qa_fu v2 σ1
noncomputable def qa_fX8_readToError_6  : Nat → Int32 → qa_T → Option (Int32 × qa_T)
  | 0, _, _ => none
  | n + 1, x1, σ =>
    if (σ.1 (10, 19) 0) ≤ x1 then
      some ((σ.1 (10, 19) 0), σ)
    else
      let c3 := qa_fX8_accept (qa_fX9_at (10, 20) 60 x1 σ) σ
      if ¬ (qa_bi c3.1) = 0 then
        let v5 : Int32 := x1 + Int32.ofInt 1
        qa_fX8_readToError_6  n v5 c3.2
      else
        some (x1, c3.2)
noncomputable def qa_fX8_readToError  (σ : qa_T) : Option (Int32 × qa_T) :=
    let σ1 := qa_fX8_startPart σ
    qa_fX8_readToError_6  qa_fu (Int32.ofInt 0) σ1
noncomputable def qa_fX8_tellsOrders_22  (σ : qa_T) : Option (Bool × qa_T) :=
    some (false, σ)
noncomputable def qa_fX8_tellsOrders  (σ : qa_T) : Option (Bool × qa_T) :=
    (qa_fX8_readToError σ).bind fun c1 =>
    if ¬ c1.1 = (c1.2.1 (10, 19) 0) then
      qa_fX8_tellsOrders_22  c1.2
    else
      if (qa_bi (qa_fX8_partMayEnd c1.2)) = 0 then
        qa_fX8_tellsOrders_22  c1.2
      else
        some (true, c1.2)
noncomputable def qa_fX9_isWithin_14 (a1 : Int32) (a2 : Int32) (a3 : Int32) (σ : qa_T) : Bool :=
    false
noncomputable def qa_fX9_isWithin (a1 : Int32) (a2 : Int32) (a3 : Int32) (σ : qa_T) : Bool :=
    if a1 < a2 then
      qa_fX9_isWithin_14 a1 a2 a3 σ
    else
      if a3 < a1 then
        qa_fX9_isWithin_14 a1 a2 a3 σ
      else
        true
noncomputable def qa_fX9_addSlide_58 (a1 : Int32) (a2 : Int32) (a3 : Int32) (y0 : Int32) (σ : qa_T) : Option ((Int32 ⊕ Nat) × qa_T) :=
    if y0 = 0 then
      some (.inr 348, σ)
    else
    (qa_fX5_push 1 σ).bind fun c5 =>
    let c7 := qa_fX6_add 1 a1 a2 a3 c5
    (qa_fX1_beginLoading 1 c7.2).bind fun c8 =>
    some (.inl c7.1, c8)
noncomputable def qa_fX9_addSlide_35 (a1 : Int32) (a2 : Int32) (a3 : Int32) (y0 : Int32) (σ : qa_T) : Option ((Int32 ⊕ Nat) × qa_T) :=
    if y0 = 0 then
      some (.inr 342, σ)
    else
    if ((Int8.ofInt 16).toInt32) ≤ (σ.1 (1, 1) 0) then
      qa_fX9_addSlide_58 a1 a2 a3 (Int32.ofInt 0) σ
    else
      qa_fX9_addSlide_58 a1 a2 a3 (Int32.ofInt 1) σ
noncomputable def qa_fX9_addSlide_34 (a1 : Int32) (a2 : Int32) (a3 : Int32) (σ : qa_T) : Option ((Int32 ⊕ Nat) × qa_T) :=
    qa_fX9_addSlide_35 a1 a2 a3 (Int32.ofInt 0) σ
noncomputable def qa_fX9_addSlide (a1 : Int32) (a2 : Int32) (a3 : Int32) (σ : qa_T) : Option ((Int32 ⊕ Nat) × qa_T) :=
    if (qa_bi (qa_fX9_isWithin a1 (Int32.ofInt 1) ((Int8.ofInt 50).toInt32) σ)) = 0 then
      qa_fX9_addSlide_34 a1 a2 a3 σ
    else
      if (qa_bi (qa_fX9_isWithin a2 (Int32.ofInt 1) ((Int8.ofInt 20).toInt32) σ)) = 0 then
        qa_fX9_addSlide_34 a1 a2 a3 σ
      else
        if (qa_bi (qa_fX9_isWithin a3 (Int32.ofInt 0) ((Int8.ofInt 10).toInt32) σ)) = 0 then
          qa_fX9_addSlide_34 a1 a2 a3 σ
        else
          qa_fX9_addSlide_35 a1 a2 a3 (Int32.ofInt 1) σ
noncomputable def qa_fX9_insert_60 (a1 : Int32) (a2 : Int32) (y0 : Int32) (σ : qa_T) : Option ((Int32 ⊕ Nat) × qa_T) :=
    if y0 = 0 then
      some (.inr 348, σ)
    else
    (qa_fX5_push 1 σ).bind fun c5 =>
    (qa_fX3_put 1 a1 a2 c5).bind fun c7 =>
    (qa_fX1_beginLoading 1 c7).bind fun c9 =>
    some (.inl (c9.1 (1, 9) 0), c9)
noncomputable def qa_fX9_insert_37 (a1 : Int32) (a2 : Int32) (y0 : Int32) (σ : qa_T) : Option ((Int32 ⊕ Nat) × qa_T) :=
    if y0 = 0 then
      some (.inr 345, σ)
    else
    if ((Int8.ofInt 24).toInt32) ≤ (σ.1 (1, 9) 0) then
      qa_fX9_insert_60 a1 a2 (Int32.ofInt 0) σ
    else
      qa_fX9_insert_60 a1 a2 (Int32.ofInt 1) σ
noncomputable def qa_fX9_insert_36 (a1 : Int32) (a2 : Int32) (σ : qa_T) : Option ((Int32 ⊕ Nat) × qa_T) :=
    qa_fX9_insert_37 a1 a2 (Int32.ofInt 0) σ
noncomputable def qa_fX9_insert (a1 : Int32) (a2 : Int32) (σ : qa_T) : Option ((Int32 ⊕ Nat) × qa_T) :=
    if (qa_bi (qa_fX9_isWithin a1 (Int32.ofInt 0) (σ.1 (1, 9) 0) σ)) = 0 then
      qa_fX9_insert_36 a1 a2 σ
    else
      if (qa_bi (qa_fX6_has 1 a2 σ)) = 0 then
        qa_fX9_insert_36 a1 a2 σ
      else
        qa_fX9_insert_37 a1 a2 (Int32.ofInt 1) σ
noncomputable def qa_fX9_takeOut (a1 : Int32) (σ : qa_T) : Option ((Int32 ⊕ Nat) × qa_T) :=
    if (qa_bi (qa_fX3_has 1 a1 σ)) = 0 then
      some (.inr 345, σ)
    else
    (qa_fX5_push 1 σ).bind fun c2 =>
    (qa_fX3_remove 1 a1 c2).bind fun c4 =>
    (qa_fX1_beginLoading 1 c4.2).bind fun c6 =>
    some (.inl c4.1, c6)
noncomputable def qa_fX9_goOn  (σ : qa_T) : Option ((Bool ⊕ Nat) × qa_T) :=
    if (qa_bi (qa_fX1_mayGoOn 1 σ)) = 0 then
      some (.inr 348, σ)
    else
    (qa_fX5_push 1 σ).bind fun c2 =>
    (qa_fX1_proceed 1 c2).bind fun c4 =>
    let v6 : Int32 := (qa_bi c4.1)
    (qa_fX1_beginLoading 1 c4.2).bind fun c7 =>
    some (.inl c4.1, c7)
noncomputable def qa_fX9_ask (a1 : Int32) (σ : qa_T) : Option ((Int32 ⊕ Nat) × qa_T) :=
    if (qa_bi (qa_fX6_has 1 a1 σ)) = 0 then
      some (.inr 345, σ)
    else
    (qa_fX1_mayAsk 1 a1 σ).bind fun c2 =>
    if (qa_bi c2) = 0 then
      some (.inr 348, σ)
    else
    (qa_fX5_push 1 σ).bind fun c5 =>
    let σ7 := qa_fX2_queue 1 a1 c5
    (qa_fX1_beginLoading 1 σ7).bind fun c8 =>
    some (.inl (c8.1 (1, 12) 2), c8)
noncomputable def qa_fX9_burn (a1 : Int32) (σ : qa_T) : Option ((Int32 ⊕ Nat) × qa_T) :=
    if (qa_bi (qa_fX6_has 1 a1 σ)) = 0 then
      some (.inr 345, σ)
    else
    if (qa_bi (qa_fX1_mayBurn 1 a1 σ)) = 0 then
      some (.inr 348, σ)
    else
    (qa_fX5_push 1 σ).bind fun c3 =>
    let σ5 := qa_fX1_putOnFire 1 a1 c3
    (qa_fX1_beginLoading 1 σ5).bind fun c6 =>
    some (.inl (qa_fX9_at (1, 2) 16 a1 c6), c6)
noncomputable def qa_fX9_tick (a1 : Int32) (σ : qa_T) : Option ((Int32 ⊕ Nat) × qa_T) :=
    if (qa_bi (qa_fX9_isWithin a1 (Int32.ofInt 1) ((Int8.ofInt 100).toInt32) σ)) = 0 then
      some (.inr 342, σ)
    else
    (qa_fX5_push 1 σ).bind fun c2 =>
    (qa_fX1_passTicks 1 a1 c2).bind fun c4 =>
    some (.inl c4.1, c4.2)
noncomputable def qa_fX9_changeMemory (a1 : Int32) (σ : qa_T) : Option ((Int32 ⊕ Nat) × qa_T) :=
    if (qa_bi (qa_fX9_isWithin a1 ((Int16.ofInt 150).toInt32) ((Int16.ofInt 400).toInt32) σ)) = 0 then
      some (.inr 342, σ)
    else
    (qa_fX5_push 1 σ).bind fun c2 =>
    let v4 : Int32 := (c2.1 (1, 14) 0)
    let σ5 := qa_wi c2 (1, 14) 0 a1
    (qa_fX1_burnDownTo 1 a1 σ5).bind fun c6 =>
    (qa_fX1_beginLoading 1 c6).bind fun c8 =>
    some (.inl v4, c8)
noncomputable def qa_fX9_changeAhead (a1 : Int32) (σ : qa_T) : Option ((Int32 ⊕ Nat) × qa_T) :=
    if (qa_bi (qa_fX9_isWithin a1 (Int32.ofInt 0) (Int32.ofInt 4) σ)) = 0 then
      some (.inr 342, σ)
    else
    (qa_fX5_push 1 σ).bind fun c2 =>
    let v4 : Int32 := (c2.1 (1, 14) 1)
    let σ5 := qa_wi c2 (1, 14) 1 a1
    (qa_fX1_beginLoading 1 σ5).bind fun c6 =>
    some (.inl v4, c6)
noncomputable def qa_fX9_changeOrder (a1 : Int32) (σ : qa_T) : Option ((Int32 ⊕ Nat) × qa_T) :=
    if (qa_bi (qa_fX9_isWithin a1 (Int32.ofInt 0) (Int32.ofInt 2) σ)) = 0 then
      some (.inr 342, σ)
    else
    (qa_fX5_push 1 σ).bind fun c2 =>
    let v4 : Int32 := (c2.1 (1, 14) 2)
    let σ5 := qa_wi c2 (1, 14) 2 a1
    (qa_fX1_beginLoading 1 σ5).bind fun c6 =>
    some (.inl v4, c6)
noncomputable def qa_fX9_changeGlow (a1 : Int32) (σ : qa_T) : Option ((Int32 ⊕ Nat) × qa_T) :=
    if (qa_bi (qa_fX9_isWithin a1 (Int32.ofInt 0) ((Int8.ofInt 20).toInt32) σ)) = 0 then
      some (.inr 342, σ)
    else
    (qa_fX5_push 1 σ).bind fun c2 =>
    let v4 : Int32 := (c2.1 (1, 14) 3)
    let σ5 := qa_wi c2 (1, 14) 3 a1
    (qa_fX1_beginLoading 1 σ5).bind fun c6 =>
    some (.inl v4, c6)
noncomputable def qa_fX9_changePace (a1 : Int32) (σ : qa_T) : Option ((Int32 ⊕ Nat) × qa_T) :=
    if (qa_bi (qa_fX9_isWithin a1 (Int32.ofInt 0) ((Int8.ofInt 50).toInt32) σ)) = 0 then
      some (.inr 342, σ)
    else
    (qa_fX5_push 1 σ).bind fun c2 =>
    let v4 : Int32 := (c2.1 (1, 14) 4)
    let σ5 := qa_wi c2 (1, 14) 4 a1
    (qa_fX1_beginLoading 1 σ5).bind fun c6 =>
    some (.inl v4, c6)
noncomputable def qa_fX9_append_28 (a1 : Int32) (y0 : Int32) (σ : qa_T) : ((Int32 ⊕ Nat) × qa_T) :=
    if y0 = 0 then
      (.inr 348, σ)
    else
    let σ4 := qa_fX8_add a1 σ
    (.inl (σ4.1 (10, 19) 0), σ4)
noncomputable def qa_fX9_append (a1 : Int32) (σ : qa_T) : ((Int32 ⊕ Nat) × qa_T) :=
    if (qa_bi (qa_fX9_isWithin a1 ((Int8.ofInt 33).toInt32) ((Int8.ofInt 126).toInt32) σ)) = 0 then
      (.inr 342, σ)
    else
    if ((Int8.ofInt 60).toInt32) ≤ (σ.1 (10, 19) 0) then
      qa_fX9_append_28 a1 (Int32.ofInt 0) σ
    else
      qa_fX9_append_28 a1 (Int32.ofInt 1) σ
noncomputable def qa_fX9_clearBuffer  (σ : qa_T) : (Int32 × qa_T) :=
    let v1 : Int32 := (σ.1 (10, 19) 0)
    let σ2 := qa_wi σ (10, 19) 0 (Int32.ofInt 0)
    (v1, σ2)
noncomputable def qa_fX9_firstError  (σ : qa_T) : Option (Int32 × qa_T) :=
    (qa_fX8_readToError σ).bind fun c1 =>
    some (c1.1, c1.2)
noncomputable def qa_fX9_follow_76  (x1 : Int32) (σ : qa_T) : Option ((Int32 ⊕ Nat) × qa_T) :=
    (qa_fX5_push 1 σ).bind fun c8 =>
    (qa_fX1_copyFrom 1 2 c8).bind fun c10 =>
    let σ12 := qa_wi c10 (10, 19) 0 (Int32.ofInt 0)
    some (.inl x1, σ12)
noncomputable def qa_fX9_follow_30  : Nat → Int32 → qa_T → Option ((Int32 ⊕ Nat) × qa_T)
  | 0, _, _ => none
  | n + 1, x1, σ =>
    if ((Int8.ofInt 60).toInt32) ≤ x1 then
      qa_fX9_follow_76  x1 σ
    else
      (qa_fX8_readPart σ).bind fun c13 =>
      if (qa_bi c13.1) = 0 then
        qa_fX9_follow_76  x1 c13.2
      else
        (qa_fX1_obey 2 (c13.2.1 (10, 19) 2) (c13.2.1 (10, 19) 3) c13.2).bind fun c16 =>
        if (qa_bi c16.1) = 0 then
          some (.inr 348, c16.2)
        else
        let v19 : Int32 := x1 + Int32.ofInt 1
        qa_fX9_follow_30  n v19 c16.2
noncomputable def qa_fX9_follow  (σ : qa_T) : Option ((Int32 ⊕ Nat) × qa_T) :=
    (qa_fX8_tellsOrders σ).bind fun c1 =>
    if (qa_bi c1.1) = 0 then
      some (.inr 342, c1.2)
    else
    (qa_fX1_copyFrom 2 1 c1.2).bind fun c4 =>
    let σ6 := qa_fX8_startReading c4
    qa_fX9_follow_30  qa_fu (Int32.ofInt 0) σ6
noncomputable def qa_fX9_keep_60 (a1 : Int32) (σ : qa_T) : Option ((Unit ⊕ Nat) × qa_T) :=
    some (.inl (), σ)
noncomputable def qa_fX9_keep (a1 : Int32) (σ : qa_T) : Option ((Unit ⊕ Nat) × qa_T) :=
    if (qa_bi (qa_fX9_isWithin a1 (Int32.ofInt 0) (Int32.ofInt 1) σ)) = 0 then
      some (.inr 342, σ)
    else
    if a1 < 0 then
      qa_fX9_keep_60 a1 σ
    else
      if Int32.ofNat 2 ≤ a1 then
        qa_fX9_keep_60 a1 σ
      else
        if Int32.ofNat 2 ≤ a1 then
          qa_fX9_keep_60 a1 σ
        else
          (qa_fX1_copyFrom (9 + (a1).toNatClampNeg) 1 σ).bind fun c7 =>
          let σ9 := qa_wi c7 (10, 18) (a1).toNatClampNeg (qa_bi true)
          qa_fX9_keep_60 a1 σ9
noncomputable def qa_fX9_hasSnapshot_26 (a1 : Int32) (σ : qa_T) : Bool :=
    false
noncomputable def qa_fX9_hasSnapshot (a1 : Int32) (σ : qa_T) : Bool :=
    if a1 < 0 then
      qa_fX9_hasSnapshot_26 a1 σ
    else
      if Int32.ofNat 2 ≤ a1 then
        qa_fX9_hasSnapshot_26 a1 σ
      else
        if (σ.1 (10, 18) (a1).toNatClampNeg) = 0 then
          qa_fX9_hasSnapshot_26 a1 σ
        else
          true
noncomputable def qa_fX9_goBack_63 (a1 : Int32) (σ : qa_T) : Option ((Unit ⊕ Nat) × qa_T) :=
    some (.inl (), σ)
noncomputable def qa_fX9_goBack (a1 : Int32) (σ : qa_T) : Option ((Unit ⊕ Nat) × qa_T) :=
    if (qa_bi (qa_fX9_isWithin a1 (Int32.ofInt 0) (Int32.ofInt 1) σ)) = 0 then
      some (.inr 342, σ)
    else
    if (qa_bi (qa_fX9_hasSnapshot a1 σ)) = 0 then
      some (.inr 348, σ)
    else
    (qa_fX5_push 1 σ).bind fun c3 =>
    if a1 < 0 then
      qa_fX9_goBack_63 a1 c3
    else
      if Int32.ofNat 2 ≤ a1 then
        qa_fX9_goBack_63 a1 c3
      else
        (qa_fX1_copyFrom 1 (9 + (a1).toNatClampNeg) c3).bind fun c9 =>
        qa_fX9_goBack_63 a1 c9
noncomputable def qa_fX9_undo_15  (y0 : Int32) (σ : qa_T) : Option ((Unit ⊕ Nat) × qa_T) :=
    if y0 = 0 then
      some (.inr 348, σ)
    else
    (qa_fX5_popInto 1 σ).bind fun c3 =>
    some (.inl (), c3)
noncomputable def qa_fX9_undo  (σ : qa_T) : Option ((Unit ⊕ Nat) × qa_T) :=
    if (σ.1 (2, 18) 1) ≤ 0 then
      qa_fX9_undo_15  (Int32.ofInt 0) σ
    else
      qa_fX9_undo_15  (Int32.ofInt 1) σ
noncomputable def qa_fX9_savedStates  (σ : qa_T) : Int32 :=
    (σ.1 (2, 18) 1)
noncomputable def qa_fX9_slides  (σ : qa_T) : Int32 :=
    (σ.1 (1, 1) 0)
noncomputable def qa_fX9_costOf (a1 : Int32) (σ : qa_T) : ((Int32 ⊕ Nat) × qa_T) :=
    if (qa_bi (qa_fX6_has 1 a1 σ)) = 0 then
      (.inr 345, σ)
    else
    (.inl (qa_fX9_at (1, 2) 16 a1 σ), σ)
noncomputable def qa_fX9_loadOf (a1 : Int32) (σ : qa_T) : ((Int32 ⊕ Nat) × qa_T) :=
    if (qa_bi (qa_fX6_has 1 a1 σ)) = 0 then
      (.inr 345, σ)
    else
    (.inl (qa_fX6_ticksToLoad 1 a1 (Int32.ofInt 0) σ), σ)
noncomputable def qa_fX9_fadeOf (a1 : Int32) (σ : qa_T) : ((Int32 ⊕ Nat) × qa_T) :=
    if (qa_bi (qa_fX6_has 1 a1 σ)) = 0 then
      (.inr 345, σ)
    else
    (.inl (qa_fX9_at (1, 4) 16 a1 σ), σ)
noncomputable def qa_fX9_isLoaded (a1 : Int32) (σ : qa_T) : ((Bool ⊕ Nat) × qa_T) :=
    if (qa_bi (qa_fX6_has 1 a1 σ)) = 0 then
      (.inr 345, σ)
    else
    (.inl (qa_fX6_isReady 1 a1 σ), σ)
noncomputable def qa_fX9_isOnShow (a1 : Int32) (σ : qa_T) : ((Bool ⊕ Nat) × qa_T) :=
    if (qa_bi (qa_fX6_has 1 a1 σ)) = 0 then
      (.inr 345, σ)
    else
    (.inl (qa_fX7_bears 1 a1 σ), σ)
noncomputable def qa_fX9_glowOf (a1 : Int32) (σ : qa_T) : ((Int32 ⊕ Nat) × qa_T) :=
    if (qa_bi (qa_fX6_has 1 a1 σ)) = 0 then
      (.inr 345, σ)
    else
    (.inl (qa_fX9_at (1, 6) 16 a1 σ), σ)
noncomputable def qa_fX9_burntTimes (a1 : Int32) (σ : qa_T) : ((Int32 ⊕ Nat) × qa_T) :=
    if (qa_bi (qa_fX6_has 1 a1 σ)) = 0 then
      (.inr 345, σ)
    else
    (.inl (qa_fX9_at (1, 7) 16 a1 σ), σ)
noncomputable def qa_fX9_nextUse_35 (a1 : Int32) (x2 : Int32) (y0 : Int32) (σ : qa_T) : Option ((Int32 ⊕ Nat) × qa_T) :=
    if y0 = 0 then
      some (.inr 348, σ)
    else
    some (.inl x2, σ)
noncomputable def qa_fX9_nextUse (a1 : Int32) (σ : qa_T) : Option ((Int32 ⊕ Nat) × qa_T) :=
    if (qa_bi (qa_fX6_has 1 a1 σ)) = 0 then
      some (.inr 345, σ)
    else
    (qa_fX3_placesUntil 1 a1 σ).bind fun c2 =>
    if c2 ≤ 0 then
      qa_fX9_nextUse_35 a1 c2 (Int32.ofInt 0) σ
    else
      qa_fX9_nextUse_35 a1 c2 (Int32.ofInt 1) σ
noncomputable def qa_fX9_burnPlace_33 (a1 : Int32) (x2 : Int32) (y0 : Int32) (σ : qa_T) : Option ((Int32 ⊕ Nat) × qa_T) :=
    if y0 = 0 then
      some (.inr 348, σ)
    else
    some (.inl x2, σ)
noncomputable def qa_fX9_burnPlace (a1 : Int32) (σ : qa_T) : Option ((Int32 ⊕ Nat) × qa_T) :=
    if (qa_bi (qa_fX6_has 1 a1 σ)) = 0 then
      some (.inr 345, σ)
    else
    (qa_fX1_placeInLine 1 a1 σ).bind fun c2 =>
    if c2.1 = (Int32.ofInt (-1)) then
      qa_fX9_burnPlace_33 a1 c2.1 (Int32.ofInt 0) c2.2
    else
      qa_fX9_burnPlace_33 a1 c2.1 (Int32.ofInt 1) c2.2
noncomputable def qa_fX9_places  (σ : qa_T) : Int32 :=
    (σ.1 (1, 9) 0)
noncomputable def qa_fX9_slideAt (a1 : Int32) (σ : qa_T) : ((Int32 ⊕ Nat) × qa_T) :=
    if (qa_bi (qa_fX3_has 1 a1 σ)) = 0 then
      (.inr 345, σ)
    else
    (.inl (qa_fX9_at (1, 10) 24 a1 σ), σ)
noncomputable def qa_fX9_showPlace_19  (y0 : Int32) (σ : qa_T) : ((Int32 ⊕ Nat) × qa_T) :=
    if y0 = 0 then
      (.inr 348, σ)
    else
    (.inl (σ.1 (1, 9) 1), σ)
noncomputable def qa_fX9_showPlace  (σ : qa_T) : ((Int32 ⊕ Nat) × qa_T) :=
    if (σ.1 (1, 9) 1) = (Int32.ofInt (-1)) then
      qa_fX9_showPlace_19  (Int32.ofInt 0) σ
    else
      qa_fX9_showPlace_19  (Int32.ofInt 1) σ
noncomputable def qa_fX9_shown_19  (y0 : Int32) (σ : qa_T) : ((Int32 ⊕ Nat) × qa_T) :=
    if y0 = 0 then
      (.inr 348, σ)
    else
    (.inl (σ.1 (1, 11) 0), σ)
noncomputable def qa_fX9_shown  (σ : qa_T) : ((Int32 ⊕ Nat) × qa_T) :=
    if (σ.1 (1, 11) 0) = (Int32.ofInt (-1)) then
      qa_fX9_shown_19  (Int32.ofInt 0) σ
    else
      qa_fX9_shown_19  (Int32.ofInt 1) σ
noncomputable def qa_fX9_fading_19  (y0 : Int32) (σ : qa_T) : ((Int32 ⊕ Nat) × qa_T) :=
    if y0 = 0 then
      (.inr 348, σ)
    else
    (.inl (σ.1 (1, 11) 2), σ)
noncomputable def qa_fX9_fading  (σ : qa_T) : ((Int32 ⊕ Nat) × qa_T) :=
    if (σ.1 (1, 11) 2) = (Int32.ofInt (-1)) then
      qa_fX9_fading_19  (Int32.ofInt 0) σ
    else
      qa_fX9_fading_19  (Int32.ofInt 1) σ
noncomputable def qa_fX9_fadeLeft  (σ : qa_T) : Int32 :=
    (σ.1 (1, 11) 3)
noncomputable def qa_fX9_awaited_19  (y0 : Int32) (σ : qa_T) : ((Int32 ⊕ Nat) × qa_T) :=
    if y0 = 0 then
      (.inr 348, σ)
    else
    (.inl (σ.1 (1, 11) 4), σ)
noncomputable def qa_fX9_awaited  (σ : qa_T) : ((Int32 ⊕ Nat) × qa_T) :=
    if (σ.1 (1, 11) 4) = (Int32.ofInt (-1)) then
      qa_fX9_awaited_19  (Int32.ofInt 0) σ
    else
      qa_fX9_awaited_19  (Int32.ofInt 1) σ
noncomputable def qa_fX9_shownFor_19  (y0 : Int32) (σ : qa_T) : ((Int32 ⊕ Nat) × qa_T) :=
    if y0 = 0 then
      (.inr 348, σ)
    else
    (.inl (σ.1 (1, 11) 1), σ)
noncomputable def qa_fX9_shownFor  (σ : qa_T) : ((Int32 ⊕ Nat) × qa_T) :=
    if (σ.1 (1, 11) 0) = (Int32.ofInt (-1)) then
      qa_fX9_shownFor_19  (Int32.ofInt 0) σ
    else
      qa_fX9_shownFor_19  (Int32.ofInt 1) σ
noncomputable def qa_fX9_loading_19  (y0 : Int32) (σ : qa_T) : ((Int32 ⊕ Nat) × qa_T) :=
    if y0 = 0 then
      (.inr 348, σ)
    else
    (.inl (σ.1 (1, 12) 0), σ)
noncomputable def qa_fX9_loading  (σ : qa_T) : ((Int32 ⊕ Nat) × qa_T) :=
    if (σ.1 (1, 12) 0) = (Int32.ofInt (-1)) then
      qa_fX9_loading_19  (Int32.ofInt 0) σ
    else
      qa_fX9_loading_19  (Int32.ofInt 1) σ
noncomputable def qa_fX9_loadLeft  (σ : qa_T) : Int32 :=
    (σ.1 (1, 12) 1)
noncomputable def qa_fX9_asked  (σ : qa_T) : Int32 :=
    (σ.1 (1, 12) 2)
noncomputable def qa_fX9_askedAt (a1 : Int32) (σ : qa_T) : ((Int32 ⊕ Nat) × qa_T) :=
    if (qa_bi (qa_fX9_isWithin a1 (Int32.ofInt 0) ((σ.1 (1, 12) 2) - (Int32.ofInt 1)) σ)) = 0 then
      (.inr 345, σ)
    else
    (.inl (qa_fX9_at (1, 13) 16 a1 σ), σ)
noncomputable def qa_fX9_takenBySlides  (σ : qa_T) : Option Int32 :=
    (qa_fX1_sumOfCosts 1 σ).bind fun c1 =>
    some c1
noncomputable def qa_fX9_takenByAccount  (σ : qa_T) : Int32 :=
    (σ.1 (1, 12) 4)
noncomputable def qa_fX9_memory  (σ : qa_T) : Int32 :=
    (σ.1 (1, 14) 0)
noncomputable def qa_fX9_ahead  (σ : qa_T) : Int32 :=
    (σ.1 (1, 14) 1)
noncomputable def qa_fX9_order  (σ : qa_T) : Int32 :=
    (σ.1 (1, 14) 2)
noncomputable def qa_fX9_glow  (σ : qa_T) : Int32 :=
    (σ.1 (1, 14) 3)
noncomputable def qa_fX9_pace  (σ : qa_T) : Int32 :=
    (σ.1 (1, 14) 4)
noncomputable def qa_fX9_waitOnTrial_13  : Nat → Int32 → qa_T → Option (Int32 × qa_T)
  | 0, _, _ => none
  | n + 1, x1, σ =>
    if ((Int16.ofInt 1000).toInt32) ≤ x1 then
      some (((Int16.ofInt 1000).toInt32), σ)
    else
      (qa_fX1_passTick 2 σ).bind fun c4 =>
      if c4.1 ≤ 0 then
        let v7 : Int32 := x1 + Int32.ofInt 1
        qa_fX9_waitOnTrial_13  n v7 c4.2
      else
        some (x1, c4.2)
noncomputable def qa_fX9_waitOnTrial  (σ : qa_T) : Option (Int32 × qa_T) :=
    (qa_fX1_copyFrom 2 1 σ).bind fun c1 =>
    qa_fX9_waitOnTrial_13  qa_fu (Int32.ofInt 1) c1
noncomputable def qa_fX9_ticksToShowByTicks_19  (y0 : Int32) (σ : qa_T) : Option ((Int32 ⊕ Nat) × qa_T) :=
    if y0 = 0 then
      some (.inr 348, σ)
    else
    (qa_fX9_waitOnTrial σ).bind fun c3 =>
    some (.inl c3.1, c3.2)
noncomputable def qa_fX9_ticksToShowByTicks  (σ : qa_T) : Option ((Int32 ⊕ Nat) × qa_T) :=
    if (σ.1 (1, 11) 4) = (Int32.ofInt (-1)) then
      qa_fX9_ticksToShowByTicks_19  (Int32.ofInt 0) σ
    else
      qa_fX9_ticksToShowByTicks_19  (Int32.ofInt 1) σ
noncomputable def qa_fX9_ticksToShowBySums_19  (y0 : Int32) (σ : qa_T) : ((Int32 ⊕ Nat) × qa_T) :=
    if y0 = 0 then
      (.inr 348, σ)
    else
    (.inl (qa_fX1_sumOfWait 1 σ), σ)
noncomputable def qa_fX9_ticksToShowBySums  (σ : qa_T) : ((Int32 ⊕ Nat) × qa_T) :=
    if (σ.1 (1, 11) 4) = (Int32.ofInt (-1)) then
      qa_fX9_ticksToShowBySums_19  (Int32.ofInt 0) σ
    else
      qa_fX9_ticksToShowBySums_19  (Int32.ofInt 1) σ
noncomputable def qa_fX9_burningsFor (a1 : Int32) (σ : qa_T) : Option ((Int32 ⊕ Nat) × qa_T) :=
    if (qa_bi (qa_fX6_has 1 a1 σ)) = 0 then
      some (.inr 345, σ)
    else
    (qa_fX1_burningsToLoad 1 a1 σ).bind fun c2 =>
    some (.inl c2.1, c2.2)
noncomputable def qa_fX9_missesOnTrial_113 (a1 : Int32) (k37 : Int32 → Int32 → qa_T → Option (Int32 × qa_T)) : Nat → Int32 → Int32 → Int32 → qa_T → Option (Int32 × qa_T)
  | 0, _, _, _, _ => none
  | n + 1, x2, x3, x4, σ =>
    if ((Int8.ofInt 10).toInt32) ≤ x4 then
      let v13 : Int32 := x3 + Int32.ofInt 1
      k37 x2 v13 σ
    else
      (qa_fX1_passTick 2 σ).bind fun c14 =>
      let v16 : Int32 := x4 + Int32.ofInt 1
      qa_fX9_missesOnTrial_113 a1 k37 n x2 x3 v16 c14.2
noncomputable def qa_fX9_missesOnTrial_110 (a1 : Int32) (k37 : Int32 → Int32 → qa_T → Option (Int32 × qa_T)) (x2 : Int32) (x3 : Int32) (σ : qa_T) : Option (Int32 × qa_T) :=
    qa_fX9_missesOnTrial_113 a1 k37 qa_fu x2 x3 (Int32.ofInt 0) σ
noncomputable def qa_fX9_missesOnTrial_74 (a1 : Int32) (k37 : Int32 → Int32 → qa_T → Option (Int32 × qa_T)) : Nat → Int32 → Int32 → Int32 → qa_T → Option (Int32 × qa_T)
  | 0, _, _, _, _ => none
  | n + 1, x2, x3, x4, σ =>
    if (σ.1 (2, 11) 4) = (Int32.ofInt (-1)) then
      qa_fX9_missesOnTrial_110 a1 k37 x2 x3 σ
    else
      if ((Int16.ofInt 1000).toInt32) ≤ x4 then
        qa_fX9_missesOnTrial_110 a1 k37 x2 x3 σ
      else
        (qa_fX1_passTick 2 σ).bind fun c18 =>
        let v20 : Int32 := x4 + Int32.ofInt 1
        qa_fX9_missesOnTrial_74 a1 k37 n x2 x3 v20 c18.2
noncomputable def qa_fX9_missesOnTrial_64 (a1 : Int32) (k37 : Int32 → Int32 → qa_T → Option (Int32 × qa_T)) (x2 : Int32) (x3 : Int32) (σ : qa_T) : Option (Int32 × qa_T) :=
    (qa_fX1_beginLoading 2 σ).bind fun c9 =>
    qa_fX9_missesOnTrial_74 a1 k37 qa_fu x2 x3 (Int32.ofInt 0) c9
noncomputable def qa_fX9_missesOnTrial_37 (a1 : Int32) : Nat → Int32 → Int32 → qa_T → Option (Int32 × qa_T)
  | 0, _, _, _ => none
  | n + 1, x2, x3, σ =>
    if (σ.1 (1, 9) 0) ≤ x3 then
      some (x2, σ)
    else
      (qa_fX1_proceed 2 σ).bind fun c6 =>
      if ¬ (qa_bi c6.1) = 0 then
        qa_fX9_missesOnTrial_64 a1 (qa_fX9_missesOnTrial_37 a1 n) x2 x3 c6.2
      else
        let v21 : Int32 := x2 + Int32.ofInt 1
        qa_fX9_missesOnTrial_64 a1 (qa_fX9_missesOnTrial_37 a1 n) v21 x3 c6.2
noncomputable def qa_fX9_missesOnTrial (a1 : Int32) (σ : qa_T) : Option (Int32 × qa_T) :=
    (qa_fX1_copyFrom 2 1 σ).bind fun c1 =>
    let σ3 := qa_wi c1 (2, 14) 2 a1
    let σ4 := qa_wi σ3 (2, 14) 4 (Int32.ofInt 0)
    qa_fX9_missesOnTrial_37 a1 qa_fu (Int32.ofInt 0) (Int32.ofInt 0) σ4
noncomputable def qa_fX9_missesWith (a1 : Int32) (σ : qa_T) : Option ((Int32 ⊕ Nat) × qa_T) :=
    if (qa_bi (qa_fX9_isWithin a1 (Int32.ofInt 0) (Int32.ofInt 2) σ)) = 0 then
      some (.inr 342, σ)
    else
    if (qa_bi (qa_fX1_mayGoOn 1 σ)) = 0 then
      some (.inr 348, σ)
    else
    (qa_fX9_missesOnTrial a1 σ).bind fun c3 =>
    some (.inl c3.1, c3.2)
noncomputable def qa_fX9_bestOrder_43  (k20 : Int32 → Int32 → Int32 → qa_T → Option ((Int32 ⊕ Nat) × qa_T)) (x1 : Int32) (x2 : Int32) (x3 : Int32) (σ : qa_T) : Option ((Int32 ⊕ Nat) × qa_T) :=
    let v8 : Int32 := x3 + Int32.ofInt 1
    k20 x1 x2 v8 σ
noncomputable def qa_fX9_bestOrder_20  : Nat → Int32 → Int32 → Int32 → qa_T → Option ((Int32 ⊕ Nat) × qa_T)
  | 0, _, _, _, _ => none
  | n + 1, x1, x2, x3, σ =>
    if (Int32.ofInt 3) ≤ x3 then
      some (.inl x1, σ)
    else
      (qa_fX9_missesOnTrial x3 σ).bind fun c5 =>
      if x2 ≤ c5.1 then
        qa_fX9_bestOrder_43  (qa_fX9_bestOrder_20  n) x1 x2 x3 c5.2
      else
        qa_fX9_bestOrder_43  (qa_fX9_bestOrder_20  n) x3 c5.1 x3 c5.2
noncomputable def qa_fX9_bestOrder  (σ : qa_T) : Option ((Int32 ⊕ Nat) × qa_T) :=
    if (qa_bi (qa_fX1_mayGoOn 1 σ)) = 0 then
      some (.inr 348, σ)
    else
    (qa_fX9_missesOnTrial (Int32.ofInt 0) σ).bind fun c2 =>
    qa_fX9_bestOrder_20  qa_fu (Int32.ofInt 0) c2.1 (Int32.ofInt 1) c2.2
noncomputable def qa_fX9_time  (σ : qa_T) : Int32 :=
    (σ.1 (1, 15) 0)
noncomputable def qa_fX9_hits  (σ : qa_T) : Int32 :=
    (σ.1 (1, 15) 1)
noncomputable def qa_fX9_misses  (σ : qa_T) : Int32 :=
    (σ.1 (1, 15) 2)
noncomputable def qa_fX9_loads  (σ : qa_T) : Int32 :=
    (σ.1 (1, 15) 3)
noncomputable def qa_fX9_warmLoads  (σ : qa_T) : Int32 :=
    (σ.1 (1, 15) 4)
noncomputable def qa_fX9_burnings  (σ : qa_T) : Int32 :=
    (σ.1 (1, 15) 5)
noncomputable def qa_fX9_waited  (σ : qa_T) : Int32 :=
    (σ.1 (1, 15) 6)
noncomputable def qa_fX9_hitShare  (σ : qa_T) : Option UInt64 :=
    (qa_fX0_shareOfHits 1 σ).bind fun c1 =>
    some c1
noncomputable def qa_fX9_mix (a1 : Int64) (a2 : Int64) (σ : qa_T) : Int64 :=
    (((31 : Int64) * a1) + a2)
noncomputable def qa_fX9_mixSlide_110 (a1 : Int64) (a2 : Int32) (y0 : Int64) (y1 : Int64) (σ : qa_T) : Option (Int64 × qa_T) :=
    let v7 : Int64 := (qa_fX9_mix y1 y0 σ)
    let v8 : Int64 := (qa_fX9_mix v7 (((qa_fX9_at (1, 6) 16 a2 σ)).toInt64) σ)
    let v9 : Int64 := (qa_fX9_mix v8 (((qa_fX9_at (1, 7) 16 a2 σ)).toInt64) σ)
    (qa_fX3_placesUntil 1 a2 σ).bind fun c10 =>
    let v12 : Int64 := (qa_fX9_mix v9 ((c10).toInt64) σ)
    (qa_fX1_placeInLine 1 a2 σ).bind fun c13 =>
    let v15 : Int64 := (qa_fX9_mix v12 (((c13.1 + (Int32.ofInt 1))).toInt64) c13.2)
    (qa_fX1_burningsToLoad 1 a2 c13.2).bind fun c16 =>
    some ((qa_fX9_mix v15 ((c16.1).toInt64) c16.2), c16.2)
noncomputable def qa_fX9_mixSlide_84 (a1 : Int64) (a2 : Int32) (y0 : Int64) (y1 : Int64) (σ : qa_T) : Option (Int64 × qa_T) :=
    let v5 : Int64 := (qa_fX9_mix y1 y0 σ)
    if (qa_bi (qa_fX7_bears 1 a2 σ)) = 0 then
      qa_fX9_mixSlide_110 a1 a2 (Int64.ofNat ((0 : Fin 2) : Nat)) v5 σ
    else
      qa_fX9_mixSlide_110 a1 a2 (Int64.ofNat ((1 : Fin 2) : Nat)) v5 σ
noncomputable def qa_fX9_mixSlide (a1 : Int64) (a2 : Int32) (σ : qa_T) : Option (Int64 × qa_T) :=
    let v1 : Int64 := (qa_fX9_mix a1 (((qa_fX9_at (1, 2) 16 a2 σ)).toInt64) σ)
    let v2 : Int64 := (qa_fX9_mix v1 (((qa_fX6_ticksToLoad 1 a2 (Int32.ofInt 0) σ)).toInt64) σ)
    let v3 : Int64 := (qa_fX9_mix v2 (((qa_fX9_at (1, 4) 16 a2 σ)).toInt64) σ)
    if (qa_bi (qa_fX6_isReady 1 a2 σ)) = 0 then
      qa_fX9_mixSlide_84 a1 a2 (Int64.ofNat ((0 : Fin 2) : Nat)) v3 σ
    else
      qa_fX9_mixSlide_84 a1 a2 (Int64.ofNat ((1 : Fin 2) : Nat)) v3 σ
noncomputable def qa_fX9_mixProgramme_19 (a1 : Int64) : Nat → Int64 → Int32 → qa_T → Option Int64
  | 0, _, _, _ => none
  | n + 1, x3, x5, σ =>
    if (σ.1 (1, 9) 0) ≤ x5 then
      let v3 : Int64 := (qa_fX9_mix x3 ((((σ.1 (1, 9) 1) + (Int32.ofInt 1))).toInt64) σ)
      let v4 : Int64 := (qa_fX9_mix v3 ((((σ.1 (1, 11) 0) + (Int32.ofInt 1))).toInt64) σ)
      let v5 : Int64 := (qa_fX9_mix v4 ((((σ.1 (1, 11) 2) + (Int32.ofInt 1))).toInt64) σ)
      let v6 : Int64 := (qa_fX9_mix v5 (((σ.1 (1, 11) 3)).toInt64) σ)
      let v7 : Int64 := (qa_fX9_mix v6 ((((σ.1 (1, 11) 4) + (Int32.ofInt 1))).toInt64) σ)
      some (qa_fX9_mix v7 (((σ.1 (1, 11) 1)).toInt64) σ)
    else
      let v8 : Int64 := (qa_fX9_mix x3 (((qa_fX9_at (1, 10) 24 x5 σ)).toInt64) σ)
      let v9 : Int32 := x5 + Int32.ofInt 1
      qa_fX9_mixProgramme_19 a1 n v8 v9 σ
noncomputable def qa_fX9_mixProgramme (a1 : Int64) (σ : qa_T) : Option Int64 :=
    let v1 : Int64 := (qa_fX9_mix a1 (((σ.1 (1, 9) 0)).toInt64) σ)
    qa_fX9_mixProgramme_19 a1 qa_fu v1 (Int32.ofInt 0) σ
noncomputable def qa_fX9_mixLoading_53 (a1 : Int64) : Nat → Int64 → Int32 → qa_T → Option Int64
  | 0, _, _, _ => none
  | n + 1, x3, x5, σ =>
    if (σ.1 (1, 12) 2) ≤ x5 then
      (qa_fX1_sumOfCosts 1 σ).bind fun c5 =>
      let v7 : Int64 := (qa_fX9_mix x3 ((c5).toInt64) σ)
      let v8 : Int64 := (qa_fX9_mix v7 (((σ.1 (1, 12) 4)).toInt64) σ)
      let v9 : Int64 := (qa_fX9_mix v8 (((σ.1 (1, 14) 0)).toInt64) σ)
      let v10 : Int64 := (qa_fX9_mix v9 (((σ.1 (1, 14) 1)).toInt64) σ)
      let v11 : Int64 := (qa_fX9_mix v10 (((σ.1 (1, 14) 2)).toInt64) σ)
      let v12 : Int64 := (qa_fX9_mix v11 (((σ.1 (1, 14) 3)).toInt64) σ)
      some (qa_fX9_mix v12 (((σ.1 (1, 14) 4)).toInt64) σ)
    else
      let v13 : Int64 := (qa_fX9_mix x3 (((qa_fX9_at (1, 13) 16 x5 σ)).toInt64) σ)
      let v14 : Int32 := x5 + Int32.ofInt 1
      qa_fX9_mixLoading_53 a1 n v13 v14 σ
noncomputable def qa_fX9_mixLoading (a1 : Int64) (σ : qa_T) : Option Int64 :=
    let v1 : Int64 := (qa_fX9_mix a1 ((((σ.1 (1, 12) 0) + (Int32.ofInt 1))).toInt64) σ)
    let v2 : Int64 := (qa_fX9_mix v1 (((σ.1 (1, 12) 1)).toInt64) σ)
    let v3 : Int64 := (qa_fX9_mix v2 (((σ.1 (1, 12) 2)).toInt64) σ)
    qa_fX9_mixLoading_53 a1 qa_fu v3 (Int32.ofInt 0) σ
noncomputable def qa_fX9_bitsOfShare_39 (a1 : UInt64) (x2 : UInt64) (x4 : Int32) (σ : qa_T) : Option Int64 :=
    if ¬ qa_nn (FP.dsub x2 FP.dconst1) then none else
    if ¬ qa_nn (FP.dmul (FP.dsub x2 FP.dconst1) (4841369599423283200 : UInt64)) then none else
    let v5 : Int64 := (FP.d2l (FP.dmul (FP.dsub x2 FP.dconst1) (4841369599423283200 : UInt64)))
    some ((((x4).toInt64) <<< ((((Int8.ofInt 52).toInt32)).toInt64 &&& 63)) + v5)
noncomputable def qa_fX9_bitsOfShare_15 (a1 : UInt64) : Nat → UInt64 → Int32 → qa_T → Option Int64
  | 0, _, _, _ => none
  | n + 1, x2, x4, σ =>
    if 0 ≤ (Op.cmpValue (FP.dcmp x2 FP.dconst1) .g) then
      qa_fX9_bitsOfShare_39 a1 x2 x4 σ
    else
      if x4 ≤ (Int32.ofInt 1) then
        qa_fX9_bitsOfShare_39 a1 x2 x4 σ
      else
        if ¬ qa_nn (FP.dmul x2 (4611686018427387904 : UInt64)) then none else
        let v8 : UInt64 := (FP.dmul x2 (4611686018427387904 : UInt64))
        let v9 : Int32 := x4 + Int32.ofInt (-1)
        qa_fX9_bitsOfShare_15 a1 n v8 v9 σ
noncomputable def qa_fX9_bitsOfShare (a1 : UInt64) (σ : qa_T) : Option Int64 :=
    if 0 < (Op.cmpValue (FP.dcmp a1 FP.dconst0) .l) then
      qa_fX9_bitsOfShare_15 a1 qa_fu a1 ((Int16.ofInt 1023).toInt32) σ
    else
      some (Int64.ofNat ((0 : Fin 2) : Nat))
noncomputable def qa_fX9_mixAccounts (a1 : Int64) (σ : qa_T) : Option Int64 :=
    let v1 : Int64 := (qa_fX9_mix a1 (((σ.1 (1, 15) 0)).toInt64) σ)
    let v2 : Int64 := (qa_fX9_mix v1 (((σ.1 (1, 15) 1)).toInt64) σ)
    let v3 : Int64 := (qa_fX9_mix v2 (((σ.1 (1, 15) 2)).toInt64) σ)
    let v4 : Int64 := (qa_fX9_mix v3 (((σ.1 (1, 15) 3)).toInt64) σ)
    let v5 : Int64 := (qa_fX9_mix v4 (((σ.1 (1, 15) 4)).toInt64) σ)
    let v6 : Int64 := (qa_fX9_mix v5 (((σ.1 (1, 15) 5)).toInt64) σ)
    let v7 : Int64 := (qa_fX9_mix v6 (((σ.1 (1, 15) 6)).toInt64) σ)
    let v8 : Int64 := (qa_fX9_mix v7 (((σ.1 (2, 18) 1)).toInt64) σ)
    (qa_fX0_shareOfHits 1 σ).bind fun c9 =>
    (qa_fX9_bitsOfShare c9 σ).bind fun c11 =>
    some (qa_fX9_mix v8 c11 σ)
noncomputable def qa_fX9_digest_174  : Nat → Int64 → Int32 → qa_T → Option (Int64 × qa_T)
  | 0, _, _, _ => none
  | n + 1, x1, x4, σ =>
    if (σ.1 (10, 19) 0) ≤ x4 then
      some (x1, σ)
    else
      let v17 : Int64 := (qa_fX9_mix x1 (((qa_fX9_at (10, 20) 60 x4 σ)).toInt64) σ)
      let v18 : Int32 := x4 + Int32.ofInt 1
      qa_fX9_digest_174  n v17 v18 σ
noncomputable def qa_fX9_digest_148  (k127 : Int64 → Int32 → qa_T → Option (Int64 × qa_T)) (x4 : Int32) (y0 : Int64) (y1 : Int64) (σ : qa_T) : Option (Int64 × qa_T) :=
    let v20 : Int64 := (qa_fX9_mix y1 y0 σ)
    let v21 : Int32 := x4 + Int32.ofInt 1
    k127 v20 v21 σ
noncomputable def qa_fX9_digest_127  : Nat → Int64 → Int32 → qa_T → Option (Int64 × qa_T)
  | 0, _, _, _ => none
  | n + 1, x1, x4, σ =>
    if (Int32.ofInt 2) ≤ x4 then
      let v15 : Int64 := (qa_fX9_mix x1 (((σ.1 (10, 19) 0)).toInt64) σ)
      qa_fX9_digest_174  qa_fu v15 (Int32.ofInt 0) σ
    else
      if (qa_bi (qa_fX9_hasSnapshot x4 σ)) = 0 then
        qa_fX9_digest_148  (qa_fX9_digest_127  n) x4 (Int64.ofNat ((0 : Fin 2) : Nat)) x1 σ
      else
        qa_fX9_digest_148  (qa_fX9_digest_127  n) x4 (Int64.ofNat ((1 : Fin 2) : Nat)) x1 σ
noncomputable def qa_fX9_digest_114  (y0 : Int64) (y1 : Int64) (σ : qa_T) : Option (Int64 × qa_T) :=
    let v11 : Int64 := (qa_fX9_mix y1 y0 σ)
    (qa_fX9_mixAccounts v11 σ).bind fun c12 =>
    qa_fX9_digest_127  qa_fu c12 (Int32.ofInt 0) σ
noncomputable def qa_fX9_digest_93  (x3 : Int32) (y0 : Int64) (y1 : Int64) (σ : qa_T) : Option (Int64 × qa_T) :=
    let v9 : Int64 := (qa_fX9_mix y1 y0 σ)
    if x3 = 0 then
      qa_fX9_digest_114  (Int64.ofNat ((0 : Fin 2) : Nat)) v9 σ
    else
      qa_fX9_digest_114  (((qa_fX1_sumOfWait 1 σ)).toInt64) v9 σ
noncomputable def qa_fX9_digest_78  (x1 : Int64) (y0 : Int32) (σ : qa_T) : Option (Int64 × qa_T) :=
    if y0 = 0 then
      qa_fX9_digest_93  y0 (Int64.ofNat ((0 : Fin 2) : Nat)) x1 σ
    else
      (qa_fX9_waitOnTrial σ).bind fun c22 =>
      qa_fX9_digest_93  y0 ((c22.1).toInt64) x1 c22.2
noncomputable def qa_fX9_digest_20  : Nat → Int64 → Int32 → qa_T → Option (Int64 × qa_T)
  | 0, _, _, _ => none
  | n + 1, x1, x3, σ =>
    if (σ.1 (1, 1) 0) ≤ x3 then
      (qa_fX9_mixProgramme x1 σ).bind fun c3 =>
      (qa_fX9_mixLoading c3 σ).bind fun c5 =>
      if (σ.1 (1, 11) 4) = (Int32.ofInt (-1)) then
        qa_fX9_digest_78  c5 (Int32.ofInt 0) σ
      else
        qa_fX9_digest_78  c5 (Int32.ofInt 1) σ
    else
      (qa_fX9_mixSlide x1 x3 σ).bind fun c24 =>
      let v26 : Int32 := x3 + Int32.ofInt 1
      qa_fX9_digest_20  n c24.1 v26 c24.2
noncomputable def qa_fX9_digest  (σ : qa_T) : Option (Int64 × qa_T) :=
    let v1 : Int64 := (qa_fX9_mix (4447 : Int64) (((σ.1 (1, 1) 0)).toInt64) σ)
    qa_fX9_digest_20  qa_fu v1 (Int32.ofInt 0) σ
noncomputable def qa_fX10_thrown  (σ : qa_T) : Int32 :=
    (σ.1 (10, 21) 9)
noncomputable def qa_fX10_throwing (a1 : Int32) (σ : qa_T) : (Int32 × qa_T) :=
    let σ1 := qa_wi σ (10, 21) 9 a1
    ((Int32.ofInt 0), σ1)
noncomputable def qa_fX10_in_14 (a1 : Int32) (a2 : Int32) (a3 : Int32) (σ : qa_T) : Bool :=
    false
noncomputable def qa_fX10_in (a1 : Int32) (a2 : Int32) (a3 : Int32) (σ : qa_T) : Bool :=
    if a1 < a2 then
      qa_fX10_in_14 a1 a2 a3 σ
    else
      if a3 < a1 then
        qa_fX10_in_14 a1 a2 a3 σ
      else
        true
noncomputable def qa_fX10_save_52  : Nat → Int32 → qa_T → Option qa_T
  | 0, _, _ => none
  | n + 1, x1, σ =>
    if ((Int16.ofInt 176).toInt32) ≤ x1 then
      let σ3 := qa_wi σ (10, 21) 2 ((σ.1 (10, 21) 2) + (Int32.ofInt 1))
      some σ3
    else
      if ¬ qa_in x1 176 = true then none else
      if ¬ qa_in ((((Int16.ofInt 176).toInt32) * (σ.1 (10, 21) 2)) + x1) 1056 = true then none else
      let σ6 := qa_wi σ (10, 23) (((((Int16.ofInt 176).toInt32) * (σ.1 (10, 21) 2)) + x1)).toNatClampNeg (σ.1 (10, 22) (x1).toNatClampNeg)
      let v7 : Int32 := x1 + Int32.ofInt 1
      qa_fX10_save_52  n v7 σ6
noncomputable def qa_fX10_save_50  (σ : qa_T) : Option qa_T :=
    qa_fX10_save_52  qa_fu (Int32.ofInt 0) σ
noncomputable def qa_fX10_save_11  : Nat → Int32 → qa_T → Option qa_T
  | 0, _, _ => none
  | n + 1, x1, σ =>
    if ((Int16.ofInt 880).toInt32) ≤ x1 then
      let σ9 := qa_wi σ (10, 21) 2 ((σ.1 (10, 21) 2) - (Int32.ofInt 1))
      qa_fX10_save_50  σ9
    else
      if ¬ qa_in (((Int16.ofInt 176).toInt32) + x1) 1056 = true then none else
      if ¬ qa_in x1 1056 = true then none else
      let σ12 := qa_wi σ (10, 23) (x1).toNatClampNeg (σ.1 (10, 23) ((((Int16.ofInt 176).toInt32) + x1)).toNatClampNeg)
      let v13 : Int32 := x1 + Int32.ofInt 1
      qa_fX10_save_11  n v13 σ12
noncomputable def qa_fX10_save  (σ : qa_T) : Option qa_T :=
    if ¬ (σ.1 (10, 21) 2) = ((Int8.ofInt 6).toInt32) then
      qa_fX10_save_50  σ
    else
      qa_fX10_save_11  qa_fu (Int32.ofInt 0) σ
noncomputable def qa_fX10_of (a1 : Int32) (a2 : Int32) (σ : qa_T) : Option Int32 :=
    if ¬ qa_in (((Int32.ofInt 1) + (((Int8.ofInt 7).toInt32) * a1)) + a2) 176 = true then none else
    some (σ.1 (10, 22) ((((Int32.ofInt 1) + (((Int8.ofInt 7).toInt32) * a1)) + a2)).toNatClampNeg)
noncomputable def qa_fX10_lay (a1 : Int32) (a2 : Int32) (a3 : Int32) (σ : qa_T) : Option qa_T :=
    if ¬ qa_in (((Int32.ofInt 1) + (((Int8.ofInt 7).toInt32) * a1)) + a2) 176 = true then none else
    let σ2 := qa_wi σ (10, 22) ((((Int32.ofInt 1) + (((Int8.ofInt 7).toInt32) * a1)) + a2)).toNatClampNeg a3
    some σ2
noncomputable def qa_fX10_isThere_22 (a1 : Int32) (y0 : Int32) (σ : qa_T) : (Bool × qa_T) :=
    let σ2 := qa_wi σ (10, 21) 9 y0
    if ¬ (σ2.1 (10, 21) 9) = 0 then
      (false, σ2)
    else
      (true, σ2)
noncomputable def qa_fX10_isThere (a1 : Int32) (σ : qa_T) : (Bool × qa_T) :=
    if (qa_bi (qa_fX10_in a1 (Int32.ofInt 0) ((σ.1 (10, 22) ((Int32.ofInt 0)).toNatClampNeg) - (Int32.ofInt 1)) σ)) = 0 then
      qa_fX10_isThere_22 a1 (Int32.ofInt 1) σ
    else
      qa_fX10_isThere_22 a1 (Int32.ofInt 0) σ
noncomputable def qa_fX10_loaded (a1 : Int32) (σ : qa_T) : Option Bool :=
    (qa_fX10_of a1 (Int32.ofInt 3) σ).bind fun c1 =>
    if ¬ c1 = (Int32.ofInt 1) then
      some false
    else
      some true
noncomputable def qa_fX10_onShow_24 (a1 : Int32) (σ : qa_T) : Bool :=
    true
noncomputable def qa_fX10_onShow (a1 : Int32) (σ : qa_T) : Bool :=
    if a1 = (σ.1 (10, 22) (((Int16.ofInt 139).toInt32)).toNatClampNeg) then
      qa_fX10_onShow_24 a1 σ
    else
      if ¬ a1 = (σ.1 (10, 22) (((Int16.ofInt 140).toInt32)).toNatClampNeg) then
        false
      else
        qa_fX10_onShow_24 a1 σ
noncomputable def qa_fX10_taken_45  (k4 : Int32 → Int32 → qa_T → Option Int32) (x2 : Int32) (y0 : Int32) (y1 : Int32) (σ : qa_T) : Option Int32 :=
    let v7 : Int32 := (y1 + y0)
    let v8 : Int32 := x2 + Int32.ofInt 1
    k4 v7 v8 σ
noncomputable def qa_fX10_taken_35  (k4 : Int32 → Int32 → qa_T → Option Int32) (x2 : Int32) (y0 : Int32) (σ : qa_T) : Option Int32 :=
    (qa_fX10_of x2 (Int32.ofInt 0) σ).bind fun c5 =>
    qa_fX10_taken_45  k4 x2 c5 y0 σ
noncomputable def qa_fX10_taken_4  : Nat → Int32 → Int32 → qa_T → Option Int32
  | 0, _, _, _ => none
  | n + 1, x1, x2, σ =>
    if (σ.1 (10, 22) ((Int32.ofInt 0)).toNatClampNeg) ≤ x2 then
      some x1
    else
      (qa_fX10_loaded x2 σ).bind fun c2 =>
      if ¬ (qa_bi c2) = 0 then
        qa_fX10_taken_35  (qa_fX10_taken_4  n) x2 x1 σ
      else
        if ¬ (σ.1 (10, 22) (((Int16.ofInt 144).toInt32)).toNatClampNeg) = x2 then
          qa_fX10_taken_45  (qa_fX10_taken_4  n) x2 (Int32.ofInt 0) x1 σ
        else
          qa_fX10_taken_35  (qa_fX10_taken_4  n) x2 x1 σ
noncomputable def qa_fX10_taken  (σ : qa_T) : Option Int32 :=
    qa_fX10_taken_4  qa_fu (Int32.ofInt 0) (Int32.ofInt 0) σ
noncomputable def qa_fX10_nextOf_2 (a1 : Int32) : Nat → Int32 → qa_T → Option Int32
  | 0, _, _ => none
  | n + 1, x2, σ =>
    if (σ.1 (10, 22) (((Int8.ofInt 113).toInt32)).toNatClampNeg) < x2 then
      some ((Int8.ofInt 25).toInt32)
    else
      if (σ.1 (10, 22) (((Int8.ofInt 113).toInt32)).toNatClampNeg) = 0 then none else
      if ¬ qa_in (((Int8.ofInt 114).toInt32) + (((σ.1 (10, 22) (((Int16.ofInt 138).toInt32)).toNatClampNeg) + x2) - ((σ.1 (10, 22) (((Int16.ofInt 138).toInt32)).toNatClampNeg) + x2) / (σ.1 (10, 22) (((Int8.ofInt 113).toInt32)).toNatClampNeg) * (σ.1 (10, 22) (((Int8.ofInt 113).toInt32)).toNatClampNeg))) 176 = true then none else
      if ¬ (σ.1 (10, 22) ((((Int8.ofInt 114).toInt32) + (((σ.1 (10, 22) (((Int16.ofInt 138).toInt32)).toNatClampNeg) + x2) - ((σ.1 (10, 22) (((Int16.ofInt 138).toInt32)).toNatClampNeg) + x2) / (σ.1 (10, 22) (((Int8.ofInt 113).toInt32)).toNatClampNeg) * (σ.1 (10, 22) (((Int8.ofInt 113).toInt32)).toNatClampNeg)))).toNatClampNeg) = a1 then
        let v5 : Int32 := x2 + Int32.ofInt 1
        qa_fX10_nextOf_2 a1 n v5 σ
      else
        some x2
noncomputable def qa_fX10_nextOf (a1 : Int32) (σ : qa_T) : Option Int32 :=
    qa_fX10_nextOf_2 a1 qa_fu (Int32.ofInt 1) σ
noncomputable def qa_fX10_isFirst_82 (a1 : Int32) (a2 : Int32) (σ : qa_T) : Option Bool :=
    some true
noncomputable def qa_fX10_isFirst_86 (a1 : Int32) (a2 : Int32) (σ : qa_T) : Option Bool :=
    some false
noncomputable def qa_fX10_isFirst_68 (a1 : Int32) (a2 : Int32) (y0 : Int32) (σ : qa_T) : Option Bool :=
    if 0 < y0 then
      qa_fX10_isFirst_82 a1 a2 σ
    else
      if ¬ y0 = 0 then
        qa_fX10_isFirst_86 a1 a2 σ
      else
        if a2 ≤ a1 then
          qa_fX10_isFirst_86 a1 a2 σ
        else
          qa_fX10_isFirst_82 a1 a2 σ
noncomputable def qa_fX10_isFirst (a1 : Int32) (a2 : Int32) (σ : qa_T) : Option Bool :=
    if ¬ (σ.1 (10, 22) (((Int16.ofInt 165).toInt32)).toNatClampNeg) = 0 then
      if ¬ (σ.1 (10, 22) (((Int16.ofInt 165).toInt32)).toNatClampNeg) = (Int32.ofInt 1) then
        (qa_fX10_nextOf a1 σ).bind fun c3 =>
        (qa_fX10_nextOf a2 σ).bind fun c5 =>
        qa_fX10_isFirst_68 a1 a2 (c3 - c5) σ
      else
        (qa_fX10_of a1 (Int32.ofInt 0) σ).bind fun c10 =>
        (qa_fX10_of a2 (Int32.ofInt 0) σ).bind fun c12 =>
        qa_fX10_isFirst_68 a1 a2 (c10 - c12) σ
    else
      (qa_fX10_of a2 ((Int8.ofInt 6).toInt32) σ).bind fun c14 =>
      (qa_fX10_of a1 ((Int8.ofInt 6).toInt32) σ).bind fun c16 =>
      qa_fX10_isFirst_68 a1 a2 (c14 - c16) σ
noncomputable def qa_fX10_canBurn_20 (a1 : Int32) (σ : qa_T) : Option Bool :=
    some false
noncomputable def qa_fX10_canBurn (a1 : Int32) (σ : qa_T) : Option Bool :=
    (qa_fX10_loaded a1 σ).bind fun c1 =>
    if (qa_bi c1) = 0 then
      qa_fX10_canBurn_20 a1 σ
    else
      if ¬ (qa_bi (qa_fX10_onShow a1 σ)) = 0 then
        qa_fX10_canBurn_20 a1 σ
      else
        some true
noncomputable def qa_fX10_nextToBurn_41  (k4 : Int32 → Int32 → qa_T → Option Int32) (x2 : Int32) (y0 : Int32) (σ : qa_T) : Option Int32 :=
    let v5 : Int32 := x2 + Int32.ofInt 1
    k4 y0 v5 σ
noncomputable def qa_fX10_nextToBurn_40  (k4 : Int32 → Int32 → qa_T → Option Int32) (x1 : Int32) (x2 : Int32) (σ : qa_T) : Option Int32 :=
    qa_fX10_nextToBurn_41  k4 x2 x1 σ
noncomputable def qa_fX10_nextToBurn_36  (k4 : Int32 → Int32 → qa_T → Option Int32) (x2 : Int32) (σ : qa_T) : Option Int32 :=
    qa_fX10_nextToBurn_41  k4 x2 x2 σ
noncomputable def qa_fX10_nextToBurn_4  : Nat → Int32 → Int32 → qa_T → Option Int32
  | 0, _, _, _ => none
  | n + 1, x1, x2, σ =>
    if (σ.1 (10, 22) ((Int32.ofInt 0)).toNatClampNeg) ≤ x2 then
      some x1
    else
      (qa_fX10_canBurn x2 σ).bind fun c2 =>
      if (qa_bi c2) = 0 then
        qa_fX10_nextToBurn_40  (qa_fX10_nextToBurn_4  n) x1 x2 σ
      else
        if x1 = (Int32.ofInt (-1)) then
          qa_fX10_nextToBurn_36  (qa_fX10_nextToBurn_4  n) x2 σ
        else
          (qa_fX10_isFirst x2 x1 σ).bind fun c7 =>
          if (qa_bi c7) = 0 then
            qa_fX10_nextToBurn_40  (qa_fX10_nextToBurn_4  n) x1 x2 σ
          else
            qa_fX10_nextToBurn_36  (qa_fX10_nextToBurn_4  n) x2 σ
noncomputable def qa_fX10_nextToBurn  (σ : qa_T) : Option Int32 :=
    qa_fX10_nextToBurn_4  qa_fu (Int32.ofInt (-1)) (Int32.ofInt 0) σ
noncomputable def qa_fX10_burns (a1 : Int32) (σ : qa_T) : Option (Int32 × qa_T) :=
    (qa_fX10_lay a1 (Int32.ofInt 3) (Int32.ofInt 0) σ).bind fun c1 =>
    (qa_fX10_lay a1 (Int32.ofInt 4) (c1.1 (10, 22) (((Int16.ofInt 166).toInt32)).toNatClampNeg) c1).bind fun c3 =>
    (qa_fX10_of a1 (Int32.ofInt 5) c3).bind fun c5 =>
    (qa_fX10_lay a1 (Int32.ofInt 5) (c5 + (Int32.ofInt 1)) c3).bind fun c7 =>
    let σ9 := qa_wi c7 (10, 22) (((Int16.ofInt 173).toInt32)).toNatClampNeg ((c7.1 (10, 22) (((Int16.ofInt 173).toInt32)).toNatClampNeg) + (Int32.ofInt 1))
    (qa_fX10_of a1 (Int32.ofInt 0) σ9).bind fun c10 =>
    some (c10, σ9)
noncomputable def qa_fX10_makesRoom_42 (a1 : Int32) (x2 : Int32) (σ : qa_T) : Option (Int32 × qa_T) :=
    some (x2, σ)
noncomputable def qa_fX10_makesRoom_2 (a1 : Int32) : Nat → Int32 → qa_T → Option (Int32 × qa_T)
  | 0, _, _ => none
  | n + 1, x2, σ =>
    (qa_fX10_taken σ).bind fun c1 =>
    if (c1 + a1) ≤ (σ.1 (10, 22) (((Int16.ofInt 163).toInt32)).toNatClampNeg) then
      qa_fX10_makesRoom_42 a1 x2 σ
    else
      (qa_fX10_nextToBurn σ).bind fun c4 =>
      if c4 = (Int32.ofInt (-1)) then
        qa_fX10_makesRoom_42 a1 x2 σ
      else
        (qa_fX10_nextToBurn σ).bind fun c7 =>
        (qa_fX10_burns c7 σ).bind fun c9 =>
        let v11 : Int32 := x2 + Int32.ofInt 1
        qa_fX10_makesRoom_2 a1 n v11 c9.2
noncomputable def qa_fX10_makesRoom (a1 : Int32) (σ : qa_T) : Option (Int32 × qa_T) :=
    qa_fX10_makesRoom_2 a1 qa_fu (Int32.ofInt 0) σ
noncomputable def qa_fX10_due_28 (a1 : Int32) (y0 : Int32) (σ : qa_T) : Option Int32 :=
    some y0
noncomputable def qa_fX10_due (a1 : Int32) (σ : qa_T) : Option Int32 :=
    (qa_fX10_of a1 (Int32.ofInt 4) σ).bind fun c1 =>
    if c1 ≤ 0 then
      (qa_fX10_of a1 (Int32.ofInt 1) σ).bind fun c4 =>
      qa_fX10_due_28 a1 c4 σ
    else
      (qa_fX10_of a1 (Int32.ofInt 1) σ).bind fun c6 =>
      qa_fX10_due_28 a1 ((c6 + (Int32.ofInt 1)) / (Int32.ofInt 2)) σ
noncomputable def qa_fX10_starts_68 (a1 : Int32) (y0 : Int32) (y1 : Int32) (y2 : Int32) (σ : qa_T) : Option qa_T :=
    if ¬ qa_in y2 176 = true then none else
    let σ14 := qa_wi σ (10, 22) (y2).toNatClampNeg (y1 + y0)
    (qa_fX10_lay a1 (Int32.ofInt 4) (Int32.ofInt 0) σ14).bind fun c15 =>
    some c15
noncomputable def qa_fX10_starts (a1 : Int32) (σ : qa_T) : Option qa_T :=
    (qa_fX10_of a1 (Int32.ofInt 0) σ).bind fun c1 =>
    (qa_fX10_makesRoom c1 σ).bind fun c3 =>
    let σ5 := qa_wi c3.2 (10, 22) (((Int16.ofInt 144).toInt32)).toNatClampNeg a1
    (qa_fX10_due a1 σ5).bind fun c6 =>
    let σ8 := qa_wi σ5 (10, 22) (((Int16.ofInt 145).toInt32)).toNatClampNeg c6
    let σ9 := qa_wi σ8 (10, 22) (((Int16.ofInt 171).toInt32)).toNatClampNeg ((σ8.1 (10, 22) (((Int16.ofInt 171).toInt32)).toNatClampNeg) + (Int32.ofInt 1))
    (qa_fX10_of a1 (Int32.ofInt 4) σ9).bind fun c10 =>
    if c10 ≤ 0 then
      qa_fX10_starts_68 a1 (Int32.ofInt 0) (σ9.1 (10, 22) (((Int16.ofInt 172).toInt32)).toNatClampNeg) ((Int16.ofInt 172).toInt32) σ9
    else
      qa_fX10_starts_68 a1 (Int32.ofInt 1) (σ9.1 (10, 22) (((Int16.ofInt 172).toInt32)).toNatClampNeg) ((Int16.ofInt 172).toInt32) σ9
noncomputable def qa_fX10_forgets_61 (a1 : Int32) : Nat → Int32 → Int32 → qa_T → Option qa_T
  | 0, _, _, _ => none
  | n + 1, x2, x3, σ =>
    if (σ.1 (10, 22) (((Int16.ofInt 146).toInt32)).toNatClampNeg) ≤ x3 then
      let σ3 := qa_wi σ (10, 22) (((Int16.ofInt 146).toInt32)).toNatClampNeg x2
      some σ3
    else
      if ¬ qa_in (((Int16.ofInt 147).toInt32) + x3) 176 = true then none else
      let σ5 := qa_wi σ (10, 22) ((((Int16.ofInt 147).toInt32) + x3)).toNatClampNeg (Int32.ofInt 0)
      let v6 : Int32 := x3 + Int32.ofInt 1
      qa_fX10_forgets_61 a1 n x2 v6 σ5
noncomputable def qa_fX10_forgets_53 (a1 : Int32) (k4 : Int32 → Int32 → qa_T → Option qa_T) (x2 : Int32) (x3 : Int32) (σ : qa_T) : Option qa_T :=
    let v9 : Int32 := x3 + Int32.ofInt 1
    k4 x2 v9 σ
noncomputable def qa_fX10_forgets_4 (a1 : Int32) : Nat → Int32 → Int32 → qa_T → Option qa_T
  | 0, _, _, _ => none
  | n + 1, x2, x3, σ =>
    if (σ.1 (10, 22) (((Int16.ofInt 146).toInt32)).toNatClampNeg) ≤ x3 then
      qa_fX10_forgets_61 a1 qa_fu x2 x2 σ
    else
      if ¬ qa_in (((Int16.ofInt 147).toInt32) + x3) 176 = true then none else
      if (σ.1 (10, 22) ((((Int16.ofInt 147).toInt32) + x3)).toNatClampNeg) = a1 then
        qa_fX10_forgets_53 a1 (qa_fX10_forgets_4 a1 n) x2 x3 σ
      else
        if ¬ qa_in (((Int16.ofInt 147).toInt32) + x3) 176 = true then none else
        if ¬ qa_in (((Int16.ofInt 147).toInt32) + x2) 176 = true then none else
        let σ12 := qa_wi σ (10, 22) ((((Int16.ofInt 147).toInt32) + x2)).toNatClampNeg (σ.1 (10, 22) ((((Int16.ofInt 147).toInt32) + x3)).toNatClampNeg)
        let v13 : Int32 := x2 + Int32.ofInt 1
        qa_fX10_forgets_53 a1 (qa_fX10_forgets_4 a1 n) v13 x3 σ12
noncomputable def qa_fX10_forgets (a1 : Int32) (σ : qa_T) : Option qa_T :=
    qa_fX10_forgets_4 a1 qa_fu (Int32.ofInt 0) (Int32.ofInt 0) σ
noncomputable def qa_fX10_begins_183  (σ : qa_T) : Option qa_T :=
    some σ
noncomputable def qa_fX10_begins_151  (x1 : Int32) (σ : qa_T) : Option qa_T :=
    if x1 = (Int32.ofInt (-1)) then
      qa_fX10_begins_183  σ
    else
      (qa_fX10_taken σ).bind fun c6 =>
      (qa_fX10_of x1 (Int32.ofInt 0) σ).bind fun c8 =>
      if (σ.1 (10, 22) (((Int16.ofInt 163).toInt32)).toNatClampNeg) < (c6 + c8) then
        qa_fX10_begins_183  σ
      else
        (qa_fX10_starts x1 σ).bind fun c11 =>
        qa_fX10_begins_183  c11
noncomputable def qa_fX10_begins_144  (k77 : Int32 → Int32 → qa_T → Option qa_T) (x2 : Int32) (y0 : Int32) (σ : qa_T) : Option qa_T :=
    let v20 : Int32 := x2 + Int32.ofInt 1
    k77 y0 v20 σ
noncomputable def qa_fX10_begins_77  : Nat → Int32 → Int32 → qa_T → Option qa_T
  | 0, _, _, _ => none
  | n + 1, x1, x2, σ =>
    if (σ.1 (10, 22) (((Int16.ofInt 164).toInt32)).toNatClampNeg) < x2 then
      qa_fX10_begins_151  x1 σ
    else
      if (σ.1 (10, 22) (((Int8.ofInt 113).toInt32)).toNatClampNeg) ≤ 0 then
        qa_fX10_begins_151  x1 σ
      else
        if ¬ x1 = (Int32.ofInt (-1)) then
          qa_fX10_begins_151  x1 σ
        else
          if ¬ qa_in (((Int8.ofInt 114).toInt32) + (((σ.1 (10, 22) (((Int16.ofInt 138).toInt32)).toNatClampNeg) + x2) - ((σ.1 (10, 22) (((Int16.ofInt 138).toInt32)).toNatClampNeg) + x2) / (σ.1 (10, 22) (((Int8.ofInt 113).toInt32)).toNatClampNeg) * (σ.1 (10, 22) (((Int8.ofInt 113).toInt32)).toNatClampNeg))) 176 = true then none else
          let v16 : Int32 := (σ.1 (10, 22) ((((Int8.ofInt 114).toInt32) + (((σ.1 (10, 22) (((Int16.ofInt 138).toInt32)).toNatClampNeg) + x2) - ((σ.1 (10, 22) (((Int16.ofInt 138).toInt32)).toNatClampNeg) + x2) / (σ.1 (10, 22) (((Int8.ofInt 113).toInt32)).toNatClampNeg) * (σ.1 (10, 22) (((Int8.ofInt 113).toInt32)).toNatClampNeg)))).toNatClampNeg)
          (qa_fX10_loaded v16 σ).bind fun c17 =>
          if (qa_bi c17) = 0 then
            qa_fX10_begins_144  (qa_fX10_begins_77  n) x2 v16 σ
          else
            qa_fX10_begins_144  (qa_fX10_begins_77  n) x2 (Int32.ofInt (-1)) σ
noncomputable def qa_fX10_begins  (σ : qa_T) : Option qa_T :=
    if (σ.1 (10, 22) (((Int16.ofInt 144).toInt32)).toNatClampNeg) = (Int32.ofInt (-1)) then
      if (σ.1 (10, 22) (((Int16.ofInt 142).toInt32)).toNatClampNeg) = (Int32.ofInt (-1)) then
        if (σ.1 (10, 22) (((Int16.ofInt 146).toInt32)).toNatClampNeg) ≤ 0 then
          qa_fX10_begins_77  qa_fu (Int32.ofInt (-1)) (Int32.ofInt 1) σ
        else
          let v21 : Int32 := (σ.1 (10, 22) (((Int16.ofInt 147).toInt32)).toNatClampNeg)
          (qa_fX10_forgets v21 σ).bind fun c22 =>
          (qa_fX10_starts v21 c22).bind fun c24 =>
          qa_fX10_begins_183  c24
      else
        (qa_fX10_starts (σ.1 (10, 22) (((Int16.ofInt 142).toInt32)).toNatClampNeg) σ).bind fun c26 =>
        qa_fX10_begins_183  c26
    else
      some σ
noncomputable def qa_fX10_uses (a1 : Int32) (σ : qa_T) : Option qa_T :=
    let σ1 := qa_wi σ (10, 22) (((Int16.ofInt 175).toInt32)).toNatClampNeg ((σ.1 (10, 22) (((Int16.ofInt 175).toInt32)).toNatClampNeg) + (Int32.ofInt 1))
    (qa_fX10_lay a1 ((Int8.ofInt 6).toInt32) (σ1.1 (10, 22) (((Int16.ofInt 175).toInt32)).toNatClampNeg) σ1).bind fun c2 =>
    some c2
noncomputable def qa_fX10_shows_69 (a1 : Int32) (σ : qa_T) : Option qa_T :=
    let σ2 := qa_wi σ (10, 22) (((Int16.ofInt 139).toInt32)).toNatClampNeg a1
    let σ3 := qa_wi σ2 (10, 22) (((Int16.ofInt 143).toInt32)).toNatClampNeg (Int32.ofInt 0)
    let σ4 := qa_wi σ3 (10, 22) (((Int16.ofInt 142).toInt32)).toNatClampNeg (Int32.ofInt (-1))
    (qa_fX10_uses a1 σ4).bind fun c5 =>
    let σ7 := qa_wi c5 (10, 21) 10 ((c5.1 (10, 21) 10) + (Int32.ofInt 1))
    some σ7
noncomputable def qa_fX10_shows_68 (a1 : Int32) (y0 : Int32) (y1 : Int32) (σ : qa_T) : Option qa_T :=
    if ¬ qa_in y1 176 = true then none else
    let σ14 := qa_wi σ (10, 22) (y1).toNatClampNeg y0
    qa_fX10_shows_69 a1 σ14
noncomputable def qa_fX10_shows (a1 : Int32) (σ : qa_T) : Option qa_T :=
    if (σ.1 (10, 22) (((Int16.ofInt 139).toInt32)).toNatClampNeg) = (Int32.ofInt (-1)) then
      qa_fX10_shows_69 a1 σ
    else
      if (σ.1 (10, 22) (((Int16.ofInt 139).toInt32)).toNatClampNeg) = a1 then
        qa_fX10_shows_69 a1 σ
      else
        (qa_fX10_of a1 (Int32.ofInt 2) σ).bind fun c9 =>
        let σ11 := qa_wi σ (10, 22) (((Int16.ofInt 141).toInt32)).toNatClampNeg c9
        if (σ11.1 (10, 22) (((Int16.ofInt 141).toInt32)).toNatClampNeg) ≤ 0 then
          qa_fX10_shows_68 a1 (Int32.ofInt (-1)) ((Int16.ofInt 140).toInt32) σ11
        else
          qa_fX10_shows_68 a1 (σ11.1 (10, 22) (((Int16.ofInt 139).toInt32)).toNatClampNeg) ((Int16.ofInt 140).toInt32) σ11
noncomputable def qa_fX10_goesOn_99  (x2 : Int32) (σ : qa_T) : Option (Bool × qa_T) :=
    if x2 = 0 then some (false, σ) else if x2 = 1 then some (true, σ) else none
noncomputable def qa_fX10_goesOn  (σ : qa_T) : Option (Bool × qa_T) :=
    if (σ.1 (10, 22) (((Int8.ofInt 113).toInt32)).toNatClampNeg) = 0 then none else
    let σ2 := qa_wi σ (10, 22) (((Int16.ofInt 138).toInt32)).toNatClampNeg (((σ.1 (10, 22) (((Int16.ofInt 138).toInt32)).toNatClampNeg) + (Int32.ofInt 1)) - ((σ.1 (10, 22) (((Int16.ofInt 138).toInt32)).toNatClampNeg) + (Int32.ofInt 1)) / (σ.1 (10, 22) (((Int8.ofInt 113).toInt32)).toNatClampNeg) * (σ.1 (10, 22) (((Int8.ofInt 113).toInt32)).toNatClampNeg))
    if ¬ qa_in (((Int8.ofInt 114).toInt32) + (σ2.1 (10, 22) (((Int16.ofInt 138).toInt32)).toNatClampNeg)) 176 = true then none else
    let v4 : Int32 := (σ2.1 (10, 22) ((((Int8.ofInt 114).toInt32) + (σ2.1 (10, 22) (((Int16.ofInt 138).toInt32)).toNatClampNeg))).toNatClampNeg)
    (qa_fX10_loaded v4 σ2).bind fun c5 =>
    let v7 : Int32 := (qa_bi c5)
    if v7 = 0 then
      let σ9 := qa_wi σ2 (10, 22) (((Int16.ofInt 170).toInt32)).toNatClampNeg ((σ2.1 (10, 22) (((Int16.ofInt 170).toInt32)).toNatClampNeg) + (Int32.ofInt 1))
      let σ10 := qa_wi σ9 (10, 22) (((Int16.ofInt 142).toInt32)).toNatClampNeg v4
      (qa_fX10_forgets v4 σ10).bind fun c11 =>
      qa_fX10_goesOn_99  v7 c11
    else
      let σ14 := qa_wi σ2 (10, 22) (((Int16.ofInt 169).toInt32)).toNatClampNeg ((σ2.1 (10, 22) (((Int16.ofInt 169).toInt32)).toNatClampNeg) + (Int32.ofInt 1))
      (qa_fX10_shows v4 σ14).bind fun c15 =>
      qa_fX10_goesOn_99  v7 c15
noncomputable def qa_fX10_ticks_322  (σ : qa_T) : Option qa_T :=
    (qa_fX10_begins σ).bind fun c17 =>
    some c17
noncomputable def qa_fX10_ticks_253  (σ : qa_T) : Option qa_T :=
    if ¬ (σ.1 (10, 22) (((Int16.ofInt 142).toInt32)).toNatClampNeg) = (Int32.ofInt (-1)) then
      qa_fX10_ticks_322  σ
    else
      if (σ.1 (10, 22) (((Int16.ofInt 139).toInt32)).toNatClampNeg) = (Int32.ofInt (-1)) then
        qa_fX10_ticks_322  σ
      else
        if (σ.1 (10, 22) (((Int16.ofInt 167).toInt32)).toNatClampNeg) ≤ 0 then
          qa_fX10_ticks_322  σ
        else
          if (σ.1 (10, 22) (((Int16.ofInt 143).toInt32)).toNatClampNeg) < (σ.1 (10, 22) (((Int16.ofInt 167).toInt32)).toNatClampNeg) then
            qa_fX10_ticks_322  σ
          else
            if (σ.1 (10, 22) (((Int8.ofInt 113).toInt32)).toNatClampNeg) ≤ 0 then
              qa_fX10_ticks_322  σ
            else
              (qa_fX10_goesOn σ).bind fun c23 =>
              let v25 : Int32 := (qa_bi c23.1)
              qa_fX10_ticks_322  c23.2
noncomputable def qa_fX10_ticks_170  (y0 : Int32) (y1 : Int32) (σ : qa_T) : Option qa_T :=
    if ¬ qa_in y1 176 = true then none else
    let σ14 := qa_wi σ (10, 22) (y1).toNatClampNeg y0
    if (σ14.1 (10, 22) (((Int16.ofInt 144).toInt32)).toNatClampNeg) = (Int32.ofInt (-1)) then
      qa_fX10_ticks_253  σ14
    else
      let σ26 := qa_wi σ14 (10, 22) (((Int16.ofInt 145).toInt32)).toNatClampNeg ((σ14.1 (10, 22) (((Int16.ofInt 145).toInt32)).toNatClampNeg) - (Int32.ofInt 1))
      if ¬ (σ26.1 (10, 22) (((Int16.ofInt 145).toInt32)).toNatClampNeg) = 0 then
        qa_fX10_ticks_253  σ26
      else
        let v28 : Int32 := (σ26.1 (10, 22) (((Int16.ofInt 144).toInt32)).toNatClampNeg)
        let σ29 := qa_wi σ26 (10, 22) (((Int16.ofInt 144).toInt32)).toNatClampNeg (Int32.ofInt (-1))
        (qa_fX10_lay v28 (Int32.ofInt 3) (Int32.ofInt 1) σ29).bind fun c30 =>
        (qa_fX10_uses v28 c30).bind fun c32 =>
        if ¬ (c32.1 (10, 22) (((Int16.ofInt 142).toInt32)).toNatClampNeg) = v28 then
          qa_fX10_ticks_253  c32
        else
          (qa_fX10_shows v28 c32).bind fun c35 =>
          qa_fX10_ticks_253  c35
noncomputable def qa_fX10_ticks_138  (y0 : Int32) (y1 : Int32) (y2 : Int32) (σ : qa_T) : Option qa_T :=
    if ¬ qa_in y2 176 = true then none else
    let σ11 := qa_wi σ (10, 22) (y2).toNatClampNeg (y1 - y0)
    if (σ11.1 (10, 22) (((Int16.ofInt 141).toInt32)).toNatClampNeg) ≤ 0 then
      qa_fX10_ticks_170  (Int32.ofInt (-1)) ((Int16.ofInt 140).toInt32) σ11
    else
      qa_fX10_ticks_170  (σ11.1 (10, 22) (((Int16.ofInt 140).toInt32)).toNatClampNeg) ((Int16.ofInt 140).toInt32) σ11
noncomputable def qa_fX10_ticks_104  (k70 : Int32 → qa_T → Option qa_T) (x1 : Int32) (y0 : Int32) (y1 : Int32) (y2 : Int32) (σ : qa_T) : Option qa_T :=
    (qa_fX10_lay y2 y1 y0 σ).bind fun c40 =>
    let v42 : Int32 := x1 + Int32.ofInt 1
    k70 v42 c40
noncomputable def qa_fX10_ticks_70  : Nat → Int32 → qa_T → Option qa_T
  | 0, _, _ => none
  | n + 1, x1, σ =>
    if (σ.1 (10, 22) ((Int32.ofInt 0)).toNatClampNeg) ≤ x1 then
      if (σ.1 (10, 22) (((Int16.ofInt 141).toInt32)).toNatClampNeg) ≤ 0 then
        qa_fX10_ticks_138  (Int32.ofInt 0) (σ.1 (10, 22) (((Int16.ofInt 141).toInt32)).toNatClampNeg) ((Int16.ofInt 141).toInt32) σ
      else
        qa_fX10_ticks_138  (Int32.ofInt 1) (σ.1 (10, 22) (((Int16.ofInt 141).toInt32)).toNatClampNeg) ((Int16.ofInt 141).toInt32) σ
    else
      (qa_fX10_of x1 (Int32.ofInt 4) σ).bind fun c37 =>
      if c37 ≤ 0 then
        qa_fX10_ticks_104  (qa_fX10_ticks_70  n) x1 (Int32.ofInt 0) (Int32.ofInt 4) x1 σ
      else
        (qa_fX10_of x1 (Int32.ofInt 4) σ).bind fun c43 =>
        qa_fX10_ticks_104  (qa_fX10_ticks_70  n) x1 (c43 - (Int32.ofInt 1)) (Int32.ofInt 4) x1 σ
noncomputable def qa_fX10_ticks_66  (y0 : Int32) (y1 : Int32) (y2 : Int32) (σ : qa_T) : Option qa_T :=
    if ¬ qa_in y2 176 = true then none else
    let σ7 := qa_wi σ (10, 22) (y2).toNatClampNeg (y1 + y0)
    qa_fX10_ticks_70  qa_fu (Int32.ofInt 0) σ7
noncomputable def qa_fX10_ticks_38  (y0 : Int32) (y1 : Int32) (y2 : Int32) (σ : qa_T) : Option qa_T :=
    if ¬ qa_in y2 176 = true then none else
    let σ4 := qa_wi σ (10, 22) (y2).toNatClampNeg (y1 + y0)
    if (σ4.1 (10, 22) (((Int16.ofInt 139).toInt32)).toNatClampNeg) = (Int32.ofInt (-1)) then
      qa_fX10_ticks_66  (Int32.ofInt 0) (σ4.1 (10, 22) (((Int16.ofInt 143).toInt32)).toNatClampNeg) ((Int16.ofInt 143).toInt32) σ4
    else
      qa_fX10_ticks_66  (Int32.ofInt 1) (σ4.1 (10, 22) (((Int16.ofInt 143).toInt32)).toNatClampNeg) ((Int16.ofInt 143).toInt32) σ4
noncomputable def qa_fX10_ticks  (σ : qa_T) : Option qa_T :=
    let σ1 := qa_wi σ (10, 22) (((Int16.ofInt 168).toInt32)).toNatClampNeg ((σ.1 (10, 22) (((Int16.ofInt 168).toInt32)).toNatClampNeg) + (Int32.ofInt 1))
    if (σ1.1 (10, 22) (((Int16.ofInt 142).toInt32)).toNatClampNeg) = (Int32.ofInt (-1)) then
      qa_fX10_ticks_38  (Int32.ofInt 0) (σ1.1 (10, 22) (((Int16.ofInt 174).toInt32)).toNatClampNeg) ((Int16.ofInt 174).toInt32) σ1
    else
      qa_fX10_ticks_38  (Int32.ofInt 1) (σ1.1 (10, 22) (((Int16.ofInt 174).toInt32)).toNatClampNeg) ((Int16.ofInt 174).toInt32) σ1
noncomputable def qa_fX10_inserts_98 (a1 : Int32) (a2 : Int32) (y0 : Int32) (y1 : Int32) (y2 : Int32) (σ : qa_T) : Option (Int32 × qa_T) :=
    if ¬ qa_in y2 176 = true then none else
    let σ8 := qa_wi σ (10, 22) (y2).toNatClampNeg (y1 + y0)
    (qa_fX10_begins σ8).bind fun c9 =>
    some ((c9.1 (10, 22) (((Int8.ofInt 113).toInt32)).toNatClampNeg), c9)
noncomputable def qa_fX10_inserts_97 (a1 : Int32) (a2 : Int32) (y0 : Int32) (y1 : Int32) (σ : qa_T) : Option (Int32 × qa_T) :=
    qa_fX10_inserts_98 a1 a2 (Int32.ofInt 0) y0 y1 σ
noncomputable def qa_fX10_inserts_8 (a1 : Int32) (a2 : Int32) : Nat → Int32 → qa_T → Option (Int32 × qa_T)
  | 0, _, _ => none
  | n + 1, x3, σ =>
    if x3 ≤ a1 then
      if ¬ qa_in (((Int8.ofInt 114).toInt32) + a1) 176 = true then none else
      let σ4 := qa_wi σ (10, 22) ((((Int8.ofInt 114).toInt32) + a1)).toNatClampNeg a2
      let σ5 := qa_wi σ4 (10, 22) (((Int8.ofInt 113).toInt32)).toNatClampNeg ((σ4.1 (10, 22) (((Int8.ofInt 113).toInt32)).toNatClampNeg) + (Int32.ofInt 1))
      if (σ5.1 (10, 22) (((Int16.ofInt 138).toInt32)).toNatClampNeg) = (Int32.ofInt (-1)) then
        qa_fX10_inserts_97 a1 a2 (σ5.1 (10, 22) (((Int16.ofInt 138).toInt32)).toNatClampNeg) ((Int16.ofInt 138).toInt32) σ5
      else
        if (σ5.1 (10, 22) (((Int16.ofInt 138).toInt32)).toNatClampNeg) < a1 then
          qa_fX10_inserts_97 a1 a2 (σ5.1 (10, 22) (((Int16.ofInt 138).toInt32)).toNatClampNeg) ((Int16.ofInt 138).toInt32) σ5
        else
          qa_fX10_inserts_98 a1 a2 (Int32.ofInt 1) (σ5.1 (10, 22) (((Int16.ofInt 138).toInt32)).toNatClampNeg) ((Int16.ofInt 138).toInt32) σ5
    else
      if ¬ qa_in ((((Int8.ofInt 114).toInt32) + x3) - (Int32.ofInt 1)) 176 = true then none else
      if ¬ qa_in (((Int8.ofInt 114).toInt32) + x3) 176 = true then none else
      let σ14 := qa_wi σ (10, 22) ((((Int8.ofInt 114).toInt32) + x3)).toNatClampNeg (σ.1 (10, 22) (((((Int8.ofInt 114).toInt32) + x3) - (Int32.ofInt 1))).toNatClampNeg)
      let v15 : Int32 := x3 + Int32.ofInt (-1)
      qa_fX10_inserts_8 a1 a2 n v15 σ14
noncomputable def qa_fX10_inserts (a1 : Int32) (a2 : Int32) (σ : qa_T) : Option (Int32 × qa_T) :=
    let v1 : Int32 := (σ.1 (10, 22) (((Int8.ofInt 113).toInt32)).toNatClampNeg)
    qa_fX10_inserts_8 a1 a2 qa_fu v1 σ
noncomputable def qa_fX10_canGoOn_26  (σ : qa_T) : Bool :=
    false
noncomputable def qa_fX10_canGoOn  (σ : qa_T) : Bool :=
    if (σ.1 (10, 22) (((Int8.ofInt 113).toInt32)).toNatClampNeg) ≤ 0 then
      qa_fX10_canGoOn_26  σ
    else
      if ¬ (σ.1 (10, 22) (((Int16.ofInt 142).toInt32)).toNatClampNeg) = (Int32.ofInt (-1)) then
        qa_fX10_canGoOn_26  σ
      else
        true
noncomputable def qa_fX10_isAsked_55 (a1 : Int32) (k20 : Int32 → Int32 → qa_T → Option Bool) (x3 : Int32) (y0 : Int32) (σ : qa_T) : Option Bool :=
    let v5 : Int32 := x3 + Int32.ofInt 1
    k20 y0 v5 σ
noncomputable def qa_fX10_isAsked_50 (a1 : Int32) (k20 : Int32 → Int32 → qa_T → Option Bool) (x3 : Int32) (σ : qa_T) : Option Bool :=
    qa_fX10_isAsked_55 a1 k20 x3 (Int32.ofInt 1) σ
noncomputable def qa_fX10_isAsked_20 (a1 : Int32) : Nat → Int32 → Int32 → qa_T → Option Bool
  | 0, _, _, _ => none
  | n + 1, x2, x3, σ =>
    if (σ.1 (10, 22) (((Int16.ofInt 146).toInt32)).toNatClampNeg) ≤ x3 then
      if x2 = 0 then some false else if x2 = 1 then some true else none
    else
      if ¬ x2 = 0 then
        qa_fX10_isAsked_50 a1 (qa_fX10_isAsked_20 a1 n) x3 σ
      else
        if ¬ qa_in (((Int16.ofInt 147).toInt32) + x3) 176 = true then none else
        if ¬ (σ.1 (10, 22) ((((Int16.ofInt 147).toInt32) + x3)).toNatClampNeg) = a1 then
          qa_fX10_isAsked_55 a1 (qa_fX10_isAsked_20 a1 n) x3 (Int32.ofInt 0) σ
        else
          qa_fX10_isAsked_50 a1 (qa_fX10_isAsked_20 a1 n) x3 σ
noncomputable def qa_fX10_isAsked_17 (a1 : Int32) (y0 : Int32) (σ : qa_T) : Option Bool :=
    qa_fX10_isAsked_20 a1 qa_fu y0 (Int32.ofInt 0) σ
noncomputable def qa_fX10_isAsked (a1 : Int32) (σ : qa_T) : Option Bool :=
    if ¬ a1 = (σ.1 (10, 22) (((Int16.ofInt 142).toInt32)).toNatClampNeg) then
      qa_fX10_isAsked_17 a1 (Int32.ofInt 0) σ
    else
      qa_fX10_isAsked_17 a1 (Int32.ofInt 1) σ
noncomputable def qa_fX10_canAsk_32 (a1 : Int32) (σ : qa_T) : Option Bool :=
    some false
noncomputable def qa_fX10_canAsk (a1 : Int32) (σ : qa_T) : Option Bool :=
    (qa_fX10_loaded a1 σ).bind fun c1 =>
    if ¬ (qa_bi c1) = 0 then
      qa_fX10_canAsk_32 a1 σ
    else
      if (σ.1 (10, 22) (((Int16.ofInt 144).toInt32)).toNatClampNeg) = a1 then
        qa_fX10_canAsk_32 a1 σ
      else
        (qa_fX10_isAsked a1 σ).bind fun c5 =>
        if ¬ (qa_bi c5) = 0 then
          qa_fX10_canAsk_32 a1 σ
        else
          some true
noncomputable def qa_fX10_asks (a1 : Int32) (σ : qa_T) : Option (Int32 × qa_T) :=
    if ¬ qa_in (((Int16.ofInt 147).toInt32) + (σ.1 (10, 22) (((Int16.ofInt 146).toInt32)).toNatClampNeg)) 176 = true then none else
    let σ2 := qa_wi σ (10, 22) ((((Int16.ofInt 147).toInt32) + (σ.1 (10, 22) (((Int16.ofInt 146).toInt32)).toNatClampNeg))).toNatClampNeg a1
    let σ3 := qa_wi σ2 (10, 22) (((Int16.ofInt 146).toInt32)).toNatClampNeg ((σ2.1 (10, 22) (((Int16.ofInt 146).toInt32)).toNatClampNeg) + (Int32.ofInt 1))
    (qa_fX10_begins σ3).bind fun c4 =>
    some ((c4.1 (10, 22) (((Int16.ofInt 146).toInt32)).toNatClampNeg), c4)
noncomputable def qa_fX10_passes_7 (a1 : Int32) : Nat → Int32 → qa_T → Option (Int32 × qa_T)
  | 0, _, _ => none
  | n + 1, x2, σ =>
    if a1 ≤ x2 then
      some ((σ.1 (10, 21) 10), σ)
    else
      (qa_fX10_ticks σ).bind fun c3 =>
      let v5 : Int32 := x2 + Int32.ofInt 1
      qa_fX10_passes_7 a1 n v5 c3
noncomputable def qa_fX10_passes (a1 : Int32) (σ : qa_T) : Option (Int32 × qa_T) :=
    let σ1 := qa_wi σ (10, 21) 10 (Int32.ofInt 0)
    qa_fX10_passes_7 a1 qa_fu (Int32.ofInt 0) σ1
noncomputable def qa_fX10_addSlide_35 (a1 : Int32) (a2 : Int32) (a3 : Int32) (σ : qa_T) : Option (Int32 × qa_T) :=
    let c3 := qa_fX10_throwing (Int32.ofInt 1) σ
    some (c3.1, c3.2)
noncomputable def qa_fX10_addSlide (a1 : Int32) (a2 : Int32) (a3 : Int32) (σ : qa_T) : Option (Int32 × qa_T) :=
    let σ1 := qa_wi σ (10, 21) 9 (Int32.ofInt 0)
    if (qa_bi (qa_fX10_in a1 (Int32.ofInt 1) ((Int8.ofInt 50).toInt32) σ1)) = 0 then
      qa_fX10_addSlide_35 a1 a2 a3 σ1
    else
      if (qa_bi (qa_fX10_in a2 (Int32.ofInt 1) ((Int8.ofInt 20).toInt32) σ1)) = 0 then
        qa_fX10_addSlide_35 a1 a2 a3 σ1
      else
        if ¬ (qa_bi (qa_fX10_in a3 (Int32.ofInt 0) ((Int8.ofInt 10).toInt32) σ1)) = 0 then
          if ¬ (σ1.1 (10, 22) ((Int32.ofInt 0)).toNatClampNeg) = ((Int8.ofInt 16).toInt32) then
            (qa_fX10_save σ1).bind fun c7 =>
            let v9 : Int32 := (c7.1 (10, 22) ((Int32.ofInt 0)).toNatClampNeg)
            let σ10 := qa_wi c7 (10, 22) ((Int32.ofInt 0)).toNatClampNeg ((c7.1 (10, 22) ((Int32.ofInt 0)).toNatClampNeg) + (Int32.ofInt 1))
            (qa_fX10_lay v9 (Int32.ofInt 0) a1 σ10).bind fun c11 =>
            (qa_fX10_lay v9 (Int32.ofInt 1) a2 c11).bind fun c13 =>
            (qa_fX10_lay v9 (Int32.ofInt 2) a3 c13).bind fun c15 =>
            some (v9, c15)
          else
            let c17 := qa_fX10_throwing (Int32.ofInt 2) σ1
            some (c17.1, c17.2)
        else
          qa_fX10_addSlide_35 a1 a2 a3 σ1
noncomputable def qa_fX10_insert_23 (a1 : Int32) (a2 : Int32) (σ : qa_T) : Option (Int32 × qa_T) :=
    let c3 := qa_fX10_throwing (Int32.ofInt 1) σ
    some (c3.1, c3.2)
noncomputable def qa_fX10_insert (a1 : Int32) (a2 : Int32) (σ : qa_T) : Option (Int32 × qa_T) :=
    let c1 := qa_fX10_isThere a2 σ
    if (qa_bi c1.1) = 0 then
      qa_fX10_insert_23 a1 a2 c1.2
    else
      if ¬ (qa_bi (qa_fX10_in a1 (Int32.ofInt 0) (c1.2.1 (10, 22) (((Int8.ofInt 113).toInt32)).toNatClampNeg) c1.2)) = 0 then
        if ¬ (c1.2.1 (10, 22) (((Int8.ofInt 113).toInt32)).toNatClampNeg) = ((Int8.ofInt 24).toInt32) then
          (qa_fX10_save c1.2).bind fun c6 =>
          (qa_fX10_inserts a1 a2 c6).bind fun c8 =>
          some (c8.1, c8.2)
        else
          let c10 := qa_fX10_throwing (Int32.ofInt 2) c1.2
          some (c10.1, c10.2)
      else
        qa_fX10_insert_23 a1 a2 c1.2
noncomputable def qa_fX10_takeOut_146 (a1 : Int32) (x2 : Int32) (y0 : Int32) (y1 : Int32) (y2 : Int32) (σ : qa_T) : Option (Int32 × qa_T) :=
    if ¬ qa_in y2 176 = true then none else
    let σ13 := qa_wi σ (10, 22) (y2).toNatClampNeg (y1 - y0)
    (qa_fX10_begins σ13).bind fun c14 =>
    some (x2, c14)
noncomputable def qa_fX10_takeOut_145 (a1 : Int32) (x2 : Int32) (y0 : Int32) (y1 : Int32) (σ : qa_T) : Option (Int32 × qa_T) :=
    qa_fX10_takeOut_146 a1 x2 (Int32.ofInt 0) y0 y1 σ
noncomputable def qa_fX10_takeOut_55 (a1 : Int32) : Nat → Int32 → Int32 → qa_T → Option (Int32 × qa_T)
  | 0, _, _, _ => none
  | n + 1, x2, x3, σ =>
    if (σ.1 (10, 22) (((Int8.ofInt 113).toInt32)).toNatClampNeg) ≤ x3 then
      if ¬ qa_in (((Int8.ofInt 114).toInt32) + (σ.1 (10, 22) (((Int8.ofInt 113).toInt32)).toNatClampNeg)) 176 = true then none else
      let σ10 := qa_wi σ (10, 22) ((((Int8.ofInt 114).toInt32) + (σ.1 (10, 22) (((Int8.ofInt 113).toInt32)).toNatClampNeg))).toNatClampNeg (Int32.ofInt 0)
      if (σ10.1 (10, 22) (((Int16.ofInt 138).toInt32)).toNatClampNeg) = (Int32.ofInt (-1)) then
        qa_fX10_takeOut_145 a1 x2 (σ10.1 (10, 22) (((Int16.ofInt 138).toInt32)).toNatClampNeg) ((Int16.ofInt 138).toInt32) σ10
      else
        if (σ10.1 (10, 22) (((Int16.ofInt 138).toInt32)).toNatClampNeg) < a1 then
          qa_fX10_takeOut_145 a1 x2 (σ10.1 (10, 22) (((Int16.ofInt 138).toInt32)).toNatClampNeg) ((Int16.ofInt 138).toInt32) σ10
        else
          qa_fX10_takeOut_146 a1 x2 (Int32.ofInt 1) (σ10.1 (10, 22) (((Int16.ofInt 138).toInt32)).toNatClampNeg) ((Int16.ofInt 138).toInt32) σ10
    else
      if ¬ qa_in ((((Int8.ofInt 114).toInt32) + x3) + (Int32.ofInt 1)) 176 = true then none else
      if ¬ qa_in (((Int8.ofInt 114).toInt32) + x3) 176 = true then none else
      let σ19 := qa_wi σ (10, 22) ((((Int8.ofInt 114).toInt32) + x3)).toNatClampNeg (σ.1 (10, 22) (((((Int8.ofInt 114).toInt32) + x3) + (Int32.ofInt 1))).toNatClampNeg)
      let v20 : Int32 := x3 + Int32.ofInt 1
      qa_fX10_takeOut_55 a1 n x2 v20 σ19
noncomputable def qa_fX10_takeOut (a1 : Int32) (σ : qa_T) : Option (Int32 × qa_T) :=
    let σ1 := qa_wi σ (10, 21) 9 (Int32.ofInt 0)
    if ¬ (qa_bi (qa_fX10_in a1 (Int32.ofInt 0) ((σ1.1 (10, 22) (((Int8.ofInt 113).toInt32)).toNatClampNeg) - (Int32.ofInt 1)) σ1)) = 0 then
      (qa_fX10_save σ1).bind fun c3 =>
      if ¬ qa_in (((Int8.ofInt 114).toInt32) + a1) 176 = true then none else
      let v6 : Int32 := (c3.1 (10, 22) ((((Int8.ofInt 114).toInt32) + a1)).toNatClampNeg)
      let σ7 := qa_wi c3 (10, 22) (((Int8.ofInt 113).toInt32)).toNatClampNeg ((c3.1 (10, 22) (((Int8.ofInt 113).toInt32)).toNatClampNeg) - (Int32.ofInt 1))
      qa_fX10_takeOut_55 a1 qa_fu v6 a1 σ7
    else
      let c21 := qa_fX10_throwing (Int32.ofInt 1) σ1
      some (c21.1, c21.2)
noncomputable def qa_fX10_goOn_13  (y0 : Int32) (σ : qa_T) : Option (Bool × qa_T) :=
    let σ2 := qa_wi σ (10, 21) 9 y0
    if (σ2.1 (10, 21) 9) ≤ 0 then
      (qa_fX10_save σ2).bind fun c4 =>
      (qa_fX10_goesOn c4).bind fun c6 =>
      let v8 : Int32 := (qa_bi c6.1)
      (qa_fX10_begins c6.2).bind fun c9 =>
      some (c6.1, c9)
    else
      some (false, σ2)
noncomputable def qa_fX10_goOn  (σ : qa_T) : Option (Bool × qa_T) :=
    if (qa_bi (qa_fX10_canGoOn σ)) = 0 then
      qa_fX10_goOn_13  (Int32.ofInt 1) σ
    else
      qa_fX10_goOn_13  (Int32.ofInt 0) σ
noncomputable def qa_fX10_ask (a1 : Int32) (σ : qa_T) : Option (Int32 × qa_T) :=
    let c1 := qa_fX10_isThere a1 σ
    if ¬ (qa_bi c1.1) = 0 then
      (qa_fX10_canAsk a1 c1.2).bind fun c3 =>
      if ¬ (qa_bi c3) = 0 then
        (qa_fX10_save c1.2).bind fun c6 =>
        (qa_fX10_asks a1 c6).bind fun c8 =>
        some (c8.1, c8.2)
      else
        let c10 := qa_fX10_throwing (Int32.ofInt 2) c1.2
        some (c10.1, c10.2)
    else
      some ((Int32.ofInt 0), c1.2)
noncomputable def qa_fX10_burn (a1 : Int32) (σ : qa_T) : Option (Int32 × qa_T) :=
    let c1 := qa_fX10_isThere a1 σ
    if ¬ (qa_bi c1.1) = 0 then
      (qa_fX10_canBurn a1 c1.2).bind fun c3 =>
      if ¬ (qa_bi c3) = 0 then
        (qa_fX10_save c1.2).bind fun c6 =>
        (qa_fX10_burns a1 c6).bind fun c8 =>
        (qa_fX10_begins c8.2).bind fun c10 =>
        some (c8.1, c10)
      else
        let c12 := qa_fX10_throwing (Int32.ofInt 2) c1.2
        some (c12.1, c12.2)
    else
      some ((Int32.ofInt 0), c1.2)
noncomputable def qa_fX10_tick (a1 : Int32) (σ : qa_T) : Option (Int32 × qa_T) :=
    let σ1 := qa_wi σ (10, 21) 9 (Int32.ofInt 0)
    if ¬ (qa_bi (qa_fX10_in a1 (Int32.ofInt 1) ((Int8.ofInt 100).toInt32) σ1)) = 0 then
      (qa_fX10_save σ1).bind fun c3 =>
      (qa_fX10_passes a1 c3).bind fun c5 =>
      some (c5.1, c5.2)
    else
      let c7 := qa_fX10_throwing (Int32.ofInt 1) σ1
      some (c7.1, c7.2)
noncomputable def qa_fX10_changes (a1 : Int32) (a2 : Int32) (a3 : Int32) (a4 : Int32) (σ : qa_T) : Option (Int32 × qa_T) :=
    let σ1 := qa_wi σ (10, 21) 9 (Int32.ofInt 0)
    if ¬ (qa_bi (qa_fX10_in a2 a3 a4 σ1)) = 0 then
      (qa_fX10_save σ1).bind fun c3 =>
      if ¬ qa_in a1 176 = true then none else
      let v6 : Int32 := (c3.1 (10, 22) (a1).toNatClampNeg)
      if ¬ qa_in a1 176 = true then none else
      let σ8 := qa_wi c3 (10, 22) (a1).toNatClampNeg a2
      (qa_fX10_makesRoom (Int32.ofInt 0) σ8).bind fun c9 =>
      (qa_fX10_begins c9.2).bind fun c11 =>
      some (v6, c11)
    else
      let c13 := qa_fX10_throwing (Int32.ofInt 1) σ1
      some (c13.1, c13.2)
noncomputable def qa_fX10_changeMemory (a1 : Int32) (σ : qa_T) : Option (Int32 × qa_T) :=
    (qa_fX10_changes ((Int16.ofInt 163).toInt32) a1 ((Int16.ofInt 150).toInt32) ((Int16.ofInt 400).toInt32) σ).bind fun c1 =>
    some (c1.1, c1.2)
noncomputable def qa_fX10_changeAhead (a1 : Int32) (σ : qa_T) : Option (Int32 × qa_T) :=
    (qa_fX10_changes ((Int16.ofInt 164).toInt32) a1 (Int32.ofInt 0) (Int32.ofInt 4) σ).bind fun c1 =>
    some (c1.1, c1.2)
noncomputable def qa_fX10_changeOrder (a1 : Int32) (σ : qa_T) : Option (Int32 × qa_T) :=
    (qa_fX10_changes ((Int16.ofInt 165).toInt32) a1 (Int32.ofInt 0) (Int32.ofInt 2) σ).bind fun c1 =>
    some (c1.1, c1.2)
noncomputable def qa_fX10_changeGlow (a1 : Int32) (σ : qa_T) : Option (Int32 × qa_T) :=
    (qa_fX10_changes ((Int16.ofInt 166).toInt32) a1 (Int32.ofInt 0) ((Int8.ofInt 20).toInt32) σ).bind fun c1 =>
    some (c1.1, c1.2)
noncomputable def qa_fX10_changePace (a1 : Int32) (σ : qa_T) : Option (Int32 × qa_T) :=
    (qa_fX10_changes ((Int16.ofInt 167).toInt32) a1 (Int32.ofInt 0) ((Int8.ofInt 50).toInt32) σ).bind fun c1 =>
    some (c1.1, c1.2)
noncomputable def qa_fX10_append (a1 : Int32) (σ : qa_T) : Option (Int32 × qa_T) :=
    let σ1 := qa_wi σ (10, 21) 9 (Int32.ofInt 0)
    if ¬ (qa_bi (qa_fX10_in a1 ((Int8.ofInt 33).toInt32) ((Int8.ofInt 126).toInt32) σ1)) = 0 then
      if ¬ (σ1.1 (10, 21) 8) = ((Int8.ofInt 60).toInt32) then
        if ¬ qa_in (σ1.1 (10, 21) 8) 60 = true then none else
        let σ5 := qa_wi σ1 (10, 28) ((σ1.1 (10, 21) 8)).toNatClampNeg a1
        let σ6 := qa_wi σ5 (10, 21) 8 ((σ5.1 (10, 21) 8) + (Int32.ofInt 1))
        some ((σ6.1 (10, 21) 8), σ6)
      else
        let c7 := qa_fX10_throwing (Int32.ofInt 2) σ1
        some (c7.1, c7.2)
    else
      let c8 := qa_fX10_throwing (Int32.ofInt 1) σ1
      some (c8.1, c8.2)
noncomputable def qa_fX10_clearBuffer  (σ : qa_T) : (Int32 × qa_T) :=
    let σ1 := qa_wi σ (10, 21) 9 (Int32.ofInt 0)
    let v2 : Int32 := (σ1.1 (10, 21) 8)
    let σ3 := qa_wi σ1 (10, 21) 8 (Int32.ofInt 0)
    (v2, σ3)
noncomputable def qa_fX10_sign_74 (a1 : Int32) (a2 : Int32) (x3 : Int32) (y0 : Int32) (y1 : Int32) (σ : qa_T) : Option (Int32 × qa_T) :=
    let σ5 := qa_wi σ (10, 21) 11 (y1 + y0)
    some (x3, σ5)
noncomputable def qa_fX10_sign_49 (a1 : Int32) (a2 : Int32) (x3 : Int32) (σ : qa_T) : Option (Int32 × qa_T) :=
    let σ3 := qa_wi σ (10, 21) 12 (qa_bi true)
    if (σ3.1 (10, 21) 12) = 0 then
      qa_fX10_sign_74 a1 a2 x3 (Int32.ofInt 1) (σ3.1 (10, 21) 11) σ3
    else
      qa_fX10_sign_74 a1 a2 x3 (Int32.ofInt 0) (σ3.1 (10, 21) 11) σ3
noncomputable def qa_fX10_sign_31 (a1 : Int32) (a2 : Int32) (y0 : Int32) (σ : qa_T) : Option (Int32 × qa_T) :=
    if ¬ (σ.1 (10, 21) 12) = 0 then
      qa_fX10_sign_49 a1 a2 y0 σ
    else
      if ¬ (qa_bi (qa_fX10_in y0 a1 a2 σ)) = 0 then
        let σ7 := qa_wi σ (10, 21) 12 (qa_bi false)
        if (σ7.1 (10, 21) 12) = 0 then
          qa_fX10_sign_74 a1 a2 y0 (Int32.ofInt 1) (σ7.1 (10, 21) 11) σ7
        else
          qa_fX10_sign_74 a1 a2 y0 (Int32.ofInt 0) (σ7.1 (10, 21) 11) σ7
      else
        qa_fX10_sign_49 a1 a2 y0 σ
noncomputable def qa_fX10_sign_30 (a1 : Int32) (a2 : Int32) (σ : qa_T) : Option (Int32 × qa_T) :=
    qa_fX10_sign_31 a1 a2 (Int32.ofInt 0) σ
noncomputable def qa_fX10_sign (a1 : Int32) (a2 : Int32) (σ : qa_T) : Option (Int32 × qa_T) :=
    if (σ.1 (10, 21) 8) ≤ (σ.1 (10, 21) 11) then
      qa_fX10_sign_30 a1 a2 σ
    else
      if ¬ (σ.1 (10, 21) 12) = 0 then
        qa_fX10_sign_30 a1 a2 σ
      else
        if ¬ qa_in (σ.1 (10, 21) 11) 60 = true then none else
        qa_fX10_sign_31 a1 a2 (σ.1 (10, 28) ((σ.1 (10, 21) 11)).toNatClampNeg) σ
noncomputable def qa_fX10_number_96 (a1 : Int32) (a2 : Int32) (x3 : Int32) (σ : qa_T) : Option (Int32 × qa_T) :=
    some (x3, σ)
noncomputable def qa_fX10_number_14 (a1 : Int32) (a2 : Int32) : Nat → Int32 → qa_T → Option (Int32 × qa_T)
  | 0, _, _ => none
  | n + 1, x3, σ =>
    if ¬ (σ.1 (10, 21) 12) = 0 then
      qa_fX10_number_96 a1 a2 x3 σ
    else
      if x3 ≤ 0 then
        qa_fX10_number_96 a1 a2 x3 σ
      else
        if (σ.1 (10, 21) 8) ≤ (σ.1 (10, 21) 11) then
          qa_fX10_number_96 a1 a2 x3 σ
        else
          if ¬ qa_in (σ.1 (10, 21) 11) 60 = true then none else
          if (qa_bi (qa_fX10_in (σ.1 (10, 28) ((σ.1 (10, 21) 11)).toNatClampNeg) ((Int8.ofInt 48).toInt32) ((Int8.ofInt 57).toInt32) σ)) = 0 then
            qa_fX10_number_96 a1 a2 x3 σ
          else
            if ¬ qa_in (σ.1 (10, 21) 11) 60 = true then none else
            if a2 < (((((Int8.ofInt 10).toInt32) * x3) + (σ.1 (10, 28) ((σ.1 (10, 21) 11)).toNatClampNeg)) - ((Int8.ofInt 48).toInt32)) then
              qa_fX10_number_96 a1 a2 x3 σ
            else
              (qa_fX10_sign ((Int8.ofInt 48).toInt32) ((Int8.ofInt 57).toInt32) σ).bind fun c11 =>
              let v13 : Int32 := (((((Int8.ofInt 10).toInt32) * x3) + c11.1) - ((Int8.ofInt 48).toInt32))
              qa_fX10_number_14 a1 a2 n v13 c11.2
noncomputable def qa_fX10_number (a1 : Int32) (a2 : Int32) (σ : qa_T) : Option (Int32 × qa_T) :=
    (qa_fX10_sign (((Int8.ofInt 48).toInt32) + a1) ((Int8.ofInt 57).toInt32) σ).bind fun c1 =>
    let v3 : Int32 := (c1.1 - ((Int8.ofInt 48).toInt32))
    qa_fX10_number_14 a1 a2 qa_fu v3 c1.2
noncomputable def qa_fX10_isFollowed_188 (a1 : Int32) (a2 : Int32) (x3 : Int32) (σ : qa_T) : Option (Bool × qa_T) :=
    if x3 = 0 then some (false, σ) else if x3 = 1 then some (true, σ) else none
noncomputable def qa_fX10_isFollowed_182 (a1 : Int32) (a2 : Int32) (x3 : Int32) (y0 : Int32) (σ : qa_T) : Option (Bool × qa_T) :=
    (qa_fX10_begins σ).bind fun c10 =>
    qa_fX10_isFollowed_188 a1 a2 x3 c10
noncomputable def qa_fX10_isFollowed_116 (a1 : Int32) (a2 : Int32) (x3 : Int32) (y0 : Int32) (σ : qa_T) : Option (Bool × qa_T) :=
    if ¬ a1 = ((Int8.ofInt 97).toInt32) then
      if ¬ a1 = ((Int8.ofInt 98).toInt32) then
        if ¬ a1 = ((Int8.ofInt 112).toInt32) then
          if ¬ a1 = ((Int8.ofInt 116).toInt32) then
            qa_fX10_isFollowed_182 a1 a2 x3 (Int32.ofInt 0) σ
          else
            (qa_fX10_passes a2 σ).bind fun c12 =>
            qa_fX10_isFollowed_182 a1 a2 x3 c12.1 c12.2
        else
          (qa_fX10_inserts (σ.1 (10, 22) (((Int8.ofInt 113).toInt32)).toNatClampNeg) a2 σ).bind fun c14 =>
          qa_fX10_isFollowed_182 a1 a2 x3 c14.1 c14.2
      else
        (qa_fX10_burns a2 σ).bind fun c16 =>
        qa_fX10_isFollowed_182 a1 a2 x3 c16.1 c16.2
    else
      (qa_fX10_asks a2 σ).bind fun c18 =>
      qa_fX10_isFollowed_182 a1 a2 x3 c18.1 c18.2
noncomputable def qa_fX10_isFollowed_115 (a1 : Int32) (a2 : Int32) (x3 : Int32) (σ : qa_T) : Option (Bool × qa_T) :=
    qa_fX10_isFollowed_116 a1 a2 x3 (Int32.ofInt 0) σ
noncomputable def qa_fX10_isFollowed_93 (a1 : Int32) (a2 : Int32) (y0 : Int32) (σ : qa_T) : Option (Bool × qa_T) :=
    if y0 = 0 then
      qa_fX10_isFollowed_188 a1 a2 y0 σ
    else
      if ¬ a1 = ((Int8.ofInt 110).toInt32) then
        qa_fX10_isFollowed_115 a1 a2 y0 σ
      else
        (qa_fX10_goesOn σ).bind fun c20 =>
        if (qa_bi c20.1) = 0 then
          qa_fX10_isFollowed_115 a1 a2 y0 c20.2
        else
          qa_fX10_isFollowed_116 a1 a2 y0 (Int32.ofInt 1) c20.2
noncomputable def qa_fX10_isFollowed_92 (a1 : Int32) (a2 : Int32) (σ : qa_T) : Option (Bool × qa_T) :=
    qa_fX10_isFollowed_93 a1 a2 (Int32.ofInt 0) σ
noncomputable def qa_fX10_isFollowed_88 (a1 : Int32) (a2 : Int32) (σ : qa_T) : Option (Bool × qa_T) :=
    qa_fX10_isFollowed_93 a1 a2 (Int32.ofInt 1) σ
noncomputable def qa_fX10_isFollowed_70 (a1 : Int32) (a2 : Int32) (σ : qa_T) : Option (Bool × qa_T) :=
    if ¬ a1 = ((Int8.ofInt 112).toInt32) then
      qa_fX10_isFollowed_88 a1 a2 σ
    else
      if ((Int8.ofInt 24).toInt32) ≤ (σ.1 (10, 22) (((Int8.ofInt 113).toInt32)).toNatClampNeg) then
        qa_fX10_isFollowed_92 a1 a2 σ
      else
        qa_fX10_isFollowed_88 a1 a2 σ
noncomputable def qa_fX10_isFollowed_56 (a1 : Int32) (a2 : Int32) (σ : qa_T) : Option (Bool × qa_T) :=
    if ¬ a1 = ((Int8.ofInt 98).toInt32) then
      qa_fX10_isFollowed_70 a1 a2 σ
    else
      (qa_fX10_canBurn a2 σ).bind fun c27 =>
      if (qa_bi c27) = 0 then
        qa_fX10_isFollowed_92 a1 a2 σ
      else
        qa_fX10_isFollowed_70 a1 a2 σ
noncomputable def qa_fX10_isFollowed_37 (a1 : Int32) (a2 : Int32) (y0 : Int32) (σ : qa_T) : Option (Bool × qa_T) :=
    if y0 = 0 then
      qa_fX10_isFollowed_92 a1 a2 σ
    else
      if ¬ a1 = ((Int8.ofInt 97).toInt32) then
        qa_fX10_isFollowed_56 a1 a2 σ
      else
        (qa_fX10_canAsk a2 σ).bind fun c30 =>
        if (qa_bi c30) = 0 then
          qa_fX10_isFollowed_92 a1 a2 σ
        else
          qa_fX10_isFollowed_56 a1 a2 σ
noncomputable def qa_fX10_isFollowed_32 (a1 : Int32) (a2 : Int32) (σ : qa_T) : Option (Bool × qa_T) :=
    qa_fX10_isFollowed_37 a1 a2 (Int32.ofInt 1) σ
noncomputable def qa_fX10_isFollowed_36 (a1 : Int32) (a2 : Int32) (σ : qa_T) : Option (Bool × qa_T) :=
    qa_fX10_isFollowed_37 a1 a2 (Int32.ofInt 0) σ
noncomputable def qa_fX10_isFollowed (a1 : Int32) (a2 : Int32) (σ : qa_T) : Option (Bool × qa_T) :=
    if a1 = ((Int8.ofInt 116).toInt32) then
      qa_fX10_isFollowed_32 a1 a2 σ
    else
      if ¬ a1 = ((Int8.ofInt 110).toInt32) then
        if (σ.1 (10, 22) ((Int32.ofInt 0)).toNatClampNeg) ≤ a2 then
          qa_fX10_isFollowed_36 a1 a2 σ
        else
          qa_fX10_isFollowed_32 a1 a2 σ
      else
        if (qa_bi (qa_fX10_canGoOn σ)) = 0 then
          qa_fX10_isFollowed_36 a1 a2 σ
        else
          qa_fX10_isFollowed_32 a1 a2 σ
noncomputable def qa_fX10_isOrdered_156 (a1 : Bool) (σ : qa_T) : Option (Bool × qa_T) :=
    some (true, σ)
noncomputable def qa_fX10_isOrdered_140 (a1 : Bool) (x2 : Int32) (y0 : Int32) (σ : qa_T) : Option (Bool × qa_T) :=
    if (qa_bi a1) = 0 then
      qa_fX10_isOrdered_156 a1 σ
    else
      (qa_fX10_isFollowed x2 y0 σ).bind fun c10 =>
      if (qa_bi c10.1) = 0 then
        some (false, c10.2)
      else
        qa_fX10_isOrdered_156 a1 c10.2
noncomputable def qa_fX10_isOrdered_105 (a1 : Bool) (x2 : Int32) (x3 : Int32) (y0 : Int32) (y1 : Int32) (σ : qa_T) : Option (Bool × qa_T) :=
    let σ6 := qa_wi σ (10, 21) 11 (y1 + y0)
    if x3 = 0 then
      if ¬ x2 = ((Int8.ofInt 116).toInt32) then
        qa_fX10_isOrdered_140 a1 x2 (Int32.ofInt 0) σ6
      else
        (qa_fX10_number (Int32.ofInt 1) ((Int8.ofInt 100).toInt32) σ6).bind fun c13 =>
        qa_fX10_isOrdered_140 a1 x2 c13.1 c13.2
    else
      (qa_fX10_number (Int32.ofInt 0) ((Int8.ofInt 15).toInt32) σ6).bind fun c15 =>
      qa_fX10_isOrdered_140 a1 x2 c15.1 c15.2
noncomputable def qa_fX10_isOrdered_80 (a1 : Bool) (x2 : Int32) (x3 : Int32) (σ : qa_T) : Option (Bool × qa_T) :=
    let σ4 := qa_wi σ (10, 21) 12 (qa_bi true)
    if (σ4.1 (10, 21) 12) = 0 then
      qa_fX10_isOrdered_105 a1 x2 x3 (Int32.ofInt 1) (σ4.1 (10, 21) 11) σ4
    else
      qa_fX10_isOrdered_105 a1 x2 x3 (Int32.ofInt 0) (σ4.1 (10, 21) 11) σ4
noncomputable def qa_fX10_isOrdered_84 (a1 : Bool) (x2 : Int32) (x3 : Int32) (σ : qa_T) : Option (Bool × qa_T) :=
    let σ18 := qa_wi σ (10, 21) 12 (qa_bi false)
    if (σ18.1 (10, 21) 12) = 0 then
      qa_fX10_isOrdered_105 a1 x2 x3 (Int32.ofInt 1) (σ18.1 (10, 21) 11) σ18
    else
      qa_fX10_isOrdered_105 a1 x2 x3 (Int32.ofInt 0) (σ18.1 (10, 21) 11) σ18
noncomputable def qa_fX10_isOrdered_55 (a1 : Bool) (x2 : Int32) (y0 : Int32) (σ : qa_T) : Option (Bool × qa_T) :=
    if ¬ (σ.1 (10, 21) 12) = 0 then
      qa_fX10_isOrdered_80 a1 x2 y0 σ
    else
      if ¬ y0 = 0 then
        qa_fX10_isOrdered_84 a1 x2 y0 σ
      else
        if x2 = ((Int8.ofInt 110).toInt32) then
          qa_fX10_isOrdered_84 a1 x2 y0 σ
        else
          if x2 = ((Int8.ofInt 116).toInt32) then
            qa_fX10_isOrdered_84 a1 x2 y0 σ
          else
            qa_fX10_isOrdered_80 a1 x2 y0 σ
noncomputable def qa_fX10_isOrdered_50 (a1 : Bool) (x2 : Int32) (σ : qa_T) : Option (Bool × qa_T) :=
    qa_fX10_isOrdered_55 a1 x2 (Int32.ofInt 1) σ
noncomputable def qa_fX10_isOrdered_31 (a1 : Bool) (y0 : Int32) (σ : qa_T) : Option (Bool × qa_T) :=
    if y0 = ((Int8.ofInt 97).toInt32) then
      qa_fX10_isOrdered_50 a1 y0 σ
    else
      if y0 = ((Int8.ofInt 98).toInt32) then
        qa_fX10_isOrdered_50 a1 y0 σ
      else
        if ¬ y0 = ((Int8.ofInt 112).toInt32) then
          qa_fX10_isOrdered_55 a1 y0 (Int32.ofInt 0) σ
        else
          qa_fX10_isOrdered_50 a1 y0 σ
noncomputable def qa_fX10_isOrdered_30 (a1 : Bool) (σ : qa_T) : Option (Bool × qa_T) :=
    qa_fX10_isOrdered_31 a1 (Int32.ofInt 0) σ
noncomputable def qa_fX10_isOrdered (a1 : Bool) (σ : qa_T) : Option (Bool × qa_T) :=
    if (σ.1 (10, 21) 8) ≤ (σ.1 (10, 21) 11) then
      qa_fX10_isOrdered_30 a1 σ
    else
      if ¬ (σ.1 (10, 21) 12) = 0 then
        qa_fX10_isOrdered_30 a1 σ
      else
        if ¬ qa_in (σ.1 (10, 21) 11) 60 = true then none else
        qa_fX10_isOrdered_31 a1 (σ.1 (10, 28) ((σ.1 (10, 21) 11)).toNatClampNeg) σ
noncomputable def qa_fX10_go_90 (a1 : Bool) (k17 : Int32 → qa_T → Option (Bool × qa_T)) (y0 : Int32) (σ : qa_T) : Option (Bool × qa_T) :=
    k17 y0 σ
noncomputable def qa_fX10_go_64 (a1 : Bool) (k17 : Int32 → qa_T → Option (Bool × qa_T)) (y0 : Int32) (σ : qa_T) : Option (Bool × qa_T) :=
    if y0 = 0 then
      k17 y0 σ
    else
      (qa_fX10_sign ((Int8.ofInt 59).toInt32) ((Int8.ofInt 59).toInt32) σ).bind fun c11 =>
      if ¬ (c11.2.1 (10, 21) 12) = 0 then
        qa_fX10_go_90 a1 k17 (Int32.ofInt 0) c11.2
      else
        qa_fX10_go_90 a1 k17 (Int32.ofInt 1) c11.2
noncomputable def qa_fX10_go_63 (a1 : Bool) (k17 : Int32 → qa_T → Option (Bool × qa_T)) (σ : qa_T) : Option (Bool × qa_T) :=
    qa_fX10_go_64 a1 k17 (Int32.ofInt 0) σ
noncomputable def qa_fX10_go_17 (a1 : Bool) : Nat → Int32 → qa_T → Option (Bool × qa_T)
  | 0, _, _ => none
  | n + 1, x2, σ =>
    if x2 = 0 then
      some (true, σ)
    else
      (qa_fX10_isOrdered a1 σ).bind fun c5 =>
      if ¬ (qa_bi c5.1) = 0 then
        let σ8 := qa_wi c5.2 (10, 21) 13 ((c5.2.1 (10, 21) 13) + (Int32.ofInt 1))
        if ¬ (σ8.1 (10, 21) 12) = 0 then
          qa_fX10_go_63 a1 (qa_fX10_go_17 a1 n) σ8
        else
          if (σ8.1 (10, 21) 8) ≤ (σ8.1 (10, 21) 11) then
            qa_fX10_go_63 a1 (qa_fX10_go_17 a1 n) σ8
          else
            qa_fX10_go_64 a1 (qa_fX10_go_17 a1 n) (Int32.ofInt 1) σ8
      else
        some (false, c5.2)
noncomputable def qa_fX10_go (a1 : Bool) (σ : qa_T) : Option (Bool × qa_T) :=
    let σ1 := qa_wi σ (10, 21) 11 (Int32.ofInt 0)
    let σ2 := qa_wi σ1 (10, 21) 12 (qa_bi false)
    let σ3 := qa_wi σ2 (10, 21) 13 (Int32.ofInt 0)
    qa_fX10_go_17 a1 qa_fu (Int32.ofInt 1) σ3
noncomputable def qa_fX10_firstError_29  (y0 : Int32) (σ : qa_T) : Option (Int32 × qa_T) :=
    some (y0, σ)
noncomputable def qa_fX10_firstError  (σ : qa_T) : Option (Int32 × qa_T) :=
    let σ1 := qa_wi σ (10, 21) 9 (Int32.ofInt 0)
    (qa_fX10_go false σ1).bind fun c2 =>
    let v4 : Int32 := (qa_bi c2.1)
    if (c2.2.1 (10, 21) 12) = 0 then
      qa_fX10_firstError_29  (c2.2.1 (10, 21) 8) c2.2
    else
      qa_fX10_firstError_29  (c2.2.1 (10, 21) 11) c2.2
noncomputable def qa_fX10_keepsAside_2  : Nat → Int32 → qa_T → Option qa_T
  | 0, _, _ => none
  | n + 1, x1, σ =>
    if ((Int16.ofInt 176).toInt32) ≤ x1 then
      some σ
    else
      if ¬ qa_in x1 176 = true then none else
      if ¬ qa_in x1 176 = true then none else
      let σ4 := qa_wi σ (10, 26) (x1).toNatClampNeg (σ.1 (10, 22) (x1).toNatClampNeg)
      let v5 : Int32 := x1 + Int32.ofInt 1
      qa_fX10_keepsAside_2  n v5 σ4
noncomputable def qa_fX10_keepsAside  (σ : qa_T) : Option qa_T :=
    qa_fX10_keepsAside_2  qa_fu (Int32.ofInt 0) σ
noncomputable def qa_fX10_putsBack_2  : Nat → Int32 → qa_T → Option qa_T
  | 0, _, _ => none
  | n + 1, x1, σ =>
    if ((Int16.ofInt 176).toInt32) ≤ x1 then
      some σ
    else
      if ¬ qa_in x1 176 = true then none else
      if ¬ qa_in x1 176 = true then none else
      let σ4 := qa_wi σ (10, 22) (x1).toNatClampNeg (σ.1 (10, 26) (x1).toNatClampNeg)
      let v5 : Int32 := x1 + Int32.ofInt 1
      qa_fX10_putsBack_2  n v5 σ4
noncomputable def qa_fX10_putsBack  (σ : qa_T) : Option qa_T :=
    qa_fX10_putsBack_2  qa_fu (Int32.ofInt 0) σ
noncomputable def qa_fX10_follow  (σ : qa_T) : Option (Int32 × qa_T) :=
    let σ1 := qa_wi σ (10, 21) 9 (Int32.ofInt 0)
    (qa_fX10_go false σ1).bind fun c2 =>
    let v4 : Int32 := (qa_bi c2.1)
    if (c2.2.1 (10, 21) 12) = 0 then
      (qa_fX10_keepsAside c2.2).bind fun c6 =>
      (qa_fX10_go true c6).bind fun c8 =>
      let v10 : Int32 := (qa_bi c8.1)
      (qa_fX10_putsBack c8.2).bind fun c11 =>
      if ¬ v10 = 0 then
        (qa_fX10_save c11).bind fun c14 =>
        (qa_fX10_go true c14).bind fun c16 =>
        let v18 : Int32 := (qa_bi c16.1)
        let σ19 := qa_wi c16.2 (10, 21) 8 (Int32.ofInt 0)
        some ((σ19.1 (10, 21) 13), σ19)
      else
        let c20 := qa_fX10_throwing (Int32.ofInt 2) c11
        some (c20.1, c20.2)
    else
      let c21 := qa_fX10_throwing (Int32.ofInt 1) c2.2
      some (c21.1, c21.2)
noncomputable def qa_fX10_keep_72 (a1 : Int32) (σ : qa_T) : Option qa_T :=
    some σ
noncomputable def qa_fX10_keep_58 (a1 : Int32) (σ : qa_T) : Option qa_T :=
    if ¬ (σ.1 (10, 21) 9) = 0 then
      qa_fX10_keep_72 a1 σ
    else
      if ¬ qa_in a1 2 = true then none else
      let σ6 := qa_wi σ (10, 25) (a1).toNatClampNeg (qa_bi true)
      qa_fX10_keep_72 a1 σ6
noncomputable def qa_fX10_keep_20 (a1 : Int32) : Nat → Int32 → qa_T → Option qa_T
  | 0, _, _ => none
  | n + 1, x2, σ =>
    if ((Int16.ofInt 176).toInt32) ≤ x2 then
      qa_fX10_keep_58 a1 σ
    else
      if ¬ (σ.1 (10, 21) 9) = 0 then
        qa_fX10_keep_58 a1 σ
      else
        if ¬ qa_in x2 176 = true then none else
        if ¬ qa_in ((((Int16.ofInt 176).toInt32) * a1) + x2) 352 = true then none else
        let σ10 := qa_wi σ (10, 24) (((((Int16.ofInt 176).toInt32) * a1) + x2)).toNatClampNeg (σ.1 (10, 22) (x2).toNatClampNeg)
        let v11 : Int32 := x2 + Int32.ofInt 1
        qa_fX10_keep_20 a1 n v11 σ10
noncomputable def qa_fX10_keep_15 (a1 : Int32) (y0 : Int32) (σ : qa_T) : Option qa_T :=
    let σ2 := qa_wi σ (10, 21) 9 y0
    qa_fX10_keep_20 a1 qa_fu (Int32.ofInt 0) σ2
noncomputable def qa_fX10_keep (a1 : Int32) (σ : qa_T) : Option qa_T :=
    if (qa_bi (qa_fX10_in a1 (Int32.ofInt 0) (Int32.ofInt 1) σ)) = 0 then
      qa_fX10_keep_15 a1 (Int32.ofInt 1) σ
    else
      qa_fX10_keep_15 a1 (Int32.ofInt 0) σ
noncomputable def qa_fX10_goBack_75 (a1 : Int32) (σ : qa_T) : Option qa_T :=
    some σ
noncomputable def qa_fX10_goBack_44 (a1 : Int32) : Nat → Int32 → qa_T → Option qa_T
  | 0, _, _ => none
  | n + 1, x2, σ =>
    if ((Int16.ofInt 176).toInt32) ≤ x2 then
      qa_fX10_goBack_75 a1 σ
    else
      if ¬ qa_in ((((Int16.ofInt 176).toInt32) * a1) + x2) 352 = true then none else
      if ¬ qa_in x2 176 = true then none else
      let σ11 := qa_wi σ (10, 22) (x2).toNatClampNeg (σ.1 (10, 24) (((((Int16.ofInt 176).toInt32) * a1) + x2)).toNatClampNeg)
      let v12 : Int32 := x2 + Int32.ofInt 1
      qa_fX10_goBack_44 a1 n v12 σ11
noncomputable def qa_fX10_goBack_28 (a1 : Int32) (y0 : Int32) (σ : qa_T) : Option qa_T :=
    let σ4 := qa_wi σ (10, 21) 9 y0
    if ¬ (σ4.1 (10, 21) 9) = 0 then
      qa_fX10_goBack_75 a1 σ4
    else
      (qa_fX10_save σ4).bind fun c6 =>
      qa_fX10_goBack_44 a1 qa_fu (Int32.ofInt 0) c6
noncomputable def qa_fX10_goBack (a1 : Int32) (σ : qa_T) : Option qa_T :=
    if ¬ (qa_bi (qa_fX10_in a1 (Int32.ofInt 0) (Int32.ofInt 1) σ)) = 0 then
      if ¬ qa_in a1 2 = true then none else
      if (σ.1 (10, 25) (a1).toNatClampNeg) = 0 then
        qa_fX10_goBack_28 a1 (Int32.ofInt 2) σ
      else
        qa_fX10_goBack_28 a1 (Int32.ofInt 0) σ
    else
      qa_fX10_goBack_28 a1 (Int32.ofInt 1) σ
noncomputable def qa_fX10_undo_69  (σ : qa_T) : Option qa_T :=
    some σ
noncomputable def qa_fX10_undo_35  : Nat → Int32 → qa_T → Option qa_T
  | 0, _, _ => none
  | n + 1, x1, σ =>
    if ((Int16.ofInt 176).toInt32) ≤ x1 then
      qa_fX10_undo_69  σ
    else
      if ¬ qa_in ((((Int16.ofInt 176).toInt32) * (σ.1 (10, 21) 2)) + x1) 1056 = true then none else
      if ¬ qa_in x1 176 = true then none else
      let σ8 := qa_wi σ (10, 22) (x1).toNatClampNeg (σ.1 (10, 23) (((((Int16.ofInt 176).toInt32) * (σ.1 (10, 21) 2)) + x1)).toNatClampNeg)
      let v9 : Int32 := x1 + Int32.ofInt 1
      qa_fX10_undo_35  n v9 σ8
noncomputable def qa_fX10_undo_13  (y0 : Int32) (σ : qa_T) : Option qa_T :=
    let σ2 := qa_wi σ (10, 21) 9 y0
    if ¬ (σ2.1 (10, 21) 9) = 0 then
      qa_fX10_undo_69  σ2
    else
      let σ4 := qa_wi σ2 (10, 21) 2 ((σ2.1 (10, 21) 2) - (Int32.ofInt 1))
      qa_fX10_undo_35  qa_fu (Int32.ofInt 0) σ4
noncomputable def qa_fX10_undo  (σ : qa_T) : Option qa_T :=
    if ¬ (σ.1 (10, 21) 2) = 0 then
      qa_fX10_undo_13  (Int32.ofInt 0) σ
    else
      qa_fX10_undo_13  (Int32.ofInt 1) σ
noncomputable def qa_fX10_savedStates  (σ : qa_T) : (Int32 × qa_T) :=
    let σ1 := qa_wi σ (10, 21) 9 (Int32.ofInt 0)
    ((σ1.1 (10, 21) 2), σ1)
noncomputable def qa_fX10_rule (a1 : Int32) (σ : qa_T) : Option (Int32 × qa_T) :=
    let σ1 := qa_wi σ (10, 21) 9 (Int32.ofInt 0)
    if ¬ qa_in a1 176 = true then none else
    some ((σ1.1 (10, 22) (a1).toNatClampNeg), σ1)
noncomputable def qa_fX10_slides  (σ : qa_T) : Option (Int32 × qa_T) :=
    (qa_fX10_rule (Int32.ofInt 0) σ).bind fun c1 =>
    some (c1.1, c1.2)
noncomputable def qa_fX10_costOf_18 (a1 : Int32) (y0 : Int32) (σ : qa_T) : Option (Int32 × qa_T) :=
    some (y0, σ)
noncomputable def qa_fX10_costOf (a1 : Int32) (σ : qa_T) : Option (Int32 × qa_T) :=
    let c1 := qa_fX10_isThere a1 σ
    if (qa_bi c1.1) = 0 then
      qa_fX10_costOf_18 a1 (Int32.ofInt 0) c1.2
    else
      (qa_fX10_of a1 (Int32.ofInt 0) c1.2).bind fun c3 =>
      qa_fX10_costOf_18 a1 c3 c1.2
noncomputable def qa_fX10_loadOf_17 (a1 : Int32) (y0 : Int32) (σ : qa_T) : Option (Int32 × qa_T) :=
    some (y0, σ)
noncomputable def qa_fX10_loadOf (a1 : Int32) (σ : qa_T) : Option (Int32 × qa_T) :=
    let c1 := qa_fX10_isThere a1 σ
    if (qa_bi c1.1) = 0 then
      qa_fX10_loadOf_17 a1 (Int32.ofInt 0) c1.2
    else
      (qa_fX10_due a1 c1.2).bind fun c3 =>
      qa_fX10_loadOf_17 a1 c3 c1.2
noncomputable def qa_fX10_fadeOf_18 (a1 : Int32) (y0 : Int32) (σ : qa_T) : Option (Int32 × qa_T) :=
    some (y0, σ)
noncomputable def qa_fX10_fadeOf (a1 : Int32) (σ : qa_T) : Option (Int32 × qa_T) :=
    let c1 := qa_fX10_isThere a1 σ
    if (qa_bi c1.1) = 0 then
      qa_fX10_fadeOf_18 a1 (Int32.ofInt 0) c1.2
    else
      (qa_fX10_of a1 (Int32.ofInt 2) c1.2).bind fun c3 =>
      qa_fX10_fadeOf_18 a1 c3 c1.2
noncomputable def qa_fX10_isLoaded_20 (a1 : Int32) (σ : qa_T) : Option (Bool × qa_T) :=
    some (false, σ)
noncomputable def qa_fX10_isLoaded (a1 : Int32) (σ : qa_T) : Option (Bool × qa_T) :=
    let c1 := qa_fX10_isThere a1 σ
    if (qa_bi c1.1) = 0 then
      qa_fX10_isLoaded_20 a1 c1.2
    else
      (qa_fX10_loaded a1 c1.2).bind fun c3 =>
      if (qa_bi c3) = 0 then
        qa_fX10_isLoaded_20 a1 c1.2
      else
        some (true, c1.2)
noncomputable def qa_fX10_isOnShow_20 (a1 : Int32) (σ : qa_T) : (Bool × qa_T) :=
    (false, σ)
noncomputable def qa_fX10_isOnShow (a1 : Int32) (σ : qa_T) : (Bool × qa_T) :=
    let c1 := qa_fX10_isThere a1 σ
    if (qa_bi c1.1) = 0 then
      qa_fX10_isOnShow_20 a1 c1.2
    else
      if (qa_bi (qa_fX10_onShow a1 c1.2)) = 0 then
        qa_fX10_isOnShow_20 a1 c1.2
      else
        (true, c1.2)
noncomputable def qa_fX10_glowOf_18 (a1 : Int32) (y0 : Int32) (σ : qa_T) : Option (Int32 × qa_T) :=
    some (y0, σ)
noncomputable def qa_fX10_glowOf (a1 : Int32) (σ : qa_T) : Option (Int32 × qa_T) :=
    let c1 := qa_fX10_isThere a1 σ
    if (qa_bi c1.1) = 0 then
      qa_fX10_glowOf_18 a1 (Int32.ofInt 0) c1.2
    else
      (qa_fX10_of a1 (Int32.ofInt 4) c1.2).bind fun c3 =>
      qa_fX10_glowOf_18 a1 c3 c1.2
noncomputable def qa_fX10_burntTimes_18 (a1 : Int32) (y0 : Int32) (σ : qa_T) : Option (Int32 × qa_T) :=
    some (y0, σ)
noncomputable def qa_fX10_burntTimes (a1 : Int32) (σ : qa_T) : Option (Int32 × qa_T) :=
    let c1 := qa_fX10_isThere a1 σ
    if (qa_bi c1.1) = 0 then
      qa_fX10_burntTimes_18 a1 (Int32.ofInt 0) c1.2
    else
      (qa_fX10_of a1 (Int32.ofInt 5) c1.2).bind fun c3 =>
      qa_fX10_burntTimes_18 a1 c3 c1.2
noncomputable def qa_fX10_nextUse_38 (a1 : Int32) (y0 : Int32) (σ : qa_T) : Option (Int32 × qa_T) :=
    some (y0, σ)
noncomputable def qa_fX10_nextUse (a1 : Int32) (σ : qa_T) : Option (Int32 × qa_T) :=
    let c1 := qa_fX10_isThere a1 σ
    if ¬ (qa_bi c1.1) = 0 then
      (qa_fX10_nextOf a1 c1.2).bind fun c3 =>
      if c3 ≤ (c1.2.1 (10, 22) (((Int8.ofInt 113).toInt32)).toNatClampNeg) then
        (qa_fX10_nextOf a1 c1.2).bind fun c6 =>
        qa_fX10_nextUse_38 a1 c6 c1.2
      else
        let c8 := qa_fX10_throwing (Int32.ofInt 2) c1.2
        qa_fX10_nextUse_38 a1 c8.1 c8.2
    else
      some ((Int32.ofInt 0), c1.2)
noncomputable def qa_fX10_inOrder_42 (a1 : Int32) (k4 : Int32 → Int32 → qa_T → Option Int32) (x3 : Int32) (y0 : Int32) (y1 : Int32) (σ : qa_T) : Option Int32 :=
    let v5 : Int32 := (y1 + y0)
    let v6 : Int32 := x3 + Int32.ofInt 1
    k4 v5 v6 σ
noncomputable def qa_fX10_inOrder_41 (a1 : Int32) (k4 : Int32 → Int32 → qa_T → Option Int32) (x3 : Int32) (y0 : Int32) (σ : qa_T) : Option Int32 :=
    qa_fX10_inOrder_42 a1 k4 x3 (Int32.ofInt 0) y0 σ
noncomputable def qa_fX10_inOrder_4 (a1 : Int32) : Nat → Int32 → Int32 → qa_T → Option Int32
  | 0, _, _, _ => none
  | n + 1, x2, x3, σ =>
    if (σ.1 (10, 22) ((Int32.ofInt 0)).toNatClampNeg) ≤ x3 then
      some x2
    else
      (qa_fX10_canBurn x3 σ).bind fun c2 =>
      if (qa_bi c2) = 0 then
        qa_fX10_inOrder_41 a1 (qa_fX10_inOrder_4 a1 n) x3 x2 σ
      else
        if x3 = a1 then
          qa_fX10_inOrder_41 a1 (qa_fX10_inOrder_4 a1 n) x3 x2 σ
        else
          (qa_fX10_isFirst x3 a1 σ).bind fun c8 =>
          if (qa_bi c8) = 0 then
            qa_fX10_inOrder_41 a1 (qa_fX10_inOrder_4 a1 n) x3 x2 σ
          else
            qa_fX10_inOrder_42 a1 (qa_fX10_inOrder_4 a1 n) x3 (Int32.ofInt 1) x2 σ
noncomputable def qa_fX10_inOrder (a1 : Int32) (σ : qa_T) : Option Int32 :=
    qa_fX10_inOrder_4 a1 qa_fu (Int32.ofInt 0) (Int32.ofInt 0) σ
noncomputable def qa_fX10_burnPlace_31 (a1 : Int32) (y0 : Int32) (σ : qa_T) : Option (Int32 × qa_T) :=
    some (y0, σ)
noncomputable def qa_fX10_burnPlace (a1 : Int32) (σ : qa_T) : Option (Int32 × qa_T) :=
    let c1 := qa_fX10_isThere a1 σ
    if ¬ (qa_bi c1.1) = 0 then
      (qa_fX10_canBurn a1 c1.2).bind fun c3 =>
      if (qa_bi c3) = 0 then
        let c6 := qa_fX10_throwing (Int32.ofInt 2) c1.2
        qa_fX10_burnPlace_31 a1 c6.1 c6.2
      else
        (qa_fX10_inOrder a1 c1.2).bind fun c7 =>
        qa_fX10_burnPlace_31 a1 c7 c1.2
    else
      some ((Int32.ofInt 0), c1.2)
noncomputable def qa_fX10_places  (σ : qa_T) : Option (Int32 × qa_T) :=
    (qa_fX10_rule ((Int8.ofInt 113).toInt32) σ).bind fun c1 =>
    some (c1.1, c1.2)
noncomputable def qa_fX10_slideAt_39 (a1 : Int32) (y0 : Int32) (σ : qa_T) : Option (Int32 × qa_T) :=
    some (y0, σ)
noncomputable def qa_fX10_slideAt (a1 : Int32) (σ : qa_T) : Option (Int32 × qa_T) :=
    let σ1 := qa_wi σ (10, 21) 9 (Int32.ofInt 0)
    if (qa_bi (qa_fX10_in a1 (Int32.ofInt 0) ((σ1.1 (10, 22) (((Int8.ofInt 113).toInt32)).toNatClampNeg) - (Int32.ofInt 1)) σ1)) = 0 then
      let c3 := qa_fX10_throwing (Int32.ofInt 1) σ1
      qa_fX10_slideAt_39 a1 c3.1 c3.2
    else
      if ¬ qa_in (((Int8.ofInt 114).toInt32) + a1) 176 = true then none else
      qa_fX10_slideAt_39 a1 (σ1.1 (10, 22) ((((Int8.ofInt 114).toInt32) + a1)).toNatClampNeg) σ1
noncomputable def qa_fX10_told_36 (a1 : Int32) (y0 : Int32) (σ : qa_T) : Option (Int32 × qa_T) :=
    some (y0, σ)
noncomputable def qa_fX10_told_16 (a1 : Int32) (y0 : Int32) (σ : qa_T) : Option (Int32 × qa_T) :=
    let σ3 := qa_wi σ (10, 21) 9 y0
    if ¬ (σ3.1 (10, 21) 9) = 0 then
      qa_fX10_told_36 a1 (Int32.ofInt 0) σ3
    else
      if ¬ qa_in a1 176 = true then none else
      qa_fX10_told_36 a1 (σ3.1 (10, 22) (a1).toNatClampNeg) σ3
noncomputable def qa_fX10_told (a1 : Int32) (σ : qa_T) : Option (Int32 × qa_T) :=
    if ¬ qa_in a1 176 = true then none else
    if ¬ (σ.1 (10, 22) (a1).toNatClampNeg) = (Int32.ofInt (-1)) then
      qa_fX10_told_16 a1 (Int32.ofInt 0) σ
    else
      qa_fX10_told_16 a1 (Int32.ofInt 1) σ
noncomputable def qa_fX10_showPlace  (σ : qa_T) : Option (Int32 × qa_T) :=
    (qa_fX10_told ((Int16.ofInt 138).toInt32) σ).bind fun c1 =>
    some (c1.1, c1.2)
noncomputable def qa_fX10_shown  (σ : qa_T) : Option (Int32 × qa_T) :=
    (qa_fX10_told ((Int16.ofInt 139).toInt32) σ).bind fun c1 =>
    some (c1.1, c1.2)
noncomputable def qa_fX10_fading  (σ : qa_T) : Option (Int32 × qa_T) :=
    (qa_fX10_told ((Int16.ofInt 140).toInt32) σ).bind fun c1 =>
    some (c1.1, c1.2)
noncomputable def qa_fX10_fadeLeft  (σ : qa_T) : Option (Int32 × qa_T) :=
    (qa_fX10_rule ((Int16.ofInt 141).toInt32) σ).bind fun c1 =>
    some (c1.1, c1.2)
noncomputable def qa_fX10_awaited  (σ : qa_T) : Option (Int32 × qa_T) :=
    (qa_fX10_told ((Int16.ofInt 142).toInt32) σ).bind fun c1 =>
    some (c1.1, c1.2)
noncomputable def qa_fX10_shownFor_27  (y0 : Int32) (σ : qa_T) : Option (Int32 × qa_T) :=
    some (y0, σ)
noncomputable def qa_fX10_shownFor  (σ : qa_T) : Option (Int32 × qa_T) :=
    (qa_fX10_told ((Int16.ofInt 139).toInt32) σ).bind fun c1 =>
    if ¬ (c1.2.1 (10, 21) 9) = 0 then
      qa_fX10_shownFor_27  (Int32.ofInt 0) c1.2
    else
      qa_fX10_shownFor_27  (c1.2.1 (10, 22) (((Int16.ofInt 143).toInt32)).toNatClampNeg) c1.2
noncomputable def qa_fX10_loading  (σ : qa_T) : Option (Int32 × qa_T) :=
    (qa_fX10_told ((Int16.ofInt 144).toInt32) σ).bind fun c1 =>
    some (c1.1, c1.2)
noncomputable def qa_fX10_loadLeft  (σ : qa_T) : Option (Int32 × qa_T) :=
    (qa_fX10_rule ((Int16.ofInt 145).toInt32) σ).bind fun c1 =>
    some (c1.1, c1.2)
noncomputable def qa_fX10_asked  (σ : qa_T) : Option (Int32 × qa_T) :=
    (qa_fX10_rule ((Int16.ofInt 146).toInt32) σ).bind fun c1 =>
    some (c1.1, c1.2)
noncomputable def qa_fX10_askedAt_41 (a1 : Int32) (y0 : Int32) (σ : qa_T) : Option (Int32 × qa_T) :=
    some (y0, σ)
noncomputable def qa_fX10_askedAt (a1 : Int32) (σ : qa_T) : Option (Int32 × qa_T) :=
    let σ1 := qa_wi σ (10, 21) 9 (Int32.ofInt 0)
    if (qa_bi (qa_fX10_in a1 (Int32.ofInt 0) ((σ1.1 (10, 22) (((Int16.ofInt 146).toInt32)).toNatClampNeg) - (Int32.ofInt 1)) σ1)) = 0 then
      let c3 := qa_fX10_throwing (Int32.ofInt 1) σ1
      qa_fX10_askedAt_41 a1 c3.1 c3.2
    else
      if ¬ qa_in (((Int16.ofInt 147).toInt32) + a1) 176 = true then none else
      qa_fX10_askedAt_41 a1 (σ1.1 (10, 22) ((((Int16.ofInt 147).toInt32) + a1)).toNatClampNeg) σ1
noncomputable def qa_fX10_takenBySlides  (σ : qa_T) : Option (Int32 × qa_T) :=
    let σ1 := qa_wi σ (10, 21) 9 (Int32.ofInt 0)
    (qa_fX10_taken σ1).bind fun c2 =>
    some (c2, σ1)
noncomputable def qa_fX10_takenByAccount  (σ : qa_T) : Option (Int32 × qa_T) :=
    let σ1 := qa_wi σ (10, 21) 9 (Int32.ofInt 0)
    (qa_fX10_taken σ1).bind fun c2 =>
    some (c2, σ1)
noncomputable def qa_fX10_memory  (σ : qa_T) : Option (Int32 × qa_T) :=
    (qa_fX10_rule ((Int16.ofInt 163).toInt32) σ).bind fun c1 =>
    some (c1.1, c1.2)
noncomputable def qa_fX10_ahead  (σ : qa_T) : Option (Int32 × qa_T) :=
    (qa_fX10_rule ((Int16.ofInt 164).toInt32) σ).bind fun c1 =>
    some (c1.1, c1.2)
noncomputable def qa_fX10_order  (σ : qa_T) : Option (Int32 × qa_T) :=
    (qa_fX10_rule ((Int16.ofInt 165).toInt32) σ).bind fun c1 =>
    some (c1.1, c1.2)
noncomputable def qa_fX10_glow  (σ : qa_T) : Option (Int32 × qa_T) :=
    (qa_fX10_rule ((Int16.ofInt 166).toInt32) σ).bind fun c1 =>
    some (c1.1, c1.2)
noncomputable def qa_fX10_pace  (σ : qa_T) : Option (Int32 × qa_T) :=
    (qa_fX10_rule ((Int16.ofInt 167).toInt32) σ).bind fun c1 =>
    some (c1.1, c1.2)
noncomputable def qa_fX10_untilShown_53  : Nat → Int32 → Int32 → qa_T → Option (Int32 × qa_T)
  | 0, _, _, _ => none
  | n + 1, x1, x2, σ =>
    if ((Int16.ofInt 176).toInt32) ≤ x2 then
      some (x1, σ)
    else
      if ¬ qa_in x2 176 = true then none else
      if ¬ qa_in x2 176 = true then none else
      let σ6 := qa_wi σ (10, 22) (x2).toNatClampNeg (σ.1 (10, 27) (x2).toNatClampNeg)
      let v7 : Int32 := x2 + Int32.ofInt 1
      qa_fX10_untilShown_53  n x1 v7 σ6
noncomputable def qa_fX10_untilShown_29  : Nat → Int32 → qa_T → Option (Int32 × qa_T)
  | 0, _, _ => none
  | n + 1, x1, σ =>
    if (σ.1 (10, 22) (((Int16.ofInt 142).toInt32)).toNatClampNeg) = (Int32.ofInt (-1)) then
      qa_fX10_untilShown_53  qa_fu x1 (Int32.ofInt 0) σ
    else
      (qa_fX10_ticks σ).bind fun c8 =>
      let v10 : Int32 := x1 + Int32.ofInt 1
      qa_fX10_untilShown_29  n v10 c8
noncomputable def qa_fX10_untilShown_2  : Nat → Int32 → qa_T → Option (Int32 × qa_T)
  | 0, _, _ => none
  | n + 1, x1, σ =>
    if ((Int16.ofInt 176).toInt32) ≤ x1 then
      qa_fX10_untilShown_29  qa_fu (Int32.ofInt 0) σ
    else
      if ¬ qa_in x1 176 = true then none else
      if ¬ qa_in x1 176 = true then none else
      let σ13 := qa_wi σ (10, 27) (x1).toNatClampNeg (σ.1 (10, 22) (x1).toNatClampNeg)
      let v14 : Int32 := x1 + Int32.ofInt 1
      qa_fX10_untilShown_2  n v14 σ13
noncomputable def qa_fX10_untilShown  (σ : qa_T) : Option (Int32 × qa_T) :=
    qa_fX10_untilShown_2  qa_fu (Int32.ofInt 0) σ
noncomputable def qa_fX10_toldTicks_23  (y0 : Int32) (σ : qa_T) : Option (Int32 × qa_T) :=
    some (y0, σ)
noncomputable def qa_fX10_toldTicks  (σ : qa_T) : Option (Int32 × qa_T) :=
    (qa_fX10_told ((Int16.ofInt 142).toInt32) σ).bind fun c1 =>
    if ¬ (c1.2.1 (10, 21) 9) = 0 then
      qa_fX10_toldTicks_23  (Int32.ofInt 0) c1.2
    else
      (qa_fX10_untilShown c1.2).bind fun c4 =>
      qa_fX10_toldTicks_23  c4.1 c4.2
noncomputable def qa_fX10_ticksToShowByTicks  (σ : qa_T) : Option (Int32 × qa_T) :=
    (qa_fX10_toldTicks σ).bind fun c1 =>
    some (c1.1, c1.2)
noncomputable def qa_fX10_ticksToShowBySums  (σ : qa_T) : Option (Int32 × qa_T) :=
    (qa_fX10_toldTicks σ).bind fun c1 =>
    some (c1.1, c1.2)
noncomputable def qa_fX10_burningsOf_20 (a1 : Int32) (σ : qa_T) : Option (Int32 × qa_T) :=
    some ((Int32.ofInt 0), σ)
noncomputable def qa_fX10_burningsOf (a1 : Int32) (σ : qa_T) : Option (Int32 × qa_T) :=
    (qa_fX10_loaded a1 σ).bind fun c1 =>
    if ¬ (qa_bi c1) = 0 then
      qa_fX10_burningsOf_20 a1 σ
    else
      if ¬ (σ.1 (10, 22) (((Int16.ofInt 144).toInt32)).toNatClampNeg) = a1 then
        (qa_fX10_keepsAside σ).bind fun c5 =>
        (qa_fX10_of a1 (Int32.ofInt 0) c5).bind fun c7 =>
        (qa_fX10_makesRoom c7 c5).bind fun c9 =>
        (qa_fX10_putsBack c9.2).bind fun c11 =>
        some (c9.1, c11)
      else
        qa_fX10_burningsOf_20 a1 σ
noncomputable def qa_fX10_burningsFor_17 (a1 : Int32) (y0 : Int32) (σ : qa_T) : Option (Int32 × qa_T) :=
    some (y0, σ)
noncomputable def qa_fX10_burningsFor (a1 : Int32) (σ : qa_T) : Option (Int32 × qa_T) :=
    let c1 := qa_fX10_isThere a1 σ
    if (qa_bi c1.1) = 0 then
      qa_fX10_burningsFor_17 a1 (Int32.ofInt 0) c1.2
    else
      (qa_fX10_burningsOf a1 c1.2).bind fun c3 =>
      qa_fX10_burningsFor_17 a1 c3.1 c3.2
noncomputable def qa_fX10_missing_54 (a1 : Int32) (k33 : Int32 → Int32 → qa_T → Option (Int32 × qa_T)) : Nat → Int32 → Int32 → qa_T → Option (Int32 × qa_T)
  | 0, _, _, _ => none
  | n + 1, x2, x3, σ =>
    if (σ.1 (10, 22) (((Int16.ofInt 142).toInt32)).toNatClampNeg) = (Int32.ofInt (-1)) then
      (qa_fX10_passes ((Int8.ofInt 10).toInt32) σ).bind fun c16 =>
      let v18 : Int32 := x3 + Int32.ofInt 1
      k33 x2 v18 c16.2
    else
      (qa_fX10_ticks σ).bind fun c19 =>
      qa_fX10_missing_54 a1 k33 n x2 x3 c19
noncomputable def qa_fX10_missing_33 (a1 : Int32) : Nat → Int32 → Int32 → qa_T → Option (Int32 × qa_T)
  | 0, _, _, _ => none
  | n + 1, x2, x3, σ =>
    if (σ.1 (10, 22) (((Int8.ofInt 113).toInt32)).toNatClampNeg) ≤ x3 then
      let v7 : Int32 := ((σ.1 (10, 22) (((Int16.ofInt 170).toInt32)).toNatClampNeg) - x2)
      (qa_fX10_putsBack σ).bind fun c8 =>
      some (v7, c8)
    else
      (qa_fX10_goesOn σ).bind fun c10 =>
      let v12 : Int32 := (qa_bi c10.1)
      (qa_fX10_begins c10.2).bind fun c13 =>
      qa_fX10_missing_54 a1 (qa_fX10_missing_33 a1 n) qa_fu x2 x3 c13
noncomputable def qa_fX10_missing (a1 : Int32) (σ : qa_T) : Option (Int32 × qa_T) :=
    (qa_fX10_keepsAside σ).bind fun c1 =>
    let v3 : Int32 := (c1.1 (10, 22) (((Int16.ofInt 170).toInt32)).toNatClampNeg)
    let σ4 := qa_wi c1 (10, 22) (((Int16.ofInt 165).toInt32)).toNatClampNeg a1
    let σ5 := qa_wi σ4 (10, 22) (((Int16.ofInt 167).toInt32)).toNatClampNeg (Int32.ofInt 0)
    qa_fX10_missing_33 a1 qa_fu v3 (Int32.ofInt 0) σ5
noncomputable def qa_fX10_missesWith_45 (a1 : Int32) (y0 : Int32) (σ : qa_T) : Option (Int32 × qa_T) :=
    some (y0, σ)
noncomputable def qa_fX10_missesWith_26 (a1 : Int32) (y0 : Int32) (σ : qa_T) : Option (Int32 × qa_T) :=
    let σ3 := qa_wi σ (10, 21) 9 y0
    if ¬ (σ3.1 (10, 21) 9) = 0 then
      qa_fX10_missesWith_45 a1 (Int32.ofInt 0) σ3
    else
      (qa_fX10_missing a1 σ3).bind fun c5 =>
      qa_fX10_missesWith_45 a1 c5.1 c5.2
noncomputable def qa_fX10_missesWith (a1 : Int32) (σ : qa_T) : Option (Int32 × qa_T) :=
    if ¬ (qa_bi (qa_fX10_in a1 (Int32.ofInt 0) (Int32.ofInt 2) σ)) = 0 then
      if (qa_bi (qa_fX10_canGoOn σ)) = 0 then
        qa_fX10_missesWith_26 a1 (Int32.ofInt 2) σ
      else
        qa_fX10_missesWith_26 a1 (Int32.ofInt 0) σ
    else
      qa_fX10_missesWith_26 a1 (Int32.ofInt 1) σ
noncomputable def qa_fX10_bestOrder_57  (x1 : Int32) (σ : qa_T) : Option (Int32 × qa_T) :=
    some (x1, σ)
noncomputable def qa_fX10_bestOrder_50  (k20 : Int32 → Int32 → qa_T → Option (Int32 × qa_T)) (x2 : Int32) (y0 : Int32) (σ : qa_T) : Option (Int32 × qa_T) :=
    let v10 : Int32 := x2 + Int32.ofInt 1
    k20 y0 v10 σ
noncomputable def qa_fX10_bestOrder_20  : Nat → Int32 → Int32 → qa_T → Option (Int32 × qa_T)
  | 0, _, _, _ => none
  | n + 1, x1, x2, σ =>
    if (Int32.ofInt 3) ≤ x2 then
      qa_fX10_bestOrder_57  x1 σ
    else
      if ¬ (σ.1 (10, 21) 9) = 0 then
        qa_fX10_bestOrder_57  x1 σ
      else
        (qa_fX10_missing x2 σ).bind fun c5 =>
        (qa_fX10_missing x1 c5.2).bind fun c7 =>
        if c7.1 ≤ c5.1 then
          qa_fX10_bestOrder_50  (qa_fX10_bestOrder_20  n) x2 x1 c7.2
        else
          qa_fX10_bestOrder_50  (qa_fX10_bestOrder_20  n) x2 x2 c7.2
noncomputable def qa_fX10_bestOrder_13  (y0 : Int32) (σ : qa_T) : Option (Int32 × qa_T) :=
    let σ2 := qa_wi σ (10, 21) 9 y0
    qa_fX10_bestOrder_20  qa_fu (Int32.ofInt 0) (Int32.ofInt 1) σ2
noncomputable def qa_fX10_bestOrder  (σ : qa_T) : Option (Int32 × qa_T) :=
    if (qa_bi (qa_fX10_canGoOn σ)) = 0 then
      qa_fX10_bestOrder_13  (Int32.ofInt 1) σ
    else
      qa_fX10_bestOrder_13  (Int32.ofInt 0) σ
noncomputable def qa_fX10_loads  (σ : qa_T) : Option (Int32 × qa_T) :=
    (qa_fX10_rule ((Int16.ofInt 171).toInt32) σ).bind fun c1 =>
    some (c1.1, c1.2)
noncomputable def qa_fX10_burnings  (σ : qa_T) : Option (Int32 × qa_T) :=
    (qa_fX10_rule ((Int16.ofInt 173).toInt32) σ).bind fun c1 =>
    some (c1.1, c1.2)
noncomputable def qa_fX10_time  (σ : qa_T) : Option (Int32 × qa_T) :=
    (qa_fX10_rule ((Int16.ofInt 168).toInt32) σ).bind fun c1 =>
    some (c1.1, c1.2)
noncomputable def qa_fX10_hits  (σ : qa_T) : Option (Int32 × qa_T) :=
    (qa_fX10_rule ((Int16.ofInt 169).toInt32) σ).bind fun c1 =>
    some (c1.1, c1.2)
noncomputable def qa_fX10_misses  (σ : qa_T) : Option (Int32 × qa_T) :=
    (qa_fX10_rule ((Int16.ofInt 170).toInt32) σ).bind fun c1 =>
    some (c1.1, c1.2)
noncomputable def qa_fX10_warmLoads  (σ : qa_T) : Option (Int32 × qa_T) :=
    (qa_fX10_rule ((Int16.ofInt 172).toInt32) σ).bind fun c1 =>
    some (c1.1, c1.2)
noncomputable def qa_fX10_waited  (σ : qa_T) : Option (Int32 × qa_T) :=
    (qa_fX10_rule ((Int16.ofInt 174).toInt32) σ).bind fun c1 =>
    some (c1.1, c1.2)
noncomputable def qa_fX10_share_38  (y0 : UInt64) (σ : qa_T) : Option UInt64 :=
    some y0
noncomputable def qa_fX10_share  (σ : qa_T) : Option UInt64 :=
    let v1 : Int32 := ((σ.1 (10, 22) (((Int16.ofInt 169).toInt32)).toNatClampNeg) + (σ.1 (10, 22) (((Int16.ofInt 170).toInt32)).toNatClampNeg))
    if ¬ v1 = 0 then
      if ¬ qa_nn (FP.ddiv (FP.i2d (σ.1 (10, 22) (((Int16.ofInt 169).toInt32)).toNatClampNeg)) (FP.i2d v1)) then none else
      qa_fX10_share_38  (FP.ddiv (FP.i2d (σ.1 (10, 22) (((Int16.ofInt 169).toInt32)).toNatClampNeg)) (FP.i2d v1)) σ
    else
      qa_fX10_share_38  FP.dconst0 σ
noncomputable def qa_fX10_hitShare  (σ : qa_T) : Option (UInt64 × qa_T) :=
    let σ1 := qa_wi σ (10, 21) 9 (Int32.ofInt 0)
    (qa_fX10_share σ1).bind fun c2 =>
    some (c2, σ1)
noncomputable def qa_fX10_bitsOf_98 (a1 : UInt64) (a2 : Int32) (a3 : Int32) (k72 : UInt64 → Int64 → Int32 → qa_T → Option Int64) (x7 : UInt64) (x9 : Int64) (x11 : Int32) (y0 : Int64) (σ : qa_T) : Option Int64 :=
    if ¬ qa_nn (FP.dsub x7 (FP.l2d y0)) then none else
    let v12 : UInt64 := (FP.dsub x7 (FP.l2d y0))
    let v13 : Int64 := (((2 : Int64) * x9) + y0)
    let v14 : Int32 := x11 + Int32.ofInt 1
    k72 v12 v13 v14 σ
noncomputable def qa_fX10_bitsOf_72 (a1 : UInt64) (a2 : Int32) (a3 : Int32) : Nat → UInt64 → Int64 → Int32 → qa_T → Option Int64
  | 0, _, _, _, _ => none
  | n + 1, x7, x9, x11, σ =>
    if a2 ≤ x11 then
      some x9
    else
      if ¬ qa_nn (FP.dmul x7 (4611686018427387904 : UInt64)) then none else
      let v9 : UInt64 := (FP.dmul x7 (4611686018427387904 : UInt64))
      if (Op.cmpValue (FP.dcmp v9 FP.dconst1) .l) < 0 then
        qa_fX10_bitsOf_98 a1 a2 a3 (qa_fX10_bitsOf_72 a1 a2 a3 n) v9 x9 x11 (Int64.ofNat ((0 : Fin 2) : Nat)) σ
      else
        qa_fX10_bitsOf_98 a1 a2 a3 (qa_fX10_bitsOf_72 a1 a2 a3 n) v9 x9 x11 (Int64.ofNat ((1 : Fin 2) : Nat)) σ
noncomputable def qa_fX10_bitsOf_37 (a1 : UInt64) (a2 : Int32) (a3 : Int32) : Nat → UInt64 → Int32 → qa_T → Option Int64
  | 0, _, _, _ => none
  | n + 1, x4, x6, σ =>
    if 0 ≤ (Op.cmpValue (FP.dcmp x4 FP.dconst1) .g) then
      if ¬ qa_nn (FP.dsub x4 FP.dconst1) then none else
      let v5 : UInt64 := (FP.dsub x4 FP.dconst1)
      let v6 : Int64 := ((x6).toInt64)
      qa_fX10_bitsOf_72 a1 a2 a3 qa_fu v5 v6 (Int32.ofInt 0) σ
    else
      if ¬ qa_nn (FP.dmul x4 (4611686018427387904 : UInt64)) then none else
      let v16 : UInt64 := (FP.dmul x4 (4611686018427387904 : UInt64))
      let v17 : Int32 := x6 + Int32.ofInt (-1)
      qa_fX10_bitsOf_37 a1 a2 a3 n v16 v17 σ
noncomputable def qa_fX10_bitsOf_14 (a1 : UInt64) (a2 : Int32) (a3 : Int32) : Nat → UInt64 → Int32 → qa_T → Option Int64
  | 0, _, _, _ => none
  | n + 1, x4, x6, σ =>
    if (Op.cmpValue (FP.dcmp x4 (4611686018427387904 : UInt64)) .l) < 0 then
      qa_fX10_bitsOf_37 a1 a2 a3 qa_fu x4 x6 σ
    else
      if ¬ qa_nn (FP.ddiv x4 (4611686018427387904 : UInt64)) then none else
      let v19 : UInt64 := (FP.ddiv x4 (4611686018427387904 : UInt64))
      let v20 : Int32 := x6 + Int32.ofInt 1
      qa_fX10_bitsOf_14 a1 a2 a3 n v19 v20 σ
noncomputable def qa_fX10_bitsOf (a1 : UInt64) (a2 : Int32) (a3 : Int32) (σ : qa_T) : Option Int64 :=
    if ¬ (Op.cmpValue (FP.dcmp a1 FP.dconst0) .l) = 0 then
      qa_fX10_bitsOf_14 a1 a2 a3 qa_fu a1 a3 σ
    else
      some (Int64.ofNat ((0 : Fin 2) : Nat))
noncomputable def qa_fX10_mix (a1 : Int64) (σ : qa_T) : qa_T :=
    let σ1 := qa_wl σ (10, 21) 14 (((31 : Int64) * (σ.2 (10, 21) 14)) + a1)
    σ1
noncomputable def qa_fX10_mixesSlide_132 (a1 : Int32) (y0 : Int64) (σ : qa_T) : Option qa_T :=
    let σ30 := qa_fX10_mix y0 σ
    (qa_fX10_burningsOf a1 σ30).bind fun c31 =>
    let σ33 := qa_fX10_mix ((c31.1).toInt64) c31.2
    some σ33
noncomputable def qa_fX10_mixesSlide_108 (a1 : Int32) (y0 : Int64) (σ : qa_T) : Option qa_T :=
    let σ26 := qa_fX10_mix y0 σ
    (qa_fX10_canBurn a1 σ26).bind fun c27 =>
    if (qa_bi c27) = 0 then
      qa_fX10_mixesSlide_132 a1 (Int64.ofNat ((0 : Fin 2) : Nat)) σ26
    else
      (qa_fX10_inOrder a1 σ26).bind fun c34 =>
      qa_fX10_mixesSlide_132 a1 (((c34 + (Int32.ofInt 1))).toInt64) σ26
noncomputable def qa_fX10_mixesSlide_57 (a1 : Int32) (y0 : Int64) (σ : qa_T) : Option qa_T :=
    let σ14 := qa_fX10_mix y0 σ
    (qa_fX10_of a1 (Int32.ofInt 4) σ14).bind fun c15 =>
    let σ17 := qa_fX10_mix ((c15).toInt64) σ14
    (qa_fX10_of a1 (Int32.ofInt 5) σ17).bind fun c18 =>
    let σ20 := qa_fX10_mix ((c18).toInt64) σ17
    (qa_fX10_nextOf a1 σ20).bind fun c21 =>
    if c21 ≤ (σ20.1 (10, 22) (((Int8.ofInt 113).toInt32)).toNatClampNeg) then
      (qa_fX10_nextOf a1 σ20).bind fun c24 =>
      qa_fX10_mixesSlide_108 a1 ((c24).toInt64) σ20
    else
      qa_fX10_mixesSlide_108 a1 (Int64.ofNat ((0 : Fin 2) : Nat)) σ20
noncomputable def qa_fX10_mixesSlide (a1 : Int32) (σ : qa_T) : Option qa_T :=
    (qa_fX10_of a1 (Int32.ofInt 0) σ).bind fun c1 =>
    let σ3 := qa_fX10_mix ((c1).toInt64) σ
    (qa_fX10_due a1 σ3).bind fun c4 =>
    let σ6 := qa_fX10_mix ((c4).toInt64) σ3
    (qa_fX10_of a1 (Int32.ofInt 2) σ6).bind fun c7 =>
    let σ9 := qa_fX10_mix ((c7).toInt64) σ6
    (qa_fX10_of a1 (Int32.ofInt 3) σ9).bind fun c10 =>
    let σ12 := qa_fX10_mix ((c10).toInt64) σ9
    if (qa_bi (qa_fX10_onShow a1 σ12)) = 0 then
      qa_fX10_mixesSlide_57 a1 (Int64.ofNat ((0 : Fin 2) : Nat)) σ12
    else
      qa_fX10_mixesSlide_57 a1 (Int64.ofNat ((1 : Fin 2) : Nat)) σ12
noncomputable def qa_fX10_digest_448  : Nat → Int32 → qa_T → Option (Int64 × qa_T)
  | 0, _, _ => none
  | n + 1, x2, σ =>
    if (σ.1 (10, 21) 8) ≤ x2 then
      some ((σ.2 (10, 21) 14), σ)
    else
      if ¬ qa_in x2 60 = true then none else
      let σ44 := qa_fX10_mix (((σ.1 (10, 28) (x2).toNatClampNeg)).toInt64) σ
      let v45 : Int32 := x2 + Int32.ofInt 1
      qa_fX10_digest_448  n v45 σ44
noncomputable def qa_fX10_digest_434  (y0 : Int64) (σ : qa_T) : Option (Int64 × qa_T) :=
    let σ40 := qa_fX10_mix y0 σ
    let σ41 := qa_fX10_mix (((σ40.1 (10, 21) 8)).toInt64) σ40
    qa_fX10_digest_448  qa_fu (Int32.ofInt 0) σ41
noncomputable def qa_fX10_digest_416  (y0 : Int64) (σ : qa_T) : Option (Int64 × qa_T) :=
    let σ38 := qa_fX10_mix y0 σ
    if (σ38.1 (10, 25) ((Int32.ofInt 1)).toNatClampNeg) = 0 then
      qa_fX10_digest_434  (Int64.ofNat ((0 : Fin 2) : Nat)) σ38
    else
      qa_fX10_digest_434  (Int64.ofNat ((1 : Fin 2) : Nat)) σ38
noncomputable def qa_fX10_digest_352  : Nat → Int32 → qa_T → Option (Int64 × qa_T)
  | 0, _, _ => none
  | n + 1, x2, σ =>
    if ((Int16.ofInt 174).toInt32) < x2 then
      let σ31 := qa_fX10_mix (((σ.1 (10, 21) 2)).toInt64) σ
      (qa_fX10_share σ31).bind fun c32 =>
      (qa_fX10_bitsOf c32 ((Int8.ofInt 52).toInt32) ((Int16.ofInt 1023).toInt32) σ31).bind fun c34 =>
      let σ36 := qa_fX10_mix c34 σ31
      if (σ36.1 (10, 25) ((Int32.ofInt 0)).toNatClampNeg) = 0 then
        qa_fX10_digest_416  (Int64.ofNat ((0 : Fin 2) : Nat)) σ36
      else
        qa_fX10_digest_416  (Int64.ofNat ((1 : Fin 2) : Nat)) σ36
    else
      if ¬ qa_in x2 176 = true then none else
      let σ47 := qa_fX10_mix (((σ.1 (10, 22) (x2).toNatClampNeg)).toInt64) σ
      let v48 : Int32 := x2 + Int32.ofInt 1
      qa_fX10_digest_352  n v48 σ47
noncomputable def qa_fX10_digest_335  (y0 : Int32) (σ : qa_T) : Option (Int64 × qa_T) :=
    let σ28 := qa_fX10_mix ((y0).toInt64) σ
    let σ29 := qa_fX10_mix ((y0).toInt64) σ28
    qa_fX10_digest_352  qa_fu ((Int16.ofInt 168).toInt32) σ29
noncomputable def qa_fX10_digest_291  : Nat → Int32 → qa_T → Option (Int64 × qa_T)
  | 0, _, _ => none
  | n + 1, x1, σ =>
    if ((Int16.ofInt 167).toInt32) < x1 then
      if ¬ (σ.1 (10, 22) (((Int16.ofInt 142).toInt32)).toNatClampNeg) = (Int32.ofInt (-1)) then
        (qa_fX10_untilShown σ).bind fun c26 =>
        qa_fX10_digest_335  c26.1 c26.2
      else
        qa_fX10_digest_335  (Int32.ofInt 0) σ
    else
      if ¬ qa_in x1 176 = true then none else
      let σ50 := qa_fX10_mix (((σ.1 (10, 22) (x1).toNatClampNeg)).toInt64) σ
      let v51 : Int32 := x1 + Int32.ofInt 1
      qa_fX10_digest_291  n v51 σ50
noncomputable def qa_fX10_digest_236  : Nat → Int32 → qa_T → Option (Int64 × qa_T)
  | 0, _, _ => none
  | n + 1, x1, σ =>
    if (σ.1 (10, 22) (((Int16.ofInt 146).toInt32)).toNatClampNeg) ≤ x1 then
      (qa_fX10_taken σ).bind fun c18 =>
      let σ20 := qa_fX10_mix ((c18).toInt64) σ
      (qa_fX10_taken σ20).bind fun c21 =>
      let σ23 := qa_fX10_mix ((c21).toInt64) σ20
      qa_fX10_digest_291  qa_fu ((Int16.ofInt 163).toInt32) σ23
    else
      if ¬ qa_in (((Int16.ofInt 147).toInt32) + x1) 176 = true then none else
      let σ53 := qa_fX10_mix (((σ.1 (10, 22) ((((Int16.ofInt 147).toInt32) + x1)).toNatClampNeg)).toInt64) σ
      let v54 : Int32 := x1 + Int32.ofInt 1
      qa_fX10_digest_236  n v54 σ53
noncomputable def qa_fX10_digest_190  (y0 : Int64) (σ : qa_T) : Option (Int64 × qa_T) :=
    let σ13 := qa_fX10_mix y0 σ
    let σ14 := qa_fX10_mix ((((σ13.1 (10, 22) (((Int16.ofInt 144).toInt32)).toNatClampNeg) + (Int32.ofInt 1))).toInt64) σ13
    let σ15 := qa_fX10_mix (((σ14.1 (10, 22) (((Int16.ofInt 145).toInt32)).toNatClampNeg)).toInt64) σ14
    let σ16 := qa_fX10_mix (((σ15.1 (10, 22) (((Int16.ofInt 146).toInt32)).toNatClampNeg)).toInt64) σ15
    qa_fX10_digest_236  qa_fu (Int32.ofInt 0) σ16
noncomputable def qa_fX10_digest_60  : Nat → Int32 → qa_T → Option (Int64 × qa_T)
  | 0, _, _ => none
  | n + 1, x1, σ =>
    if (σ.1 (10, 22) (((Int8.ofInt 113).toInt32)).toNatClampNeg) ≤ x1 then
      let σ7 := qa_fX10_mix ((((σ.1 (10, 22) (((Int16.ofInt 138).toInt32)).toNatClampNeg) + (Int32.ofInt 1))).toInt64) σ
      let σ8 := qa_fX10_mix ((((σ7.1 (10, 22) (((Int16.ofInt 139).toInt32)).toNatClampNeg) + (Int32.ofInt 1))).toInt64) σ7
      let σ9 := qa_fX10_mix ((((σ8.1 (10, 22) (((Int16.ofInt 140).toInt32)).toNatClampNeg) + (Int32.ofInt 1))).toInt64) σ8
      let σ10 := qa_fX10_mix (((σ9.1 (10, 22) (((Int16.ofInt 141).toInt32)).toNatClampNeg)).toInt64) σ9
      let σ11 := qa_fX10_mix ((((σ10.1 (10, 22) (((Int16.ofInt 142).toInt32)).toNatClampNeg) + (Int32.ofInt 1))).toInt64) σ10
      if ¬ (σ11.1 (10, 22) (((Int16.ofInt 139).toInt32)).toNatClampNeg) = (Int32.ofInt (-1)) then
        qa_fX10_digest_190  (((σ11.1 (10, 22) (((Int16.ofInt 143).toInt32)).toNatClampNeg)).toInt64) σ11
      else
        qa_fX10_digest_190  (Int64.ofNat ((0 : Fin 2) : Nat)) σ11
    else
      if ¬ qa_in (((Int8.ofInt 114).toInt32) + x1) 176 = true then none else
      let σ56 := qa_fX10_mix (((σ.1 (10, 22) ((((Int8.ofInt 114).toInt32) + x1)).toNatClampNeg)).toInt64) σ
      let v57 : Int32 := x1 + Int32.ofInt 1
      qa_fX10_digest_60  n v57 σ56
noncomputable def qa_fX10_digest_25  : Nat → Int32 → qa_T → Option (Int64 × qa_T)
  | 0, _, _ => none
  | n + 1, x1, σ =>
    if (σ.1 (10, 22) ((Int32.ofInt 0)).toNatClampNeg) ≤ x1 then
      let σ5 := qa_fX10_mix (((σ.1 (10, 22) (((Int8.ofInt 113).toInt32)).toNatClampNeg)).toInt64) σ
      qa_fX10_digest_60  qa_fu (Int32.ofInt 0) σ5
    else
      (qa_fX10_mixesSlide x1 σ).bind fun c58 =>
      let v60 : Int32 := x1 + Int32.ofInt 1
      qa_fX10_digest_25  n v60 c58
noncomputable def qa_fX10_digest  (σ : qa_T) : Option (Int64 × qa_T) :=
    let σ1 := qa_wi σ (10, 21) 9 (Int32.ofInt 0)
    let σ2 := qa_wl σ1 (10, 21) 14 (4447 : Int64)
    let σ3 := qa_fX10_mix (((σ2.1 (10, 22) ((Int32.ofInt 0)).toNatClampNeg)).toInt64) σ2
    qa_fX10_digest_25  qa_fu (Int32.ofInt 0) σ3
noncomputable def qa_fL_addSlide (a2 : Int32) (a3 : Int32) (a4 : Int32) (σ : qa_T) : Option (Int32 × qa_T) :=
    (qa_fX9_addSlide a2 a3 a4 σ).bind fun c1 => match c1 with
      | (.inl r3, σ4) =>
        let σ6 := qa_wl σ4 (10, 29) ((Int32.ofInt 0)).toNatClampNeg ((r3).toInt64)
        some ((Int32.ofInt 0), σ6)
      | (.inr E5, σ4) =>
        if E5 = 342 then some (Int32.ofInt 1, σ4) else
        if E5 = 348 then some (Int32.ofInt 2, σ4) else
        none
noncomputable def qa_fL_insert (a2 : Int32) (a3 : Int32) (σ : qa_T) : Option (Int32 × qa_T) :=
    (qa_fX9_insert a2 a3 σ).bind fun c1 => match c1 with
      | (.inl r3, σ4) =>
        let σ6 := qa_wl σ4 (10, 29) ((Int32.ofInt 0)).toNatClampNeg ((r3).toInt64)
        some ((Int32.ofInt 0), σ6)
      | (.inr E5, σ4) =>
        if E5 = 345 then some (Int32.ofInt 1, σ4) else
        if E5 = 348 then some (Int32.ofInt 2, σ4) else
        none
noncomputable def qa_fL_takeOut (a2 : Int32) (σ : qa_T) : Option (Int32 × qa_T) :=
    (qa_fX9_takeOut a2 σ).bind fun c1 => match c1 with
      | (.inl r3, σ4) =>
        let σ6 := qa_wl σ4 (10, 29) ((Int32.ofInt 0)).toNatClampNeg ((r3).toInt64)
        some ((Int32.ofInt 0), σ6)
      | (.inr E5, σ4) =>
        if E5 = 345 then some (Int32.ofInt 1, σ4) else
        none
noncomputable def qa_fL_goOn_14  (y0 : Int64) (σ : qa_T) : Option (Int32 × qa_T) :=
    let σ7 := qa_wl σ (10, 29) ((Int32.ofInt 0)).toNatClampNeg y0
    some ((Int32.ofInt 0), σ7)
noncomputable def qa_fL_goOn  (σ : qa_T) : Option (Int32 × qa_T) :=
    (qa_fX9_goOn σ).bind fun c1 => match c1 with
      | (.inl r3, σ4) =>
        if (qa_bi r3) = 0 then
          qa_fL_goOn_14  (Int64.ofNat ((0 : Fin 2) : Nat)) σ4
        else
          qa_fL_goOn_14  (Int64.ofNat ((1 : Fin 2) : Nat)) σ4
      | (.inr E5, σ4) =>
        if E5 = 348 then some (Int32.ofInt 1, σ4) else
        none
noncomputable def qa_fL_ask (a2 : Int32) (σ : qa_T) : Option (Int32 × qa_T) :=
    (qa_fX9_ask a2 σ).bind fun c1 => match c1 with
      | (.inl r3, σ4) =>
        let σ6 := qa_wl σ4 (10, 29) ((Int32.ofInt 0)).toNatClampNeg ((r3).toInt64)
        some ((Int32.ofInt 0), σ6)
      | (.inr E5, σ4) =>
        if E5 = 345 then some (Int32.ofInt 1, σ4) else
        if E5 = 348 then some (Int32.ofInt 2, σ4) else
        none
noncomputable def qa_fL_burn (a2 : Int32) (σ : qa_T) : Option (Int32 × qa_T) :=
    (qa_fX9_burn a2 σ).bind fun c1 => match c1 with
      | (.inl r3, σ4) =>
        let σ6 := qa_wl σ4 (10, 29) ((Int32.ofInt 0)).toNatClampNeg ((r3).toInt64)
        some ((Int32.ofInt 0), σ6)
      | (.inr E5, σ4) =>
        if E5 = 345 then some (Int32.ofInt 1, σ4) else
        if E5 = 348 then some (Int32.ofInt 2, σ4) else
        none
noncomputable def qa_fL_tick (a2 : Int32) (σ : qa_T) : Option (Int32 × qa_T) :=
    (qa_fX9_tick a2 σ).bind fun c1 => match c1 with
      | (.inl r3, σ4) =>
        let σ6 := qa_wl σ4 (10, 29) ((Int32.ofInt 0)).toNatClampNeg ((r3).toInt64)
        some ((Int32.ofInt 0), σ6)
      | (.inr E5, σ4) =>
        if E5 = 342 then some (Int32.ofInt 1, σ4) else
        none
noncomputable def qa_fL_changeMemory (a2 : Int32) (σ : qa_T) : Option (Int32 × qa_T) :=
    (qa_fX9_changeMemory a2 σ).bind fun c1 => match c1 with
      | (.inl r3, σ4) =>
        let σ6 := qa_wl σ4 (10, 29) ((Int32.ofInt 0)).toNatClampNeg ((r3).toInt64)
        some ((Int32.ofInt 0), σ6)
      | (.inr E5, σ4) =>
        if E5 = 342 then some (Int32.ofInt 1, σ4) else
        none
noncomputable def qa_fL_changeAhead (a2 : Int32) (σ : qa_T) : Option (Int32 × qa_T) :=
    (qa_fX9_changeAhead a2 σ).bind fun c1 => match c1 with
      | (.inl r3, σ4) =>
        let σ6 := qa_wl σ4 (10, 29) ((Int32.ofInt 0)).toNatClampNeg ((r3).toInt64)
        some ((Int32.ofInt 0), σ6)
      | (.inr E5, σ4) =>
        if E5 = 342 then some (Int32.ofInt 1, σ4) else
        none
noncomputable def qa_fL_changeOrder (a2 : Int32) (σ : qa_T) : Option (Int32 × qa_T) :=
    (qa_fX9_changeOrder a2 σ).bind fun c1 => match c1 with
      | (.inl r3, σ4) =>
        let σ6 := qa_wl σ4 (10, 29) ((Int32.ofInt 0)).toNatClampNeg ((r3).toInt64)
        some ((Int32.ofInt 0), σ6)
      | (.inr E5, σ4) =>
        if E5 = 342 then some (Int32.ofInt 1, σ4) else
        none
noncomputable def qa_fL_changeGlow (a2 : Int32) (σ : qa_T) : Option (Int32 × qa_T) :=
    (qa_fX9_changeGlow a2 σ).bind fun c1 => match c1 with
      | (.inl r3, σ4) =>
        let σ6 := qa_wl σ4 (10, 29) ((Int32.ofInt 0)).toNatClampNeg ((r3).toInt64)
        some ((Int32.ofInt 0), σ6)
      | (.inr E5, σ4) =>
        if E5 = 342 then some (Int32.ofInt 1, σ4) else
        none
noncomputable def qa_fL_changePace (a2 : Int32) (σ : qa_T) : Option (Int32 × qa_T) :=
    (qa_fX9_changePace a2 σ).bind fun c1 => match c1 with
      | (.inl r3, σ4) =>
        let σ6 := qa_wl σ4 (10, 29) ((Int32.ofInt 0)).toNatClampNeg ((r3).toInt64)
        some ((Int32.ofInt 0), σ6)
      | (.inr E5, σ4) =>
        if E5 = 342 then some (Int32.ofInt 1, σ4) else
        none
noncomputable def qa_fL_append (a2 : Int32) (σ : qa_T) : Option (Int32 × qa_T) :=
    (some (qa_fX9_append a2 σ)).bind fun c1 => match c1 with
      | (.inl r3, σ4) =>
        let σ6 := qa_wl σ4 (10, 29) ((Int32.ofInt 0)).toNatClampNeg ((r3).toInt64)
        some ((Int32.ofInt 0), σ6)
      | (.inr E5, σ4) =>
        if E5 = 342 then some (Int32.ofInt 1, σ4) else
        if E5 = 348 then some (Int32.ofInt 2, σ4) else
        none
noncomputable def qa_fL_follow  (σ : qa_T) : Option (Int32 × qa_T) :=
    (qa_fX9_follow σ).bind fun c1 => match c1 with
      | (.inl r3, σ4) =>
        let σ6 := qa_wl σ4 (10, 29) ((Int32.ofInt 0)).toNatClampNeg ((r3).toInt64)
        some ((Int32.ofInt 0), σ6)
      | (.inr E5, σ4) =>
        if E5 = 342 then some (Int32.ofInt 1, σ4) else
        if E5 = 348 then some (Int32.ofInt 2, σ4) else
        none
noncomputable def qa_fL_keep (a2 : Int32) (σ : qa_T) : Option (Int32 × qa_T) :=
    (qa_fX9_keep a2 σ).bind fun c1 => match c1 with
      | (.inl _, σ4) =>
        some ((Int32.ofInt 0), σ4)
      | (.inr E5, σ4) =>
        if E5 = 342 then some (Int32.ofInt 1, σ4) else
        none
noncomputable def qa_fL_goBack (a2 : Int32) (σ : qa_T) : Option (Int32 × qa_T) :=
    (qa_fX9_goBack a2 σ).bind fun c1 => match c1 with
      | (.inl _, σ4) =>
        some ((Int32.ofInt 0), σ4)
      | (.inr E5, σ4) =>
        if E5 = 342 then some (Int32.ofInt 1, σ4) else
        if E5 = 348 then some (Int32.ofInt 2, σ4) else
        none
noncomputable def qa_fL_undo  (σ : qa_T) : Option (Int32 × qa_T) :=
    (qa_fX9_undo σ).bind fun c1 => match c1 with
      | (.inl _, σ4) =>
        some ((Int32.ofInt 0), σ4)
      | (.inr E5, σ4) =>
        if E5 = 348 then some (Int32.ofInt 1, σ4) else
        none
noncomputable def qa_fL_costOf (a2 : Int32) (σ : qa_T) : Option (Int32 × qa_T) :=
    (some (qa_fX9_costOf a2 σ)).bind fun c1 => match c1 with
      | (.inl r3, σ4) =>
        let σ6 := qa_wl σ4 (10, 29) ((Int32.ofInt 0)).toNatClampNeg ((r3).toInt64)
        some ((Int32.ofInt 0), σ6)
      | (.inr E5, σ4) =>
        if E5 = 345 then some (Int32.ofInt 1, σ4) else
        none
noncomputable def qa_fL_loadOf (a2 : Int32) (σ : qa_T) : Option (Int32 × qa_T) :=
    (some (qa_fX9_loadOf a2 σ)).bind fun c1 => match c1 with
      | (.inl r3, σ4) =>
        let σ6 := qa_wl σ4 (10, 29) ((Int32.ofInt 0)).toNatClampNeg ((r3).toInt64)
        some ((Int32.ofInt 0), σ6)
      | (.inr E5, σ4) =>
        if E5 = 345 then some (Int32.ofInt 1, σ4) else
        none
noncomputable def qa_fL_fadeOf (a2 : Int32) (σ : qa_T) : Option (Int32 × qa_T) :=
    (some (qa_fX9_fadeOf a2 σ)).bind fun c1 => match c1 with
      | (.inl r3, σ4) =>
        let σ6 := qa_wl σ4 (10, 29) ((Int32.ofInt 0)).toNatClampNeg ((r3).toInt64)
        some ((Int32.ofInt 0), σ6)
      | (.inr E5, σ4) =>
        if E5 = 345 then some (Int32.ofInt 1, σ4) else
        none
noncomputable def qa_fL_isLoaded_15 (a2 : Int32) (y0 : Int64) (σ : qa_T) : Option (Int32 × qa_T) :=
    let σ7 := qa_wl σ (10, 29) ((Int32.ofInt 0)).toNatClampNeg y0
    some ((Int32.ofInt 0), σ7)
noncomputable def qa_fL_isLoaded (a2 : Int32) (σ : qa_T) : Option (Int32 × qa_T) :=
    (some (qa_fX9_isLoaded a2 σ)).bind fun c1 => match c1 with
      | (.inl r3, σ4) =>
        if (qa_bi r3) = 0 then
          qa_fL_isLoaded_15 a2 (Int64.ofNat ((0 : Fin 2) : Nat)) σ4
        else
          qa_fL_isLoaded_15 a2 (Int64.ofNat ((1 : Fin 2) : Nat)) σ4
      | (.inr E5, σ4) =>
        if E5 = 345 then some (Int32.ofInt 1, σ4) else
        none
noncomputable def qa_fL_isOnShow_15 (a2 : Int32) (y0 : Int64) (σ : qa_T) : Option (Int32 × qa_T) :=
    let σ7 := qa_wl σ (10, 29) ((Int32.ofInt 0)).toNatClampNeg y0
    some ((Int32.ofInt 0), σ7)
noncomputable def qa_fL_isOnShow (a2 : Int32) (σ : qa_T) : Option (Int32 × qa_T) :=
    (some (qa_fX9_isOnShow a2 σ)).bind fun c1 => match c1 with
      | (.inl r3, σ4) =>
        if (qa_bi r3) = 0 then
          qa_fL_isOnShow_15 a2 (Int64.ofNat ((0 : Fin 2) : Nat)) σ4
        else
          qa_fL_isOnShow_15 a2 (Int64.ofNat ((1 : Fin 2) : Nat)) σ4
      | (.inr E5, σ4) =>
        if E5 = 345 then some (Int32.ofInt 1, σ4) else
        none
noncomputable def qa_fL_glowOf (a2 : Int32) (σ : qa_T) : Option (Int32 × qa_T) :=
    (some (qa_fX9_glowOf a2 σ)).bind fun c1 => match c1 with
      | (.inl r3, σ4) =>
        let σ6 := qa_wl σ4 (10, 29) ((Int32.ofInt 0)).toNatClampNeg ((r3).toInt64)
        some ((Int32.ofInt 0), σ6)
      | (.inr E5, σ4) =>
        if E5 = 345 then some (Int32.ofInt 1, σ4) else
        none
noncomputable def qa_fL_burntTimes (a2 : Int32) (σ : qa_T) : Option (Int32 × qa_T) :=
    (some (qa_fX9_burntTimes a2 σ)).bind fun c1 => match c1 with
      | (.inl r3, σ4) =>
        let σ6 := qa_wl σ4 (10, 29) ((Int32.ofInt 0)).toNatClampNeg ((r3).toInt64)
        some ((Int32.ofInt 0), σ6)
      | (.inr E5, σ4) =>
        if E5 = 345 then some (Int32.ofInt 1, σ4) else
        none
noncomputable def qa_fL_nextUse (a2 : Int32) (σ : qa_T) : Option (Int32 × qa_T) :=
    (qa_fX9_nextUse a2 σ).bind fun c1 => match c1 with
      | (.inl r3, σ4) =>
        let σ6 := qa_wl σ4 (10, 29) ((Int32.ofInt 0)).toNatClampNeg ((r3).toInt64)
        some ((Int32.ofInt 0), σ6)
      | (.inr E5, σ4) =>
        if E5 = 345 then some (Int32.ofInt 1, σ4) else
        if E5 = 348 then some (Int32.ofInt 2, σ4) else
        none
noncomputable def qa_fL_burnPlace (a2 : Int32) (σ : qa_T) : Option (Int32 × qa_T) :=
    (qa_fX9_burnPlace a2 σ).bind fun c1 => match c1 with
      | (.inl r3, σ4) =>
        let σ6 := qa_wl σ4 (10, 29) ((Int32.ofInt 0)).toNatClampNeg ((r3).toInt64)
        some ((Int32.ofInt 0), σ6)
      | (.inr E5, σ4) =>
        if E5 = 345 then some (Int32.ofInt 1, σ4) else
        if E5 = 348 then some (Int32.ofInt 2, σ4) else
        none
noncomputable def qa_fL_slideAt (a2 : Int32) (σ : qa_T) : Option (Int32 × qa_T) :=
    (some (qa_fX9_slideAt a2 σ)).bind fun c1 => match c1 with
      | (.inl r3, σ4) =>
        let σ6 := qa_wl σ4 (10, 29) ((Int32.ofInt 0)).toNatClampNeg ((r3).toInt64)
        some ((Int32.ofInt 0), σ6)
      | (.inr E5, σ4) =>
        if E5 = 345 then some (Int32.ofInt 1, σ4) else
        none
noncomputable def qa_fL_showPlace  (σ : qa_T) : Option (Int32 × qa_T) :=
    (some (qa_fX9_showPlace σ)).bind fun c1 => match c1 with
      | (.inl r3, σ4) =>
        let σ6 := qa_wl σ4 (10, 29) ((Int32.ofInt 0)).toNatClampNeg ((r3).toInt64)
        some ((Int32.ofInt 0), σ6)
      | (.inr E5, σ4) =>
        if E5 = 348 then some (Int32.ofInt 1, σ4) else
        none
noncomputable def qa_fL_shown  (σ : qa_T) : Option (Int32 × qa_T) :=
    (some (qa_fX9_shown σ)).bind fun c1 => match c1 with
      | (.inl r3, σ4) =>
        let σ6 := qa_wl σ4 (10, 29) ((Int32.ofInt 0)).toNatClampNeg ((r3).toInt64)
        some ((Int32.ofInt 0), σ6)
      | (.inr E5, σ4) =>
        if E5 = 348 then some (Int32.ofInt 1, σ4) else
        none
noncomputable def qa_fL_fading  (σ : qa_T) : Option (Int32 × qa_T) :=
    (some (qa_fX9_fading σ)).bind fun c1 => match c1 with
      | (.inl r3, σ4) =>
        let σ6 := qa_wl σ4 (10, 29) ((Int32.ofInt 0)).toNatClampNeg ((r3).toInt64)
        some ((Int32.ofInt 0), σ6)
      | (.inr E5, σ4) =>
        if E5 = 348 then some (Int32.ofInt 1, σ4) else
        none
noncomputable def qa_fL_awaited  (σ : qa_T) : Option (Int32 × qa_T) :=
    (some (qa_fX9_awaited σ)).bind fun c1 => match c1 with
      | (.inl r3, σ4) =>
        let σ6 := qa_wl σ4 (10, 29) ((Int32.ofInt 0)).toNatClampNeg ((r3).toInt64)
        some ((Int32.ofInt 0), σ6)
      | (.inr E5, σ4) =>
        if E5 = 348 then some (Int32.ofInt 1, σ4) else
        none
noncomputable def qa_fL_shownFor  (σ : qa_T) : Option (Int32 × qa_T) :=
    (some (qa_fX9_shownFor σ)).bind fun c1 => match c1 with
      | (.inl r3, σ4) =>
        let σ6 := qa_wl σ4 (10, 29) ((Int32.ofInt 0)).toNatClampNeg ((r3).toInt64)
        some ((Int32.ofInt 0), σ6)
      | (.inr E5, σ4) =>
        if E5 = 348 then some (Int32.ofInt 1, σ4) else
        none
noncomputable def qa_fL_loading  (σ : qa_T) : Option (Int32 × qa_T) :=
    (some (qa_fX9_loading σ)).bind fun c1 => match c1 with
      | (.inl r3, σ4) =>
        let σ6 := qa_wl σ4 (10, 29) ((Int32.ofInt 0)).toNatClampNeg ((r3).toInt64)
        some ((Int32.ofInt 0), σ6)
      | (.inr E5, σ4) =>
        if E5 = 348 then some (Int32.ofInt 1, σ4) else
        none
noncomputable def qa_fL_askedAt (a2 : Int32) (σ : qa_T) : Option (Int32 × qa_T) :=
    (some (qa_fX9_askedAt a2 σ)).bind fun c1 => match c1 with
      | (.inl r3, σ4) =>
        let σ6 := qa_wl σ4 (10, 29) ((Int32.ofInt 0)).toNatClampNeg ((r3).toInt64)
        some ((Int32.ofInt 0), σ6)
      | (.inr E5, σ4) =>
        if E5 = 345 then some (Int32.ofInt 1, σ4) else
        none
noncomputable def qa_fL_ticksToShowByTicks  (σ : qa_T) : Option (Int32 × qa_T) :=
    (qa_fX9_ticksToShowByTicks σ).bind fun c1 => match c1 with
      | (.inl r3, σ4) =>
        let σ6 := qa_wl σ4 (10, 29) ((Int32.ofInt 0)).toNatClampNeg ((r3).toInt64)
        some ((Int32.ofInt 0), σ6)
      | (.inr E5, σ4) =>
        if E5 = 348 then some (Int32.ofInt 1, σ4) else
        none
noncomputable def qa_fL_ticksToShowBySums  (σ : qa_T) : Option (Int32 × qa_T) :=
    (some (qa_fX9_ticksToShowBySums σ)).bind fun c1 => match c1 with
      | (.inl r3, σ4) =>
        let σ6 := qa_wl σ4 (10, 29) ((Int32.ofInt 0)).toNatClampNeg ((r3).toInt64)
        some ((Int32.ofInt 0), σ6)
      | (.inr E5, σ4) =>
        if E5 = 348 then some (Int32.ofInt 1, σ4) else
        none
noncomputable def qa_fL_burningsFor (a2 : Int32) (σ : qa_T) : Option (Int32 × qa_T) :=
    (qa_fX9_burningsFor a2 σ).bind fun c1 => match c1 with
      | (.inl r3, σ4) =>
        let σ6 := qa_wl σ4 (10, 29) ((Int32.ofInt 0)).toNatClampNeg ((r3).toInt64)
        some ((Int32.ofInt 0), σ6)
      | (.inr E5, σ4) =>
        if E5 = 345 then some (Int32.ofInt 1, σ4) else
        none
noncomputable def qa_fL_missesWith (a2 : Int32) (σ : qa_T) : Option (Int32 × qa_T) :=
    (qa_fX9_missesWith a2 σ).bind fun c1 => match c1 with
      | (.inl r3, σ4) =>
        let σ6 := qa_wl σ4 (10, 29) ((Int32.ofInt 0)).toNatClampNeg ((r3).toInt64)
        some ((Int32.ofInt 0), σ6)
      | (.inr E5, σ4) =>
        if E5 = 342 then some (Int32.ofInt 1, σ4) else
        if E5 = 348 then some (Int32.ofInt 2, σ4) else
        none
noncomputable def qa_fL_bestOrder  (σ : qa_T) : Option (Int32 × qa_T) :=
    (qa_fX9_bestOrder σ).bind fun c1 => match c1 with
      | (.inl r3, σ4) =>
        let σ6 := qa_wl σ4 (10, 29) ((Int32.ofInt 0)).toNatClampNeg ((r3).toInt64)
        some ((Int32.ofInt 0), σ6)
      | (.inr E5, σ4) =>
        if E5 = 348 then some (Int32.ofInt 1, σ4) else
        none
noncomputable def qa_fL_law_2682 (L : Nat) (k23 : Int32 → qa_T → Option (Bool × qa_T)) (x4 : Int32) (σ : qa_T) : Option (Bool × qa_T) :=
    let v17 : Int32 := x4 + Int32.ofInt 4
    k23 v17 σ
noncomputable def qa_fL_law_381 (L : Nat) (k23 : Int32 → qa_T → Option (Bool × qa_T)) (x4 : Int32) (σ : qa_T) : Option (Bool × qa_T) :=
    qa_fL_law_2682 L k23 x4 σ
noncomputable def qa_fL_law_304 (L : Nat) (k23 : Int32 → qa_T → Option (Bool × qa_T)) (x4 : Int32) (σ : qa_T) : Option (Bool × qa_T) :=
    if ¬ qa_in (x4 + (Int32.ofInt 1)) L = true then none else
    if ¬ qa_in (x4 + (Int32.ofInt 2)) L = true then none else
    if ¬ qa_in (x4 + (Int32.ofInt 3)) L = true then none else
    (qa_fL_addSlide (σ.1 (0, 0) ((x4 + (Int32.ofInt 1))).toNatClampNeg) (σ.1 (0, 0) ((x4 + (Int32.ofInt 2))).toNatClampNeg) (σ.1 (0, 0) ((x4 + (Int32.ofInt 3))).toNatClampNeg) σ).bind fun c8 =>
    if ¬ qa_in (x4 + (Int32.ofInt 1)) L = true then none else
    if ¬ qa_in (x4 + (Int32.ofInt 2)) L = true then none else
    if ¬ qa_in (x4 + (Int32.ofInt 3)) L = true then none else
    (qa_fX10_addSlide (c8.2.1 (0, 0) ((x4 + (Int32.ofInt 1))).toNatClampNeg) (c8.2.1 (0, 0) ((x4 + (Int32.ofInt 2))).toNatClampNeg) (c8.2.1 (0, 0) ((x4 + (Int32.ofInt 3))).toNatClampNeg) c8.2).bind fun c13 =>
    if (qa_fX10_thrown c13.2) = c8.1 then
      if ¬ c8.1 = 0 then
        qa_fL_law_381 L k23 x4 c13.2
      else
        if (lg_cmp (c13.2.2 (10, 29) ((Int32.ofInt 0)).toNatClampNeg) ((c13.1).toInt64)) = 0 then
          qa_fL_law_381 L k23 x4 c13.2
        else
          some (false, c13.2)
    else
      some (false, c13.2)
noncomputable def qa_fL_law_449 (L : Nat) (k23 : Int32 → qa_T → Option (Bool × qa_T)) (x4 : Int32) (σ : qa_T) : Option (Bool × qa_T) :=
    qa_fL_law_2682 L k23 x4 σ
noncomputable def qa_fL_law_384 (L : Nat) (k23 : Int32 → qa_T → Option (Bool × qa_T)) (x4 : Int32) (σ : qa_T) : Option (Bool × qa_T) :=
    if ¬ qa_in (x4 + (Int32.ofInt 1)) L = true then none else
    if ¬ qa_in (x4 + (Int32.ofInt 2)) L = true then none else
    (qa_fL_insert (σ.1 (0, 0) ((x4 + (Int32.ofInt 1))).toNatClampNeg) (σ.1 (0, 0) ((x4 + (Int32.ofInt 2))).toNatClampNeg) σ).bind fun c22 =>
    if ¬ qa_in (x4 + (Int32.ofInt 1)) L = true then none else
    if ¬ qa_in (x4 + (Int32.ofInt 2)) L = true then none else
    (qa_fX10_insert (c22.2.1 (0, 0) ((x4 + (Int32.ofInt 1))).toNatClampNeg) (c22.2.1 (0, 0) ((x4 + (Int32.ofInt 2))).toNatClampNeg) c22.2).bind fun c26 =>
    if (qa_fX10_thrown c26.2) = c22.1 then
      if ¬ c22.1 = 0 then
        qa_fL_law_449 L k23 x4 c26.2
      else
        if (lg_cmp (c26.2.2 (10, 29) ((Int32.ofInt 0)).toNatClampNeg) ((c26.1).toInt64)) = 0 then
          qa_fL_law_449 L k23 x4 c26.2
        else
          some (false, c26.2)
    else
      some (false, c26.2)
noncomputable def qa_fL_law_505 (L : Nat) (k23 : Int32 → qa_T → Option (Bool × qa_T)) (x4 : Int32) (σ : qa_T) : Option (Bool × qa_T) :=
    qa_fL_law_2682 L k23 x4 σ
noncomputable def qa_fL_law_452 (L : Nat) (k23 : Int32 → qa_T → Option (Bool × qa_T)) (x4 : Int32) (σ : qa_T) : Option (Bool × qa_T) :=
    if ¬ qa_in (x4 + (Int32.ofInt 1)) L = true then none else
    (qa_fL_takeOut (σ.1 (0, 0) ((x4 + (Int32.ofInt 1))).toNatClampNeg) σ).bind fun c33 =>
    if ¬ qa_in (x4 + (Int32.ofInt 1)) L = true then none else
    (qa_fX10_takeOut (c33.2.1 (0, 0) ((x4 + (Int32.ofInt 1))).toNatClampNeg) c33.2).bind fun c36 =>
    if (qa_fX10_thrown c36.2) = c33.1 then
      if ¬ c33.1 = 0 then
        qa_fL_law_505 L k23 x4 c36.2
      else
        if (lg_cmp (c36.2.2 (10, 29) ((Int32.ofInt 0)).toNatClampNeg) ((c36.1).toInt64)) = 0 then
          qa_fL_law_505 L k23 x4 c36.2
        else
          some (false, c36.2)
    else
      some (false, c36.2)
noncomputable def qa_fL_law_556 (L : Nat) (k23 : Int32 → qa_T → Option (Bool × qa_T)) (x4 : Int32) (σ : qa_T) : Option (Bool × qa_T) :=
    qa_fL_law_2682 L k23 x4 σ
noncomputable def qa_fL_law_550 (L : Nat) (k23 : Int32 → qa_T → Option (Bool × qa_T)) (x4 : Int32) (y0 : Int64) (y1 : Int64) (σ : qa_T) : Option (Bool × qa_T) :=
    if (lg_cmp y1 y0) = 0 then
      qa_fL_law_556 L k23 x4 σ
    else
      some (false, σ)
noncomputable def qa_fL_law_508 (L : Nat) (k23 : Int32 → qa_T → Option (Bool × qa_T)) (x4 : Int32) (σ : qa_T) : Option (Bool × qa_T) :=
    (qa_fL_goOn σ).bind fun c42 =>
    (qa_fX10_goOn c42.2).bind fun c44 =>
    let v46 : Int32 := (qa_bi c44.1)
    if (qa_fX10_thrown c44.2) = c42.1 then
      if ¬ c42.1 = 0 then
        qa_fL_law_556 L k23 x4 c44.2
      else
        if v46 = 0 then
          qa_fL_law_550 L k23 x4 (Int64.ofNat ((0 : Fin 2) : Nat)) (c44.2.2 (10, 29) ((Int32.ofInt 0)).toNatClampNeg) c44.2
        else
          qa_fL_law_550 L k23 x4 (Int64.ofNat ((1 : Fin 2) : Nat)) (c44.2.2 (10, 29) ((Int32.ofInt 0)).toNatClampNeg) c44.2
    else
      some (false, c44.2)
noncomputable def qa_fL_law_612 (L : Nat) (k23 : Int32 → qa_T → Option (Bool × qa_T)) (x4 : Int32) (σ : qa_T) : Option (Bool × qa_T) :=
    qa_fL_law_2682 L k23 x4 σ
noncomputable def qa_fL_law_559 (L : Nat) (k23 : Int32 → qa_T → Option (Bool × qa_T)) (x4 : Int32) (σ : qa_T) : Option (Bool × qa_T) :=
    if ¬ qa_in (x4 + (Int32.ofInt 1)) L = true then none else
    (qa_fL_ask (σ.1 (0, 0) ((x4 + (Int32.ofInt 1))).toNatClampNeg) σ).bind fun c53 =>
    if ¬ qa_in (x4 + (Int32.ofInt 1)) L = true then none else
    (qa_fX10_ask (c53.2.1 (0, 0) ((x4 + (Int32.ofInt 1))).toNatClampNeg) c53.2).bind fun c56 =>
    if (qa_fX10_thrown c56.2) = c53.1 then
      if ¬ c53.1 = 0 then
        qa_fL_law_612 L k23 x4 c56.2
      else
        if (lg_cmp (c56.2.2 (10, 29) ((Int32.ofInt 0)).toNatClampNeg) ((c56.1).toInt64)) = 0 then
          qa_fL_law_612 L k23 x4 c56.2
        else
          some (false, c56.2)
    else
      some (false, c56.2)
noncomputable def qa_fL_law_668 (L : Nat) (k23 : Int32 → qa_T → Option (Bool × qa_T)) (x4 : Int32) (σ : qa_T) : Option (Bool × qa_T) :=
    qa_fL_law_2682 L k23 x4 σ
noncomputable def qa_fL_law_615 (L : Nat) (k23 : Int32 → qa_T → Option (Bool × qa_T)) (x4 : Int32) (σ : qa_T) : Option (Bool × qa_T) :=
    if ¬ qa_in (x4 + (Int32.ofInt 1)) L = true then none else
    (qa_fL_burn (σ.1 (0, 0) ((x4 + (Int32.ofInt 1))).toNatClampNeg) σ).bind fun c63 =>
    if ¬ qa_in (x4 + (Int32.ofInt 1)) L = true then none else
    (qa_fX10_burn (c63.2.1 (0, 0) ((x4 + (Int32.ofInt 1))).toNatClampNeg) c63.2).bind fun c66 =>
    if (qa_fX10_thrown c66.2) = c63.1 then
      if ¬ c63.1 = 0 then
        qa_fL_law_668 L k23 x4 c66.2
      else
        if (lg_cmp (c66.2.2 (10, 29) ((Int32.ofInt 0)).toNatClampNeg) ((c66.1).toInt64)) = 0 then
          qa_fL_law_668 L k23 x4 c66.2
        else
          some (false, c66.2)
    else
      some (false, c66.2)
noncomputable def qa_fL_law_724 (L : Nat) (k23 : Int32 → qa_T → Option (Bool × qa_T)) (x4 : Int32) (σ : qa_T) : Option (Bool × qa_T) :=
    qa_fL_law_2682 L k23 x4 σ
noncomputable def qa_fL_law_671 (L : Nat) (k23 : Int32 → qa_T → Option (Bool × qa_T)) (x4 : Int32) (σ : qa_T) : Option (Bool × qa_T) :=
    if ¬ qa_in (x4 + (Int32.ofInt 1)) L = true then none else
    (qa_fL_tick (σ.1 (0, 0) ((x4 + (Int32.ofInt 1))).toNatClampNeg) σ).bind fun c73 =>
    if ¬ qa_in (x4 + (Int32.ofInt 1)) L = true then none else
    (qa_fX10_tick (c73.2.1 (0, 0) ((x4 + (Int32.ofInt 1))).toNatClampNeg) c73.2).bind fun c76 =>
    if (qa_fX10_thrown c76.2) = c73.1 then
      if ¬ c73.1 = 0 then
        qa_fL_law_724 L k23 x4 c76.2
      else
        if (lg_cmp (c76.2.2 (10, 29) ((Int32.ofInt 0)).toNatClampNeg) ((c76.1).toInt64)) = 0 then
          qa_fL_law_724 L k23 x4 c76.2
        else
          some (false, c76.2)
    else
      some (false, c76.2)
noncomputable def qa_fL_law_780 (L : Nat) (k23 : Int32 → qa_T → Option (Bool × qa_T)) (x4 : Int32) (σ : qa_T) : Option (Bool × qa_T) :=
    qa_fL_law_2682 L k23 x4 σ
noncomputable def qa_fL_law_727 (L : Nat) (k23 : Int32 → qa_T → Option (Bool × qa_T)) (x4 : Int32) (σ : qa_T) : Option (Bool × qa_T) :=
    if ¬ qa_in (x4 + (Int32.ofInt 1)) L = true then none else
    (qa_fL_changeMemory (σ.1 (0, 0) ((x4 + (Int32.ofInt 1))).toNatClampNeg) σ).bind fun c83 =>
    if ¬ qa_in (x4 + (Int32.ofInt 1)) L = true then none else
    (qa_fX10_changeMemory (c83.2.1 (0, 0) ((x4 + (Int32.ofInt 1))).toNatClampNeg) c83.2).bind fun c86 =>
    if (qa_fX10_thrown c86.2) = c83.1 then
      if ¬ c83.1 = 0 then
        qa_fL_law_780 L k23 x4 c86.2
      else
        if (lg_cmp (c86.2.2 (10, 29) ((Int32.ofInt 0)).toNatClampNeg) ((c86.1).toInt64)) = 0 then
          qa_fL_law_780 L k23 x4 c86.2
        else
          some (false, c86.2)
    else
      some (false, c86.2)
noncomputable def qa_fL_law_836 (L : Nat) (k23 : Int32 → qa_T → Option (Bool × qa_T)) (x4 : Int32) (σ : qa_T) : Option (Bool × qa_T) :=
    qa_fL_law_2682 L k23 x4 σ
noncomputable def qa_fL_law_783 (L : Nat) (k23 : Int32 → qa_T → Option (Bool × qa_T)) (x4 : Int32) (σ : qa_T) : Option (Bool × qa_T) :=
    if ¬ qa_in (x4 + (Int32.ofInt 1)) L = true then none else
    (qa_fL_changeAhead (σ.1 (0, 0) ((x4 + (Int32.ofInt 1))).toNatClampNeg) σ).bind fun c93 =>
    if ¬ qa_in (x4 + (Int32.ofInt 1)) L = true then none else
    (qa_fX10_changeAhead (c93.2.1 (0, 0) ((x4 + (Int32.ofInt 1))).toNatClampNeg) c93.2).bind fun c96 =>
    if (qa_fX10_thrown c96.2) = c93.1 then
      if ¬ c93.1 = 0 then
        qa_fL_law_836 L k23 x4 c96.2
      else
        if (lg_cmp (c96.2.2 (10, 29) ((Int32.ofInt 0)).toNatClampNeg) ((c96.1).toInt64)) = 0 then
          qa_fL_law_836 L k23 x4 c96.2
        else
          some (false, c96.2)
    else
      some (false, c96.2)
noncomputable def qa_fL_law_892 (L : Nat) (k23 : Int32 → qa_T → Option (Bool × qa_T)) (x4 : Int32) (σ : qa_T) : Option (Bool × qa_T) :=
    qa_fL_law_2682 L k23 x4 σ
noncomputable def qa_fL_law_839 (L : Nat) (k23 : Int32 → qa_T → Option (Bool × qa_T)) (x4 : Int32) (σ : qa_T) : Option (Bool × qa_T) :=
    if ¬ qa_in (x4 + (Int32.ofInt 1)) L = true then none else
    (qa_fL_changeOrder (σ.1 (0, 0) ((x4 + (Int32.ofInt 1))).toNatClampNeg) σ).bind fun c103 =>
    if ¬ qa_in (x4 + (Int32.ofInt 1)) L = true then none else
    (qa_fX10_changeOrder (c103.2.1 (0, 0) ((x4 + (Int32.ofInt 1))).toNatClampNeg) c103.2).bind fun c106 =>
    if (qa_fX10_thrown c106.2) = c103.1 then
      if ¬ c103.1 = 0 then
        qa_fL_law_892 L k23 x4 c106.2
      else
        if (lg_cmp (c106.2.2 (10, 29) ((Int32.ofInt 0)).toNatClampNeg) ((c106.1).toInt64)) = 0 then
          qa_fL_law_892 L k23 x4 c106.2
        else
          some (false, c106.2)
    else
      some (false, c106.2)
noncomputable def qa_fL_law_948 (L : Nat) (k23 : Int32 → qa_T → Option (Bool × qa_T)) (x4 : Int32) (σ : qa_T) : Option (Bool × qa_T) :=
    qa_fL_law_2682 L k23 x4 σ
noncomputable def qa_fL_law_895 (L : Nat) (k23 : Int32 → qa_T → Option (Bool × qa_T)) (x4 : Int32) (σ : qa_T) : Option (Bool × qa_T) :=
    if ¬ qa_in (x4 + (Int32.ofInt 1)) L = true then none else
    (qa_fL_changeGlow (σ.1 (0, 0) ((x4 + (Int32.ofInt 1))).toNatClampNeg) σ).bind fun c113 =>
    if ¬ qa_in (x4 + (Int32.ofInt 1)) L = true then none else
    (qa_fX10_changeGlow (c113.2.1 (0, 0) ((x4 + (Int32.ofInt 1))).toNatClampNeg) c113.2).bind fun c116 =>
    if (qa_fX10_thrown c116.2) = c113.1 then
      if ¬ c113.1 = 0 then
        qa_fL_law_948 L k23 x4 c116.2
      else
        if (lg_cmp (c116.2.2 (10, 29) ((Int32.ofInt 0)).toNatClampNeg) ((c116.1).toInt64)) = 0 then
          qa_fL_law_948 L k23 x4 c116.2
        else
          some (false, c116.2)
    else
      some (false, c116.2)
noncomputable def qa_fL_law_1004 (L : Nat) (k23 : Int32 → qa_T → Option (Bool × qa_T)) (x4 : Int32) (σ : qa_T) : Option (Bool × qa_T) :=
    qa_fL_law_2682 L k23 x4 σ
noncomputable def qa_fL_law_951 (L : Nat) (k23 : Int32 → qa_T → Option (Bool × qa_T)) (x4 : Int32) (σ : qa_T) : Option (Bool × qa_T) :=
    if ¬ qa_in (x4 + (Int32.ofInt 1)) L = true then none else
    (qa_fL_changePace (σ.1 (0, 0) ((x4 + (Int32.ofInt 1))).toNatClampNeg) σ).bind fun c123 =>
    if ¬ qa_in (x4 + (Int32.ofInt 1)) L = true then none else
    (qa_fX10_changePace (c123.2.1 (0, 0) ((x4 + (Int32.ofInt 1))).toNatClampNeg) c123.2).bind fun c126 =>
    if (qa_fX10_thrown c126.2) = c123.1 then
      if ¬ c123.1 = 0 then
        qa_fL_law_1004 L k23 x4 c126.2
      else
        if (lg_cmp (c126.2.2 (10, 29) ((Int32.ofInt 0)).toNatClampNeg) ((c126.1).toInt64)) = 0 then
          qa_fL_law_1004 L k23 x4 c126.2
        else
          some (false, c126.2)
    else
      some (false, c126.2)
noncomputable def qa_fL_law_1060 (L : Nat) (k23 : Int32 → qa_T → Option (Bool × qa_T)) (x4 : Int32) (σ : qa_T) : Option (Bool × qa_T) :=
    qa_fL_law_2682 L k23 x4 σ
noncomputable def qa_fL_law_1007 (L : Nat) (k23 : Int32 → qa_T → Option (Bool × qa_T)) (x4 : Int32) (σ : qa_T) : Option (Bool × qa_T) :=
    if ¬ qa_in (x4 + (Int32.ofInt 1)) L = true then none else
    (qa_fL_append (σ.1 (0, 0) ((x4 + (Int32.ofInt 1))).toNatClampNeg) σ).bind fun c133 =>
    if ¬ qa_in (x4 + (Int32.ofInt 1)) L = true then none else
    (qa_fX10_append (c133.2.1 (0, 0) ((x4 + (Int32.ofInt 1))).toNatClampNeg) c133.2).bind fun c136 =>
    if (qa_fX10_thrown c136.2) = c133.1 then
      if ¬ c133.1 = 0 then
        qa_fL_law_1060 L k23 x4 c136.2
      else
        if (lg_cmp (c136.2.2 (10, 29) ((Int32.ofInt 0)).toNatClampNeg) ((c136.1).toInt64)) = 0 then
          qa_fL_law_1060 L k23 x4 c136.2
        else
          some (false, c136.2)
    else
      some (false, c136.2)
noncomputable def qa_fL_law_1063 (L : Nat) (k23 : Int32 → qa_T → Option (Bool × qa_T)) (x4 : Int32) (σ : qa_T) : Option (Bool × qa_T) :=
    let c142 := qa_fX9_clearBuffer σ
    let c143 := qa_fX10_clearBuffer c142.2
    if c142.1 = c143.1 then
      qa_fL_law_2682 L k23 x4 c143.2
    else
      some (false, c143.2)
noncomputable def qa_fL_law_1076 (L : Nat) (k23 : Int32 → qa_T → Option (Bool × qa_T)) (x4 : Int32) (σ : qa_T) : Option (Bool × qa_T) :=
    (qa_fX9_firstError σ).bind fun c146 =>
    (qa_fX10_firstError c146.2).bind fun c148 =>
    if c146.1 = c148.1 then
      qa_fL_law_2682 L k23 x4 c148.2
    else
      some (false, c148.2)
noncomputable def qa_fL_law_1130 (L : Nat) (k23 : Int32 → qa_T → Option (Bool × qa_T)) (x4 : Int32) (σ : qa_T) : Option (Bool × qa_T) :=
    qa_fL_law_2682 L k23 x4 σ
noncomputable def qa_fL_law_1089 (L : Nat) (k23 : Int32 → qa_T → Option (Bool × qa_T)) (x4 : Int32) (σ : qa_T) : Option (Bool × qa_T) :=
    (qa_fL_follow σ).bind fun c152 =>
    (qa_fX10_follow c152.2).bind fun c154 =>
    if (qa_fX10_thrown c154.2) = c152.1 then
      if ¬ c152.1 = 0 then
        qa_fL_law_1130 L k23 x4 c154.2
      else
        if (lg_cmp (c154.2.2 (10, 29) ((Int32.ofInt 0)).toNatClampNeg) ((c154.1).toInt64)) = 0 then
          qa_fL_law_1130 L k23 x4 c154.2
        else
          some (false, c154.2)
    else
      some (false, c154.2)
noncomputable def qa_fL_law_1133 (L : Nat) (k23 : Int32 → qa_T → Option (Bool × qa_T)) (x4 : Int32) (σ : qa_T) : Option (Bool × qa_T) :=
    if ¬ qa_in (x4 + (Int32.ofInt 1)) L = true then none else
    (qa_fL_keep (σ.1 (0, 0) ((x4 + (Int32.ofInt 1))).toNatClampNeg) σ).bind fun c161 =>
    if ¬ qa_in (x4 + (Int32.ofInt 1)) L = true then none else
    (qa_fX10_keep (c161.2.1 (0, 0) ((x4 + (Int32.ofInt 1))).toNatClampNeg) c161.2).bind fun c164 =>
    if (qa_fX10_thrown c164) = c161.1 then
      qa_fL_law_2682 L k23 x4 c164
    else
      some (false, c164)
noncomputable def qa_fL_law_1169 (L : Nat) (k23 : Int32 → qa_T → Option (Bool × qa_T)) (x4 : Int32) (σ : qa_T) : Option (Bool × qa_T) :=
    if ¬ qa_in (x4 + (Int32.ofInt 1)) L = true then none else
    (qa_fL_goBack (σ.1 (0, 0) ((x4 + (Int32.ofInt 1))).toNatClampNeg) σ).bind fun c169 =>
    if ¬ qa_in (x4 + (Int32.ofInt 1)) L = true then none else
    (qa_fX10_goBack (c169.2.1 (0, 0) ((x4 + (Int32.ofInt 1))).toNatClampNeg) c169.2).bind fun c172 =>
    if (qa_fX10_thrown c172) = c169.1 then
      qa_fL_law_2682 L k23 x4 c172
    else
      some (false, c172)
noncomputable def qa_fL_law_1205 (L : Nat) (k23 : Int32 → qa_T → Option (Bool × qa_T)) (x4 : Int32) (σ : qa_T) : Option (Bool × qa_T) :=
    (qa_fL_undo σ).bind fun c176 =>
    (qa_fX10_undo c176.2).bind fun c178 =>
    if (qa_fX10_thrown c178) = c176.1 then
      qa_fL_law_2682 L k23 x4 c178
    else
      some (false, c178)
noncomputable def qa_fL_law_1229 (L : Nat) (k23 : Int32 → qa_T → Option (Bool × qa_T)) (x4 : Int32) (σ : qa_T) : Option (Bool × qa_T) :=
    let c182 := qa_fX10_savedStates σ
    if (qa_fX9_savedStates σ) = c182.1 then
      qa_fL_law_2682 L k23 x4 c182.2
    else
      some (false, c182.2)
noncomputable def qa_fL_law_1242 (L : Nat) (k23 : Int32 → qa_T → Option (Bool × qa_T)) (x4 : Int32) (σ : qa_T) : Option (Bool × qa_T) :=
    (qa_fX10_slides σ).bind fun c185 =>
    if (qa_fX9_slides σ) = c185.1 then
      qa_fL_law_2682 L k23 x4 c185.2
    else
      some (false, c185.2)
noncomputable def qa_fL_law_1308 (L : Nat) (k23 : Int32 → qa_T → Option (Bool × qa_T)) (x4 : Int32) (σ : qa_T) : Option (Bool × qa_T) :=
    qa_fL_law_2682 L k23 x4 σ
noncomputable def qa_fL_law_1255 (L : Nat) (k23 : Int32 → qa_T → Option (Bool × qa_T)) (x4 : Int32) (σ : qa_T) : Option (Bool × qa_T) :=
    if ¬ qa_in (x4 + (Int32.ofInt 1)) L = true then none else
    (qa_fL_costOf (σ.1 (0, 0) ((x4 + (Int32.ofInt 1))).toNatClampNeg) σ).bind fun c190 =>
    if ¬ qa_in (x4 + (Int32.ofInt 1)) L = true then none else
    (qa_fX10_costOf (c190.2.1 (0, 0) ((x4 + (Int32.ofInt 1))).toNatClampNeg) c190.2).bind fun c193 =>
    if (qa_fX10_thrown c193.2) = c190.1 then
      if ¬ c190.1 = 0 then
        qa_fL_law_1308 L k23 x4 c193.2
      else
        if (lg_cmp (c193.2.2 (10, 29) ((Int32.ofInt 0)).toNatClampNeg) ((c193.1).toInt64)) = 0 then
          qa_fL_law_1308 L k23 x4 c193.2
        else
          some (false, c193.2)
    else
      some (false, c193.2)
noncomputable def qa_fL_law_1364 (L : Nat) (k23 : Int32 → qa_T → Option (Bool × qa_T)) (x4 : Int32) (σ : qa_T) : Option (Bool × qa_T) :=
    qa_fL_law_2682 L k23 x4 σ
noncomputable def qa_fL_law_1311 (L : Nat) (k23 : Int32 → qa_T → Option (Bool × qa_T)) (x4 : Int32) (σ : qa_T) : Option (Bool × qa_T) :=
    if ¬ qa_in (x4 + (Int32.ofInt 1)) L = true then none else
    (qa_fL_loadOf (σ.1 (0, 0) ((x4 + (Int32.ofInt 1))).toNatClampNeg) σ).bind fun c200 =>
    if ¬ qa_in (x4 + (Int32.ofInt 1)) L = true then none else
    (qa_fX10_loadOf (c200.2.1 (0, 0) ((x4 + (Int32.ofInt 1))).toNatClampNeg) c200.2).bind fun c203 =>
    if (qa_fX10_thrown c203.2) = c200.1 then
      if ¬ c200.1 = 0 then
        qa_fL_law_1364 L k23 x4 c203.2
      else
        if (lg_cmp (c203.2.2 (10, 29) ((Int32.ofInt 0)).toNatClampNeg) ((c203.1).toInt64)) = 0 then
          qa_fL_law_1364 L k23 x4 c203.2
        else
          some (false, c203.2)
    else
      some (false, c203.2)
noncomputable def qa_fL_law_1420 (L : Nat) (k23 : Int32 → qa_T → Option (Bool × qa_T)) (x4 : Int32) (σ : qa_T) : Option (Bool × qa_T) :=
    qa_fL_law_2682 L k23 x4 σ
noncomputable def qa_fL_law_1367 (L : Nat) (k23 : Int32 → qa_T → Option (Bool × qa_T)) (x4 : Int32) (σ : qa_T) : Option (Bool × qa_T) :=
    if ¬ qa_in (x4 + (Int32.ofInt 1)) L = true then none else
    (qa_fL_fadeOf (σ.1 (0, 0) ((x4 + (Int32.ofInt 1))).toNatClampNeg) σ).bind fun c210 =>
    if ¬ qa_in (x4 + (Int32.ofInt 1)) L = true then none else
    (qa_fX10_fadeOf (c210.2.1 (0, 0) ((x4 + (Int32.ofInt 1))).toNatClampNeg) c210.2).bind fun c213 =>
    if (qa_fX10_thrown c213.2) = c210.1 then
      if ¬ c210.1 = 0 then
        qa_fL_law_1420 L k23 x4 c213.2
      else
        if (lg_cmp (c213.2.2 (10, 29) ((Int32.ofInt 0)).toNatClampNeg) ((c213.1).toInt64)) = 0 then
          qa_fL_law_1420 L k23 x4 c213.2
        else
          some (false, c213.2)
    else
      some (false, c213.2)
noncomputable def qa_fL_law_1483 (L : Nat) (k23 : Int32 → qa_T → Option (Bool × qa_T)) (x4 : Int32) (σ : qa_T) : Option (Bool × qa_T) :=
    qa_fL_law_2682 L k23 x4 σ
noncomputable def qa_fL_law_1477 (L : Nat) (k23 : Int32 → qa_T → Option (Bool × qa_T)) (x4 : Int32) (y0 : Int64) (y1 : Int64) (σ : qa_T) : Option (Bool × qa_T) :=
    if (lg_cmp y1 y0) = 0 then
      qa_fL_law_1483 L k23 x4 σ
    else
      some (false, σ)
noncomputable def qa_fL_law_1423 (L : Nat) (k23 : Int32 → qa_T → Option (Bool × qa_T)) (x4 : Int32) (σ : qa_T) : Option (Bool × qa_T) :=
    if ¬ qa_in (x4 + (Int32.ofInt 1)) L = true then none else
    (qa_fL_isLoaded (σ.1 (0, 0) ((x4 + (Int32.ofInt 1))).toNatClampNeg) σ).bind fun c220 =>
    if ¬ qa_in (x4 + (Int32.ofInt 1)) L = true then none else
    (qa_fX10_isLoaded (c220.2.1 (0, 0) ((x4 + (Int32.ofInt 1))).toNatClampNeg) c220.2).bind fun c223 =>
    let v225 : Int32 := (qa_bi c223.1)
    if (qa_fX10_thrown c223.2) = c220.1 then
      if ¬ c220.1 = 0 then
        qa_fL_law_1483 L k23 x4 c223.2
      else
        if v225 = 0 then
          qa_fL_law_1477 L k23 x4 (Int64.ofNat ((0 : Fin 2) : Nat)) (c223.2.2 (10, 29) ((Int32.ofInt 0)).toNatClampNeg) c223.2
        else
          qa_fL_law_1477 L k23 x4 (Int64.ofNat ((1 : Fin 2) : Nat)) (c223.2.2 (10, 29) ((Int32.ofInt 0)).toNatClampNeg) c223.2
    else
      some (false, c223.2)
noncomputable def qa_fL_law_1546 (L : Nat) (k23 : Int32 → qa_T → Option (Bool × qa_T)) (x4 : Int32) (σ : qa_T) : Option (Bool × qa_T) :=
    qa_fL_law_2682 L k23 x4 σ
noncomputable def qa_fL_law_1540 (L : Nat) (k23 : Int32 → qa_T → Option (Bool × qa_T)) (x4 : Int32) (y0 : Int64) (y1 : Int64) (σ : qa_T) : Option (Bool × qa_T) :=
    if (lg_cmp y1 y0) = 0 then
      qa_fL_law_1546 L k23 x4 σ
    else
      some (false, σ)
noncomputable def qa_fL_law_1486 (L : Nat) (k23 : Int32 → qa_T → Option (Bool × qa_T)) (x4 : Int32) (σ : qa_T) : Option (Bool × qa_T) :=
    if ¬ qa_in (x4 + (Int32.ofInt 1)) L = true then none else
    (qa_fL_isOnShow (σ.1 (0, 0) ((x4 + (Int32.ofInt 1))).toNatClampNeg) σ).bind fun c232 =>
    if ¬ qa_in (x4 + (Int32.ofInt 1)) L = true then none else
    let c235 := qa_fX10_isOnShow (c232.2.1 (0, 0) ((x4 + (Int32.ofInt 1))).toNatClampNeg) c232.2
    let v236 : Int32 := (qa_bi c235.1)
    if (qa_fX10_thrown c235.2) = c232.1 then
      if ¬ c232.1 = 0 then
        qa_fL_law_1546 L k23 x4 c235.2
      else
        if v236 = 0 then
          qa_fL_law_1540 L k23 x4 (Int64.ofNat ((0 : Fin 2) : Nat)) (c235.2.2 (10, 29) ((Int32.ofInt 0)).toNatClampNeg) c235.2
        else
          qa_fL_law_1540 L k23 x4 (Int64.ofNat ((1 : Fin 2) : Nat)) (c235.2.2 (10, 29) ((Int32.ofInt 0)).toNatClampNeg) c235.2
    else
      some (false, c235.2)
noncomputable def qa_fL_law_1602 (L : Nat) (k23 : Int32 → qa_T → Option (Bool × qa_T)) (x4 : Int32) (σ : qa_T) : Option (Bool × qa_T) :=
    qa_fL_law_2682 L k23 x4 σ
noncomputable def qa_fL_law_1549 (L : Nat) (k23 : Int32 → qa_T → Option (Bool × qa_T)) (x4 : Int32) (σ : qa_T) : Option (Bool × qa_T) :=
    if ¬ qa_in (x4 + (Int32.ofInt 1)) L = true then none else
    (qa_fL_glowOf (σ.1 (0, 0) ((x4 + (Int32.ofInt 1))).toNatClampNeg) σ).bind fun c243 =>
    if ¬ qa_in (x4 + (Int32.ofInt 1)) L = true then none else
    (qa_fX10_glowOf (c243.2.1 (0, 0) ((x4 + (Int32.ofInt 1))).toNatClampNeg) c243.2).bind fun c246 =>
    if (qa_fX10_thrown c246.2) = c243.1 then
      if ¬ c243.1 = 0 then
        qa_fL_law_1602 L k23 x4 c246.2
      else
        if (lg_cmp (c246.2.2 (10, 29) ((Int32.ofInt 0)).toNatClampNeg) ((c246.1).toInt64)) = 0 then
          qa_fL_law_1602 L k23 x4 c246.2
        else
          some (false, c246.2)
    else
      some (false, c246.2)
noncomputable def qa_fL_law_1658 (L : Nat) (k23 : Int32 → qa_T → Option (Bool × qa_T)) (x4 : Int32) (σ : qa_T) : Option (Bool × qa_T) :=
    qa_fL_law_2682 L k23 x4 σ
noncomputable def qa_fL_law_1605 (L : Nat) (k23 : Int32 → qa_T → Option (Bool × qa_T)) (x4 : Int32) (σ : qa_T) : Option (Bool × qa_T) :=
    if ¬ qa_in (x4 + (Int32.ofInt 1)) L = true then none else
    (qa_fL_burntTimes (σ.1 (0, 0) ((x4 + (Int32.ofInt 1))).toNatClampNeg) σ).bind fun c253 =>
    if ¬ qa_in (x4 + (Int32.ofInt 1)) L = true then none else
    (qa_fX10_burntTimes (c253.2.1 (0, 0) ((x4 + (Int32.ofInt 1))).toNatClampNeg) c253.2).bind fun c256 =>
    if (qa_fX10_thrown c256.2) = c253.1 then
      if ¬ c253.1 = 0 then
        qa_fL_law_1658 L k23 x4 c256.2
      else
        if (lg_cmp (c256.2.2 (10, 29) ((Int32.ofInt 0)).toNatClampNeg) ((c256.1).toInt64)) = 0 then
          qa_fL_law_1658 L k23 x4 c256.2
        else
          some (false, c256.2)
    else
      some (false, c256.2)
noncomputable def qa_fL_law_1714 (L : Nat) (k23 : Int32 → qa_T → Option (Bool × qa_T)) (x4 : Int32) (σ : qa_T) : Option (Bool × qa_T) :=
    qa_fL_law_2682 L k23 x4 σ
noncomputable def qa_fL_law_1661 (L : Nat) (k23 : Int32 → qa_T → Option (Bool × qa_T)) (x4 : Int32) (σ : qa_T) : Option (Bool × qa_T) :=
    if ¬ qa_in (x4 + (Int32.ofInt 1)) L = true then none else
    (qa_fL_nextUse (σ.1 (0, 0) ((x4 + (Int32.ofInt 1))).toNatClampNeg) σ).bind fun c263 =>
    if ¬ qa_in (x4 + (Int32.ofInt 1)) L = true then none else
    (qa_fX10_nextUse (c263.2.1 (0, 0) ((x4 + (Int32.ofInt 1))).toNatClampNeg) c263.2).bind fun c266 =>
    if (qa_fX10_thrown c266.2) = c263.1 then
      if ¬ c263.1 = 0 then
        qa_fL_law_1714 L k23 x4 c266.2
      else
        if (lg_cmp (c266.2.2 (10, 29) ((Int32.ofInt 0)).toNatClampNeg) ((c266.1).toInt64)) = 0 then
          qa_fL_law_1714 L k23 x4 c266.2
        else
          some (false, c266.2)
    else
      some (false, c266.2)
noncomputable def qa_fL_law_1770 (L : Nat) (k23 : Int32 → qa_T → Option (Bool × qa_T)) (x4 : Int32) (σ : qa_T) : Option (Bool × qa_T) :=
    qa_fL_law_2682 L k23 x4 σ
noncomputable def qa_fL_law_1717 (L : Nat) (k23 : Int32 → qa_T → Option (Bool × qa_T)) (x4 : Int32) (σ : qa_T) : Option (Bool × qa_T) :=
    if ¬ qa_in (x4 + (Int32.ofInt 1)) L = true then none else
    (qa_fL_burnPlace (σ.1 (0, 0) ((x4 + (Int32.ofInt 1))).toNatClampNeg) σ).bind fun c273 =>
    if ¬ qa_in (x4 + (Int32.ofInt 1)) L = true then none else
    (qa_fX10_burnPlace (c273.2.1 (0, 0) ((x4 + (Int32.ofInt 1))).toNatClampNeg) c273.2).bind fun c276 =>
    if (qa_fX10_thrown c276.2) = c273.1 then
      if ¬ c273.1 = 0 then
        qa_fL_law_1770 L k23 x4 c276.2
      else
        if (lg_cmp (c276.2.2 (10, 29) ((Int32.ofInt 0)).toNatClampNeg) ((c276.1).toInt64)) = 0 then
          qa_fL_law_1770 L k23 x4 c276.2
        else
          some (false, c276.2)
    else
      some (false, c276.2)
noncomputable def qa_fL_law_1773 (L : Nat) (k23 : Int32 → qa_T → Option (Bool × qa_T)) (x4 : Int32) (σ : qa_T) : Option (Bool × qa_T) :=
    (qa_fX10_places σ).bind fun c282 =>
    if (qa_fX9_places σ) = c282.1 then
      qa_fL_law_2682 L k23 x4 c282.2
    else
      some (false, c282.2)
noncomputable def qa_fL_law_1839 (L : Nat) (k23 : Int32 → qa_T → Option (Bool × qa_T)) (x4 : Int32) (σ : qa_T) : Option (Bool × qa_T) :=
    qa_fL_law_2682 L k23 x4 σ
noncomputable def qa_fL_law_1786 (L : Nat) (k23 : Int32 → qa_T → Option (Bool × qa_T)) (x4 : Int32) (σ : qa_T) : Option (Bool × qa_T) :=
    if ¬ qa_in (x4 + (Int32.ofInt 1)) L = true then none else
    (qa_fL_slideAt (σ.1 (0, 0) ((x4 + (Int32.ofInt 1))).toNatClampNeg) σ).bind fun c287 =>
    if ¬ qa_in (x4 + (Int32.ofInt 1)) L = true then none else
    (qa_fX10_slideAt (c287.2.1 (0, 0) ((x4 + (Int32.ofInt 1))).toNatClampNeg) c287.2).bind fun c290 =>
    if (qa_fX10_thrown c290.2) = c287.1 then
      if ¬ c287.1 = 0 then
        qa_fL_law_1839 L k23 x4 c290.2
      else
        if (lg_cmp (c290.2.2 (10, 29) ((Int32.ofInt 0)).toNatClampNeg) ((c290.1).toInt64)) = 0 then
          qa_fL_law_1839 L k23 x4 c290.2
        else
          some (false, c290.2)
    else
      some (false, c290.2)
noncomputable def qa_fL_law_1883 (L : Nat) (k23 : Int32 → qa_T → Option (Bool × qa_T)) (x4 : Int32) (σ : qa_T) : Option (Bool × qa_T) :=
    qa_fL_law_2682 L k23 x4 σ
noncomputable def qa_fL_law_1842 (L : Nat) (k23 : Int32 → qa_T → Option (Bool × qa_T)) (x4 : Int32) (σ : qa_T) : Option (Bool × qa_T) :=
    (qa_fL_showPlace σ).bind fun c296 =>
    (qa_fX10_showPlace c296.2).bind fun c298 =>
    if (qa_fX10_thrown c298.2) = c296.1 then
      if ¬ c296.1 = 0 then
        qa_fL_law_1883 L k23 x4 c298.2
      else
        if (lg_cmp (c298.2.2 (10, 29) ((Int32.ofInt 0)).toNatClampNeg) ((c298.1).toInt64)) = 0 then
          qa_fL_law_1883 L k23 x4 c298.2
        else
          some (false, c298.2)
    else
      some (false, c298.2)
noncomputable def qa_fL_law_1927 (L : Nat) (k23 : Int32 → qa_T → Option (Bool × qa_T)) (x4 : Int32) (σ : qa_T) : Option (Bool × qa_T) :=
    qa_fL_law_2682 L k23 x4 σ
noncomputable def qa_fL_law_1886 (L : Nat) (k23 : Int32 → qa_T → Option (Bool × qa_T)) (x4 : Int32) (σ : qa_T) : Option (Bool × qa_T) :=
    (qa_fL_shown σ).bind fun c304 =>
    (qa_fX10_shown c304.2).bind fun c306 =>
    if (qa_fX10_thrown c306.2) = c304.1 then
      if ¬ c304.1 = 0 then
        qa_fL_law_1927 L k23 x4 c306.2
      else
        if (lg_cmp (c306.2.2 (10, 29) ((Int32.ofInt 0)).toNatClampNeg) ((c306.1).toInt64)) = 0 then
          qa_fL_law_1927 L k23 x4 c306.2
        else
          some (false, c306.2)
    else
      some (false, c306.2)
noncomputable def qa_fL_law_1971 (L : Nat) (k23 : Int32 → qa_T → Option (Bool × qa_T)) (x4 : Int32) (σ : qa_T) : Option (Bool × qa_T) :=
    qa_fL_law_2682 L k23 x4 σ
noncomputable def qa_fL_law_1930 (L : Nat) (k23 : Int32 → qa_T → Option (Bool × qa_T)) (x4 : Int32) (σ : qa_T) : Option (Bool × qa_T) :=
    (qa_fL_fading σ).bind fun c312 =>
    (qa_fX10_fading c312.2).bind fun c314 =>
    if (qa_fX10_thrown c314.2) = c312.1 then
      if ¬ c312.1 = 0 then
        qa_fL_law_1971 L k23 x4 c314.2
      else
        if (lg_cmp (c314.2.2 (10, 29) ((Int32.ofInt 0)).toNatClampNeg) ((c314.1).toInt64)) = 0 then
          qa_fL_law_1971 L k23 x4 c314.2
        else
          some (false, c314.2)
    else
      some (false, c314.2)
noncomputable def qa_fL_law_1974 (L : Nat) (k23 : Int32 → qa_T → Option (Bool × qa_T)) (x4 : Int32) (σ : qa_T) : Option (Bool × qa_T) :=
    (qa_fX10_fadeLeft σ).bind fun c320 =>
    if (qa_fX9_fadeLeft σ) = c320.1 then
      qa_fL_law_2682 L k23 x4 c320.2
    else
      some (false, c320.2)
noncomputable def qa_fL_law_2028 (L : Nat) (k23 : Int32 → qa_T → Option (Bool × qa_T)) (x4 : Int32) (σ : qa_T) : Option (Bool × qa_T) :=
    qa_fL_law_2682 L k23 x4 σ
noncomputable def qa_fL_law_1987 (L : Nat) (k23 : Int32 → qa_T → Option (Bool × qa_T)) (x4 : Int32) (σ : qa_T) : Option (Bool × qa_T) :=
    (qa_fL_awaited σ).bind fun c324 =>
    (qa_fX10_awaited c324.2).bind fun c326 =>
    if (qa_fX10_thrown c326.2) = c324.1 then
      if ¬ c324.1 = 0 then
        qa_fL_law_2028 L k23 x4 c326.2
      else
        if (lg_cmp (c326.2.2 (10, 29) ((Int32.ofInt 0)).toNatClampNeg) ((c326.1).toInt64)) = 0 then
          qa_fL_law_2028 L k23 x4 c326.2
        else
          some (false, c326.2)
    else
      some (false, c326.2)
noncomputable def qa_fL_law_2072 (L : Nat) (k23 : Int32 → qa_T → Option (Bool × qa_T)) (x4 : Int32) (σ : qa_T) : Option (Bool × qa_T) :=
    qa_fL_law_2682 L k23 x4 σ
noncomputable def qa_fL_law_2031 (L : Nat) (k23 : Int32 → qa_T → Option (Bool × qa_T)) (x4 : Int32) (σ : qa_T) : Option (Bool × qa_T) :=
    (qa_fL_shownFor σ).bind fun c332 =>
    (qa_fX10_shownFor c332.2).bind fun c334 =>
    if (qa_fX10_thrown c334.2) = c332.1 then
      if ¬ c332.1 = 0 then
        qa_fL_law_2072 L k23 x4 c334.2
      else
        if (lg_cmp (c334.2.2 (10, 29) ((Int32.ofInt 0)).toNatClampNeg) ((c334.1).toInt64)) = 0 then
          qa_fL_law_2072 L k23 x4 c334.2
        else
          some (false, c334.2)
    else
      some (false, c334.2)
noncomputable def qa_fL_law_2116 (L : Nat) (k23 : Int32 → qa_T → Option (Bool × qa_T)) (x4 : Int32) (σ : qa_T) : Option (Bool × qa_T) :=
    qa_fL_law_2682 L k23 x4 σ
noncomputable def qa_fL_law_2075 (L : Nat) (k23 : Int32 → qa_T → Option (Bool × qa_T)) (x4 : Int32) (σ : qa_T) : Option (Bool × qa_T) :=
    (qa_fL_loading σ).bind fun c340 =>
    (qa_fX10_loading c340.2).bind fun c342 =>
    if (qa_fX10_thrown c342.2) = c340.1 then
      if ¬ c340.1 = 0 then
        qa_fL_law_2116 L k23 x4 c342.2
      else
        if (lg_cmp (c342.2.2 (10, 29) ((Int32.ofInt 0)).toNatClampNeg) ((c342.1).toInt64)) = 0 then
          qa_fL_law_2116 L k23 x4 c342.2
        else
          some (false, c342.2)
    else
      some (false, c342.2)
noncomputable def qa_fL_law_2119 (L : Nat) (k23 : Int32 → qa_T → Option (Bool × qa_T)) (x4 : Int32) (σ : qa_T) : Option (Bool × qa_T) :=
    (qa_fX10_loadLeft σ).bind fun c348 =>
    if (qa_fX9_loadLeft σ) = c348.1 then
      qa_fL_law_2682 L k23 x4 c348.2
    else
      some (false, c348.2)
noncomputable def qa_fL_law_2132 (L : Nat) (k23 : Int32 → qa_T → Option (Bool × qa_T)) (x4 : Int32) (σ : qa_T) : Option (Bool × qa_T) :=
    (qa_fX10_asked σ).bind fun c352 =>
    if (qa_fX9_asked σ) = c352.1 then
      qa_fL_law_2682 L k23 x4 c352.2
    else
      some (false, c352.2)
noncomputable def qa_fL_law_2198 (L : Nat) (k23 : Int32 → qa_T → Option (Bool × qa_T)) (x4 : Int32) (σ : qa_T) : Option (Bool × qa_T) :=
    qa_fL_law_2682 L k23 x4 σ
noncomputable def qa_fL_law_2145 (L : Nat) (k23 : Int32 → qa_T → Option (Bool × qa_T)) (x4 : Int32) (σ : qa_T) : Option (Bool × qa_T) :=
    if ¬ qa_in (x4 + (Int32.ofInt 1)) L = true then none else
    (qa_fL_askedAt (σ.1 (0, 0) ((x4 + (Int32.ofInt 1))).toNatClampNeg) σ).bind fun c357 =>
    if ¬ qa_in (x4 + (Int32.ofInt 1)) L = true then none else
    (qa_fX10_askedAt (c357.2.1 (0, 0) ((x4 + (Int32.ofInt 1))).toNatClampNeg) c357.2).bind fun c360 =>
    if (qa_fX10_thrown c360.2) = c357.1 then
      if ¬ c357.1 = 0 then
        qa_fL_law_2198 L k23 x4 c360.2
      else
        if (lg_cmp (c360.2.2 (10, 29) ((Int32.ofInt 0)).toNatClampNeg) ((c360.1).toInt64)) = 0 then
          qa_fL_law_2198 L k23 x4 c360.2
        else
          some (false, c360.2)
    else
      some (false, c360.2)
noncomputable def qa_fL_law_2201 (L : Nat) (k23 : Int32 → qa_T → Option (Bool × qa_T)) (x4 : Int32) (σ : qa_T) : Option (Bool × qa_T) :=
    (qa_fX9_takenBySlides σ).bind fun c366 =>
    (qa_fX10_takenBySlides σ).bind fun c368 =>
    if c366 = c368.1 then
      qa_fL_law_2682 L k23 x4 c368.2
    else
      some (false, c368.2)
noncomputable def qa_fL_law_2214 (L : Nat) (k23 : Int32 → qa_T → Option (Bool × qa_T)) (x4 : Int32) (σ : qa_T) : Option (Bool × qa_T) :=
    (qa_fX10_takenByAccount σ).bind fun c372 =>
    if (qa_fX9_takenByAccount σ) = c372.1 then
      qa_fL_law_2682 L k23 x4 c372.2
    else
      some (false, c372.2)
noncomputable def qa_fL_law_2227 (L : Nat) (k23 : Int32 → qa_T → Option (Bool × qa_T)) (x4 : Int32) (σ : qa_T) : Option (Bool × qa_T) :=
    (qa_fX10_memory σ).bind fun c376 =>
    if (qa_fX9_memory σ) = c376.1 then
      qa_fL_law_2682 L k23 x4 c376.2
    else
      some (false, c376.2)
noncomputable def qa_fL_law_2240 (L : Nat) (k23 : Int32 → qa_T → Option (Bool × qa_T)) (x4 : Int32) (σ : qa_T) : Option (Bool × qa_T) :=
    (qa_fX10_ahead σ).bind fun c380 =>
    if (qa_fX9_ahead σ) = c380.1 then
      qa_fL_law_2682 L k23 x4 c380.2
    else
      some (false, c380.2)
noncomputable def qa_fL_law_2253 (L : Nat) (k23 : Int32 → qa_T → Option (Bool × qa_T)) (x4 : Int32) (σ : qa_T) : Option (Bool × qa_T) :=
    (qa_fX10_order σ).bind fun c384 =>
    if (qa_fX9_order σ) = c384.1 then
      qa_fL_law_2682 L k23 x4 c384.2
    else
      some (false, c384.2)
noncomputable def qa_fL_law_2266 (L : Nat) (k23 : Int32 → qa_T → Option (Bool × qa_T)) (x4 : Int32) (σ : qa_T) : Option (Bool × qa_T) :=
    (qa_fX10_glow σ).bind fun c388 =>
    if (qa_fX9_glow σ) = c388.1 then
      qa_fL_law_2682 L k23 x4 c388.2
    else
      some (false, c388.2)
noncomputable def qa_fL_law_2279 (L : Nat) (k23 : Int32 → qa_T → Option (Bool × qa_T)) (x4 : Int32) (σ : qa_T) : Option (Bool × qa_T) :=
    (qa_fX10_pace σ).bind fun c392 =>
    if (qa_fX9_pace σ) = c392.1 then
      qa_fL_law_2682 L k23 x4 c392.2
    else
      some (false, c392.2)
noncomputable def qa_fL_law_2333 (L : Nat) (k23 : Int32 → qa_T → Option (Bool × qa_T)) (x4 : Int32) (σ : qa_T) : Option (Bool × qa_T) :=
    qa_fL_law_2682 L k23 x4 σ
noncomputable def qa_fL_law_2292 (L : Nat) (k23 : Int32 → qa_T → Option (Bool × qa_T)) (x4 : Int32) (σ : qa_T) : Option (Bool × qa_T) :=
    (qa_fL_ticksToShowByTicks σ).bind fun c396 =>
    (qa_fX10_ticksToShowByTicks c396.2).bind fun c398 =>
    if (qa_fX10_thrown c398.2) = c396.1 then
      if ¬ c396.1 = 0 then
        qa_fL_law_2333 L k23 x4 c398.2
      else
        if (lg_cmp (c398.2.2 (10, 29) ((Int32.ofInt 0)).toNatClampNeg) ((c398.1).toInt64)) = 0 then
          qa_fL_law_2333 L k23 x4 c398.2
        else
          some (false, c398.2)
    else
      some (false, c398.2)
noncomputable def qa_fL_law_2377 (L : Nat) (k23 : Int32 → qa_T → Option (Bool × qa_T)) (x4 : Int32) (σ : qa_T) : Option (Bool × qa_T) :=
    qa_fL_law_2682 L k23 x4 σ
noncomputable def qa_fL_law_2336 (L : Nat) (k23 : Int32 → qa_T → Option (Bool × qa_T)) (x4 : Int32) (σ : qa_T) : Option (Bool × qa_T) :=
    (qa_fL_ticksToShowBySums σ).bind fun c404 =>
    (qa_fX10_ticksToShowBySums c404.2).bind fun c406 =>
    if (qa_fX10_thrown c406.2) = c404.1 then
      if ¬ c404.1 = 0 then
        qa_fL_law_2377 L k23 x4 c406.2
      else
        if (lg_cmp (c406.2.2 (10, 29) ((Int32.ofInt 0)).toNatClampNeg) ((c406.1).toInt64)) = 0 then
          qa_fL_law_2377 L k23 x4 c406.2
        else
          some (false, c406.2)
    else
      some (false, c406.2)
noncomputable def qa_fL_law_2433 (L : Nat) (k23 : Int32 → qa_T → Option (Bool × qa_T)) (x4 : Int32) (σ : qa_T) : Option (Bool × qa_T) :=
    qa_fL_law_2682 L k23 x4 σ
noncomputable def qa_fL_law_2380 (L : Nat) (k23 : Int32 → qa_T → Option (Bool × qa_T)) (x4 : Int32) (σ : qa_T) : Option (Bool × qa_T) :=
    if ¬ qa_in (x4 + (Int32.ofInt 1)) L = true then none else
    (qa_fL_burningsFor (σ.1 (0, 0) ((x4 + (Int32.ofInt 1))).toNatClampNeg) σ).bind fun c413 =>
    if ¬ qa_in (x4 + (Int32.ofInt 1)) L = true then none else
    (qa_fX10_burningsFor (c413.2.1 (0, 0) ((x4 + (Int32.ofInt 1))).toNatClampNeg) c413.2).bind fun c416 =>
    if (qa_fX10_thrown c416.2) = c413.1 then
      if ¬ c413.1 = 0 then
        qa_fL_law_2433 L k23 x4 c416.2
      else
        if (lg_cmp (c416.2.2 (10, 29) ((Int32.ofInt 0)).toNatClampNeg) ((c416.1).toInt64)) = 0 then
          qa_fL_law_2433 L k23 x4 c416.2
        else
          some (false, c416.2)
    else
      some (false, c416.2)
noncomputable def qa_fL_law_2489 (L : Nat) (k23 : Int32 → qa_T → Option (Bool × qa_T)) (x4 : Int32) (σ : qa_T) : Option (Bool × qa_T) :=
    qa_fL_law_2682 L k23 x4 σ
noncomputable def qa_fL_law_2436 (L : Nat) (k23 : Int32 → qa_T → Option (Bool × qa_T)) (x4 : Int32) (σ : qa_T) : Option (Bool × qa_T) :=
    if ¬ qa_in (x4 + (Int32.ofInt 1)) L = true then none else
    (qa_fL_missesWith (σ.1 (0, 0) ((x4 + (Int32.ofInt 1))).toNatClampNeg) σ).bind fun c423 =>
    if ¬ qa_in (x4 + (Int32.ofInt 1)) L = true then none else
    (qa_fX10_missesWith (c423.2.1 (0, 0) ((x4 + (Int32.ofInt 1))).toNatClampNeg) c423.2).bind fun c426 =>
    if (qa_fX10_thrown c426.2) = c423.1 then
      if ¬ c423.1 = 0 then
        qa_fL_law_2489 L k23 x4 c426.2
      else
        if (lg_cmp (c426.2.2 (10, 29) ((Int32.ofInt 0)).toNatClampNeg) ((c426.1).toInt64)) = 0 then
          qa_fL_law_2489 L k23 x4 c426.2
        else
          some (false, c426.2)
    else
      some (false, c426.2)
noncomputable def qa_fL_law_2533 (L : Nat) (k23 : Int32 → qa_T → Option (Bool × qa_T)) (x4 : Int32) (σ : qa_T) : Option (Bool × qa_T) :=
    qa_fL_law_2682 L k23 x4 σ
noncomputable def qa_fL_law_2492 (L : Nat) (k23 : Int32 → qa_T → Option (Bool × qa_T)) (x4 : Int32) (σ : qa_T) : Option (Bool × qa_T) :=
    (qa_fL_bestOrder σ).bind fun c432 =>
    (qa_fX10_bestOrder c432.2).bind fun c434 =>
    if (qa_fX10_thrown c434.2) = c432.1 then
      if ¬ c432.1 = 0 then
        qa_fL_law_2533 L k23 x4 c434.2
      else
        if (lg_cmp (c434.2.2 (10, 29) ((Int32.ofInt 0)).toNatClampNeg) ((c434.1).toInt64)) = 0 then
          qa_fL_law_2533 L k23 x4 c434.2
        else
          some (false, c434.2)
    else
      some (false, c434.2)
noncomputable def qa_fL_law_2536 (L : Nat) (k23 : Int32 → qa_T → Option (Bool × qa_T)) (x4 : Int32) (σ : qa_T) : Option (Bool × qa_T) :=
    (qa_fX10_time σ).bind fun c440 =>
    if (qa_fX9_time σ) = c440.1 then
      qa_fL_law_2682 L k23 x4 c440.2
    else
      some (false, c440.2)
noncomputable def qa_fL_law_2549 (L : Nat) (k23 : Int32 → qa_T → Option (Bool × qa_T)) (x4 : Int32) (σ : qa_T) : Option (Bool × qa_T) :=
    (qa_fX10_hits σ).bind fun c444 =>
    if (qa_fX9_hits σ) = c444.1 then
      qa_fL_law_2682 L k23 x4 c444.2
    else
      some (false, c444.2)
noncomputable def qa_fL_law_2562 (L : Nat) (k23 : Int32 → qa_T → Option (Bool × qa_T)) (x4 : Int32) (σ : qa_T) : Option (Bool × qa_T) :=
    (qa_fX10_misses σ).bind fun c448 =>
    if (qa_fX9_misses σ) = c448.1 then
      qa_fL_law_2682 L k23 x4 c448.2
    else
      some (false, c448.2)
noncomputable def qa_fL_law_2575 (L : Nat) (k23 : Int32 → qa_T → Option (Bool × qa_T)) (x4 : Int32) (σ : qa_T) : Option (Bool × qa_T) :=
    (qa_fX10_loads σ).bind fun c452 =>
    if (qa_fX9_loads σ) = c452.1 then
      qa_fL_law_2682 L k23 x4 c452.2
    else
      some (false, c452.2)
noncomputable def qa_fL_law_2588 (L : Nat) (k23 : Int32 → qa_T → Option (Bool × qa_T)) (x4 : Int32) (σ : qa_T) : Option (Bool × qa_T) :=
    (qa_fX10_warmLoads σ).bind fun c456 =>
    if (qa_fX9_warmLoads σ) = c456.1 then
      qa_fL_law_2682 L k23 x4 c456.2
    else
      some (false, c456.2)
noncomputable def qa_fL_law_2601 (L : Nat) (k23 : Int32 → qa_T → Option (Bool × qa_T)) (x4 : Int32) (σ : qa_T) : Option (Bool × qa_T) :=
    (qa_fX10_burnings σ).bind fun c460 =>
    if (qa_fX9_burnings σ) = c460.1 then
      qa_fL_law_2682 L k23 x4 c460.2
    else
      some (false, c460.2)
noncomputable def qa_fL_law_2614 (L : Nat) (k23 : Int32 → qa_T → Option (Bool × qa_T)) (x4 : Int32) (σ : qa_T) : Option (Bool × qa_T) :=
    (qa_fX10_waited σ).bind fun c464 =>
    if (qa_fX9_waited σ) = c464.1 then
      qa_fL_law_2682 L k23 x4 c464.2
    else
      some (false, c464.2)
noncomputable def qa_fL_law_2665 (L : Nat) (k23 : Int32 → qa_T → Option (Bool × qa_T)) (x4 : Int32) (σ : qa_T) : Option (Bool × qa_T) :=
    qa_fL_law_2682 L k23 x4 σ
noncomputable def qa_fL_law_2663 (L : Nat) (σ : qa_T) : Option (Bool × qa_T) :=
    some (false, σ)
noncomputable def qa_fL_law_2627 (L : Nat) (k23 : Int32 → qa_T → Option (Bool × qa_T)) (x4 : Int32) (σ : qa_T) : Option (Bool × qa_T) :=
    (qa_fX9_hitShare σ).bind fun c468 =>
    (qa_fX10_hitShare σ).bind fun c470 =>
    if (Op.cmpValue (FP.dcmp c468 c470.1) .l) = 0 then
      qa_fL_law_2665 L k23 x4 c470.2
    else
      if (Op.cmpValue (FP.dcmp c468 c468) .l) = 0 then
        qa_fL_law_2663 L c470.2
      else
        if ¬ (Op.cmpValue (FP.dcmp c470.1 c470.1) .l) = 0 then
          qa_fL_law_2665 L k23 x4 c470.2
        else
          qa_fL_law_2663 L c470.2
noncomputable def qa_fL_law_2668 (L : Nat) (k23 : Int32 → qa_T → Option (Bool × qa_T)) (x4 : Int32) (σ : qa_T) : Option (Bool × qa_T) :=
    (qa_fX9_digest σ).bind fun c476 =>
    (qa_fX10_digest c476.2).bind fun c478 =>
    if (lg_cmp c476.1 c478.1) = 0 then
      qa_fL_law_2682 L k23 x4 c478.2
    else
      some (false, c478.2)
noncomputable def qa_fL_law_23 (L : Nat) : Nat → Int32 → qa_T → Option (Bool × qa_T)
  | 0, _, _ => none
  | n + 1, x4, σ =>
    if (Int32.ofNat L - (Int32.ofInt 4)) < x4 then
      some (true, σ)
    else
      if ¬ qa_in x4 L = true then none else
      let v3 : Int32 := ((σ.1 (0, 0) (x4).toNatClampNeg) &&& ((Int8.ofInt 63).toInt32))
      if v3 = 0 then
        qa_fL_law_304 L (qa_fL_law_23 L n) x4 σ
      else
      if v3 = 1 then
        qa_fL_law_384 L (qa_fL_law_23 L n) x4 σ
      else
      if v3 = 2 then
        qa_fL_law_452 L (qa_fL_law_23 L n) x4 σ
      else
      if v3 = 3 then
        qa_fL_law_508 L (qa_fL_law_23 L n) x4 σ
      else
      if v3 = 4 then
        qa_fL_law_559 L (qa_fL_law_23 L n) x4 σ
      else
      if v3 = 5 then
        qa_fL_law_615 L (qa_fL_law_23 L n) x4 σ
      else
      if v3 = 6 then
        qa_fL_law_671 L (qa_fL_law_23 L n) x4 σ
      else
      if v3 = 7 then
        qa_fL_law_727 L (qa_fL_law_23 L n) x4 σ
      else
      if v3 = 8 then
        qa_fL_law_783 L (qa_fL_law_23 L n) x4 σ
      else
      if v3 = 9 then
        qa_fL_law_839 L (qa_fL_law_23 L n) x4 σ
      else
      if v3 = 10 then
        qa_fL_law_895 L (qa_fL_law_23 L n) x4 σ
      else
      if v3 = 11 then
        qa_fL_law_951 L (qa_fL_law_23 L n) x4 σ
      else
      if v3 = 12 then
        qa_fL_law_1007 L (qa_fL_law_23 L n) x4 σ
      else
      if v3 = 13 then
        qa_fL_law_1063 L (qa_fL_law_23 L n) x4 σ
      else
      if v3 = 14 then
        qa_fL_law_1076 L (qa_fL_law_23 L n) x4 σ
      else
      if v3 = 15 then
        qa_fL_law_1089 L (qa_fL_law_23 L n) x4 σ
      else
      if v3 = 16 then
        qa_fL_law_1133 L (qa_fL_law_23 L n) x4 σ
      else
      if v3 = 17 then
        qa_fL_law_1169 L (qa_fL_law_23 L n) x4 σ
      else
      if v3 = 18 then
        qa_fL_law_1205 L (qa_fL_law_23 L n) x4 σ
      else
      if v3 = 19 then
        qa_fL_law_1229 L (qa_fL_law_23 L n) x4 σ
      else
      if v3 = 20 then
        qa_fL_law_1242 L (qa_fL_law_23 L n) x4 σ
      else
      if v3 = 21 then
        qa_fL_law_1255 L (qa_fL_law_23 L n) x4 σ
      else
      if v3 = 22 then
        qa_fL_law_1311 L (qa_fL_law_23 L n) x4 σ
      else
      if v3 = 23 then
        qa_fL_law_1367 L (qa_fL_law_23 L n) x4 σ
      else
      if v3 = 24 then
        qa_fL_law_1423 L (qa_fL_law_23 L n) x4 σ
      else
      if v3 = 25 then
        qa_fL_law_1486 L (qa_fL_law_23 L n) x4 σ
      else
      if v3 = 26 then
        qa_fL_law_1549 L (qa_fL_law_23 L n) x4 σ
      else
      if v3 = 27 then
        qa_fL_law_1605 L (qa_fL_law_23 L n) x4 σ
      else
      if v3 = 28 then
        qa_fL_law_1661 L (qa_fL_law_23 L n) x4 σ
      else
      if v3 = 29 then
        qa_fL_law_1717 L (qa_fL_law_23 L n) x4 σ
      else
      if v3 = 30 then
        qa_fL_law_1773 L (qa_fL_law_23 L n) x4 σ
      else
      if v3 = 31 then
        qa_fL_law_1786 L (qa_fL_law_23 L n) x4 σ
      else
      if v3 = 32 then
        qa_fL_law_1842 L (qa_fL_law_23 L n) x4 σ
      else
      if v3 = 33 then
        qa_fL_law_1886 L (qa_fL_law_23 L n) x4 σ
      else
      if v3 = 34 then
        qa_fL_law_1930 L (qa_fL_law_23 L n) x4 σ
      else
      if v3 = 35 then
        qa_fL_law_1974 L (qa_fL_law_23 L n) x4 σ
      else
      if v3 = 36 then
        qa_fL_law_1987 L (qa_fL_law_23 L n) x4 σ
      else
      if v3 = 37 then
        qa_fL_law_2031 L (qa_fL_law_23 L n) x4 σ
      else
      if v3 = 38 then
        qa_fL_law_2075 L (qa_fL_law_23 L n) x4 σ
      else
      if v3 = 39 then
        qa_fL_law_2119 L (qa_fL_law_23 L n) x4 σ
      else
      if v3 = 40 then
        qa_fL_law_2132 L (qa_fL_law_23 L n) x4 σ
      else
      if v3 = 41 then
        qa_fL_law_2145 L (qa_fL_law_23 L n) x4 σ
      else
      if v3 = 42 then
        qa_fL_law_2201 L (qa_fL_law_23 L n) x4 σ
      else
      if v3 = 43 then
        qa_fL_law_2214 L (qa_fL_law_23 L n) x4 σ
      else
      if v3 = 44 then
        qa_fL_law_2227 L (qa_fL_law_23 L n) x4 σ
      else
      if v3 = 45 then
        qa_fL_law_2240 L (qa_fL_law_23 L n) x4 σ
      else
      if v3 = 46 then
        qa_fL_law_2253 L (qa_fL_law_23 L n) x4 σ
      else
      if v3 = 47 then
        qa_fL_law_2266 L (qa_fL_law_23 L n) x4 σ
      else
      if v3 = 48 then
        qa_fL_law_2279 L (qa_fL_law_23 L n) x4 σ
      else
      if v3 = 49 then
        qa_fL_law_2292 L (qa_fL_law_23 L n) x4 σ
      else
      if v3 = 50 then
        qa_fL_law_2336 L (qa_fL_law_23 L n) x4 σ
      else
      if v3 = 51 then
        qa_fL_law_2380 L (qa_fL_law_23 L n) x4 σ
      else
      if v3 = 52 then
        qa_fL_law_2436 L (qa_fL_law_23 L n) x4 σ
      else
      if v3 = 53 then
        qa_fL_law_2492 L (qa_fL_law_23 L n) x4 σ
      else
      if v3 = 54 then
        qa_fL_law_2536 L (qa_fL_law_23 L n) x4 σ
      else
      if v3 = 55 then
        qa_fL_law_2549 L (qa_fL_law_23 L n) x4 σ
      else
      if v3 = 56 then
        qa_fL_law_2562 L (qa_fL_law_23 L n) x4 σ
      else
      if v3 = 57 then
        qa_fL_law_2575 L (qa_fL_law_23 L n) x4 σ
      else
      if v3 = 58 then
        qa_fL_law_2588 L (qa_fL_law_23 L n) x4 σ
      else
      if v3 = 59 then
        qa_fL_law_2601 L (qa_fL_law_23 L n) x4 σ
      else
      if v3 = 60 then
        qa_fL_law_2614 L (qa_fL_law_23 L n) x4 σ
      else
      if v3 = 61 then
        qa_fL_law_2627 L (qa_fL_law_23 L n) x4 σ
      else
      if v3 = 62 then
        qa_fL_law_2668 L (qa_fL_law_23 L n) x4 σ
      else
        qa_fL_law_2682 L (qa_fL_law_23 L n) x4 σ
end
section
/-! numbers: ints as whole numbers -/
section QZB
theorem qz_le (a b : Int32) : a ≤ b ↔ a.toInt ≤ b.toInt := Int32.le_iff_toInt_le
theorem qz_lt (a b : Int32) : a < b ↔ a.toInt < b.toInt := Int32.lt_iff_toInt_lt
theorem qz_eq (a b : Int32) : a = b ↔ a.toInt = b.toInt := Int32.toInt_inj.symm
theorem qz_rg (a : Int32) : -2147483648 ≤ a.toInt ∧ a.toInt < 2147483648 := by
  have h1 := Int32.le_toInt a
  have h2 := Int32.toInt_lt a
  constructor <;> omega
theorem qz_bm {x : Int} (h1 : -2147483648 ≤ x) (h2 : x < 2147483648) : x.bmod (2 ^ 32) = x := by
  apply Int.bmod_eq_of_le <;> omega
theorem qz_add {a b : Int32} (h1 : -2147483648 ≤ a.toInt + b.toInt) (h2 : a.toInt + b.toInt < 2147483648) : (a + b).toInt = a.toInt + b.toInt := by
  rw [Int32.toInt_add]
  exact qz_bm h1 h2
theorem qz_sub {a b : Int32} (h1 : -2147483648 ≤ a.toInt - b.toInt) (h2 : a.toInt - b.toInt < 2147483648) : (a - b).toInt = a.toInt - b.toInt := by
  rw [Int32.toInt_sub]
  exact qz_bm h1 h2
theorem qz_mul {a b : Int32} (h1 : -2147483648 ≤ a.toInt * b.toInt) (h2 : a.toInt * b.toInt < 2147483648) : (a * b).toInt = a.toInt * b.toInt := by
  rw [Int32.toInt_mul]
  exact qz_bm h1 h2
theorem qz_neg {a : Int32} (h1 : -2147483648 < a.toInt) : (-a).toInt = -a.toInt := by
  rw [Int32.toInt_neg]
  have := qz_rg a
  exact qz_bm (by omega) (by omega)
theorem qz_nI {k : Nat} (h : k < 2147483648) : (nI k).toInt = (k : Int) := nI_toInt h
theorem qz_div {a b : Int32} (h1 : 0 ≤ a.toInt) (h2 : 0 < b.toInt) : (a / b).toInt = a.toInt / b.toInt := by
  rw [Int32.toInt_div, Int.tdiv_eq_ediv_of_nonneg h1]
  have h3 : a.toInt / b.toInt ≤ a.toInt := Int.ediv_le_self _ h1
  have h4 : 0 ≤ a.toInt / b.toInt := Int.ediv_nonneg h1 (by omega)
  have := qz_rg a
  exact qz_bm (by omega) (by omega)
theorem qz_mod {a b : Int32} (h1 : 0 ≤ a.toInt) (h2 : 0 < b.toInt) : (a - a / b * b).toInt = a.toInt % b.toInt := by
  have h5 := qz_div h1 h2
  have h6 : a.toInt / b.toInt * b.toInt ≤ a.toInt := Int.ediv_mul_le _ (by omega)
  have h4 : 0 ≤ a.toInt / b.toInt := Int.ediv_nonneg h1 (by omega)
  have h7 : 0 ≤ a.toInt / b.toInt * b.toInt := Int.mul_nonneg h4 (by omega)
  have := qz_rg a
  have h8 : (a / b * b).toInt = a.toInt / b.toInt * b.toInt := by
    rw [qz_mul, h5]
    · rw [h5]; omega
    · rw [h5]; omega
  rw [qz_sub, h8]
  · have := Int.mul_ediv_add_emod a.toInt b.toInt
    rw [Int.mul_comm] at this
    omega
  · rw [h8]; omega
  · rw [h8]; omega
/-- an int that is not below 0, as a natural number -/
def qn (x : Int32) : Nat := x.toInt.toNat
theorem qn_def (x : Int32) : x.toNatClampNeg = qn x := rfl
theorem qn_nI {k : Nat} (h : k < 2147483648) : qn (nI k) = k := by
  unfold qn
  rw [qz_nI h]
  rfl
theorem qn_of {x : Int32} (h : 0 ≤ x.toInt) : x = nI (qn x) := by
  have := qz_rg x
  rw [qz_eq, qz_nI (by unfold qn; omega)]
  unfold qn
  omega
theorem qn_lt {x : Int32} : qn x < 2147483648 := by
  have := qz_rg x
  unfold qn
  omega
theorem qn_int {x : Int32} (h : 0 ≤ x.toInt) : (qn x : Int) = x.toInt := by
  unfold qn
  omega
theorem qz_in {i : Int32} {n : Nat} : qa_in i n = true ↔ 0 ≤ i.toInt ∧ i.toInt < n := by
  rw [← vp_in_iff]
  unfold qa_in vp_in
  exact decide_eq_true_iff
theorem qz_if {α : Type} {i : Int32} {n : Nat} {a b : α} (h : 0 ≤ i.toInt ∧ i.toInt < n) : (if ¬ qa_in i n = true then a else b) = b := if_neg (fun t => t (qz_in.mpr h))
theorem qz_ifn {α : Type} {k n : Nat} {a b : α} (h : k < n) (hn : n < 2147483648) : (if ¬ qa_in (nI k) n = true then a else b) = b := qz_if ⟨by rw [qz_nI (by omega)]; omega, by rw [qz_nI (by omega)]; omega⟩
theorem qz_ue {f : Nat → Int32} {k j : Nat} {x : Int32} (h : j = k) : upd f k x j = x := if_pos h
theorem qz_uf {f g : Nat → Int32} (h : ∀ i, f i = g i) : f = g := funext h
theorem qz_us {f : Nat → Int32} {k : Nat} {x : Int32} (h : x = f k) : upd f k x = f := by
  funext i
  unfold upd
  by_cases e : i = k
  · rw [if_pos e, e, h]
  · rw [if_neg e]
end QZB
end
section
/-! the constants of the program (written by wip/tools/eq.py) -/
theorem qk_am1 : Int32.ofInt (-1) = (-1 : Int32) := rfl
theorem qk_a0 : Int32.ofInt (0) = (0 : Int32) := rfl
theorem qk_a1 : Int32.ofInt (1) = (1 : Int32) := rfl
theorem qk_a2 : Int32.ofInt (2) = (2 : Int32) := rfl
theorem qk_a3 : Int32.ofInt (3) = (3 : Int32) := rfl
theorem qk_a4 : Int32.ofInt (4) = (4 : Int32) := rfl
theorem qk_a5 : Int32.ofInt (5) = (5 : Int32) := rfl
theorem qk_b6 : (Int8.ofInt 6).toInt32 = (6 : Int32) := rfl
theorem qk_b7 : (Int8.ofInt 7).toInt32 = (7 : Int32) := rfl
theorem qk_b10 : (Int8.ofInt 10).toInt32 = (10 : Int32) := rfl
theorem qk_b15 : (Int8.ofInt 15).toInt32 = (15 : Int32) := rfl
theorem qk_b16 : (Int8.ofInt 16).toInt32 = (16 : Int32) := rfl
theorem qk_b20 : (Int8.ofInt 20).toInt32 = (20 : Int32) := rfl
theorem qk_b24 : (Int8.ofInt 24).toInt32 = (24 : Int32) := rfl
theorem qk_b25 : (Int8.ofInt 25).toInt32 = (25 : Int32) := rfl
theorem qk_b33 : (Int8.ofInt 33).toInt32 = (33 : Int32) := rfl
theorem qk_b48 : (Int8.ofInt 48).toInt32 = (48 : Int32) := rfl
theorem qk_b50 : (Int8.ofInt 50).toInt32 = (50 : Int32) := rfl
theorem qk_b52 : (Int8.ofInt 52).toInt32 = (52 : Int32) := rfl
theorem qk_b57 : (Int8.ofInt 57).toInt32 = (57 : Int32) := rfl
theorem qk_b59 : (Int8.ofInt 59).toInt32 = (59 : Int32) := rfl
theorem qk_b60 : (Int8.ofInt 60).toInt32 = (60 : Int32) := rfl
theorem qk_b97 : (Int8.ofInt 97).toInt32 = (97 : Int32) := rfl
theorem qk_b98 : (Int8.ofInt 98).toInt32 = (98 : Int32) := rfl
theorem qk_b100 : (Int8.ofInt 100).toInt32 = (100 : Int32) := rfl
theorem qk_b110 : (Int8.ofInt 110).toInt32 = (110 : Int32) := rfl
theorem qk_b112 : (Int8.ofInt 112).toInt32 = (112 : Int32) := rfl
theorem qk_b113 : (Int8.ofInt 113).toInt32 = (113 : Int32) := rfl
theorem qk_b114 : (Int8.ofInt 114).toInt32 = (114 : Int32) := rfl
theorem qk_b116 : (Int8.ofInt 116).toInt32 = (116 : Int32) := rfl
theorem qk_b126 : (Int8.ofInt 126).toInt32 = (126 : Int32) := rfl
theorem qk_c138 : (Int16.ofInt 138).toInt32 = (138 : Int32) := rfl
theorem qk_c139 : (Int16.ofInt 139).toInt32 = (139 : Int32) := rfl
theorem qk_c140 : (Int16.ofInt 140).toInt32 = (140 : Int32) := rfl
theorem qk_c141 : (Int16.ofInt 141).toInt32 = (141 : Int32) := rfl
theorem qk_c142 : (Int16.ofInt 142).toInt32 = (142 : Int32) := rfl
theorem qk_c143 : (Int16.ofInt 143).toInt32 = (143 : Int32) := rfl
theorem qk_c144 : (Int16.ofInt 144).toInt32 = (144 : Int32) := rfl
theorem qk_c145 : (Int16.ofInt 145).toInt32 = (145 : Int32) := rfl
theorem qk_c146 : (Int16.ofInt 146).toInt32 = (146 : Int32) := rfl
theorem qk_c147 : (Int16.ofInt 147).toInt32 = (147 : Int32) := rfl
theorem qk_c150 : (Int16.ofInt 150).toInt32 = (150 : Int32) := rfl
theorem qk_c163 : (Int16.ofInt 163).toInt32 = (163 : Int32) := rfl
theorem qk_c164 : (Int16.ofInt 164).toInt32 = (164 : Int32) := rfl
theorem qk_c165 : (Int16.ofInt 165).toInt32 = (165 : Int32) := rfl
theorem qk_c166 : (Int16.ofInt 166).toInt32 = (166 : Int32) := rfl
theorem qk_c167 : (Int16.ofInt 167).toInt32 = (167 : Int32) := rfl
theorem qk_c168 : (Int16.ofInt 168).toInt32 = (168 : Int32) := rfl
theorem qk_c169 : (Int16.ofInt 169).toInt32 = (169 : Int32) := rfl
theorem qk_c170 : (Int16.ofInt 170).toInt32 = (170 : Int32) := rfl
theorem qk_c171 : (Int16.ofInt 171).toInt32 = (171 : Int32) := rfl
theorem qk_c172 : (Int16.ofInt 172).toInt32 = (172 : Int32) := rfl
theorem qk_c173 : (Int16.ofInt 173).toInt32 = (173 : Int32) := rfl
theorem qk_c174 : (Int16.ofInt 174).toInt32 = (174 : Int32) := rfl
theorem qk_c175 : (Int16.ofInt 175).toInt32 = (175 : Int32) := rfl
theorem qk_c176 : (Int16.ofInt 176).toInt32 = (176 : Int32) := rfl
theorem qk_c400 : (Int16.ofInt 400).toInt32 = (400 : Int32) := rfl
theorem qk_c880 : (Int16.ofInt 880).toInt32 = (880 : Int32) := rfl
theorem qk_c1000 : (Int16.ofInt 1000).toInt32 = (1000 : Int32) := rfl
theorem qk_c1023 : (Int16.ofInt 1023).toInt32 = (1023 : Int32) := rfl
theorem qk_n0 : (0 : Int32).toNatClampNeg = 0 := rfl
theorem qk_n1 : (1 : Int32).toNatClampNeg = 1 := rfl
theorem qk_n2 : (2 : Int32).toNatClampNeg = 2 := rfl
theorem qk_n3 : (3 : Int32).toNatClampNeg = 3 := rfl
theorem qk_n4 : (4 : Int32).toNatClampNeg = 4 := rfl
theorem qk_n5 : (5 : Int32).toNatClampNeg = 5 := rfl
theorem qk_n6 : (6 : Int32).toNatClampNeg = 6 := rfl
theorem qk_n7 : (7 : Int32).toNatClampNeg = 7 := rfl
theorem qk_n10 : (10 : Int32).toNatClampNeg = 10 := rfl
theorem qk_n15 : (15 : Int32).toNatClampNeg = 15 := rfl
theorem qk_n16 : (16 : Int32).toNatClampNeg = 16 := rfl
theorem qk_n20 : (20 : Int32).toNatClampNeg = 20 := rfl
theorem qk_n24 : (24 : Int32).toNatClampNeg = 24 := rfl
theorem qk_n25 : (25 : Int32).toNatClampNeg = 25 := rfl
theorem qk_n33 : (33 : Int32).toNatClampNeg = 33 := rfl
theorem qk_n48 : (48 : Int32).toNatClampNeg = 48 := rfl
theorem qk_n50 : (50 : Int32).toNatClampNeg = 50 := rfl
theorem qk_n52 : (52 : Int32).toNatClampNeg = 52 := rfl
theorem qk_n57 : (57 : Int32).toNatClampNeg = 57 := rfl
theorem qk_n59 : (59 : Int32).toNatClampNeg = 59 := rfl
theorem qk_n60 : (60 : Int32).toNatClampNeg = 60 := rfl
theorem qk_n97 : (97 : Int32).toNatClampNeg = 97 := rfl
theorem qk_n98 : (98 : Int32).toNatClampNeg = 98 := rfl
theorem qk_n100 : (100 : Int32).toNatClampNeg = 100 := rfl
theorem qk_n110 : (110 : Int32).toNatClampNeg = 110 := rfl
theorem qk_n112 : (112 : Int32).toNatClampNeg = 112 := rfl
theorem qk_n113 : (113 : Int32).toNatClampNeg = 113 := rfl
theorem qk_n114 : (114 : Int32).toNatClampNeg = 114 := rfl
theorem qk_n116 : (116 : Int32).toNatClampNeg = 116 := rfl
theorem qk_n126 : (126 : Int32).toNatClampNeg = 126 := rfl
theorem qk_n138 : (138 : Int32).toNatClampNeg = 138 := rfl
theorem qk_n139 : (139 : Int32).toNatClampNeg = 139 := rfl
theorem qk_n140 : (140 : Int32).toNatClampNeg = 140 := rfl
theorem qk_n141 : (141 : Int32).toNatClampNeg = 141 := rfl
theorem qk_n142 : (142 : Int32).toNatClampNeg = 142 := rfl
theorem qk_n143 : (143 : Int32).toNatClampNeg = 143 := rfl
theorem qk_n144 : (144 : Int32).toNatClampNeg = 144 := rfl
theorem qk_n145 : (145 : Int32).toNatClampNeg = 145 := rfl
theorem qk_n146 : (146 : Int32).toNatClampNeg = 146 := rfl
theorem qk_n147 : (147 : Int32).toNatClampNeg = 147 := rfl
theorem qk_n150 : (150 : Int32).toNatClampNeg = 150 := rfl
theorem qk_n163 : (163 : Int32).toNatClampNeg = 163 := rfl
theorem qk_n164 : (164 : Int32).toNatClampNeg = 164 := rfl
theorem qk_n165 : (165 : Int32).toNatClampNeg = 165 := rfl
theorem qk_n166 : (166 : Int32).toNatClampNeg = 166 := rfl
theorem qk_n167 : (167 : Int32).toNatClampNeg = 167 := rfl
theorem qk_n168 : (168 : Int32).toNatClampNeg = 168 := rfl
theorem qk_n169 : (169 : Int32).toNatClampNeg = 169 := rfl
theorem qk_n170 : (170 : Int32).toNatClampNeg = 170 := rfl
theorem qk_n171 : (171 : Int32).toNatClampNeg = 171 := rfl
theorem qk_n172 : (172 : Int32).toNatClampNeg = 172 := rfl
theorem qk_n173 : (173 : Int32).toNatClampNeg = 173 := rfl
theorem qk_n174 : (174 : Int32).toNatClampNeg = 174 := rfl
theorem qk_n175 : (175 : Int32).toNatClampNeg = 175 := rfl
theorem qk_n176 : (176 : Int32).toNatClampNeg = 176 := rfl
theorem qk_n400 : (400 : Int32).toNatClampNeg = 400 := rfl
theorem qk_n880 : (880 : Int32).toNatClampNeg = 880 := rfl
theorem qk_n1000 : (1000 : Int32).toNatClampNeg = 1000 := rfl
theorem qk_n1023 : (1023 : Int32).toNatClampNeg = 1023 := rfl
theorem qk_tm1 : (-1 : Int32).toInt = -1 := rfl
theorem qk_t0 : (0 : Int32).toInt = 0 := rfl
theorem qk_t1 : (1 : Int32).toInt = 1 := rfl
theorem qk_t2 : (2 : Int32).toInt = 2 := rfl
theorem qk_t3 : (3 : Int32).toInt = 3 := rfl
theorem qk_t4 : (4 : Int32).toInt = 4 := rfl
theorem qk_t5 : (5 : Int32).toInt = 5 := rfl
theorem qk_t6 : (6 : Int32).toInt = 6 := rfl
theorem qk_t7 : (7 : Int32).toInt = 7 := rfl
theorem qk_t10 : (10 : Int32).toInt = 10 := rfl
theorem qk_t15 : (15 : Int32).toInt = 15 := rfl
theorem qk_t16 : (16 : Int32).toInt = 16 := rfl
theorem qk_t20 : (20 : Int32).toInt = 20 := rfl
theorem qk_t24 : (24 : Int32).toInt = 24 := rfl
theorem qk_t25 : (25 : Int32).toInt = 25 := rfl
theorem qk_t33 : (33 : Int32).toInt = 33 := rfl
theorem qk_t48 : (48 : Int32).toInt = 48 := rfl
theorem qk_t50 : (50 : Int32).toInt = 50 := rfl
theorem qk_t52 : (52 : Int32).toInt = 52 := rfl
theorem qk_t57 : (57 : Int32).toInt = 57 := rfl
theorem qk_t59 : (59 : Int32).toInt = 59 := rfl
theorem qk_t60 : (60 : Int32).toInt = 60 := rfl
theorem qk_t97 : (97 : Int32).toInt = 97 := rfl
theorem qk_t98 : (98 : Int32).toInt = 98 := rfl
theorem qk_t100 : (100 : Int32).toInt = 100 := rfl
theorem qk_t110 : (110 : Int32).toInt = 110 := rfl
theorem qk_t112 : (112 : Int32).toInt = 112 := rfl
theorem qk_t113 : (113 : Int32).toInt = 113 := rfl
theorem qk_t114 : (114 : Int32).toInt = 114 := rfl
theorem qk_t116 : (116 : Int32).toInt = 116 := rfl
theorem qk_t126 : (126 : Int32).toInt = 126 := rfl
theorem qk_t138 : (138 : Int32).toInt = 138 := rfl
theorem qk_t139 : (139 : Int32).toInt = 139 := rfl
theorem qk_t140 : (140 : Int32).toInt = 140 := rfl
theorem qk_t141 : (141 : Int32).toInt = 141 := rfl
theorem qk_t142 : (142 : Int32).toInt = 142 := rfl
theorem qk_t143 : (143 : Int32).toInt = 143 := rfl
theorem qk_t144 : (144 : Int32).toInt = 144 := rfl
theorem qk_t145 : (145 : Int32).toInt = 145 := rfl
theorem qk_t146 : (146 : Int32).toInt = 146 := rfl
theorem qk_t147 : (147 : Int32).toInt = 147 := rfl
theorem qk_t150 : (150 : Int32).toInt = 150 := rfl
theorem qk_t163 : (163 : Int32).toInt = 163 := rfl
theorem qk_t164 : (164 : Int32).toInt = 164 := rfl
theorem qk_t165 : (165 : Int32).toInt = 165 := rfl
theorem qk_t166 : (166 : Int32).toInt = 166 := rfl
theorem qk_t167 : (167 : Int32).toInt = 167 := rfl
theorem qk_t168 : (168 : Int32).toInt = 168 := rfl
theorem qk_t169 : (169 : Int32).toInt = 169 := rfl
theorem qk_t170 : (170 : Int32).toInt = 170 := rfl
theorem qk_t171 : (171 : Int32).toInt = 171 := rfl
theorem qk_t172 : (172 : Int32).toInt = 172 := rfl
theorem qk_t173 : (173 : Int32).toInt = 173 := rfl
theorem qk_t174 : (174 : Int32).toInt = 174 := rfl
theorem qk_t175 : (175 : Int32).toInt = 175 := rfl
theorem qk_t176 : (176 : Int32).toInt = 176 := rfl
theorem qk_t400 : (400 : Int32).toInt = 400 := rfl
theorem qk_t880 : (880 : Int32).toInt = 880 := rfl
theorem qk_t1000 : (1000 : Int32).toInt = 1000 := rfl
theorem qk_t1023 : (1023 : Int32).toInt = 1023 := rfl
theorem qk_i0 : (0 : Int32) = nI 0 := rfl
theorem qk_i1 : (1 : Int32) = nI 1 := rfl
theorem qk_i2 : (2 : Int32) = nI 2 := rfl
theorem qk_i3 : (3 : Int32) = nI 3 := rfl
theorem qk_i4 : (4 : Int32) = nI 4 := rfl
theorem qk_i5 : (5 : Int32) = nI 5 := rfl
theorem qk_i6 : (6 : Int32) = nI 6 := rfl
theorem qk_i7 : (7 : Int32) = nI 7 := rfl
theorem qk_i10 : (10 : Int32) = nI 10 := rfl
theorem qk_i15 : (15 : Int32) = nI 15 := rfl
theorem qk_i16 : (16 : Int32) = nI 16 := rfl
theorem qk_i20 : (20 : Int32) = nI 20 := rfl
theorem qk_i24 : (24 : Int32) = nI 24 := rfl
theorem qk_i25 : (25 : Int32) = nI 25 := rfl
theorem qk_i33 : (33 : Int32) = nI 33 := rfl
theorem qk_i48 : (48 : Int32) = nI 48 := rfl
theorem qk_i50 : (50 : Int32) = nI 50 := rfl
theorem qk_i52 : (52 : Int32) = nI 52 := rfl
theorem qk_i57 : (57 : Int32) = nI 57 := rfl
theorem qk_i59 : (59 : Int32) = nI 59 := rfl
theorem qk_i60 : (60 : Int32) = nI 60 := rfl
theorem qk_i97 : (97 : Int32) = nI 97 := rfl
theorem qk_i98 : (98 : Int32) = nI 98 := rfl
theorem qk_i100 : (100 : Int32) = nI 100 := rfl
theorem qk_i110 : (110 : Int32) = nI 110 := rfl
theorem qk_i112 : (112 : Int32) = nI 112 := rfl
theorem qk_i113 : (113 : Int32) = nI 113 := rfl
theorem qk_i114 : (114 : Int32) = nI 114 := rfl
theorem qk_i116 : (116 : Int32) = nI 116 := rfl
theorem qk_i126 : (126 : Int32) = nI 126 := rfl
theorem qk_i138 : (138 : Int32) = nI 138 := rfl
theorem qk_i139 : (139 : Int32) = nI 139 := rfl
theorem qk_i140 : (140 : Int32) = nI 140 := rfl
theorem qk_i141 : (141 : Int32) = nI 141 := rfl
theorem qk_i142 : (142 : Int32) = nI 142 := rfl
theorem qk_i143 : (143 : Int32) = nI 143 := rfl
theorem qk_i144 : (144 : Int32) = nI 144 := rfl
theorem qk_i145 : (145 : Int32) = nI 145 := rfl
theorem qk_i146 : (146 : Int32) = nI 146 := rfl
theorem qk_i147 : (147 : Int32) = nI 147 := rfl
theorem qk_i150 : (150 : Int32) = nI 150 := rfl
theorem qk_i163 : (163 : Int32) = nI 163 := rfl
theorem qk_i164 : (164 : Int32) = nI 164 := rfl
theorem qk_i165 : (165 : Int32) = nI 165 := rfl
theorem qk_i166 : (166 : Int32) = nI 166 := rfl
theorem qk_i167 : (167 : Int32) = nI 167 := rfl
theorem qk_i168 : (168 : Int32) = nI 168 := rfl
theorem qk_i169 : (169 : Int32) = nI 169 := rfl
theorem qk_i170 : (170 : Int32) = nI 170 := rfl
theorem qk_i171 : (171 : Int32) = nI 171 := rfl
theorem qk_i172 : (172 : Int32) = nI 172 := rfl
theorem qk_i173 : (173 : Int32) = nI 173 := rfl
theorem qk_i174 : (174 : Int32) = nI 174 := rfl
theorem qk_i175 : (175 : Int32) = nI 175 := rfl
theorem qk_i176 : (176 : Int32) = nI 176 := rfl
theorem qk_i400 : (400 : Int32) = nI 400 := rfl
theorem qk_i880 : (880 : Int32) = nI 880 := rfl
theorem qk_i1000 : (1000 : Int32) = nI 1000 := rfl
theorem qk_i1023 : (1023 : Int32) = nI 1023 := rfl
end
section
/-! the show as one row of numbers: what each step does to it -/
section QRM
abbrev qs : Type := Nat → Int32
def qr_ld (s : qs) (k : Nat) : Bool := decide (s (1 + 7 * k + 3) = 1)
def qr_os (s : qs) (k : Nat) : Bool := decide (nI k = s 139) || decide (nI k = s 140)
def qr_cb (s : qs) (k : Nat) : Bool := qr_ld s k && !qr_os s k
def qr_tf (s : qs) (k : Nat) : Int32 := if qr_ld s k = true ∨ s 144 = nI k then s (1 + 7 * k) else 0
def qr_tk (s : qs) : Nat → Int32
  | 0 => 0
  | k + 1 => qr_tk s k + qr_tf s k
def qr_ta (s : qs) : Int32 := qr_tk s (qn (s 0))
/-- the place so many ahead, and the slide there -/
def qr_ix (s : qs) (k : Nat) : Nat := (((s 138).toInt + (k : Int)) % (s 113).toInt).toNat
def qr_sa (s : qs) (k : Nat) : Int32 := s (114 + qr_ix s k)
def qr_nf (s : qs) (a : Nat) : Nat → Nat → Nat
  | 0, _ => 25
  | m + 1, k => if qr_sa s k = nI a then k else qr_nf s a m (k + 1)
def qr_nx (s : qs) (a : Nat) : Nat := qr_nf s a (qn (s 113)) 1
/-- the weight of a slide: the greater one burns sooner -/
def qr_w (s : qs) (k : Nat) : Int := if s 165 = 0 then -(s (1 + 7 * k + 6)).toInt else if s 165 = 1 then (s (1 + 7 * k)).toInt else (qr_nx s k : Int)
def qr_fb (s : qs) (a b : Nat) : Bool := decide (qr_w s b < qr_w s a) || (decide (qr_w s a = qr_w s b) && decide (a < b))
def qr_in (s : qs) (a : Nat) : List Nat → List Nat
  | [] => [a]
  | b :: l => if qr_w s b < qr_w s a then a :: b :: l else b :: qr_in s a l
def qr_lf (s : qs) : Nat → List Nat
  | 0 => []
  | k + 1 => if qr_cb s k = true then qr_in s k (qr_lf s k) else qr_lf s k
def qr_ln (s : qs) : List Nat := qr_lf s (qn (s 0))
def qr_bu (s : qs) (a : Nat) : qs := upd (upd (upd (upd s (1 + 7 * a + 3) 0) (1 + 7 * a + 4) (s 166)) (1 + 7 * a + 5) (s (1 + 7 * a + 5) + 1)) 173 (s 173 + 1)
def qr_ft (m : Int) (s : qs) : Bool := decide ((qr_ta s).toInt + m ≤ (s 163).toInt)
def qr_rm (m : Int) : List Nat → qs → Nat × qs
  | [], s => (0, s)
  | a :: l, s => if qr_ft m s = true then (0, s) else ((qr_rm m l (qr_bu s a)).1 + 1, (qr_rm m l (qr_bu s a)).2)
def qr_mr (m : Int) (s : qs) : Nat × qs := qr_rm m (qr_ln s) s
def qr_du (s : qs) (a : Nat) : Int32 := if s (1 + 7 * a + 4) ≤ 0 then s (1 + 7 * a + 1) else (s (1 + 7 * a + 1) + 1) / 2
/-- the loading begins, once there is room -/
def qr_s0 (t : qs) (a : Nat) : qs := upd (upd (upd (upd (upd t 144 (nI a)) 145 (qr_du t a)) 171 (t 171 + 1)) 172 (t 172 + (if t (1 + 7 * a + 4) ≤ 0 then 0 else 1))) (1 + 7 * a + 4) 0
def qr_st (s : qs) (a : Nat) : qs := qr_s0 (qr_mr (s (1 + 7 * a)).toInt s).2 a
def qr_qf (s : qs) (a : Nat) : Nat → Nat → Option Nat
  | 0, _ => none
  | m + 1, k => if s (147 + k) = nI a then some k else qr_qf s a m (k + 1)
def qr_qp (s : qs) (a : Nat) : Option Nat := qr_qf s a (qn (s 146)) 0
def qr_f0 (s : qs) (p : Nat) : qs := fun i => if i = 146 then nI (qn (s 146) - 1) else if 147 + p ≤ i ∧ i + 1 < 147 + qn (s 146) then s (i + 1) else if i + 1 = 147 + qn (s 146) then 0 else s i
def qr_fg (s : qs) (a : Nat) : qs := match qr_qp s a with
  | none => s
  | some p => qr_f0 s p
def qr_gf (s : qs) : Nat → Nat → Option Nat
  | 0, _ => none
  | m + 1, k => if qr_ld s (qn (qr_sa s k)) = true then qr_gf s m (k + 1) else some (qn (qr_sa s k))
def qr_gd (s : qs) : Option Nat := if qn (s 113) = 0 then none else qr_gf s (qn (s 164)) 1
def qr_b3 (s : qs) : qs := match qr_gd s with
  | none => s
  | some a => if qr_ft (s (1 + 7 * a)).toInt s = true then qr_st s a else s
def qr_bg (s : qs) : qs := if ¬ s 144 = -1 then s else if ¬ s 142 = -1 then qr_st s (qn (s 142)) else if qn (s 146) = 0 then qr_b3 s else qr_st (qr_fg s (qn (s 147))) (qn (s 147))
def qr_us (s : qs) (a : Nat) : qs := upd (upd s 175 (s 175 + 1)) (1 + 7 * a + 6) (s 175 + 1)
def qr_sf (s : qs) (a : Nat) : qs := if s 139 = -1 ∨ s 139 = nI a then s else upd (upd s 141 (s (1 + 7 * a + 2))) 140 (if s (1 + 7 * a + 2) ≤ 0 then -1 else s 139)
def qr_sh (s : qs) (a : Nat) : qs := qr_us (upd (upd (upd (qr_sf s a) 139 (nI a)) 143 0) 142 (-1)) a
def qr_g0 (s : qs) : qs := upd s 138 (nI (qr_ix s 1))
def qr_ga (s : qs) : Nat := qn (s (114 + qr_ix s 1))
def qr_go (s : qs) : Bool × qs := if qr_ld s (qr_ga s) = true then (true, qr_sh (upd (qr_g0 s) 169 (s 169 + 1)) (qr_ga s)) else (false, qr_fg (upd (upd (qr_g0 s) 170 (s 170 + 1)) 142 (nI (qr_ga s))) (qr_ga s))
def qr_em (s : qs) : Nat → qs
  | 0 => s
  | k + 1 => upd (qr_em s k) (1 + 7 * k + 4) (if s (1 + 7 * k + 4) ≤ 0 then 0 else s (1 + 7 * k + 4) - 1)
def qr_fd (s : qs) : qs := upd (upd s 141 (s 141 - (if s 141 ≤ 0 then 0 else 1))) 140 (if s 141 - (if s 141 ≤ 0 then 0 else 1) ≤ 0 then -1 else s 140)
def qr_t0 (s : qs) : qs := upd (upd (upd s 168 (s 168 + 1)) 174 (s 174 + (if s 142 = -1 then 0 else 1))) 143 (s 143 + (if s 139 = -1 then 0 else 1))
def qr_t1 (s : qs) : qs := qr_fd (qr_em (qr_t0 s) (qn (s 0)))
def qr_l0 (s : qs) (a : Nat) : qs := qr_us (upd (upd (upd s 145 (s 145 - 1)) 144 (-1)) (1 + 7 * a + 3) 1) a
def qr_t2 (s : qs) : Bool × qs := if s 144 = -1 then (false, s) else if ¬ s 145 - 1 = 0 then (false, upd s 145 (s 145 - 1)) else if ¬ s 142 = s 144 then (false, qr_l0 s (qn (s 144))) else (true, qr_sh (qr_l0 s (qn (s 144))) (qn (s 144)))
def qr_t3 (s : qs) : Bool × qs := if s 142 = -1 ∧ ¬ s 139 = -1 ∧ ¬ s 167 ≤ 0 ∧ ¬ s 143 < s 167 ∧ ¬ s 113 ≤ 0 then qr_go s else (false, s)
def qr_bt (b : Bool) : Nat := match b with
  | true => 1
  | false => 0
def qr_tc (s : qs) : Nat × qs := (qr_bt (qr_t2 (qr_t1 s)).1 + qr_bt (qr_t3 (qr_t2 (qr_t1 s)).2).1, qr_bg (qr_t3 (qr_t2 (qr_t1 s)).2).2)
def qr_ti : Nat → qs → Nat × qs
  | 0, s => (0, s)
  | m + 1, s => ((qr_tc s).1 + (qr_ti m (qr_tc s).2).1, (qr_ti m (qr_tc s).2).2)
def qr_ip (s : qs) (p a : Nat) : qs := upd (upd (fun i => if i = 114 + p then nI a else if 114 + p < i ∧ i ≤ 114 + qn (s 113) then s (i - 1) else s i) 113 (s 113 + 1)) 138 (s 138 + (if s 138 = -1 ∨ (s 138).toInt < (p : Int) then 0 else 1))
def qr_rp (s : qs) (p : Nat) : qs := upd (upd (fun i => if 114 + p ≤ i ∧ i + 1 < 114 + qn (s 113) then s (i + 1) else if i + 1 = 114 + qn (s 113) then 0 else s i) 113 (s 113 - 1)) 138 (s 138 - (if s 138 = -1 ∨ (s 138).toInt < (p : Int) then 0 else 1))
def qr_cg (s : qs) : Bool := decide (¬ s 113 ≤ 0) && decide (s 142 = -1)
def qr_ca (s : qs) (a : Nat) : Bool := !qr_ld s a && !decide (s 144 = nI a) && !decide (s 142 = nI a) && (qr_qp s a).isNone
def qr_aq (s : qs) (a : Nat) : qs := upd (upd s (147 + qn (s 146)) (nI a)) 146 (s 146 + 1)
def qr_as (s : qs) (c l f : Int32) : qs := upd (upd (upd (upd s 0 (s 0 + 1)) (1 + 7 * qn (s 0)) c) (1 + 7 * qn (s 0) + 1) l) (1 + 7 * qn (s 0) + 2) f
theorem em_s (s : qs) (k : Nat) : qr_em s (k + 1) = upd (qr_em s k) (1 + 7 * k + 4) (if s (1 + 7 * k + 4) ≤ 0 then 0 else s (1 + 7 * k + 4) - 1) := rfl
theorem ti_0 (s : qs) : qr_ti 0 s = (0, s) := rfl
theorem ti_s (m : Nat) (s : qs) : qr_ti (m + 1) s = ((qr_tc s).1 + (qr_ti m (qr_tc s).2).1, (qr_ti m (qr_tc s).2).2) := rfl
def qo_i (x : Option Nat) : Int32 := match x with
  | none => -1
  | some a => nI a
end QRM
end
section
/-! what always holds of the row of numbers -/
section QRI
def qi_sl (s : qs) : Prop := 0 ≤ (s 0).toInt ∧ (s 0).toInt ≤ 16 ∧ ∀ k : Nat, k < 16 → ((s (1 + 7 * k + 3) = 0 ∨ s (1 + 7 * k + 3) = 1) ∧ 0 ≤ (s (1 + 7 * k + 4)).toInt ∧ (s (1 + 7 * k + 4)).toInt ≤ 20 ∧ 0 ≤ (s (1 + 7 * k + 6)).toInt ∧ ((k : Int) < (s 0).toInt → 1 ≤ (s (1 + 7 * k)).toInt ∧ (s (1 + 7 * k)).toInt ≤ 50 ∧ 1 ≤ (s (1 + 7 * k + 1)).toInt ∧ (s (1 + 7 * k + 1)).toInt ≤ 20 ∧ 0 ≤ (s (1 + 7 * k + 2)).toInt ∧ (s (1 + 7 * k + 2)).toInt ≤ 10) ∧ ((s 0).toInt ≤ (k : Int) → s (1 + 7 * k + 3) = 0))
def qi_pr (s : qs) : Prop := 0 ≤ (s 113).toInt ∧ (s 113).toInt ≤ 24 ∧ -1 ≤ (s 138).toInt ∧ (s 138).toInt < (s 113).toInt ∧ ∀ k : Nat, (k : Int) < (s 113).toInt → 0 ≤ (s (114 + k)).toInt ∧ (s (114 + k)).toInt < (s 0).toInt
def qi_sw (s : qs) : Prop := -1 ≤ (s 139).toInt ∧ (s 139).toInt < (s 0).toInt ∧ -1 ≤ (s 140).toInt ∧ (s 140).toInt < (s 0).toInt ∧ 0 ≤ (s 141).toInt ∧ (s 141).toInt ≤ 10 ∧ ((s 140).toInt = -1 ↔ (s 141).toInt = 0) ∧ ((s 139).toInt = -1 → (s 141).toInt = 0 ∧ s 143 = 0)
def qi_lx (x : Nat) (s : qs) : Prop := -1 ≤ (s 142).toInt ∧ (s 142).toInt < (s 0).toInt ∧ -1 ≤ (s 144).toInt ∧ (s 144).toInt < (s 0).toInt ∧ (0 ≤ (s 144).toInt → 1 ≤ (s 145).toInt ∧ (s 145).toInt ≤ 20) ∧ ∀ k : Nat, k < 16 → (((s 142).toInt = (k : Int) ∧ ¬ k = x) ∨ (s 144).toInt = (k : Int)) → s (1 + 7 * k + 3) = 0
abbrev qi_lo (s : qs) : Prop := qi_lx 16 s
def qi_qd (s : qs) : Prop := 0 ≤ (s 146).toInt ∧ (s 146).toInt ≤ 16 ∧ ∀ j k : Nat, j < k → (k : Int) < (s 146).toInt → ¬ s (147 + j) = s (147 + k)
def qi_qu (s : qs) : Prop := 0 ≤ (s 146).toInt ∧ (s 146).toInt ≤ 16 ∧ (∀ k : Nat, (k : Int) < (s 146).toInt → 0 ≤ (s (147 + k)).toInt ∧ (s (147 + k)).toInt < (s 0).toInt ∧ ¬ s (147 + k) = s 142 ∧ ¬ s (147 + k) = s 144 ∧ s (1 + 7 * qn (s (147 + k)) + 3) = 0) ∧ ∀ j k : Nat, j < k → (k : Int) < (s 146).toInt → ¬ s (147 + j) = s (147 + k)
def qi_se (s : qs) : Prop := 150 ≤ (s 163).toInt ∧ (s 163).toInt ≤ 400 ∧ 0 ≤ (s 164).toInt ∧ (s 164).toInt ≤ 4 ∧ 0 ≤ (s 165).toInt ∧ (s 165).toInt ≤ 2 ∧ 0 ≤ (s 166).toInt ∧ (s 166).toInt ≤ 20 ∧ 0 ≤ (s 167).toInt ∧ (s 167).toInt ≤ 50
def qi_ct (N : Nat) (s : qs) : Prop := 0 ≤ (s 169).toInt ∧ (s 169).toInt ≤ N ∧ 0 ≤ (s 170).toInt ∧ (s 170).toInt ≤ N ∧ 0 ≤ (s 175).toInt ∧ (s 175).toInt ≤ N
def qi_tm (s : qs) : Prop := (qr_ta s).toInt ≤ (s 163).toInt
def qi_A (N : Nat) (s : qs) : Prop := qi_sl s ∧ qi_pr s ∧ qi_sw s ∧ qi_lo s ∧ qi_qu s ∧ qi_se s ∧ qi_ct N s
def qi_I (N : Nat) (s : qs) : Prop := qi_A N s ∧ qi_tm s
/-- nothing could begin to load -/
def qi_st (s : qs) : Prop := s 144 = -1 → s 142 = -1 ∧ qn (s 146) = 0 ∧ qr_b3 s = s
/-- a slide's number -/
theorem qi_n {s : qs} (h : qi_sl s) : s 0 = nI (qn (s 0)) ∧ qn (s 0) ≤ 16 := ⟨qn_of h.1, by have := h.2.1; have := qn_int h.1; omega⟩
theorem qi_p {s : qs} (h : qi_pr s) : s 113 = nI (qn (s 113)) ∧ qn (s 113) ≤ 24 := ⟨qn_of h.1, by have := h.2.1; have := qn_int h.1; omega⟩
theorem qi_q {s : qs} (h : qi_qu s) : s 146 = nI (qn (s 146)) ∧ qn (s 146) ≤ 16 := ⟨qn_of h.1, by have := h.2.1; have := qn_int h.1; omega⟩
theorem qi_ixb {s : qs} (h : qi_pr s) (h0 : 0 < (s 113).toInt) (k : Nat) : qr_ix s k < qn (s 113) ∧ ((qr_ix s k : Nat) : Int) = ((s 138).toInt + (k : Int)) % (s 113).toInt := by
  have h1 := Int.emod_nonneg ((s 138).toInt + (k : Int)) (show (s 113).toInt ≠ 0 by omega)
  have h2 := Int.emod_lt_of_pos ((s 138).toInt + (k : Int)) h0
  have h3 := qn_int (x := s 113) (by omega)
  unfold qr_ix
  omega
theorem qi_sa {s : qs} (h : qi_pr s) (h0 : 0 < (s 113).toInt) (k : Nat) : 0 ≤ (qr_sa s k).toInt ∧ (qr_sa s k).toInt < (s 0).toInt := by
  have h1 := (qi_ixb h h0 k).1
  have h3 := qn_int (x := s 113) (by omega)
  exact h.2.2.2.2 (qr_ix s k) (by omega)
theorem qi_qdq {s : qs} (h : qi_qu s) : qi_qd s := ⟨h.1, h.2.1, h.2.2.2⟩
/-- what the parts look at -/
theorem qq_sl {s t : qs} (h : qi_sl s) (e : ∀ i : Nat, i < 113 → t i = s i) : qi_sl t := by
  unfold qi_sl
  rw [e 0 (by omega)]
  refine ⟨h.1, h.2.1, fun k hk => ?_⟩
  rw [e (1 + 7 * k + 3) (by omega), e (1 + 7 * k + 4) (by omega), e (1 + 7 * k + 6) (by omega), e (1 + 7 * k) (by omega), e (1 + 7 * k + 1) (by omega), e (1 + 7 * k + 2) (by omega)]
  exact h.2.2 k hk
theorem qq_pr {s t : qs} (h : qi_pr s) (e0 : t 0 = s 0) (e : ∀ i : Nat, 113 ≤ i → i < 139 → t i = s i) : qi_pr t := by
  unfold qi_pr
  have h2 := h.2.1
  rw [e0, e 113 (by omega) (by omega), e 138 (by omega) (by omega)]
  refine ⟨h.1, h.2.1, h.2.2.1, h.2.2.2.1, fun k hk => ?_⟩
  rw [e (114 + k) (by omega) (by omega)]
  exact h.2.2.2.2 k hk
theorem qq_sw {s t : qs} (h : qi_sw s) (e0 : t 0 = s 0) (e9 : t 139 = s 139) (e1 : t 140 = s 140) (e2 : t 141 = s 141) (e3 : t 143 = s 143) : qi_sw t := by
  unfold qi_sw
  rw [e0, e9, e1, e2, e3]
  exact h
theorem qq_lx {x : Nat} {s t : qs} (h : qi_lx x s) (e0 : t 0 = s 0) (e2 : t 142 = s 142) (e4 : t 144 = s 144) (e5 : t 145 = s 145) (e : ∀ k : Nat, k < 16 → t (1 + 7 * k + 3) = s (1 + 7 * k + 3)) : qi_lx x t := by
  unfold qi_lx
  rw [e0, e2, e4, e5]
  refine ⟨h.1, h.2.1, h.2.2.1, h.2.2.2.1, h.2.2.2.2.1, fun k hk hh => ?_⟩
  rw [e k hk]
  exact h.2.2.2.2.2 k hk hh
theorem qq_qu {s t : qs} (hs : qi_sl s) (h : qi_qu s) (e0 : t 0 = s 0) (e2 : t 142 = s 142) (e4 : t 144 = s 144) (eq : ∀ i : Nat, 146 ≤ i → i < 163 → t i = s i) (e : ∀ k : Nat, k < 16 → t (1 + 7 * k + 3) = s (1 + 7 * k + 3)) : qi_qu t := by
  unfold qi_qu
  have h2 := h.2.1
  have h3 := hs.2.1
  rw [e0, e2, e4, eq 146 (by omega) (by omega)]
  refine ⟨h.1, h.2.1, fun k hk => ?_, fun j k hj hk => ?_⟩
  · have h4 := h.2.2.1 k hk
    rw [eq (147 + k) (by omega) (by omega), e (qn (s (147 + k))) (by have := qn_int h4.1; omega)]
    exact h4
  · rw [eq (147 + j) (by omega) (by omega), eq (147 + k) (by omega) (by omega)]
    exact h.2.2.2 j k hj hk
theorem qq_se {s t : qs} (h : qi_se s) (e : ∀ i : Nat, 163 ≤ i → i ≤ 167 → t i = s i) : qi_se t := by
  unfold qi_se
  rw [e 163 (by omega) (by omega), e 164 (by omega) (by omega), e 165 (by omega) (by omega), e 166 (by omega) (by omega), e 167 (by omega) (by omega)]
  exact h
theorem qq_ct {N : Nat} {s t : qs} (h : qi_ct N s) (e1 : t 169 = s 169) (e2 : t 170 = s 170) (e3 : t 175 = s 175) : qi_ct N t := by
  unfold qi_ct
  rw [e1, e2, e3]
  exact h
theorem qq_cu {M N : Nat} {s : qs} (h : qi_ct M s) (hl : M ≤ N) : qi_ct N s := by
  unfold qi_ct at h ⊢
  omega
theorem qq_A {M N : Nat} {s : qs} (h : qi_A M s) (hl : M ≤ N) : qi_A N s := ⟨h.1, h.2.1, h.2.2.1, h.2.2.2.1, h.2.2.2.2.1, h.2.2.2.2.2.1, qq_cu h.2.2.2.2.2.2 hl⟩
theorem qq_I {M N : Nat} {s : qs} (h : qi_I M s) (hl : M ≤ N) : qi_I N s := ⟨qq_A h.1 hl, h.2⟩
end QRI
end
section
/-! the reference's own methods, as steps of the row of numbers -/
section QRF
def qw (ρ : qa_T) (s : qs) (y : Int32) : qa_T := (fun p => if p = (10, 22) then s else if p = (10, 21) then upd (ρ.1 (10, 21)) 10 y else ρ.1 p, ρ.2)
variable {ρ : qa_T} {s : qs} {y : Int32}
theorem qw_s : (qw ρ s y).1 (10, 22) = s := by simp [qw]
theorem qw_y : (qw ρ s y).1 (10, 21) 10 = y := by simp [qw, upd]
theorem qw_wi (i : Nat) (v : Int32) : qa_wi (qw ρ s y) (10, 22) i v = qw ρ (upd s i v) y := by
  refine Prod.ext (funext fun p => ?_) rfl
  by_cases h : p = (10, 22) <;> simp [qa_wi, qw, h]
theorem qw_wy (v : Int32) : qa_wi (qw ρ s y) (10, 21) 10 v = qw ρ s v := by
  refine Prod.ext (funext fun p => ?_) rfl
  by_cases h : p = (10, 22)
  · simp [qa_wi, qw, h]
  · by_cases h2 : p = (10, 21)
    · subst h2
      simp only [qa_wi, qw, if_neg h, if_pos]
      funext i
      by_cases h3 : i = 10 <;> simp [upd, h3]
    · simp [qa_wi, qw, h, h2]
theorem qw_self : qw ρ (ρ.1 (10, 22)) (ρ.1 (10, 21) 10) = ρ := by
  refine Prod.ext (funext fun p => ?_) rfl
  by_cases h : p = (10, 22)
  · simp [qw, h]
  · by_cases h2 : p = (10, 21)
    · subst h2
      funext i
      by_cases h3 : i = 10 <;> simp [qw, upd, h3]
    · simp [qw, h, h2]
theorem nI_mul (a b : Nat) : nI a * nI b = nI (a * b) := by
  unfold nI
  rw [Int32.ofNat_mul]
theorem rf_ix (k w : Nat) : (Int32.ofInt 1) + (((Int8.ofInt 7).toInt32) * nI k) + nI w = nI (1 + 7 * k + w) := by
  rw [qk_a1, qk_b7, qk_i1, qk_i7, nI_mul, nI_add, nI_add]
theorem rf_of {k w : Nat} (hk : k < 16) (hw : w < 7) {b : Int32} (hb : b = nI w) : qa_fX10_of (nI k) b (qw ρ s y) = some (s (1 + 7 * k + w)) := by
  subst hb
  unfold qa_fX10_of
  rw [rf_ix, qw_s, qz_ifn (by omega) (by omega), nI_clamp (by omega)]
theorem rf_of0 {k : Nat} (hk : k < 16) : qa_fX10_of (nI k) 0 (qw ρ s y) = some (s (1 + 7 * k)) := rf_of hk (w := 0) (by decide) rfl
theorem rf_of1 {k : Nat} (hk : k < 16) : qa_fX10_of (nI k) 1 (qw ρ s y) = some (s (1 + 7 * k + 1)) := rf_of hk (w := 1) (by decide) rfl
theorem rf_of2 {k : Nat} (hk : k < 16) : qa_fX10_of (nI k) 2 (qw ρ s y) = some (s (1 + 7 * k + 2)) := rf_of hk (w := 2) (by decide) rfl
theorem rf_of3 {k : Nat} (hk : k < 16) : qa_fX10_of (nI k) 3 (qw ρ s y) = some (s (1 + 7 * k + 3)) := rf_of hk (w := 3) (by decide) rfl
theorem rf_of4 {k : Nat} (hk : k < 16) : qa_fX10_of (nI k) 4 (qw ρ s y) = some (s (1 + 7 * k + 4)) := rf_of hk (w := 4) (by decide) rfl
theorem rf_of5 {k : Nat} (hk : k < 16) : qa_fX10_of (nI k) 5 (qw ρ s y) = some (s (1 + 7 * k + 5)) := rf_of hk (w := 5) (by decide) rfl
theorem rf_of6 {k : Nat} (hk : k < 16) : qa_fX10_of (nI k) 6 (qw ρ s y) = some (s (1 + 7 * k + 6)) := rf_of hk (w := 6) (by decide) rfl
theorem rf_lay {k w : Nat} (hk : k < 16) (hw : w < 7) {b v : Int32} (hb : b = nI w) : qa_fX10_lay (nI k) b v (qw ρ s y) = some (qw ρ (upd s (1 + 7 * k + w) v) y) := by
  subst hb
  unfold qa_fX10_lay
  rw [rf_ix, qz_ifn (by omega) (by omega), nI_clamp (by omega), qw_wi]
theorem rf_lay0 {k : Nat} (hk : k < 16) {v : Int32} : qa_fX10_lay (nI k) 0 v (qw ρ s y) = some (qw ρ (upd s (1 + 7 * k) v) y) := rf_lay hk (w := 0) (by decide) rfl
theorem rf_lay1 {k : Nat} (hk : k < 16) {v : Int32} : qa_fX10_lay (nI k) 1 v (qw ρ s y) = some (qw ρ (upd s (1 + 7 * k + 1) v) y) := rf_lay hk (w := 1) (by decide) rfl
theorem rf_lay2 {k : Nat} (hk : k < 16) {v : Int32} : qa_fX10_lay (nI k) 2 v (qw ρ s y) = some (qw ρ (upd s (1 + 7 * k + 2) v) y) := rf_lay hk (w := 2) (by decide) rfl
theorem rf_lay3 {k : Nat} (hk : k < 16) {v : Int32} : qa_fX10_lay (nI k) 3 v (qw ρ s y) = some (qw ρ (upd s (1 + 7 * k + 3) v) y) := rf_lay hk (w := 3) (by decide) rfl
theorem rf_lay4 {k : Nat} (hk : k < 16) {v : Int32} : qa_fX10_lay (nI k) 4 v (qw ρ s y) = some (qw ρ (upd s (1 + 7 * k + 4) v) y) := rf_lay hk (w := 4) (by decide) rfl
theorem rf_lay5 {k : Nat} (hk : k < 16) {v : Int32} : qa_fX10_lay (nI k) 5 v (qw ρ s y) = some (qw ρ (upd s (1 + 7 * k + 5) v) y) := rf_lay hk (w := 5) (by decide) rfl
theorem rf_lay6 {k : Nat} (hk : k < 16) {v : Int32} : qa_fX10_lay (nI k) 6 v (qw ρ s y) = some (qw ρ (upd s (1 + 7 * k + 6) v) y) := rf_lay hk (w := 6) (by decide) rfl
theorem rf_ld {k : Nat} (hk : k < 16) : qa_fX10_loaded (nI k) (qw ρ s y) = some (qr_ld s k) := by
  unfold qa_fX10_loaded
  rw [qk_a3, rf_of3 hk]
  by_cases h : s (1 + 7 * k + 3) = 1 <;> simp [qr_ld, h, qk_a1]
theorem rf_os {k : Nat} : qa_fX10_onShow (nI k) (qw ρ s y) = qr_os s k := by
  unfold qa_fX10_onShow qa_fX10_onShow_24 qr_os
  rw [qw_s, qk_c139, qk_c140, qk_n139, qk_n140]
  by_cases h1 : nI k = s 139 <;> by_cases h2 : nI k = s 140 <;> simp [h1, h2]
theorem qb_0 (b : Bool) : (qa_bi b = 0) = (b = false) := by cases b <;> simp [qa_bi]
theorem rf_cb {k : Nat} (hk : k < 16) : qa_fX10_canBurn (nI k) (qw ρ s y) = some (qr_cb s k) := by
  unfold qa_fX10_canBurn qa_fX10_canBurn_20 qr_cb
  rw [rf_ld hk, rf_os]
  cases h1 : qr_ld s k <;> cases h2 : qr_os s k <;> simp [qb_0]
theorem rf_tk_l : ∀ (m k n : Nat), n ≤ 16 → s 0 = nI n → k ≤ n → n - k < m → qa_fX10_taken_4 m (qr_tk s k) (nI k) (qw ρ s y) = some (qr_tk s n) := by
  intro m
  induction m with
  | zero => intro k n h1 h2 h3 h4; omega
  | succ m ih =>
    intro k n hn h0 hk hm
    rw [qa_fX10_taken_4, qw_s, qk_a0, qk_n0, h0]
    by_cases e : k = n
    · subst e
      rw [if_pos (nI_le (Nat.le_refl _) (by omega))]
    · have hk2 : k < 16 := by omega
      rw [if_neg (nI_ge (by omega) (by omega)), rf_ld hk2]
      have h1 := ih (k + 1) n hn h0 (by omega) (by omega)
      rw [← nI_1] at h1
      cases hl : qr_ld s k <;> by_cases h4 : s 144 = nI k <;> simpa [hl, h4, qb_0, rf_of0 hk2, qa_fX10_taken_35, qa_fX10_taken_45, qr_tk, qr_tf, qk_c144, qk_n144, qk_a1] using h1
theorem rf_tk {n : Nat} (hn : n ≤ 16) (h0 : s 0 = nI n) : qa_fX10_taken (qw ρ s y) = some (qr_ta s) := by
  have h1 := rf_tk_l (ρ := ρ) (s := s) (y := y) qa_fu 0 n hn h0 (by omega) (by unfold qa_fu; omega)
  unfold qa_fX10_taken qr_ta
  rw [h0, qn_nI (by omega)]
  simpa [qk_a0, qr_tk, nI_0] using h1
end QRF
end
section
/-! the reference's own methods: the order of burning -/
section QRG
variable {ρ : qa_T} {s : qs} {y : Int32}
theorem rf_pi (h : qi_pr s) (h0 : 0 < (s 113).toInt) {k : Nat} (hk : 1 ≤ k) (hk2 : k ≤ 1000) : (s 138 + nI k) - (s 138 + nI k) / s 113 * s 113 = nI (qr_ix s k) := by
  have h1 := qi_ixb h h0 k
  have h2 := h.2.2.1
  have h3 := h.2.2.2.1
  have h4 := h.2.1
  have h5 := qz_nI (k := k) (by omega)
  have h6 : (s 138 + nI k).toInt = (s 138).toInt + k := by rw [qz_add, h5] <;> omega
  have h7 := qn_lt (x := s 113)
  rw [qz_eq, qz_mod (by omega) h0, h6, qz_nI (by omega), h1.2]
theorem rf_pj (h : qi_pr s) (h0 : 0 < (s 113).toInt) {k : Nat} (hk : 1 ≤ k) (hk2 : k ≤ 1000) : ((Int8.ofInt 114).toInt32) + ((s 138 + nI k) - (s 138 + nI k) / s 113 * s 113) = nI (114 + qr_ix s k) := by
  rw [rf_pi h h0 hk hk2, qk_b114, qk_i114, nI_add]
theorem rf_nx_l (h : qi_pr s) (a c : Nat) (hc : s 113 = nI c) (hc2 : c ≤ 24) : ∀ (m k j : Nat), k + j = c + 1 → 1 ≤ k → j < m → qa_fX10_nextOf_2 (nI a) m (nI k) (qw ρ s y) = some (nI (qr_nf s a j k)) := by
  intro m
  induction m with
  | zero => intro k j h1 h2 h3; omega
  | succ m ih =>
    intro k j hk h1 hm
    rw [qa_fX10_nextOf_2, qw_s, qk_b113, qk_n113, qk_c138, qk_n138]
    cases j with
    | zero =>
      rw [if_pos (by rw [hc]; exact nI_lt (by omega) (by omega))]
      rfl
    | succ j =>
      have h5 := qz_nI (k := c) (by omega)
      have h0 : 0 < (s 113).toInt := by rw [hc, h5]; omega
      have h6 := qi_ixb h h0 k
      rw [hc, qn_nI (by omega)] at h6
      rw [rf_pj h h0 h1 (by omega), if_neg (by rw [hc]; exact nI_nlt (by omega) (by omega)), if_neg (fun t => by rw [t] at h0; exact absurd h0 (by decide)), qz_ifn (by omega) (by omega), nI_clamp (by omega)]
      unfold qr_nf qr_sa
      by_cases e : s (114 + qr_ix s k) = nI a
      · rw [if_neg (fun t => t e), if_pos e]
      · rw [if_pos e, if_neg e, qk_a1, nI_1]
        exact ih (k + 1) j (by omega) (by omega) (by omega)
theorem rf_nx (h : qi_pr s) (a : Nat) : qa_fX10_nextOf (nI a) (qw ρ s y) = some (nI (qr_nx s a)) := by
  obtain ⟨h1, h2⟩ := qi_p h
  unfold qa_fX10_nextOf qr_nx
  exact rf_nx_l h a _ h1 h2 qa_fu 1 _ (by omega) (by omega) (by unfold qa_fu; omega)
theorem qr_nf_le (s : qs) (a : Nat) : ∀ (j k c : Nat), k + j = c + 1 → qr_nf s a j k ≤ c ∨ qr_nf s a j k = 25 := by
  intro j
  induction j with
  | zero => intro k c _; exact Or.inr rfl
  | succ j ih =>
    intro k c hk
    unfold qr_nf
    by_cases e : qr_sa s k = nI a
    · rw [if_pos e]; left; omega
    · rw [if_neg e]; exact ih (k + 1) c (by omega)
theorem qr_nx_le {s : qs} (h : qi_pr s) (a : Nat) : qr_nx s a ≤ qn (s 113) ∨ qr_nx s a = 25 := qr_nf_le s a _ _ _ (by omega)
theorem rf_68 {a b : Nat} (ha : a < 16) (hb : b < 16) (x : Int32) (σ : qa_T) : qa_fX10_isFirst_68 (nI a) (nI b) x σ = some (decide (0 < x.toInt) || (decide (x.toInt = 0) && decide (a < b))) := by
  unfold qa_fX10_isFirst_68 qa_fX10_isFirst_82 qa_fX10_isFirst_86
  have h0 : (0 : Int32).toInt = 0 := rfl
  by_cases h1 : 0 < x.toInt
  · rw [if_pos (by rw [qz_lt, h0]; exact h1)]; simp [h1]
  · rw [if_neg (by rw [qz_lt, h0]; exact h1)]
    by_cases h2 : x.toInt = 0
    · rw [if_neg (fun t => t (by rw [qz_eq, h0]; exact h2))]
      by_cases h3 : a < b
      · rw [if_neg (nI_ge h3 (by omega))]; simp [h2, h3]
      · rw [if_pos (nI_le (by omega) (by omega))]; simp [h2, h3]
    · rw [if_pos (by rw [qz_eq, h0]; exact h2)]; simp [h1, h2]
theorem rf_fb (h : qi_pr s) (hs : qi_sl s) {a b : Nat} (ha : a < qn (s 0)) (hb : b < qn (s 0)) : qa_fX10_isFirst (nI a) (nI b) (qw ρ s y) = some (qr_fb s a b) := by
  obtain ⟨h1, h2⟩ := qi_n hs
  have h3 := qn_int hs.1
  obtain ⟨_, _, _, u1, c1, _⟩ := hs.2.2 a (by omega)
  obtain ⟨_, _, _, u2, c2, _⟩ := hs.2.2 b (by omega)
  have c3 := c1 (by omega)
  have c4 := c2 (by omega)
  have r1 := qz_rg (s (1 + 7 * a + 6))
  have r2 := qz_rg (s (1 + 7 * b + 6))
  unfold qa_fX10_isFirst qr_fb qr_w
  simp only [qk_am1, qk_a0, qk_a1, qk_a2, qk_a3, qk_a4, qk_a5, qk_b6, qk_b7, qk_b10, qk_b15, qk_b16, qk_b20, qk_b24, qk_b25, qk_b33, qk_b48, qk_b50, qk_b52, qk_b57, qk_b59, qk_b60, qk_b97, qk_b98, qk_b100, qk_b110, qk_b112, qk_b113, qk_b114, qk_b116, qk_b126, qk_c138, qk_c139, qk_c140, qk_c141, qk_c142, qk_c143, qk_c144, qk_c145, qk_c146, qk_c147, qk_c150, qk_c163, qk_c164, qk_c165, qk_c166, qk_c167, qk_c168, qk_c169, qk_c170, qk_c171, qk_c172, qk_c173, qk_c174, qk_c175, qk_c176, qk_c400, qk_c880, qk_c1000, qk_c1023, qw_s, qk_n165, rf_of6 (show a < 16 by omega), rf_of6 (show b < 16 by omega), rf_of0 (show a < 16 by omega), rf_of0 (show b < 16 by omega), rf_nx h]
  by_cases e0 : s 165 = 0
  · simp only [e0, Option.bind_some]
    rw [if_neg (fun t => t trivial), rf_68 (by omega) (by omega), qz_sub (by omega) (by omega)]
    simp only [if_true, Option.some.injEq]
    congr 1
    · rw [decide_eq_decide]; omega
    · congr 1; rw [decide_eq_decide]; omega
  · rw [if_pos e0]
    simp only [if_neg e0]
    by_cases e1 : s 165 = 1
    · rw [if_neg (fun t => t e1)]
      simp only [if_pos e1, Option.bind_some]
      rw [rf_68 (by omega) (by omega), qz_sub (by omega) (by omega)]
      simp only [Option.some.injEq]
      congr 1
      · rw [decide_eq_decide]; omega
      · congr 1; rw [decide_eq_decide]; omega
    · rw [if_pos e1]
      simp only [if_neg e1, Option.bind_some]
      have w1 := qr_nx_le h a
      have w2 := qr_nx_le h b
      have w3 := (qi_p h).2
      have w4 := qz_nI (k := qr_nx s a) (by omega)
      have w5 := qz_nI (k := qr_nx s b) (by omega)
      rw [rf_68 (by omega) (by omega), qz_sub (by omega) (by omega), w4, w5]
      simp only [Option.some.injEq]
      congr 1
      · rw [decide_eq_decide]; omega
      · congr 1; rw [decide_eq_decide]; omega
/-- the slides that may be burnt, the first to burn ahead -/
def qr_li (s : qs) (l : List Nat) : Prop := l.Pairwise (fun a b => qr_fb s a b = true) ∧ ∀ k, k ∈ l ↔ k < qn (s 0) ∧ qr_cb s k = true
theorem qr_fb_as {s : qs} {a b : Nat} (h1 : qr_fb s a b = true) (h2 : qr_fb s b a = true) : False := by
  unfold qr_fb at h1 h2
  simp only [Bool.or_eq_true, Bool.and_eq_true, decide_eq_true_eq] at h1 h2
  omega
theorem qr_in_mem (s : qs) (a x : Nat) : ∀ l : List Nat, x ∈ qr_in s a l ↔ x = a ∨ x ∈ l := by
  intro l
  induction l with
  | nil => simp [qr_in]
  | cons b l ih =>
    unfold qr_in
    by_cases h : qr_w s b < qr_w s a
    · rw [if_pos h]; simp
    · rw [if_neg h, List.mem_cons, ih, List.mem_cons]
      constructor
      · rintro (h | h | h)
        · exact Or.inr (Or.inl h)
        · exact Or.inl h
        · exact Or.inr (Or.inr h)
      · rintro (h | h | h)
        · exact Or.inr (Or.inl h)
        · exact Or.inl h
        · exact Or.inr (Or.inr h)
theorem qr_lf_mem (s : qs) (x : Nat) : ∀ k : Nat, x ∈ qr_lf s k ↔ x < k ∧ qr_cb s x = true := by
  intro k
  induction k with
  | zero => simp [qr_lf]
  | succ k ih =>
    unfold qr_lf
    by_cases h : qr_cb s k = true
    · rw [if_pos h, qr_in_mem, ih]
      constructor
      · rintro (h2 | ⟨h2, h3⟩)
        · subst h2; exact ⟨by omega, h⟩
        · exact ⟨by omega, h3⟩
      · rintro ⟨h2, h3⟩
        by_cases e : x = k
        · exact Or.inl e
        · exact Or.inr ⟨by omega, h3⟩
    · rw [if_neg h, ih]
      constructor
      · rintro ⟨h2, h3⟩
        exact ⟨by omega, h3⟩
      · rintro ⟨h2, h3⟩
        refine ⟨?_, h3⟩
        by_cases e : x = k
        · subst e; exact absurd h3 h
        · omega
theorem qr_in_pw (s : qs) (a : Nat) : ∀ l : List Nat, l.Pairwise (fun a b => qr_fb s a b = true) → (∀ x ∈ l, x < a) → (qr_in s a l).Pairwise (fun a b => qr_fb s a b = true) := by
  intro l
  induction l with
  | nil => intro _ _; simp [qr_in]
  | cons b l ih =>
    intro hp hx
    obtain ⟨p1, p2⟩ := List.pairwise_cons.mp hp
    have hb := hx b List.mem_cons_self
    unfold qr_in
    by_cases h : qr_w s b < qr_w s a
    · rw [if_pos h, List.pairwise_cons]
      refine ⟨fun x hx2 => ?_, hp⟩
      have : qr_w s x ≤ qr_w s b := by
        rcases List.mem_cons.mp hx2 with rfl | hx3
        · exact Int.le_refl _
        · have := p1 x hx3
          unfold qr_fb at this
          simp only [Bool.or_eq_true, Bool.and_eq_true, decide_eq_true_eq] at this
          omega
      unfold qr_fb
      simp only [Bool.or_eq_true, Bool.and_eq_true, decide_eq_true_eq]
      omega
    · rw [if_neg h, List.pairwise_cons]
      refine ⟨fun x hx2 => ?_, ih p2 (fun x hx2 => hx x (List.mem_cons_of_mem _ hx2))⟩
      rcases (qr_in_mem s a x l).mp hx2 with rfl | hx3
      · unfold qr_fb
        simp only [Bool.or_eq_true, Bool.and_eq_true, decide_eq_true_eq]
        omega
      · exact p1 x hx3
theorem qr_lf_pw (s : qs) : ∀ k : Nat, (qr_lf s k).Pairwise (fun a b => qr_fb s a b = true) := by
  intro k
  induction k with
  | zero => simp [qr_lf]
  | succ k ih =>
    unfold qr_lf
    by_cases h : qr_cb s k = true
    · rw [if_pos h]
      exact qr_in_pw s k _ ih (fun x hx => ((qr_lf_mem s x k).mp hx).1)
    · rw [if_neg h]; exact ih
theorem qr_li_ln (s : qs) : qr_li s (qr_ln s) := ⟨qr_lf_pw s _, fun k => qr_lf_mem s k _⟩
/-- the head of a line, as an int -/
def qr_hd : List Nat → Int32
  | [] => -1
  | a :: _ => nI a
theorem qr_hd_u {s : qs} {l l2 : List Nat} (h : qr_li s l) (h2 : qr_li s l2) : qr_hd l = qr_hd l2 := by
  cases l with
  | nil =>
    cases l2 with
    | nil => rfl
    | cons b l2 =>
      have := (h.2 b).mpr ((h2.2 b).mp List.mem_cons_self)
      cases this
  | cons a l =>
    cases l2 with
    | nil =>
      have := (h2.2 a).mpr ((h.2 a).mp List.mem_cons_self)
      cases this
    | cons b l2 =>
      by_cases e : a = b
      · subst e; rfl
      · have h3 := (h2.2 a).mpr ((h.2 a).mp List.mem_cons_self)
        have h4 := (h.2 b).mpr ((h2.2 b).mp List.mem_cons_self)
        rcases List.mem_cons.mp h3 with e2 | h5
        · exact absurd e2 e
        · rcases List.mem_cons.mp h4 with e2 | h6
          · exact absurd e2.symm e
          · exact (qr_fb_as ((List.pairwise_cons.mp h.1).1 b h6) ((List.pairwise_cons.mp h2.1).1 a h5)).elim
theorem qr_nI_m {k : Nat} (hk : k < 16) : ¬ nI k = (-1 : Int32) := by
  rw [qz_eq, qz_nI (by omega)]
  have : (-1 : Int32).toInt = -1 := rfl
  omega
theorem rf_nb_l (h : qi_pr s) (hs : qi_sl s) (n : Nat) (hn : qn (s 0) = n) : ∀ (m k : Nat), k ≤ n → n - k < m → qa_fX10_nextToBurn_4 m (qr_hd (qr_lf s k)) (nI k) (qw ρ s y) = some (qr_hd (qr_lf s n)) := by
  obtain ⟨h1, h2⟩ := qi_n hs
  intro m
  induction m with
  | zero => intro k h1 h2; omega
  | succ m ih =>
    intro k hk hm
    rw [qa_fX10_nextToBurn_4, qw_s, qk_a0, qk_n0, h1, hn]
    by_cases e : k = n
    · subst e
      rw [if_pos (nI_le (Nat.le_refl _) (by omega))]
    · have hk2 : k < 16 := by omega
      rw [if_neg (nI_ge (by omega) (by omega)), rf_cb hk2]
      have h1 := ih (k + 1) (by omega) (by omega)
      rw [← nI_1, show qr_lf s (k + 1) = if qr_cb s k = true then qr_in s k (qr_lf s k) else qr_lf s k from rfl] at h1
      cases hl : qr_cb s k
      · rw [hl] at h1
        simpa [hl, qb_0, qa_fX10_nextToBurn_40, qa_fX10_nextToBurn_41, qk_a1] using h1
      · rw [if_pos hl] at h1
        cases hL : qr_lf s k with
        | nil =>
          rw [hL] at h1
          simpa [qb_0, qa_fX10_nextToBurn_36, qa_fX10_nextToBurn_41, qk_a1, qk_am1, qr_hd, qr_in] using h1
        | cons b l =>
          have hb := (qr_lf_mem s b k).mp (by rw [hL]; exact List.mem_cons_self)
          rw [hL] at h1
          have h6 := rf_fb (ρ := ρ) (y := y) h hs (a := k) (b := b) (by omega) (by omega)
          have h7 : qr_fb s k b = decide (qr_w s b < qr_w s k) := by
            unfold qr_fb
            rw [show decide (k < b) = false from decide_eq_false (by omega), Bool.and_false, Bool.or_false]
          rw [h7] at h6
          have h8 := qr_nI_m (k := b) (by omega)
          by_cases hw : qr_w s b < qr_w s k
          · simp [qr_in, qr_hd, hw] at h1
            simpa [qb_0, qa_fX10_nextToBurn_36, qa_fX10_nextToBurn_41, qk_a1, qk_am1, qr_hd, h6, hw, h8] using h1
          · simp [qr_in, qr_hd, hw] at h1
            simpa [qb_0, qa_fX10_nextToBurn_40, qa_fX10_nextToBurn_41, qk_a1, qk_am1, qr_hd, h6, hw, h8] using h1
theorem rf_nb (h : qi_pr s) (hs : qi_sl s) {l : List Nat} (hl : qr_li s l) : qa_fX10_nextToBurn (qw ρ s y) = some (qr_hd l) := by
  rw [qr_hd_u hl (qr_li_ln s)]
  have := qi_n hs
  exact rf_nb_l h hs _ rfl qa_fu 0 (by omega) (by unfold qa_fu; omega)
end QRG
end
section
/-! the reference's own methods: burning, room, loading -/
section QRJ
variable {ρ : qa_T} {s t : qs} {y : Int32}
/-- the same programme; the same weights -/
def qe_p (s t : qs) : Prop := t 113 = s 113 ∧ t 138 = s 138 ∧ ∀ k : Nat, k < 24 → t (114 + k) = s (114 + k)
def qe_w (s t : qs) : Prop := qe_p s t ∧ t 165 = s 165 ∧ ∀ k : Nat, k < 16 → t (1 + 7 * k + 6) = s (1 + 7 * k + 6) ∧ t (1 + 7 * k) = s (1 + 7 * k)
theorem qe_ix (e : qe_p s t) (k : Nat) : qr_ix t k = qr_ix s k := by
  unfold qr_ix
  rw [e.1, e.2.1]
theorem qe_sa (h : qi_pr s) (h0 : 0 < (s 113).toInt) (e : qe_p s t) (k : Nat) : qr_sa t k = qr_sa s k := by
  unfold qr_sa
  rw [qe_ix e]
  have h1 := (qi_ixb h h0 k).1
  have h2 := (qi_p h).2
  exact e.2.2 _ (by omega)
theorem qe_nf (h : qi_pr s) (h0 : 0 < (s 113).toInt) (e : qe_p s t) (a : Nat) : ∀ j k : Nat, qr_nf t a j k = qr_nf s a j k := by
  intro j
  induction j with
  | zero => intro k; rfl
  | succ j ih =>
    intro k
    unfold qr_nf
    rw [qe_sa h h0 e, ih]
theorem qe_nx (h : qi_pr s) (e : qe_p s t) (a : Nat) : qr_nx t a = qr_nx s a := by
  unfold qr_nx
  rw [e.1]
  by_cases h0 : 0 < (s 113).toInt
  · exact qe_nf h h0 e a _ _
  · rw [show qn (s 113) = 0 by unfold qn; omega]
    rfl
theorem qe_ww (h : qi_pr s) (e : qe_w s t) {k : Nat} (hk : k < 16) : qr_w t k = qr_w s k := by
  unfold qr_w
  rw [e.2.1, (e.2.2 k hk).1, (e.2.2 k hk).2, qe_nx h e.1]
theorem qe_fb (h : qi_pr s) (e : qe_w s t) {a b : Nat} (ha : a < 16) (hb : b < 16) : qr_fb t a b = qr_fb s a b := by
  unfold qr_fb
  rw [qe_ww h e ha, qe_ww h e hb]
theorem qe_pr (h : qi_pr s) (e : qe_p s t) (e0 : t 0 = s 0) : qi_pr t := by
  have h2 := (qi_p h).2
  obtain ⟨a1, a2, a3, a4, a5⟩ := h
  have h3 := qn_int a1
  unfold qi_pr
  rw [e.1, e.2.1, e0]
  refine ⟨a1, a2, a3, a4, fun k hk => ?_⟩
  rw [e.2.2 k (by omega)]
  exact a5 k hk
theorem bu_o {a i : Nat} (h : i < 1 + 7 * a + 3 ∨ 1 + 7 * a + 5 < i) (h2 : ¬ i = 173) : qr_bu s a i = s i := by
  unfold qr_bu
  simp (disch := omega) only [pk_us, pk_un, qz_ue]
theorem bu_w {a : Nat} (ha : a < 16) : qe_w s (qr_bu s a) := by
  refine ⟨⟨bu_o (by omega) (by omega), bu_o (by omega) (by omega), fun k hk => bu_o (by omega) (by omega)⟩, bu_o (by omega) (by omega), fun k hk => ⟨bu_o (by omega) (by omega), bu_o (by omega) (by omega)⟩⟩
theorem bu_3 {a k : Nat} (ha : a < 16) : qr_bu s a (1 + 7 * k + 3) = if k = a then 0 else s (1 + 7 * k + 3) := by
  by_cases e : k = a
  · subst e
    rw [if_pos rfl]
    unfold qr_bu
    simp (disch := omega) only [pk_us, pk_un, qz_ue]
  · rw [if_neg e]
    by_cases e2 : 1 + 7 * k + 3 = 173
    · exfalso; omega
    · exact bu_o (by omega) e2
theorem bu_cb {a k : Nat} (ha : a < 16) : qr_cb (qr_bu s a) k = (qr_cb s k && !decide (k = a)) := by
  unfold qr_cb qr_ld qr_os
  rw [bu_3 ha, bu_o (i := 139) (by omega) (by omega), bu_o (i := 140) (by omega) (by omega)]
  by_cases e : k = a
  · subst e
    simp
  · rw [if_neg e]
    simp [e]
theorem bu_li (hp : qi_pr s) (hs : qi_sl s) {a : Nat} {l : List Nat} (h : qr_li s (a :: l)) : qr_li (qr_bu s a) l := by
  have hn := (qi_n hs).2
  have h1 := (h.2 a).mp List.mem_cons_self
  have ha : a < 16 := by omega
  obtain ⟨p1, p2⟩ := List.pairwise_cons.mp h.1
  refine ⟨p2.imp_of_mem (fun {x z} hx hz hf => ?_), fun k => ?_⟩
  · have h2 := (h.2 x).mp (List.mem_cons_of_mem _ hx)
    have h3 := (h.2 z).mp (List.mem_cons_of_mem _ hz)
    rw [qe_fb hp (bu_w ha) (by omega) (by omega)]
    exact hf
  · rw [bu_cb ha, bu_o (i := 0) (by omega) (by omega)]
    have h4 := h.2 k
    rw [List.mem_cons] at h4
    simp only [Bool.and_eq_true, Bool.not_eq_true', decide_eq_false_iff_not]
    constructor
    · intro hk
      have h5 := h4.mp (Or.inr hk)
      refine ⟨h5.1, h5.2, fun e => ?_⟩
      subst e
      exact qr_fb_as (p1 k hk) (p1 k hk)
    · rintro ⟨h5, h6, h7⟩
      rcases h4.mpr ⟨h5, h6⟩ with h8 | h8
      · exact absurd h8 h7
      · exact h8
theorem bu_sl {a : Nat} (ha : a < 16) (h : qi_sl s) (hg : qi_se s) : qi_sl (qr_bu s a) := by
  obtain ⟨h1, h2, h3⟩ := h
  unfold qi_sl
  rw [bu_o (i := 0) (by omega) (by omega)]
  refine ⟨h1, h2, fun k hk => ?_⟩
  obtain ⟨c1, c2, c3, c4, c5, c6⟩ := h3 k hk
  rw [bu_3 ha, bu_o (i := 1 + 7 * k + 6) (by omega) (by omega), bu_o (i := 1 + 7 * k) (by omega) (by omega), bu_o (i := 1 + 7 * k + 1) (by omega) (by omega), bu_o (i := 1 + 7 * k + 2) (by omega) (by omega)]
  have g1 := hg.2.2.2.2.2.2.1
  have g2 := hg.2.2.2.2.2.2.2.1
  by_cases e : k = a
  · subst e
    rw [if_pos rfl]
    have e4 : qr_bu s k (1 + 7 * k + 4) = s 166 := by
      unfold qr_bu
      simp (disch := omega) only [pk_us, pk_un, qz_ue]
    rw [e4]
    exact ⟨Or.inl rfl, g1, g2, c4, c5, fun _ => rfl⟩
  · rw [if_neg e, bu_o (i := 1 + 7 * k + 4) (by omega) (by omega)]
    exact ⟨c1, c2, c3, c4, c5, c6⟩
theorem qi_seq (h : qi_se s) (e : ∀ i : Nat, 163 ≤ i → i ≤ 167 → t i = s i) : qi_se t := by
  unfold qi_se
  rw [e 163 (by omega) (by omega), e 164 (by omega) (by omega), e 165 (by omega) (by omega), e 166 (by omega) (by omega), e 167 (by omega) (by omega)]
  exact h
theorem bu_se {a : Nat} (ha : a < 16) (h : qi_se s) : qi_se (qr_bu s a) := qi_seq h (fun i h1 h2 => bu_o (by omega) (by omega))
theorem rf_bu {a : Nat} (ha : a < 16) : qa_fX10_burns (nI a) (qw ρ s y) = some (s (1 + 7 * a), qw ρ (qr_bu s a) y) := by
  unfold qa_fX10_burns
  simp (disch := omega) only [qk_am1, qk_a0, qk_a1, qk_a2, qk_a3, qk_a4, qk_a5, qk_b6, qk_b7, qk_b10, qk_b15, qk_b16, qk_b20, qk_b24, qk_b25, qk_b33, qk_b48, qk_b50, qk_b52, qk_b57, qk_b59, qk_b60, qk_b97, qk_b98, qk_b100, qk_b110, qk_b112, qk_b113, qk_b114, qk_b116, qk_b126, qk_c138, qk_c139, qk_c140, qk_c141, qk_c142, qk_c143, qk_c144, qk_c145, qk_c146, qk_c147, qk_c150, qk_c163, qk_c164, qk_c165, qk_c166, qk_c167, qk_c168, qk_c169, qk_c170, qk_c171, qk_c172, qk_c173, qk_c174, qk_c175, qk_c176, qk_c400, qk_c880, qk_c1000, qk_c1023, rf_lay3 ha, Option.bind_some, qw_s, qk_n0, qk_n1, qk_n2, qk_n3, qk_n4, qk_n5, qk_n6, qk_n7, qk_n10, qk_n15, qk_n16, qk_n20, qk_n24, qk_n25, qk_n33, qk_n48, qk_n50, qk_n52, qk_n57, qk_n59, qk_n60, qk_n97, qk_n98, qk_n100, qk_n110, qk_n112, qk_n113, qk_n114, qk_n116, qk_n126, qk_n138, qk_n139, qk_n140, qk_n141, qk_n142, qk_n143, qk_n144, qk_n145, qk_n146, qk_n147, qk_n150, qk_n163, qk_n164, qk_n165, qk_n166, qk_n167, qk_n168, qk_n169, qk_n170, qk_n171, qk_n172, qk_n173, qk_n174, qk_n175, qk_n176, qk_n400, qk_n880, qk_n1000, qk_n1023, rf_lay4 ha, rf_of5 ha, rf_lay5 ha, rf_of0 ha, qw_wi, pk_us, pk_un, qz_ue]
  rfl
theorem qr_tk_b (h : qi_sl s) : ∀ k : Nat, k ≤ qn (s 0) → 0 ≤ (qr_tk s k).toInt ∧ (qr_tk s k).toInt ≤ 50 * (k : Int) := by
  intro k
  have hn := (qi_n h).2
  have hi := qn_int h.1
  induction k with
  | zero =>
    intro _
    rw [show qr_tk s 0 = 0 from rfl, qk_t0]
    omega
  | succ k ih =>
    intro hk
    have h1 := ih (by omega)
    have h2 := (h.2.2 k (by omega)).2.2.2.2.1 (by omega)
    have h3 : 0 ≤ (qr_tf s k).toInt ∧ (qr_tf s k).toInt ≤ 50 := by
      unfold qr_tf
      split
      · omega
      · exact ⟨by decide, by decide⟩
    unfold qr_tk
    rw [qz_add (by omega) (by omega)]
    omega
theorem qr_ta_b (h : qi_sl s) : 0 ≤ (qr_ta s).toInt ∧ (qr_ta s).toInt ≤ 800 := by
  have h1 := qr_tk_b h (qn (s 0)) (Nat.le_refl _)
  have hn := (qi_n h).2
  unfold qr_ta
  omega
theorem qr_ft_i (h : qi_sl s) {b : Int32} (hb : 0 ≤ b.toInt) (hb2 : b.toInt ≤ 1000) : (qr_ta s + b ≤ s 163) ↔ qr_ft b.toInt s = true := by
  have h1 := qr_ta_b h
  unfold qr_ft
  rw [decide_eq_true_eq, qz_le, qz_add (by omega) (by omega)]
theorem rf_mr_l {b : Int32} (hb : 0 ≤ b.toInt) (hb2 : b.toInt ≤ 1000) : ∀ (l : List Nat) (s : qs) (m : Nat) (x : Int32), qi_pr s → qi_sl s → qi_se s → qr_li s l → l.length < m → qa_fX10_makesRoom_2 b m x (qw ρ s y) = some (x + nI (qr_rm b.toInt l s).1, qw ρ (qr_rm b.toInt l s).2 y) := by
  intro l
  induction l with
  | nil =>
    intro s m x hp hs he hl hm
    obtain ⟨m, rfl⟩ : ∃ j, m = j + 1 := ⟨m - 1, by simp only [List.length_nil] at hm; omega⟩
    obtain ⟨h1, h2⟩ := qi_n hs
    rw [qa_fX10_makesRoom_2, rf_tk h2 h1]
    simp only [qk_am1, qk_a0, qk_a1, qk_a2, qk_a3, qk_a4, qk_a5, qk_b6, qk_b7, qk_b10, qk_b15, qk_b16, qk_b20, qk_b24, qk_b25, qk_b33, qk_b48, qk_b50, qk_b52, qk_b57, qk_b59, qk_b60, qk_b97, qk_b98, qk_b100, qk_b110, qk_b112, qk_b113, qk_b114, qk_b116, qk_b126, qk_c138, qk_c139, qk_c140, qk_c141, qk_c142, qk_c143, qk_c144, qk_c145, qk_c146, qk_c147, qk_c150, qk_c163, qk_c164, qk_c165, qk_c166, qk_c167, qk_c168, qk_c169, qk_c170, qk_c171, qk_c172, qk_c173, qk_c174, qk_c175, qk_c176, qk_c400, qk_c880, qk_c1000, qk_c1023, Option.bind_some, qw_s, qk_n0, qk_n1, qk_n2, qk_n3, qk_n4, qk_n5, qk_n6, qk_n7, qk_n10, qk_n15, qk_n16, qk_n20, qk_n24, qk_n25, qk_n33, qk_n48, qk_n50, qk_n52, qk_n57, qk_n59, qk_n60, qk_n97, qk_n98, qk_n100, qk_n110, qk_n112, qk_n113, qk_n114, qk_n116, qk_n126, qk_n138, qk_n139, qk_n140, qk_n141, qk_n142, qk_n143, qk_n144, qk_n145, qk_n146, qk_n147, qk_n150, qk_n163, qk_n164, qk_n165, qk_n166, qk_n167, qk_n168, qk_n169, qk_n170, qk_n171, qk_n172, qk_n173, qk_n174, qk_n175, qk_n176, qk_n400, qk_n880, qk_n1000, qk_n1023, rf_nb hp hs hl, qr_hd, qa_fX10_makesRoom_42, qr_rm, nI_0, Int32.add_zero, if_true, ite_self]
  | cons a l ih =>
    intro s m x hp hs he hl hm
    obtain ⟨m, rfl⟩ : ∃ j, m = j + 1 := ⟨m - 1, by simp only [List.length_cons] at hm; omega⟩
    obtain ⟨h1, h2⟩ := qi_n hs
    have ha := (hl.2 a).mp List.mem_cons_self
    rw [qa_fX10_makesRoom_2, rf_tk h2 h1]
    simp only [qk_am1, qk_a0, qk_a1, qk_a2, qk_a3, qk_a4, qk_a5, qk_b6, qk_b7, qk_b10, qk_b15, qk_b16, qk_b20, qk_b24, qk_b25, qk_b33, qk_b48, qk_b50, qk_b52, qk_b57, qk_b59, qk_b60, qk_b97, qk_b98, qk_b100, qk_b110, qk_b112, qk_b113, qk_b114, qk_b116, qk_b126, qk_c138, qk_c139, qk_c140, qk_c141, qk_c142, qk_c143, qk_c144, qk_c145, qk_c146, qk_c147, qk_c150, qk_c163, qk_c164, qk_c165, qk_c166, qk_c167, qk_c168, qk_c169, qk_c170, qk_c171, qk_c172, qk_c173, qk_c174, qk_c175, qk_c176, qk_c400, qk_c880, qk_c1000, qk_c1023, Option.bind_some, qw_s, qk_n0, qk_n1, qk_n2, qk_n3, qk_n4, qk_n5, qk_n6, qk_n7, qk_n10, qk_n15, qk_n16, qk_n20, qk_n24, qk_n25, qk_n33, qk_n48, qk_n50, qk_n52, qk_n57, qk_n59, qk_n60, qk_n97, qk_n98, qk_n100, qk_n110, qk_n112, qk_n113, qk_n114, qk_n116, qk_n126, qk_n138, qk_n139, qk_n140, qk_n141, qk_n142, qk_n143, qk_n144, qk_n145, qk_n146, qk_n147, qk_n150, qk_n163, qk_n164, qk_n165, qk_n166, qk_n167, qk_n168, qk_n169, qk_n170, qk_n171, qk_n172, qk_n173, qk_n174, qk_n175, qk_n176, qk_n400, qk_n880, qk_n1000, qk_n1023, rf_nb hp hs hl, qr_hd, qa_fX10_makesRoom_42, qr_rm, qr_ft_i hs hb hb2, if_neg (qr_nI_m (k := a) (by omega)), rf_bu (show a < 16 by omega)]
    by_cases hf : qr_ft b.toInt s = true
    · simp only [if_pos hf, nI_0, Int32.add_zero]
    · simp only [if_neg hf]
      rw [ih _ _ _ (qe_pr hp (bu_w (by omega)).1 (bu_o (by omega) (by omega))) (bu_sl (by omega) hs he) (bu_se (by omega) he) (bu_li hp hs hl) (by simp only [List.length_cons] at hm; omega)]
      rw [nI_succ, Int32.add_assoc, Int32.add_comm 1]
theorem qr_in_len (s : qs) (a : Nat) : ∀ l : List Nat, (qr_in s a l).length = l.length + 1 := by
  intro l
  induction l with
  | nil => rfl
  | cons b l ih =>
    unfold qr_in
    split
    · rfl
    · simp only [List.length_cons, ih]
theorem qr_lf_len (s : qs) : ∀ k : Nat, (qr_lf s k).length ≤ k := by
  intro k
  induction k with
  | zero => exact Nat.le_refl _
  | succ k ih =>
    unfold qr_lf
    split
    · rw [qr_in_len]; omega
    · omega
theorem rf_mr (hp : qi_pr s) (hs : qi_sl s) (he : qi_se s) {b : Int32} (hb : 0 ≤ b.toInt) (hb2 : b.toInt ≤ 1000) : qa_fX10_makesRoom b (qw ρ s y) = some (nI (qr_mr b.toInt s).1, qw ρ (qr_mr b.toInt s).2 y) := by
  unfold qa_fX10_makesRoom qr_mr
  have h1 := qr_lf_len s (qn (s 0))
  have h9 := (qi_n hs).2
  rw [rf_mr_l hb hb2 (qr_ln s) s qa_fu _ hp hs he (qr_li_ln s) (by unfold qa_fu qr_ln; omega), qk_a0, Int32.zero_add]
end QRJ
end
section
/-! the reference's own methods: loading begins -/
section QRK
variable {ρ : qa_T} {s t : qs} {y : Int32}
theorem qk_in138 : qa_in 138 176 = true := rfl
theorem qk_in140 : qa_in 140 176 = true := rfl
theorem qk_in141 : qa_in 141 176 = true := rfl
theorem qk_in143 : qa_in 143 176 = true := rfl
theorem qk_in172 : qa_in 172 176 = true := rfl
theorem qk_in174 : qa_in 174 176 = true := rfl
/-- what burning leaves as it is -/
theorem rm_o {m : Int} {i : Nat} : ∀ (l : List Nat) (s : qs), (∀ a ∈ l, a < 16) → (i < 1 ∨ 112 < i ∨ ∃ k w, i = 1 + 7 * k + w ∧ (w < 3 ∨ w = 6)) → ¬ i = 173 → (qr_rm m l s).2 i = s i := by
  intro l
  induction l with
  | nil => intro s _ _ _; rfl
  | cons a l ih =>
    intro s hl hi h3
    unfold qr_rm
    split
    · rfl
    · dsimp only
      rw [ih _ (fun x hx => hl x (List.mem_cons_of_mem _ hx)) hi h3]
      have ha := hl a List.mem_cons_self
      refine bu_o ?_ h3
      rcases hi with h | h | ⟨k, w, h, h4⟩ <;> omega
theorem ln_16 (hs : qi_sl s) : ∀ a ∈ qr_ln s, a < 16 := fun a ha => by
  have h1 := ((qr_li_ln s).2 a).mp ha
  have h2 := (qi_n hs).2
  omega
theorem mr_o {m : Int} {i : Nat} (hs : qi_sl s) (hi : i < 1 ∨ 112 < i ∨ ∃ k w, i = 1 + 7 * k + w ∧ (w < 3 ∨ w = 6)) (h3 : ¬ i = 173) : (qr_mr m s).2 i = s i := rm_o _ s (ln_16 hs) hi h3
theorem rm_k {m : Int} : ∀ (l : List Nat) (s : qs), (∀ a ∈ l, a < 16) → qi_pr s → qi_sl s → qi_se s → qi_pr (qr_rm m l s).2 ∧ qi_sl (qr_rm m l s).2 ∧ qi_se (qr_rm m l s).2 := by
  intro l
  induction l with
  | nil => intro s _ h1 h2 h3; exact ⟨h1, h2, h3⟩
  | cons a l ih =>
    intro s hl h1 h2 h3
    have ha := hl a List.mem_cons_self
    unfold qr_rm
    split
    · exact ⟨h1, h2, h3⟩
    · exact ih _ (fun x hx => hl x (List.mem_cons_of_mem _ hx)) (qe_pr h1 (bu_w ha).1 (bu_o (by omega) (by omega))) (bu_sl ha h2 h3) (bu_se ha h3)
theorem mr_k {m : Int} (h1 : qi_pr s) (h2 : qi_sl s) (h3 : qi_se s) : qi_pr (qr_mr m s).2 ∧ qi_sl (qr_mr m s).2 ∧ qi_se (qr_mr m s).2 := rm_k _ s (ln_16 h2) h1 h2 h3
theorem rf_du {a : Nat} (ha : a < 16) : qa_fX10_due (nI a) (qw ρ s y) = some (qr_du s a) := by
  unfold qa_fX10_due qa_fX10_due_28 qr_du
  simp only [qk_am1, qk_a0, qk_a1, qk_a2, qk_a3, qk_a4, qk_a5, qk_b6, qk_b7, qk_b10, qk_b15, qk_b16, qk_b20, qk_b24, qk_b25, qk_b33, qk_b48, qk_b50, qk_b52, qk_b57, qk_b59, qk_b60, qk_b97, qk_b98, qk_b100, qk_b110, qk_b112, qk_b113, qk_b114, qk_b116, qk_b126, qk_c138, qk_c139, qk_c140, qk_c141, qk_c142, qk_c143, qk_c144, qk_c145, qk_c146, qk_c147, qk_c150, qk_c163, qk_c164, qk_c165, qk_c166, qk_c167, qk_c168, qk_c169, qk_c170, qk_c171, qk_c172, qk_c173, qk_c174, qk_c175, qk_c176, qk_c400, qk_c880, qk_c1000, qk_c1023, rf_of4 ha, rf_of1 ha, Option.bind_some]
  split <;> rfl
theorem rf_st (hp : qi_pr s) (hs : qi_sl s) (he : qi_se s) {a : Nat} (ha : a < qn (s 0)) : qa_fX10_starts (nI a) (qw ρ s y) = some (qw ρ (qr_st s a) y) := by
  have hn := (qi_n hs).2
  have hi := qn_int hs.1
  have ha2 : a < 16 := by omega
  have hc := (hs.2.2 a ha2).2.2.2.2.1 (by omega)
  unfold qa_fX10_starts qa_fX10_starts_68 qr_st qr_s0
  simp only [qk_am1, qk_a0, qk_a1, qk_a2, qk_a3, qk_a4, qk_a5, qk_b6, qk_b7, qk_b10, qk_b15, qk_b16, qk_b20, qk_b24, qk_b25, qk_b33, qk_b48, qk_b50, qk_b52, qk_b57, qk_b59, qk_b60, qk_b97, qk_b98, qk_b100, qk_b110, qk_b112, qk_b113, qk_b114, qk_b116, qk_b126, qk_c138, qk_c139, qk_c140, qk_c141, qk_c142, qk_c143, qk_c144, qk_c145, qk_c146, qk_c147, qk_c150, qk_c163, qk_c164, qk_c165, qk_c166, qk_c167, qk_c168, qk_c169, qk_c170, qk_c171, qk_c172, qk_c173, qk_c174, qk_c175, qk_c176, qk_c400, qk_c880, qk_c1000, qk_c1023, rf_of0 ha2, Option.bind_some, rf_mr hp hs he (show 0 ≤ (s (1 + 7 * a)).toInt by omega) (show (s (1 + 7 * a)).toInt ≤ 1000 by omega), qw_wi, qk_n0, qk_n1, qk_n2, qk_n3, qk_n4, qk_n5, qk_n6, qk_n7, qk_n10, qk_n15, qk_n16, qk_n20, qk_n24, qk_n25, qk_n33, qk_n48, qk_n50, qk_n52, qk_n57, qk_n59, qk_n60, qk_n97, qk_n98, qk_n100, qk_n110, qk_n112, qk_n113, qk_n114, qk_n116, qk_n126, qk_n138, qk_n139, qk_n140, qk_n141, qk_n142, qk_n143, qk_n144, qk_n145, qk_n146, qk_n147, qk_n150, qk_n163, qk_n164, qk_n165, qk_n166, qk_n167, qk_n168, qk_n169, qk_n170, qk_n171, qk_n172, qk_n173, qk_n174, qk_n175, qk_n176, qk_n400, qk_n880, qk_n1000, qk_n1023, rf_du ha2, rf_of4 ha2, qw_s, qk_in172, not_true, if_false, rf_lay4 ha2]
  have e1 : ∀ v, qr_du (upd (qr_mr (s (1 + 7 * a)).toInt s).2 144 v) a = qr_du (qr_mr (s (1 + 7 * a)).toInt s).2 a := by
    intro v
    unfold qr_du
    simp (disch := omega) only [pk_us, pk_un, qz_ue]
  rw [e1]
  simp (disch := omega) only [pk_us, pk_un, qz_ue]
  split <;> rfl
theorem rf_fg3 {a : Nat} {q : Nat} (hq : q ≤ 16) (h6 : s 146 = nI (q + 1)) {m : Nat} : qa_fX10_forgets_61 (nI a) (m + 2) (nI q) (nI q) (qw ρ s y) = some (qw ρ (upd (upd s (147 + q) 0) 146 (nI q)) y) := by
  rw [qa_fX10_forgets_61, qw_s, qk_c146, qk_n146, h6, if_neg (nI_ge (by omega) (by omega)), qk_c147, qk_i147, nI_add, qz_ifn (by omega) (by omega), nI_clamp (by omega), qw_wi, qk_a0, qk_a1, nI_1]
  dsimp only
  rw [qa_fX10_forgets_61, qw_s, qk_c146, qk_n146, pk_un (by omega), h6, if_pos (nI_le (Nat.le_refl _) (by omega)), qw_wi]
/-- behind the place p all have moved on by one, up to k -/
def qr_f1 (s : qs) (p k : Nat) : qs := fun i => if 147 + p ≤ i ∧ i + 1 < 147 + k then s (i + 1) else s i
theorem rf_fg2 {a p q : Nat} (hq : q + 1 ≤ 16) (h6 : s 146 = nI (q + 1)) (hp : p ≤ q) (hd : ∀ k, p < k → k < q + 1 → ¬ s (147 + k) = nI a) : ∀ (m k : Nat), p + 1 ≤ k → k ≤ q + 1 → q + 1 - k < m → qa_fX10_forgets_4 (nI a) m (nI (k - 1)) (nI k) (qw ρ (qr_f1 s p k) y) = some (qw ρ (qr_f0 s p) y) := by
  intro m
  induction m with
  | zero => intro k h1 h2 h3; omega
  | succ m ih =>
    intro k h1 h2 h3
    have e6 : qr_f1 s p k 146 = nI (q + 1) := by
      unfold qr_f1
      rw [if_neg (by omega), h6]
    rw [qa_fX10_forgets_4, qw_s, qk_c146, qk_n146, e6]
    by_cases e : k = q + 1
    · subst e
      rw [if_pos (nI_le (Nat.le_refl _) (by omega)), show q + 1 - 1 = q from rfl, show qa_fu = 2998 + 2 from rfl, rf_fg3 (by omega) e6]
      congr 2
      funext i
      unfold qr_f0 qr_f1 upd
      dsimp only
      rw [h6, qn_nI (by omega)]
      by_cases c1 : i = 146
      · rw [if_pos c1, if_pos c1]; rfl
      · rw [if_neg c1, if_neg c1]
        by_cases c2 : i = 147 + q
        · rw [if_pos c2, if_neg (by omega), if_pos (by omega)]
        · rw [if_neg c2]
          by_cases c3 : 147 + p ≤ i ∧ i + 1 < 147 + (q + 1)
          · rw [if_pos c3, if_pos c3]
          · rw [if_neg c3, if_neg c3, if_neg (by omega)]
    · have e7 : qr_f1 s p k (147 + k) = s (147 + k) := by
        unfold qr_f1
        rw [if_neg (by omega)]
      rw [if_neg (nI_ge (by omega) (by omega)), qk_c147, qk_i147, nI_add, qz_ifn (by omega) (by omega), nI_clamp (by omega), e7, if_neg (hd k (by omega) (by omega)), qz_ifn (by omega) (by omega), nI_add, qz_ifn (by omega) (by omega), nI_clamp (by omega), qw_wi]
      unfold qa_fX10_forgets_53
      dsimp only
      rw [qk_a1, nI_1, nI_1, show k - 1 + 1 = k + 1 - 1 by omega, ← ih (k + 1) (by omega) (by omega) (by omega)]
      congr 2
      funext i
      unfold qr_f1 upd
      dsimp only
      by_cases c2 : i = 147 + (k - 1)
      · rw [if_pos c2, if_pos (by omega), show i + 1 = 147 + k by omega]
      · rw [if_neg c2]
        by_cases c3 : 147 + p ≤ i ∧ i + 1 < 147 + k
        · rw [if_pos c3, if_pos (by omega)]
        · rw [if_neg c3, if_neg (by omega)]
theorem rf_fg1 {a q : Nat} (hq : q ≤ 16) (h6 : s 146 = nI q) (hd : ∀ j k : Nat, j < k → k < q → ¬ s (147 + j) = s (147 + k)) : ∀ (m k : Nat), k ≤ q → q - k < m → qa_fX10_forgets_4 (nI a) m (nI k) (nI k) (qw ρ s y) = some (qw ρ (match qr_qf s a (q - k) k with
    | none => s
    | some p => qr_f0 s p) y) := by
  intro m
  induction m with
  | zero => intro k h1 h2; omega
  | succ m ih =>
    intro k h1 h2
    rw [qa_fX10_forgets_4, qw_s, qk_c146, qk_n146, h6]
    by_cases e : k = q
    · subst e
      rw [if_pos (nI_le (Nat.le_refl _) (by omega)), Nat.sub_self, show qa_fu = 2999 + 1 from rfl, qa_fX10_forgets_61, qw_s, qk_c146, qk_n146, h6, if_pos (nI_le (Nat.le_refl _) (by omega)), qw_wi, qz_us (by rw [h6])]
      rfl
    · obtain ⟨d, hd2⟩ : ∃ d, q - k = d + 1 := ⟨q - k - 1, by omega⟩
      rw [if_neg (nI_ge (by omega) (by omega)), qk_c147, qk_i147, nI_add, qz_ifn (by omega) (by omega), nI_clamp (by omega), hd2]
      unfold qr_qf
      by_cases e3 : s (147 + k) = nI a
      · rw [if_pos e3, if_pos e3]
        obtain ⟨q, rfl⟩ : ∃ j, q = j + 1 := ⟨q - 1, by omega⟩
        unfold qa_fX10_forgets_53
        dsimp only
        rw [qk_a1, nI_1, show nI k = nI (k + 1 - 1) from rfl, ← rf_fg2 (by omega) h6 (show k ≤ q by omega) (fun j h7 h8 t => hd k j h7 h8 (by rw [e3, t])) m (k + 1) (by omega) (by omega) (by omega)]
        congr 2
        funext i
        unfold qr_f1
        rw [if_neg (by omega)]
      · rw [if_neg e3, if_neg e3, qz_ifn (by omega) (by omega), qz_ifn (by omega) (by omega), qw_wi, qz_us rfl]
        unfold qa_fX10_forgets_53
        dsimp only
        rw [qk_a1, nI_1, ih (k + 1) (by omega) (by omega), show q - (k + 1) = d by omega]
theorem rf_fg (h : qi_qd s) (a : Nat) : qa_fX10_forgets (nI a) (qw ρ s y) = some (qw ρ (qr_fg s a) y) := by
  have h3 := qn_int h.1
  have h1 := qn_of h.1
  have h4 := h.2.1
  have h2 : qn (s 146) ≤ 16 := by omega
  unfold qa_fX10_forgets qr_fg qr_qp
  rw [qk_a0, show (0 : Int32) = nI 0 from rfl, rf_fg1 h2 h1 (fun j k h4 h5 => h.2.2 j k h4 (by omega)) qa_fu 0 (by omega) (by unfold qa_fu; omega), Nat.sub_zero]
  rfl
end QRK
end
section
/-! what always holds, kept by each step -/
section QRL
variable {s t : qs} {N : Nat}
theorem t0_o {i : Nat} (h1 : ¬ i = 168) (h2 : ¬ i = 174) (h3 : ¬ i = 143) : qr_t0 s i = s i := by
  unfold qr_t0
  simp (disch := omega) only [pk_us, pk_un, qz_ue]
theorem em_o (s : qs) {i : Nat} (h : i < 1 ∨ 112 < i ∨ ∃ k w, i = 1 + 7 * k + w ∧ w < 7 ∧ ¬ w = 4) : ∀ k : Nat, k ≤ 16 → qr_em s k i = s i := by
  intro k
  induction k with
  | zero => intro _; rfl
  | succ k ih =>
    intro hk
    unfold qr_em
    rw [pk_un (by rcases h with h | h | ⟨j, w, h, h4, h5⟩ <;> omega), ih (by omega)]
theorem em_4 (s : qs) {j : Nat} : ∀ k : Nat, qr_em s k (1 + 7 * j + 4) = if j < k then (if s (1 + 7 * j + 4) ≤ 0 then 0 else s (1 + 7 * j + 4) - 1) else s (1 + 7 * j + 4) := by
  intro k
  induction k with
  | zero => rw [if_neg (by omega)]; rfl
  | succ k ih =>
    unfold qr_em
    by_cases e : j = k
    · subst e
      rw [pk_us, if_pos (show j < j + 1 by omega)]
    · rw [pk_un (by omega), ih]
      by_cases e2 : j < k
      · rw [if_pos e2, if_pos (show j < k + 1 by omega)]
      · rw [if_neg e2, if_neg (show ¬ j < k + 1 by omega)]
theorem fd_o {i : Nat} (h1 : ¬ i = 141) (h2 : ¬ i = 140) : qr_fd s i = s i := by
  unfold qr_fd
  simp (disch := omega) only [pk_us, pk_un, qz_ue]
theorem t1_o (h : qi_sl s) {i : Nat} (h1 : i < 1 ∨ 112 < i ∨ ∃ k w, i = 1 + 7 * k + w ∧ w < 7 ∧ ¬ w = 4) (h2 : i ≤ 139 ∨ i = 142 ∨ (144 ≤ i ∧ i < 168) ∨ (168 < i ∧ ¬ i = 174)) : qr_t1 s i = s i := by
  have hn := (qi_n h).2
  unfold qr_t1
  rw [fd_o (by omega) (by omega), em_o _ h1 _ hn, t0_o (by omega) (by omega) (by omega)]
theorem t1_4 {j : Nat} (hj : j < 16) : qr_t1 s (1 + 7 * j + 4) = if j < qn (s 0) then (if s (1 + 7 * j + 4) ≤ 0 then 0 else s (1 + 7 * j + 4) - 1) else s (1 + 7 * j + 4) := by
  unfold qr_t1
  rw [fd_o (by omega) (by omega), em_4, t0_o (by omega) (by omega) (by omega)]
theorem qz_m1 {a : Int32} : a = -1 ↔ a.toInt = -1 := by rw [qz_eq, qk_tm1]
theorem qz_00 {a : Int32} : a = 0 ↔ a.toInt = 0 := by rw [qz_eq, qk_t0]
theorem qz_11 {a : Int32} : a = 1 ↔ a.toInt = 1 := by rw [qz_eq, qk_t1]
theorem qz_l0 {a : Int32} : a ≤ 0 ↔ a.toInt ≤ 0 := by rw [qz_le, qk_t0]
theorem qz_s1 {a : Int32} (h : -2147483648 < a.toInt) : (a - 1).toInt = a.toInt - 1 := by
  have := qz_rg a
  rw [qz_sub, qk_t1] <;> rw [qk_t1] <;> omega
theorem qz_p1 {a : Int32} (h : a.toInt < 2147483647) : (a + 1).toInt = a.toInt + 1 := by
  have := qz_rg a
  rw [qz_add, qk_t1] <;> rw [qk_t1] <;> omega
theorem t1_sl (h : qi_sl s) : qi_sl (qr_t1 s) := by
  have hn := (qi_n h).2
  unfold qi_sl
  rw [t1_o h (by omega) (by omega)]
  refine ⟨h.1, h.2.1, fun k hk => ?_⟩
  obtain ⟨c1, c2, c3, c4, c5, c6⟩ := h.2.2 k hk
  rw [t1_o h (i := 1 + 7 * k + 3) (Or.inr (Or.inr ⟨k, 3, rfl, by omega, by omega⟩)) (by omega), t1_o h (i := 1 + 7 * k + 6) (Or.inr (Or.inr ⟨k, 6, rfl, by omega, by omega⟩)) (by omega), t1_o h (i := 1 + 7 * k) (Or.inr (Or.inr ⟨k, 0, rfl, by omega, by omega⟩)) (by omega), t1_o h (i := 1 + 7 * k + 1) (Or.inr (Or.inr ⟨k, 1, rfl, by omega, by omega⟩)) (by omega), t1_o h (i := 1 + 7 * k + 2) (Or.inr (Or.inr ⟨k, 2, rfl, by omega, by omega⟩)) (by omega), t1_4 hk]
  refine ⟨c1, ?_, ?_, c4, c5, c6⟩
  · split
    · split
      · rw [qk_t0]; omega
      · next e => rw [qz_l0] at e; rw [qz_s1 (by omega)]; omega
    · exact c2
  · split
    · split
      · rw [qk_t0]; omega
      · next e => rw [qz_l0] at e; rw [qz_s1 (by omega)]; omega
    · exact c3
theorem t1_141 (h : qi_sl s) : qr_t1 s 141 = s 141 - (if s 141 ≤ 0 then 0 else 1) := by
  have hn := (qi_n h).2
  unfold qr_t1 qr_fd
  rw [em_o _ (by omega) _ hn, em_o _ (by omega) _ hn, t0_o (by omega) (by omega) (by omega), t0_o (by omega) (by omega) (by omega)]
  simp (disch := omega) only [pk_us, pk_un, qz_ue]
theorem t1_140 (h : qi_sl s) : qr_t1 s 140 = if s 141 - (if s 141 ≤ 0 then 0 else 1) ≤ 0 then -1 else s 140 := by
  have hn := (qi_n h).2
  unfold qr_t1 qr_fd
  rw [em_o _ (by omega) _ hn, em_o _ (by omega) _ hn, t0_o (by omega) (by omega) (by omega), t0_o (by omega) (by omega) (by omega)]
  simp (disch := omega) only [pk_us, pk_un, qz_ue]
theorem t1_143 (h : qi_sl s) : qr_t1 s 143 = s 143 + (if s 139 = -1 then 0 else 1) := by
  have hn := (qi_n h).2
  unfold qr_t1
  rw [fd_o (by omega) (by omega), em_o _ (by omega) _ hn]
  unfold qr_t0
  simp (disch := omega) only [pk_us, pk_un, qz_ue]
theorem t1_A (h : qi_A N s) : qi_A N (qr_t1 s) := by
  obtain ⟨hs, hp, hw, hl, hq, he, hc⟩ := h
  have e3 : ∀ k : Nat, k < 16 → qr_t1 s (1 + 7 * k + 3) = s (1 + 7 * k + 3) := fun k hk => t1_o hs (Or.inr (Or.inr ⟨k, 3, rfl, by omega, by omega⟩)) (by omega)
  refine ⟨t1_sl hs, qq_pr hp (t1_o hs (by omega) (by omega)) (fun i h1 h2 => t1_o hs (by omega) (by omega)), ?_, qq_lx hl (t1_o hs (by omega) (by omega)) (t1_o hs (by omega) (by omega)) (t1_o hs (by omega) (by omega)) (t1_o hs (by omega) (by omega)) e3, qq_qu hs hq (t1_o hs (by omega) (by omega)) (t1_o hs (by omega) (by omega)) (t1_o hs (by omega) (by omega)) (fun i h1 h2 => t1_o hs (by omega) (by omega)) e3, qq_se he (fun i h1 h2 => t1_o hs (by omega) (by omega)), qq_ct hc (t1_o hs (by omega) (by omega)) (t1_o hs (by omega) (by omega)) (t1_o hs (by omega) (by omega))⟩
  obtain ⟨w1, w2, w3, w4, w5, w6, w7, w8⟩ := hw
  unfold qi_sw
  rw [t1_o hs (i := 0) (by omega) (by omega), t1_o hs (i := 139) (by omega) (by omega), t1_140 hs, t1_141 hs, t1_143 hs]
  have e1 : (s 141 - (if s 141 ≤ 0 then 0 else 1)).toInt = if (s 141).toInt ≤ 0 then 0 else (s 141).toInt - 1 := by
    by_cases c : (s 141).toInt ≤ 0
    · rw [if_pos (qz_l0.mpr c), if_pos c, Int32.sub_zero]; omega
    · rw [if_neg (fun t => c (qz_l0.mp t)), if_neg c, qz_s1 (by omega)]
  generalize (s 141 - if s 141 ≤ 0 then (0 : Int32) else 1) = v at e1 ⊢
  by_cases c : (s 141).toInt ≤ 0
  · rw [if_pos c] at e1
    rw [if_pos (qz_l0.mpr (by omega)), qk_tm1]
    refine ⟨w1, w2, by omega, by have := hs.1; omega, by omega, by omega, by omega, fun h9 => ?_⟩
    have h10 := w8 h9
    rw [if_pos (qz_m1.mpr h9), h10.2]
    exact ⟨by omega, rfl⟩
  · rw [if_neg c] at e1
    by_cases c2 : v ≤ 0
    · rw [if_pos c2, qk_tm1]
      rw [qz_l0] at c2
      refine ⟨w1, w2, by omega, by have := hs.1; omega, by omega, by omega, by omega, fun h9 => ?_⟩
      have h10 := w8 h9
      omega
    · rw [if_neg c2]
      rw [qz_l0] at c2
      refine ⟨w1, w2, by omega, by omega, by omega, by omega, by omega, fun h9 => ?_⟩
      have h10 := w8 h9
      omega
theorem us_o {a i : Nat} (h1 : ¬ i = 175) (h2 : ¬ i = 1 + 7 * a + 6) : qr_us s a i = s i := by
  unfold qr_us
  simp (disch := omega) only [pk_us, pk_un, qz_ue]
theorem us_sl (h : qi_sl s) (hc : qi_ct N s) (hN : N < 2147483647) {a : Nat} (ha : a < 16) : qi_sl (qr_us s a) := by
  unfold qi_sl
  rw [us_o (i := 0) (by omega) (by omega)]
  refine ⟨h.1, h.2.1, fun k hk => ?_⟩
  obtain ⟨c1, c2, c3, c4, c5, c6⟩ := h.2.2 k hk
  have hu := hc.2.2.2.2
  rw [us_o (i := 1 + 7 * k + 3) (by omega) (by omega), us_o (i := 1 + 7 * k) (by omega) (by omega), us_o (i := 1 + 7 * k + 1) (by omega) (by omega), us_o (i := 1 + 7 * k + 2) (by omega) (by omega), us_o (i := 1 + 7 * k + 4) (by omega) (by omega)]
  refine ⟨c1, c2, c3, ?_, c5, c6⟩
  by_cases e : k = a
  · subst e
    unfold qr_us
    rw [pk_us, qz_p1 (by omega)]
    omega
  · rw [us_o (by omega) (by omega)]
    exact c4
theorem us_ct (hc : qi_ct N s) (hN : N < 2147483647) {a : Nat} (ha : a < 16) : qi_ct (N + 1) (qr_us s a) := by
  unfold qi_ct at hc ⊢
  rw [us_o (i := 169) (by omega) (by omega), us_o (i := 170) (by omega) (by omega)]
  have e : qr_us s a 175 = s 175 + 1 := by
    unfold qr_us
    simp (disch := omega) only [pk_us, pk_un, qz_ue]
  rw [e, qz_p1 (by omega)]
  omega
theorem sf_o {a i : Nat} (h1 : ¬ i = 141) (h2 : ¬ i = 140) : qr_sf s a i = s i := by
  unfold qr_sf
  split
  · rfl
  · simp (disch := omega) only [pk_us, pk_un, qz_ue]
theorem sh_o {a i : Nat} (h1 : i < 139 ∨ 143 < i) (h2 : ¬ i = 175) (h3 : ¬ i = 1 + 7 * a + 6) : qr_sh s a i = s i := by
  unfold qr_sh
  rw [us_o h2 h3]
  simp (disch := omega) only [pk_us, pk_un, qz_ue]
  exact sf_o (by omega) (by omega)
/-- a slide is shown -/
theorem sh_A {a : Nat} (hs : qi_sl s) (hp : qi_pr s) (hw : qi_sw s) (hl : qi_lx a s) (hq : qi_qu s) (he : qi_se s) (hc : qi_ct N s) (hN : N < 2147483647) (ha : a < qn (s 0)) : qi_A (N + 1) (qr_sh s a) := by
  have hn := (qi_n hs).2
  have hi := qn_int hs.1
  have ha2 : a < 16 := by omega
  have e3 : ∀ k : Nat, k < 16 → qr_sh s a (1 + 7 * k + 3) = s (1 + 7 * k + 3) := fun k hk => sh_o (by omega) (by omega) (by omega)
  have e142 : qr_sh s a 142 = -1 := by
    unfold qr_sh
    rw [us_o (by omega) (by omega)]
    simp (disch := omega) only [pk_us, pk_un, qz_ue]
  have e139 : qr_sh s a 139 = nI a := by
    unfold qr_sh
    rw [us_o (by omega) (by omega)]
    simp (disch := omega) only [pk_us, pk_un, qz_ue]
  have e143 : qr_sh s a 143 = 0 := by
    unfold qr_sh
    rw [us_o (by omega) (by omega)]
    simp (disch := omega) only [pk_us, pk_un, qz_ue]
  have e141 : qr_sh s a 141 = qr_sf s a 141 := by
    unfold qr_sh
    rw [us_o (by omega) (by omega)]
    simp (disch := omega) only [pk_us, pk_un, qz_ue]
  have e140 : qr_sh s a 140 = qr_sf s a 140 := by
    unfold qr_sh
    rw [us_o (by omega) (by omega)]
    simp (disch := omega) only [pk_us, pk_un, qz_ue]
  refine ⟨?_, ?_, ?_, ?_, ?_, ?_, ?_⟩
  · unfold qr_sh
    refine us_sl (N := N) (qq_sl hs (fun i h => ?_)) (qq_ct hc ?_ ?_ ?_) hN ha2
    all_goals simp (disch := omega) only [pk_us, pk_un, qz_ue]
    all_goals exact sf_o (by omega) (by omega)
  · exact qq_pr hp (sh_o (by omega) (by omega) (by omega)) (fun i h1 h2 => sh_o (by omega) (by omega) (by omega))
  · obtain ⟨w1, w2, w3, w4, w5, w6, w7, w8⟩ := hw
    obtain ⟨f1, f2⟩ := ((hs.2.2 a ha2).2.2.2.2.1 (by omega)).2.2.2.2
    unfold qi_sw
    rw [sh_o (i := 0) (by omega) (by omega) (by omega), e139, e140, e141, e143, qz_nI (by omega)]
    have e : ∀ x : Int32, x.toInt = -1 → (a : Int) = -1 → False := fun x _ h => by omega
    unfold qr_sf
    by_cases c : s 139 = -1 ∨ s 139 = nI a
    · rw [if_pos c]
      exact ⟨by omega, by omega, w3, w4, w5, w6, w7, fun h => by omega⟩
    · rw [if_neg c]
      simp (disch := omega) only [pk_us, pk_un, qz_ue]
      have c1 : ¬ (s 139).toInt = -1 := fun t => c (Or.inl (qz_m1.mpr t))
      by_cases c2 : s (1 + 7 * a + 2) ≤ 0
      · rw [if_pos c2, qk_tm1]
        rw [qz_l0] at c2
        exact ⟨by omega, by omega, by omega, by omega, by omega, by omega, by omega, fun h => by omega⟩
      · rw [if_neg c2]
        rw [qz_l0] at c2
        exact ⟨by omega, by omega, by omega, by omega, by omega, by omega, by omega, fun h => by omega⟩
  · unfold qi_lo qi_lx
    obtain ⟨l1, l2, l3, l4, l5, l6⟩ := hl
    rw [sh_o (i := 0) (by omega) (by omega) (by omega), e142, sh_o (i := 144) (by omega) (by omega) (by omega), sh_o (i := 145) (by omega) (by omega) (by omega), qk_tm1]
    refine ⟨by omega, by omega, l3, l4, l5, fun k hk h => ?_⟩
    rw [e3 k hk]
    exact l6 k hk (Or.inr (by omega))
  · obtain ⟨q1, q2, q3, q4⟩ := hq
    unfold qi_qu
    rw [sh_o (i := 0) (by omega) (by omega) (by omega), e142, sh_o (i := 144) (by omega) (by omega) (by omega), sh_o (i := 146) (by omega) (by omega) (by omega)]
    refine ⟨q1, q2, fun k hk => ?_, fun j k hj hk => ?_⟩
    · obtain ⟨r1, r2, r3, r4, r5⟩ := q3 k hk
      have r6 := qn_int r1
      rw [sh_o (i := 147 + k) (by omega) (by omega) (by omega), e3 _ (by omega)]
      exact ⟨r1, r2, by rw [qz_m1]; omega, r4, r5⟩
    · rw [sh_o (i := 147 + k) (by omega) (by omega) (by omega), sh_o (i := 147 + j) (by omega) (by omega) (by omega)]
      exact q4 j k hj hk
  · exact qq_se he (fun i h1 h2 => sh_o (by omega) (by omega) (by omega))
  · unfold qr_sh
    refine us_ct (qq_ct hc ?_ ?_ ?_) hN ha2
    all_goals simp (disch := omega) only [pk_us, pk_un, qz_ue]
    all_goals exact sf_o (by omega) (by omega)
end QRL
end
section
/-! what always holds, kept by each step (2) -/
section QRN
variable {s t : qs} {N : Nat}
theorem qf_n (s : qs) (a : Nat) : ∀ m k : Nat, qr_qf s a m k = none → ∀ j : Nat, k ≤ j → j < k + m → ¬ s (147 + j) = nI a := by
  intro m
  induction m with
  | zero => intro k _ j h1 h2; omega
  | succ m ih =>
    intro k h j h1 h2
    unfold qr_qf at h
    by_cases e : s (147 + k) = nI a
    · rw [if_pos e] at h; cases h
    · rw [if_neg e] at h
      by_cases e2 : j = k
      · subst e2; exact e
      · exact ih (k + 1) h j (by omega) (by omega)
theorem qf_s (s : qs) (a : Nat) : ∀ m k p : Nat, qr_qf s a m k = some p → k ≤ p ∧ p < k + m ∧ s (147 + p) = nI a := by
  intro m
  induction m with
  | zero => intro k p h; cases h
  | succ m ih =>
    intro k p h
    unfold qr_qf at h
    by_cases e : s (147 + k) = nI a
    · rw [if_pos e] at h; cases h; exact ⟨by omega, by omega, e⟩
    · rw [if_neg e] at h
      obtain ⟨h1, h2, h3⟩ := ih (k + 1) p h
      exact ⟨by omega, by omega, h3⟩
theorem fg_o (h : qi_qd s) (a : Nat) {i : Nat} (hi : i < 146 ∨ 163 ≤ i) : qr_fg s a i = s i := by
  have h1 := h.2.1
  have h2 := qn_int h.1
  unfold qr_fg
  cases qr_qp s a with
  | none => rfl
  | some p =>
    unfold qr_f0
    dsimp only
    rw [if_neg (by omega), if_neg (by omega), if_neg (by omega)]
theorem fg_q (h : qi_qd s) (a : Nat) : qi_qd (qr_fg s a) ∧ ∀ k : Nat, (k : Int) < (qr_fg s a 146).toInt → ¬ qr_fg s a (147 + k) = nI a ∧ ∃ j : Nat, (j : Int) < (s 146).toInt ∧ qr_fg s a (147 + k) = s (147 + j) := by
  have h1 := h.2.1
  have h2 := qn_int h.1
  have h3 := h.2.2
  unfold qr_fg qr_qp
  cases e : qr_qf s a (qn (s 146)) 0 with
  | none =>
    dsimp only
    refine ⟨h, fun k hk => ⟨?_, k, hk, rfl⟩⟩
    exact qf_n s a _ _ e k (by omega) (by omega)
  | some p =>
    dsimp only
    obtain ⟨p1, p2, p3⟩ := qf_s s a _ _ _ e
    have e6 : (qr_f0 s p 146).toInt = (s 146).toInt - 1 := by
      unfold qr_f0
      rw [if_pos rfl, qz_nI (by omega)]
      omega
    have e7 : ∀ k : Nat, (k : Int) < (s 146).toInt - 1 → qr_f0 s p (147 + k) = if p ≤ k then s (147 + (k + 1)) else s (147 + k) := by
      intro k hk
      unfold qr_f0
      rw [if_neg (by omega)]
      by_cases c : p ≤ k
      · rw [if_pos (by omega), if_pos c]; rfl
      · rw [if_neg (by omega), if_neg (by omega), if_neg c]
    refine ⟨⟨by rw [e6]; omega, by rw [e6]; omega, fun j k hj hk => ?_⟩, fun k hk => ?_⟩
    · rw [e6] at hk
      rw [e7 j (by omega), e7 k hk]
      split
      · rw [if_pos (by omega)]
        exact h3 _ _ (by omega) (by omega)
      · split
        · exact h3 _ _ (by omega) (by omega)
        · exact h3 _ _ (by omega) (by omega)
    · rw [e6] at hk
      rw [e7 k hk, ← p3]
      split
      · exact ⟨fun t => h3 p (k + 1) (by omega) (by omega) t.symm, k + 1, by omega, rfl⟩
      · exact ⟨h3 k p (by omega) (by omega), k, by omega, rfl⟩
/-- the next slide's number -/
theorem ga_b (h : qi_pr s) (h0 : 0 < (s 113).toInt) (hs : qi_sl s) : qr_ga s < qn (s 0) ∧ s (114 + qr_ix s 1) = nI (qr_ga s) := by
  have h1 := qi_sa h h0 1
  unfold qr_sa at h1
  have h2 := qn_int h1.1
  have h3 := qn_int hs.1
  unfold qr_ga
  exact ⟨by omega, qn_of h1.1⟩
theorem g0_o {i : Nat} (h : ¬ i = 138) : qr_g0 s i = s i := by
  unfold qr_g0
  rw [pk_un h]
theorem g0_pr (h : qi_pr s) (h0 : 0 < (s 113).toInt) (e0 : t 0 = s 0) (e3 : t 113 = s 113) (e8 : t 138 = nI (qr_ix s 1)) (e : ∀ k : Nat, k < 24 → t (114 + k) = s (114 + k)) : qi_pr t := by
  have h1 := (qi_ixb h h0 1).1
  have h2 := (qi_p h).2
  have h3 := qn_int h.1
  unfold qi_pr
  rw [e0, e3, e8, qz_nI (by omega)]
  refine ⟨h.1, h.2.1, by omega, by omega, fun k hk => ?_⟩
  rw [e k (by omega)]
  exact h.2.2.2.2 k hk
theorem ld_0 (h : qi_sl s) {k : Nat} (hk : k < 16) (e : ¬ qr_ld s k = true) : s (1 + 7 * k + 3) = 0 := by
  unfold qr_ld at e
  rcases (h.2.2 k hk).1 with h1 | h1
  · exact h1
  · rw [h1] at e; exact absurd (decide_eq_true rfl) e
theorem go_A (h : qi_A N s) (h0 : 0 < (s 113).toInt) (h4 : s 142 = -1) (hN : N + 2 < 2147483647) : qi_A (N + 2) (qr_go s).2 := by
  obtain ⟨hs, hp, hw, hl, hq, he, hc⟩ := h
  obtain ⟨a1, a2⟩ := ga_b hp h0 hs
  have hn := (qi_n hs).2
  unfold qr_go
  generalize hga : qr_ga s = a at a1 a2 ⊢
  have ha : a < 16 := by omega
  by_cases hld : qr_ld s a = true
  · rw [if_pos hld]
    dsimp only
    have eo : ∀ i, ¬ i = 138 → ¬ i = 169 → upd (qr_g0 s) 169 (s 169 + 1) i = s i := fun i h1 h2 => by rw [pk_un h2, g0_o h1]
    refine sh_A (N := N + 1) (qq_sl hs fun i hi => eo i (by omega) (by omega)) (g0_pr hp h0 (eo _ (by omega) (by omega)) (eo _ (by omega) (by omega)) ?_ (fun k hk => eo _ (by omega) (by omega))) (qq_sw hw (eo _ (by omega) (by omega)) (eo _ (by omega) (by omega)) (eo _ (by omega) (by omega)) (eo _ (by omega) (by omega)) (eo _ (by omega) (by omega))) ?_ (qq_qu hs hq (eo _ (by omega) (by omega)) (eo _ (by omega) (by omega)) (eo _ (by omega) (by omega)) (fun i h1 h2 => eo _ (by omega) (by omega)) (fun k hk => eo _ (by omega) (by omega))) (qq_se he (fun i h1 h2 => eo _ (by omega) (by omega))) ?_ (by omega) ?_
    · rw [pk_un (by omega)]
      unfold qr_g0
      rw [pk_us]
    · refine qq_lx (s := s) ?_ (eo _ (by omega) (by omega)) (eo _ (by omega) (by omega)) (eo _ (by omega) (by omega)) (eo _ (by omega) (by omega)) (fun k hk => eo _ (by omega) (by omega))
      refine ⟨hl.1, hl.2.1, hl.2.2.1, hl.2.2.2.1, hl.2.2.2.2.1, fun k hk hh => hl.2.2.2.2.2 k hk ?_⟩
      rcases hh with hh | hh
      · exact Or.inl ⟨hh.1, by omega⟩
      · exact Or.inr hh
    · unfold qi_ct at hc ⊢
      rw [pk_us, eo 170 (by omega) (by omega), eo 175 (by omega) (by omega), qz_p1 (by omega)]
      omega
    · rw [eo 0 (by omega) (by omega)]; exact a1
  · rw [if_neg hld]
    dsimp only
    have h30 := ld_0 hs ha hld
    generalize hu : upd (upd (qr_g0 s) 170 (s 170 + 1)) 142 (nI a) = u
    have eo : ∀ i, ¬ i = 138 → ¬ i = 170 → ¬ i = 142 → u i = s i := fun i h1 h2 h3 => by rw [← hu, pk_un h3, pk_un h2, g0_o h1]
    have hqd : qi_qd u := by
      have h1 := qi_qdq hq
      have h2 := h1.2.1
      unfold qi_qd
      rw [eo 146 (by omega) (by omega) (by omega)]
      refine ⟨h1.1, h1.2.1, fun j k hj hk => ?_⟩
      rw [eo (147 + j) (by omega) (by omega) (by omega), eo (147 + k) (by omega) (by omega) (by omega)]
      exact h1.2.2 j k hj hk
    have fo : ∀ i, i < 146 ∨ 163 ≤ i → ¬ i = 138 → ¬ i = 170 → ¬ i = 142 → qr_fg u a i = s i := fun i h0 h1 h2 h3 => by rw [fg_o hqd a h0, eo i h1 h2 h3]
    obtain ⟨f1, f2⟩ := fg_q hqd a
    have e142 : qr_fg u a 142 = nI a := by rw [fg_o hqd a (by omega), ← hu, pk_us]
    refine ⟨qq_sl hs fun i hi => fo i (by omega) (by omega) (by omega) (by omega), g0_pr hp h0 (fo _ (by omega) (by omega) (by omega) (by omega)) (fo _ (by omega) (by omega) (by omega) (by omega)) ?_ (fun k hk => fo _ (by omega) (by omega) (by omega) (by omega)), qq_sw hw (fo _ (by omega) (by omega) (by omega) (by omega)) (fo _ (by omega) (by omega) (by omega) (by omega)) (fo _ (by omega) (by omega) (by omega) (by omega)) (fo _ (by omega) (by omega) (by omega) (by omega)) (fo _ (by omega) (by omega) (by omega) (by omega)), ?_, ?_, qq_se he (fun i h1 h2 => fo _ (by omega) (by omega) (by omega) (by omega)), ?_⟩
    · rw [fg_o hqd a (by omega), ← hu, pk_un (by omega), pk_un (by omega)]
      unfold qr_g0
      rw [pk_us]
    · obtain ⟨l1, l2, l3, l4, l5, l6⟩ := hl
      have hi := qn_int hs.1
      unfold qi_lo qi_lx
      rw [e142, fo 0 (by omega) (by omega) (by omega) (by omega), fo 144 (by omega) (by omega) (by omega) (by omega), fo 145 (by omega) (by omega) (by omega) (by omega), qz_nI (by omega)]
      refine ⟨by omega, by omega, l3, l4, l5, fun k hk hh => ?_⟩
      rw [fo (1 + 7 * k + 3) (by omega) (by omega) (by omega) (by omega)]
      by_cases e : k = a
      · subst e; exact h30
      · exact l6 k hk (by omega)
    · obtain ⟨q1, q2, q3, q4⟩ := hq
      unfold qi_qu
      refine ⟨f1.1, f1.2.1, fun k hk => ?_, f1.2.2⟩
      obtain ⟨g1, j, g2, g3⟩ := f2 k hk
      rw [eo 146 (by omega) (by omega) (by omega)] at g2
      rw [eo (147 + j) (by omega) (by omega) (by omega)] at g3
      obtain ⟨r1, r2, r3, r4, r5⟩ := q3 j g2
      have r6 := qn_int r1
      have r7 := qn_int hs.1
      rw [e142, fo 0 (by omega) (by omega) (by omega) (by omega), fo 144 (by omega) (by omega) (by omega) (by omega), g3, fo (1 + 7 * qn (s (147 + j)) + 3) (by omega) (by omega) (by omega) (by omega)]
      exact ⟨r1, r2, by rw [← g3]; exact g1, r4, r5⟩
    · unfold qi_ct at hc ⊢
      rw [fo 169 (by omega) (by omega) (by omega) (by omega), fo 175 (by omega) (by omega) (by omega) (by omega), fg_o hqd a (by omega), ← hu, pk_un (by omega), pk_us, qz_p1 (by omega)]
      omega
theorem l0_o {a i : Nat} (h1 : ¬ i = 145) (h2 : ¬ i = 144) (h3 : ¬ i = 1 + 7 * a + 3) (h4 : ¬ i = 175) (h5 : ¬ i = 1 + 7 * a + 6) : qr_l0 s a i = s i := by
  unfold qr_l0
  rw [us_o h4 h5, pk_un h3, pk_un h2, pk_un h1]
/-- what holds as the loading of a ends -/
theorem l0_A {a : Nat} (h : qi_A N s) (ha : s 144 = nI a) (ha2 : a < qn (s 0)) (hN : N + 1 < 2147483647) : qi_sl (qr_l0 s a) ∧ qi_pr (qr_l0 s a) ∧ qi_sw (qr_l0 s a) ∧ qi_lx a (qr_l0 s a) ∧ qi_qu (qr_l0 s a) ∧ qi_se (qr_l0 s a) ∧ qi_ct (N + 1) (qr_l0 s a) := by
  obtain ⟨hs, hp, hw, hl, hq, he, hc⟩ := h
  have hn := (qi_n hs).2
  have hi := qn_int hs.1
  have ha3 : a < 16 := by omega
  have e144 : qr_l0 s a 144 = -1 := by
    unfold qr_l0
    rw [us_o (by omega) (by omega)]
    simp (disch := omega) only [pk_us, pk_un, qz_ue]
  have e33 : qr_l0 s a (1 + 7 * a + 3) = 1 := by
    unfold qr_l0
    rw [us_o (by omega) (by omega), pk_us]
  have e3 : ∀ k, k < 16 → ¬ k = a → qr_l0 s a (1 + 7 * k + 3) = s (1 + 7 * k + 3) := fun k hk hka => l0_o (by omega) (by omega) (by omega) (by omega) (by omega)
  have hv : qi_sl (upd (upd (upd s 145 (s 145 - 1)) 144 (-1)) (1 + 7 * a + 3) 1) := by
    unfold qi_sl
    rw [pk_un (by omega), pk_un (by omega), pk_un (by omega)]
    refine ⟨hs.1, hs.2.1, fun k hk => ?_⟩
    obtain ⟨c1, c2, c3, c4, c5, c6⟩ := hs.2.2 k hk
    by_cases e : k = a
    · subst e
      simp (disch := omega) only [pk_us, pk_un, qz_ue]
      exact ⟨Or.inr trivial, c2, c3, c4, c5, fun h => by omega⟩
    · simp (disch := omega) only [pk_us, pk_un, qz_ue]
      exact ⟨c1, c2, c3, c4, c5, c6⟩
  refine ⟨us_sl (N := N) hv (qq_ct hc ?_ ?_ ?_) (by omega) ha3, ?_, ?_, ?_, ?_, ?_, us_ct (qq_ct hc ?_ ?_ ?_) (by omega) ha3⟩
  · simp (disch := omega) only [pk_us, pk_un, qz_ue]
  · simp (disch := omega) only [pk_us, pk_un, qz_ue]
  · simp (disch := omega) only [pk_us, pk_un, qz_ue]
  · exact qq_pr hp (l0_o (by omega) (by omega) (by omega) (by omega) (by omega)) (fun i h1 h2 => l0_o (by omega) (by omega) (by omega) (by omega) (by omega))
  · exact qq_sw hw (l0_o (by omega) (by omega) (by omega) (by omega) (by omega)) (l0_o (by omega) (by omega) (by omega) (by omega) (by omega)) (l0_o (by omega) (by omega) (by omega) (by omega) (by omega)) (l0_o (by omega) (by omega) (by omega) (by omega) (by omega)) (l0_o (by omega) (by omega) (by omega) (by omega) (by omega))
  · obtain ⟨l1, l2, l3, l4, l5, l6⟩ := hl
    unfold qi_lx
    rw [l0_o (i := 142) (by omega) (by omega) (by omega) (by omega) (by omega), l0_o (i := 0) (by omega) (by omega) (by omega) (by omega) (by omega), e144, qk_tm1]
    refine ⟨l1, l2, by omega, by omega, fun h => by omega, fun k hk hh => ?_⟩
    have hka : ¬ k = a := by omega
    rw [e3 k hk hka]
    exact l6 k hk (Or.inl ⟨by omega, by omega⟩)
  · obtain ⟨q1, q2, q3, q4⟩ := hq
    unfold qi_qu
    rw [l0_o (i := 142) (by omega) (by omega) (by omega) (by omega) (by omega), l0_o (i := 0) (by omega) (by omega) (by omega) (by omega) (by omega), l0_o (i := 146) (by omega) (by omega) (by omega) (by omega) (by omega), e144]
    refine ⟨q1, q2, fun k hk => ?_, fun j k hj hk => ?_⟩
    · obtain ⟨r1, r2, r3, r4, r5⟩ := q3 k hk
      have r6 := qn_int r1
      have r7 : ¬ qn (s (147 + k)) = a := fun t => r4 (by rw [ha, ← t]; exact qn_of r1)
      rw [l0_o (i := 147 + k) (by omega) (by omega) (by omega) (by omega) (by omega), e3 _ (by omega) r7]
      exact ⟨r1, r2, r3, by rw [qz_m1]; omega, r5⟩
    · rw [l0_o (i := 147 + k) (by omega) (by omega) (by omega) (by omega) (by omega), l0_o (i := 147 + j) (by omega) (by omega) (by omega) (by omega) (by omega)]
      exact q4 j k hj hk
  · exact qq_se he (fun i h1 h2 => l0_o (by omega) (by omega) (by omega) (by omega) (by omega))
  · simp (disch := omega) only [pk_us, pk_un, qz_ue]
  · simp (disch := omega) only [pk_us, pk_un, qz_ue]
  · simp (disch := omega) only [pk_us, pk_un, qz_ue]
theorem t2_A (h : qi_A N s) (hN : N + 2 < 2147483647) : qi_A (N + 2) (qr_t2 s).2 := by
  have h' := h
  obtain ⟨hs, hp, hw, hl, hq, he, hc⟩ := h
  have hn := (qi_n hs).2
  have hi := qn_int hs.1
  unfold qr_t2
  by_cases c1 : s 144 = -1
  · rw [if_pos c1]
    exact qq_A h' (by omega)
  · rw [if_neg c1]
    have g1 : 0 ≤ (s 144).toInt := by
      have := hl.2.2.1
      rw [qz_m1] at c1
      omega
    have g2 := hl.2.2.2.2.1 g1
    have g3 := qn_int g1
    have g4 := qn_of g1
    have g5 : qn (s 144) < qn (s 0) := by have := hl.2.2.2.1; omega
    by_cases c2 : s 145 - 1 = 0
    · rw [if_neg (fun t => t c2)]
      obtain ⟨b1, b2, b3, b4, b5, b6, b7⟩ := l0_A h' g4 g5 (by omega)
      by_cases c3 : s 142 = s 144
      · rw [if_neg (fun t => t c3)]
        exact sh_A (N := N + 1) b1 b2 b3 b4 b5 b6 b7 (by omega) (by rw [l0_o (by omega) (by omega) (by omega) (by omega) (by omega)]; exact g5)
      · rw [if_pos c3]
        dsimp only
        refine qq_A (M := N + 1) ⟨b1, b2, b3, ?_, b5, b6, b7⟩ (by omega)
        refine ⟨b4.1, b4.2.1, b4.2.2.1, b4.2.2.2.1, b4.2.2.2.2.1, fun k hk hh => b4.2.2.2.2.2 k hk ?_⟩
        rcases hh with hh | hh
        · refine Or.inl ⟨hh.1, fun e => ?_⟩
          rw [l0_o (by omega) (by omega) (by omega) (by omega) (by omega)] at hh
          exact c3 (by rw [qz_eq]; omega)
        · exact Or.inr hh
    · rw [if_pos c2]
      dsimp only
      have eo : ∀ i, ¬ i = 145 → upd s 145 (s 145 - 1) i = s i := fun i h => pk_un h
      refine qq_A (M := N) ⟨qq_sl hs fun i hi => eo i (by omega), qq_pr hp (eo _ (by omega)) (fun i h1 h2 => eo _ (by omega)), qq_sw hw (eo _ (by omega)) (eo _ (by omega)) (eo _ (by omega)) (eo _ (by omega)) (eo _ (by omega)), ?_, qq_qu hs hq (eo _ (by omega)) (eo _ (by omega)) (eo _ (by omega)) (fun i h1 h2 => eo _ (by omega)) (fun k hk => eo _ (by omega)), qq_se he (fun i h1 h2 => eo _ (by omega)), qq_ct hc (eo _ (by omega)) (eo _ (by omega)) (eo _ (by omega))⟩ (by omega)
      unfold qi_lo qi_lx
      rw [eo 142 (by omega), eo 144 (by omega), eo 0 (by omega), pk_us]
      refine ⟨hl.1, hl.2.1, hl.2.2.1, hl.2.2.2.1, fun _ => ?_, fun k hk hh => ?_⟩
      · rw [qz_00, qz_s1 (by omega)] at c2
        rw [qz_s1 (by omega)]
        omega
      · rw [eo _ (by omega)]
        exact hl.2.2.2.2.2 k hk hh
theorem t3_A (h : qi_A N s) (hN : N + 2 < 2147483647) : qi_A (N + 2) (qr_t3 s).2 := by
  unfold qr_t3
  split
  · next c =>
    refine go_A h ?_ c.1 hN
    have := c.2.2.2.2
    rw [qz_l0] at this
    omega
  · exact qq_A h (by omega)
end QRN
end
section
/-! what always holds, kept by each step (3): burning, room, loading -/
section QRO
variable {s t : qs} {N : Nat}
/-- what the slides take, as whole numbers -/
def qr_z (s : qs) (k : Nat) : Int := (qr_tf s k).toInt
def qr_zs (f : Nat → Int) : Nat → Int
  | 0 => 0
  | k + 1 => qr_zs f k + f k
theorem zs_eq (h : qi_sl s) : ∀ k : Nat, k ≤ qn (s 0) → (qr_tk s k).toInt = qr_zs (qr_z s) k := by
  intro k
  have hn := (qi_n h).2
  have hi := qn_int h.1
  induction k with
  | zero => intro _; rfl
  | succ k ih =>
    intro hk
    have h1 := ih (by omega)
    have h0 := qr_tk_b h k (by omega)
    have h2 := (h.2.2 k (by omega)).2.2.2.2.1 (by omega)
    have h3 : 0 ≤ (qr_tf s k).toInt ∧ (qr_tf s k).toInt ≤ 50 := by
      unfold qr_tf
      split
      · omega
      · rw [qk_t0]; omega
    unfold qr_tk qr_zs
    rw [qz_add (by omega) (by omega), h1]
    rfl
theorem ta_eq (h : qi_sl s) : (qr_ta s).toInt = qr_zs (qr_z s) (qn (s 0)) := zs_eq h _ (Nat.le_refl _)
theorem z_b (h : qi_sl s) {k : Nat} (hk : k < qn (s 0)) : 0 ≤ qr_z s k ∧ qr_z s k ≤ 50 := by
  have hn := (qi_n h).2
  have hi := qn_int h.1
  have h2 := (h.2.2 k (by omega)).2.2.2.2.1 (by omega)
  unfold qr_z qr_tf
  split
  · omega
  · rw [qk_t0]; omega
theorem zs_c {f g : Nat → Int} (a : Nat) : ∀ k : Nat, (∀ j, j < k → ¬ j = a → g j = f j) → qr_zs g k = qr_zs f k + (if a < k then g a - f a else 0) := by
  intro k
  induction k with
  | zero => intro _; rw [if_neg (by omega)]; rfl
  | succ k ih =>
    intro h
    unfold qr_zs
    rw [ih (fun j hj hja => h j (by omega) hja)]
    by_cases e : k = a
    · subst e
      rw [if_neg (by omega), if_pos (by omega)]
      omega
    · rw [h k (by omega) e]
      by_cases e2 : a < k
      · rw [if_pos e2, if_pos (by omega)]; omega
      · rw [if_neg e2, if_neg (by omega)]; omega
theorem zs_0 {f g : Nat → Int} : ∀ k : Nat, (∀ j, j < k → g j = f j) → qr_zs g k = qr_zs f k := by
  intro k
  induction k with
  | zero => intro _; rfl
  | succ k ih =>
    intro h
    unfold qr_zs
    rw [ih (fun j hj => h j (by omega)), h k (by omega)]
/-- at most three slides count -/
theorem zs_3 {f : Nat → Int} (p q r : Int) : ∀ k : Nat, (∀ j : Nat, j < k → 0 ≤ f j ∧ f j ≤ 50) → (∀ j : Nat, j < k → ¬ f j = 0 → p = j ∨ q = j ∨ r = j) → qr_zs f k ≤ (if 0 ≤ p ∧ p < k then 50 else 0) + (if 0 ≤ q ∧ q < k then 50 else 0) + (if 0 ≤ r ∧ r < k then 50 else 0) := by
  intro k
  induction k with
  | zero =>
    intro _ _
    unfold qr_zs
    omega
  | succ k ih =>
    intro h1 h2
    have h3 := ih (fun j hj => h1 j (by omega)) (fun j hj => h2 j (by omega))
    have h4 := h1 k (by omega)
    have h5 := h2 k (by omega)
    unfold qr_zs
    by_cases e : f k = 0
    · rw [e]
      repeat' split at h3 <;> (try split) <;> omega
    · have h6 := h5 e
      repeat' split at h3
      all_goals (repeat' split)
      all_goals omega
theorem ta_3 (h : qi_sl s) (hl : qr_li s []) : (qr_ta s).toInt ≤ 100 + (if 0 ≤ (s 144).toInt then 50 else 0) := by
  have hn := (qi_n h).2
  rw [ta_eq h]
  have h1 := zs_3 (f := qr_z s) (s 139).toInt (s 140).toInt (s 144).toInt (qn (s 0)) (fun j hj => z_b h hj) (fun j hj hf => by
    unfold qr_z qr_tf at hf
    by_cases c : qr_ld s j = true ∨ s 144 = nI j
    · rcases c with c | c
      · have h2 : ¬ qr_cb s j = true := fun t => by
          have := (hl.2 j).mpr ⟨hj, t⟩
          cases this
        unfold qr_cb qr_os at h2
        rw [c] at h2
        simp only [Bool.true_and, Bool.not_eq_true', Bool.not_eq_false, Bool.or_eq_true, decide_eq_true_eq] at h2
        rcases h2 with h2 | h2
        · left; rw [← h2, qz_nI (by omega)]
        · right; left; rw [← h2, qz_nI (by omega)]
      · right; right; rw [c, qz_nI (by omega)]
    · rw [if_neg c, qk_t0] at hf
      exact absurd rfl hf)
  repeat' split at h1
  all_goals (repeat' split)
  all_goals omega
theorem bu_ta (h : qi_sl s) (he : qi_se s) {a : Nat} (ha : a < qn (s 0)) (hl : qr_ld s a = true) (h4 : ¬ s 144 = nI a) : (qr_ta (qr_bu s a)).toInt = (qr_ta s).toInt - (s (1 + 7 * a)).toInt := by
  have hn := (qi_n h).2
  have ha2 : a < 16 := by omega
  rw [ta_eq h, ta_eq (bu_sl ha2 h he), bu_o (i := 0) (by omega) (by omega), zs_c (f := qr_z s) a, if_pos ha]
  · have e1 : qr_z s a = (s (1 + 7 * a)).toInt := by
      unfold qr_z qr_tf
      rw [if_pos (Or.inl hl)]
    have e2 : qr_z (qr_bu s a) a = 0 := by
      unfold qr_z qr_tf qr_ld
      rw [bu_3 ha2, if_pos rfl, bu_o (i := 144) (by omega) (by omega), if_neg ?_, qk_t0]
      rintro (c | c)
      · exact absurd (of_decide_eq_true c) (by decide)
      · exact h4 c
    rw [e1, e2]; omega
  · intro j hj hja
    unfold qr_z qr_tf qr_ld
    rw [bu_3 ha2, if_neg hja, bu_o (i := 144) (by omega) (by omega), bu_o (i := 1 + 7 * j) (by omega) (by omega)]
theorem bu_A (h : qi_A N s) {a : Nat} (ha : a < 16) : qi_A N (qr_bu s a) := by
  obtain ⟨hs, hp, hw, hl, hq, he, hc⟩ := h
  refine ⟨bu_sl ha hs he, qq_pr hp (bu_o (by omega) (by omega)) (fun i h1 h2 => bu_o (by omega) (by omega)), qq_sw hw (bu_o (by omega) (by omega)) (bu_o (by omega) (by omega)) (bu_o (by omega) (by omega)) (bu_o (by omega) (by omega)) (bu_o (by omega) (by omega)), ?_, ?_, bu_se ha he, qq_ct hc (bu_o (by omega) (by omega)) (bu_o (by omega) (by omega)) (bu_o (by omega) (by omega))⟩
  · obtain ⟨l1, l2, l3, l4, l5, l6⟩ := hl
    unfold qi_lo qi_lx
    rw [bu_o (i := 142) (by omega) (by omega), bu_o (i := 144) (by omega) (by omega), bu_o (i := 145) (by omega) (by omega), bu_o (i := 0) (by omega) (by omega)]
    refine ⟨l1, l2, l3, l4, l5, fun k hk hh => ?_⟩
    rw [bu_3 ha]
    split
    · rfl
    · exact l6 k hk hh
  · obtain ⟨q1, q2, q3, q4⟩ := hq
    unfold qi_qu
    rw [bu_o (i := 142) (by omega) (by omega), bu_o (i := 144) (by omega) (by omega), bu_o (i := 146) (by omega) (by omega), bu_o (i := 0) (by omega) (by omega)]
    refine ⟨q1, q2, fun k hk => ?_, fun j k hj hk => ?_⟩
    · obtain ⟨r1, r2, r3, r4, r5⟩ := q3 k hk
      rw [bu_o (i := 147 + k) (by omega) (by omega), bu_3 ha]
      refine ⟨r1, r2, r3, r4, ?_⟩
      split
      · rfl
      · exact r5
    · rw [bu_o (i := 147 + k) (by omega) (by omega), bu_o (i := 147 + j) (by omega) (by omega)]
      exact q4 j k hj hk
theorem rm_A {m : Int} : ∀ (l : List Nat) (s : qs), (∀ a ∈ l, a < 16) → qi_A N s → qi_A N (qr_rm m l s).2 := by
  intro l
  induction l with
  | nil => intro s _ h; exact h
  | cons a l ih =>
    intro s hl h
    unfold qr_rm
    split
    · exact h
    · exact ih _ (fun x hx => hl x (List.mem_cons_of_mem _ hx)) (bu_A h (hl a List.mem_cons_self))
theorem mr_A {m : Int} (h : qi_A N s) : qi_A N (qr_mr m s).2 := rm_A _ s (ln_16 h.1) h
/-- there is room, once all that can be burnt is -/
theorem rm_ok {m : Int} : ∀ (l : List Nat) (s : qs), qi_A N s → qr_li s l → (100 + (if 0 ≤ (s 144).toInt then 50 else 0) + m ≤ (s 163).toInt) → qr_ft m (qr_rm m l s).2 = true := by
  intro l
  induction l with
  | nil =>
    intro s h hl hm
    have h1 := ta_3 h.1 hl
    unfold qr_rm qr_ft
    refine decide_eq_true ?_
    dsimp only
    omega
  | cons a l ih =>
    intro s h hl hm
    unfold qr_rm
    split
    · next e => exact e
    · have h1 := (hl.2 a).mp List.mem_cons_self
      have h2 := (qi_n h.1).2
      refine ih _ (bu_A h (by omega)) (bu_li h.2.1 h.1 hl) ?_
      rw [bu_o (i := 144) (by omega) (by omega), bu_o (i := 163) (by omega) (by omega)]
      exact hm
theorem mr_ok {m : Int} (h : qi_A N s) (hm : 100 + (if 0 ≤ (s 144).toInt then 50 else 0) + m ≤ (s 163).toInt) : qr_ft m (qr_mr m s).2 = true := rm_ok _ s h (qr_li_ln s) hm
/-- what is not loaded stays so -/
theorem rm_3 {m : Int} {k : Nat} : ∀ (l : List Nat) (s : qs), (∀ a ∈ l, a < 16) → s (1 + 7 * k + 3) = 0 → (qr_rm m l s).2 (1 + 7 * k + 3) = 0 := by
  intro l
  induction l with
  | nil => intro s _ h; exact h
  | cons a l ih =>
    intro s hl h
    unfold qr_rm
    split
    · exact h
    · refine ih _ (fun x hx => hl x (List.mem_cons_of_mem _ hx)) ?_
      rw [bu_3 (hl a List.mem_cons_self)]
      split
      · rfl
      · exact h
/-- the ember of a slide that is not loaded stays -/
theorem rm_4 {m : Int} {k : Nat} (hk : k < 16) : ∀ (l : List Nat) (s : qs), qr_li s l → qi_A N s → s (1 + 7 * k + 3) = 0 → (qr_rm m l s).2 (1 + 7 * k + 4) = s (1 + 7 * k + 4) := by
  intro l
  induction l with
  | nil => intro s _ _ _; rfl
  | cons a l ih =>
    intro s hl h h3
    unfold qr_rm
    split
    · rfl
    · have h1 := (hl.2 a).mp List.mem_cons_self
      have h2 := (qi_n h.1).2
      have ha : a < 16 := by omega
      have e : ¬ k = a := fun e => by
        subst e
        have h4 := h1.2
        unfold qr_cb qr_ld at h4
        rw [h3] at h4
        simp at h4
      dsimp only
      rw [ih _ (bu_li h.2.1 h.1 hl) (bu_A h ha) (by rw [bu_3 ha, if_neg e]; exact h3), bu_o (by omega) (by omega)]
theorem s0_o {a i : Nat} (h1 : ¬ i = 144) (h2 : ¬ i = 145) (h3 : ¬ i = 171) (h4 : ¬ i = 172) (h5 : ¬ i = 1 + 7 * a + 4) : qr_s0 t a i = t i := by
  unfold qr_s0
  simp (disch := omega) only [pk_us, pk_un, qz_ue]
theorem du_b (h : qi_sl t) {a : Nat} (ha : a < qn (t 0)) : 1 ≤ (qr_du t a).toInt ∧ (qr_du t a).toInt ≤ 20 := by
  have hn := (qi_n h).2
  have hi := qn_int h.1
  have h2 := (h.2.2 a (by omega)).2.2.2.2.1 (by omega)
  unfold qr_du
  split
  · omega
  · have h3 : (t (1 + 7 * a + 1) + 1).toInt = (t (1 + 7 * a + 1)).toInt + 1 := qz_p1 (by omega)
    rw [qz_div (by omega) (by decide), h3, show (2 : Int32).toInt = 2 from rfl]
    omega
theorem s0_A {a : Nat} (h : qi_A N t) (ha : a < qn (t 0)) (h3 : t (1 + 7 * a + 3) = 0) (hq0 : ∀ k : Nat, (k : Int) < (t 146).toInt → ¬ t (147 + k) = nI a) : qi_A N (qr_s0 t a) := by
  obtain ⟨hs, hp, hw, hl, hq, he, hc⟩ := h
  have hn := (qi_n hs).2
  have hi := qn_int hs.1
  have ha2 : a < 16 := by omega
  have e3 : ∀ k, k < 16 → qr_s0 t a (1 + 7 * k + 3) = t (1 + 7 * k + 3) := fun k hk => s0_o (by omega) (by omega) (by omega) (by omega) (by omega)
  have e144 : qr_s0 t a 144 = nI a := by
    unfold qr_s0
    simp (disch := omega) only [pk_us, pk_un, qz_ue]
  have e145 : qr_s0 t a 145 = qr_du t a := by
    unfold qr_s0
    simp (disch := omega) only [pk_us, pk_un, qz_ue]
  have e0 : qr_s0 t a 0 = t 0 := s0_o (by omega) (by omega) (by omega) (by omega) (by omega)
  have e142 : qr_s0 t a 142 = t 142 := s0_o (by omega) (by omega) (by omega) (by omega) (by omega)
  refine ⟨?_, qq_pr hp e0 (fun i h1 h2 => s0_o (by omega) (by omega) (by omega) (by omega) (by omega)), qq_sw hw e0 (s0_o (by omega) (by omega) (by omega) (by omega) (by omega)) (s0_o (by omega) (by omega) (by omega) (by omega) (by omega)) (s0_o (by omega) (by omega) (by omega) (by omega) (by omega)) (s0_o (by omega) (by omega) (by omega) (by omega) (by omega)), ?_, ?_, qq_se he (fun i h1 h2 => s0_o (by omega) (by omega) (by omega) (by omega) (by omega)), qq_ct hc (s0_o (by omega) (by omega) (by omega) (by omega) (by omega)) (s0_o (by omega) (by omega) (by omega) (by omega) (by omega)) (s0_o (by omega) (by omega) (by omega) (by omega) (by omega))⟩
  · unfold qi_sl
    rw [e0]
    refine ⟨hs.1, hs.2.1, fun k hk => ?_⟩
    obtain ⟨c1, c2, c3, c4, c5, c6⟩ := hs.2.2 k hk
    rw [e3 k hk, s0_o (i := 1 + 7 * k + 6) (by omega) (by omega) (by omega) (by omega) (by omega), s0_o (i := 1 + 7 * k) (by omega) (by omega) (by omega) (by omega) (by omega), s0_o (i := 1 + 7 * k + 1) (by omega) (by omega) (by omega) (by omega) (by omega), s0_o (i := 1 + 7 * k + 2) (by omega) (by omega) (by omega) (by omega) (by omega)]
    refine ⟨c1, ?_, ?_, c4, c5, c6⟩
    · by_cases e : k = a
      · subst e
        unfold qr_s0
        rw [pk_us, qk_t0]
        omega
      · rw [s0_o (by omega) (by omega) (by omega) (by omega) (by omega)]
        exact c2
    · by_cases e : k = a
      · subst e
        unfold qr_s0
        rw [pk_us, qk_t0]
        omega
      · rw [s0_o (by omega) (by omega) (by omega) (by omega) (by omega)]
        exact c3
  · obtain ⟨l1, l2, l3, l4, l5, l6⟩ := hl
    have hd := du_b hs ha
    unfold qi_lo qi_lx
    rw [e0, e142, e144, e145, qz_nI (by omega)]
    refine ⟨l1, l2, by omega, by omega, fun _ => hd, fun k hk hh => ?_⟩
    rw [e3 k hk]
    rcases hh with hh | hh
    · exact l6 k hk (Or.inl hh)
    · have : a = k := by omega
      subst this
      exact h3
  · obtain ⟨q1, q2, q3, q4⟩ := hq
    have e6 : qr_s0 t a 146 = t 146 := s0_o (by omega) (by omega) (by omega) (by omega) (by omega)
    have e7 : ∀ k : Nat, (k : Int) < (t 146).toInt → qr_s0 t a (147 + k) = t (147 + k) := fun k hk => s0_o (by omega) (by omega) (by omega) (by omega) (by omega)
    unfold qi_qu
    rw [e0, e142, e144, e6]
    refine ⟨q1, q2, fun k hk => ?_, fun j k hj hk => ?_⟩
    · obtain ⟨r1, r2, r3, r4, r5⟩ := q3 k hk
      have r6 := qn_int r1
      rw [e7 k hk, e3 _ (by omega)]
      exact ⟨r1, r2, r3, hq0 k hk, r5⟩
    · rw [e7 k hk, e7 j (by omega)]
      exact q4 j k hj hk
theorem s0_ta (h : qi_A N t) {a : Nat} (ha : a < qn (t 0)) (h4 : t 144 = -1) (h3 : t (1 + 7 * a + 3) = 0) (hA : qi_sl (qr_s0 t a)) : (qr_ta (qr_s0 t a)).toInt = (qr_ta t).toInt + (t (1 + 7 * a)).toInt := by
  have hs := h.1
  have hn := (qi_n hs).2
  have ha2 : a < 16 := by omega
  have e144 : qr_s0 t a 144 = nI a := by
    unfold qr_s0
    simp (disch := omega) only [pk_us, pk_un, qz_ue]
  rw [ta_eq hs, ta_eq hA, s0_o (i := 0) (by omega) (by omega) (by omega) (by omega) (by omega), zs_c (f := qr_z t) a, if_pos ha]
  · have e1 : qr_z t a = 0 := by
      unfold qr_z qr_tf qr_ld
      rw [h3, h4, if_neg ?_, qk_t0]
      rintro (c | c)
      · exact absurd (of_decide_eq_true c) (by decide)
      · exact qr_nI_m ha2 c.symm
    have e2 : qr_z (qr_s0 t a) a = (t (1 + 7 * a)).toInt := by
      unfold qr_z qr_tf
      rw [if_pos (Or.inr e144), s0_o (by omega) (by omega) (by omega) (by omega) (by omega)]
    rw [e1, e2]; omega
  · intro j hj hja
    unfold qr_z qr_tf qr_ld
    rw [s0_o (i := 1 + 7 * j + 3) (by omega) (by omega) (by omega) (by omega) (by omega), s0_o (i := 1 + 7 * j) (by omega) (by omega) (by omega) (by omega) (by omega), e144, h4]
    have : (nI a = nI j) = ((-1 : Int32) = nI j) := by
      rw [eq_iff_iff]
      constructor
      · intro c
        rw [nI_eq (by omega) (by omega)] at c
        exact absurd c.symm hja
      · intro c
        exact absurd c.symm (qr_nI_m (by omega))
    simp only [this]
theorem st_A {a : Nat} (h : qi_A N s) (ha : a < qn (s 0)) (h4 : s 144 = -1) (h3 : s (1 + 7 * a + 3) = 0) (hq0 : ∀ k : Nat, (k : Int) < (s 146).toInt → ¬ s (147 + k) = nI a) : qi_I N (qr_st s a) ∧ qr_st s a 144 = nI a := by
  have hs := h.1
  have hn := (qi_n hs).2
  have hi := qn_int hs.1
  have ha2 : a < 16 := by omega
  have hc := (hs.2.2 a ha2).2.2.2.2.1 (by omega)
  have hm := h.2.2.2.2.2.1.1
  have hq2 := h.2.2.2.2.1.2.1
  have hA := mr_A (m := (s (1 + 7 * a)).toInt) h
  have hf := mr_ok (m := (s (1 + 7 * a)).toInt) h (by rw [h4, qk_tm1, if_neg (by omega)]; omega)
  have o : ∀ i, (i < 1 ∨ 112 < i ∨ ∃ k w, i = 1 + 7 * k + w ∧ (w < 3 ∨ w = 6)) → ¬ i = 173 → (qr_mr (s (1 + 7 * a)).toInt s).2 i = s i := fun i h1 h2 => mr_o hs h1 h2
  have h3' : (qr_mr (s (1 + 7 * a)).toInt s).2 (1 + 7 * a + 3) = 0 := rm_3 _ s (ln_16 hs) h3
  have oc := o (1 + 7 * a) (Or.inr (Or.inr ⟨a, 0, rfl, Or.inl (by omega)⟩)) (by omega)
  unfold qr_st
  generalize (qr_mr (s (1 + 7 * a)).toInt s).2 = t at hA hf o h3' oc ⊢
  have e0 := o 0 (by omega) (by omega)
  have hA2 : qi_A N (qr_s0 t a) := s0_A hA (by rw [e0]; exact ha) h3' (fun k hk => by
    rw [o 146 (by omega) (by omega)] at hk
    rw [o (147 + k) (by omega) (by omega)]
    exact hq0 k hk)
  refine ⟨⟨hA2, ?_⟩, ?_⟩
  · unfold qi_tm
    rw [s0_ta hA (by rw [e0]; exact ha) (by rw [o 144 (by omega) (by omega)]; exact h4) h3' hA2.1, s0_o (i := 163) (by omega) (by omega) (by omega) (by omega) (by omega), oc]
    unfold qr_ft at hf
    exact of_decide_eq_true hf
  · unfold qr_s0
    simp (disch := omega) only [pk_us, pk_un, qz_ue]
end QRO
end
section
/-! what always holds, kept by each step (4): what begins to load, a tick -/
section QRP
variable {s t : qs} {N : Nat}
theorem ta_q (e0 : t 0 = s 0) (e4 : t 144 = s 144) (e : ∀ k : Nat, k < qn (s 0) → t (1 + 7 * k + 3) = s (1 + 7 * k + 3) ∧ t (1 + 7 * k) = s (1 + 7 * k)) : qr_ta t = qr_ta s := by
  unfold qr_ta
  rw [e0]
  have h : ∀ k : Nat, k ≤ qn (s 0) → qr_tk t k = qr_tk s k := by
    intro k
    induction k with
    | zero => intro _; rfl
    | succ k ih =>
      intro hk
      unfold qr_tk
      rw [ih (by omega)]
      unfold qr_tf qr_ld
      rw [(e k (by omega)).1, (e k (by omega)).2, e4]
  exact h _ (Nat.le_refl _)
theorem fg_A {a : Nat} (h : qi_A N s) : qi_A N (qr_fg s a) := by
  obtain ⟨hs, hp, hw, hl, hq, he, hc⟩ := h
  have hd := qi_qdq hq
  have hn := (qi_n hs).2
  have fo : ∀ i, i < 146 ∨ 163 ≤ i → qr_fg s a i = s i := fun i hi => fg_o hd a hi
  obtain ⟨f1, f2⟩ := fg_q hd a
  refine ⟨qq_sl hs fun i hi => fo i (by omega), qq_pr hp (fo _ (by omega)) (fun i h1 h2 => fo _ (by omega)), qq_sw hw (fo _ (by omega)) (fo _ (by omega)) (fo _ (by omega)) (fo _ (by omega)) (fo _ (by omega)), qq_lx hl (fo _ (by omega)) (fo _ (by omega)) (fo _ (by omega)) (fo _ (by omega)) (fun k hk => fo _ (by omega)), ?_, qq_se he (fun i h1 h2 => fo _ (by omega)), qq_ct hc (fo _ (by omega)) (fo _ (by omega)) (fo _ (by omega))⟩
  unfold qi_qu
  refine ⟨f1.1, f1.2.1, fun k hk => ?_, f1.2.2⟩
  obtain ⟨g1, j, g2, g3⟩ := f2 k hk
  obtain ⟨r1, r2, r3, r4, r5⟩ := hq.2.2.1 j g2
  have r6 := qn_int r1
  have r7 := qn_int hs.1
  rw [fo 142 (by omega), fo 0 (by omega), fo 144 (by omega), g3, fo (1 + 7 * qn (s (147 + j)) + 3) (by omega)]
  exact ⟨r1, r2, r3, r4, r5⟩
theorem gf_s (h : qi_pr s) (h0 : 0 < (s 113).toInt) : ∀ m k a : Nat, qr_gf s m k = some a → (∃ j : Nat, k ≤ j ∧ j < k + m ∧ qr_sa s j = nI a) ∧ ¬ qr_ld s a = true := by
  intro m
  induction m with
  | zero => intro k a e; cases e
  | succ m ih =>
    intro k a e
    unfold qr_gf at e
    by_cases c : qr_ld s (qn (qr_sa s k)) = true
    · rw [if_pos c] at e
      obtain ⟨⟨j, h1, h2, h3⟩, h4⟩ := ih (k + 1) a e
      exact ⟨⟨j, by omega, by omega, h3⟩, h4⟩
    · rw [if_neg c] at e
      cases e
      exact ⟨⟨k, by omega, by omega, qn_of (qi_sa h h0 k).1⟩, c⟩
theorem gd_s (h : qi_pr s) (hs : qi_sl s) {a : Nat} (e : qr_gd s = some a) : a < qn (s 0) ∧ s (1 + 7 * a + 3) = 0 ∧ 0 < (s 113).toInt := by
  unfold qr_gd at e
  have h1 := qn_int h.1
  by_cases c : qn (s 113) = 0
  · rw [if_pos c] at e; cases e
  · rw [if_neg c] at e
    have h0 : 0 < (s 113).toInt := by omega
    obtain ⟨⟨j, h2, h3, h4⟩, h5⟩ := gf_s h h0 _ _ _ e
    have h6 := qi_sa h h0 j
    have h7 := qn_int h6.1
    have h8 := qn_int hs.1
    have h9 := (qi_n hs).2
    have h10 : a = qn (qr_sa s j) := by
      rw [h4, qn_nI]
      have : a < 2147483648 ∨ 2147483648 ≤ a := by omega
      rcases this with h | h
      · exact h
      · exfalso
        unfold qr_gd at *
        have h11 : ∀ m k a : Nat, qr_gf s m k = some a → a < 2147483648 := by
          intro m
          induction m with
          | zero => intro k a e; cases e
          | succ m ih =>
            intro k a e
            unfold qr_gf at e
            split at e
            · exact ih _ _ e
            · cases e; exact qn_lt
        have := h11 _ _ _ e
        omega
    exact ⟨by omega, ld_0 hs (by omega) h5, h0⟩
theorem bg_I (h : qi_I N s) : qi_I N (qr_bg s) ∧ qi_st (qr_bg s) := by
  have h' := h
  obtain ⟨hA, ht⟩ := h
  have hA' := hA
  obtain ⟨hs, hp, hw, hl, hq, he, hc⟩ := hA
  have hn := (qi_n hs).2
  have hi := qn_int hs.1
  have st : ∀ t : qs, ∀ a : Nat, a < 16 → qi_I N t ∧ t 144 = nI a → qi_I N t ∧ qi_st t := by
    intro t a ha h
    refine ⟨h.1, fun e => ?_⟩
    rw [h.2] at e
    exact absurd e (qr_nI_m ha)
  unfold qr_bg
  by_cases c1 : s 144 = -1
  · rw [if_neg (fun t => t c1)]
    by_cases c2 : s 142 = -1
    · rw [if_neg (fun t => t c2)]
      by_cases c3 : qn (s 146) = 0
      · rw [if_pos c3]
        have hb : qr_b3 s = s → qi_I N s ∧ qi_st s := fun e => ⟨h', fun _ => ⟨c2, c3, e⟩⟩
        cases e : qr_gd s with
        | none =>
          have : qr_b3 s = s := by
            unfold qr_b3
            rw [e]
          rw [this]
          exact hb this
        | some a =>
          obtain ⟨g1, g2, g3⟩ := gd_s hp hs e
          by_cases c4 : qr_ft (s (1 + 7 * a)).toInt s = true
          · have : qr_b3 s = qr_st s a := by
              unfold qr_b3
              rw [e]
              dsimp only
              rw [if_pos c4]
            rw [this]
            refine st _ a (by omega) (st_A hA' g1 c1 g2 (fun k hk => ?_))
            have := qn_int hq.1
            omega
          · have : qr_b3 s = s := by
              unfold qr_b3
              rw [e]
              dsimp only
              rw [if_neg c4]
            rw [this]
            exact hb this
      · rw [if_neg c3]
        have hq1 := qn_int hq.1
        have hq2 := hq.2.2.1 0 (by omega)
        rw [Nat.add_zero] at hq2
        obtain ⟨r1, r2, r3, r4, r5⟩ := hq2
        have r6 := qn_int r1
        obtain ⟨f1, f2⟩ := fg_q (qi_qdq hq) (qn (s 147))
        have fo : ∀ i, i < 146 ∨ 163 ≤ i → qr_fg s (qn (s 147)) i = s i := fun i hi => fg_o (qi_qdq hq) _ hi
        refine st _ (qn (s 147)) (by omega) (st_A (fg_A hA') (by rw [fo 0 (by omega)]; omega) (by rw [fo 144 (by omega)]; exact c1) (by rw [fo _ (by omega)]; exact r5) (fun k hk => (f2 k hk).1))
    · rw [if_pos c2]
      obtain ⟨l1, l2, l3, l4, l5, l6⟩ := hl
      have g1 : 0 ≤ (s 142).toInt := by
        rw [qz_m1] at c2
        omega
      have g2 := qn_int g1
      refine st _ (qn (s 142)) (by omega) (st_A hA' (by omega) c1 (l6 _ (by omega) (Or.inl ⟨by omega, by omega⟩)) (fun k hk => ?_))
      rw [← qn_of g1]
      exact (hq.2.2.1 k hk).2.2.1
  · rw [if_pos c1]
    exact ⟨h', fun e => absurd e c1⟩
theorem t1_ta (h : qi_sl s) : qr_ta (qr_t1 s) = qr_ta s := by
  have hn := (qi_n h).2
  exact ta_q (t1_o h (by omega) (by omega)) (t1_o h (by omega) (by omega)) (fun k hk => ⟨t1_o h (Or.inr (Or.inr ⟨k, 3, rfl, by omega, by omega⟩)) (by omega), t1_o h (Or.inr (Or.inr ⟨k, 0, rfl, by omega, by omega⟩)) (by omega)⟩)
theorem sh_ta (h : qi_sl s) {a : Nat} (ha : a < 16) : qr_ta (qr_sh s a) = qr_ta s := by
  have hn := (qi_n h).2
  exact ta_q (sh_o (by omega) (by omega) (by omega)) (sh_o (by omega) (by omega) (by omega)) (fun k hk => ⟨sh_o (by omega) (by omega) (by omega), sh_o (by omega) (by omega) (by omega)⟩)
theorem l0_ta (h : qi_sl s) {a : Nat} (ha : s 144 = nI a) (ha2 : a < qn (s 0)) : qr_ta (qr_l0 s a) = qr_ta s := by
  have hn := (qi_n h).2
  have e144 : qr_l0 s a 144 = -1 := by
    unfold qr_l0
    rw [us_o (by omega) (by omega)]
    simp (disch := omega) only [pk_us, pk_un, qz_ue]
  unfold qr_ta
  rw [l0_o (i := 0) (by omega) (by omega) (by omega) (by omega) (by omega)]
  have h : ∀ k : Nat, k ≤ qn (s 0) → qr_tk (qr_l0 s a) k = qr_tk s k := by
    intro k
    induction k with
    | zero => intro _; rfl
    | succ k ih =>
      intro hk
      unfold qr_tk
      rw [ih (by omega)]
      congr 1
      unfold qr_tf qr_ld
      rw [e144, ha, l0_o (i := 1 + 7 * k) (by omega) (by omega) (by omega) (by omega) (by omega)]
      by_cases e : k = a
      · subst e
        have e33 : qr_l0 s k (1 + 7 * k + 3) = 1 := by
          unfold qr_l0
          rw [us_o (by omega) (by omega), pk_us]
        rw [e33, if_pos (Or.inl (decide_eq_true rfl)), if_pos (Or.inr rfl)]
      · rw [l0_o (i := 1 + 7 * k + 3) (by omega) (by omega) (by omega) (by omega) (by omega)]
        have e1 : ¬ (-1 : Int32) = nI k := fun t => qr_nI_m (by omega) t.symm
        have e2 : ¬ nI a = nI k := fun t => e ((nI_eq (by omega) (by omega)).mp t).symm
        simp only [e1, e2]
  exact h _ (Nat.le_refl _)
theorem t2_ta (h : qi_A N s) : qr_ta (qr_t2 s).2 = qr_ta s := by
  obtain ⟨hs, hp, hw, hl, hq, he, hc⟩ := h
  have hn := (qi_n hs).2
  have hi := qn_int hs.1
  unfold qr_t2
  by_cases c1 : s 144 = -1
  · rw [if_pos c1]
  · rw [if_neg c1]
    have g1 : 0 ≤ (s 144).toInt := by
      have := hl.2.2.1
      rw [qz_m1] at c1
      omega
    have g3 := qn_int g1
    have g5 : qn (s 144) < qn (s 0) := by have := hl.2.2.2.1; omega
    split
    · dsimp only
      refine ta_q ?_ ?_ (fun k hk => ⟨?_, ?_⟩)
      all_goals exact pk_un (by omega)
    · split
      · exact l0_ta hs (qn_of g1) g5
      · dsimp only
        rw [ta_q (s := qr_l0 s (qn (s 144))) (sh_o (by omega) (by omega) (by omega)) (sh_o (by omega) (by omega) (by omega)) (fun k hk => ?_), l0_ta hs (qn_of g1) g5]
        rw [l0_o (by omega) (by omega) (by omega) (by omega) (by omega)] at hk
        exact ⟨sh_o (by omega) (by omega) (by omega), sh_o (by omega) (by omega) (by omega)⟩
theorem go_ta (h : qi_A N s) (h0 : 0 < (s 113).toInt) : qr_ta (qr_go s).2 = qr_ta s := by
  obtain ⟨hs, hp, hw, hl, hq, he, hc⟩ := h
  obtain ⟨a1, a2⟩ := ga_b hp h0 hs
  have hn := (qi_n hs).2
  unfold qr_go
  split
  · dsimp only
    have eo : ∀ i, ¬ i = 138 → ¬ i = 169 → upd (qr_g0 s) 169 (s 169 + 1) i = s i := fun i h1 h2 => by rw [pk_un h2, g0_o h1]
    have so : ∀ i, (i < 113 ∧ ¬ i = 1 + 7 * qr_ga s + 6) ∨ i = 144 → qr_sh (upd (qr_g0 s) 169 (s 169 + 1)) (qr_ga s) i = s i := fun i h => by rw [sh_o (by omega) (by omega) (by omega), eo _ (by omega) (by omega)]
    exact ta_q (so _ (by omega)) (so _ (by omega)) (fun k hk => ⟨so _ (by omega), so _ (by omega)⟩)
  · dsimp only
    have hqd : qi_qd (upd (upd (qr_g0 s) 170 (s 170 + 1)) 142 (nI (qr_ga s))) := by
      have h1 := qi_qdq hq
      have h2 := h1.2.1
      have eo : ∀ i, ¬ i = 138 → ¬ i = 170 → ¬ i = 142 → upd (upd (qr_g0 s) 170 (s 170 + 1)) 142 (nI (qr_ga s)) i = s i := fun i h1 h2 h3 => by rw [pk_un h3, pk_un h2, g0_o h1]
      unfold qi_qd
      rw [eo 146 (by omega) (by omega) (by omega)]
      refine ⟨h1.1, h1.2.1, fun j k hj hk => ?_⟩
      rw [eo (147 + j) (by omega) (by omega) (by omega), eo (147 + k) (by omega) (by omega) (by omega)]
      exact h1.2.2 j k hj hk
    have fo : ∀ i, (i < 113 ∨ i = 144) → qr_fg (upd (upd (qr_g0 s) 170 (s 170 + 1)) 142 (nI (qr_ga s))) (qr_ga s) i = s i := fun i h => by rw [fg_o hqd _ (by omega), pk_un (by omega), pk_un (by omega), g0_o (by omega)]
    exact ta_q (fo _ (by omega)) (fo _ (by omega)) (fun k hk => ⟨fo _ (by omega), fo _ (by omega)⟩)
theorem t1_I (h : qi_I N s) : qi_I N (qr_t1 s) := by
  refine ⟨t1_A h.1, ?_⟩
  unfold qi_tm
  rw [t1_ta h.1.1, t1_o h.1.1 (by omega) (by omega)]
  exact h.2
theorem t2_163 : (qr_t2 s).2 163 = s 163 := by
  unfold qr_t2
  split
  · rfl
  · split
    · dsimp only
      rw [pk_un (by omega)]
    · split
      · dsimp only
        rw [l0_o (by omega) (by omega) (by omega) (by omega) (by omega)]
      · dsimp only
        rw [sh_o (by omega) (by omega) (by omega), l0_o (by omega) (by omega) (by omega) (by omega) (by omega)]
theorem go_163 (h : qi_A N s) : (qr_go s).2 163 = s 163 := by
  have hd := qi_qdq h.2.2.2.2.1
  unfold qr_go
  split
  · dsimp only
    rw [sh_o (by omega) (by omega) (by omega), pk_un (by omega), g0_o (by omega)]
  · dsimp only
    rw [fg_o ?_ _ (by omega), pk_un (by omega), pk_un (by omega), g0_o (by omega)]
    have h2 := hd.2.1
    have eo : ∀ i, ¬ i = 138 → ¬ i = 170 → ¬ i = 142 → upd (upd (qr_g0 s) 170 (s 170 + 1)) 142 (nI (qr_ga s)) i = s i := fun i h1 h2 h3 => by rw [pk_un h3, pk_un h2, g0_o h1]
    unfold qi_qd
    rw [eo 146 (by omega) (by omega) (by omega)]
    refine ⟨hd.1, hd.2.1, fun j k hj hk => ?_⟩
    rw [eo (147 + j) (by omega) (by omega) (by omega), eo (147 + k) (by omega) (by omega) (by omega)]
    exact hd.2.2 j k hj hk
theorem go_I (h : qi_I N s) (h0 : 0 < (s 113).toInt) (h4 : s 142 = -1) (hN : N + 2 < 2147483647) : qi_I (N + 2) (qr_go s).2 := by
  refine ⟨go_A h.1 h0 h4 hN, ?_⟩
  unfold qi_tm
  rw [go_ta h.1 h0, go_163 h.1]
  exact h.2
theorem t3_I (h : qi_I N s) (hN : N + 2 < 2147483647) : qi_I (N + 2) (qr_t3 s).2 := by
  unfold qr_t3
  split
  · next c =>
    refine go_I h ?_ c.1 hN
    have := c.2.2.2.2
    rw [qz_l0] at this
    omega
  · exact qq_I h (by omega)
theorem t2_I (h : qi_I N s) (hN : N + 2 < 2147483647) : qi_I (N + 2) (qr_t2 s).2 := by
  refine ⟨t2_A h.1 hN, ?_⟩
  unfold qi_tm
  rw [t2_ta h.1, t2_163]
  exact h.2
theorem tc_I (h : qi_I N s) (hN : N + 4 < 2147483647) : qi_I (N + 4) (qr_tc s).2 ∧ qi_st (qr_tc s).2 := by
  unfold qr_tc
  exact bg_I (t3_I (t2_I (t1_I h) (by omega)) (by omega))
theorem ti_I : ∀ (m N : Nat) (s : qs), qi_I N s → N + 4 * m < 2147483647 → qi_I (N + 4 * m) (qr_ti m s).2 ∧ (qi_st s → qi_st (qr_ti m s).2) := by
  intro m
  induction m with
  | zero => intro N s h _; exact ⟨h, id⟩
  | succ m ih =>
    intro N s h hN
    unfold qr_ti
    obtain ⟨h1, h2⟩ := tc_I h (by omega)
    obtain ⟨h3, h4⟩ := ih (N + 4) _ h1 (by omega)
    exact ⟨qq_I h3 (by omega), fun _ => h4 h2⟩
end QRP
end
section
/-! the reference's own methods: what begins to load, shows, a tick -/
section QRQ
variable {ρ : qa_T} {s t : qs} {y : Int32} {N : Nat}
theorem rf_b151 (h : qi_A N s) : ∀ x : Option Nat, (∀ a, x = some a → a < qn (s 0)) → qa_fX10_begins_151 (qo_i x) (qw ρ s y) = some (qw ρ (match x with
    | none => s
    | some a => if qr_ft (s (1 + 7 * a)).toInt s = true then qr_st s a else s) y) := by
  intro x hx
  obtain ⟨hs, hp, hw, hl, hq, he, hc⟩ := h
  obtain ⟨n1, n2⟩ := qi_n hs
  have hi := qn_int hs.1
  unfold qo_i qa_fX10_begins_151 qa_fX10_begins_183
  cases x with
  | none => simp only [qk_am1, if_true]
  | some a =>
    have ha := hx a rfl
    have ha2 : a < 16 := by omega
    have hcc := (hs.2.2 a ha2).2.2.2.2.1 (by omega)
    have hft := qr_ft_i hs (b := s (1 + 7 * a)) (by omega) (by omega)
    have hlt : (s 163 < qr_ta s + s (1 + 7 * a)) ↔ ¬ (qr_ta s + s (1 + 7 * a) ≤ s 163) := by
      rw [qz_lt, qz_le]
      omega
    simp only [qk_am1, qk_a0, qk_a1, qk_a2, qk_a3, qk_a4, qk_a5, qk_b6, qk_b7, qk_b10, qk_b15, qk_b16, qk_b20, qk_b24, qk_b25, qk_b33, qk_b48, qk_b50, qk_b52, qk_b57, qk_b59, qk_b60, qk_b97, qk_b98, qk_b100, qk_b110, qk_b112, qk_b113, qk_b114, qk_b116, qk_b126, qk_c138, qk_c139, qk_c140, qk_c141, qk_c142, qk_c143, qk_c144, qk_c145, qk_c146, qk_c147, qk_c150, qk_c163, qk_c164, qk_c165, qk_c166, qk_c167, qk_c168, qk_c169, qk_c170, qk_c171, qk_c172, qk_c173, qk_c174, qk_c175, qk_c176, qk_c400, qk_c880, qk_c1000, qk_c1023, if_neg (qr_nI_m ha2), rf_tk n2 n1, Option.bind_some, rf_of0 ha2, qw_s, qk_n0, qk_n1, qk_n2, qk_n3, qk_n4, qk_n5, qk_n6, qk_n7, qk_n10, qk_n15, qk_n16, qk_n20, qk_n24, qk_n25, qk_n33, qk_n48, qk_n50, qk_n52, qk_n57, qk_n59, qk_n60, qk_n97, qk_n98, qk_n100, qk_n110, qk_n112, qk_n113, qk_n114, qk_n116, qk_n126, qk_n138, qk_n139, qk_n140, qk_n141, qk_n142, qk_n143, qk_n144, qk_n145, qk_n146, qk_n147, qk_n150, qk_n163, qk_n164, qk_n165, qk_n166, qk_n167, qk_n168, qk_n169, qk_n170, qk_n171, qk_n172, qk_n173, qk_n174, qk_n175, qk_n176, qk_n400, qk_n880, qk_n1000, qk_n1023, hlt, hft, rf_st hp hs he ha]
    by_cases c : qr_ft (s (1 + 7 * a)).toInt s = true
    · rw [if_neg (fun t => t c), if_pos c]
    · rw [if_pos c, if_neg c]
theorem rf_b77_0 (h : qi_pr s) (c0 : qn (s 113) = 0) {m : Nat} {x k : Int32} : qa_fX10_begins_77 (m + 1) x k (qw ρ s y) = qa_fX10_begins_151 x (qw ρ s y) := by
  have h1 := qn_int h.1
  rw [qa_fX10_begins_77]
  split
  · rfl
  · rw [qw_s, qk_b113, qk_n113, if_pos (by rw [qz_l0]; omega)]
theorem rf_b77_1 {a : Nat} (ha : a < 16) {m : Nat} {k : Int32} : qa_fX10_begins_77 (m + 1) (nI a) k (qw ρ s y) = qa_fX10_begins_151 (nI a) (qw ρ s y) := by
  rw [qa_fX10_begins_77]
  split
  · rfl
  · split
    · rfl
    · rw [if_pos (by rw [qk_am1]; exact qr_nI_m ha)]
theorem rf_b77 (h : qi_A N s) (c0 : ¬ qn (s 113) = 0) (c : Nat) (hc : s 164 = nI c) (hc2 : c ≤ 4) : ∀ (m k j : Nat), k + j = c + 1 → 1 ≤ k → j + 1 < m → qa_fX10_begins_77 m (-1) (nI k) (qw ρ s y) = qa_fX10_begins_151 (qo_i (qr_gf s j k)) (qw ρ s y) := by
  obtain ⟨hs, hp, hw, hl, hq, he, hct⟩ := h
  have hn := (qi_n hs).2
  have hi := qn_int hs.1
  have hp1 := qn_int hp.1
  have hp2 := (qi_p hp).2
  have h0 : 0 < (s 113).toInt := by omega
  intro m
  induction m with
  | zero => intro k j h1 h2 h3; omega
  | succ m ih =>
    intro k j hk h1 hm
    rw [qa_fX10_begins_77, qw_s, qk_c164, qk_n164, qk_b113, qk_n113, qk_c138, qk_n138, qk_am1]
    cases j with
    | zero =>
      rw [if_pos (by rw [hc]; exact nI_lt (by omega) (by omega))]
      rfl
    | succ j =>
      have h6 := (qi_ixb hp h0 k).1
      have h7 := qi_sa hp h0 k
      have h8 := qn_int h7.1
      have h9 : s (114 + qr_ix s k) = nI (qn (qr_sa s k)) := qn_of h7.1
      rw [if_neg (by rw [hc]; exact nI_nlt (by omega) (by omega)), if_neg (by rw [qz_l0]; omega), if_neg (fun t => t rfl), rf_pj hp h0 h1 (by omega), qz_ifn (by omega) (by omega), nI_clamp (by omega), h9]
      dsimp only
      rw [rf_ld (by omega), Option.bind_some]
      unfold qa_fX10_begins_144 qr_gf
      rw [qk_a1, nI_1]
      by_cases c : qr_ld s (qn (qr_sa s k)) = true
      · rw [c, if_neg (by decide), if_pos rfl]
        exact ih (k + 1) j (by omega) (by omega) (by omega)
      · rw [if_pos (by rw [qb_0]; simpa using c), if_neg c]
        obtain ⟨m, rfl⟩ : ∃ i, m = i + 1 := ⟨m - 1, by omega⟩
        exact rf_b77_1 (by omega)
theorem rf_bg (h : qi_A N s) : qa_fX10_begins (qw ρ s y) = some (qw ρ (qr_bg s) y) := by
  have h' := h
  obtain ⟨hs, hp, hw, hl, hq, he, hc⟩ := h
  have hn := (qi_n hs).2
  have hi := qn_int hs.1
  unfold qa_fX10_begins qa_fX10_begins_183 qr_bg
  simp only [qk_am1, qk_a0, qk_a1, qk_a2, qk_a3, qk_a4, qk_a5, qk_b6, qk_b7, qk_b10, qk_b15, qk_b16, qk_b20, qk_b24, qk_b25, qk_b33, qk_b48, qk_b50, qk_b52, qk_b57, qk_b59, qk_b60, qk_b97, qk_b98, qk_b100, qk_b110, qk_b112, qk_b113, qk_b114, qk_b116, qk_b126, qk_c138, qk_c139, qk_c140, qk_c141, qk_c142, qk_c143, qk_c144, qk_c145, qk_c146, qk_c147, qk_c150, qk_c163, qk_c164, qk_c165, qk_c166, qk_c167, qk_c168, qk_c169, qk_c170, qk_c171, qk_c172, qk_c173, qk_c174, qk_c175, qk_c176, qk_c400, qk_c880, qk_c1000, qk_c1023, qw_s, qk_n0, qk_n1, qk_n2, qk_n3, qk_n4, qk_n5, qk_n6, qk_n7, qk_n10, qk_n15, qk_n16, qk_n20, qk_n24, qk_n25, qk_n33, qk_n48, qk_n50, qk_n52, qk_n57, qk_n59, qk_n60, qk_n97, qk_n98, qk_n100, qk_n110, qk_n112, qk_n113, qk_n114, qk_n116, qk_n126, qk_n138, qk_n139, qk_n140, qk_n141, qk_n142, qk_n143, qk_n144, qk_n145, qk_n146, qk_n147, qk_n150, qk_n163, qk_n164, qk_n165, qk_n166, qk_n167, qk_n168, qk_n169, qk_n170, qk_n171, qk_n172, qk_n173, qk_n174, qk_n175, qk_n176, qk_n400, qk_n880, qk_n1000, qk_n1023]
  by_cases c1 : s 144 = -1
  · rw [if_pos c1, if_neg (not_not_intro c1)]
    by_cases c2 : s 142 = -1
    · rw [if_pos c2, if_neg (not_not_intro c2)]
      have hq1 := qn_int hq.1
      by_cases c3 : qn (s 146) = 0
      · rw [if_pos (by rw [qz_l0]; omega), if_pos c3]
        unfold qr_b3 qr_gd
        by_cases c4 : qn (s 113) = 0
        · rw [show qa_fu = 2999 + 1 from rfl, rf_b77_0 hp c4, if_pos c4]
          exact rf_b151 h' none (fun a e => by cases e)
        · have ha1 := qn_int (x := s 164) he.2.2.1
          have ha2 := he.2.2.2.1
          rw [if_neg c4]
          refine (rf_b77 h' c4 (qn (s 164)) (qn_of he.2.2.1) (by omega) qa_fu 1 (qn (s 164)) (by omega) (by omega) (by unfold qa_fu; omega)).trans ?_
          refine rf_b151 h' (qr_gf s (qn (s 164)) 1) (fun a e => ?_)
          refine (gd_s hp hs ?_).1
          unfold qr_gd
          rw [if_neg c4]
          exact e
      · rw [if_neg (by rw [qz_l0]; omega), if_neg c3]
        have hq2 := hq.2.2.1 0 (by omega)
        rw [Nat.add_zero] at hq2
        obtain ⟨r1, r2, r3, r4, r5⟩ := hq2
        have r6 := qn_int r1
        have hf := fg_A (a := qn (s 147)) h'
        have e7 : s 147 = nI (qn (s 147)) := qn_of r1
        have e1 : qa_fX10_forgets (s 147) (qw ρ s y) = some (qw ρ (qr_fg s (qn (s 147))) y) := by
          rw [e7, rf_fg (qi_qdq hq), qn_nI (by omega)]
        have e2 : qa_fX10_starts (s 147) (qw ρ (qr_fg s (qn (s 147))) y) = some (qw ρ (qr_st (qr_fg s (qn (s 147))) (qn (s 147))) y) := by
          rw [show qa_fX10_starts (s 147) (qw ρ (qr_fg s (qn (s 147))) y) = qa_fX10_starts (nI (qn (s 147))) (qw ρ (qr_fg s (qn (s 147))) y) from congrArg (fun x => qa_fX10_starts x _) e7]
          exact rf_st hf.2.1 hf.1 hf.2.2.2.2.2.1 (by rw [fg_o (i := 0) (qi_qdq hq) (qn (s 147)) (by omega)]; omega)
        rw [e1, Option.bind_some, e2, Option.bind_some]
    · rw [if_neg c2, if_pos c2]
      have g1 : 0 ≤ (s 142).toInt := by
        have := hl.1
        rw [qz_m1] at c2
        omega
      have g2 := qn_int g1
      have g3 := hl.2.1
      have e2 : qa_fX10_starts (s 142) (qw ρ s y) = some (qw ρ (qr_st s (qn (s 142))) y) := by
        rw [show qa_fX10_starts (s 142) (qw ρ s y) = qa_fX10_starts (nI (qn (s 142))) (qw ρ s y) from congrArg (fun x => qa_fX10_starts x _) (qn_of g1)]
        exact rf_st hp hs he (by omega)
      rw [e2, Option.bind_some]
  · rw [if_neg c1, if_pos c1]
theorem rf_us {a : Nat} (ha : a < 16) : qa_fX10_uses (nI a) (qw ρ s y) = some (qw ρ (qr_us s a) y) := by
  unfold qa_fX10_uses qr_us
  simp only [qk_am1, qk_a0, qk_a1, qk_a2, qk_a3, qk_a4, qk_a5, qk_b6, qk_b7, qk_b10, qk_b15, qk_b16, qk_b20, qk_b24, qk_b25, qk_b33, qk_b48, qk_b50, qk_b52, qk_b57, qk_b59, qk_b60, qk_b97, qk_b98, qk_b100, qk_b110, qk_b112, qk_b113, qk_b114, qk_b116, qk_b126, qk_c138, qk_c139, qk_c140, qk_c141, qk_c142, qk_c143, qk_c144, qk_c145, qk_c146, qk_c147, qk_c150, qk_c163, qk_c164, qk_c165, qk_c166, qk_c167, qk_c168, qk_c169, qk_c170, qk_c171, qk_c172, qk_c173, qk_c174, qk_c175, qk_c176, qk_c400, qk_c880, qk_c1000, qk_c1023, qw_s, qk_n0, qk_n1, qk_n2, qk_n3, qk_n4, qk_n5, qk_n6, qk_n7, qk_n10, qk_n15, qk_n16, qk_n20, qk_n24, qk_n25, qk_n33, qk_n48, qk_n50, qk_n52, qk_n57, qk_n59, qk_n60, qk_n97, qk_n98, qk_n100, qk_n110, qk_n112, qk_n113, qk_n114, qk_n116, qk_n126, qk_n138, qk_n139, qk_n140, qk_n141, qk_n142, qk_n143, qk_n144, qk_n145, qk_n146, qk_n147, qk_n150, qk_n163, qk_n164, qk_n165, qk_n166, qk_n167, qk_n168, qk_n169, qk_n170, qk_n171, qk_n172, qk_n173, qk_n174, qk_n175, qk_n176, qk_n400, qk_n880, qk_n1000, qk_n1023, qw_wi, rf_lay6 ha, Option.bind_some, pk_us]
theorem rf_sh {a : Nat} (ha : a < 16) : qa_fX10_shows (nI a) (qw ρ s y) = some (qw ρ (qr_sh s a) (y + 1)) := by
  unfold qa_fX10_shows qa_fX10_shows_68 qa_fX10_shows_69 qr_sh qr_sf
  simp only [qk_am1, qk_a0, qk_a1, qk_a2, qk_a3, qk_a4, qk_a5, qk_b6, qk_b7, qk_b10, qk_b15, qk_b16, qk_b20, qk_b24, qk_b25, qk_b33, qk_b48, qk_b50, qk_b52, qk_b57, qk_b59, qk_b60, qk_b97, qk_b98, qk_b100, qk_b110, qk_b112, qk_b113, qk_b114, qk_b116, qk_b126, qk_c138, qk_c139, qk_c140, qk_c141, qk_c142, qk_c143, qk_c144, qk_c145, qk_c146, qk_c147, qk_c150, qk_c163, qk_c164, qk_c165, qk_c166, qk_c167, qk_c168, qk_c169, qk_c170, qk_c171, qk_c172, qk_c173, qk_c174, qk_c175, qk_c176, qk_c400, qk_c880, qk_c1000, qk_c1023, qw_s, qk_n0, qk_n1, qk_n2, qk_n3, qk_n4, qk_n5, qk_n6, qk_n7, qk_n10, qk_n15, qk_n16, qk_n20, qk_n24, qk_n25, qk_n33, qk_n48, qk_n50, qk_n52, qk_n57, qk_n59, qk_n60, qk_n97, qk_n98, qk_n100, qk_n110, qk_n112, qk_n113, qk_n114, qk_n116, qk_n126, qk_n138, qk_n139, qk_n140, qk_n141, qk_n142, qk_n143, qk_n144, qk_n145, qk_n146, qk_n147, qk_n150, qk_n163, qk_n164, qk_n165, qk_n166, qk_n167, qk_n168, qk_n169, qk_n170, qk_n171, qk_n172, qk_n173, qk_n174, qk_n175, qk_n176, qk_n400, qk_n880, qk_n1000, qk_n1023, rf_of2 ha, Option.bind_some, qw_wi, pk_us, qk_in140, not_true, if_false, rf_us ha, qw_y, qw_wy]
  by_cases c1 : s 139 = -1
  · simp only [if_pos c1, if_pos (Or.inl c1 : s 139 = -1 ∨ s 139 = nI a)]
  · by_cases c2 : s 139 = nI a
    · simp only [if_neg c1, if_pos c2, if_pos (Or.inr c2 : s 139 = -1 ∨ s 139 = nI a)]
    · simp only [if_neg c1, if_neg c2, if_neg (fun t => t.elim c1 c2 : ¬ (s 139 = -1 ∨ s 139 = nI a))]
      split <;> simp (disch := omega) only [pk_us, pk_un, qz_ue]
theorem qi_b01 (b : Bool) {σ : qa_T} : qa_fX10_goesOn_99 (qa_bi b) σ = some (b, σ) := by
  unfold qa_fX10_goesOn_99
  cases b
  · exact if_pos rfl
  · rw [if_neg (by decide)]
    exact if_pos rfl
theorem rf_go (h : qi_A N s) (h0 : 0 < (s 113).toInt) : qa_fX10_goesOn (qw ρ s y) = some ((qr_go s).1, qw ρ (qr_go s).2 (y + nI (qr_bt (qr_go s).1))) := by
  obtain ⟨hs, hp, hw, hl, hq, he, hc⟩ := h
  obtain ⟨a1, a2⟩ := ga_b hp h0 hs
  have hn := (qi_n hs).2
  have ha : qr_ga s < 16 := by omega
  have h6 := (qi_ixb hp h0 1).1
  have h7 := (qi_p hp).2
  have e1 : s 138 + 1 - (s 138 + 1) / s 113 * s 113 = nI (qr_ix s 1) := rf_pi hp h0 (k := 1) (by omega) (by omega)
  have e3 : ¬ s 113 = 0 := fun t => by rw [t] at h0; exact absurd h0 (by decide)
  have e4 : (114 : Int32) + nI (qr_ix s 1) = nI (114 + qr_ix s 1) := nI_add 114 _
  have e5 : upd s 138 (nI (qr_ix s 1)) (114 + qr_ix s 1) = nI (qr_ga s) := by rw [pk_un (by omega), a2]
  have e6 : qr_ld (upd s 138 (nI (qr_ix s 1))) (qr_ga s) = qr_ld s (qr_ga s) := by
    unfold qr_ld
    rw [pk_un (by omega)]
  unfold qa_fX10_goesOn
  simp only [qk_am1, qk_a0, qk_a1, qk_a2, qk_a3, qk_a4, qk_a5, qk_b6, qk_b7, qk_b10, qk_b15, qk_b16, qk_b20, qk_b24, qk_b25, qk_b33, qk_b48, qk_b50, qk_b52, qk_b57, qk_b59, qk_b60, qk_b97, qk_b98, qk_b100, qk_b110, qk_b112, qk_b113, qk_b114, qk_b116, qk_b126, qk_c138, qk_c139, qk_c140, qk_c141, qk_c142, qk_c143, qk_c144, qk_c145, qk_c146, qk_c147, qk_c150, qk_c163, qk_c164, qk_c165, qk_c166, qk_c167, qk_c168, qk_c169, qk_c170, qk_c171, qk_c172, qk_c173, qk_c174, qk_c175, qk_c176, qk_c400, qk_c880, qk_c1000, qk_c1023, qw_s, qk_n0, qk_n1, qk_n2, qk_n3, qk_n4, qk_n5, qk_n6, qk_n7, qk_n10, qk_n15, qk_n16, qk_n20, qk_n24, qk_n25, qk_n33, qk_n48, qk_n50, qk_n52, qk_n57, qk_n59, qk_n60, qk_n97, qk_n98, qk_n100, qk_n110, qk_n112, qk_n113, qk_n114, qk_n116, qk_n126, qk_n138, qk_n139, qk_n140, qk_n141, qk_n142, qk_n143, qk_n144, qk_n145, qk_n146, qk_n147, qk_n150, qk_n163, qk_n164, qk_n165, qk_n166, qk_n167, qk_n168, qk_n169, qk_n170, qk_n171, qk_n172, qk_n173, qk_n174, qk_n175, qk_n176, qk_n400, qk_n880, qk_n1000, qk_n1023, if_neg e3, e1, qw_wi, pk_us, e4, qz_ifn (show 114 + qr_ix s 1 < 176 by omega) (show 176 < 2147483648 by omega), nI_clamp (show 114 + qr_ix s 1 < 2 ^ 31 by omega), e5, rf_ld ha, Option.bind_some, e6]
  unfold qr_go
  cases c : qr_ld s (qr_ga s)
  · have hqd : qi_qd (upd (upd (upd s 138 (nI (qr_ix s 1))) 170 (s 170 + 1)) 142 (nI (qr_ga s))) := by
      have hd := qi_qdq hq
      have h2 := hd.2.1
      unfold qi_qd
      rw [pk_un (by omega), pk_un (by omega), pk_un (by omega)]
      refine ⟨hd.1, hd.2.1, fun j k hj hk => ?_⟩
      rw [pk_un (by omega), pk_un (by omega), pk_un (by omega), pk_un (by omega), pk_un (by omega), pk_un (by omega)]
      exact hd.2.2 j k hj hk
    have e8 : upd s 138 (nI (qr_ix s 1)) 170 = s 170 := pk_un (by omega)
    rw [if_pos (by rfl)]
    simp only [e8, rf_fg hqd, Option.bind_some, qi_b01]
    rw [if_neg (by decide)]
    unfold qr_g0 qr_bt
    rw [nI_0, Int32.add_zero]
  · have e8 : upd s 138 (nI (qr_ix s 1)) 169 = s 169 := pk_un (by omega)
    rw [if_neg (by decide)]
    simp only [e8, rf_sh ha, Option.bind_some, qi_b01]
    rw [if_pos trivial]
    rfl
end QRQ
end
section
/-! the reference's own methods: a tick, ticks -/
section QRR
variable {ρ : qa_T} {s t : qs} {y : Int32} {N : Nat}
noncomputable def rx_2 (σ14 : qa_T) : Option qa_T :=
    if (σ14.1 (10, 22) (((Int16.ofInt 144).toInt32)).toNatClampNeg) = (Int32.ofInt (-1)) then
      qa_fX10_ticks_253  σ14
    else
      let σ26 := qa_wi σ14 (10, 22) (((Int16.ofInt 145).toInt32)).toNatClampNeg ((σ14.1 (10, 22) (((Int16.ofInt 145).toInt32)).toNatClampNeg) - (Int32.ofInt 1))
      if ¬ (σ26.1 (10, 22) (((Int16.ofInt 145).toInt32)).toNatClampNeg) = 0 then
        qa_fX10_ticks_253  σ26
      else
        let v28 : Int32 := (σ26.1 (10, 22) (((Int16.ofInt 144).toInt32)).toNatClampNeg)
        let σ29 := qa_wi σ26 (10, 22) (((Int16.ofInt 144).toInt32)).toNatClampNeg (Int32.ofInt (-1))
        (qa_fX10_lay v28 (Int32.ofInt 3) (Int32.ofInt 1) σ29).bind fun c30 =>
        (qa_fX10_uses v28 c30).bind fun c32 =>
        if ¬ (c32.1 (10, 22) (((Int16.ofInt 142).toInt32)).toNatClampNeg) = v28 then
          qa_fX10_ticks_253  c32
        else
          (qa_fX10_shows v28 c32).bind fun c35 =>
          qa_fX10_ticks_253  c35
theorem rf_170 {v : Int32} : qa_fX10_ticks_170 v 140 (qw ρ s y) = rx_2 (qw ρ (upd s 140 v) y) := by
  unfold qa_fX10_ticks_170 rx_2
  rw [if_neg (not_not_intro qk_in140)]
  dsimp only
  rw [qk_n140, qw_wi]
theorem rf_138 {v : Int32} : qa_fX10_ticks_138 v (s 141) 141 (qw ρ s y) = rx_2 (qw ρ (upd (upd s 141 (s 141 - v)) 140 (if s 141 - v ≤ 0 then -1 else s 140)) y) := by
  unfold qa_fX10_ticks_138
  rw [if_neg (not_not_intro qk_in141)]
  dsimp only
  rw [qk_n141, qw_wi, qw_s, qk_c141, qk_n141, pk_us, qk_c140, qk_n140, qk_am1, rf_170, rf_170, pk_un (by omega)]
  split <;> rfl
theorem rf_t70 {n : Nat} (hn : n ≤ 16) (h0 : s 0 = nI n) : ∀ m k : Nat, k ≤ n → n - k < m → qa_fX10_ticks_70 m (nI k) (qw ρ (qr_em s k) y) = rx_2 (qw ρ (qr_fd (qr_em s n)) y) := by
  intro m
  induction m with
  | zero => intro k h1 h2; omega
  | succ m ih =>
    intro k hk hm
    have e0 : qr_em s k 0 = nI n := by rw [em_o s (by omega) k (by omega), h0]
    rw [qa_fX10_ticks_70, qw_s, qk_a0, qk_n0, e0]
    by_cases e : k = n
    · subst e
      rw [if_pos (nI_le (Nat.le_refl _) (by omega)), qk_c141, qk_n141, qk_a1, rf_138, rf_138]
      unfold qr_fd
      split <;> rfl
    · have hk2 : k < 16 := by omega
      have e4 : qr_em s k (1 + 7 * k + 4) = s (1 + 7 * k + 4) := by rw [em_4, if_neg (by omega)]
      rw [if_neg (nI_ge (by omega) (by omega)), qk_a4, rf_of4 hk2, e4]
      unfold qa_fX10_ticks_104
      rw [qk_a1, nI_1]
      simp only [Option.bind_some, rf_lay4 hk2]
      have h1 := ih (k + 1) (by omega) (by omega)
      rw [em_s] at h1
      by_cases c : s (1 + 7 * k + 4) ≤ 0
      · rw [if_pos c] at h1 ⊢
        exact h1
      · rw [if_neg c] at h1 ⊢
        exact h1
theorem rf_t1 {n : Nat} (hn : n ≤ 16) (h0 : s 0 = nI n) : qa_fX10_ticks (qw ρ s y) = rx_2 (qw ρ (qr_t1 s) y) := by
  have h1 : qr_t0 s 0 = nI n := by rw [t0_o (by omega) (by omega) (by omega), h0]
  have h2 := rf_t70 (ρ := ρ) (y := y) hn h1 qa_fu 0 (by omega) (by unfold qa_fu; omega)
  unfold qr_t1
  rw [h0, qn_nI (by omega), ← h2]
  unfold qa_fX10_ticks qa_fX10_ticks_38 qa_fX10_ticks_66
  simp only [qk_am1, qk_a0, qk_a1, qk_a2, qk_a3, qk_a4, qk_a5, qk_b6, qk_b7, qk_b10, qk_b15, qk_b16, qk_b20, qk_b24, qk_b25, qk_b33, qk_b48, qk_b50, qk_b52, qk_b57, qk_b59, qk_b60, qk_b97, qk_b98, qk_b100, qk_b110, qk_b112, qk_b113, qk_b114, qk_b116, qk_b126, qk_c138, qk_c139, qk_c140, qk_c141, qk_c142, qk_c143, qk_c144, qk_c145, qk_c146, qk_c147, qk_c150, qk_c163, qk_c164, qk_c165, qk_c166, qk_c167, qk_c168, qk_c169, qk_c170, qk_c171, qk_c172, qk_c173, qk_c174, qk_c175, qk_c176, qk_c400, qk_c880, qk_c1000, qk_c1023, qw_s, qk_n0, qk_n1, qk_n2, qk_n3, qk_n4, qk_n5, qk_n6, qk_n7, qk_n10, qk_n15, qk_n16, qk_n20, qk_n24, qk_n25, qk_n33, qk_n48, qk_n50, qk_n52, qk_n57, qk_n59, qk_n60, qk_n97, qk_n98, qk_n100, qk_n110, qk_n112, qk_n113, qk_n114, qk_n116, qk_n126, qk_n138, qk_n139, qk_n140, qk_n141, qk_n142, qk_n143, qk_n144, qk_n145, qk_n146, qk_n147, qk_n150, qk_n163, qk_n164, qk_n165, qk_n166, qk_n167, qk_n168, qk_n169, qk_n170, qk_n171, qk_n172, qk_n173, qk_n174, qk_n175, qk_n176, qk_n400, qk_n880, qk_n1000, qk_n1023, qw_wi, qk_in174, qk_in143, not_true, if_false]
  simp (disch := omega) only [pk_us, pk_un, qz_ue]
  unfold qr_em qr_t0
  by_cases c1 : s 142 = -1 <;> by_cases c2 : s 139 = -1 <;> simp only [c1, c2, if_true, if_false] <;> rfl
theorem rf_t2 (h : qi_A N s) : rx_2 (qw ρ s y) = qa_fX10_ticks_253 (qw ρ (qr_t2 s).2 (y + nI (qr_bt (qr_t2 s).1))) := by
  obtain ⟨hs, hp, hw, hl, hq, he, hc⟩ := h
  have hn := (qi_n hs).2
  have hi := qn_int hs.1
  unfold rx_2 qr_t2
  simp only [qk_am1, qk_a0, qk_a1, qk_a2, qk_a3, qk_a4, qk_a5, qk_b6, qk_b7, qk_b10, qk_b15, qk_b16, qk_b20, qk_b24, qk_b25, qk_b33, qk_b48, qk_b50, qk_b52, qk_b57, qk_b59, qk_b60, qk_b97, qk_b98, qk_b100, qk_b110, qk_b112, qk_b113, qk_b114, qk_b116, qk_b126, qk_c138, qk_c139, qk_c140, qk_c141, qk_c142, qk_c143, qk_c144, qk_c145, qk_c146, qk_c147, qk_c150, qk_c163, qk_c164, qk_c165, qk_c166, qk_c167, qk_c168, qk_c169, qk_c170, qk_c171, qk_c172, qk_c173, qk_c174, qk_c175, qk_c176, qk_c400, qk_c880, qk_c1000, qk_c1023, qw_s, qk_n0, qk_n1, qk_n2, qk_n3, qk_n4, qk_n5, qk_n6, qk_n7, qk_n10, qk_n15, qk_n16, qk_n20, qk_n24, qk_n25, qk_n33, qk_n48, qk_n50, qk_n52, qk_n57, qk_n59, qk_n60, qk_n97, qk_n98, qk_n100, qk_n110, qk_n112, qk_n113, qk_n114, qk_n116, qk_n126, qk_n138, qk_n139, qk_n140, qk_n141, qk_n142, qk_n143, qk_n144, qk_n145, qk_n146, qk_n147, qk_n150, qk_n163, qk_n164, qk_n165, qk_n166, qk_n167, qk_n168, qk_n169, qk_n170, qk_n171, qk_n172, qk_n173, qk_n174, qk_n175, qk_n176, qk_n400, qk_n880, qk_n1000, qk_n1023, qw_wi, pk_us]
  by_cases c1 : s 144 = -1
  · rw [if_pos c1, if_pos c1]
    dsimp only [qr_bt]
    rw [nI_0, Int32.add_zero]
  · rw [if_neg c1, if_neg c1]
    have g1 : 0 ≤ (s 144).toInt := by
      have := hl.2.2.1
      rw [qz_m1] at c1
      omega
    have g3 := qn_int g1
    have ha : qn (s 144) < 16 := by have := hl.2.2.2.1; omega
    have g4 := qn_of g1
    by_cases c2 : s 145 - 1 = 0
    · rw [if_neg (not_not_intro c2), if_neg (not_not_intro c2)]
      have e1 : upd s 145 (s 145 - 1) 144 = nI (qn (s 144)) := by rw [pk_un (by omega)]; exact g4
      have e2 : qr_us (upd (upd (upd s 145 (s 145 - 1)) 144 (-1)) (1 + 7 * qn (s 144) + 3) 1) (qn (s 144)) 142 = s 142 := by
        rw [us_o (by omega) (by omega)]
        simp (disch := omega) only [pk_us, pk_un, qz_ue]
      simp only [e1, rf_lay3 ha, Option.bind_some, rf_us ha, qw_s, e2, rf_sh ha]
      by_cases c3 : s 142 = s 144
      · rw [if_neg (by rw [c3]; exact not_not_intro g4), if_neg (not_not_intro c3)]
        rfl
      · rw [if_pos (by rw [← g4]; exact c3), if_pos c3]
        dsimp only [qr_bt, qr_l0]
        rw [nI_0, Int32.add_zero]
    · rw [if_pos c2, if_pos c2]
      dsimp only [qr_bt]
      rw [nI_0, Int32.add_zero]
theorem rf_t3 (h : qi_A N s) (hN : N + 2 < 2147483647) : qa_fX10_ticks_253 (qw ρ s y) = some (qw ρ (qr_bg (qr_t3 s).2) (y + nI (qr_bt (qr_t3 s).1))) := by
  have h3 := t3_A h hN
  rw [← rf_bg h3]
  unfold qa_fX10_ticks_253 qa_fX10_ticks_322 qr_t3
  simp only [qk_am1, qk_a0, qk_a1, qk_a2, qk_a3, qk_a4, qk_a5, qk_b6, qk_b7, qk_b10, qk_b15, qk_b16, qk_b20, qk_b24, qk_b25, qk_b33, qk_b48, qk_b50, qk_b52, qk_b57, qk_b59, qk_b60, qk_b97, qk_b98, qk_b100, qk_b110, qk_b112, qk_b113, qk_b114, qk_b116, qk_b126, qk_c138, qk_c139, qk_c140, qk_c141, qk_c142, qk_c143, qk_c144, qk_c145, qk_c146, qk_c147, qk_c150, qk_c163, qk_c164, qk_c165, qk_c166, qk_c167, qk_c168, qk_c169, qk_c170, qk_c171, qk_c172, qk_c173, qk_c174, qk_c175, qk_c176, qk_c400, qk_c880, qk_c1000, qk_c1023, qw_s, qk_n0, qk_n1, qk_n2, qk_n3, qk_n4, qk_n5, qk_n6, qk_n7, qk_n10, qk_n15, qk_n16, qk_n20, qk_n24, qk_n25, qk_n33, qk_n48, qk_n50, qk_n52, qk_n57, qk_n59, qk_n60, qk_n97, qk_n98, qk_n100, qk_n110, qk_n112, qk_n113, qk_n114, qk_n116, qk_n126, qk_n138, qk_n139, qk_n140, qk_n141, qk_n142, qk_n143, qk_n144, qk_n145, qk_n146, qk_n147, qk_n150, qk_n163, qk_n164, qk_n165, qk_n166, qk_n167, qk_n168, qk_n169, qk_n170, qk_n171, qk_n172, qk_n173, qk_n174, qk_n175, qk_n176, qk_n400, qk_n880, qk_n1000, qk_n1023]
  by_cases c : s 142 = -1 ∧ ¬ s 139 = -1 ∧ ¬ s 167 ≤ 0 ∧ ¬ s 143 < s 167 ∧ ¬ s 113 ≤ 0
  · have h0 : 0 < (s 113).toInt := by
      have := c.2.2.2.2
      rw [qz_l0] at this
      omega
    rw [if_pos c, if_neg (not_not_intro c.1), if_neg c.2.1, if_neg c.2.2.1, if_neg c.2.2.2.1, if_neg c.2.2.2.2, rf_go h h0, Option.bind_some]
    dsimp only
    cases qa_fX10_begins (qw ρ (qr_go s).2 (y + nI (qr_bt (qr_go s).1))) <;> rfl
  · rw [if_neg c]
    dsimp only [qr_bt]
    rw [nI_0, Int32.add_zero]
    have e : ∀ o : Option qa_T, (o.bind fun c17 => some c17) = o := fun o => by cases o <;> rfl
    rw [e]
    by_cases c1 : s 142 = -1
    · rw [if_neg (not_not_intro c1)]
      by_cases c2 : s 139 = -1
      · rw [if_pos c2]
      · rw [if_neg c2]
        by_cases c3 : s 167 ≤ 0
        · rw [if_pos c3]
        · rw [if_neg c3]
          by_cases c4 : s 143 < s 167
          · rw [if_pos c4]
          · rw [if_neg c4]
            by_cases c5 : s 113 ≤ 0
            · rw [if_pos c5]
            · exact absurd ⟨c1, c2, c3, c4, c5⟩ c
    · rw [if_pos c1]
theorem rf_tc (h : qi_A N s) (hN : N + 4 < 2147483647) : qa_fX10_ticks (qw ρ s y) = some (qw ρ (qr_tc s).2 (y + nI (qr_tc s).1)) := by
  obtain ⟨n1, n2⟩ := qi_n h.1
  rw [rf_t1 n2 n1, rf_t2 (t1_A h), rf_t3 (t2_A (t1_A h) (by omega)) (by omega)]
  unfold qr_tc
  dsimp only
  rw [Int32.add_assoc, nI_add]
theorem rf_ti : ∀ (j k m N : Nat) (s : qs) (y : Int32), qi_I N s → N + 4 * j < 2147483647 → k + j < 2147483648 → j < m → qa_fX10_passes_7 (nI (k + j)) m (nI k) (qw ρ s y) = some (y + nI (qr_ti j s).1, qw ρ (qr_ti j s).2 (y + nI (qr_ti j s).1)) := by
  intro j
  induction j with
  | zero =>
    intro k m N s y h hN hk hm
    obtain ⟨m, rfl⟩ : ∃ i, m = i + 1 := ⟨m - 1, by omega⟩
    rw [qa_fX10_passes_7, Nat.add_zero, if_pos (nI_le (Nat.le_refl _) (by omega)), qw_y, ti_0]
    dsimp only
    rw [nI_0, Int32.add_zero]
  | succ j ih =>
    intro k m N s y h hN hk hm
    obtain ⟨m, rfl⟩ : ∃ i, m = i + 1 := ⟨m - 1, by omega⟩
    rw [qa_fX10_passes_7, if_neg (nI_ge (by omega) (by omega)), rf_tc h.1 (by omega), Option.bind_some]
    dsimp only
    rw [qk_a1, nI_1, show k + (j + 1) = (k + 1) + j by omega, ih (k + 1) m (N + 4) _ _ (tc_I h (by omega)).1 (by omega) (by omega) (by omega)]
    rw [ti_s]
    dsimp only
    rw [Int32.add_assoc, nI_add]
theorem rf_ps {j : Nat} (h : qi_I N s) (hN : N + 4 * j < 2147483647) (hj : j < 2999) : qa_fX10_passes (nI j) (qw ρ s y) = some (nI (qr_ti j s).1, qw ρ (qr_ti j s).2 (nI (qr_ti j s).1)) := by
  have h1 := rf_ti (ρ := ρ) j 0 qa_fu N s 0 h hN (by omega) (by unfold qa_fu; omega)
  rw [Nat.zero_add, Int32.zero_add] at h1
  unfold qa_fX10_passes
  dsimp only
  rw [qw_wy, qk_a0]
  exact h1
end QRR
end
section
/-! the reference's own methods: asking, the programme -/
section QRS
variable {ρ : qa_T} {s t : qs} {y : Int32} {N : Nat}
theorem rf_cg : qa_fX10_canGoOn (qw ρ s y) = qr_cg s := by
  unfold qa_fX10_canGoOn qa_fX10_canGoOn_26 qr_cg
  simp only [qk_am1, qk_a0, qk_a1, qk_a2, qk_a3, qk_a4, qk_a5, qk_b6, qk_b7, qk_b10, qk_b15, qk_b16, qk_b20, qk_b24, qk_b25, qk_b33, qk_b48, qk_b50, qk_b52, qk_b57, qk_b59, qk_b60, qk_b97, qk_b98, qk_b100, qk_b110, qk_b112, qk_b113, qk_b114, qk_b116, qk_b126, qk_c138, qk_c139, qk_c140, qk_c141, qk_c142, qk_c143, qk_c144, qk_c145, qk_c146, qk_c147, qk_c150, qk_c163, qk_c164, qk_c165, qk_c166, qk_c167, qk_c168, qk_c169, qk_c170, qk_c171, qk_c172, qk_c173, qk_c174, qk_c175, qk_c176, qk_c400, qk_c880, qk_c1000, qk_c1023, qw_s, qk_n0, qk_n1, qk_n2, qk_n3, qk_n4, qk_n5, qk_n6, qk_n7, qk_n10, qk_n15, qk_n16, qk_n20, qk_n24, qk_n25, qk_n33, qk_n48, qk_n50, qk_n52, qk_n57, qk_n59, qk_n60, qk_n97, qk_n98, qk_n100, qk_n110, qk_n112, qk_n113, qk_n114, qk_n116, qk_n126, qk_n138, qk_n139, qk_n140, qk_n141, qk_n142, qk_n143, qk_n144, qk_n145, qk_n146, qk_n147, qk_n150, qk_n163, qk_n164, qk_n165, qk_n166, qk_n167, qk_n168, qk_n169, qk_n170, qk_n171, qk_n172, qk_n173, qk_n174, qk_n175, qk_n176, qk_n400, qk_n880, qk_n1000, qk_n1023]
  by_cases c1 : s 113 ≤ 0 <;> by_cases c2 : s 142 = -1 <;> simp [c1, c2]
theorem rf_ia_l {q : Nat} (hq : q ≤ 16) (h6 : s 146 = nI q) (a : Nat) : ∀ (m k : Nat) (b : Bool), k ≤ q → q - k < m → qa_fX10_isAsked_20 (nI a) m (qa_bi b) (nI k) (qw ρ s y) = some (b || (qr_qf s a (q - k) k).isSome) := by
  intro m
  induction m with
  | zero => intro k b h1 h2; omega
  | succ m ih =>
    intro k b hk hm
    rw [qa_fX10_isAsked_20, qw_s, qk_c146, qk_n146, h6]
    by_cases e : k = q
    · subst e
      rw [if_pos (nI_le (Nat.le_refl _) (by omega)), Nat.sub_self]
      cases b
      · rw [if_pos (show qa_bi false = 0 from rfl)]; rfl
      · rw [if_neg (show ¬ qa_bi true = 0 by decide), if_pos (show qa_bi true = 1 from rfl)]; rfl
    · obtain ⟨d, hd⟩ : ∃ d, q - k = d + 1 := ⟨q - k - 1, by omega⟩
      have hd2 : q - (k + 1) = d := by omega
      rw [if_neg (nI_ge (by omega) (by omega))]
      have h1 := fun b => ih (k + 1) b (by omega) (by omega)
      rw [hd2] at h1
      unfold qa_fX10_isAsked_50 qa_fX10_isAsked_55
      rw [qk_a1, qk_a0, nI_1, hd]
      unfold qr_qf
      cases b
      · rw [if_neg (show ¬ ¬ qa_bi false = 0 by decide), qk_c147, qk_i147, nI_add, qz_ifn (by omega) (by omega), nI_clamp (by omega)]
        by_cases c : s (147 + k) = nI a
        · rw [if_neg (not_not_intro c), if_pos c]
          exact h1 true
        · rw [if_pos c, if_neg c]
          exact h1 false
      · rw [if_pos (show ¬ qa_bi true = 0 by decide)]
        exact h1 true
theorem rf_ia (h : qi_qu s) (a : Nat) : qa_fX10_isAsked (nI a) (qw ρ s y) = some (decide (s 142 = nI a) || (qr_qp s a).isSome) := by
  obtain ⟨h1, h2⟩ := qi_q h
  have h3 := fun b => rf_ia_l (ρ := ρ) (y := y) h2 h1 a qa_fu 0 b (by omega) (by unfold qa_fu; omega)
  unfold qa_fX10_isAsked qa_fX10_isAsked_17 qr_qp
  rw [qw_s, qk_c142, qk_n142]
  by_cases c : s 142 = nI a
  · rw [if_neg (not_not_intro c.symm), decide_eq_true c]
    exact h3 true
  · rw [if_pos (fun t => c t.symm), decide_eq_false c]
    exact h3 false
theorem rf_ca (h : qi_qu s) {a : Nat} (ha : a < 16) : qa_fX10_canAsk (nI a) (qw ρ s y) = some (qr_ca s a) := by
  unfold qa_fX10_canAsk qa_fX10_canAsk_32 qr_ca
  rw [rf_ld ha, rf_ia h]
  simp only [qk_am1, qk_a0, qk_a1, qk_a2, qk_a3, qk_a4, qk_a5, qk_b6, qk_b7, qk_b10, qk_b15, qk_b16, qk_b20, qk_b24, qk_b25, qk_b33, qk_b48, qk_b50, qk_b52, qk_b57, qk_b59, qk_b60, qk_b97, qk_b98, qk_b100, qk_b110, qk_b112, qk_b113, qk_b114, qk_b116, qk_b126, qk_c138, qk_c139, qk_c140, qk_c141, qk_c142, qk_c143, qk_c144, qk_c145, qk_c146, qk_c147, qk_c150, qk_c163, qk_c164, qk_c165, qk_c166, qk_c167, qk_c168, qk_c169, qk_c170, qk_c171, qk_c172, qk_c173, qk_c174, qk_c175, qk_c176, qk_c400, qk_c880, qk_c1000, qk_c1023, qw_s, qk_n0, qk_n1, qk_n2, qk_n3, qk_n4, qk_n5, qk_n6, qk_n7, qk_n10, qk_n15, qk_n16, qk_n20, qk_n24, qk_n25, qk_n33, qk_n48, qk_n50, qk_n52, qk_n57, qk_n59, qk_n60, qk_n97, qk_n98, qk_n100, qk_n110, qk_n112, qk_n113, qk_n114, qk_n116, qk_n126, qk_n138, qk_n139, qk_n140, qk_n141, qk_n142, qk_n143, qk_n144, qk_n145, qk_n146, qk_n147, qk_n150, qk_n163, qk_n164, qk_n165, qk_n166, qk_n167, qk_n168, qk_n169, qk_n170, qk_n171, qk_n172, qk_n173, qk_n174, qk_n175, qk_n176, qk_n400, qk_n880, qk_n1000, qk_n1023, Option.bind_some, qb_0]
  cases c1 : qr_ld s a
  · by_cases c2 : s 144 = nI a
    · simp [c2]
    · by_cases c3 : s 142 = nI a
      · simp [c2, c3]
      · cases c4 : qr_qp s a <;> simp [c2, c3]
  · simp
theorem rf_as {a : Nat} (h : qi_qu s) (hA : qi_A N (qr_aq s a)) : qa_fX10_asks (nI a) (qw ρ s y) = some (qr_bg (qr_aq s a) 146, qw ρ (qr_bg (qr_aq s a)) y) := by
  obtain ⟨h1, h2⟩ := qi_q h
  unfold qa_fX10_asks
  have e1 : upd s (147 + qn (s 146)) (nI a) 146 = s 146 := pk_un (by omega)
  rw [qw_s, qk_c146, qk_n146, qk_c147, qk_i147, show nI 147 + s 146 = nI (147 + qn (s 146)) by rw [h1, nI_add, ← h1], qz_ifn (by omega) (by omega), nI_clamp (by omega), qw_wi]
  dsimp only
  rw [qw_s, e1, qw_wi, qk_a1]
  have h3 : upd (upd s (147 + qn (s 146)) (nI a)) 146 (s 146 + 1) = qr_aq s a := rfl
  rw [h3, rf_bg hA, Option.bind_some, qw_s]
/-- moved on by one, down to k -/
def qr_i1 (s : qs) (c k : Nat) : qs := fun i => if 114 + k < i ∧ i ≤ 114 + c then s (i - 1) else s i
theorem rf_ip_l {p a c : Nat} (hc : c < 24) (h3 : s 113 = nI c) (hp : p ≤ c) (hA : qi_A N (qr_ip s p a)) : ∀ (m k : Nat), p ≤ k → k ≤ c → k - p < m → qa_fX10_inserts_8 (nI p) (nI a) m (nI k) (qw ρ (qr_i1 s c k) y) = some (qr_bg (qr_ip s p a) 113, qw ρ (qr_bg (qr_ip s p a)) y) := by
  intro m
  induction m with
  | zero => intro k h1 h2 h3; omega
  | succ m ih =>
    intro k h1 h2 h4
    rw [qa_fX10_inserts_8]
    by_cases e : k = p
    · subst e
      have e3 : upd (qr_i1 s c k) (114 + k) (nI a) 113 = s 113 := by
        rw [pk_un (by omega)]
        unfold qr_i1
        rw [if_neg (by omega)]
      have e8 : upd (upd (qr_i1 s c k) (114 + k) (nI a)) 113 (s 113 + 1) 138 = s 138 := by
        rw [pk_un (by omega), pk_un (by omega)]
        unfold qr_i1
        rw [if_neg (by omega)]
      have ef : ∀ v, upd (upd (upd (qr_i1 s c k) (114 + k) (nI a)) 113 (s 113 + 1)) 138 v = upd (upd (fun i => if i = 114 + k then nI a else if 114 + k < i ∧ i ≤ 114 + qn (s 113) then s (i - 1) else s i) 113 (s 113 + 1)) 138 v := by
        intro v
        congr 2
        funext i
        unfold upd qr_i1
        rw [h3, qn_nI (by omega)]
      rw [if_pos (nI_le (Nat.le_refl _) (by omega)), qk_b114, qk_i114, nI_add, qz_ifn (by omega) (by omega), nI_clamp (by omega), qw_wi]
      simp only [qk_am1, qk_a0, qk_a1, qk_a2, qk_a3, qk_a4, qk_a5, qk_b6, qk_b7, qk_b10, qk_b15, qk_b16, qk_b20, qk_b24, qk_b25, qk_b33, qk_b48, qk_b50, qk_b52, qk_b57, qk_b59, qk_b60, qk_b97, qk_b98, qk_b100, qk_b110, qk_b112, qk_b113, qk_b114, qk_b116, qk_b126, qk_c138, qk_c139, qk_c140, qk_c141, qk_c142, qk_c143, qk_c144, qk_c145, qk_c146, qk_c147, qk_c150, qk_c163, qk_c164, qk_c165, qk_c166, qk_c167, qk_c168, qk_c169, qk_c170, qk_c171, qk_c172, qk_c173, qk_c174, qk_c175, qk_c176, qk_c400, qk_c880, qk_c1000, qk_c1023, qw_s, qk_n0, qk_n1, qk_n2, qk_n3, qk_n4, qk_n5, qk_n6, qk_n7, qk_n10, qk_n15, qk_n16, qk_n20, qk_n24, qk_n25, qk_n33, qk_n48, qk_n50, qk_n52, qk_n57, qk_n59, qk_n60, qk_n97, qk_n98, qk_n100, qk_n110, qk_n112, qk_n113, qk_n114, qk_n116, qk_n126, qk_n138, qk_n139, qk_n140, qk_n141, qk_n142, qk_n143, qk_n144, qk_n145, qk_n146, qk_n147, qk_n150, qk_n163, qk_n164, qk_n165, qk_n166, qk_n167, qk_n168, qk_n169, qk_n170, qk_n171, qk_n172, qk_n173, qk_n174, qk_n175, qk_n176, qk_n400, qk_n880, qk_n1000, qk_n1023, e3, qw_wi, e8]
      unfold qa_fX10_inserts_97 qa_fX10_inserts_98
      simp only [qk_am1, qk_a0, qk_a1, qk_a2, qk_a3, qk_a4, qk_a5, qk_b6, qk_b7, qk_b10, qk_b15, qk_b16, qk_b20, qk_b24, qk_b25, qk_b33, qk_b48, qk_b50, qk_b52, qk_b57, qk_b59, qk_b60, qk_b97, qk_b98, qk_b100, qk_b110, qk_b112, qk_b113, qk_b114, qk_b116, qk_b126, qk_c138, qk_c139, qk_c140, qk_c141, qk_c142, qk_c143, qk_c144, qk_c145, qk_c146, qk_c147, qk_c150, qk_c163, qk_c164, qk_c165, qk_c166, qk_c167, qk_c168, qk_c169, qk_c170, qk_c171, qk_c172, qk_c173, qk_c174, qk_c175, qk_c176, qk_c400, qk_c880, qk_c1000, qk_c1023, qk_in138, not_true, if_false, qk_n0, qk_n1, qk_n2, qk_n3, qk_n4, qk_n5, qk_n6, qk_n7, qk_n10, qk_n15, qk_n16, qk_n20, qk_n24, qk_n25, qk_n33, qk_n48, qk_n50, qk_n52, qk_n57, qk_n59, qk_n60, qk_n97, qk_n98, qk_n100, qk_n110, qk_n112, qk_n113, qk_n114, qk_n116, qk_n126, qk_n138, qk_n139, qk_n140, qk_n141, qk_n142, qk_n143, qk_n144, qk_n145, qk_n146, qk_n147, qk_n150, qk_n163, qk_n164, qk_n165, qk_n166, qk_n167, qk_n168, qk_n169, qk_n170, qk_n171, qk_n172, qk_n173, qk_n174, qk_n175, qk_n176, qk_n400, qk_n880, qk_n1000, qk_n1023, qw_wi, ef]
      have hip : qr_ip s k a = upd (upd (fun i => if i = 114 + k then nI a else if 114 + k < i ∧ i ≤ 114 + qn (s 113) then s (i - 1) else s i) 113 (s 113 + 1)) 138 (s 138 + (if s 138 = -1 ∨ (s 138).toInt < (k : Int) then 0 else 1)) := rfl
      by_cases c1 : s 138 = -1
      · rw [if_pos (Or.inl c1)] at hip
        rw [if_pos c1, ← hip, rf_bg hA, Option.bind_some, qw_s]
      · rw [if_neg c1]
        by_cases c2 : s 138 < nI k
        · have c3 : (s 138).toInt < (k : Int) := by
            rw [qz_lt, qz_nI (by omega)] at c2
            exact c2
          rw [if_pos (Or.inr c3)] at hip
          rw [if_pos c2, ← hip, rf_bg hA, Option.bind_some, qw_s]
        · have c3 : ¬ (s 138).toInt < (k : Int) := by
            rw [qz_lt, qz_nI (by omega)] at c2
            exact c2
          rw [if_neg (fun t => t.elim c1 c3)] at hip
          rw [if_neg c2, ← hip, rf_bg hA, Option.bind_some, qw_s]
    · obtain ⟨k, rfl⟩ : ∃ j, k = j + 1 := ⟨k - 1, by omega⟩
      have e1 : (114 : Int32) + nI (k + 1) = nI (114 + k + 1) := nI_add 114 _
      rw [if_neg (nI_ge (by omega) (by omega)), qk_b114, e1, qk_a1, nI_pred, qz_ifn (by omega) (by omega), qz_ifn (by omega) (by omega), nI_clamp (by omega), nI_clamp (by omega), qw_s, qw_wi]
      dsimp only
      rw [qk_am1, show nI (k + 1) + -1 = nI k by rw [← Int32.sub_eq_add_neg, nI_pred], ← ih k (by omega) (by omega) (by omega)]
      congr 2
      funext i
      unfold upd qr_i1
      by_cases c1 : i = 114 + k + 1
      · rw [if_pos c1, if_neg (by omega), if_pos (by omega), c1]
        rfl
      · rw [if_neg c1]
        by_cases c2 : 114 + (k + 1) < i ∧ i ≤ 114 + c
        · rw [if_pos c2, if_pos (by omega)]
        · rw [if_neg c2, if_neg (by omega)]
theorem rf_ip {p a : Nat} (h : qi_pr s) (hc : (s 113).toInt < 24) (hp : (p : Int) ≤ (s 113).toInt) (hA : qi_A N (qr_ip s p a)) : qa_fX10_inserts (nI p) (nI a) (qw ρ s y) = some (qr_bg (qr_ip s p a) 113, qw ρ (qr_bg (qr_ip s p a)) y) := by
  have h1 := qn_int h.1
  have h2 := qn_of h.1
  have e : qr_i1 s (qn (s 113)) (qn (s 113)) = s := by
    funext i
    unfold qr_i1
    rw [if_neg (by omega)]
  have h3 := rf_ip_l (ρ := ρ) (y := y) (show qn (s 113) < 24 by omega) h2 (show p ≤ qn (s 113) by omega) hA qa_fu (qn (s 113)) (by omega) (by omega) (by unfold qa_fu; omega)
  rw [e, ← h2] at h3
  unfold qa_fX10_inserts
  dsimp only
  rw [qw_s, qk_b113, qk_n113]
  exact h3
/-- moved back by one, from p up to k -/
def qr_r1 (s : qs) (p k : Nat) : qs := fun i => if 114 + p ≤ i ∧ i < 114 + k then s (i + 1) else s i
theorem rf_rp_l {p c : Nat} {v : Int32} (hc : c < 24) (h3 : s 113 = nI (c + 1)) (hp : p ≤ c) (hA : qi_A N (qr_rp s p)) : ∀ (m k : Nat), p ≤ k → k ≤ c → c - k < m → qa_fX10_takeOut_55 (nI p) m v (nI k) (qw ρ (qr_r1 (upd s 113 (nI c)) p k) y) = some (v, qw ρ (qr_bg (qr_rp s p)) y) := by
  intro m
  induction m with
  | zero => intro k h1 h2 h3; omega
  | succ m ih =>
    intro k h1 h2 h4
    have e0 : qr_r1 (upd s 113 (nI c)) p k 113 = nI c := by
      unfold qr_r1
      rw [if_neg (by omega), pk_us]
    rw [qa_fX10_takeOut_55, qw_s, qk_b113, qk_n113, e0]
    by_cases e : k = c
    · subst e
      have e8 : upd (qr_r1 (upd s 113 (nI k)) p k) (114 + k) 0 138 = s 138 := by
        rw [pk_un (by omega)]
        unfold qr_r1
        rw [if_neg (by omega), pk_un (by omega)]
      have ef : ∀ w, upd (upd (qr_r1 (upd s 113 (nI k)) p k) (114 + k) 0) 138 w = upd (upd (fun i => if 114 + p ≤ i ∧ i + 1 < 114 + qn (s 113) then s (i + 1) else if i + 1 = 114 + qn (s 113) then 0 else s i) 113 (s 113 - 1)) 138 w := by
        intro w
        congr 1
        funext i
        unfold upd qr_r1
        rw [h3, qn_nI (by omega), nI_pred]
        dsimp only
        by_cases c1 : i = 113
        · rw [if_neg (by omega), if_neg (by omega), if_pos c1, if_pos c1]
        · rw [if_neg c1]
          by_cases c2 : i = 114 + k
          · rw [if_pos c2, if_neg (show ¬ (114 + p ≤ i ∧ i + 1 < 114 + (k + 1)) by omega), if_pos (show i + 1 = 114 + (k + 1) by omega), if_neg c1]
          · rw [if_neg c2]
            by_cases c4 : 114 + p ≤ i ∧ i < 114 + k
            · rw [if_pos c4, if_neg (show ¬ i + 1 = 113 by omega), if_pos (show 114 + p ≤ i ∧ i + 1 < 114 + (k + 1) by omega), if_neg c1]
            · rw [if_neg c4, if_neg c1, if_neg (by omega), if_neg (by omega)]
      rw [if_pos (nI_le (Nat.le_refl _) (by omega)), qk_b114, qk_i114, nI_add, qz_ifn (by omega) (by omega), nI_clamp (by omega), qw_wi]
      simp only [qk_am1, qk_a0, qk_a1, qk_a2, qk_a3, qk_a4, qk_a5, qk_b6, qk_b7, qk_b10, qk_b15, qk_b16, qk_b20, qk_b24, qk_b25, qk_b33, qk_b48, qk_b50, qk_b52, qk_b57, qk_b59, qk_b60, qk_b97, qk_b98, qk_b100, qk_b110, qk_b112, qk_b113, qk_b114, qk_b116, qk_b126, qk_c138, qk_c139, qk_c140, qk_c141, qk_c142, qk_c143, qk_c144, qk_c145, qk_c146, qk_c147, qk_c150, qk_c163, qk_c164, qk_c165, qk_c166, qk_c167, qk_c168, qk_c169, qk_c170, qk_c171, qk_c172, qk_c173, qk_c174, qk_c175, qk_c176, qk_c400, qk_c880, qk_c1000, qk_c1023, qw_s, qk_n0, qk_n1, qk_n2, qk_n3, qk_n4, qk_n5, qk_n6, qk_n7, qk_n10, qk_n15, qk_n16, qk_n20, qk_n24, qk_n25, qk_n33, qk_n48, qk_n50, qk_n52, qk_n57, qk_n59, qk_n60, qk_n97, qk_n98, qk_n100, qk_n110, qk_n112, qk_n113, qk_n114, qk_n116, qk_n126, qk_n138, qk_n139, qk_n140, qk_n141, qk_n142, qk_n143, qk_n144, qk_n145, qk_n146, qk_n147, qk_n150, qk_n163, qk_n164, qk_n165, qk_n166, qk_n167, qk_n168, qk_n169, qk_n170, qk_n171, qk_n172, qk_n173, qk_n174, qk_n175, qk_n176, qk_n400, qk_n880, qk_n1000, qk_n1023, qw_wi, e8]
      unfold qa_fX10_takeOut_145 qa_fX10_takeOut_146
      simp only [qk_am1, qk_a0, qk_a1, qk_a2, qk_a3, qk_a4, qk_a5, qk_b6, qk_b7, qk_b10, qk_b15, qk_b16, qk_b20, qk_b24, qk_b25, qk_b33, qk_b48, qk_b50, qk_b52, qk_b57, qk_b59, qk_b60, qk_b97, qk_b98, qk_b100, qk_b110, qk_b112, qk_b113, qk_b114, qk_b116, qk_b126, qk_c138, qk_c139, qk_c140, qk_c141, qk_c142, qk_c143, qk_c144, qk_c145, qk_c146, qk_c147, qk_c150, qk_c163, qk_c164, qk_c165, qk_c166, qk_c167, qk_c168, qk_c169, qk_c170, qk_c171, qk_c172, qk_c173, qk_c174, qk_c175, qk_c176, qk_c400, qk_c880, qk_c1000, qk_c1023, qk_in138, not_true, if_false, qk_n0, qk_n1, qk_n2, qk_n3, qk_n4, qk_n5, qk_n6, qk_n7, qk_n10, qk_n15, qk_n16, qk_n20, qk_n24, qk_n25, qk_n33, qk_n48, qk_n50, qk_n52, qk_n57, qk_n59, qk_n60, qk_n97, qk_n98, qk_n100, qk_n110, qk_n112, qk_n113, qk_n114, qk_n116, qk_n126, qk_n138, qk_n139, qk_n140, qk_n141, qk_n142, qk_n143, qk_n144, qk_n145, qk_n146, qk_n147, qk_n150, qk_n163, qk_n164, qk_n165, qk_n166, qk_n167, qk_n168, qk_n169, qk_n170, qk_n171, qk_n172, qk_n173, qk_n174, qk_n175, qk_n176, qk_n400, qk_n880, qk_n1000, qk_n1023, qw_wi, ef]
      have hip : qr_rp s p = upd (upd (fun i => if 114 + p ≤ i ∧ i + 1 < 114 + qn (s 113) then s (i + 1) else if i + 1 = 114 + qn (s 113) then 0 else s i) 113 (s 113 - 1)) 138 (s 138 - (if s 138 = -1 ∨ (s 138).toInt < (p : Int) then 0 else 1)) := rfl
      by_cases c1 : s 138 = -1
      · rw [if_pos (Or.inl c1)] at hip
        rw [if_pos c1, ← hip, rf_bg hA, Option.bind_some]
      · rw [if_neg c1]
        by_cases c2 : s 138 < nI p
        · have c3 : (s 138).toInt < (p : Int) := by
            rw [qz_lt, qz_nI (by omega)] at c2
            exact c2
          rw [if_pos (Or.inr c3)] at hip
          rw [if_pos c2, ← hip, rf_bg hA, Option.bind_some]
        · have c3 : ¬ (s 138).toInt < (p : Int) := by
            rw [qz_lt, qz_nI (by omega)] at c2
            exact c2
          rw [if_neg (fun t => t.elim c1 c3)] at hip
          rw [if_neg c2, ← hip, rf_bg hA, Option.bind_some]
    · have e1 : (114 : Int32) + nI k = nI (114 + k) := nI_add 114 _
      rw [if_neg (nI_ge (by omega) (by omega)), qk_b114, e1, qk_a1, nI_1, qz_ifn (by omega) (by omega), qz_ifn (by omega) (by omega), nI_clamp (by omega), nI_clamp (by omega), qw_wi]
      dsimp only
      rw [nI_1, ← ih (k + 1) (by omega) (by omega) (by omega)]
      congr 2
      funext i
      unfold qr_r1
      by_cases c1 : i = 114 + k
      · rw [qz_ue c1, if_neg (by omega), if_pos (by omega), c1]
      · rw [pk_un c1]
        by_cases c2 : 114 + p ≤ i ∧ i < 114 + k
        · rw [if_pos c2, if_pos (by omega)]
        · rw [if_neg c2, if_neg (by omega)]
end QRS
end
section
/-! what always holds, kept by each step (5): asking, the programme, slides, settings -/
section QRT
variable {s t : qs} {N : Nat}
/-- more different numbers than there are, there are not -/
theorem pg_h : ∀ (n m : Nat) (f : Nat → Nat), (∀ i, i < m → f i < n) → (∀ i j, i < j → j < m → ¬ f i = f j) → m ≤ n := by
  intro n
  induction n with
  | zero =>
    intro m f h1 h2
    cases m with
    | zero => exact Nat.le_refl _
    | succ m => have := h1 0 (by omega); omega
  | succ n ih =>
    intro m f h1 h2
    by_cases c : ∃ i, i < m ∧ f i = n
    · obtain ⟨i, hi, hf⟩ := c
      have h3 := ih (m - 1) (fun j => if j < i then f j else f (j + 1)) (fun j hj => by
        split
        · have := h1 j (by omega)
          have := h2 j i (by omega) hi
          omega
        · have := h1 (j + 1) (by omega)
          have := h2 i (j + 1) (by omega) (by omega)
          omega) (fun j k hj hk => by
        split
        · split
          · exact h2 j k hj (by omega)
          · exact h2 j (k + 1) (by omega) (by omega)
        · rw [if_neg (by omega)]
          exact h2 (j + 1) (k + 1) (by omega) (by omega))
      omega
    · have h3 := ih m f (fun i hi => by
        have := h1 i hi
        have : ¬ f i = n := fun e => c ⟨i, hi, e⟩
        omega) h2
      omega
theorem ca_s {a : Nat} (h : qi_A N s) (ha : a < qn (s 0)) (hc : qr_ca s a = true) : s (1 + 7 * a + 3) = 0 ∧ ¬ s 144 = nI a ∧ ¬ s 142 = nI a ∧ (∀ k : Nat, (k : Int) < (s 146).toInt → ¬ s (147 + k) = nI a) ∧ (s 146).toInt < 16 := by
  obtain ⟨hs, hp, hw, hl, hq, he, hct⟩ := h
  have hn := (qi_n hs).2
  have hi := qn_int hs.1
  unfold qr_ca at hc
  simp only [Bool.and_eq_true, Bool.not_eq_true', decide_eq_false_iff_not] at hc
  obtain ⟨⟨⟨c1, c2⟩, c3⟩, c4⟩ := hc
  have hq1 := qn_int hq.1
  have c5 : ∀ k : Nat, (k : Int) < (s 146).toInt → ¬ s (147 + k) = nI a := fun k hk => by
    refine qf_n s a (qn (s 146)) 0 ?_ k (by omega) (by omega)
    unfold qr_qp at c4
    cases e : qr_qf s a (qn (s 146)) 0 with
    | none => rfl
    | some p => rw [e] at c4; cases c4
  refine ⟨ld_0 hs (by omega) (by rw [c1]; decide), c2, c3, c5, ?_⟩
  have h1 := pg_h 16 (qn (s 146) + 1) (fun k => if k < qn (s 146) then qn (s (147 + k)) else a) (fun k hk => by
    split
    · have h2 := hq.2.2.1 k (by omega)
      have := qn_int h2.1
      omega
    · omega) (fun j k hj hk => by
    have h2 := hq.2.2.1 j (by omega)
    rw [if_pos (by omega)]
    split
    · have h3 := hq.2.2.1 k (by omega)
      intro e
      exact hq.2.2.2 j k hj (by omega) (by rw [qn_of h2.1, qn_of h3.1, e])
    · intro e
      exact c5 j (by omega) (by rw [qn_of h2.1, e]))
  omega
theorem aq_o {a i : Nat} (h : ¬ i = 146) (h2 : ¬ i = 147 + qn (s 146)) : qr_aq s a i = s i := by
  unfold qr_aq
  simp (disch := omega) only [pk_us, pk_un, qz_ue]
theorem aq_A {a : Nat} (h : qi_A N s) (ha : a < qn (s 0)) (hc : qr_ca s a = true) : qi_A N (qr_aq s a) := by
  obtain ⟨c1, c2, c3, c4, c5⟩ := ca_s h ha hc
  obtain ⟨hs, hp, hw, hl, hq, he, hct⟩ := h
  have hn := (qi_n hs).2
  have hi := qn_int hs.1
  have hq1 := qn_int hq.1
  have e6 : (qr_aq s a 146).toInt = (s 146).toInt + 1 := by
    unfold qr_aq
    rw [pk_us, qz_p1 (by omega)]
  have e7 : qr_aq s a (147 + qn (s 146)) = nI a := by
    unfold qr_aq
    simp (disch := omega) only [pk_us, pk_un, qz_ue]
  refine ⟨qq_sl hs fun i hi => aq_o (by omega) (by omega), qq_pr hp (aq_o (by omega) (by omega)) (fun i h1 h2 => aq_o (by omega) (by omega)), qq_sw hw (aq_o (by omega) (by omega)) (aq_o (by omega) (by omega)) (aq_o (by omega) (by omega)) (aq_o (by omega) (by omega)) (aq_o (by omega) (by omega)), qq_lx hl (aq_o (by omega) (by omega)) (aq_o (by omega) (by omega)) (aq_o (by omega) (by omega)) (aq_o (by omega) (by omega)) (fun k hk => aq_o (by omega) (by omega)), ?_, qq_se he (fun i h1 h2 => aq_o (by omega) (by omega)), qq_ct hct (aq_o (by omega) (by omega)) (aq_o (by omega) (by omega)) (aq_o (by omega) (by omega))⟩
  unfold qi_qu
  rw [e6, aq_o (i := 142) (by omega) (by omega), aq_o (i := 144) (by omega) (by omega), aq_o (i := 0) (by omega) (by omega)]
  refine ⟨by omega, by omega, fun k hk => ?_, fun j k hj hk => ?_⟩
  · by_cases e : k = qn (s 146)
    · subst e
      rw [e7, qn_nI (by omega), qz_nI (by omega), aq_o (by omega) (by omega)]
      exact ⟨by omega, by omega, fun t => c3 t.symm, fun t => c2 t.symm, c1⟩
    · obtain ⟨r1, r2, r3, r4, r5⟩ := hq.2.2.1 k (by omega)
      have r6 := qn_int r1
      rw [aq_o (i := 147 + k) (by omega) (by omega), aq_o (by omega) (by omega)]
      exact ⟨r1, r2, r3, r4, r5⟩
  · rw [aq_o (i := 147 + j) (by omega) (by omega)]
    by_cases e : k = qn (s 146)
    · subst e
      rw [e7]
      exact c4 j (by omega)
    · rw [aq_o (i := 147 + k) (by omega) (by omega)]
      exact hq.2.2.2 j k hj (by omega)
theorem ip_o {p a i : Nat} (hp : p ≤ qn (s 113)) (h2 : i < 113 ∨ 138 < i) (hc : qn (s 113) < 24) : qr_ip s p a i = s i := by
  unfold qr_ip
  rw [pk_un (by omega), pk_un (by omega), if_neg (by omega), if_neg (by omega)]
theorem ip_A {p a : Nat} (h : qi_A N s) (ha : a < qn (s 0)) (hp0 : (p : Int) ≤ (s 113).toInt) (hc : (s 113).toInt < 24) : qi_A N (qr_ip s p a) := by
  obtain ⟨hs, hp, hw, hl, hq, he, hct⟩ := h
  have hn := (qi_n hs).2
  have hi := qn_int hs.1
  have hp1 := qn_int hp.1
  have o : ∀ i, i < 113 ∨ 138 < i → qr_ip s p a i = s i := fun i h2 => ip_o (by omega) h2 (by omega)
  refine ⟨qq_sl hs fun i hi => o i (by omega), ?_, qq_sw hw (o _ (by omega)) (o _ (by omega)) (o _ (by omega)) (o _ (by omega)) (o _ (by omega)), qq_lx hl (o _ (by omega)) (o _ (by omega)) (o _ (by omega)) (o _ (by omega)) (fun k hk => o _ (by omega)), qq_qu hs hq (o _ (by omega)) (o _ (by omega)) (o _ (by omega)) (fun i h1 h2 => o _ (by omega)) (fun k hk => o _ (by omega)), qq_se he (fun i h1 h2 => o _ (by omega)), qq_ct hct (o _ (by omega)) (o _ (by omega)) (o _ (by omega))⟩
  obtain ⟨p1, p2, p3, p4, p5⟩ := hp
  have e3 : (qr_ip s p a 113).toInt = (s 113).toInt + 1 := by
    unfold qr_ip
    rw [pk_un (by omega), pk_us, qz_p1 (by omega)]
  have e8 : qr_ip s p a 138 = s 138 + (if s 138 = -1 ∨ (s 138).toInt < (p : Int) then 0 else 1) := by
    unfold qr_ip
    rw [pk_us]
  unfold qi_pr
  rw [e3, e8, o 0 (by omega)]
  refine ⟨by omega, by omega, ?_, ?_, fun k hk => ?_⟩
  · split
    · rw [Int32.add_zero]; exact p3
    · rw [qz_p1 (by omega)]; omega
  · split
    · rw [Int32.add_zero]; omega
    · rw [qz_p1 (by omega)]; omega
  · have e : qr_ip s p a (114 + k) = if k = p then nI a else if p < k then s (114 + (k - 1)) else s (114 + k) := by
      unfold qr_ip
      rw [pk_un (by omega), pk_un (by omega)]
      by_cases c1 : k = p
      · rw [if_pos (by omega), if_pos c1]
      · rw [if_neg (by omega), if_neg c1]
        by_cases c2 : p < k
        · rw [if_pos (by omega), if_pos c2, show 114 + k - 1 = 114 + (k - 1) by omega]
        · rw [if_neg (by omega), if_neg c2]
    rw [e]
    split
    · rw [qz_nI (by omega)]; omega
    · split
      · exact p5 (k - 1) (by omega)
      · exact p5 k (by omega)
theorem rp_o {p i : Nat} (h2 : i < 113 ∨ 138 < i) (hc : qn (s 113) ≤ 24) : qr_rp s p i = s i := by
  unfold qr_rp
  rw [pk_un (by omega), pk_un (by omega), if_neg (by omega), if_neg (by omega)]
theorem rp_A {p : Nat} (h : qi_A N s) (hp0 : (p : Int) < (s 113).toInt) : qi_A N (qr_rp s p) := by
  obtain ⟨hs, hp, hw, hl, hq, he, hct⟩ := h
  have hn := (qi_n hs).2
  have hi := qn_int hs.1
  have hp1 := qn_int hp.1
  have hp2 := (qi_p hp).2
  have o : ∀ i, i < 113 ∨ 138 < i → qr_rp s p i = s i := fun i h2 => rp_o h2 (by omega)
  refine ⟨qq_sl hs fun i hi => o i (by omega), ?_, qq_sw hw (o _ (by omega)) (o _ (by omega)) (o _ (by omega)) (o _ (by omega)) (o _ (by omega)), qq_lx hl (o _ (by omega)) (o _ (by omega)) (o _ (by omega)) (o _ (by omega)) (fun k hk => o _ (by omega)), qq_qu hs hq (o _ (by omega)) (o _ (by omega)) (o _ (by omega)) (fun i h1 h2 => o _ (by omega)) (fun k hk => o _ (by omega)), qq_se he (fun i h1 h2 => o _ (by omega)), qq_ct hct (o _ (by omega)) (o _ (by omega)) (o _ (by omega))⟩
  obtain ⟨p1, p2, p3, p4, p5⟩ := hp
  have e3 : (qr_rp s p 113).toInt = (s 113).toInt - 1 := by
    unfold qr_rp
    rw [pk_un (by omega), pk_us, qz_s1 (by omega)]
  have e8 : qr_rp s p 138 = s 138 - (if s 138 = -1 ∨ (s 138).toInt < (p : Int) then 0 else 1) := by
    unfold qr_rp
    rw [pk_us]
  unfold qi_pr
  rw [e3, e8, o 0 (by omega)]
  refine ⟨by omega, by omega, ?_, ?_, fun k hk => ?_⟩
  · split
    · rw [Int32.sub_zero]; exact p3
    · next c =>
      have c1 : ¬ (s 138).toInt = -1 := fun t => c (Or.inl (qz_m1.mpr t))
      rw [qz_s1 (by omega)]; omega
  · split
    · next c =>
      rw [Int32.sub_zero]
      rcases c with c | c
      · rw [qz_m1] at c; omega
      · omega
    · rw [qz_s1 (by omega)]; omega
  · have e : qr_rp s p (114 + k) = if p ≤ k then s (114 + (k + 1)) else s (114 + k) := by
      unfold qr_rp
      rw [pk_un (by omega), pk_un (by omega)]
      by_cases c1 : p ≤ k
      · rw [if_pos (by omega), if_pos c1]; rfl
      · rw [if_neg (by omega), if_neg (by omega), if_neg c1]
    rw [e]
    split
    · exact p5 (k + 1) (by omega)
    · exact p5 k (by omega)
theorem tm_o {i0 : Nat} (h : qi_I N s) (hA : qi_A N t) (e : ∀ i, (i < 113 ∨ i = 144 ∨ i = 163) → t i = s i) : qi_I N t := by
  have hn := (qi_n h.1.1).2
  refine ⟨hA, ?_⟩
  unfold qi_tm
  rw [ta_q (s := s) (e 0 (by omega)) (e 144 (by omega)) (fun k hk => ⟨e _ (by omega), e _ (by omega)⟩), e 163 (by omega)]
  exact h.2
theorem aq_I {a : Nat} (h : qi_I N s) (ha : a < qn (s 0)) (hc : qr_ca s a = true) : qi_I N (qr_aq s a) := by
  have h5 := (ca_s h.1 ha hc).2.2.2.2
  have h6 := qn_int h.1.2.2.2.2.1.1
  exact tm_o (i0 := 0) h (aq_A h.1 ha hc) (fun i hi => aq_o (by omega) (by omega))
theorem ip_I {p a : Nat} (h : qi_I N s) (ha : a < qn (s 0)) (hp0 : (p : Int) ≤ (s 113).toInt) (hc : (s 113).toInt < 24) : qi_I N (qr_ip s p a) := by
  have hp1 := qn_int h.1.2.1.1
  exact tm_o (i0 := 0) h (ip_A h.1 ha hp0 hc) (fun i hi => ip_o (by omega) (by omega) (by omega))
theorem rp_I {p : Nat} (h : qi_I N s) (hp0 : (p : Int) < (s 113).toInt) : qi_I N (qr_rp s p) := by
  have hp2 := (qi_p h.1.2.1).2
  exact tm_o (i0 := 0) h (rp_A h.1 hp0) (fun i hi => rp_o (by omega) (by omega))
theorem bu_I {a : Nat} (h : qi_I N s) (ha : a < qn (s 0)) (hc : qr_cb s a = true) : qi_I N (qr_bu s a) := by
  obtain ⟨hA, ht⟩ := h
  have hn := (qi_n hA.1).2
  have hi := qn_int hA.1.1
  refine ⟨bu_A hA (by omega), ?_⟩
  unfold qr_cb at hc
  rw [Bool.and_eq_true] at hc
  have h4 : ¬ s 144 = nI a := fun t => by
    have h5 := hA.2.2.2.1.2.2.2.2.2 a (by omega) (Or.inr (by rw [t, qz_nI (by omega)]))
    have h6 := hc.1
    unfold qr_ld at h6
    rw [h5] at h6
    exact absurd (of_decide_eq_true h6) (by decide)
  have h7 := (hA.1.2.2 a (by omega)).2.2.2.2.1 (by omega)
  unfold qi_tm at ht ⊢
  rw [bu_ta hA.1 hA.2.2.2.2.2.1 ha hc.1 h4, bu_o (by omega) (by omega)]
  omega
theorem as_o {c l f : Int32} {i : Nat} (h : ¬ i = 0) (h1 : ¬ i = 1 + 7 * qn (s 0)) (h2 : ¬ i = 1 + 7 * qn (s 0) + 1) (h3 : ¬ i = 1 + 7 * qn (s 0) + 2) : qr_as s c l f i = s i := by
  unfold qr_as
  simp (disch := omega) only [pk_us, pk_un, qz_ue]
theorem as_ta {c l f : Int32} (hs : qi_sl s) (hn : (s 0).toInt < 16) (h4 : (s 144).toInt < (s 0).toInt) : qr_ta (qr_as s c l f) = qr_ta s := by
  have hi := qn_int hs.1
  have h2 : (qr_as s c l f 0).toInt = (s 0).toInt + 1 := by
    unfold qr_as
    rw [pk_un (by omega), pk_un (by omega), pk_un (by omega), pk_us, qz_p1 (by omega)]
  have e2 : qn (qr_as s c l f 0) = qn (s 0) + 1 := by
    unfold qn
    omega
  have e3 : ∀ k, qr_as s c l f (1 + 7 * k + 3) = s (1 + 7 * k + 3) := fun k => as_o (by omega) (by omega) (by omega) (by omega)
  have h1 : qr_tf (qr_as s c l f) (qn (s 0)) = 0 := by
    unfold qr_tf qr_ld
    rw [e3, as_o (i := 144) (by omega) (by omega) (by omega) (by omega), (hs.2.2 (qn (s 0)) (by omega)).2.2.2.2.2 (by omega), if_neg ?_]
    rintro (c | c)
    · exact absurd (of_decide_eq_true c) (by decide)
    · rw [c, qz_nI (by omega)] at h4
      omega
  have h : ∀ k : Nat, k ≤ qn (s 0) → qr_tk (qr_as s c l f) k = qr_tk s k := by
    intro k
    induction k with
    | zero => intro _; rfl
    | succ k ih =>
      intro hk
      unfold qr_tk
      rw [ih (by omega)]
      unfold qr_tf qr_ld
      rw [e3 k, as_o (i := 1 + 7 * k) (by omega) (by omega) (by omega) (by omega), as_o (i := 144) (by omega) (by omega) (by omega) (by omega)]
  unfold qr_ta
  rw [e2, show qr_tk (qr_as s c l f) (qn (s 0) + 1) = qr_tk (qr_as s c l f) (qn (s 0)) + qr_tf (qr_as s c l f) (qn (s 0)) from rfl, h1, Int32.add_zero]
  exact h _ (Nat.le_refl _)
theorem as_I {c l f : Int32} (h : qi_I N s) (hn : (s 0).toInt < 16) (hc : 1 ≤ c.toInt ∧ c.toInt ≤ 50) (hl0 : 1 ≤ l.toInt ∧ l.toInt ≤ 20) (hf : 0 ≤ f.toInt ∧ f.toInt ≤ 10) : qi_I N (qr_as s c l f) := by
  have h' := h
  obtain ⟨⟨hs, hp, hw, hl, hq, he, hct⟩, ht⟩ := h
  have hi := qn_int hs.1
  have e0 : (qr_as s c l f 0).toInt = (s 0).toInt + 1 := by
    unfold qr_as
    rw [pk_un (by omega), pk_un (by omega), pk_un (by omega), pk_us, qz_p1 (by omega)]
  have e3 : ∀ k, qr_as s c l f (1 + 7 * k + 3) = s (1 + 7 * k + 3) := fun k => as_o (by omega) (by omega) (by omega) (by omega)
  have o : ∀ i, 113 ≤ i → qr_as s c l f i = s i := fun i hi => as_o (by omega) (by omega) (by omega) (by omega)
  have ec : ∀ k, k < qn (s 0) → qr_as s c l f (1 + 7 * k) = s (1 + 7 * k) := fun k hk => as_o (by omega) (by omega) (by omega) (by omega)
  refine ⟨⟨?_, ?_, ?_, ?_, ?_, qq_se he (fun i h1 h2 => o _ (by omega)), qq_ct hct (o _ (by omega)) (o _ (by omega)) (o _ (by omega))⟩, ?_⟩
  · unfold qi_sl
    rw [e0]
    refine ⟨by omega, by omega, fun k hk => ?_⟩
    obtain ⟨c1, c2, c3, c4, c5, c6⟩ := hs.2.2 k hk
    rw [e3 k, as_o (i := 1 + 7 * k + 4) (by omega) (by omega) (by omega) (by omega), as_o (i := 1 + 7 * k + 6) (by omega) (by omega) (by omega) (by omega)]
    refine ⟨c1, c2, c3, c4, fun hkn => ?_, fun hkn => c6 (by omega)⟩
    by_cases e : k = qn (s 0)
    · subst e
      unfold qr_as
      simp (disch := omega) only [pk_us, pk_un, qz_ue]
      omega
    · rw [ec k (by omega), as_o (i := 1 + 7 * k + 1) (by omega) (by omega) (by omega) (by omega), as_o (i := 1 + 7 * k + 2) (by omega) (by omega) (by omega) (by omega)]
      exact c5 (by omega)
  · obtain ⟨p1, p2, p3, p4, p5⟩ := hp
    unfold qi_pr
    rw [e0, o 113 (by omega), o 138 (by omega)]
    refine ⟨p1, p2, p3, p4, fun k hk => ?_⟩
    rw [o (114 + k) (by omega)]
    have := p5 k hk
    omega
  · unfold qi_sw at hw ⊢
    rw [e0, o 139 (by omega), o 140 (by omega), o 141 (by omega), o 143 (by omega)]
    obtain ⟨w1, w2, w3, w4, w5, w6, w7, w8⟩ := hw
    exact ⟨w1, by omega, w3, by omega, w5, w6, w7, w8⟩
  · obtain ⟨l1, l2, l3, l4, l5, l6⟩ := hl
    unfold qi_lo qi_lx
    rw [e0, o 142 (by omega), o 144 (by omega), o 145 (by omega)]
    refine ⟨l1, by omega, l3, by omega, l5, fun k hk hh => ?_⟩
    rw [e3 k]
    exact l6 k hk hh
  · obtain ⟨q1, q2, q3, q4⟩ := hq
    unfold qi_qu
    rw [e0, o 142 (by omega), o 144 (by omega), o 146 (by omega)]
    refine ⟨q1, q2, fun k hk => ?_, fun j k hj hk => ?_⟩
    · obtain ⟨r1, r2, r3, r4, r5⟩ := q3 k hk
      rw [o (147 + k) (by omega), e3]
      exact ⟨r1, by omega, r3, r4, r5⟩
    · rw [o (147 + k) (by omega), o (147 + j) (by omega)]
      exact q4 j k hj hk
  · have e1 : qr_ta (qr_as s c l f) = qr_ta s := as_ta hs hn hl.2.2.2.1
    unfold qi_tm
    rw [e1, o 163 (by omega)]
    exact ht
/-- a new slide begins no loading -/
theorem as_st {c l f : Int32} (h : qi_I N s) (hst : qi_st s) (hn : (s 0).toInt < 16) (hI : qi_I N (qr_as s c l f)) : qr_bg (qr_as s c l f) = qr_as s c l f ∧ qi_st (qr_as s c l f) := by
  obtain ⟨⟨hs, hp, hw, hl, hq, he, hct⟩, ht⟩ := h
  have hi := qn_int hs.1
  have o : ∀ i, 113 ≤ i → qr_as s c l f i = s i := fun i hi => as_o (by omega) (by omega) (by omega) (by omega)
  have e3 : ∀ k, qr_as s c l f (1 + 7 * k + 3) = s (1 + 7 * k + 3) := fun k => as_o (by omega) (by omega) (by omega) (by omega)
  have ep : qe_p s (qr_as s c l f) := ⟨o _ (by omega), o _ (by omega), fun k hk => o _ (by omega)⟩
  have key : s 144 = -1 → qr_b3 (qr_as s c l f) = qr_as s c l f := by
    intro h4
    obtain ⟨s1, s2, s3⟩ := hst h4
    have eg : qr_gd (qr_as s c l f) = qr_gd s := by
      unfold qr_gd
      rw [o 113 (by omega), o 164 (by omega)]
      by_cases c0 : qn (s 113) = 0
      · rw [if_pos c0, if_pos c0]
      · rw [if_neg c0, if_neg c0]
        have h1 := qn_int hp.1
        have : ∀ m k : Nat, qr_gf (qr_as s c l f) m k = qr_gf s m k := by
          intro m
          induction m with
          | zero => intro k; rfl
          | succ m ih =>
            intro k
            unfold qr_gf
            rw [qe_sa hp (by omega) ep, ih]
            unfold qr_ld
            rw [e3]
        exact this _ _
    unfold qr_b3 at s3 ⊢
    rw [eg]
    cases eg2 : qr_gd s with
    | none => rfl
    | some a =>
      obtain ⟨g1, g2, g3⟩ := gd_s hp hs eg2
      have e5 : qr_ta (qr_as s c l f) = qr_ta s := as_ta hs hn hl.2.2.2.1
      have e6 : qr_ft (qr_as s c l f (1 + 7 * a)).toInt (qr_as s c l f) = qr_ft (s (1 + 7 * a)).toInt s := by
        unfold qr_ft
        rw [e5, o 163 (by omega), as_o (i := 1 + 7 * a) (by omega) (by omega) (by omega) (by omega)]
      dsimp only
      rw [e6]
      by_cases c4 : qr_ft (s (1 + 7 * a)).toInt s = true
      · rw [eg2] at s3
        dsimp only at s3
        rw [if_pos c4] at s3
        have hA : qi_A N s := ⟨hs, hp, hw, hl, hq, he, hct⟩
        have := (st_A hA g1 h4 g2 (fun k hk => by have := qn_int hq.1; omega)).2
        rw [s3, h4] at this
        exact absurd this.symm (qr_nI_m (by omega))
      · rw [if_neg c4]
  constructor
  · unfold qr_bg
    rw [o 144 (by omega), o 142 (by omega), o 146 (by omega)]
    by_cases h4 : s 144 = -1
    · obtain ⟨s1, s2, s3⟩ := hst h4
      rw [if_neg (not_not_intro h4), if_neg (not_not_intro s1), if_pos s2]
      exact key h4
    · rw [if_pos h4]
  · intro h4
    rw [o 144 (by omega)] at h4
    rw [o 142 (by omega), o 146 (by omega)]
    obtain ⟨s1, s2, s3⟩ := hst h4
    exact ⟨s1, s2, key h4⟩
/-- settings -/
theorem se_A {i : Nat} {v : Int32} (h : qi_A N s) (hi : 163 ≤ i) (hi2 : i ≤ 167) (he : qi_se (upd s i v)) : qi_A N (upd s i v) := by
  obtain ⟨hs, hp, hw, hl, hq, _, hct⟩ := h
  exact ⟨qq_sl hs fun i hi => pk_un (by omega), qq_pr hp (pk_un (by omega)) (fun i h1 h2 => pk_un (by omega)), qq_sw hw (pk_un (by omega)) (pk_un (by omega)) (pk_un (by omega)) (pk_un (by omega)) (pk_un (by omega)), qq_lx hl (pk_un (by omega)) (pk_un (by omega)) (pk_un (by omega)) (pk_un (by omega)) (fun k hk => pk_un (by omega)), qq_qu hs hq (pk_un (by omega)) (pk_un (by omega)) (pk_un (by omega)) (fun i h1 h2 => pk_un (by omega)) (fun k hk => pk_un (by omega)), he, qq_ct hct (pk_un (by omega)) (pk_un (by omega)) (pk_un (by omega))⟩
theorem se_I {i : Nat} {v : Int32} (h : qi_I N s) (hi : 164 ≤ i) (hi2 : i ≤ 167) (he : qi_se (upd s i v)) : qi_I N (upd s i v) :=
  tm_o (i0 := 0) h (se_A h.1 (by omega) hi2 he) (fun j hj => pk_un (by omega))
theorem mr_0 (h : qi_I N s) : qr_mr 0 s = (0, s) := by
  have h1 : qr_ft 0 s = true := by
    unfold qr_ft
    refine decide_eq_true ?_
    have := h.2
    unfold qi_tm at this
    omega
  unfold qr_mr
  cases qr_ln s with
  | nil => rfl
  | cons a l =>
    unfold qr_rm
    rw [if_pos h1]
theorem mr_I (h : qi_A N s) : qi_I N (qr_mr 0 s).2 := by
  refine ⟨mr_A h, ?_⟩
  have h1 := mr_ok (m := 0) h (by have := h.2.2.2.2.2.1.1; split <;> omega)
  unfold qr_ft at h1
  have := of_decide_eq_true h1
  unfold qi_tm
  omega
end QRT
end
section
/-! the class's cells of one region, against the row of numbers -/
section QCA
variable {σ σ' : qa_T} {s t : qs} {R N : Nat}
def qx (i : Nat) : Nat × Nat := if i = 0 then (1, 0) else if i < 113 then (2 + (i - 1) % 7, (i - 1) / 7) else if i = 113 then (9, 0) else if i < 138 then (10, i - 114) else if i = 138 then (9, 1) else if i = 139 then (11, 0) else if i = 140 then (11, 2) else if i = 141 then (11, 3) else if i = 142 then (11, 4) else if i = 143 then (11, 1) else if i = 144 then (12, 0) else if i = 145 then (12, 1) else if i = 146 then (12, 2) else if i < 163 then (13, i - 147) else if i < 168 then (14, i - 163) else if i < 175 then (15, i - 168) else (1, 8)
def qy (j f : Nat) : Nat := if j = 1 then (if f = 0 then 0 else 175) else if j = 9 then (if f = 0 then 113 else 138) else if j = 10 then 114 + f else if j = 11 then (if f = 0 then 139 else if f = 1 then 143 else 138 + f) else if j = 12 then 144 + f else if j = 13 then 147 + f else if j = 14 then 163 + f else if j = 15 then 168 + f else 1 + 7 * f + (j - 2)
theorem qx_sl {k w : Nat} (hk : k < 16) (hw : w < 7) : qx (1 + 7 * k + w) = (2 + w, k) := by
  unfold qx
  rw [if_neg (by omega), if_pos (by omega)]
  refine Prod.ext ?_ ?_ <;> dsimp only <;> omega
theorem qx_pr {k : Nat} (hk : k < 24) : qx (114 + k) = (10, k) := by
  unfold qx
  rw [if_neg (by omega), if_neg (by omega), if_neg (by omega), if_pos (by omega)]
  refine Prod.ext rfl ?_
  dsimp only
  omega
theorem qx_qu {k : Nat} (hk : k < 16) : qx (147 + k) = (13, k) := by
  unfold qx
  rw [if_neg (by omega), if_neg (by omega), if_neg (by omega), if_neg (by omega), if_neg (by omega), if_neg (by omega), if_neg (by omega), if_neg (by omega), if_neg (by omega), if_neg (by omega), if_neg (by omega), if_neg (by omega), if_neg (by omega), if_pos (by omega)]
  refine Prod.ext rfl ?_
  dsimp only
  omega
theorem qy_qx {i : Nat} (h : i < 176) : qy (qx i).1 (qx i).2 = i ∧ (qx i).1 < 16 ∧ ((qx i).1 = 12 → (qx i).2 < 3) := by
  have hc : (1 ≤ i ∧ i < 113) ∨ (114 ≤ i ∧ i < 138) ∨ (147 ≤ i ∧ i < 163) ∨ i = 0 ∨ i = 113 ∨ i = 138 ∨ i = 139 ∨ i = 140 ∨ i = 141 ∨ i = 142 ∨ i = 143 ∨ i = 144 ∨ i = 145 ∨ i = 146 ∨ i = 163 ∨ i = 164 ∨ i = 165 ∨ i = 166 ∨ i = 167 ∨ i = 168 ∨ i = 169 ∨ i = 170 ∨ i = 171 ∨ i = 172 ∨ i = 173 ∨ i = 174 ∨ i = 175 := by omega
  rcases hc with h1 | h1 | h1 | h1 | h1 | h1 | h1 | h1 | h1 | h1 | h1 | h1 | h1 | h1 | h1 | h1 | h1 | h1 | h1 | h1 | h1 | h1 | h1 | h1 | h1 | h1 | h1
  · have e : i = 1 + 7 * ((i - 1) / 7) + (i - 1) % 7 := by omega
    have e2 := qx_sl (k := (i - 1) / 7) (w := (i - 1) % 7) (by omega) (by omega)
    rw [← e] at e2
    rw [e2]
    unfold qy
    dsimp only
    rw [if_neg (by omega), if_neg (by omega), if_neg (by omega), if_neg (by omega), if_neg (by omega), if_neg (by omega), if_neg (by omega), if_neg (by omega)]
    omega
  · have e2 := qx_pr (k := i - 114) (by omega)
    rw [show 114 + (i - 114) = i by omega] at e2
    rw [e2]
    refine ⟨?_, show 10 < 16 by decide, fun t => absurd (show 10 = 12 from t) (by decide)⟩
    show 114 + (i - 114) = i
    omega
  · have e2 := qx_qu (k := i - 147) (by omega)
    rw [show 147 + (i - 147) = i by omega] at e2
    rw [e2]
    refine ⟨?_, show 13 < 16 by decide, fun t => absurd (show 13 = 12 from t) (by decide)⟩
    show 147 + (i - 147) = i
    omega
  · subst h1; exact ⟨rfl, by decide, by decide⟩
  · subst h1; exact ⟨rfl, by decide, by decide⟩
  · subst h1; exact ⟨rfl, by decide, by decide⟩
  · subst h1; exact ⟨rfl, by decide, by decide⟩
  · subst h1; exact ⟨rfl, by decide, by decide⟩
  · subst h1; exact ⟨rfl, by decide, by decide⟩
  · subst h1; exact ⟨rfl, by decide, by decide⟩
  · subst h1; exact ⟨rfl, by decide, by decide⟩
  · subst h1; exact ⟨rfl, by decide, by decide⟩
  · subst h1; exact ⟨rfl, by decide, by decide⟩
  · subst h1; exact ⟨rfl, by decide, by decide⟩
  · subst h1; exact ⟨rfl, by decide, by decide⟩
  · subst h1; exact ⟨rfl, by decide, by decide⟩
  · subst h1; exact ⟨rfl, by decide, by decide⟩
  · subst h1; exact ⟨rfl, by decide, by decide⟩
  · subst h1; exact ⟨rfl, by decide, by decide⟩
  · subst h1; exact ⟨rfl, by decide, by decide⟩
  · subst h1; exact ⟨rfl, by decide, by decide⟩
  · subst h1; exact ⟨rfl, by decide, by decide⟩
  · subst h1; exact ⟨rfl, by decide, by decide⟩
  · subst h1; exact ⟨rfl, by decide, by decide⟩
  · subst h1; exact ⟨rfl, by decide, by decide⟩
  · subst h1; exact ⟨rfl, by decide, by decide⟩
  · subst h1; exact ⟨rfl, by decide, by decide⟩
theorem qx_inj {i j : Nat} (hi : i < 176) (hj : j < 176) (h1 : (qx i).1 = (qx j).1) (h2 : (qx i).2 = (qx j).2) : i = j := by
  have h3 := (qy_qx hi).1
  have h4 := (qy_qx hj).1
  rw [h1, h2] at h3
  omega
/-- the places that count -/
def qe_L (s : qs) (i : Nat) : Prop := (114 ≤ i → i < 138 → i < 114 + qn (s 113)) ∧ (147 ≤ i → i < 163 → i < 147 + qn (s 146))
def qe_A (R : Nat) (σ : qa_T) (s : qs) : Prop := ∀ i, i < 176 → qe_L s i → σ.1 (R, (qx i).1) (qx i).2 = s i
def qe_R (R : Nat) (σ : qa_T) (s : qs) : Prop := qe_A R σ s ∧ σ.1 (R, 12) 4 = qr_ta s
/-- what is outside of the region stays -/
def qe_F (R : Nat) (σ σ' : qa_T) : Prop := (∀ p : qa_P, (¬ p.1 = R ∨ 18 ≤ p.2) → σ'.1 p = σ.1 p) ∧ σ'.2 = σ.2
theorem qe_Fr : qe_F R σ σ := ⟨fun _ _ => rfl, rfl⟩
theorem qe_Ft {σ'' : qa_T} (h1 : qe_F R σ σ') (h2 : qe_F R σ' σ'') : qe_F R σ σ'' := ⟨fun p hp => (h2.1 p hp).trans (h1.1 p hp), h2.2.trans h1.2⟩
theorem qe_Fw {j i : Nat} {v : Int32} (hj : j < 18) : qe_F R σ (qa_wi σ (R, j) i v) := by
  refine ⟨fun p hp => ?_, rfl⟩
  unfold qa_wi
  dsimp only
  rw [if_neg (fun e => by subst e; dsimp only at hp; omega)]
theorem wi_eq {p : qa_P} {i : Nat} {v : Int32} : (qa_wi σ p i v).1 p i = v := by
  unfold qa_wi
  dsimp only
  rw [if_pos rfl, pk_us]
theorem wi_np {p q : qa_P} {i : Nat} {v : Int32} (h : ¬ q = p) : (qa_wi σ p i v).1 q = σ.1 q := by
  unfold qa_wi
  dsimp only
  rw [if_neg h]
theorem wi_ni {p q : qa_P} {i j : Nat} {v : Int32} (h : ¬ j = i) : (qa_wi σ p i v).1 q j = σ.1 q j := by
  unfold qa_wi
  dsimp only
  by_cases e : q = p
  · rw [if_pos e, pk_un h]
  · rw [if_neg e]
/-- a write that counts -/
theorem ra_w {i : Nat} {v : Int32} {p : qa_P} {f : Nat} (h : qe_A R σ s) (hi : i < 176) (h3 : ¬ i = 113) (h6 : ¬ i = 146) (hp : p = (R, (qx i).1)) (hf : f = (qx i).2) : qe_A R (qa_wi σ p f v) (upd s i v) := by
  subst hp
  subst hf
  intro j hj hl
  by_cases e : j = i
  · subst e
    rw [wi_eq, pk_us]
  · have hl2 : qe_L s j := by
      unfold qe_L at hl ⊢
      rw [pk_un (fun t => h3 t.symm), pk_un (fun t => h6 t.symm)] at hl
      exact hl
    rw [pk_un e, ← h j hj hl2]
    by_cases e2 : (qx j).1 = (qx i).1
    · rw [wi_ni (fun e3 => e (qx_inj hj hi e2 e3))]
    · rw [wi_np (fun e3 => e2 (congrArg Prod.snd e3))]
/-- a write that does not -/
theorem ra_o {p : qa_P} {i : Nat} {v : Int32} (h : qe_A R σ s) (hp : ¬ p.1 = R ∨ 16 ≤ p.2 ∨ (p.2 = 12 ∧ 3 ≤ i)) : qe_A R (qa_wi σ p i v) s := by
  intro j hj hl
  rw [← h j hj hl]
  obtain ⟨h1, h2, h3⟩ := qy_qx hj
  by_cases e : (R, (qx j).1) = p
  · subst e
    dsimp only at hp
    rw [wi_ni (by omega)]
  · rw [wi_np e]
theorem ra_F {R2 : Nat} (h : qe_A R σ s) (hF : qe_F R2 σ σ') (hR : ¬ R = R2) : qe_A R σ' s := by
  intro j hj hl
  rw [hF.1 _ (Or.inl hR)]
  exact h j hj hl
theorem rr_F {R2 : Nat} (h : qe_R R σ s) (hF : qe_F R2 σ σ') (hR : ¬ R = R2) : qe_R R σ' s := ⟨ra_F h.1 hF hR, by rw [hF.1 _ (Or.inl hR)]; exact h.2⟩
theorem ra_n0 (h : qe_A R σ s) : σ.1 (R, 1) 0 = s 0 := h 0 (by omega) ⟨by omega, by omega⟩
theorem ra_sl {k w : Nat} (h : qe_A R σ s) (hk : k < 16) (hw : w < 7) : σ.1 (R, 2 + w) k = s (1 + 7 * k + w) := by
  have h1 := h (1 + 7 * k + w) (by omega) ⟨by omega, by omega⟩
  rw [qx_sl hk hw] at h1
  exact h1
theorem ra_c {k : Nat} (h : qe_A R σ s) (hk : k < 16) : σ.1 (R, 2) k = s (1 + 7 * k) := ra_sl (w := 0) h hk (by omega)
theorem ra_l {k : Nat} (h : qe_A R σ s) (hk : k < 16) : σ.1 (R, 3) k = s (1 + 7 * k + 1) := ra_sl (w := 1) h hk (by omega)
theorem ra_f {k : Nat} (h : qe_A R σ s) (hk : k < 16) : σ.1 (R, 4) k = s (1 + 7 * k + 2) := ra_sl (w := 2) h hk (by omega)
theorem ra_i {k : Nat} (h : qe_A R σ s) (hk : k < 16) : σ.1 (R, 5) k = s (1 + 7 * k + 3) := ra_sl (w := 3) h hk (by omega)
theorem ra_e {k : Nat} (h : qe_A R σ s) (hk : k < 16) : σ.1 (R, 6) k = s (1 + 7 * k + 4) := ra_sl (w := 4) h hk (by omega)
theorem ra_b {k : Nat} (h : qe_A R σ s) (hk : k < 16) : σ.1 (R, 7) k = s (1 + 7 * k + 5) := ra_sl (w := 5) h hk (by omega)
theorem ra_u {k : Nat} (h : qe_A R σ s) (hk : k < 16) : σ.1 (R, 8) k = s (1 + 7 * k + 6) := ra_sl (w := 6) h hk (by omega)
theorem ra_p {k : Nat} (h : qe_A R σ s) (hk : k < qn (s 113)) (hk2 : k < 24) : σ.1 (R, 10) k = s (114 + k) := by
  have h1 := h (114 + k) (by omega) ⟨by omega, by omega⟩
  rw [qx_pr hk2] at h1
  exact h1
theorem ra_q {k : Nat} (h : qe_A R σ s) (hk : k < qn (s 146)) (hk2 : k < 16) : σ.1 (R, 13) k = s (147 + k) := by
  have h1 := h (147 + k) (by omega) ⟨by omega, by omega⟩
  rw [qx_qu hk2] at h1
  exact h1
theorem ra_113 (h : qe_A R σ s) : σ.1 (R, 9) 0 = s 113 := h 113 (by omega) ⟨by omega, by omega⟩
theorem ra_138 (h : qe_A R σ s) : σ.1 (R, 9) 1 = s 138 := h 138 (by omega) ⟨by omega, by omega⟩
theorem ra_139 (h : qe_A R σ s) : σ.1 (R, 11) 0 = s 139 := h 139 (by omega) ⟨by omega, by omega⟩
theorem ra_143 (h : qe_A R σ s) : σ.1 (R, 11) 1 = s 143 := h 143 (by omega) ⟨by omega, by omega⟩
theorem ra_140 (h : qe_A R σ s) : σ.1 (R, 11) 2 = s 140 := h 140 (by omega) ⟨by omega, by omega⟩
theorem ra_141 (h : qe_A R σ s) : σ.1 (R, 11) 3 = s 141 := h 141 (by omega) ⟨by omega, by omega⟩
theorem ra_142 (h : qe_A R σ s) : σ.1 (R, 11) 4 = s 142 := h 142 (by omega) ⟨by omega, by omega⟩
theorem ra_144 (h : qe_A R σ s) : σ.1 (R, 12) 0 = s 144 := h 144 (by omega) ⟨by omega, by omega⟩
theorem ra_145 (h : qe_A R σ s) : σ.1 (R, 12) 1 = s 145 := h 145 (by omega) ⟨by omega, by omega⟩
theorem ra_146 (h : qe_A R σ s) : σ.1 (R, 12) 2 = s 146 := h 146 (by omega) ⟨by omega, by omega⟩
theorem ra_163 (h : qe_A R σ s) : σ.1 (R, 14) 0 = s 163 := h 163 (by omega) ⟨by omega, by omega⟩
theorem ra_164 (h : qe_A R σ s) : σ.1 (R, 14) 1 = s 164 := h 164 (by omega) ⟨by omega, by omega⟩
theorem ra_165 (h : qe_A R σ s) : σ.1 (R, 14) 2 = s 165 := h 165 (by omega) ⟨by omega, by omega⟩
theorem ra_166 (h : qe_A R σ s) : σ.1 (R, 14) 3 = s 166 := h 166 (by omega) ⟨by omega, by omega⟩
theorem ra_167 (h : qe_A R σ s) : σ.1 (R, 14) 4 = s 167 := h 167 (by omega) ⟨by omega, by omega⟩
theorem ra_168 (h : qe_A R σ s) : σ.1 (R, 15) 0 = s 168 := h 168 (by omega) ⟨by omega, by omega⟩
theorem ra_169 (h : qe_A R σ s) : σ.1 (R, 15) 1 = s 169 := h 169 (by omega) ⟨by omega, by omega⟩
theorem ra_170 (h : qe_A R σ s) : σ.1 (R, 15) 2 = s 170 := h 170 (by omega) ⟨by omega, by omega⟩
theorem ra_171 (h : qe_A R σ s) : σ.1 (R, 15) 3 = s 171 := h 171 (by omega) ⟨by omega, by omega⟩
theorem ra_172 (h : qe_A R σ s) : σ.1 (R, 15) 4 = s 172 := h 172 (by omega) ⟨by omega, by omega⟩
theorem ra_173 (h : qe_A R σ s) : σ.1 (R, 15) 5 = s 173 := h 173 (by omega) ⟨by omega, by omega⟩
theorem ra_174 (h : qe_A R σ s) : σ.1 (R, 15) 6 = s 174 := h 174 (by omega) ⟨by omega, by omega⟩
theorem ra_175 (h : qe_A R σ s) : σ.1 (R, 1) 8 = s 175 := h 175 (by omega) ⟨by omega, by omega⟩
/-- rows -/
theorem at_in {p : qa_P} {n k : Nat} (hk : k < n) (hn : n < 2147483648) : qa_fX9_at p n (nI k) σ = σ.1 p k := by
  unfold qa_fX9_at qa_fX9_at_17
  rw [if_neg (nI_pos (by omega)), if_neg (show ¬ Int32.ofNat n ≤ nI k from nI_ge hk (by omega)), nI_clamp (by omega)]
theorem set_in {p : qa_P} {n k : Nat} {v : Int32} (hk : k < n) (hn : n < 2147483648) : qa_fX9_set p n (nI k) v σ = qa_wi σ p k v := by
  unfold qa_fX9_set qa_fX9_set_14
  rw [if_neg (nI_pos (by omega)), if_neg (show ¬ Int32.ofNat n ≤ nI k from nI_ge hk (by omega)), nI_clamp (by omega)]
theorem cl_has (h : qe_A R σ s) (hs : qi_sl s) (x : Int32) : qa_fX6_has R x σ = (decide (0 ≤ x.toInt) && decide (x.toInt < (s 0).toInt)) := by
  unfold qa_fX6_has qa_fX6_has_16
  have c3 : x < 0 ↔ x.toInt < 0 := by rw [qz_lt, qk_t0]
  have c4 := qz_le (s 0) x
  rw [ra_n0 h]
  by_cases c1 : x < 0
  · have c5 := c3.mp c1
    rw [if_pos c1, decide_eq_false (by omega), Bool.false_and]
  · have c5 : ¬ x.toInt < 0 := fun t => c1 (c3.mpr t)
    rw [if_neg c1, decide_eq_true (by omega), Bool.true_and]
    by_cases c2 : s 0 ≤ x
    · have c6 := c4.mp c2
      rw [if_pos c2, decide_eq_false (by omega)]
    · have c6 : ¬ (s 0).toInt ≤ x.toInt := fun t => c2 (c4.mpr t)
      rw [if_neg c2, decide_eq_true (by omega)]
theorem cl_rd (h : qe_A R σ s) (hs : qi_sl s) {k : Nat} (hk : k < 16) : qa_fX6_isReady R (nI k) σ = qr_ld s k := by
  unfold qa_fX6_isReady qa_fX6_isReady_26 qr_ld
  rw [if_neg (nI_pos (by omega)), if_neg (show ¬ Int32.ofNat 16 ≤ nI k from nI_ge hk (by omega)), nI_clamp (by omega), ra_i h hk]
  rcases (hs.2.2 k hk).1 with e | e <;> rw [e] <;> rfl
theorem cl_be (h : qe_A R σ s) {k : Nat} : qa_fX7_bears R (nI k) σ = qr_os s k := by
  unfold qa_fX7_bears qa_fX7_bears_16 qr_os
  rw [ra_139 h, ra_140 h]
  by_cases h1 : nI k = s 139 <;> by_cases h2 : nI k = s 140 <;> simp [h1, h2]
theorem cl_mb (h : qe_A R σ s) (hs : qi_sl s) {k : Nat} (hk : k < 16) : qa_fX1_mayBurn R (nI k) σ = qr_cb s k := by
  unfold qa_fX1_mayBurn qa_fX1_mayBurn_26 qr_cb
  rw [cl_rd h hs hk, cl_be h]
  cases qr_ld s k <;> cases qr_os s k <;> rfl
theorem cl_du (h : qe_A R σ s) {a : Nat} (ha : a < 16) : qa_fX6_ticksToLoad R (nI a) (Int32.ofInt 0) σ = qr_du s a := by
  unfold qa_fX6_ticksToLoad qa_fX6_ticksToLoad_30 qr_du
  rw [at_in ha (by omega), at_in ha (by omega), ra_e h ha, ra_l h ha, qk_a0, qk_a1, qk_a2]
theorem cl_sa (h : qe_A R σ s) (hp : qi_pr s) {k : Nat} (hk : 1 ≤ k) (hk2 : k ≤ 1000) : qa_fX3_slideAhead R (nI k) σ = some (if qn (s 113) = 0 then -1 else qr_sa s k) := by
  have h1 := qn_int hp.1
  have h2 := (qi_p hp).2
  unfold qa_fX3_slideAhead qa_fX3_slideAhead_43 qa_fX3_slideAhead_44
  rw [ra_113 h, ra_138 h, qk_am1]
  by_cases c : qn (s 113) = 0
  · rw [if_pos c, if_neg (by rw [qz_lt, qk_t0]; omega)]
  · have h0 : 0 < (s 113).toInt := by omega
    have h6 := (qi_ixb hp h0 k).1
    rw [if_neg c, if_pos (by rw [qz_lt, qk_t0]; omega), if_neg (fun t => by rw [t, qk_t0] at h0; omega), rf_pi hp h0 hk hk2]
    dsimp only
    rw [if_neg (nI_pos (by omega)), if_neg (show ¬ Int32.ofNat 24 ≤ nI _ from nI_ge (by omega) (by omega)), nI_clamp (by omega), ra_p h h6 (by omega)]
    rfl
/-- a slide is burnt -/
theorem cl_bu {a : Nat} (h : qe_R R σ s) (hs : qi_sl s) (he : qi_se s) (ha : a < qn (s 0)) (hl : qr_ld s a = true) (h4 : ¬ s 144 = nI a) : qe_R R (qa_fX1_putOnFire R (nI a) σ) (qr_bu s a) ∧ qe_F R σ (qa_fX1_putOnFire R (nI a) σ) ∧ (∀ k, (qa_fX1_putOnFire R (nI a) σ).1 (R, 17) k = σ.1 (R, 17) k) := by
  have hn := (qi_n hs).2
  have ha2 : a < 16 := by omega
  have e1 : qa_fX6_setReady R (nI a) false σ = qa_wi σ (R, 5) a 0 := by
    unfold qa_fX6_setReady qa_fX6_setReady_20
    rw [if_neg (nI_pos (by omega)), if_neg (show ¬ Int32.ofNat 16 ≤ nI a from nI_ge ha2 (by omega)), nI_clamp (by omega)]
    rfl
  have h1 : qe_A R (qa_wi σ (R, 5) a 0) (upd s (1 + 7 * a + 3) 0) := ra_w h.1 (by omega) (by omega) (by omega) (by rw [qx_sl ha2 (by omega)]) (by rw [qx_sl ha2 (by omega)])
  have g1 : (qa_wi σ (R, 5) a 0).1 (R, 14) 3 = s 166 := by rw [ra_166 h1, pk_un (by omega)]
  have h2 : qe_A R (qa_wi (qa_wi σ (R, 5) a 0) (R, 6) a (s 166)) (upd (upd s (1 + 7 * a + 3) 0) (1 + 7 * a + 4) (s 166)) := ra_w h1 (by omega) (by omega) (by omega) (by rw [qx_sl ha2 (by omega)]) (by rw [qx_sl ha2 (by omega)])
  have g2 : (qa_wi (qa_wi σ (R, 5) a 0) (R, 6) a (s 166)).1 (R, 7) a = s (1 + 7 * a + 5) := by rw [ra_b h2 ha2, pk_un (by omega), pk_un (by omega)]
  have h3 : qe_A R (qa_wi (qa_wi (qa_wi σ (R, 5) a 0) (R, 6) a (s 166)) (R, 7) a (s (1 + 7 * a + 5) + 1)) (upd (upd (upd s (1 + 7 * a + 3) 0) (1 + 7 * a + 4) (s 166)) (1 + 7 * a + 5) (s (1 + 7 * a + 5) + 1)) := ra_w h2 (by omega) (by omega) (by omega) (by rw [qx_sl ha2 (by omega)]) (by rw [qx_sl ha2 (by omega)])
  have g3 : (qa_wi (qa_wi (qa_wi σ (R, 5) a 0) (R, 6) a (s 166)) (R, 7) a (s (1 + 7 * a + 5) + 1)).1 (R, 2) a = s (1 + 7 * a) := by rw [ra_c h3 ha2, pk_un (by omega), pk_un (by omega), pk_un (by omega)]
  have g4 : (qa_wi (qa_wi (qa_wi σ (R, 5) a 0) (R, 6) a (s 166)) (R, 7) a (s (1 + 7 * a + 5) + 1)).1 (R, 12) 4 = qr_ta s := by
    rw [wi_np (by simp), wi_np (by simp), wi_np (by simp)]
    exact h.2
  have e : qa_fX1_putOnFire R (nI a) σ = qa_wi (qa_wi (qa_wi (qa_wi (qa_wi σ (R, 5) a 0) (R, 6) a (s 166)) (R, 7) a (s (1 + 7 * a + 5) + 1)) (R, 12) 4 (qr_ta s - s (1 + 7 * a))) (R, 15) 5 (s 173 + 1) := by
    have h5 : qe_A R (qa_wi (qa_wi (qa_wi (qa_wi σ (R, 5) a 0) (R, 6) a (s 166)) (R, 7) a (s (1 + 7 * a + 5) + 1)) (R, 12) 4 (qr_ta s - s (1 + 7 * a))) (upd (upd (upd s (1 + 7 * a + 3) 0) (1 + 7 * a + 4) (s 166)) (1 + 7 * a + 5) (s (1 + 7 * a + 5) + 1)) := ra_o h3 (Or.inr (Or.inr ⟨rfl, by omega⟩))
    have g5 := ra_173 h5
    rw [pk_un (by omega), pk_un (by omega), pk_un (by omega)] at g5
    unfold qa_fX1_putOnFire
    dsimp only
    simp only [e1, g1, set_in (n := 16) ha2 (by omega), at_in (n := 16) ha2 (by omega), g2, qk_a1, g3, g4, g5]
  rw [e]
  refine ⟨⟨?_, ?_⟩, ?_, fun k => ?_⟩
  · exact ra_w (ra_o h3 (Or.inr (Or.inr ⟨rfl, by omega⟩))) (by omega) (by omega) (by omega) rfl rfl
  · rw [wi_np (by simp), wi_eq, qz_eq, bu_ta hs he ha hl h4]
    have b1 := qr_ta_b hs
    have b2 := (hs.2.2 a ha2).2.2.2.2.1 (by have := qn_int hs.1; omega)
    rw [qz_sub (by omega) (by omega)]
  · exact qe_Ft (qe_Ft (qe_Ft (qe_Ft (qe_Fw (by omega)) (qe_Fw (by omega))) (qe_Fw (by omega))) (qe_Fw (by omega))) (qe_Fw (by omega))
  · rw [wi_np (by simp), wi_np (by simp), wi_np (by simp), wi_np (by simp), wi_np (by simp)]
end QCA
end
section
/-! the class's line of slides that may be burnt -/
section QCB
variable {σ σ' : qa_T} {s t : qs} {R N : Nat}
/-- nothing but the weights and the line has changed -/
def qe_G (R : Nat) (σ σ' : qa_T) : Prop := (∀ p : qa_P, ¬ p = (R, 16) → ¬ p = (R, 17) → σ'.1 p = σ.1 p) ∧ σ'.2 = σ.2
theorem qe_Gr : qe_G R σ σ := ⟨fun _ _ _ => rfl, rfl⟩
theorem qe_Gt {σ'' : qa_T} (h1 : qe_G R σ σ') (h2 : qe_G R σ' σ'') : qe_G R σ σ'' := ⟨fun p h3 h4 => (h2.1 p h3 h4).trans (h1.1 p h3 h4), h2.2.trans h1.2⟩
theorem qe_GF (h : qe_G R σ σ') : qe_F R σ σ' := ⟨fun p hp => h.1 p (fun e => by subst e; dsimp only at hp; omega) (fun e => by subst e; dsimp only at hp; omega), h.2⟩
theorem ra_G (h : qe_A R σ s) (hG : qe_G R σ σ') : qe_A R σ' s := by
  intro j hj hl
  have h1 := (qy_qx hj).2.1
  rw [hG.1 _ (fun e => by have := congrArg Prod.snd e; dsimp only at this; omega) (fun e => by have := congrArg Prod.snd e; dsimp only at this; omega)]
  exact h j hj hl
theorem rr_G (h : qe_R R σ s) (hG : qe_G R σ σ') : qe_R R σ' s := ⟨ra_G h.1 hG, by rw [hG.1 _ (by simp) (by simp)]; exact h.2⟩
theorem qe_G6 {i : Nat} {v : Int32} : qe_G R σ (qa_wi σ (R, 16) i v) := ⟨fun p h1 _ => wi_np h1, rfl⟩
theorem qe_G7 {i : Nat} {v : Int32} : qe_G R σ (qa_wi σ (R, 17) i v) := ⟨fun p _ h2 => wi_np h2, rfl⟩
def qe_wt (R : Nat) (σ : qa_T) (s : qs) (k : Nat) : Prop := ∀ j, j < k → (σ.1 (R, 16) j).toInt = qr_w s j
theorem cl_wu {n : Nat} (hs : qi_sl s) (he : qi_se s) (h2 : ¬ s 165 = 2) (hn : qn (s 0) = n) : ∀ (m k : Nat) (σ : qa_T), qe_A R σ s → qe_wt R σ s k → k ≤ n → n - k < m → ∃ σ', qa_fX1_weighByUseOrCost_2 R m (nI k) σ = some σ' ∧ qe_G R σ σ' ∧ qe_wt R σ' s n := by
  obtain ⟨n1, n2⟩ := qi_n hs
  intro m
  induction m with
  | zero => intro k σ _ _ h1 h2; omega
  | succ m ih =>
    intro k σ h hw hk hm
    rw [qa_fX1_weighByUseOrCost_2, ra_n0 h, n1, hn]
    by_cases e : k = n
    · subst e
      rw [if_pos (nI_le (Nat.le_refl _) (by omega))]
      exact ⟨σ, rfl, qe_Gr, hw⟩
    · have hk2 : k < 16 := by omega
      have r1 := qz_rg (s (1 + 7 * k + 6))
      have r2 := (hs.2.2 k hk2).2.2.2.1
      rw [if_neg (nI_ge (by omega) (by omega)), ra_165 h]
      unfold qa_fX1_weighByUseOrCost_28 qa_fX1_weighByUseOrCost_64
      rw [at_in hk2 (by omega), at_in hk2 (by omega), ra_c h hk2, ra_u h hk2, qk_a1, nI_1, set_in hk2 (by omega), set_in hk2 (by omega)]
      have key : ∀ v : Int32, v.toInt = qr_w s k → ∃ σ', qa_fX1_weighByUseOrCost_2 R m (nI (k + 1)) (qa_wi σ (R, 16) k v) = some σ' ∧ qe_G R σ σ' ∧ qe_wt R σ' s n := by
        intro v hv
        obtain ⟨σ', a1, a2, a3⟩ := ih (k + 1) (qa_wi σ (R, 16) k v) (ra_G h qe_G6) (fun j hj => by
          by_cases e2 : j = k
          · subst e2
            rw [wi_eq]; exact hv
          · rw [wi_ni e2]
            exact hw j (by omega)) (by omega) (by omega)
        exact ⟨σ', a1, qe_Gt qe_G6 a2, a3⟩
      by_cases c : s 165 = 0
      · rw [if_neg (not_not_intro c), if_neg (by decide)]
        refine key _ ?_
        unfold qr_w
        rw [if_pos c, qz_neg (by omega)]
      · rw [if_pos c, if_pos (by rfl)]
        refine key _ ?_
        unfold qr_w
        have c2 : s 165 = 1 := by
          have h3 := he.2.2.2.2.1
          have h4 := he.2.2.2.2.2.1
          rw [qz_eq] at c h2 ⊢
          rw [qk_t0] at c
          rw [show (2 : Int32).toInt = 2 from rfl] at h2
          rw [qk_t1]
          omega
        rw [if_neg c, if_pos c2]
theorem cl_wn3 {c : Nat} (hs : qi_sl s) (hp : qi_pr s) (h2 : s 165 = 2) (hc : qn (s 113) = c) : ∀ (m k : Nat) (σ : qa_T), qe_A R σ s → (∀ j, j < qn (s 0) → (σ.1 (R, 16) j).toInt = (qr_nf s j (c - k) (k + 1) : Nat)) → k ≤ c → k < m → ∃ σ', qa_fX1_weighByNextUse_37 R m (nI k) σ = some σ' ∧ qe_G R σ σ' ∧ qe_wt R σ' s (qn (s 0)) := by
  have hn := (qi_n hs).2
  have hc2 := (qi_p hp).2
  have hc3 := qn_int hp.1
  have hi := qn_int hs.1
  intro m
  induction m with
  | zero => intro k σ _ _ h1 h2; omega
  | succ m ih =>
    intro k σ h hw hk hm
    rw [qa_fX1_weighByNextUse_37]
    cases k with
    | zero =>
      rw [if_pos (by rw [nI_0]; exact Int32.le_refl _)]
      refine ⟨σ, rfl, qe_Gr, fun j hj => ?_⟩
      rw [hw j hj]
      unfold qr_w qr_nx
      rw [if_neg (by rw [h2]; decide), if_neg (by rw [h2]; decide), hc]
      rfl
    | succ k =>
      have h0 : 0 < (s 113).toInt := by omega
      have h7 := qi_sa hp h0 (k + 1)
      have h8 := qn_int h7.1
      have h9 : qr_sa s (k + 1) = nI (qn (qr_sa s (k + 1))) := qn_of h7.1
      rw [if_neg (nI_nle (by omega) (by omega)), cl_sa h hp (by omega) (by omega), if_neg (by omega), Option.bind_some]
      dsimp only
      rw [h9, set_in (by omega) (by omega), qk_am1, show nI (k + 1) + -1 = nI k by rw [← Int32.sub_eq_add_neg, nI_pred]]
      obtain ⟨σ', a1, a2, a3⟩ := ih k (qa_wi σ (R, 16) (qn (qr_sa s (k + 1))) (nI (k + 1))) (ra_G h qe_G6) (fun j hj => by
        rw [show c - k = (c - (k + 1)) + 1 by omega]
        unfold qr_nf
        by_cases e2 : j = qn (qr_sa s (k + 1))
        · rw [e2, wi_eq, if_pos h9, qz_nI (by omega)]
        · rw [wi_ni e2, if_neg (fun t => e2 (by rw [t, qn_nI (by omega)])), hw j hj]) (by omega) (by omega)
      exact ⟨σ', a1, qe_Gt qe_G6 a2, a3⟩
theorem cl_wn2 {n : Nat} (hs : qi_sl s) (hp : qi_pr s) (h2 : s 165 = 2) (hn : qn (s 0) = n) : ∀ (m k : Nat) (σ : qa_T), qe_A R σ s → (∀ j, j < k → (σ.1 (R, 16) j).toInt = 25) → k ≤ n → n - k < m → ∃ σ', qa_fX1_weighByNextUse_2 R m (nI k) σ = some σ' ∧ qe_G R σ σ' ∧ qe_wt R σ' s n := by
  obtain ⟨n1, n2⟩ := qi_n hs
  have hc2 := (qi_p hp).2
  intro m
  induction m with
  | zero => intro k σ _ _ h1 h2; omega
  | succ m ih =>
    intro k σ h hw hk hm
    rw [qa_fX1_weighByNextUse_2, ra_n0 h, n1, hn]
    by_cases e : k = n
    · subst e
      rw [if_pos (nI_le (Nat.le_refl _) (by omega)), ra_113 h, (qi_p hp).1]
      subst hn
      exact cl_wn3 hs hp h2 rfl qa_fu (qn (s 113)) σ h (fun j hj => by rw [Nat.sub_self, hw j hj]; rfl) (Nat.le_refl _) (by unfold qa_fu; omega)
    · have hk2 : k < 16 := by omega
      rw [if_neg (nI_ge (by omega) (by omega)), set_in hk2 (by omega), qk_a1, nI_1, qk_b25]
      obtain ⟨σ', a1, a2, a3⟩ := ih (k + 1) (qa_wi σ (R, 16) k 25) (ra_G h qe_G6) (fun j hj => by
        by_cases e2 : j = k
        · subst e2
          rw [wi_eq]; rfl
        · rw [wi_ni e2]
          exact hw j (by omega)) (by omega) (by omega)
      exact ⟨σ', a1, qe_Gt qe_G6 a2, a3⟩
/-- a line in its row -/
def qe_ln (R : Nat) (σ : qa_T) (l : List Nat) : Prop := ∀ j a, l[j]? = some a → σ.1 (R, 17) j = nI a
theorem qr_in_get (s : qs) (a : Nat) : ∀ (l : List Nat) (p j : Nat), p ≤ l.length → (∀ i b, i < p → l[i]? = some b → qr_w s a ≤ qr_w s b) → (∀ b, l[p]? = some b → qr_w s b < qr_w s a) → (qr_in s a l)[j]? = if j < p then l[j]? else if j = p then some a else l[j - 1]? := by
  intro l
  induction l with
  | nil =>
    intro p j hp h1 h2
    simp only [List.length_nil] at hp
    have : p = 0 := by omega
    subst this
    unfold qr_in
    cases j with
    | zero => rfl
    | succ j => rw [if_neg (by omega), if_neg (by omega)]; rfl
  | cons b l ih =>
    intro p j hp h1 h2
    unfold qr_in
    cases p with
    | zero =>
      rw [if_pos (h2 b rfl)]
      cases j with
      | zero => rfl
      | succ j => rw [if_neg (by omega), if_neg (by omega)]; rfl
    | succ p =>
      have h3 := h1 0 b (by omega) rfl
      rw [if_neg (by omega)]
      cases j with
      | zero => rw [if_pos (by omega)]; rfl
      | succ j =>
        have h4 := ih p j (by simp only [List.length_cons] at hp; omega) (fun i c hi hc => h1 (i + 1) c (by omega) hc) (fun c hc => h2 c hc)
        show (qr_in s a l)[j]? = _
        rw [h4]
        by_cases c1 : j < p
        · rw [if_pos c1, if_pos (by omega)]; rfl
        · rw [if_neg c1, if_neg (show ¬ j + 1 < p + 1 by omega)]
          by_cases c2 : j = p
          · rw [if_pos c2, if_pos (show j + 1 = p + 1 by omega)]
          · rw [if_neg c2, if_neg (show ¬ j + 1 = p + 1 by omega)]
            obtain ⟨j, rfl⟩ : ∃ i, j = i + 1 := ⟨j - 1, by omega⟩
            rfl
theorem cl_l47 {k26 : Int32 → Int32 → qa_T → Option (Int32 × qa_T)} {a : Nat} {l : List Nat} (ha : a < 16) (hl : l.length < 16) (hm : ∀ b ∈ l, b < a) (hp : l.Pairwise (fun a b => qr_fb s a b = true)) : ∀ (m p : Nat) (σ : qa_T), qe_wt R σ s (a + 1) → p ≤ l.length → (∀ j b, j < p → l[j]? = some b → σ.1 (R, 17) j = nI b) → (∀ j b, p ≤ j → l[j]? = some b → σ.1 (R, 17) (j + 1) = nI b ∧ qr_w s b < qr_w s a) → p < m → ∃ σ', qa_fX1_lineUp_47 R k26 m (nI l.length) (nI a) (nI p) σ = k26 (nI (l.length + 1)) (nI (a + 1)) σ' ∧ qe_G R σ σ' ∧ (∀ j, σ'.1 (R, 16) j = σ.1 (R, 16) j) ∧ qe_ln R σ' (qr_in s a l) := by
  have done : ∀ (p : Nat) (σ : qa_T), p ≤ l.length → (∀ j b, j < p → l[j]? = some b → σ.1 (R, 17) j = nI b) → (∀ j b, p ≤ j → l[j]? = some b → σ.1 (R, 17) (j + 1) = nI b ∧ qr_w s b < qr_w s a) → (∀ i b, i < p → l[i]? = some b → qr_w s a ≤ qr_w s b) → ∃ σ', qa_fX1_lineUp_103 R k26 (nI l.length) (nI a) (nI p) σ = k26 (nI (l.length + 1)) (nI (a + 1)) σ' ∧ qe_G R σ σ' ∧ (∀ j, σ'.1 (R, 16) j = σ.1 (R, 16) j) ∧ qe_ln R σ' (qr_in s a l) := by
    intro p σ hpl h1 h2 h3
    unfold qa_fX1_lineUp_103 qa_fX1_lineUp_115
    dsimp only
    rw [set_in (by omega) (by omega), qk_a1, nI_1, nI_1]
    refine ⟨_, rfl, qe_G7, fun j => by rw [wi_np (by simp)], fun j b hb => ?_⟩
    rw [qr_in_get s a l p j hpl h3 (fun b hb => (h2 p b (Nat.le_refl _) hb).2)] at hb
    by_cases c1 : j < p
    · rw [if_pos c1] at hb
      rw [wi_ni (by omega)]
      exact h1 j b c1 hb
    · rw [if_neg c1] at hb
      by_cases c2 : j = p
      · rw [if_pos c2] at hb
        cases hb
        rw [c2, wi_eq]
      · rw [if_neg c2] at hb
        rw [wi_ni c2]
        have := (h2 (j - 1) b (by omega) hb).1
        rw [show j - 1 + 1 = j by omega] at this
        exact this
  intro m
  induction m with
  | zero => intro p σ _ _ _ _ h; omega
  | succ m ih =>
    intro p σ hw hpl h1 h2 hpm
    rw [qa_fX1_lineUp_47]
    cases p with
    | zero =>
      rw [if_pos (by rw [nI_0]; exact Int32.le_refl _)]
      exact done 0 σ hpl h1 h2 (fun i b hi => by omega)
    | succ p =>
      obtain ⟨b, hb⟩ : ∃ b, l[p]? = some b := ⟨l[p]'(by omega), List.getElem?_eq_getElem (by omega)⟩
      have hbm := hm b (List.mem_of_getElem? hb)
      have hbw := hw b (by omega)
      have haw := hw a (by omega)
      rw [if_neg (nI_nle (by omega) (by omega)), qk_a1, nI_pred, at_in (by omega) (by omega), at_in (by omega) (by omega), h1 p b (by omega) hb, at_in (by omega) (by omega)]
      by_cases c : σ.1 (R, 16) a ≤ σ.1 (R, 16) b
      · rw [if_pos c]
        rw [qz_le, hbw, haw] at c
        refine done (p + 1) σ hpl h1 h2 (fun i x hi hx => ?_)
        by_cases e : i = p
        · subst e
          rw [hb] at hx
          cases hx
          exact c
        · have := List.pairwise_iff_getElem.mp hp i p (by omega) (by omega) (by omega)
          rw [List.getElem?_eq_getElem (by omega)] at hx hb
          rw [Option.some.inj hx, Option.some.inj hb] at this
          unfold qr_fb at this
          simp only [Bool.or_eq_true, Bool.and_eq_true, decide_eq_true_eq] at this
          omega
      · rw [if_neg c]
        rw [qz_le, hbw, haw] at c
        dsimp only
        rw [set_in (by omega) (by omega), qk_am1, show nI (p + 1) + -1 = nI p by rw [← Int32.sub_eq_add_neg, nI_pred]]
        obtain ⟨σ', a1, a2, a3, a4⟩ := ih p (qa_wi σ (R, 17) (p + 1) (nI b)) (fun j hj => by rw [wi_np (by simp)]; exact hw j hj) (by omega) (fun j x hj hx => by
          rw [wi_ni (by omega)]
          exact h1 j x (by omega) hx) (fun j x hj hx => by
          by_cases e : j = p
          · subst e
            rw [hb] at hx
            cases hx
            rw [wi_eq]
            exact ⟨rfl, by omega⟩
          · rw [wi_ni (by omega)]
            exact h2 j x (by omega) hx) (by omega)
        exact ⟨σ', a1, qe_Gt qe_G7 a2, fun j => by rw [a3, wi_np (by simp)], a4⟩
theorem cl_l26 {n : Nat} (hs : qi_sl s) (hn : qn (s 0) = n) : ∀ (m k : Nat) (σ : qa_T), qe_A R σ s → qe_wt R σ s n → qe_ln R σ (qr_lf s k) → k ≤ n → n - k < m → ∃ σ', qa_fX1_lineUp_26 R m (nI (qr_lf s k).length) (nI k) σ = some (nI (qr_lf s n).length, σ') ∧ qe_G R σ σ' ∧ qe_ln R σ' (qr_lf s n) := by
  obtain ⟨n1, n2⟩ := qi_n hs
  intro m
  induction m with
  | zero => intro k σ _ _ _ h1 h2; omega
  | succ m ih =>
    intro k σ h hw hl hk hm
    rw [qa_fX1_lineUp_26, ra_n0 h, n1, hn]
    by_cases e : k = n
    · subst e
      rw [if_pos (nI_le (Nat.le_refl _) (by omega))]
      exact ⟨σ, rfl, qe_Gr, hl⟩
    · have hk2 : k < 16 := by omega
      have e2 : qr_lf s (k + 1) = if qr_cb s k = true then qr_in s k (qr_lf s k) else qr_lf s k := rfl
      rw [if_neg (nI_ge (by omega) (by omega)), cl_mb h hs hk2]
      cases c : qr_cb s k
      · rw [if_pos (by rfl)]
        rw [c, if_neg (by decide)] at e2
        have := ih (k + 1) σ h hw (by rw [e2]; exact hl) (by omega) (by omega)
        rw [e2] at this
        unfold qa_fX1_lineUp_115
        dsimp only
        rw [qk_a1, nI_1]
        exact this
      · rw [if_neg (by decide)]
        rw [c, if_pos rfl] at e2
        have h9 := qr_lf_len s k
        obtain ⟨σ1, a1, a2, a3, a4⟩ := cl_l47 (R := R) (s := s) (k26 := qa_fX1_lineUp_26 R m) hk2 (show (qr_lf s k).length < 16 by omega) (fun b hb => ((qr_lf_mem s b k).mp hb).1) (qr_lf_pw s k) qa_fu (qr_lf s k).length σ (fun j hj => hw j (by omega)) (Nat.le_refl _) (fun j b _ hb => hl j b hb) (fun j b hj hb => by
          rw [List.getElem?_eq_none (by omega)] at hb
          cases hb) (by unfold qa_fu; omega)
        have := ih (k + 1) σ1 (ra_G h a2) (fun j hj => by rw [a3]; exact hw j hj) (by rw [e2]; exact a4) (by omega) (by omega)
        rw [e2, qr_in_len] at this
        obtain ⟨σ', b1, b2, b3⟩ := this
        exact ⟨σ', a1.trans b1, qe_Gt a2 b2, b3⟩
theorem cl_lu (h : qe_A R σ s) (hs : qi_sl s) (hp : qi_pr s) (he : qi_se s) : ∃ σ', qa_fX1_lineUp R σ = some (nI (qr_ln s).length, σ') ∧ qe_G R σ σ' ∧ qe_ln R σ' (qr_ln s) := by
  have hn := (qi_n hs).2
  have fin : ∀ σ1, qe_G R σ σ1 → qe_wt R σ1 s (qn (s 0)) → ∃ σ', qa_fX1_lineUp_22 R σ1 = some (nI (qr_ln s).length, σ') ∧ qe_G R σ σ' ∧ qe_ln R σ' (qr_ln s) := by
    intro σ1 g1 g2
    obtain ⟨σ', a1, a2, a3⟩ := cl_l26 hs rfl qa_fu 0 σ1 (ra_G h g1) g2 (fun j a hj => by cases hj) (by omega) (by unfold qa_fu; omega)
    exact ⟨σ', a1, qe_Gt g1 a2, a3⟩
  unfold qa_fX1_lineUp
  rw [ra_165 h, qk_a2]
  by_cases c : s 165 = 2
  · rw [if_neg (not_not_intro c)]
    obtain ⟨σ1, a1, a2, a3⟩ := cl_wn2 (R := R) hs hp c rfl qa_fu 0 σ h (fun j hj => by omega) (by omega) (by unfold qa_fu; omega)
    have a4 : qa_fX1_weighByNextUse R σ = some σ1 := a1
    rw [a4, Option.bind_some]
    exact fin σ1 a2 a3
  · rw [if_pos c]
    obtain ⟨σ1, a1, a2, a3⟩ := cl_wu (R := R) hs he c rfl qa_fu 0 σ h (fun j hj => by omega) (by omega) (by unfold qa_fu; omega)
    have a4 : qa_fX1_weighByUseOrCost R σ = some σ1 := a1
    rw [a4, Option.bind_some]
    exact fin σ1 a2 a3
end QCB
end
section
/-! the class: burning down, the queue, what begins to load -/
section QCC
variable {σ σ' : qa_T} {s t : qs} {R N : Nat}
theorem cl_b19 {m : Int} {x : Int32} {len : Nat} (hlen : len ≤ 16) : ∀ (l : List Nat) (i f : Nat) (σ : qa_T) (s : qs), qe_R R σ s → qi_A N s → x.toInt = (s 163).toInt - m → qr_li s l → (∀ j b, l[j]? = some b → σ.1 (R, 17) (i + j) = nI b) → i + l.length = len → l.length < f → ∃ σ', qa_fX1_burnDownTo_19 R x f (nI len) (nI i) σ = some σ' ∧ qe_R R σ' (qr_rm m l s).2 ∧ qe_F R σ σ' := by
  intro l
  induction l with
  | nil =>
    intro i f σ s h hA hx hl hr hi hf
    obtain ⟨f, rfl⟩ : ∃ j, f = j + 1 := ⟨f - 1, by simp only [List.length_nil] at hf; omega⟩
    simp only [List.length_nil] at hi
    rw [qa_fX1_burnDownTo_19, if_pos (nI_le (by omega) (by omega))]
    exact ⟨σ, rfl, h, qe_Fr⟩
  | cons a l ih =>
    intro i f σ s h hA hx hl hr hi hf
    obtain ⟨f, rfl⟩ : ∃ j, f = j + 1 := ⟨f - 1, by simp only [List.length_cons] at hf; omega⟩
    simp only [List.length_cons] at hi hf
    have hA' := hA
    obtain ⟨hs, hp, hw, hlo, hq, he, hc⟩ := hA
    have hn := (qi_n hs).2
    have hi0 := qn_int hs.1
    have ha := (hl.2 a).mp List.mem_cons_self
    have ha2 : a < 16 := by omega
    have h0 := hr 0 a rfl
    rw [Nat.add_zero] at h0
    have hft : σ.1 (R, 12) 4 ≤ x ↔ qr_ft m s = true := by
      unfold qr_ft
      rw [h.2, qz_le, decide_eq_true_eq, hx]
      omega
    rw [qa_fX1_burnDownTo_19, if_neg (nI_ge (by omega) (by omega)), at_in (by omega) (by omega), h0, qk_a1, nI_1]
    unfold qr_rm
    by_cases c : qr_ft m s = true
    · rw [if_pos (hft.mpr c), if_pos c]
      exact ⟨σ, rfl, h, qe_Fr⟩
    · rw [if_neg (fun t => c (hft.mp t)), if_neg c]
      have hcb := ha.2
      unfold qr_cb at hcb
      rw [Bool.and_eq_true] at hcb
      have h4 : ¬ s 144 = nI a := fun t => by
        have h5 := hlo.2.2.2.2.2 a ha2 (Or.inr (by rw [t, qz_nI (by omega)]))
        have h6 := hcb.1
        unfold qr_ld at h6
        rw [h5] at h6
        exact absurd (of_decide_eq_true h6) (by decide)
      obtain ⟨b1, b2, b3⟩ := cl_bu h hs he ha.1 hcb.1 h4
      obtain ⟨σ', a1, a2, a3⟩ := ih (i + 1) f _ _ b1 (bu_A hA' ha2) (by rw [bu_o (by omega) (by omega)]; exact hx) (bu_li hp hs hl) (fun j b hb => by
        rw [b3, show i + 1 + j = i + (j + 1) by omega]
        exact hr (j + 1) b hb) (by omega) (by omega)
      exact ⟨σ', a1, a2, qe_Ft b2 a3⟩
theorem cl_bd {m : Int} {x : Int32} (h : qe_R R σ s) (hA : qi_A N s) (hx : x.toInt = (s 163).toInt - m) : ∃ σ', qa_fX1_burnDownTo R x σ = some σ' ∧ qe_R R σ' (qr_mr m s).2 ∧ qe_F R σ σ' := by
  have hA' := hA
  obtain ⟨hs, hp, hw, hlo, hq, he, hc⟩ := hA
  have hn := (qi_n hs).2
  have h9 := qr_lf_len s (qn (s 0))
  have hft : x < σ.1 (R, 12) 4 ↔ ¬ qr_ft m s = true := by
    unfold qr_ft
    rw [h.2, qz_lt, decide_eq_true_eq, hx]
    omega
  unfold qa_fX1_burnDownTo
  by_cases c : qr_ft m s = true
  · rw [if_neg (fun t => hft.mp t c)]
    have e : qr_mr m s = (0, s) := by
      unfold qr_mr
      cases qr_ln s with
      | nil => rfl
      | cons a l =>
        unfold qr_rm
        rw [if_pos c]
    rw [e]
    exact ⟨σ, rfl, h, qe_Fr⟩
  · rw [if_pos (hft.mpr c)]
    obtain ⟨σ1, a1, a2, a3⟩ := cl_lu h.1 hs hp he
    rw [a1, Option.bind_some]
    dsimp only
    have hlen : (qr_ln s).length ≤ 16 := by
      unfold qr_ln
      omega
    obtain ⟨σ', b1, b2, b3⟩ := cl_b19 (R := R) (N := N) (m := m) (x := x) hlen (qr_ln s) 0 qa_fu σ1 s (rr_G h a2) hA' hx (qr_li_ln s) (fun j b hb => by rw [Nat.zero_add]; exact a3 j b hb) (by omega) (by unfold qa_fu; omega)
    exact ⟨σ', b1, b2, qe_Ft (qe_GF a2) b3⟩
/-- nothing but one cell has changed -/
def qe_O (q : qa_P) (σ σ' : qa_T) : Prop := (∀ p : qa_P, ¬ p = q → σ'.1 p = σ.1 p) ∧ σ'.2 = σ.2
theorem qe_Or {q : qa_P} : qe_O q σ σ := ⟨fun _ _ => rfl, rfl⟩
theorem qe_Ot {q : qa_P} {σ'' : qa_T} (h1 : qe_O q σ σ') (h2 : qe_O q σ' σ'') : qe_O q σ σ'' := ⟨fun p h3 => (h2.1 p h3).trans (h1.1 p h3), h2.2.trans h1.2⟩
theorem qe_Ow {q : qa_P} {i : Nat} {v : Int32} : qe_O q σ (qa_wi σ q i v) := ⟨fun p h => wi_np h, rfl⟩
theorem qe_OF {j : Nat} (h : qe_O (R, j) σ σ') (hj : j < 18) : qe_F R σ σ' := ⟨fun p hp => h.1 p (fun e => by subst e; dsimp only at hp; omega), h.2⟩
theorem qx_13 {i : Nat} (hi : i < 176) (h : (qx i).1 = 13) : i = 147 + (qx i).2 := by
  have h1 := (qy_qx hi).1
  rw [h] at h1
  exact h1.symm
theorem qx_10 {i : Nat} (hi : i < 176) (h : (qx i).1 = 10) : i = 114 + (qx i).2 := by
  have h1 := (qy_qx hi).1
  rw [h] at h1
  exact h1.symm
theorem f0_o {p i : Nat} (h : i < 146) : qr_f0 s p i = s i := by
  unfold qr_f0
  rw [if_neg (by omega), if_neg (by omega), if_neg (by omega)]
theorem cl_uq_l {p q : Nat} (hn : qn (s 0) ≤ 16) (hq : q + 1 ≤ 16) (h6 : s 146 = nI (q + 1)) (hp : p ≤ q) (h : qe_R R σ s) (x : Int32) : ∀ (f i : Nat) (τ : qa_T), qe_O (R, 13) σ τ → (∀ j, j < q + 1 → τ.1 (R, 13) j = if p ≤ j ∧ j < i then s (147 + (j + 1)) else s (147 + j)) → p ≤ i → i ≤ q → q - i < f → ∃ σ', qa_fX2_unqueue_2 R x f (nI i) τ = some σ' ∧ qe_R R σ' (qr_f0 s p) ∧ qe_F R σ σ' := by
  intro f
  induction f with
  | zero => intro i τ _ _ _ _ h; omega
  | succ f ih =>
    intro i τ hO hr h1 h2 h3
    have e146 : τ.1 (R, 12) 2 = nI (q + 1) := by rw [hO.1 _ (by simp), ra_146 h.1, h6]
    rw [qa_fX2_unqueue_2, e146, qk_a1, nI_1]
    by_cases e : i = q
    · subst e
      rw [if_pos (nI_le (Nat.le_refl _) (by omega))]
      refine ⟨_, rfl, ⟨?_, ?_⟩, qe_Ft (qe_OF hO (by omega)) (qe_Fw (by omega))⟩
      · intro j hj hl
        have g6 : qr_f0 s p 146 = nI i := by
          unfold qr_f0
          rw [if_pos rfl, h6, qn_nI (by omega)]
          rfl
        by_cases c1 : j = 146
        · subst c1
          show (qa_wi τ (R, 12) 2 (nI (i + 1) - 1)).1 (R, 12) 2 = _
          rw [wi_eq, g6, nI_pred]
        · rw [show (qa_wi τ (R, 12) 2 (nI (i + 1) - 1)).1 (R, (qx j).1) (qx j).2 = τ.1 (R, (qx j).1) (qx j).2 by
            by_cases c3 : (qx j).1 = 12
            · by_cases c4 : (qx j).2 = 2
              · exact absurd (qx_inj hj (show 146 < 176 by omega) c3 c4) c1
              · rw [wi_ni c4]
            · rw [wi_np (fun t => c3 (congrArg Prod.snd t))]]
          by_cases c2 : (qx j).1 = 13
          · have e2 := qx_13 hj c2
            have e3 := (qy_qx hj).2.1
            have hj2 : 147 ≤ j ∧ j < 163 := by
              have : ¬ 163 ≤ j := fun t => by
                have h7 : j = 163 ∨ j = 164 ∨ j = 165 ∨ j = 166 ∨ j = 167 ∨ j = 168 ∨ j = 169 ∨ j = 170 ∨ j = 171 ∨ j = 172 ∨ j = 173 ∨ j = 174 ∨ j = 175 := by omega
                rcases h7 with h7 | h7 | h7 | h7 | h7 | h7 | h7 | h7 | h7 | h7 | h7 | h7 | h7 <;> subst h7 <;> exact absurd c2 (by decide)
              omega
            have hl2 := hl.2 hj2.1 hj2.2
            rw [g6, qn_nI (by omega)] at hl2
            generalize hz : (qx j).2 = z at e2
            rw [c2, hr z (by omega)]
            unfold qr_f0
            rw [if_neg c1, h6, qn_nI (by omega)]
            by_cases c5 : p ≤ z ∧ z < i
            · rw [if_pos c5, if_pos (by omega), e2]; rfl
            · rw [if_neg c5, if_neg (by omega), if_neg (by omega), e2]
          · have c4 : j < 146 ∨ 163 ≤ j := by
              have : ¬ (147 ≤ j ∧ j < 163) := fun t => by
                have := qx_qu (k := j - 147) (by omega)
                rw [show 147 + (j - 147) = j by omega] at this
                rw [this] at c2
                exact c2 rfl
              omega
            rw [hO.1 _ (fun t => c2 (congrArg Prod.snd t))]
            have e5 : qr_f0 s p j = s j := by
              unfold qr_f0
              rw [if_neg c1, h6, qn_nI (by omega), if_neg (by omega), if_neg (by omega)]
            rw [e5]
            refine h.1 j hj ⟨fun h7 h8 => ?_, fun h7 h8 => by omega⟩
            have h9 := hl.1 h7 h8
            have e6 : qr_f0 s p 113 = s 113 := by
              unfold qr_f0
              rw [if_neg (by omega), if_neg (by omega), if_neg (by rw [h6, qn_nI (by omega)]; omega)]
            rw [e6] at h9
            exact h9
      · rw [wi_ni (by omega), hO.1 _ (by simp), h.2]
        exact (ta_q (f0_o (by omega)) (f0_o (by omega)) (fun k hk => ⟨f0_o (by omega), f0_o (by omega)⟩)).symm
    · rw [if_neg (nI_ge (by omega) (by omega)), set_in (by omega) (by omega), at_in (by omega) (by omega)]
      dsimp only
      refine ih (i + 1) _ (qe_Ot hO qe_Ow) (fun j hj => ?_) (by omega) (by omega) (by omega)
      by_cases c1 : j = i
      · subst c1
        rw [wi_eq, hr (j + 1) (by omega), if_neg (by omega), if_pos (by omega)]
      · rw [wi_ni c1, hr j hj]
        by_cases c2 : p ≤ j ∧ j < i
        · rw [if_pos c2, if_pos (by omega)]
        · rw [if_neg c2, if_neg (by omega)]
theorem cl_uq {p : Nat} (h : qe_R R σ s) (hs : qi_sl s) (hq : qi_qd s) (hp : (p : Int) < (s 146).toInt) : ∃ σ', qa_fX2_unqueue R (nI p) σ = some σ' ∧ qe_R R σ' (qr_f0 s p) ∧ qe_F R σ σ' := by
  have hn := (qi_n hs).2
  have h1 := qn_int hq.1
  have h2 := hq.2.1
  have h3 := qn_of hq.1
  obtain ⟨q, e⟩ : ∃ q, qn (s 146) = q + 1 := ⟨qn (s 146) - 1, by omega⟩
  rw [e] at h3
  unfold qa_fX2_unqueue
  exact cl_uq_l hn (q := q) (p := p) (by omega) h3 (by omega) h (nI p) qa_fu p σ qe_Or (fun j hj => by rw [if_neg (by omega)]; exact ra_q h.1 (by omega) (by omega)) (Nat.le_refl _) (by omega) (by unfold qa_fu; omega)
theorem cl_qp_l {a q : Nat} (hq : q ≤ 16) (h6 : qn (s 146) = q) (h7 : s 146 = nI q) (h : qe_A R σ s) : ∀ (f k : Nat), k ≤ q → q - k < f → qa_fX2_queuePlace_2 R (nI a) f (nI k) σ = some (qo_i (qr_qf s a (q - k) k)) := by
  intro f
  induction f with
  | zero => intro k h1 h2; omega
  | succ f ih =>
    intro k h1 h2
    rw [qa_fX2_queuePlace_2, ra_146 h, h7]
    by_cases e : k = q
    · subst e
      rw [if_pos (nI_le (Nat.le_refl _) (by omega)), Nat.sub_self]
      rfl
    · obtain ⟨d, hd⟩ : ∃ d, q - k = d + 1 := ⟨q - k - 1, by omega⟩
      rw [if_neg (nI_ge (by omega) (by omega)), at_in (by omega) (by omega), ra_q h (by omega) (by omega), hd]
      unfold qr_qf
      by_cases c : s (147 + k) = nI a
      · rw [if_neg (not_not_intro c), if_pos c]
        rfl
      · rw [if_pos c, if_neg c, qk_a1, nI_1]
        have := ih (k + 1) (by omega) (by omega)
        rw [show q - (k + 1) = d by omega] at this
        exact this
theorem cl_qp {a : Nat} (h : qe_A R σ s) (hq : qi_qd s) : qa_fX2_queuePlace R (nI a) σ = some (qo_i (qr_qp s a)) := by
  have h1 := qn_int hq.1
  have h2 := hq.2.1
  unfold qa_fX2_queuePlace qr_qp
  exact cl_qp_l (q := qn (s 146)) (by omega) rfl (qn_of hq.1) h qa_fu 0 (by omega) (by unfold qa_fu; omega)
theorem cl_ma {a : Nat} (h : qe_A R σ s) (hs : qi_sl s) (hq : qi_qd s) (ha : a < 16) : qa_fX1_mayAsk R (nI a) σ = some (qr_ca s a) := by
  unfold qa_fX1_mayAsk qa_fX1_mayAsk_49 qr_ca
  rw [cl_rd h hs ha, ra_144 h, ra_142 h, cl_qp h hq, Option.bind_some, qk_am1]
  cases c1 : qr_ld s a
  · rw [if_neg (by decide)]
    by_cases c2 : nI a = s 144
    · rw [if_pos c2]
      simp [c2]
    · rw [if_neg c2]
      by_cases c3 : nI a = s 142
      · rw [if_pos c3]
        simp [c3]
      · rw [if_neg c3]
        have c2' : ¬ s 144 = nI a := fun t => c2 t.symm
        have c3' : ¬ s 142 = nI a := fun t => c3 t.symm
        cases c4 : qr_qp s a with
        | none => simp [qo_i, c2', c3']
        | some p =>
          have h5 := qf_s s a _ _ p c4
          have h6 := qn_int hq.1
          have h7 := hq.2.1
          rw [if_pos (show ¬ qo_i (some p) = -1 from qr_nI_m (by omega))]
          simp [c2', c3']
  · rw [if_pos (by decide)]
    simp
theorem fg_none {a : Nat} (e : qr_qp s a = none) : qr_fg s a = s := by
  unfold qr_fg
  rw [e]
theorem fg_some {a p : Nat} (e : qr_qp s a = some p) : qr_fg s a = qr_f0 s p := by
  unfold qr_fg
  rw [e]
/-- what is forgotten -/
theorem cl_fg {a : Nat} (h : qe_R R σ s) (hs : qi_sl s) (hq : qi_qd s) : ∃ σ', ((qa_fX2_queuePlace R (nI a) σ).bind fun c5 => if c5 = -1 then some σ else qa_fX2_unqueue R c5 σ) = some σ' ∧ qe_R R σ' (qr_fg s a) ∧ qe_F R σ σ' := by
  rw [cl_qp h.1 hq, Option.bind_some]
  cases e : qr_qp s a with
  | none =>
    rw [if_pos (show qo_i none = -1 from rfl), fg_none e]
    exact ⟨σ, rfl, h, qe_Fr⟩
  | some p =>
    have h5 := qf_s s a _ _ p e
    have h6 := qn_int hq.1
    have h7 := hq.2.1
    rw [if_neg (show ¬ qo_i (some p) = -1 from qr_nI_m (by omega)), fg_some e]
    exact cl_uq h hs hq (by omega)
theorem cl_qu {a : Nat} (h : qe_R R σ s) (hs : qi_sl s) (hq : qi_qd s) (h16 : (s 146).toInt < 16) : qe_R R (qa_fX2_queue R (nI a) σ) (qr_aq s a) ∧ qe_F R σ (qa_fX2_queue R (nI a) σ) := by
  have hn := (qi_n hs).2
  have h1 := qn_int hq.1
  have h3 := qn_of hq.1
  have e : qa_fX2_queue R (nI a) σ = qa_wi (qa_wi σ (R, 13) (qn (s 146)) (nI a)) (R, 12) 2 (s 146 + 1) := by
    unfold qa_fX2_queue
    dsimp only
    have e1 : (qa_wi σ (R, 13) (qn (s 146)) (nI a)).1 (R, 12) 2 = s 146 := by rw [wi_np (by simp), ra_146 h.1]
    rw [ra_146 h.1]
    conv => lhs; rw [h3]
    rw [set_in (by omega) (by omega), e1, qk_a1]
  rw [e]
  have g6 : qr_aq s a 146 = s 146 + 1 := by
    unfold qr_aq
    rw [pk_us]
  have g6n : qn (qr_aq s a 146) = qn (s 146) + 1 := by
    rw [g6]
    unfold qn
    rw [qz_p1 (by omega)]
    omega
  refine ⟨⟨fun j hj hl => ?_, ?_⟩, qe_Ft (qe_Fw (by omega)) (qe_Fw (by omega))⟩
  · by_cases c1 : j = 146
    · subst c1
      show (qa_wi (qa_wi σ (R, 13) (qn (s 146)) (nI a)) (R, 12) 2 (s 146 + 1)).1 (R, 12) 2 = _
      rw [wi_eq, g6]
    · have e3 : (qa_wi (qa_wi σ (R, 13) (qn (s 146)) (nI a)) (R, 12) 2 (s 146 + 1)).1 (R, (qx j).1) (qx j).2 = (qa_wi σ (R, 13) (qn (s 146)) (nI a)).1 (R, (qx j).1) (qx j).2 := by
        by_cases c3 : (qx j).1 = 12
        · by_cases c4 : (qx j).2 = 2
          · exact absurd (qx_inj hj (show 146 < 176 by omega) c3 c4) c1
          · rw [wi_ni c4]
        · rw [wi_np (fun t => c3 (congrArg Prod.snd t))]
      rw [e3]
      by_cases c2 : j = 147 + qn (s 146)
      · subst c2
        rw [qx_qu (by omega)]
        dsimp only
        rw [wi_eq]
        unfold qr_aq
        rw [pk_un (by omega), pk_us]
      · rw [aq_o c1 c2]
        have c5 : ¬ ((qx j).1 = 13 ∧ (qx j).2 = qn (s 146)) := fun t => c2 (by rw [← t.2]; exact qx_13 hj t.1)
        have e4 : (qa_wi σ (R, 13) (qn (s 146)) (nI a)).1 (R, (qx j).1) (qx j).2 = σ.1 (R, (qx j).1) (qx j).2 := by
          by_cases c6 : (qx j).1 = 13
          · rw [wi_ni (fun t => c5 ⟨c6, t⟩)]
          · rw [wi_np (fun t => c6 (congrArg Prod.snd t))]
        rw [e4]
        refine h.1 j hj ⟨fun h7 h8 => ?_, fun h7 h8 => ?_⟩
        · have := hl.1 h7 h8
          rw [aq_o (by omega) (by omega)] at this
          exact this
        · have := hl.2 h7 h8
          omega
  · rw [wi_ni (by omega), wi_np (by simp), h.2]
    exact (ta_q (aq_o (by omega) (by omega)) (aq_o (by omega) (by omega)) (fun k hk => ⟨aq_o (by omega) (by omega), aq_o (by omega) (by omega)⟩)).symm
/-- in good time -/
def qr_g2 (s : qs) : Option Nat := match qr_gd s with
  | none => none
  | some a => if qr_ft (s (1 + 7 * a)).toInt s = true then some a else none
theorem cl_gt_l {c : Nat} (h : qe_R R σ s) (hA : qi_A N s) (hc : s 164 = nI c) (hc2 : c ≤ 4) : ∀ (f k j : Nat), k + j = c + 1 → 1 ≤ k → j < f → qa_fX1_nextInGoodTime_2 R f (nI k) σ = some (qo_i (match (if qn (s 113) = 0 then none else qr_gf s j k) with
    | none => none
    | some a => if qr_ft (s (1 + 7 * a)).toInt s = true then some a else none)) := by
  obtain ⟨hs, hp, hw, hl, hq, he, hct⟩ := hA
  have hn := (qi_n hs).2
  have hi := qn_int hs.1
  have hp1 := qn_int hp.1
  have hp2 := (qi_p hp).2
  intro f
  induction f with
  | zero => intro k j _ _ h3; omega
  | succ f ih =>
    intro k j hk h1 hf
    rw [qa_fX1_nextInGoodTime_2, ra_164 h.1, hc]
    cases j with
    | zero =>
      rw [if_pos (nI_lt (by omega) (by omega))]
      by_cases c0 : qn (s 113) = 0
      · rw [if_pos c0]; rfl
      · rw [if_neg c0]; rfl
    | succ j =>
      rw [if_neg (nI_nlt (by omega) (by omega)), cl_sa h.1 hp h1 (by omega), Option.bind_some, qk_am1]
      unfold qa_fX1_nextInGoodTime_73 qa_fX1_nextInGoodTime_72
      rw [qk_a1, nI_1]
      have h5 := ih (k + 1) j (by omega) (by omega) (by omega)
      by_cases c0 : qn (s 113) = 0
      · rw [if_pos c0, if_pos rfl]
        rw [if_pos c0] at h5 ⊢
        exact h5
      · rw [if_neg c0] at h5
        simp only [if_neg c0]
        have h0 : 0 < (s 113).toInt := by omega
        have h7 := qi_sa hp h0 k
        have h8 := qn_int h7.1
        have h9 : qr_sa s k = nI (qn (qr_sa s k)) := qn_of h7.1
        have ha : qn (qr_sa s k) < 16 := by omega
        have hcc := (hs.2.2 _ ha).2.2.2.2.1 (by omega)
        have e1 : ¬ qr_sa s k = -1 := by rw [h9]; exact qr_nI_m ha
        have e2 : qa_fX6_isReady R (qr_sa s k) σ = qr_ld s (qn (qr_sa s k)) := by
          conv => lhs; rw [h9]
          exact cl_rd h.1 hs ha
        have e3 : qa_fX9_at (R, 2) 16 (qr_sa s k) σ = s (1 + 7 * qn (qr_sa s k)) := by
          conv => lhs; rw [h9]
          rw [at_in ha (by omega), ra_c h.1 ha]
        have hft := qr_ft_i hs (b := s (1 + 7 * qn (qr_sa s k))) (by omega) (by omega)
        have hlt : (s 163 < qr_ta s + s (1 + 7 * qn (qr_sa s k))) ↔ ¬ (qr_ta s + s (1 + 7 * qn (qr_sa s k)) ≤ s 163) := by
          rw [qz_lt, qz_le]
          omega
        rw [if_neg e1, e2, e3, ra_163 h.1, h.2]
        unfold qr_gf
        cases c1 : qr_ld s (qn (qr_sa s k))
        · rw [if_neg (show ¬ ¬ qa_bi false = 0 by decide), if_neg (show ¬ false = true by decide)]
          dsimp only
          by_cases c2 : qr_ft (s (1 + 7 * qn (qr_sa s k))).toInt s = true
          · rw [if_neg (fun t => (hlt.mp t) (hft.mpr c2)), if_pos c2, h9, qn_nI (by omega)]
            rfl
          · rw [if_pos (hlt.mpr (fun t => c2 (hft.mp t))), if_neg c2]
            rfl
        · rw [if_pos (by decide), if_pos rfl]
          exact h5
theorem cl_gt (h : qe_R R σ s) (hA : qi_A N s) : qa_fX1_nextInGoodTime R σ = some (qo_i (qr_g2 s)) := by
  have he := hA.2.2.2.2.2.1
  have ha1 := qn_int (x := s 164) he.2.2.1
  have ha2 := he.2.2.2.1
  unfold qa_fX1_nextInGoodTime qr_g2 qr_gd
  exact cl_gt_l h hA (qn_of he.2.2.1) (by omega) qa_fu 1 (qn (s 164)) (by omega) (by omega) (by unfold qa_fu; omega)
end QCC
end
section
/-! the class: loading begins, shows, a tick -/
section QCD
variable {σ σ' : qa_T} {s t : qs} {R N : Nat}
theorem upd_c {f : Nat → Int32} {i j : Nat} {v w : Int32} (h : ¬ i = j) : upd (upd f i v) j w = upd (upd f j w) i v := by
  funext k
  unfold upd
  by_cases c1 : k = i
  · by_cases c2 : k = j
    · omega
    · rw [if_neg c2, if_pos c1, if_pos c1]
  · by_cases c2 : k = j
    · rw [if_pos c2, if_neg c1, if_pos c2]
    · rw [if_neg c2, if_neg c1, if_neg c1, if_neg c2]
theorem ra_e' {s' : qs} (h : qe_A R σ s) (e : s = s') : qe_A R σ s' := by
  subst e
  exact h
theorem cl_75 {a : Nat} {x : Int32} {τ : qa_T} (h : qe_A R τ (upd t 172 (t 172 + x))) (h12 : τ.1 (R, 12) 4 = qr_ta t) (hx : x = if t (1 + 7 * a + 4) ≤ 0 then 0 else 1) (hA : qi_A N t) (ha : a < qn (t 0)) (h4 : t 144 = -1) (h3 : t (1 + 7 * a + 3) = 0) (hA2 : qi_A N (qr_s0 t a)) : ∃ σ', qa_fX1_beginLoading_75 R (nI a) (t (1 + 7 * a)) τ = some σ' ∧ qe_R R σ' (qr_s0 t a) ∧ qe_F R τ σ' := by
  have hn := (qi_n hA.1).2
  have hi := qn_int hA.1.1
  have ha2 : a < 16 := by omega
  have g1 : τ.1 (R, 15) 3 = t 171 := by rw [ra_171 h, pk_un (by omega)]
  have h1 : qe_A R (qa_wi τ (R, 15) 3 (t 171 + 1)) (upd (upd t 172 (t 172 + x)) 171 (t 171 + 1)) := ra_w h (by omega) (by omega) (by omega) rfl rfl
  have h2 : qe_A R (qa_wi (qa_wi τ (R, 15) 3 (t 171 + 1)) (R, 12) 0 (nI a)) (upd (upd (upd t 172 (t 172 + x)) 171 (t 171 + 1)) 144 (nI a)) := ra_w h1 (by omega) (by omega) (by omega) rfl rfl
  have g2 : qa_fX6_ticksToLoad R (nI a) (Int32.ofInt 0) (qa_wi (qa_wi τ (R, 15) 3 (t 171 + 1)) (R, 12) 0 (nI a)) = qr_du t a := by
    rw [cl_du h2 ha2]
    unfold qr_du
    simp (disch := omega) only [pk_us, pk_un, qz_ue]
  have h3' : qe_A R (qa_wi (qa_wi (qa_wi τ (R, 15) 3 (t 171 + 1)) (R, 12) 0 (nI a)) (R, 12) 1 (qr_du t a)) (upd (upd (upd (upd t 172 (t 172 + x)) 171 (t 171 + 1)) 144 (nI a)) 145 (qr_du t a)) := ra_w h2 (by omega) (by omega) (by omega) rfl rfl
  have g3 : (qa_wi (qa_wi (qa_wi τ (R, 15) 3 (t 171 + 1)) (R, 12) 0 (nI a)) (R, 12) 1 (qr_du t a)).1 (R, 12) 4 = qr_ta t := by rw [wi_ni (by omega), wi_ni (by omega), wi_np (by simp), h12]
  have h4' : qe_A R (qa_wi (qa_wi (qa_wi (qa_wi τ (R, 15) 3 (t 171 + 1)) (R, 12) 0 (nI a)) (R, 12) 1 (qr_du t a)) (R, 12) 4 (qr_ta t + t (1 + 7 * a))) (upd (upd (upd (upd t 172 (t 172 + x)) 171 (t 171 + 1)) 144 (nI a)) 145 (qr_du t a)) := ra_o h3' (Or.inr (Or.inr ⟨rfl, by omega⟩))
  have h5' : qe_A R (qa_wi (qa_wi (qa_wi (qa_wi (qa_wi τ (R, 15) 3 (t 171 + 1)) (R, 12) 0 (nI a)) (R, 12) 1 (qr_du t a)) (R, 12) 4 (qr_ta t + t (1 + 7 * a))) (R, 6) a 0) (upd (upd (upd (upd (upd t 172 (t 172 + x)) 171 (t 171 + 1)) 144 (nI a)) 145 (qr_du t a)) (1 + 7 * a + 4) 0) := ra_w h4' (by omega) (by omega) (by omega) (by rw [qx_sl ha2 (by omega)]) (by rw [qx_sl ha2 (by omega)])
  have e : upd (upd (upd (upd (upd t 172 (t 172 + x)) 171 (t 171 + 1)) 144 (nI a)) 145 (qr_du t a)) (1 + 7 * a + 4) 0 = qr_s0 t a := by
    unfold qr_s0
    rw [← hx, upd_c (i := 172) (j := 171) (by omega), upd_c (i := 172) (j := 144) (by omega), upd_c (i := 171) (j := 144) (by omega), upd_c (i := 172) (j := 145) (by omega), upd_c (i := 171) (j := 145) (by omega)]
  unfold qa_fX1_beginLoading_75
  dsimp only
  rw [g1, qk_a1, g2, g3, set_in ha2 (by omega), qk_a0]
  refine ⟨_, rfl, ⟨ra_e' h5' e, ?_⟩, qe_Ft (qe_Ft (qe_Ft (qe_Ft (qe_Fw (by omega)) (qe_Fw (by omega))) (qe_Fw (by omega))) (qe_Fw (by omega))) (qe_Fw (by omega))⟩
  have b1 := qr_ta_b hA.1
  have b2 := (hA.1.2.2 a ha2).2.2.2.2.1 (by omega)
  rw [wi_np (by simp), wi_eq, qz_eq, s0_ta hA ha h4 h3 hA2.1, qz_add (by omega) (by omega)]
theorem cl_st {a : Nat} (h : qe_R R σ s) (hA : qi_A N s) (ha : a < qn (s 0)) (h4 : s 144 = -1) (h3 : s (1 + 7 * a + 3) = 0) (hq0 : ∀ k : Nat, (k : Int) < (s 146).toInt → ¬ s (147 + k) = nI a) : ∃ σ', ((qa_fX1_burnDownTo R (s 163 - s (1 + 7 * a)) σ).bind fun c6 =>
        if (qa_fX9_at (R, 6) 16 (nI a) c6) ≤ 0 then
          qa_fX1_beginLoading_75 R (nI a) (s (1 + 7 * a)) c6
        else
          let σ14 := qa_wi c6 (R, 15) 4 ((c6.1 (R, 15) 4) + (Int32.ofInt 1))
          qa_fX1_beginLoading_75 R (nI a) (s (1 + 7 * a)) σ14) = some σ' ∧ qe_R R σ' (qr_st s a) ∧ qe_F R σ σ' := by
  have hs := hA.1
  have hn := (qi_n hs).2
  have hi := qn_int hs.1
  have ha2 : a < 16 := by omega
  have hc := (hs.2.2 a ha2).2.2.2.2.1 (by omega)
  have hm := hA.2.2.2.2.2.1.1
  have hm2 := hA.2.2.2.2.2.1.2.1
  have hq2 := hA.2.2.2.2.1.2.1
  obtain ⟨τ, a1, a2, a3⟩ := cl_bd (m := (s (1 + 7 * a)).toInt) (x := s 163 - s (1 + 7 * a)) h hA (by rw [qz_sub (by omega) (by omega)])
  have hAt := mr_A (m := (s (1 + 7 * a)).toInt) hA
  have o : ∀ i, (i < 1 ∨ 112 < i ∨ ∃ k w, i = 1 + 7 * k + w ∧ (w < 3 ∨ w = 6)) → ¬ i = 173 → (qr_mr (s (1 + 7 * a)).toInt s).2 i = s i := fun i h1 h2 => mr_o hs h1 h2
  have h3' : (qr_mr (s (1 + 7 * a)).toInt s).2 (1 + 7 * a + 3) = 0 := rm_3 _ s (ln_16 hs) h3
  have oc := o (1 + 7 * a) (Or.inr (Or.inr ⟨a, 0, rfl, Or.inl (by omega)⟩)) (by omega)
  unfold qr_st
  rw [a1, Option.bind_some]
  generalize (qr_mr (s (1 + 7 * a)).toInt s).2 = t at a2 hAt o h3' oc ⊢
  have e0 := o 0 (by omega) (by omega)
  have e144 := o 144 (by omega) (by omega)
  have hA2 : qi_A N (qr_s0 t a) := s0_A hAt (by rw [e0]; exact ha) h3' (fun k hk => by
    rw [o 146 (by omega) (by omega)] at hk
    rw [o (147 + k) (by omega) (by omega)]
    exact hq0 k hk)
  rw [at_in ha2 (by omega), ra_e a2.1 ha2, ← oc]
  by_cases c : t (1 + 7 * a + 4) ≤ 0
  · rw [if_pos c]
    obtain ⟨σ', b1, b2, b3⟩ := cl_75 (x := 0) (ra_e' a2.1 (by rw [Int32.add_zero, qz_us rfl])) a2.2 (by rw [if_pos c]) hAt (by rw [e0]; exact ha) (by rw [e144]; exact h4) h3' hA2
    exact ⟨σ', b1, b2, qe_Ft a3 b3⟩
  · rw [if_neg c]
    dsimp only
    rw [ra_172 a2.1, qk_a1]
    obtain ⟨σ', b1, b2, b3⟩ := cl_75 (τ := qa_wi τ (R, 15) 4 (t 172 + 1)) (x := 1) (ra_w a2.1 (by omega) (by omega) (by omega) rfl rfl) (by rw [wi_np (by simp)]; exact a2.2) (by rw [if_neg c]) hAt (by rw [e0]; exact ha) (by rw [e144]; exact h4) h3' hA2
    exact ⟨σ', b1, b2, qe_Ft a3 (qe_Ft (qe_Fw (by omega)) b3)⟩
theorem cl_bg (h : qe_R R σ s) (hA : qi_A N s) : ∃ σ', qa_fX1_beginLoading R σ = some σ' ∧ qe_R R σ' (qr_bg s) ∧ qe_F R σ σ' := by
  have hA' := hA
  obtain ⟨hs, hp, hw, hl, hq, he, hc⟩ := hA
  have hn := (qi_n hs).2
  have hi := qn_int hs.1
  unfold qa_fX1_beginLoading qa_fX1_nextToLoad qr_bg
  rw [ra_144 h.1, ra_142 h.1, ra_146 h.1]
  simp only [qk_am1, qk_a0]
  have start : ∀ (τ : qa_T) (t : qs) (a : Nat), qe_R R τ t → qi_A N t → a < qn (t 0) → t 144 = -1 → t (1 + 7 * a + 3) = 0 → (∀ k : Nat, (k : Int) < (t 146).toInt → ¬ t (147 + k) = nI a) → ∃ σ', (if ¬ nI a = -1 then
        let v5 : Int32 := (qa_fX9_at (R, 2) 16 (nI a) τ)
        (qa_fX1_burnDownTo R ((τ.1 (R, 14) 0) - v5) τ).bind fun c6 =>
        if (qa_fX9_at (R, 6) 16 (nI a) c6) ≤ 0 then
          qa_fX1_beginLoading_75 R (nI a) v5 c6
        else
          let σ14 := qa_wi c6 (R, 15) 4 ((c6.1 (R, 15) 4) + (Int32.ofInt 1))
          qa_fX1_beginLoading_75 R (nI a) v5 σ14
      else
        some τ) = some σ' ∧ qe_R R σ' (qr_st t a) ∧ qe_F R τ σ' := by
    intro τ t a b1 b2 b3 b4 b5 b6
    have hn2 := (qi_n b2.1).2
    have ha2 : a < 16 := by omega
    rw [if_pos (qr_nI_m ha2)]
    dsimp only
    rw [at_in ha2 (by omega), ra_c b1.1 ha2, ra_163 b1.1]
    exact cl_st b1 b2 b3 b4 b5 b6
  by_cases c1 : s 144 = -1
  · rw [if_pos c1, if_neg (not_not_intro c1)]
    by_cases c2 : s 142 = -1
    · rw [if_pos c2, if_neg (not_not_intro c2)]
      have hq1 := qn_int hq.1
      by_cases c3 : qn (s 146) = 0
      · rw [if_pos (by rw [qz_l0]; omega), if_pos c3, cl_gt h hA', Option.bind_some, Option.bind_some]
        dsimp only
        have stop : qr_g2 s = none → qr_b3 s = s → ∃ σ', (if ¬ qo_i (qr_g2 s) = -1 then
            (qa_fX1_burnDownTo R ((σ.1 (R, 14) 0) - (qa_fX9_at (R, 2) 16 (qo_i (qr_g2 s)) σ)) σ).bind fun c6 =>
            if (qa_fX9_at (R, 6) 16 (qo_i (qr_g2 s)) c6) ≤ 0 then
              qa_fX1_beginLoading_75 R (qo_i (qr_g2 s)) (qa_fX9_at (R, 2) 16 (qo_i (qr_g2 s)) σ) c6
            else
              qa_fX1_beginLoading_75 R (qo_i (qr_g2 s)) (qa_fX9_at (R, 2) 16 (qo_i (qr_g2 s)) σ) (qa_wi c6 (R, 15) 4 ((c6.1 (R, 15) 4) + (Int32.ofInt 1)))
          else
            some σ) = some σ' ∧ qe_R R σ' (qr_b3 s) ∧ qe_F R σ σ' := by
          intro h1 h2
          rw [h1, h2, if_neg (not_not_intro (show qo_i none = -1 from rfl))]
          exact ⟨σ, rfl, h, qe_Fr⟩
        cases e : qr_gd s with
        | none =>
          exact stop (by unfold qr_g2; rw [e]) (by unfold qr_b3; rw [e])
        | some a =>
          obtain ⟨g1, g2, g3⟩ := gd_s hp hs e
          by_cases c4 : qr_ft (s (1 + 7 * a)).toInt s = true
          · have h1 : qr_g2 s = some a := by
              unfold qr_g2
              rw [e]
              dsimp only
              rw [if_pos c4]
            have h2 : qr_b3 s = qr_st s a := by
              unfold qr_b3
              rw [e]
              dsimp only
              rw [if_pos c4]
            rw [h1, h2]
            exact start σ s a h hA' g1 c1 g2 (fun k hk => by omega)
          · refine stop ?_ ?_
            · unfold qr_g2
              rw [e]
              dsimp only
              rw [if_neg c4]
            · unfold qr_b3
              rw [e]
              dsimp only
              rw [if_neg c4]
      · rw [if_neg (by rw [qz_l0]; omega), if_neg c3]
        have hq2 := hq.2.2.1 0 (by omega)
        rw [Nat.add_zero] at hq2
        obtain ⟨r1, r2, r3, r4, r5⟩ := hq2
        have r6 := qn_int r1
        have e7 : s 147 = nI (qn (s 147)) := qn_of r1
        have e8 : qa_fX9_at (R, 13) 16 0 σ = nI (qn (s 147)) := by
          rw [show (0 : Int32) = nI 0 from rfl, at_in (by omega) (by omega), ra_q h.1 (by omega) (by omega)]
          exact e7
        have e9 : qr_qp s (qn (s 147)) = some 0 := by
          obtain ⟨q, e⟩ : ∃ q, qn (s 146) = q + 1 := ⟨qn (s 146) - 1, by omega⟩
          unfold qr_qp
          rw [e]
          unfold qr_qf
          rw [if_pos e7]
        obtain ⟨τ, a1, a2, a3⟩ := cl_uq (p := 0) h hs (qi_qdq hq) (by omega)
        have a4 : qa_fX2_unqueue R 0 σ = some τ := a1
        rw [e8, a4]
        simp only [Option.bind_some]
        rw [← fg_some e9] at a2
        have hf := fg_A (a := qn (s 147)) hA'
        obtain ⟨f1, f2⟩ := fg_q (qi_qdq hq) (qn (s 147))
        have fo : ∀ i, i < 146 ∨ 163 ≤ i → qr_fg s (qn (s 147)) i = s i := fun i hi => fg_o (qi_qdq hq) _ hi
        obtain ⟨σ', b1, b2, b3⟩ := start τ _ (qn (s 147)) a2 hf (by rw [fo 0 (by omega)]; omega) (by rw [fo 144 (by omega)]; exact c1) (by rw [fo _ (by omega)]; exact r5) (fun k hk => (f2 k hk).1)
        exact ⟨σ', b1, b2, qe_Ft a3 b3⟩
    · rw [if_neg c2, if_pos c2]
      have g1 : 0 ≤ (s 142).toInt := by
        have := hl.1
        rw [qz_m1] at c2
        omega
      have g2 := qn_int g1
      have g3 := hl.2.1
      have e7 : s 142 = nI (qn (s 142)) := qn_of g1
      rw [Option.bind_some]
      dsimp only
      generalize hz : qn (s 142) = z at e7 g2 ⊢
      rw [e7]
      exact start σ s z h hA' (by omega) c1 (hl.2.2.2.2.2 _ (by omega) (Or.inl ⟨by omega, by omega⟩)) (fun k hk => by rw [← e7]; exact (hq.2.2.1 k hk).2.2.1)
  · rw [if_neg c1, if_pos c1]
    exact ⟨σ, rfl, h, qe_Fr⟩
theorem cl_us {a : Nat} (h : qe_R R σ s) (hs : qi_sl s) (ha : a < 16) : qe_R R (qa_fX6_use R (nI a) σ) (qr_us s a) ∧ qe_F R σ (qa_fX6_use R (nI a) σ) := by
  have hn := (qi_n hs).2
  have e : qa_fX6_use R (nI a) σ = qa_wi (qa_wi σ (R, 1) 8 (s 175 + 1)) (R, 8) a (s 175 + 1) := by
    unfold qa_fX6_use
    dsimp only
    rw [ra_175 h.1, qk_a1, wi_eq, set_in ha (by omega)]
  rw [e]
  refine ⟨⟨?_, ?_⟩, qe_Ft (qe_Fw (by omega)) (qe_Fw (by omega))⟩
  · exact ra_w (ra_w (i := 175) h.1 (by omega) (by omega) (by omega) rfl rfl) (by omega) (by omega) (by omega) (by rw [qx_sl ha (by omega)]) (by rw [qx_sl ha (by omega)])
  · rw [wi_np (by simp), wi_np (by simp), h.2]
    exact (ta_q (us_o (by omega) (by omega)) (us_o (by omega) (by omega)) (fun k hk => ⟨us_o (by omega) (by omega), us_o (by omega) (by omega)⟩)).symm
theorem cl_sh {a : Nat} (h : qe_R R σ s) (hs : qi_sl s) (hw : qi_sw s) (ha : a < qn (s 0)) : qe_R R (qa_fX1_bringOn R (nI a) σ) (qr_sh s a) ∧ qe_F R σ (qa_fX1_bringOn R (nI a) σ) := by
  have hn := (qi_n hs).2
  have hi := qn_int hs.1
  have ha2 : a < 16 := by omega
  have hf := ((hs.2.2 a ha2).2.2.2.2.1 (by omega)).2.2.2.2
  obtain ⟨w1, w2, w3, w4, w5, w6, w7, w8⟩ := hw
  have fin : ∀ τ, qe_R R τ (qr_sf s a) → qe_F R σ τ → qe_R R (qa_fX6_use R (nI a) (qa_fX7_bring_41 R (nI a) (s (1 + 7 * a + 2)) τ)) (qr_sh s a) ∧ qe_F R σ (qa_fX6_use R (nI a) (qa_fX7_bring_41 R (nI a) (s (1 + 7 * a + 2)) τ)) := by
    intro τ b1 b2
    have e : qa_fX7_bring_41 R (nI a) (s (1 + 7 * a + 2)) τ = qa_wi (qa_wi (qa_wi τ (R, 11) 0 (nI a)) (R, 11) 1 0) (R, 11) 4 (-1) := by
      unfold qa_fX7_bring_41
      rw [qk_a0, qk_am1]
    rw [e]
    have h1 : qe_R R (qa_wi (qa_wi (qa_wi τ (R, 11) 0 (nI a)) (R, 11) 1 0) (R, 11) 4 (-1)) (upd (upd (upd (qr_sf s a) 139 (nI a)) 143 0) 142 (-1)) := by
      refine ⟨ra_w (ra_w (ra_w (i := 139) b1.1 (by omega) (by omega) (by omega) rfl rfl) (i := 143) (by omega) (by omega) (by omega) rfl rfl) (i := 142) (by omega) (by omega) (by omega) rfl rfl, ?_⟩
      rw [wi_np (by simp), wi_np (by simp), wi_np (by simp), b1.2]
      have e0 : qr_sf s a 0 = s 0 := sf_o (by omega) (by omega)
      exact (ta_q (by simp (disch := omega) only [pk_us, pk_un, qz_ue]) (by simp (disch := omega) only [pk_us, pk_un, qz_ue]) (fun k hk => by
        rw [e0] at hk
        constructor <;> simp (disch := omega) only [pk_us, pk_un, qz_ue])).symm
    have h2 : qi_sl (upd (upd (upd (qr_sf s a) 139 (nI a)) 143 0) 142 (-1)) := by
      refine qq_sl hs (fun i hi => ?_)
      rw [pk_un (by omega), pk_un (by omega), pk_un (by omega), sf_o (by omega) (by omega)]
    obtain ⟨c1, c2⟩ := cl_us h1 h2 ha2
    exact ⟨c1, qe_Ft b2 (qe_Ft (qe_Ft (qe_Ft (qe_Fw (by omega)) (qe_Fw (by omega))) (qe_Fw (by omega))) c2)⟩
  have sfR : ∀ τ, qe_A R τ (qr_sf s a) → τ.1 (R, 12) 4 = σ.1 (R, 12) 4 → qe_R R τ (qr_sf s a) := fun τ b1 b2 => ⟨b1, by
    rw [b2, h.2]
    exact (ta_q (sf_o (by omega) (by omega)) (sf_o (by omega) (by omega)) (fun k hk => ⟨sf_o (by omega) (by omega), sf_o (by omega) (by omega)⟩)).symm⟩
  unfold qa_fX1_bringOn
  dsimp only
  rw [at_in ha2 (by omega), ra_f h.1 ha2]
  unfold qa_fX7_bring
  rw [ra_139 h.1, qk_am1]
  by_cases c1 : nI a = s 139
  · rw [if_pos c1]
    refine fin σ ?_ qe_Fr
    unfold qr_sf
    rw [if_pos (Or.inr c1.symm)]
    exact h
  · rw [if_neg c1]
    have both : ∀ v : Int32, (if s (1 + 7 * a + 2) ≤ 0 then (-1 : Int32) else s 139) = v → qe_R R (qa_fX6_use R (nI a) (qa_fX7_bring_21 R (nI a) (s (1 + 7 * a + 2)) v σ)) (qr_sh s a) ∧ qe_F R σ (qa_fX6_use R (nI a) (qa_fX7_bring_21 R (nI a) (s (1 + 7 * a + 2)) v σ)) := by
      intro v hv
      unfold qa_fX7_bring_21 qa_fX7_bring_38
      dsimp only
      rw [wi_eq, qk_am1, qk_a0]
      have h1 : qe_A R (qa_wi σ (R, 11) 2 v) (upd s 140 v) := ra_w h.1 (by omega) (by omega) (by omega) rfl rfl
      have h2 : ∀ w, qe_A R (qa_wi (qa_wi σ (R, 11) 2 v) (R, 11) 3 w) (upd (upd s 140 v) 141 w) := fun w => ra_w h1 (by omega) (by omega) (by omega) rfl rfl
      have hF : ∀ w, qe_F R σ (qa_wi (qa_wi σ (R, 11) 2 v) (R, 11) 3 w) := fun w => qe_Ft (qe_Fw (by omega)) (qe_Fw (by omega))
      have h12 : ∀ w, (qa_wi (qa_wi σ (R, 11) 2 v) (R, 11) 3 w).1 (R, 12) 4 = σ.1 (R, 12) 4 := fun w => by rw [wi_np (by simp), wi_np (by simp)]
      by_cases c2 : s 139 = -1
      · have hv2 : v = -1 := by
          rw [← hv, c2]
          split <;> rfl
        have w9 := w8 (qz_m1.mp c2)
        have w10 := w7.mpr w9.1
        rw [if_pos hv2]
        refine fin _ (sfR _ (ra_e' (h2 0) ?_) (h12 0)) (hF 0)
        unfold qr_sf
        rw [if_pos (Or.inl c2), hv2, qz_us (k := 140) (qz_m1.mpr w10).symm, qz_us (qz_00.mpr w9.1).symm]
      · have esf : qr_sf s a = upd (upd s 141 (s (1 + 7 * a + 2))) 140 v := by
          unfold qr_sf
          rw [if_neg (fun t => t.elim c2 (fun t => c1 t.symm)), hv]
        by_cases c3 : s (1 + 7 * a + 2) ≤ 0
        · rw [if_pos c3] at hv
          rw [if_pos hv.symm]
          refine fin _ (sfR _ (ra_e' (h2 0) ?_) (h12 0)) (hF 0)
          rw [esf, upd_c (by omega)]
          rw [qz_l0] at c3
          rw [show s (1 + 7 * a + 2) = 0 from qz_00.mpr (by omega)]
        · rw [if_neg c3] at hv
          rw [if_neg (by rw [← hv]; exact c2)]
          refine fin _ (sfR _ (ra_e' (h2 _) ?_) (h12 _)) (hF _)
          rw [esf, upd_c (by omega)]
    by_cases c3 : s (1 + 7 * a + 2) ≤ 0
    · rw [if_pos c3]
      exact both (-1) (by rw [if_pos c3])
    · rw [if_neg c3]
      exact both (s 139) (by rw [if_neg c3])
end QCD
end
section
/-! the class: it goes on, a tick, ticks -/
section QCE
variable {σ σ' : qa_T} {s t : qs} {R N : Nat}
theorem cl_cg (h : qe_A R σ s) : qa_fX1_mayGoOn R σ = qr_cg s := by
  unfold qa_fX1_mayGoOn qa_fX1_mayGoOn_25 qr_cg
  rw [ra_113 h, ra_142 h, qk_am1]
  by_cases c1 : s 113 ≤ 0 <;> by_cases c2 : s 142 = -1 <;> simp [c1, c2]
theorem cl_ad (h : qe_A R σ s) (hs : qi_sl s) (hp : qi_pr s) (h0 : 0 < (s 113).toInt) : qa_fX3_advance R σ = (nI (qr_ga s), qa_wi σ (R, 9) 1 (nI (qr_ix s 1))) := by
  have h1 := hp.2.2.1
  have h2 := hp.2.2.2.1
  have h3 := hp.2.1
  have h4 := (qi_ixb hp h0 1)
  have h5 := (qi_p hp).2
  obtain ⟨a1, a2⟩ := ga_b hp h0 hs
  have key : qa_fX3_advance_24 R (nI (qr_ix s 1)) σ = (nI (qr_ga s), qa_wi σ (R, 9) 1 (nI (qr_ix s 1))) := by
    unfold qa_fX3_advance_24
    dsimp only
    rw [wi_eq, at_in (by omega) (by omega), wi_np (by simp), ra_p h h4.1 (by omega), a2]
  unfold qa_fX3_advance
  rw [ra_113 h, ra_138 h, qk_a1, qk_a0]
  have e1 : (s 138 + 1).toInt = (s 138).toInt + 1 := qz_p1 (by omega)
  by_cases c : s 113 ≤ s 138 + 1
  · rw [if_pos c, ← key]
    congr 1
    rw [qz_le, e1] at c
    have : qr_ix s 1 = 0 := by
      have h6 := h4.2
      rw [show (s 138).toInt + ((1 : Nat) : Int) = (s 113).toInt by omega, Int.emod_self] at h6
      omega
    rw [this]
    rfl
  · rw [if_neg c, ← key]
    congr 1
    rw [qz_le, e1] at c
    have h6 := h4.2
    rw [Int.emod_eq_of_lt (by omega) (by omega)] at h6
    rw [qz_eq, e1, qz_nI (by omega)]
    omega
theorem cl_go (h : qe_R R σ s) (hA : qi_A N s) (h0 : 0 < (s 113).toInt) : ∃ σ', qa_fX1_proceed R σ = some ((qr_go s).1, σ') ∧ qe_R R σ' (qr_go s).2 ∧ qe_F R σ σ' := by
  obtain ⟨hs, hp, hw, hl, hq, he, hc⟩ := hA
  obtain ⟨a1, a2⟩ := ga_b hp h0 hs
  have hn := (qi_n hs).2
  have hi := qn_int hs.1
  have ha : qr_ga s < 16 := by omega
  have h1 : qe_A R (qa_wi σ (R, 9) 1 (nI (qr_ix s 1))) (qr_g0 s) := ra_w h.1 (by omega) (by omega) (by omega) rfl rfl
  have hs1 : qi_sl (qr_g0 s) := qq_sl hs (fun i hi => g0_o (by omega))
  have e1 : qr_ld (qr_g0 s) (qr_ga s) = qr_ld s (qr_ga s) := by
    unfold qr_ld
    rw [g0_o (by omega)]
  unfold qa_fX1_proceed qa_fX1_proceed_82
  rw [cl_ad h.1 hs hp h0]
  dsimp only
  rw [cl_rd h1 hs1 ha, e1, ra_169 h1, ra_170 h1, g0_o (i := 169) (by omega), g0_o (i := 170) (by omega), qk_a1, qk_am1]
  unfold qr_go
  cases c : qr_ld s (qr_ga s)
  · rw [if_pos (show qa_bi false = 0 from rfl), if_neg (show ¬ false = true by decide)]
    have h2 : qe_R R (qa_wi (qa_wi (qa_wi σ (R, 9) 1 (nI (qr_ix s 1))) (R, 15) 2 (s 170 + 1)) (R, 11) 4 (nI (qr_ga s))) (upd (upd (qr_g0 s) 170 (s 170 + 1)) 142 (nI (qr_ga s))) := by
      refine ⟨ra_w (ra_w h1 (i := 170) (by omega) (by omega) (by omega) rfl rfl) (i := 142) (by omega) (by omega) (by omega) rfl rfl, ?_⟩
      rw [wi_np (by simp), wi_np (by simp), wi_np (by simp), h.2]
      have eo : ∀ i, ¬ i = 138 → ¬ i = 170 → ¬ i = 142 → upd (upd (qr_g0 s) 170 (s 170 + 1)) 142 (nI (qr_ga s)) i = s i := fun i h1 h2 h3 => by rw [pk_un h3, pk_un h2, g0_o h1]
      exact (ta_q (eo _ (by omega) (by omega) (by omega)) (eo _ (by omega) (by omega) (by omega)) (fun k hk => ⟨eo _ (by omega) (by omega) (by omega), eo _ (by omega) (by omega) (by omega)⟩)).symm
    have hs2 : qi_sl (upd (upd (qr_g0 s) 170 (s 170 + 1)) 142 (nI (qr_ga s))) := qq_sl hs (fun i hi => by rw [pk_un (by omega), pk_un (by omega), g0_o (by omega)])
    have hqd : qi_qd (upd (upd (qr_g0 s) 170 (s 170 + 1)) 142 (nI (qr_ga s))) := by
      have h1 := qi_qdq hq
      have h2 := h1.2.1
      have eo : ∀ i, ¬ i = 138 → ¬ i = 170 → ¬ i = 142 → upd (upd (qr_g0 s) 170 (s 170 + 1)) 142 (nI (qr_ga s)) i = s i := fun i h1 h2 h3 => by rw [pk_un h3, pk_un h2, g0_o h1]
      unfold qi_qd
      rw [eo 146 (by omega) (by omega) (by omega)]
      refine ⟨h1.1, h1.2.1, fun j k hj hk => ?_⟩
      rw [eo (147 + j) (by omega) (by omega) (by omega), eo (147 + k) (by omega) (by omega) (by omega)]
      exact h1.2.2 j k hj hk
    obtain ⟨σ', b1, b2, b3⟩ := cl_fg (a := qr_ga s) h2 hs2 hqd
    refine ⟨σ', ?_, b2, qe_Ft (qe_Ft (qe_Ft (qe_Fw (by omega)) (qe_Fw (by omega))) (qe_Fw (by omega))) b3⟩
    rw [cl_qp h2.1 hqd, Option.bind_some] at b1 ⊢
    by_cases c2 : qo_i (qr_qp (upd (upd (qr_g0 s) 170 (s 170 + 1)) 142 (nI (qr_ga s))) (qr_ga s)) = -1
    · rw [if_pos c2] at b1 ⊢
      cases b1
      rfl
    · rw [if_neg c2] at b1 ⊢
      rw [b1]
      rfl
  · rw [if_neg (show ¬ qa_bi true = 0 by decide), if_pos rfl]
    have eo : ∀ i, ¬ i = 138 → ¬ i = 169 → upd (qr_g0 s) 169 (s 169 + 1) i = s i := fun i h1 h2 => by rw [pk_un h2, g0_o h1]
    have h2 : qe_R R (qa_wi (qa_wi σ (R, 9) 1 (nI (qr_ix s 1))) (R, 15) 1 (s 169 + 1)) (upd (qr_g0 s) 169 (s 169 + 1)) := by
      refine ⟨ra_w h1 (i := 169) (by omega) (by omega) (by omega) rfl rfl, ?_⟩
      rw [wi_np (by simp), wi_np (by simp), h.2]
      exact (ta_q (eo _ (by omega) (by omega)) (eo _ (by omega) (by omega)) (fun k hk => ⟨eo _ (by omega) (by omega), eo _ (by omega) (by omega)⟩)).symm
    obtain ⟨c1, c2⟩ := cl_sh (a := qr_ga s) h2 (qq_sl hs fun i hi => eo i (by omega) (by omega)) (qq_sw hw (eo _ (by omega) (by omega)) (eo _ (by omega) (by omega)) (eo _ (by omega) (by omega)) (eo _ (by omega) (by omega)) (eo _ (by omega) (by omega))) (by rw [eo 0 (by omega) (by omega)]; exact a1)
    exact ⟨_, rfl, c1, qe_Ft (qe_Ft (qe_Fw (by omega)) (qe_Fw (by omega))) c2⟩
theorem em_c {i : Nat} {v : Int32} (h : ∀ k, k < 16 → ¬ i = 1 + 7 * k + 4) : ∀ k, k ≤ 16 → qr_em (upd s i v) k = upd (qr_em s k) i v := by
  intro k
  induction k with
  | zero => intro _; rfl
  | succ k ih =>
    intro hk
    rw [em_s, em_s, ih (by omega), pk_un (fun t => h k (by omega) t.symm), upd_c (h k (by omega))]
theorem cl_em {n : Nat} (hn : n ≤ 16) (h0 : s 0 = nI n) (hs : qi_sl s) : ∀ (m k : Nat) (σ : qa_T), qe_A R σ (qr_em s k) → k ≤ n → n - k < m → ∃ σ', qa_fX6_coolEmbers_2 R m (nI k) σ = some σ' ∧ qe_A R σ' (qr_em s n) ∧ qe_O (R, 6) σ σ' := by
  intro m
  induction m with
  | zero => intro k σ _ h1 h2; omega
  | succ m ih =>
    intro k σ h hk hm
    have e0 : qr_em s k 0 = nI n := by rw [em_o s (by omega) k (by omega), h0]
    rw [qa_fX6_coolEmbers_2, ra_n0 h, e0]
    unfold qa_fX6_coolEmbers_44 qa_fX6_coolEmbers_38
    by_cases e : k = n
    · subst e
      rw [if_pos (nI_le (Nat.le_refl _) (by omega))]
      exact ⟨σ, rfl, h, qe_Or⟩
    · have hk2 : k < 16 := by omega
      have e4 : qr_em s k (1 + 7 * k + 4) = s (1 + 7 * k + 4) := by rw [em_4, if_neg (by omega)]
      have h2 := (hs.2.2 k hk2).2.1
      rw [if_neg (nI_ge (by omega) (by omega)), if_neg (show ¬ Int32.ofNat 16 ≤ nI k from nI_ge hk2 (by omega)), qz_ifn hk2 (by omega), nI_clamp (by omega), ra_e h hk2, e4, qz_ifn hk2 (by omega), qz_ifn hk2 (by omega), qk_a1, nI_1]
      by_cases c : s (1 + 7 * k + 4) ≤ 0
      · rw [if_pos c]
        refine ih (k + 1) σ (ra_e' h ?_) (by omega) (by omega)
        rw [em_s, if_pos c]
        refine (qz_us ?_).symm
        rw [e4]
        rw [qz_l0] at c
        exact (qz_00.mpr (by omega)).symm
      · rw [if_neg c]
        dsimp only
        obtain ⟨σ', a1, a2, a3⟩ := ih (k + 1) (qa_wi σ (R, 6) k (s (1 + 7 * k + 4) - 1)) (by
          rw [em_s, if_neg c]
          exact ra_w h (by omega) (by omega) (by omega) (by rw [qx_sl hk2 (by omega)]) (by rw [qx_sl hk2 (by omega)])) (by omega) (by omega)
        exact ⟨σ', a1, a2, qe_Ot qe_Ow a3⟩
theorem cl_fd (h : qe_A R σ s) (hw1 : 0 ≤ (s 141).toInt) : qe_A R (qa_fX7_fadeOnce R σ) (qr_fd s) ∧ qe_O (R, 11) σ (qa_fX7_fadeOnce R σ) := by
  unfold qa_fX7_fadeOnce qa_fX7_fadeOnce_17 qa_fX7_fadeOnce_29
  rw [ra_141 h, qk_a1]
  by_cases c : s 141 ≤ 0
  · have c0 : s 141 = 0 := by
      rw [qz_l0] at c
      exact qz_00.mpr (by omega)
    rw [if_pos c, if_neg (not_not_intro c0), qk_am1]
    refine ⟨ra_e' (ra_w (i := 140) h (by omega) (by omega) (by omega) rfl rfl) ?_, qe_Ow⟩
    unfold qr_fd
    rw [if_pos c, Int32.sub_zero, if_pos c, qz_us rfl]
  · rw [if_neg c]
    dsimp only
    have h1 : qe_A R (qa_wi σ (R, 11) 3 (s 141 - 1)) (upd s 141 (s 141 - 1)) := ra_w h (by omega) (by omega) (by omega) rfl rfl
    rw [ra_141 h1, pk_us]
    have c1 : ¬ (s 141).toInt ≤ 0 := fun t => c (qz_l0.mpr t)
    have e1 : (s 141 - 1).toInt = (s 141).toInt - 1 := qz_s1 (by omega)
    by_cases c2 : s 141 - 1 = 0
    · rw [if_neg (not_not_intro c2), qk_am1]
      refine ⟨ra_e' (ra_w (i := 140) h1 (by omega) (by omega) (by omega) rfl rfl) ?_, qe_Ot qe_Ow qe_Ow⟩
      unfold qr_fd
      rw [if_neg c, if_pos (by rw [c2]; exact Int32.le_refl _)]
    · rw [if_pos c2]
      refine ⟨ra_e' h1 ?_, qe_Ow⟩
      unfold qr_fd
      rw [if_neg c, if_neg (fun t => c2 (by rw [qz_l0] at t; exact qz_00.mpr (by omega))), qz_us (f := upd s 141 (s 141 - 1)) (by rw [pk_un (by omega)])]
/-- the tick ahead of the loading -/
theorem cl_t1 (h : qe_R R σ s) (hA : qi_A N s) : ∃ σ', qe_R R σ' (qr_t1 s) ∧ qe_F R σ σ' ∧ qa_fX1_passTick R σ = (let c7 := qa_fX1_loadOnce R σ'
    if (qa_bi c7.1) = 0 then
      qa_fX1_passTick_70 R 0 c7.2
    else
      qa_fX1_passTick_70 R (0 + 1) c7.2) := by
  obtain ⟨hs, hp, hw, hl, hq, he, hc⟩ := hA
  obtain ⟨n1, n2⟩ := qi_n hs
  have h1 : qe_A R (qa_wi σ (R, 15) 0 (s 168 + 1)) (upd s 168 (s 168 + 1)) := ra_w h.1 (by omega) (by omega) (by omega) rfl rfl
  have mid : ∀ (x : Int32) (τ : qa_T), qe_A R τ (upd (upd s 168 (s 168 + 1)) 174 (s 174 + x)) → x = (if s 142 = -1 then 0 else 1) → τ.1 (R, 12) 4 = σ.1 (R, 12) 4 → qe_F R σ τ → ∃ σ', qe_R R σ' (qr_t1 s) ∧ qe_F R σ σ' ∧ qa_fX1_passTick_39 R 0 τ = (let c7 := qa_fX1_loadOnce R σ'
    if (qa_bi c7.1) = 0 then
      qa_fX1_passTick_70 R 0 c7.2
    else
      qa_fX1_passTick_70 R (0 + 1) c7.2) := by
    intro x τ b1 bx b2 b3
    generalize hu : upd (upd s 168 (s 168 + 1)) 174 (s 174 + x) = u at b1
    have uo : ∀ i, ¬ i = 168 → ¬ i = 174 → u i = s i := fun i h1 h2 => by rw [← hu, pk_un h2, pk_un h1]
    have hsu : qi_sl u := qq_sl hs (fun i hi => uo i (by omega) (by omega))
    obtain ⟨τ1, a1, a2, a3⟩ := cl_em (R := R) n2 (by rw [uo 0 (by omega) (by omega)]; exact n1) hsu qa_fu 0 τ b1 (by omega) (by unfold qa_fu; omega)
    have a4 : qa_fX6_coolEmbers R τ = some τ1 := a1
    obtain ⟨f1, f2⟩ := cl_fd a2 (by rw [em_o u (by omega) _ n2, uo 141 (by omega) (by omega)]; exact hw.2.2.2.2.1)
    unfold qa_fX1_passTick_39
    rw [a4, Option.bind_some]
    dsimp only
    rw [qk_a1]
    have e139 : qr_fd (qr_em u (qn (s 0))) 139 = s 139 := by rw [fd_o (by omega) (by omega), em_o u (by omega) _ n2, uo 139 (by omega) (by omega)]
    have e143 : qr_fd (qr_em u (qn (s 0))) 143 = s 143 := by rw [fd_o (by omega) (by omega), em_o u (by omega) _ n2, uo 143 (by omega) (by omega)]
    have e1 : qr_t1 s = upd (qr_fd (qr_em u (qn (s 0)))) 143 (s 143 + (if s 139 = -1 then 0 else 1)) := by
      unfold qr_t1 qr_t0
      rw [← bx, hu, em_c (fun k hk => by omega) _ n2]
      unfold qr_fd
      rw [pk_un (by omega), pk_un (by omega), upd_c (i := 143) (j := 141) (by omega), upd_c (i := 143) (j := 140) (by omega)]
    have hta : ∀ τ2 : qa_T, τ2.1 (R, 12) 4 = (qa_fX7_fadeOnce R τ1).1 (R, 12) 4 → τ2.1 (R, 12) 4 = qr_ta (qr_t1 s) := by
      intro τ2 e
      rw [e, f2.1 _ (by simp), a3.1 _ (by simp), b2, h.2, t1_ta hs]
    have hF := qe_Ft b3 (qe_Ft (qe_OF a3 (by omega)) (qe_OF f2 (by omega)))
    unfold qa_fX7_countShown qa_fX7_countShown_18
    rw [ra_139 f1, e139, ra_143 f1, e143, qk_am1]
    by_cases c : s 139 = -1
    · rw [if_pos c]
      refine ⟨_, ⟨ra_e' f1 ?_, hta _ rfl⟩, hF, rfl⟩
      rw [e1, if_pos c, Int32.add_zero, qz_us e143.symm]
    · rw [if_neg c]
      refine ⟨qa_wi (qa_fX7_fadeOnce R τ1) (R, 11) 1 (s 143 + 1), ⟨ra_e' (ra_w (i := 143) f1 (by omega) (by omega) (by omega) rfl rfl) ?_, hta _ (by rw [wi_np (by simp)])⟩, qe_Ft hF (qe_Fw (by omega)), rfl⟩
      rw [e1, if_neg c]
  unfold qa_fX1_passTick
  rw [ra_168 h.1, qk_a1]
  dsimp only
  rw [ra_142 h1, ra_174 h1, pk_un (by omega), pk_un (by omega), qk_am1, qk_a0]
  by_cases c : s 142 = -1
  · rw [if_pos c]
    refine mid 0 _ (ra_e' h1 ?_) (by rw [if_pos c]) (by rw [wi_np (by simp)]) (qe_Fw (by omega))
    rw [Int32.add_zero, qz_us (f := upd s 168 (s 168 + 1)) (by rw [pk_un (by omega)])]
  · rw [if_neg c]
    exact mid 1 _ (ra_w (i := 174) h1 (by omega) (by omega) (by omega) rfl rfl) (by rw [if_neg c]) (by rw [wi_np (by simp), wi_np (by simp)]) (qe_Ft (qe_Fw (by omega)) (qe_Fw (by omega)))
theorem cl_t2 (h : qe_R R σ s) (hA : qi_A N s) (hN : N + 2 < 2147483647) : (qa_fX1_loadOnce R σ).1 = (qr_t2 s).1 ∧ qe_R R (qa_fX1_loadOnce R σ).2 (qr_t2 s).2 ∧ qe_F R σ (qa_fX1_loadOnce R σ).2 := by
  have hA' := hA
  obtain ⟨hs, hp, hw, hl, hq, he, hc⟩ := hA
  have hn := (qi_n hs).2
  have hi := qn_int hs.1
  unfold qa_fX1_loadOnce qr_t2
  dsimp only
  rw [ra_144 h.1, ra_145 h.1, qk_am1, qk_a1]
  by_cases c1 : s 144 = -1
  · rw [if_neg (not_not_intro c1), if_pos c1]
    exact ⟨rfl, h, qe_Fr⟩
  · rw [if_pos c1, if_neg c1, wi_eq]
    have g1 : 0 ≤ (s 144).toInt := by
      have := hl.2.2.1
      rw [qz_m1] at c1
      omega
    have g2 := hl.2.2.2.2.1 g1
    have g3 := qn_int g1
    have g4 : s 144 = nI (qn (s 144)) := qn_of g1
    have g5 : qn (s 144) < qn (s 0) := by have := hl.2.2.2.1; omega
    have e1 : (s 145 - 1).toInt = (s 145).toInt - 1 := qz_s1 (by omega)
    have h1 : qe_A R (qa_wi σ (R, 12) 1 (s 145 - 1)) (upd s 145 (s 145 - 1)) := ra_w h.1 (by omega) (by omega) (by omega) rfl rfl
    by_cases c2 : s 145 - 1 = 0
    · rw [if_pos (by rw [c2]; exact Int32.le_refl _), if_neg (not_not_intro c2)]
      generalize ha : qn (s 144) = a at g3 g4 g5 ⊢
      have ha2 : a < 16 := by omega
      have e3 : ∀ τ, qa_fX6_setReady R (nI a) true τ = qa_wi τ (R, 5) a 1 := by
        intro τ
        unfold qa_fX6_setReady qa_fX6_setReady_20
        rw [if_neg (nI_pos (by omega)), if_neg (show ¬ Int32.ofNat 16 ≤ nI a from nI_ge ha2 (by omega)), nI_clamp (by omega)]
        rfl
      rw [g4]
      simp only [e3]
      have h2 : qe_A R (qa_wi (qa_wi (qa_wi σ (R, 12) 1 (s 145 - 1)) (R, 12) 0 (-1)) (R, 5) a 1) (upd (upd (upd s 145 (s 145 - 1)) 144 (-1)) (1 + 7 * a + 3) 1) := ra_w (ra_w (i := 144) h1 (by omega) (by omega) (by omega) rfl rfl) (by omega) (by omega) (by omega) (by rw [qx_sl ha2 (by omega)]) (by rw [qx_sl ha2 (by omega)])
      have hv : qi_sl (upd (upd (upd s 145 (s 145 - 1)) 144 (-1)) (1 + 7 * a + 3) 1) := by
        unfold qi_sl
        rw [pk_un (by omega), pk_un (by omega), pk_un (by omega)]
        refine ⟨hs.1, hs.2.1, fun k hk => ?_⟩
        obtain ⟨c1, c2, c3, c4, c5, c6⟩ := hs.2.2 k hk
        by_cases e : k = a
        · subst e
          simp (disch := omega) only [pk_us, pk_un, qz_ue]
          exact ⟨Or.inr trivial, c2, c3, c4, c5, fun h => by omega⟩
        · simp (disch := omega) only [pk_us, pk_un, qz_ue]
          exact ⟨c1, c2, c3, c4, c5, c6⟩
      have h3 : qe_R R (qa_wi (qa_wi (qa_wi σ (R, 12) 1 (s 145 - 1)) (R, 12) 0 (-1)) (R, 5) a 1) (upd (upd (upd s 145 (s 145 - 1)) 144 (-1)) (1 + 7 * a + 3) 1) := by
        refine ⟨h2, ?_⟩
        rw [wi_np (by simp), wi_ni (by omega), wi_ni (by omega), h.2, ← l0_ta hs g4 g5]
        unfold qr_l0
        exact ta_q (us_o (by omega) (by omega)) (us_o (by omega) (by omega)) (fun k hk => by
          rw [pk_un (by omega), pk_un (by omega), pk_un (by omega)] at hk
          exact ⟨us_o (by omega) (by omega), us_o (by omega) (by omega)⟩)
      obtain ⟨u1, u2⟩ := cl_us h3 hv ha2
      have u3 : qe_F R σ (qa_fX6_use R (nI a) (qa_wi (qa_wi (qa_wi σ (R, 12) 1 (s 145 - 1)) (R, 12) 0 (-1)) (R, 5) a 1)) := qe_Ft (qe_Ft (qe_Ft (qe_Fw (by omega)) (qe_Fw (by omega))) (qe_Fw (by omega))) u2
      have u4 : qe_R R (qa_fX6_use R (nI a) (qa_wi (qa_wi (qa_wi σ (R, 12) 1 (s 145 - 1)) (R, 12) 0 (-1)) (R, 5) a 1)) (qr_l0 s a) := u1
      obtain ⟨b1, b2, b3, b4, b5, b6, b7⟩ := l0_A hA' g4 g5 (by omega)
      rw [ra_142 u4.1, l0_o (by omega) (by omega) (by omega) (by omega) (by omega)]
      by_cases c3 : s 142 = nI a
      · rw [if_pos c3, if_neg (not_not_intro c3)]
        obtain ⟨d1, d2⟩ := cl_sh (a := a) u4 b1 b3 (by rw [l0_o (by omega) (by omega) (by omega) (by omega) (by omega)]; exact g5)
        exact ⟨rfl, d1, qe_Ft u3 d2⟩
      · rw [if_neg c3, if_pos c3]
        exact ⟨rfl, u4, u3⟩
    · have c3 : ¬ s 145 - 1 ≤ 0 := fun t => c2 (by rw [qz_l0] at t; exact qz_00.mpr (by omega))
      rw [if_neg c3, if_pos c2]
      refine ⟨rfl, ⟨h1, ?_⟩, qe_Fw (by omega)⟩
      dsimp only
      rw [wi_ni (by omega), h.2]
      exact (ta_q (pk_un (by omega)) (pk_un (by omega)) (fun k hk => ⟨pk_un (by omega), pk_un (by omega)⟩)).symm
theorem cl_t3 (h : qe_R R σ s) (hA : qi_A N s) (hN : N + 2 < 2147483647) (x : Int32) : ∃ σ', qa_fX1_passTick_70 R x σ = some (x + nI (qr_bt (qr_t3 s).1), σ') ∧ qe_R R σ' (qr_bg (qr_t3 s).2) ∧ qe_F R σ σ' := by
  have h3 := t3_A hA hN
  have eP : qa_fX1_paceIsReached R σ = decide (s 142 = -1 ∧ ¬ s 139 = -1 ∧ ¬ s 167 ≤ 0 ∧ ¬ s 143 < s 167 ∧ ¬ s 113 ≤ 0) := by
    unfold qa_fX1_paceIsReached qa_fX1_paceIsReached_49
    rw [cl_cg h.1, ra_167 h.1, ra_139 h.1, ra_143 h.1, qk_am1]
    unfold qr_cg
    by_cases c1 : s 142 = -1 <;> by_cases c2 : s 139 = -1 <;> by_cases c3 : s 167 ≤ 0 <;> by_cases c4 : s 143 < s 167 <;> by_cases c5 : s 113 ≤ 0 <;> simp [c1, c2, c3, c4, c5, qa_bi]
  have fin : ∀ (τ : qa_T) (t : qs) (z : Int32), qe_R R τ t → qi_A (N + 2) t → ∃ σ', qa_fX1_passTick_87 R z τ = some (z, σ') ∧ qe_R R σ' (qr_bg t) ∧ qe_F R τ σ' := by
    intro τ t z b1 b2
    obtain ⟨σ', a1, a2, a3⟩ := cl_bg b1 b2
    refine ⟨σ', ?_, a2, a3⟩
    unfold qa_fX1_passTick_87
    rw [a1]
    rfl
  unfold qa_fX1_passTick_70
  rw [eP]
  by_cases c : s 142 = -1 ∧ ¬ s 139 = -1 ∧ ¬ s 167 ≤ 0 ∧ ¬ s 143 < s 167 ∧ ¬ s 113 ≤ 0
  · have h0 : 0 < (s 113).toInt := by
      have := c.2.2.2.2
      rw [qz_l0] at this
      omega
    have e3 : qr_t3 s = qr_go s := by
      unfold qr_t3
      rw [if_pos c]
    rw [e3] at h3 ⊢
    rw [decide_eq_true c, if_neg (show ¬ qa_bi true = 0 by decide)]
    obtain ⟨τ, a1, a2, a3⟩ := cl_go h hA h0
    rw [a1, Option.bind_some]
    dsimp only
    cases e : (qr_go s).1
    · rw [if_pos (show qa_bi false = 0 from rfl)]
      obtain ⟨σ', b1, b2, b3⟩ := fin τ _ x a2 h3
      exact ⟨σ', by rw [b1]; show some (x, σ') = some (x + nI 0, σ'); rw [nI_0, Int32.add_zero], b2, qe_Ft a3 b3⟩
    · rw [if_neg (show ¬ qa_bi true = 0 by decide), qk_a1]
      obtain ⟨σ', b1, b2, b3⟩ := fin τ _ (x + 1) a2 h3
      exact ⟨σ', b1, b2, qe_Ft a3 b3⟩
  · have e3 : qr_t3 s = (false, s) := by
      unfold qr_t3
      rw [if_neg c]
    rw [e3] at h3 ⊢
    rw [decide_eq_false c, if_pos (show qa_bi false = 0 from rfl)]
    obtain ⟨σ', b1, b2, b3⟩ := fin σ s x h h3
    exact ⟨σ', by rw [b1]; show some (x, σ') = some (x + nI 0, σ'); rw [nI_0, Int32.add_zero], b2, b3⟩
theorem cl_tc (h : qe_R R σ s) (hA : qi_A N s) (hN : N + 4 < 2147483647) : ∃ σ', qa_fX1_passTick R σ = some (nI (qr_tc s).1, σ') ∧ qe_R R σ' (qr_tc s).2 ∧ qe_F R σ σ' := by
  obtain ⟨σ1, a1, a2, a3⟩ := cl_t1 h hA
  obtain ⟨b1, b2, b3⟩ := cl_t2 a1 (t1_A hA) (by omega)
  have hA2 := t2_A (t1_A hA) (by omega)
  rw [a3]
  dsimp only
  rw [b1]
  unfold qr_tc
  dsimp only
  cases e : (qr_t2 (qr_t1 s)).1
  · rw [if_pos (show qa_bi false = 0 from rfl)]
    obtain ⟨σ', c1, c2, c3⟩ := cl_t3 b2 hA2 (by omega) 0
    refine ⟨σ', ?_, c2, qe_Ft a2 (qe_Ft b3 c3)⟩
    rw [c1, Int32.zero_add]
    show _ = some (nI (0 + _), σ')
    rw [Nat.zero_add]
  · rw [if_neg (show ¬ qa_bi true = 0 by decide)]
    obtain ⟨σ', c1, c2, c3⟩ := cl_t3 b2 hA2 (by omega) (0 + 1)
    refine ⟨σ', ?_, c2, qe_Ft a2 (qe_Ft b3 c3)⟩
    rw [c1, Int32.zero_add]
    show some (nI 1 + _, σ') = some (nI (1 + _), σ')
    rw [nI_add]
theorem cl_ti : ∀ (j k f N : Nat) (σ : qa_T) (s : qs) (x : Int32), qe_R R σ s → qi_I N s → N + 4 * j < 2147483647 → k + j < 2147483648 → j < f → ∃ σ', qa_fX1_passTicks_4 R (nI (k + j)) f x (nI k) σ = some (x + nI (qr_ti j s).1, σ') ∧ qe_R R σ' (qr_ti j s).2 ∧ qe_F R σ σ' := by
  intro j
  induction j with
  | zero =>
    intro k f N σ s x h hI hN hk hf
    obtain ⟨f, rfl⟩ : ∃ i, f = i + 1 := ⟨f - 1, by omega⟩
    rw [qa_fX1_passTicks_4, Nat.add_zero, if_pos (nI_le (Nat.le_refl _) (by omega)), ti_0]
    exact ⟨σ, by show some (x, σ) = some (x + nI 0, σ); rw [nI_0, Int32.add_zero], h, qe_Fr⟩
  | succ j ih =>
    intro k f N σ s x h hI hN hk hf
    obtain ⟨f, rfl⟩ : ∃ i, f = i + 1 := ⟨f - 1, by omega⟩
    obtain ⟨τ, a1, a2, a3⟩ := cl_tc h hI.1 (by omega)
    rw [qa_fX1_passTicks_4, if_neg (nI_ge (by omega) (by omega)), a1, Option.bind_some]
    dsimp only
    rw [qk_a1, nI_1, show k + (j + 1) = (k + 1) + j by omega]
    obtain ⟨σ', b1, b2, b3⟩ := ih (k + 1) f (N + 4) τ _ (x + nI (qr_tc s).1) a2 (tc_I hI (by omega)).1 (by omega) (by omega) (by omega)
    rw [ti_s]
    refine ⟨σ', ?_, b2, qe_Ft a3 b3⟩
    rw [b1]
    dsimp only
    rw [Int32.add_assoc, nI_add]
theorem cl_ps {j : Nat} (h : qe_R R σ s) (hI : qi_I N s) (hN : N + 4 * j < 2147483647) (hj : j < 2999) : ∃ σ', qa_fX1_passTicks R (nI j) σ = some (nI (qr_ti j s).1, σ') ∧ qe_R R σ' (qr_ti j s).2 ∧ qe_F R σ σ' := by
  obtain ⟨σ', a1, a2, a3⟩ := cl_ti (R := R) j 0 qa_fu N σ s 0 h hI hN (by omega) (by unfold qa_fu; omega)
  rw [Nat.zero_add, Int32.zero_add] at a1
  exact ⟨σ', a1, a2, a3⟩
end QCE
end
section
/-! the class: copies, the programme, a new slide, what would be -/
section QCF
variable {σ σ' : qa_T} {s t : qs} {R S N : Nat}
/-- what has been copied -/
def qe_K (R S : Nat) (σ τ : qa_T) (D : Nat → Nat → Prop) : Prop := (∀ j f, D j f → τ.1 (R, j) f = σ.1 (S, j) f) ∧ qe_F R σ τ
theorem ck_w {D : Nat → Nat → Prop} {τ : qa_T} {j f : Nat} (hRS : ¬ S = R) (h : qe_K R S σ τ D) (hj : j < 18) : qe_K R S σ (qa_wi τ (R, j) f (τ.1 (S, j) f)) (fun j' f' => (j' = j ∧ f' = f) ∨ D j' f') := by
  refine ⟨fun j' f' hd => ?_, qe_Ft h.2 (qe_Fw hj)⟩
  by_cases e : j' = j
  · subst e
    by_cases e2 : f' = f
    · subst e2
      rw [wi_eq, h.2.1 _ (Or.inl hRS)]
    · rw [wi_ni e2]
      exact h.1 j' f' (hd.resolve_left (fun t => e2 t.2))
  · rw [wi_np (fun t => e (congrArg Prod.snd t))]
    exact h.1 j' f' (hd.resolve_left (fun t => e t.1))
theorem ck_m {D D' : Nat → Nat → Prop} {τ : qa_T} (h : qe_K R S σ τ D) (hd : ∀ j f, D' j f → D j f) : qe_K R S σ τ D' := ⟨fun j f h2 => h.1 j f (hd j f h2), h.2⟩
theorem cp_l {p q : qa_P} {n : Nat} (hn : n < 1000) (hpq : ¬ p = q) : ∀ (f k : Nat) (τ : qa_T), qe_O q σ τ → (∀ i, i < k → τ.1 q i = σ.1 p i) → k ≤ n → n - k < f → ∃ σ', qa_fX9_copyRow_2 p n q n f (nI k) τ = some σ' ∧ qe_O q σ σ' ∧ ∀ i, i < n → σ'.1 q i = σ.1 p i := by
  intro f
  induction f with
  | zero => intro k τ _ _ _ h; omega
  | succ f ih =>
    intro k τ hO hr hk hf
    rw [qa_fX9_copyRow_2]
    unfold qa_fX9_copyRow_26
    by_cases e : k = n
    · subst e
      rw [if_pos (show Int32.ofNat k ≤ nI k from nI_le (Nat.le_refl _) (by omega))]
      exact ⟨τ, rfl, hO, hr⟩
    · rw [if_neg (show ¬ Int32.ofNat n ≤ nI k from nI_ge (by omega) (by omega)), if_neg (show ¬ Int32.ofNat n ≤ nI k from nI_ge (by omega) (by omega)), qz_ifn (by omega) (by omega), qz_ifn (by omega) (by omega), nI_clamp (by omega), qk_a1, nI_1]
      refine ih (k + 1) _ (qe_Ot hO qe_Ow) (fun i hi => ?_) (by omega) (by omega)
      by_cases c : i = k
      · subst c
        rw [wi_eq, hO.1 p hpq]
      · rw [wi_ni c]
        exact hr i (by omega)
theorem ck_r {D : Nat → Nat → Prop} {τ : qa_T} {j n : Nat} (hRS : ¬ S = R) (h : qe_K R S σ τ D) (hj : j < 18) (hn : n < 1000) (hD : ∀ f, ¬ D j f) : ∃ τ', qa_fX9_copyRow (S, j) n (R, j) n τ = some τ' ∧ qe_K R S σ τ' (fun j' f' => (j' = j ∧ f' < n) ∨ D j' f') := by
  obtain ⟨τ', a1, a2, a3⟩ := cp_l (σ := τ) (p := (S, j)) (q := (R, j)) hn (fun t => hRS (congrArg Prod.fst t)) qa_fu 0 τ qe_Or (fun i hi => by omega) (by omega) (by unfold qa_fu; omega)
  refine ⟨τ', a1, fun j' f' hd => ?_, qe_Ft h.2 (qe_OF a2 hj)⟩
  by_cases e : j' = j
  · subst e
    rcases hd with hd | hd
    · rw [a3 f' hd.2, h.2.1 _ (Or.inl hRS)]
    · exact absurd hd (hD f')
  · rw [a2.1 _ (fun t => e (congrArg Prod.snd t))]
    exact h.1 j' f' (hd.resolve_left (fun t => e t.1))
theorem ck_z {D : Nat → Nat → Prop} (hRS : ¬ S = R) (hD : ∀ f, ¬ D 5 f) (h01 : ∀ k, k < 16 → σ.1 (S, 5) k = 0 ∨ σ.1 (S, 5) k = 1) : ∀ (f k : Nat) (τ : qa_T), qe_K R S σ τ (fun j' f' => (j' = 5 ∧ f' < k) ∨ D j' f') → k ≤ 16 → 16 - k < f → ∃ τ', qa_fX6_copyFrom_76 R S f (nI k) τ = some τ' ∧ qe_K R S σ τ' (fun j' f' => (j' = 1 ∧ f' = 8) ∨ (j' = 5 ∧ f' < 16) ∨ D j' f') := by
  intro f
  induction f with
  | zero => intro k τ _ _ h; omega
  | succ f ih =>
    intro k τ h hk hf
    rw [qa_fX6_copyFrom_76]
    unfold qa_fX6_copyFrom_112
    by_cases e : k = 16
    · subst e
      rw [if_pos (show Int32.ofNat 16 ≤ nI 16 from nI_le (Nat.le_refl _) (by omega))]
      exact ⟨_, rfl, ck_w hRS h (by omega)⟩
    · have h1 := h.2.1 (S, 5) (Or.inl hRS)
      rw [if_neg (show ¬ Int32.ofNat 16 ≤ nI k from nI_ge (by omega) (by omega)), if_neg (show ¬ Int32.ofNat 16 ≤ nI k from nI_ge (by omega) (by omega)), qz_ifn (by omega) (by omega), qz_ifn (by omega) (by omega), nI_clamp (by omega), if_neg (not_not_intro (by rw [h1]; exact h01 k (by omega))), qk_a1, nI_1]
      refine ih (k + 1) _ ?_ (by omega) (by omega)
      have h2 := ck_w (j := 5) (f := k) hRS h (by omega)
      refine ⟨fun j' f' hd => h2.1 j' f' ?_, h2.2⟩
      rcases hd with hd | hd
      · by_cases c : f' = k
        · exact Or.inl ⟨hd.1, c⟩
        · exact Or.inr (Or.inl ⟨hd.1, by omega⟩)
      · exact Or.inr (Or.inr hd)
theorem ck_7 {D : Nat → Nat → Prop} {τ : qa_T} (hRS : ¬ S = R) (h : qe_K R S σ τ D) : qe_K R S σ (qa_fX7_copyFrom R S τ) (fun j f => (j = 11 ∧ f < 5) ∨ D j f) := by
  unfold qa_fX7_copyFrom
  refine ck_m (ck_w (j := 11) (f := 4) hRS (ck_w (j := 11) (f := 3) hRS (ck_w (j := 11) (f := 2) hRS (ck_w (j := 11) (f := 1) hRS (ck_w (j := 11) (f := 0) hRS h (by omega)) (by omega)) (by omega)) (by omega)) (by omega)) (fun j f hd => ?_)
  rcases hd with hd | hd
  · omega
  · exact Or.inr (Or.inr (Or.inr (Or.inr (Or.inr hd))))
theorem ck_4 {D : Nat → Nat → Prop} {τ : qa_T} (hRS : ¬ S = R) (h : qe_K R S σ τ D) : qe_K R S σ (qa_fX4_copyFrom R S τ) (fun j f => (j = 14 ∧ f < 5) ∨ D j f) := by
  unfold qa_fX4_copyFrom
  refine ck_m (ck_w (j := 14) (f := 4) hRS (ck_w (j := 14) (f := 3) hRS (ck_w (j := 14) (f := 2) hRS (ck_w (j := 14) (f := 1) hRS (ck_w (j := 14) (f := 0) hRS h (by omega)) (by omega)) (by omega)) (by omega)) (by omega)) (fun j f hd => ?_)
  rcases hd with hd | hd
  · omega
  · exact Or.inr (Or.inr (Or.inr (Or.inr (Or.inr hd))))
theorem ck_0 {D : Nat → Nat → Prop} {τ : qa_T} (hRS : ¬ S = R) (h : qe_K R S σ τ D) : qe_K R S σ (qa_fX0_copyFrom R S τ) (fun j f => (j = 15 ∧ f < 7) ∨ D j f) := by
  unfold qa_fX0_copyFrom
  refine ck_m (ck_w (j := 15) (f := 6) hRS (ck_w (j := 15) (f := 5) hRS (ck_w (j := 15) (f := 4) hRS (ck_w (j := 15) (f := 3) hRS (ck_w (j := 15) (f := 2) hRS (ck_w (j := 15) (f := 1) hRS (ck_w (j := 15) (f := 0) hRS h (by omega)) (by omega)) (by omega)) (by omega)) (by omega)) (by omega)) (by omega)) (fun j f hd => ?_)
  rcases hd with hd | hd
  · omega
  · exact Or.inr (Or.inr (Or.inr (Or.inr (Or.inr (Or.inr (Or.inr hd))))))
theorem ck_3 {D : Nat → Nat → Prop} {τ : qa_T} (hRS : ¬ S = R) (h : qe_K R S σ τ D) (hD : ∀ f, ¬ D 10 f) : ∃ τ', qa_fX3_copyFrom R S τ = some τ' ∧ qe_K R S σ τ' (fun j f => (j = 10 ∧ f < 24) ∨ (j = 9 ∧ f < 2) ∨ D j f) := by
  obtain ⟨t, e, k⟩ := ck_r (j := 10) (n := 24) hRS (ck_w (j := 9) (f := 1) hRS (ck_w (j := 9) (f := 0) hRS h (by omega)) (by omega)) (by omega) (by omega) (fun f t => by
    rcases t with t | t | t
    · omega
    · omega
    · exact hD f t)
  refine ⟨t, ?_, ck_m k (fun j f hd => ?_)⟩
  · unfold qa_fX3_copyFrom
    dsimp only
    rw [e, Option.bind_some]
  · rcases hd with hd | hd | hd
    · exact Or.inl hd
    · omega
    · exact Or.inr (Or.inr (Or.inr hd))
theorem ck_2 {D : Nat → Nat → Prop} {τ : qa_T} (hRS : ¬ S = R) (h : qe_K R S σ τ D) (hD : ∀ f, ¬ D 13 f) : ∃ τ', qa_fX2_copyFrom R S τ = some τ' ∧ qe_K R S σ τ' (fun j f => (j = 13 ∧ f < 16) ∨ (j = 12 ∧ (f < 3 ∨ f = 4)) ∨ D j f) := by
  obtain ⟨t, e, k⟩ := ck_r (j := 13) (n := 16) hRS (ck_w (j := 12) (f := 2) hRS (ck_w (j := 12) (f := 1) hRS (ck_w (j := 12) (f := 0) hRS h (by omega)) (by omega)) (by omega)) (by omega) (by omega) (fun f t => by
    rcases t with t | t | t | t
    · omega
    · omega
    · omega
    · exact hD f t)
  refine ⟨_, ?_, ck_m (ck_w (j := 12) (f := 4) hRS k (by omega)) (fun j f hd => ?_)⟩
  · unfold qa_fX2_copyFrom
    dsimp only
    rw [e, Option.bind_some]
  · rcases hd with hd | hd | hd
    · exact Or.inr (Or.inl hd)
    · omega
    · exact Or.inr (Or.inr (Or.inr (Or.inr (Or.inr hd))))
theorem ck_6 (hRS : ¬ S = R) (h01 : ∀ k, k < 16 → σ.1 (S, 5) k = 0 ∨ σ.1 (S, 5) k = 1) : ∃ τ', qa_fX6_copyFrom R S σ = some τ' ∧ qe_K R S σ τ' (fun j f => (j = 1 ∧ (f = 0 ∨ f = 8)) ∨ (2 ≤ j ∧ j ≤ 8 ∧ f < 16)) := by
  have k0 : qe_K R S σ σ (fun _ _ => False) := ⟨fun j f h => h.elim, qe_Fr⟩
  have k1 := ck_w (j := 1) (f := 0) hRS k0 (by omega)
  obtain ⟨t2, e2, k2⟩ := ck_r (j := 2) (n := 16) hRS k1 (by omega) (by omega) (fun f => by simp)
  obtain ⟨t3, e3, k3⟩ := ck_r (j := 3) (n := 16) hRS k2 (by omega) (by omega) (fun f => by simp)
  obtain ⟨t4, e4, k4⟩ := ck_r (j := 4) (n := 16) hRS k3 (by omega) (by omega) (fun f => by simp)
  obtain ⟨t6, e6, k6⟩ := ck_r (j := 6) (n := 16) hRS k4 (by omega) (by omega) (fun f => by simp)
  obtain ⟨t7, e7, k7⟩ := ck_r (j := 7) (n := 16) hRS k6 (by omega) (by omega) (fun f => by simp)
  obtain ⟨t8, e8, k8⟩ := ck_r (j := 8) (n := 16) hRS k7 (by omega) (by omega) (fun f => by simp)
  obtain ⟨t5, e5, k5⟩ := ck_z hRS (fun f => by simp) h01 qa_fu 0 t8 ⟨fun j f hd => k8.1 j f (hd.resolve_left (fun t => by omega)), k8.2⟩ (by omega) (by unfold qa_fu; omega)
  refine ⟨t5, ?_, ck_m k5 (fun j f hd => by omega)⟩
  unfold qa_fX6_copyFrom
  dsimp only
  rw [e2, Option.bind_some, e3, Option.bind_some, e4, Option.bind_some, e6, Option.bind_some, e7, Option.bind_some, e8, Option.bind_some, qk_a0]
  exact e5
theorem cl_cp (h : qe_R S σ s) (hs : qi_sl s) (hRS : ¬ S = R) : ∃ σ', qa_fX1_copyFrom R S σ = some σ' ∧ qe_R R σ' s ∧ qe_F R σ σ' := by
  have h01 : ∀ k, k < 16 → σ.1 (S, 5) k = 0 ∨ σ.1 (S, 5) k = 1 := fun k hk => by
    rw [ra_i h.1 hk]
    exact (hs.2.2 k hk).1
  obtain ⟨t6, e6, k6⟩ := ck_6 hRS h01
  obtain ⟨t3, e3, k3⟩ := ck_3 hRS k6 (fun f t => by omega)
  have k7 := ck_7 hRS k3
  obtain ⟨t2, e2, k2⟩ := ck_2 hRS k7 (fun f t => by omega)
  have k0 := ck_0 hRS (ck_4 hRS k2)
  refine ⟨qa_fX0_copyFrom R S (qa_fX4_copyFrom R S t2), ?_, ⟨?_, ?_⟩, k0.2⟩
  · unfold qa_fX1_copyFrom
    rw [e6, Option.bind_some, e3, Option.bind_some]
    dsimp only
    rw [e2, Option.bind_some]
  · intro i hi hl
    rw [← h.1 i hi hl]
    refine k0.1 _ _ ?_
    have hc : (1 ≤ i ∧ i < 113) ∨ (114 ≤ i ∧ i < 138) ∨ (147 ≤ i ∧ i < 163) ∨ i = 0 ∨ i = 113 ∨ i = 138 ∨ i = 139 ∨ i = 140 ∨ i = 141 ∨ i = 142 ∨ i = 143 ∨ i = 144 ∨ i = 145 ∨ i = 146 ∨ i = 163 ∨ i = 164 ∨ i = 165 ∨ i = 166 ∨ i = 167 ∨ i = 168 ∨ i = 169 ∨ i = 170 ∨ i = 171 ∨ i = 172 ∨ i = 173 ∨ i = 174 ∨ i = 175 := by omega
    rcases hc with h1 | h1 | h1 | h1 | h1 | h1 | h1 | h1 | h1 | h1 | h1 | h1 | h1 | h1 | h1 | h1 | h1 | h1 | h1 | h1 | h1 | h1 | h1 | h1 | h1 | h1 | h1
    · have e : i = 1 + 7 * ((i - 1) / 7) + (i - 1) % 7 := by omega
      have e2 := qx_sl (k := (i - 1) / 7) (w := (i - 1) % 7) (by omega) (by omega)
      rw [← e] at e2
      rw [e2]
      dsimp only
      omega
    · have e2 := qx_pr (k := i - 114) (by omega)
      rw [show 114 + (i - 114) = i by omega] at e2
      rw [e2]
      dsimp only
      omega
    · have e2 := qx_qu (k := i - 147) (by omega)
      rw [show 147 + (i - 147) = i by omega] at e2
      rw [e2]
      dsimp only
      omega
    all_goals subst h1
    all_goals decide
  · rw [← h.2]
    exact k0.1 12 4 (by decide)
theorem cl_sc_l {n : Nat} (h : qe_A R σ s) (hs : qi_sl s) (hn : n ≤ 16) (h0 : s 0 = nI n) : ∀ m k : Nat, k ≤ n → n - k < m → qa_fX1_sumOfCosts_4 R m (qr_tk s k) (nI k) σ = some (qr_tk s n) := by
  intro m
  induction m with
  | zero => intro k h1 h2; omega
  | succ m ih =>
    intro k hk hm
    rw [qa_fX1_sumOfCosts_4, ra_n0 h, h0]
    by_cases e : k = n
    · subst e
      rw [if_pos (nI_le (Nat.le_refl _) (by omega))]
    · have hk2 : k < 16 := by omega
      have h1 := ih (k + 1) (by omega) (by omega)
      unfold qa_fX1_sumOfCosts_37 qa_fX1_sumOfCosts_51
      rw [if_neg (nI_ge (by omega) (by omega)), cl_rd h hs hk2, at_in hk2 (by omega), ra_c h hk2, ra_144 h, qk_a1, nI_1]
      have e2 : qr_tk s (k + 1) = qr_tk s k + qr_tf s k := rfl
      unfold qr_tf at e2
      cases c : qr_ld s k
      · rw [if_neg (show ¬ ¬ qa_bi false = 0 by decide)]
        by_cases c2 : nI k = s 144
        · rw [if_neg (not_not_intro c2)]
          rw [if_pos (Or.inr c2.symm)] at e2
          rw [e2] at h1
          exact h1
        · rw [if_pos c2]
          rw [c, if_neg (fun t => t.elim (fun t => by cases t) (fun t => c2 t.symm)), Int32.add_zero] at e2
          rw [e2] at h1
          exact h1
      · rw [if_pos (show ¬ qa_bi true = 0 by decide)]
        rw [if_pos (Or.inl c)] at e2
        rw [e2] at h1
        exact h1
theorem cl_sc (h : qe_A R σ s) (hs : qi_sl s) : qa_fX1_sumOfCosts R σ = some (qr_ta s) := by
  obtain ⟨n1, n2⟩ := qi_n hs
  unfold qa_fX1_sumOfCosts qr_ta
  exact cl_sc_l h hs n2 n1 qa_fu 0 (by omega) (by unfold qa_fu; omega)
theorem cl_pu_l {a c : Nat} (h : qe_A R σ s) (hp : qi_pr s) (ha : a < 16) (hc : s 113 = nI c) (hc2 : c ≤ 24) : ∀ (m k j : Nat), k + j = c + 1 → 1 ≤ k → j < m → qa_fX3_placesUntil_2 R (nI a) m (nI k) σ = some (if qr_nf s a j k ≤ c then nI (qr_nf s a j k) else 0) := by
  intro m
  induction m with
  | zero => intro k j _ _ h3; omega
  | succ m ih =>
    intro k j hk h1 hm
    rw [qa_fX3_placesUntil_2, ra_113 h, hc, qk_a0]
    cases j with
    | zero =>
      rw [if_pos (nI_lt (by omega) (by omega)), if_neg (show ¬ qr_nf s a 0 k ≤ c by unfold qr_nf; omega)]
    | succ j =>
      rw [if_neg (nI_nlt (by omega) (by omega)), cl_sa h hp h1 (by omega), if_neg (by rw [hc, qn_nI (by omega)]; omega), Option.bind_some, qk_a1, nI_1]
      unfold qr_nf
      by_cases e : qr_sa s k = nI a
      · rw [if_neg (not_not_intro e), if_pos e, if_pos (by omega)]
      · rw [if_pos e, if_neg e]
        exact ih (k + 1) j (by omega) (by omega) (by omega)
theorem cl_pu {a : Nat} (h : qe_A R σ s) (hp : qi_pr s) (ha : a < 16) : qa_fX3_placesUntil R (nI a) σ = some (if qr_nx s a ≤ qn (s 113) then nI (qr_nx s a) else 0) := by
  obtain ⟨h1, h2⟩ := qi_p hp
  unfold qa_fX3_placesUntil qr_nx
  exact cl_pu_l h hp ha h1 h2 qa_fu 1 (qn (s 113)) (by omega) (by omega) (by unfold qa_fu; omega)
/-- the place in a line -/
def qr_po (a : Nat) : List Nat → Nat → Int32
  | [], _ => -1
  | b :: l, i => if b = a then nI i else qr_po a l (i + 1)
theorem cl_pl_l {a len : Nat} (ha : a < 16) (hlen : len ≤ 16) : ∀ (l : List Nat) (i f : Nat), (∀ b ∈ l, b < 16) → (∀ j b, l[j]? = some b → σ.1 (R, 17) (i + j) = nI b) → i + l.length = len → l.length < f → qa_fX1_placeInLine_7 R (nI a) f (nI len) (nI i) σ = some (qr_po a l i, σ) := by
  intro l
  induction l with
  | nil =>
    intro i f hb hr hi hf
    obtain ⟨f, rfl⟩ : ∃ j, f = j + 1 := ⟨f - 1, by simp only [List.length_nil] at hf; omega⟩
    simp only [List.length_nil] at hi
    rw [qa_fX1_placeInLine_7, if_pos (nI_le (by omega) (by omega)), qk_am1]
    rfl
  | cons b l ih =>
    intro i f hb hr hi hf
    obtain ⟨f, rfl⟩ : ∃ j, f = j + 1 := ⟨f - 1, by simp only [List.length_cons] at hf; omega⟩
    simp only [List.length_cons] at hi hf
    have h0 := hr 0 b rfl
    rw [Nat.add_zero] at h0
    have hb2 := hb b List.mem_cons_self
    rw [qa_fX1_placeInLine_7, if_neg (nI_ge (by omega) (by omega)), at_in (by omega) (by omega), h0, qk_a1, nI_1]
    unfold qr_po
    by_cases c : b = a
    · subst c
      rw [if_neg (not_not_intro rfl), if_pos rfl]
    · rw [if_pos (fun t => c ((nI_eq (by omega) (by omega)).mp t)), if_neg c]
      exact ih (i + 1) f (fun x hx => hb x (List.mem_cons_of_mem _ hx)) (fun j x hx => by
        rw [show i + 1 + j = i + (j + 1) by omega]
        exact hr (j + 1) x hx) (by omega) (by omega)
theorem cl_pl {a : Nat} (h : qe_A R σ s) (hA : qi_A N s) (ha : a < 16) : ∃ σ', qa_fX1_placeInLine R (nI a) σ = some (qr_po a (qr_ln s) 0, σ') ∧ qe_G R σ σ' := by
  obtain ⟨hs, hp, hw, hlo, hq, he, hc⟩ := hA
  have hn := (qi_n hs).2
  have h9 := qr_lf_len s (qn (s 0))
  obtain ⟨σ1, a1, a2, a3⟩ := cl_lu h hs hp he
  have hlen : (qr_ln s).length ≤ 16 := by
    unfold qr_ln
    omega
  refine ⟨σ1, ?_, a2⟩
  unfold qa_fX1_placeInLine
  rw [a1, Option.bind_some]
  exact cl_pl_l ha hlen (qr_ln s) 0 qa_fu (ln_16 hs) (fun j b hb => by rw [Nat.zero_add]; exact a3 j b hb) (by omega) (by unfold qa_fu; omega)
theorem cl_bt_l {a len : Nat} {m : Int} (hlen : len ≤ 16) (hm : 0 ≤ m) (hm2 : m ≤ 1000) : ∀ (l : List Nat) (i f : Nat) (x : Int32) (s : qs), (∀ b, b < 16 → σ.1 (R, 2) b = s (1 + 7 * b)) → qi_A N s → qr_li s l → (∀ j b, l[j]? = some b → σ.1 (R, 17) (i + j) = nI b) → i + l.length = len → l.length < f → x.toInt = (qr_ta s).toInt + m - (s 163).toInt → qa_fX1_burningsToLoad_60 R (nI a) f x (nI len) (nI i) σ = some (nI (i + (qr_rm m l s).1), σ) := by
  intro l
  induction l with
  | nil =>
    intro i f x s hc hA hl hr hi hf hx
    obtain ⟨f, rfl⟩ : ∃ j, f = j + 1 := ⟨f - 1, by simp only [List.length_nil] at hf; omega⟩
    simp only [List.length_nil] at hi
    rw [qa_fX1_burningsToLoad_60, if_pos (nI_le (by omega) (by omega))]
    rfl
  | cons b l ih =>
    intro i f x s hc hA hl hr hi hf hx
    obtain ⟨f, rfl⟩ : ∃ j, f = j + 1 := ⟨f - 1, by simp only [List.length_cons] at hf; omega⟩
    simp only [List.length_cons] at hi hf
    have hA' := hA
    obtain ⟨hs, hp, hw, hlo, hq, he, hct⟩ := hA
    have hn := (qi_n hs).2
    have hi0 := qn_int hs.1
    have h0 := hr 0 b rfl
    rw [Nat.add_zero] at h0
    have hb := (hl.2 b).mp List.mem_cons_self
    have hb2 : b < 16 := by omega
    have hcb := hb.2
    unfold qr_cb at hcb
    rw [Bool.and_eq_true] at hcb
    have hcc := (hs.2.2 b hb2).2.2.2.2.1 (by omega)
    have hta := qr_ta_b hs
    have he1 := he.1
    have he2 := he.2.1
    have h4 : ¬ s 144 = nI b := fun t => by
      have h5 := hlo.2.2.2.2.2 b hb2 (Or.inr (by rw [t, qz_nI (by omega)]))
      have h6 := hcb.1
      unfold qr_ld at h6
      rw [h5] at h6
      exact absurd (of_decide_eq_true h6) (by decide)
    have hft : x ≤ 0 ↔ qr_ft m s = true := by
      unfold qr_ft
      rw [qz_l0, decide_eq_true_eq, hx]
      omega
    rw [qa_fX1_burningsToLoad_60, if_neg (nI_ge (by omega) (by omega)), at_in (by omega) (by omega), h0, at_in hb2 (by omega), hc b hb2, qk_a1, nI_1]
    unfold qa_fX1_burningsToLoad_98 qr_rm
    by_cases c : qr_ft m s = true
    · rw [if_pos (hft.mpr c), if_pos c]
      rfl
    · rw [if_neg (fun t => c (hft.mp t)), if_neg c]
      dsimp only
      have e1 := bu_ta hs he hb.1 hcb.1 h4
      have := ih (i + 1) f (x - s (1 + 7 * b)) (qr_bu s b) (fun k hk => by rw [bu_o (by omega) (by omega)]; exact hc k hk) (bu_A hA' hb2) (bu_li hp hs hl) (fun j y hy => by
        rw [show i + 1 + j = i + (j + 1) by omega]
        exact hr (j + 1) y hy) (by omega) (by omega) (by rw [e1, bu_o (by omega) (by omega), qz_sub (by omega) (by omega)]; omega)
      rw [this]
      congr 3
      omega
set_option maxRecDepth 100000 in
theorem cl_bt {a : Nat} (h : qe_R R σ s) (hA : qi_A N s) (ha : a < qn (s 0)) : ∃ σ', qa_fX1_burningsToLoad R (nI a) σ = some (if qr_ld s a = true ∨ s 144 = nI a then 0 else nI (qr_mr (s (1 + 7 * a)).toInt s).1, σ') ∧ qe_G R σ σ' := by
  have hA' := hA
  obtain ⟨hs, hp, hw, hlo, hq, he, hct⟩ := hA
  have hn := (qi_n hs).2
  have hi0 := qn_int hs.1
  have ha2 : a < 16 := by omega
  have hcc := (hs.2.2 a ha2).2.2.2.2.1 (by omega)
  have hta := qr_ta_b hs
  have he1 := he.1
  have he2 := he.2.1
  have h9 := qr_lf_len s (qn (s 0))
  unfold qa_fX1_burningsToLoad qa_fX1_burningsToLoad_22
  rw [cl_rd h.1 hs ha2, ra_144 h.1, qk_a0]
  cases c1 : qr_ld s a
  · rw [if_neg (show ¬ ¬ qa_bi false = 0 by decide)]
    by_cases c2 : nI a = s 144
    · rw [if_neg (not_not_intro c2), if_pos (Or.inr c2.symm)]
      exact ⟨σ, rfl, qe_Gr⟩
    · rw [if_pos c2, if_neg (fun t => t.elim (fun t => by cases t) (fun t => c2 t.symm)), at_in ha2 (by omega), ra_c h.1 ha2, h.2, ra_163 h.1]
      obtain ⟨σ1, a1, a2, a3⟩ := cl_lu h.1 hs hp he
      have hlen : (qr_ln s).length ≤ 16 := by
        unfold qr_ln
        omega
      refine ⟨σ1, ?_, a2⟩
      rw [a1]
      simp only [Option.bind_some]
      have e1 : (qr_ta s + s (1 + 7 * a)).toInt = (qr_ta s).toInt + (s (1 + 7 * a)).toInt := qz_add (by omega) (by omega)
      have := cl_bt_l (σ := σ1) (R := R) (a := a) (N := N) (m := (s (1 + 7 * a)).toInt) hlen (by omega) (by omega) (qr_ln s) 0 qa_fu (qr_ta s + s (1 + 7 * a) - s 163) s (fun b hb => by
        rw [a2.1 _ (by simp) (by simp)]
        exact ra_c h.1 hb) hA' (qr_li_ln s) (fun j b hb => by rw [Nat.zero_add]; exact a3 j b hb) (by omega) (by unfold qa_fu; omega) (by rw [qz_sub (by omega) (by omega), e1])
      rw [Nat.zero_add, nI_0] at this
      rw [this]
      rfl
  · rw [if_pos (show ¬ qa_bi true = 0 by decide), if_pos (Or.inl rfl)]
    exact ⟨σ, rfl, qe_Gr⟩
end QCF
end
