section
-- ===== PART A: goes FIRST, ahead of the names: the tables' words, and 'selects' of the private methods out of them =====
/-- a private method of a class that the tables say can be made, by its rows of tables_1 -/
def lw_okq (q : MethodName × Nat) : Prop := (q.1.cls ≠ "java/lang/invoke/MethodHandle" ∧ q.1.cls ≠ "java/lang/invoke/VarHandle") ∧ Cond.instantiable q.1.cls q.2 ∈ tables_1 ∧ Cond.privateMethod q.1 ∈ tables_1 ∧ Cond.instanceMethod q.1 ∈ tables_1
theorem lw_p0 : lw_okq (⟨"TeaChests$House", "storedOf", "(I)I"⟩, 14) := ⟨⟨by decide +kernel, by decide +kernel⟩, List.mem_of_getElem? (i := 41) (by decide +kernel), List.mem_of_getElem? (i := 248) (by decide +kernel), List.mem_of_getElem? (i := 249) (by decide +kernel)⟩
theorem lw_p1 : lw_okq (⟨"java/lang/Throwable", "fillInStackTrace", "(I)Ljava/lang/Throwable;"⟩, 6) := ⟨⟨by decide +kernel, by decide +kernel⟩, List.mem_of_getElem? (i := 366) (by decide +kernel), List.mem_of_getElem? (i := 364) (by decide +kernel), List.mem_of_getElem? (i := 365) (by decide +kernel)⟩
theorem lw_p2 : lw_okq (⟨"TeaChests$History", "spareRow", "()LTeaChests$House;"⟩, 3) := ⟨⟨by decide +kernel, by decide +kernel⟩, List.mem_of_getElem? (i := 163) (by decide +kernel), List.mem_of_getElem? (i := 460) (by decide +kernel), List.mem_of_getElem? (i := 461) (by decide +kernel)⟩
theorem lw_p3 : lw_okq (⟨"TeaChests$House", "addToStore", "(III)V"⟩, 14) := ⟨⟨by decide +kernel, by decide +kernel⟩, List.mem_of_getElem? (i := 41) (by decide +kernel), List.mem_of_getElem? (i := 476) (by decide +kernel), List.mem_of_getElem? (i := 477) (by decide +kernel)⟩
theorem lw_p4 : lw_okq (⟨"TeaChests", "conclude", "(Z)V"⟩, 5) := ⟨⟨by decide +kernel, by decide +kernel⟩, List.mem_of_getElem? (i := 33) (by decide +kernel), List.mem_of_getElem? (i := 480) (by decide +kernel), List.mem_of_getElem? (i := 481) (by decide +kernel)⟩
theorem lw_p5 : lw_okq (⟨"TeaChests", "keepChange", "()V"⟩, 5) := ⟨⟨by decide +kernel, by decide +kernel⟩, List.mem_of_getElem? (i := 33) (by decide +kernel), List.mem_of_getElem? (i := 522) (by decide +kernel), List.mem_of_getElem? (i := 523) (by decide +kernel)⟩
theorem lw_p6 : lw_okq (⟨"TeaChests", "needChest", "(I)LTeaChests$Chest;"⟩, 5) := ⟨⟨by decide +kernel, by decide +kernel⟩, List.mem_of_getElem? (i := 33) (by decide +kernel), List.mem_of_getElem? (i := 553) (by decide +kernel), List.mem_of_getElem? (i := 554) (by decide +kernel)⟩
theorem lw_p7 : lw_okq (⟨"TeaChests$House", "isInHouse", "(LTeaChests$Chest;)Z"⟩, 14) := ⟨⟨by decide +kernel, by decide +kernel⟩, List.mem_of_getElem? (i := 41) (by decide +kernel), List.mem_of_getElem? (i := 566) (by decide +kernel), List.mem_of_getElem? (i := 567) (by decide +kernel)⟩
theorem lw_p8 : lw_okq (⟨"TeaChests$House", "isUnscrewed", "(LTeaChests$Chest;)Z"⟩, 14) := ⟨⟨by decide +kernel, by decide +kernel⟩, List.mem_of_getElem? (i := 41) (by decide +kernel), List.mem_of_getElem? (i := 570) (by decide +kernel), List.mem_of_getElem? (i := 571) (by decide +kernel)⟩
theorem lw_p9 : lw_okq (⟨"TeaChests$House", "isUnlined", "(LTeaChests$Chest;)Z"⟩, 14) := ⟨⟨by decide +kernel, by decide +kernel⟩, List.mem_of_getElem? (i := 41) (by decide +kernel), List.mem_of_getElem? (i := 574) (by decide +kernel), List.mem_of_getElem? (i := 575) (by decide +kernel)⟩
theorem lw_p10 : lw_okq (⟨"TeaChests$House", "hasSheets", "(I)Z"⟩, 14) := ⟨⟨by decide +kernel, by decide +kernel⟩, List.mem_of_getElem? (i := 41) (by decide +kernel), List.mem_of_getElem? (i := 578) (by decide +kernel), List.mem_of_getElem? (i := 579) (by decide +kernel)⟩
theorem lw_p11 : lw_okq (⟨"TeaChests$House", "hasNoOtherLeaves", "(LTeaChests$Chest;II)Z"⟩, 14) := ⟨⟨by decide +kernel, by decide +kernel⟩, List.mem_of_getElem? (i := 41) (by decide +kernel), List.mem_of_getElem? (i := 593) (by decide +kernel), List.mem_of_getElem? (i := 594) (by decide +kernel)⟩
theorem lw_p12 : lw_okq (⟨"TeaChests$House", "hasRoom", "(LTeaChests$Chest;I)Z"⟩, 14) := ⟨⟨by decide +kernel, by decide +kernel⟩, List.mem_of_getElem? (i := 41) (by decide +kernel), List.mem_of_getElem? (i := 597) (by decide +kernel), List.mem_of_getElem? (i := 598) (by decide +kernel)⟩
theorem lw_p13 : lw_okq (⟨"TeaChests$House", "hasPounds", "(III)Z"⟩, 14) := ⟨⟨by decide +kernel, by decide +kernel⟩, List.mem_of_getElem? (i := 41) (by decide +kernel), List.mem_of_getElem? (i := 605) (by decide +kernel), List.mem_of_getElem? (i := 606) (by decide +kernel)⟩
theorem lw_p14 : lw_okq (⟨"TeaChests$House", "isFilled", "(LTeaChests$Chest;)Z"⟩, 14) := ⟨⟨by decide +kernel, by decide +kernel⟩, List.mem_of_getElem? (i := 41) (by decide +kernel), List.mem_of_getElem? (i := 625) (by decide +kernel), List.mem_of_getElem? (i := 626) (by decide +kernel)⟩
theorem lw_p15 : lw_okq (⟨"TeaChests$House", "hasScrews", "(I)Z"⟩, 14) := ⟨⟨by decide +kernel, by decide +kernel⟩, List.mem_of_getElem? (i := 41) (by decide +kernel), List.mem_of_getElem? (i := 644) (by decide +kernel), List.mem_of_getElem? (i := 645) (by decide +kernel)⟩
def lw_privs_1 : List (MethodName × Nat) := [(⟨"TeaChests$House", "storedOf", "(I)I"⟩, 14), (⟨"java/lang/Throwable", "fillInStackTrace", "(I)Ljava/lang/Throwable;"⟩, 6), (⟨"TeaChests$History", "spareRow", "()LTeaChests$House;"⟩, 3), (⟨"TeaChests$House", "addToStore", "(III)V"⟩, 14), (⟨"TeaChests", "conclude", "(Z)V"⟩, 5), (⟨"TeaChests", "keepChange", "()V"⟩, 5), (⟨"TeaChests", "needChest", "(I)LTeaChests$Chest;"⟩, 5), (⟨"TeaChests$House", "isInHouse", "(LTeaChests$Chest;)Z"⟩, 14), (⟨"TeaChests$House", "isUnscrewed", "(LTeaChests$Chest;)Z"⟩, 14), (⟨"TeaChests$House", "isUnlined", "(LTeaChests$Chest;)Z"⟩, 14), (⟨"TeaChests$House", "hasSheets", "(I)Z"⟩, 14), (⟨"TeaChests$House", "hasNoOtherLeaves", "(LTeaChests$Chest;II)Z"⟩, 14), (⟨"TeaChests$House", "hasRoom", "(LTeaChests$Chest;I)Z"⟩, 14), (⟨"TeaChests$House", "hasPounds", "(III)Z"⟩, 14), (⟨"TeaChests$House", "isFilled", "(LTeaChests$Chest;)Z"⟩, 14), (⟨"TeaChests$House", "hasScrews", "(I)Z"⟩, 14)]
theorem lw_r1 : ∀ q ∈ lw_privs_1, lw_okq q := List.forall_mem_cons.mpr ⟨lw_p0, List.forall_mem_cons.mpr ⟨lw_p1, List.forall_mem_cons.mpr ⟨lw_p2, List.forall_mem_cons.mpr ⟨lw_p3, List.forall_mem_cons.mpr ⟨lw_p4, List.forall_mem_cons.mpr ⟨lw_p5, List.forall_mem_cons.mpr ⟨lw_p6, List.forall_mem_cons.mpr ⟨lw_p7, List.forall_mem_cons.mpr ⟨lw_p8, List.forall_mem_cons.mpr ⟨lw_p9, List.forall_mem_cons.mpr ⟨lw_p10, List.forall_mem_cons.mpr ⟨lw_p11, List.forall_mem_cons.mpr ⟨lw_p12, List.forall_mem_cons.mpr ⟨lw_p13, List.forall_mem_cons.mpr ⟨lw_p14, List.forall_mem_cons.mpr ⟨lw_p15, fun _ h => absurd h List.not_mem_nil⟩⟩⟩⟩⟩⟩⟩⟩⟩⟩⟩⟩⟩⟩⟩⟩
theorem lw_p16 : lw_okq (⟨"TeaChests$House", "takesScrews", "(LTeaChests$Chest;I)Z"⟩, 14) := ⟨⟨by decide +kernel, by decide +kernel⟩, List.mem_of_getElem? (i := 41) (by decide +kernel), List.mem_of_getElem? (i := 648) (by decide +kernel), List.mem_of_getElem? (i := 649) (by decide +kernel)⟩
theorem lw_p17 : lw_okq (⟨"TeaChests$House", "placeOf", "(LTeaChests$Chest;)I"⟩, 14) := ⟨⟨by decide +kernel, by decide +kernel⟩, List.mem_of_getElem? (i := 41) (by decide +kernel), List.mem_of_getElem? (i := 1006) (by decide +kernel), List.mem_of_getElem? (i := 1007) (by decide +kernel)⟩
theorem lw_p18 : lw_okq (⟨"TeaChests$House", "isReadyForQuay", "(LTeaChests$Chest;)Z"⟩, 14) := ⟨⟨by decide +kernel, by decide +kernel⟩, List.mem_of_getElem? (i := 41) (by decide +kernel), List.mem_of_getElem? (i := 1027) (by decide +kernel), List.mem_of_getElem? (i := 1028) (by decide +kernel)⟩
theorem lw_p19 : lw_okq (⟨"TeaChests$House", "isOnQuay", "(LTeaChests$Chest;)Z"⟩, 14) := ⟨⟨by decide +kernel, by decide +kernel⟩, List.mem_of_getElem? (i := 41) (by decide +kernel), List.mem_of_getElem? (i := 1046) (by decide +kernel), List.mem_of_getElem? (i := 1047) (by decide +kernel)⟩
theorem lw_p20 : lw_okq (⟨"TeaChests$House", "isShipReached", "()Z"⟩, 14) := ⟨⟨by decide +kernel, by decide +kernel⟩, List.mem_of_getElem? (i := 41) (by decide +kernel), List.mem_of_getElem? (i := 1050) (by decide +kernel), List.mem_of_getElem? (i := 1051) (by decide +kernel)⟩
theorem lw_p21 : lw_okq (⟨"TeaChests$House", "hasShipRoom", "(I)Z"⟩, 14) := ⟨⟨by decide +kernel, by decide +kernel⟩, List.mem_of_getElem? (i := 41) (by decide +kernel), List.mem_of_getElem? (i := 1055) (by decide +kernel), List.mem_of_getElem? (i := 1056) (by decide +kernel)⟩
theorem lw_p22 : lw_okq (⟨"TeaChests$House", "isShipLoaded", "()Z"⟩, 14) := ⟨⟨by decide +kernel, by decide +kernel⟩, List.mem_of_getElem? (i := 41) (by decide +kernel), List.mem_of_getElem? (i := 1075) (by decide +kernel), List.mem_of_getElem? (i := 1076) (by decide +kernel)⟩
theorem lw_p23 : lw_okq (⟨"TeaChests$House", "letDampIn", "()V"⟩, 14) := ⟨⟨by decide +kernel, by decide +kernel⟩, List.mem_of_getElem? (i := 41) (by decide +kernel), List.mem_of_getElem? (i := 1113) (by decide +kernel), List.mem_of_getElem? (i := 1114) (by decide +kernel)⟩
theorem lw_p24 : lw_okq (⟨"TeaChests$CommandText", "readVerb", "()LTeaChests$Verb;"⟩, 9) := ⟨⟨by decide +kernel, by decide +kernel⟩, List.mem_of_getElem? (i := 183) (by decide +kernel), List.mem_of_getElem? (i := 1225) (by decide +kernel), List.mem_of_getElem? (i := 1226) (by decide +kernel)⟩
theorem lw_p25 : lw_okq (⟨"TeaChests$CommandText", "readWord", "(Ljava/lang/String;)Z"⟩, 9) := ⟨⟨by decide +kernel, by decide +kernel⟩, List.mem_of_getElem? (i := 183) (by decide +kernel), List.mem_of_getElem? (i := 1231) (by decide +kernel), List.mem_of_getElem? (i := 1232) (by decide +kernel)⟩
theorem lw_p26 : lw_okq (⟨"TeaChests$CommandText", "signAt", "(I)I"⟩, 9) := ⟨⟨by decide +kernel, by decide +kernel⟩, List.mem_of_getElem? (i := 183) (by decide +kernel), List.mem_of_getElem? (i := 1236) (by decide +kernel), List.mem_of_getElem? (i := 1237) (by decide +kernel)⟩
theorem lw_p27 : lw_okq (⟨"TeaChests$CommandText", "readManyAsNumber", "()Z"⟩, 9) := ⟨⟨by decide +kernel, by decide +kernel⟩, List.mem_of_getElem? (i := 183) (by decide +kernel), List.mem_of_getElem? (i := 1250) (by decide +kernel), List.mem_of_getElem? (i := 1251) (by decide +kernel)⟩
theorem lw_p28 : lw_okq (⟨"TeaChests$CommandText", "readNumber", "()I"⟩, 9) := ⟨⟨by decide +kernel, by decide +kernel⟩, List.mem_of_getElem? (i := 183) (by decide +kernel), List.mem_of_getElem? (i := 1254) (by decide +kernel), List.mem_of_getElem? (i := 1255) (by decide +kernel)⟩
theorem lw_p29 : lw_okq (⟨"TeaChests$CommandText", "readDigit", "()I"⟩, 9) := ⟨⟨by decide +kernel, by decide +kernel⟩, List.mem_of_getElem? (i := 183) (by decide +kernel), List.mem_of_getElem? (i := 1258) (by decide +kernel), List.mem_of_getElem? (i := 1259) (by decide +kernel)⟩
theorem lw_p30 : lw_okq (⟨"TeaChests$CommandText", "readChest", "()Z"⟩, 9) := ⟨⟨by decide +kernel, by decide +kernel⟩, List.mem_of_getElem? (i := 183) (by decide +kernel), List.mem_of_getElem? (i := 1262) (by decide +kernel), List.mem_of_getElem? (i := 1263) (by decide +kernel)⟩
theorem lw_p31 : lw_okq (⟨"TeaChests$CommandText", "readLeaf", "()Z"⟩, 9) := ⟨⟨by decide +kernel, by decide +kernel⟩, List.mem_of_getElem? (i := 183) (by decide +kernel), List.mem_of_getElem? (i := 1270) (by decide +kernel), List.mem_of_getElem? (i := 1271) (by decide +kernel)⟩
def lw_privs_2 : List (MethodName × Nat) := [(⟨"TeaChests$House", "takesScrews", "(LTeaChests$Chest;I)Z"⟩, 14), (⟨"TeaChests$House", "placeOf", "(LTeaChests$Chest;)I"⟩, 14), (⟨"TeaChests$House", "isReadyForQuay", "(LTeaChests$Chest;)Z"⟩, 14), (⟨"TeaChests$House", "isOnQuay", "(LTeaChests$Chest;)Z"⟩, 14), (⟨"TeaChests$House", "isShipReached", "()Z"⟩, 14), (⟨"TeaChests$House", "hasShipRoom", "(I)Z"⟩, 14), (⟨"TeaChests$House", "isShipLoaded", "()Z"⟩, 14), (⟨"TeaChests$House", "letDampIn", "()V"⟩, 14), (⟨"TeaChests$CommandText", "readVerb", "()LTeaChests$Verb;"⟩, 9), (⟨"TeaChests$CommandText", "readWord", "(Ljava/lang/String;)Z"⟩, 9), (⟨"TeaChests$CommandText", "signAt", "(I)I"⟩, 9), (⟨"TeaChests$CommandText", "readManyAsNumber", "()Z"⟩, 9), (⟨"TeaChests$CommandText", "readNumber", "()I"⟩, 9), (⟨"TeaChests$CommandText", "readDigit", "()I"⟩, 9), (⟨"TeaChests$CommandText", "readChest", "()Z"⟩, 9), (⟨"TeaChests$CommandText", "readLeaf", "()Z"⟩, 9)]
theorem lw_r2 : ∀ q ∈ lw_privs_2, lw_okq q := List.forall_mem_cons.mpr ⟨lw_p16, List.forall_mem_cons.mpr ⟨lw_p17, List.forall_mem_cons.mpr ⟨lw_p18, List.forall_mem_cons.mpr ⟨lw_p19, List.forall_mem_cons.mpr ⟨lw_p20, List.forall_mem_cons.mpr ⟨lw_p21, List.forall_mem_cons.mpr ⟨lw_p22, List.forall_mem_cons.mpr ⟨lw_p23, List.forall_mem_cons.mpr ⟨lw_p24, List.forall_mem_cons.mpr ⟨lw_p25, List.forall_mem_cons.mpr ⟨lw_p26, List.forall_mem_cons.mpr ⟨lw_p27, List.forall_mem_cons.mpr ⟨lw_p28, List.forall_mem_cons.mpr ⟨lw_p29, List.forall_mem_cons.mpr ⟨lw_p30, List.forall_mem_cons.mpr ⟨lw_p31, fun _ h => absurd h List.not_mem_nil⟩⟩⟩⟩⟩⟩⟩⟩⟩⟩⟩⟩⟩⟩⟩⟩
theorem lw_p32 : lw_okq (⟨"TeaChests$CommandText", "readKind", "()Z"⟩, 9) := ⟨⟨by decide +kernel, by decide +kernel⟩, List.mem_of_getElem? (i := 183) (by decide +kernel), List.mem_of_getElem? (i := 1274) (by decide +kernel), List.mem_of_getElem? (i := 1275) (by decide +kernel)⟩
theorem lw_p33 : lw_okq (⟨"TeaChests$CommandText", "readManyAsDigit", "()Z"⟩, 9) := ⟨⟨by decide +kernel, by decide +kernel⟩, List.mem_of_getElem? (i := 183) (by decide +kernel), List.mem_of_getElem? (i := 1279) (by decide +kernel), List.mem_of_getElem? (i := 1280) (by decide +kernel)⟩
theorem lw_p34 : lw_okq (⟨"TeaChests", "carryOutAll", "(I)I"⟩, 5) := ⟨⟨by decide +kernel, by decide +kernel⟩, List.mem_of_getElem? (i := 33) (by decide +kernel), List.mem_of_getElem? (i := 1287) (by decide +kernel), List.mem_of_getElem? (i := 1288) (by decide +kernel)⟩
theorem lw_p35 : lw_okq (⟨"TeaChests", "carryOutRead", "()Z"⟩, 5) := ⟨⟨by decide +kernel, by decide +kernel⟩, List.mem_of_getElem? (i := 33) (by decide +kernel), List.mem_of_getElem? (i := 1293) (by decide +kernel), List.mem_of_getElem? (i := 1294) (by decide +kernel)⟩
theorem lw_p36 : lw_okq (⟨"TeaChestsModel", "begins", "()V"⟩, 21) := ⟨⟨by decide +kernel, by decide +kernel⟩, List.mem_of_getElem? (i := 1333) (by decide +kernel), List.mem_of_getElem? (i := 1411) (by decide +kernel), List.mem_of_getElem? (i := 1412) (by decide +kernel)⟩
theorem lw_p37 : lw_okq (⟨"TeaChestsModel", "brings", "(III)I"⟩, 21) := ⟨⟨by decide +kernel, by decide +kernel⟩, List.mem_of_getElem? (i := 1333) (by decide +kernel), List.mem_of_getElem? (i := 1418) (by decide +kernel), List.mem_of_getElem? (i := 1419) (by decide +kernel)⟩
theorem lw_p38 : lw_okq (⟨"TeaChestsModel", "fail", "(I)I"⟩, 21) := ⟨⟨by decide +kernel, by decide +kernel⟩, List.mem_of_getElem? (i := 1333) (by decide +kernel), List.mem_of_getElem? (i := 1428) (by decide +kernel), List.mem_of_getElem? (i := 1429) (by decide +kernel)⟩
theorem lw_p39 : lw_okq (⟨"TeaChestsModel", "refuses", "(II)I"⟩, 21) := ⟨⟨by decide +kernel, by decide +kernel⟩, List.mem_of_getElem? (i := 1333) (by decide +kernel), List.mem_of_getElem? (i := 1435) (by decide +kernel), List.mem_of_getElem? (i := 1436) (by decide +kernel)⟩
theorem lw_p40 : lw_okq (⟨"TeaChestsModel", "ends", "(IIII)I"⟩, 21) := ⟨⟨by decide +kernel, by decide +kernel⟩, List.mem_of_getElem? (i := 1333) (by decide +kernel), List.mem_of_getElem? (i := 1439) (by decide +kernel), List.mem_of_getElem? (i := 1440) (by decide +kernel)⟩
theorem lw_p41 : lw_okq (⟨"TeaChestsModel", "no", "(I)I"⟩, 21) := ⟨⟨by decide +kernel, by decide +kernel⟩, List.mem_of_getElem? (i := 1333) (by decide +kernel), List.mem_of_getElem? (i := 1443) (by decide +kernel), List.mem_of_getElem? (i := 1444) (by decide +kernel)⟩
theorem lw_p42 : lw_okq (⟨"TeaChestsModel", "allOf", "(I)I"⟩, 21) := ⟨⟨by decide +kernel, by decide +kernel⟩, List.mem_of_getElem? (i := 1333) (by decide +kernel), List.mem_of_getElem? (i := 1455) (by decide +kernel), List.mem_of_getElem? (i := 1456) (by decide +kernel)⟩
theorem lw_p43 : lw_okq (⟨"TeaChestsModel", "buys", "(II)I"⟩, 21) := ⟨⟨by decide +kernel, by decide +kernel⟩, List.mem_of_getElem? (i := 1333) (by decide +kernel), List.mem_of_getElem? (i := 1463) (by decide +kernel), List.mem_of_getElem? (i := 1464) (by decide +kernel)⟩
theorem lw_p44 : lw_okq (⟨"TeaChestsModel", "makes", "(I)I"⟩, 21) := ⟨⟨by decide +kernel, by decide +kernel⟩, List.mem_of_getElem? (i := 1333) (by decide +kernel), List.mem_of_getElem? (i := 1474) (by decide +kernel), List.mem_of_getElem? (i := 1475) (by decide +kernel)⟩
theorem lw_p45 : lw_okq (⟨"TeaChestsModel", "linesChest", "(I)I"⟩, 21) := ⟨⟨by decide +kernel, by decide +kernel⟩, List.mem_of_getElem? (i := 1333) (by decide +kernel), List.mem_of_getElem? (i := 1485) (by decide +kernel), List.mem_of_getElem? (i := 1486) (by decide +kernel)⟩
theorem lw_p46 : lw_okq (⟨"TeaChestsModel", "isChest", "(I)Z"⟩, 21) := ⟨⟨by decide +kernel, by decide +kernel⟩, List.mem_of_getElem? (i := 1333) (by decide +kernel), List.mem_of_getElem? (i := 1489) (by decide +kernel), List.mem_of_getElem? (i := 1490) (by decide +kernel)⟩
theorem lw_p47 : lw_okq (⟨"TeaChestsModel", "isShut", "(I)Z"⟩, 21) := ⟨⟨by decide +kernel, by decide +kernel⟩, List.mem_of_getElem? (i := 1333) (by decide +kernel), List.mem_of_getElem? (i := 1493) (by decide +kernel), List.mem_of_getElem? (i := 1494) (by decide +kernel)⟩
def lw_privs_3 : List (MethodName × Nat) := [(⟨"TeaChests$CommandText", "readKind", "()Z"⟩, 9), (⟨"TeaChests$CommandText", "readManyAsDigit", "()Z"⟩, 9), (⟨"TeaChests", "carryOutAll", "(I)I"⟩, 5), (⟨"TeaChests", "carryOutRead", "()Z"⟩, 5), (⟨"TeaChestsModel", "begins", "()V"⟩, 21), (⟨"TeaChestsModel", "brings", "(III)I"⟩, 21), (⟨"TeaChestsModel", "fail", "(I)I"⟩, 21), (⟨"TeaChestsModel", "refuses", "(II)I"⟩, 21), (⟨"TeaChestsModel", "ends", "(IIII)I"⟩, 21), (⟨"TeaChestsModel", "no", "(I)I"⟩, 21), (⟨"TeaChestsModel", "allOf", "(I)I"⟩, 21), (⟨"TeaChestsModel", "buys", "(II)I"⟩, 21), (⟨"TeaChestsModel", "makes", "(I)I"⟩, 21), (⟨"TeaChestsModel", "linesChest", "(I)I"⟩, 21), (⟨"TeaChestsModel", "isChest", "(I)Z"⟩, 21), (⟨"TeaChestsModel", "isShut", "(I)Z"⟩, 21)]
theorem lw_r3 : ∀ q ∈ lw_privs_3, lw_okq q := List.forall_mem_cons.mpr ⟨lw_p32, List.forall_mem_cons.mpr ⟨lw_p33, List.forall_mem_cons.mpr ⟨lw_p34, List.forall_mem_cons.mpr ⟨lw_p35, List.forall_mem_cons.mpr ⟨lw_p36, List.forall_mem_cons.mpr ⟨lw_p37, List.forall_mem_cons.mpr ⟨lw_p38, List.forall_mem_cons.mpr ⟨lw_p39, List.forall_mem_cons.mpr ⟨lw_p40, List.forall_mem_cons.mpr ⟨lw_p41, List.forall_mem_cons.mpr ⟨lw_p42, List.forall_mem_cons.mpr ⟨lw_p43, List.forall_mem_cons.mpr ⟨lw_p44, List.forall_mem_cons.mpr ⟨lw_p45, List.forall_mem_cons.mpr ⟨lw_p46, List.forall_mem_cons.mpr ⟨lw_p47, fun _ h => absurd h List.not_mem_nil⟩⟩⟩⟩⟩⟩⟩⟩⟩⟩⟩⟩⟩⟩⟩⟩
theorem lw_p48 : lw_okq (⟨"TeaChestsModel", "fills", "(IIII)I"⟩, 21) := ⟨⟨by decide +kernel, by decide +kernel⟩, List.mem_of_getElem? (i := 1333) (by decide +kernel), List.mem_of_getElem? (i := 1501) (by decide +kernel), List.mem_of_getElem? (i := 1502) (by decide +kernel)⟩
theorem lw_p49 : lw_okq (⟨"TeaChestsModel", "isEmpty", "(I)Z"⟩, 21) := ⟨⟨by decide +kernel, by decide +kernel⟩, List.mem_of_getElem? (i := 1333) (by decide +kernel), List.mem_of_getElem? (i := 1505) (by decide +kernel), List.mem_of_getElem? (i := 1506) (by decide +kernel)⟩
theorem lw_p50 : lw_okq (⟨"TeaChestsModel", "empties", "(I)I"⟩, 21) := ⟨⟨by decide +kernel, by decide +kernel⟩, List.mem_of_getElem? (i := 1333) (by decide +kernel), List.mem_of_getElem? (i := 1513) (by decide +kernel), List.mem_of_getElem? (i := 1514) (by decide +kernel)⟩
theorem lw_p51 : lw_okq (⟨"TeaChestsModel", "screws", "(II)I"⟩, 21) := ⟨⟨by decide +kernel, by decide +kernel⟩, List.mem_of_getElem? (i := 1333) (by decide +kernel), List.mem_of_getElem? (i := 1521) (by decide +kernel), List.mem_of_getElem? (i := 1522) (by decide +kernel)⟩
theorem lw_p52 : lw_okq (⟨"TeaChestsModel", "isTight", "(I)Z"⟩, 21) := ⟨⟨by decide +kernel, by decide +kernel⟩, List.mem_of_getElem? (i := 1333) (by decide +kernel), List.mem_of_getElem? (i := 1525) (by decide +kernel), List.mem_of_getElem? (i := 1526) (by decide +kernel)⟩
theorem lw_p53 : lw_okq (⟨"TeaChestsModel", "unscrews", "(I)I"⟩, 21) := ⟨⟨by decide +kernel, by decide +kernel⟩, List.mem_of_getElem? (i := 1333) (by decide +kernel), List.mem_of_getElem? (i := 1533) (by decide +kernel), List.mem_of_getElem? (i := 1534) (by decide +kernel)⟩
theorem lw_p54 : lw_okq (⟨"TeaChestsModel", "labels", "(I)I"⟩, 21) := ⟨⟨by decide +kernel, by decide +kernel⟩, List.mem_of_getElem? (i := 1333) (by decide +kernel), List.mem_of_getElem? (i := 1541) (by decide +kernel), List.mem_of_getElem? (i := 1542) (by decide +kernel)⟩
theorem lw_p55 : lw_okq (⟨"TeaChestsModel", "writesLabel", "(I)V"⟩, 21) := ⟨⟨by decide +kernel, by decide +kernel⟩, List.mem_of_getElem? (i := 1333) (by decide +kernel), List.mem_of_getElem? (i := 1545) (by decide +kernel), List.mem_of_getElem? (i := 1546) (by decide +kernel)⟩
theorem lw_p56 : lw_okq (⟨"TeaChestsModel", "writes", "(I)V"⟩, 21) := ⟨⟨by decide +kernel, by decide +kernel⟩, List.mem_of_getElem? (i := 1333) (by decide +kernel), List.mem_of_getElem? (i := 1549) (by decide +kernel), List.mem_of_getElem? (i := 1550) (by decide +kernel)⟩
theorem lw_p57 : lw_okq (⟨"TeaChestsModel", "worthOf", "(I)I"⟩, 21) := ⟨⟨by decide +kernel, by decide +kernel⟩, List.mem_of_getElem? (i := 1333) (by decide +kernel), List.mem_of_getElem? (i := 1565) (by decide +kernel), List.mem_of_getElem? (i := 1566) (by decide +kernel)⟩
theorem lw_p58 : lw_okq (⟨"TeaChestsModel", "isAhead", "(II)Z"⟩, 21) := ⟨⟨by decide +kernel, by decide +kernel⟩, List.mem_of_getElem? (i := 1333) (by decide +kernel), List.mem_of_getElem? (i := 1573) (by decide +kernel), List.mem_of_getElem? (i := 1574) (by decide +kernel)⟩
theorem lw_p59 : lw_okq (⟨"TeaChestsModel", "goesOut", "(I)I"⟩, 21) := ⟨⟨by decide +kernel, by decide +kernel⟩, List.mem_of_getElem? (i := 1333) (by decide +kernel), List.mem_of_getElem? (i := 1581) (by decide +kernel), List.mem_of_getElem? (i := 1582) (by decide +kernel)⟩
theorem lw_p60 : lw_okq (⟨"TeaChestsModel", "withWhere", "(I)I"⟩, 21) := ⟨⟨by decide +kernel, by decide +kernel⟩, List.mem_of_getElem? (i := 1333) (by decide +kernel), List.mem_of_getElem? (i := 1585) (by decide +kernel), List.mem_of_getElem? (i := 1586) (by decide +kernel)⟩
theorem lw_p61 : lw_okq (⟨"TeaChestsModel", "loads", "(I)I"⟩, 21) := ⟨⟨by decide +kernel, by decide +kernel⟩, List.mem_of_getElem? (i := 1333) (by decide +kernel), List.mem_of_getElem? (i := 1593) (by decide +kernel), List.mem_of_getElem? (i := 1594) (by decide +kernel)⟩
theorem lw_p62 : lw_okq (⟨"TeaChestsModel", "room", "()I"⟩, 21) := ⟨⟨by decide +kernel, by decide +kernel⟩, List.mem_of_getElem? (i := 1333) (by decide +kernel), List.mem_of_getElem? (i := 1600) (by decide +kernel), List.mem_of_getElem? (i := 1601) (by decide +kernel)⟩
theorem lw_p63 : lw_okq (⟨"TeaChestsModel", "sails", "()I"⟩, 21) := ⟨⟨by decide +kernel, by decide +kernel⟩, List.mem_of_getElem? (i := 1333) (by decide +kernel), List.mem_of_getElem? (i := 1608) (by decide +kernel), List.mem_of_getElem? (i := 1609) (by decide +kernel)⟩
def lw_privs_4 : List (MethodName × Nat) := [(⟨"TeaChestsModel", "fills", "(IIII)I"⟩, 21), (⟨"TeaChestsModel", "isEmpty", "(I)Z"⟩, 21), (⟨"TeaChestsModel", "empties", "(I)I"⟩, 21), (⟨"TeaChestsModel", "screws", "(II)I"⟩, 21), (⟨"TeaChestsModel", "isTight", "(I)Z"⟩, 21), (⟨"TeaChestsModel", "unscrews", "(I)I"⟩, 21), (⟨"TeaChestsModel", "labels", "(I)I"⟩, 21), (⟨"TeaChestsModel", "writesLabel", "(I)V"⟩, 21), (⟨"TeaChestsModel", "writes", "(I)V"⟩, 21), (⟨"TeaChestsModel", "worthOf", "(I)I"⟩, 21), (⟨"TeaChestsModel", "isAhead", "(II)Z"⟩, 21), (⟨"TeaChestsModel", "goesOut", "(I)I"⟩, 21), (⟨"TeaChestsModel", "withWhere", "(I)I"⟩, 21), (⟨"TeaChestsModel", "loads", "(I)I"⟩, 21), (⟨"TeaChestsModel", "room", "()I"⟩, 21), (⟨"TeaChestsModel", "sails", "()I"⟩, 21)]
theorem lw_r4 : ∀ q ∈ lw_privs_4, lw_okq q := List.forall_mem_cons.mpr ⟨lw_p48, List.forall_mem_cons.mpr ⟨lw_p49, List.forall_mem_cons.mpr ⟨lw_p50, List.forall_mem_cons.mpr ⟨lw_p51, List.forall_mem_cons.mpr ⟨lw_p52, List.forall_mem_cons.mpr ⟨lw_p53, List.forall_mem_cons.mpr ⟨lw_p54, List.forall_mem_cons.mpr ⟨lw_p55, List.forall_mem_cons.mpr ⟨lw_p56, List.forall_mem_cons.mpr ⟨lw_p57, List.forall_mem_cons.mpr ⟨lw_p58, List.forall_mem_cons.mpr ⟨lw_p59, List.forall_mem_cons.mpr ⟨lw_p60, List.forall_mem_cons.mpr ⟨lw_p61, List.forall_mem_cons.mpr ⟨lw_p62, List.forall_mem_cons.mpr ⟨lw_p63, fun _ h => absurd h List.not_mem_nil⟩⟩⟩⟩⟩⟩⟩⟩⟩⟩⟩⟩⟩⟩⟩⟩
theorem lw_p64 : lw_okq (⟨"TeaChestsModel", "cargoOf", "()I"⟩, 21) := ⟨⟨by decide +kernel, by decide +kernel⟩, List.mem_of_getElem? (i := 1333) (by decide +kernel), List.mem_of_getElem? (i := 1612) (by decide +kernel), List.mem_of_getElem? (i := 1613) (by decide +kernel)⟩
theorem lw_p65 : lw_okq (⟨"TeaChestsModel", "humid", "(I)I"⟩, 21) := ⟨⟨by decide +kernel, by decide +kernel⟩, List.mem_of_getElem? (i := 1333) (by decide +kernel), List.mem_of_getElem? (i := 1637) (by decide +kernel), List.mem_of_getElem? (i := 1638) (by decide +kernel)⟩
theorem lw_p66 : lw_okq (⟨"TeaChestsModel", "passes", "(I)I"⟩, 21) := ⟨⟨by decide +kernel, by decide +kernel⟩, List.mem_of_getElem? (i := 1333) (by decide +kernel), List.mem_of_getElem? (i := 1645) (by decide +kernel), List.mem_of_getElem? (i := 1646) (by decide +kernel)⟩
theorem lw_p67 : lw_okq (⟨"TeaChestsModel", "hour", "()V"⟩, 21) := ⟨⟨by decide +kernel, by decide +kernel⟩, List.mem_of_getElem? (i := 1333) (by decide +kernel), List.mem_of_getElem? (i := 1649) (by decide +kernel), List.mem_of_getElem? (i := 1650) (by decide +kernel)⟩
theorem lw_p68 : lw_okq (⟨"TeaChestsModel", "stored", "()I"⟩, 21) := ⟨⟨by decide +kernel, by decide +kernel⟩, List.mem_of_getElem? (i := 1333) (by decide +kernel), List.mem_of_getElem? (i := 1657) (by decide +kernel), List.mem_of_getElem? (i := 1658) (by decide +kernel)⟩
theorem lw_p69 : lw_okq (⟨"TeaChestsModel", "packed", "()I"⟩, 21) := ⟨⟨by decide +kernel, by decide +kernel⟩, List.mem_of_getElem? (i := 1333) (by decide +kernel), List.mem_of_getElem? (i := 1661) (by decide +kernel), List.mem_of_getElem? (i := 1662) (by decide +kernel)⟩
theorem lw_p70 : lw_okq (⟨"TeaChestsModel", "commands", "()I"⟩, 21) := ⟨⟨by decide +kernel, by decide +kernel⟩, List.mem_of_getElem? (i := 1333) (by decide +kernel), List.mem_of_getElem? (i := 1689) (by decide +kernel), List.mem_of_getElem? (i := 1690) (by decide +kernel)⟩
theorem lw_p71 : lw_okq (⟨"TeaChestsModel", "command", "()V"⟩, 21) := ⟨⟨by decide +kernel, by decide +kernel⟩, List.mem_of_getElem? (i := 1333) (by decide +kernel), List.mem_of_getElem? (i := 1693) (by decide +kernel), List.mem_of_getElem? (i := 1694) (by decide +kernel)⟩
theorem lw_p72 : lw_okq (⟨"TeaChestsModel", "word", "(II)I"⟩, 21) := ⟨⟨by decide +kernel, by decide +kernel⟩, List.mem_of_getElem? (i := 1333) (by decide +kernel), List.mem_of_getElem? (i := 1697) (by decide +kernel), List.mem_of_getElem? (i := 1698) (by decide +kernel)⟩
theorem lw_p73 : lw_okq (⟨"TeaChestsModel", "sign", "()I"⟩, 21) := ⟨⟨by decide +kernel, by decide +kernel⟩, List.mem_of_getElem? (i := 1333) (by decide +kernel), List.mem_of_getElem? (i := 1701) (by decide +kernel), List.mem_of_getElem? (i := 1702) (by decide +kernel)⟩
theorem lw_p74 : lw_okq (⟨"TeaChestsModel", "number", "(I)I"⟩, 21) := ⟨⟨by decide +kernel, by decide +kernel⟩, List.mem_of_getElem? (i := 1333) (by decide +kernel), List.mem_of_getElem? (i := 1705) (by decide +kernel), List.mem_of_getElem? (i := 1706) (by decide +kernel)⟩
theorem lw_p75 : lw_okq (⟨"TeaChestsModel", "mark", "(I)V"⟩, 21) := ⟨⟨by decide +kernel, by decide +kernel⟩, List.mem_of_getElem? (i := 1333) (by decide +kernel), List.mem_of_getElem? (i := 1709) (by decide +kernel), List.mem_of_getElem? (i := 1710) (by decide +kernel)⟩
theorem lw_p76 : lw_okq (⟨"TeaChestsModel", "does", "(I)I"⟩, 21) := ⟨⟨by decide +kernel, by decide +kernel⟩, List.mem_of_getElem? (i := 1333) (by decide +kernel), List.mem_of_getElem? (i := 1713) (by decide +kernel), List.mem_of_getElem? (i := 1714) (by decide +kernel)⟩
def lw_privs_5 : List (MethodName × Nat) := [(⟨"TeaChestsModel", "cargoOf", "()I"⟩, 21), (⟨"TeaChestsModel", "humid", "(I)I"⟩, 21), (⟨"TeaChestsModel", "passes", "(I)I"⟩, 21), (⟨"TeaChestsModel", "hour", "()V"⟩, 21), (⟨"TeaChestsModel", "stored", "()I"⟩, 21), (⟨"TeaChestsModel", "packed", "()I"⟩, 21), (⟨"TeaChestsModel", "commands", "()I"⟩, 21), (⟨"TeaChestsModel", "command", "()V"⟩, 21), (⟨"TeaChestsModel", "word", "(II)I"⟩, 21), (⟨"TeaChestsModel", "sign", "()I"⟩, 21), (⟨"TeaChestsModel", "number", "(I)I"⟩, 21), (⟨"TeaChestsModel", "mark", "(I)V"⟩, 21), (⟨"TeaChestsModel", "does", "(I)I"⟩, 21)]
theorem lw_r5 : ∀ q ∈ lw_privs_5, lw_okq q := List.forall_mem_cons.mpr ⟨lw_p64, List.forall_mem_cons.mpr ⟨lw_p65, List.forall_mem_cons.mpr ⟨lw_p66, List.forall_mem_cons.mpr ⟨lw_p67, List.forall_mem_cons.mpr ⟨lw_p68, List.forall_mem_cons.mpr ⟨lw_p69, List.forall_mem_cons.mpr ⟨lw_p70, List.forall_mem_cons.mpr ⟨lw_p71, List.forall_mem_cons.mpr ⟨lw_p72, List.forall_mem_cons.mpr ⟨lw_p73, List.forall_mem_cons.mpr ⟨lw_p74, List.forall_mem_cons.mpr ⟨lw_p75, List.forall_mem_cons.mpr ⟨lw_p76, fun _ h => absurd h List.not_mem_nil⟩⟩⟩⟩⟩⟩⟩⟩⟩⟩⟩⟩⟩
def lw_privs : List (MethodName × Nat) := lw_privs_1 ++ (lw_privs_2 ++ (lw_privs_3 ++ (lw_privs_4 ++ (lw_privs_5))))
def lw_tbl : List Cond := k2_sels lw_privs ++ tables_1
theorem lw_privs_ok : ∀ q ∈ lw_privs, lw_okq q := by
  show ∀ q ∈ lw_privs_1 ++ (lw_privs_2 ++ (lw_privs_3 ++ (lw_privs_4 ++ (lw_privs_5)))), lw_okq q
  exact List.forall_mem_append.mpr ⟨lw_r1, List.forall_mem_append.mpr ⟨lw_r2, List.forall_mem_append.mpr ⟨lw_r3, List.forall_mem_append.mpr ⟨lw_r4, lw_r5⟩⟩⟩⟩
/-- the streams that the claim lets the run draw from -/
abbrev lw_cs : List Choice := [Jvm.Choice.named "NaN.bits"]
theorem lw_bits : nanBits ∈ lw_cs := by first | decide | exact List.mem_cons_self | simp [lw_cs, nanBits]
end
section
/-! ===== BEGIN words of one list among another's, by their places ===== -/
theorem goodIn_r {big : List Cond} (ws : List Cond) (ps : List Nat) (hp : ws = ps.filterMap (fun i => big[i]?)) (h : ws.all goodWord = true) : GoodIn big ws := by
  intro w hw
  have h1 := List.all_eq_true.mp h w hw
  rw [hp] at hw
  obtain ⟨i, -, hi⟩ := List.mem_filterMap.mp hw
  have hm : w ∈ big := by first | exact List.mem_of_getElem? hi | exact List.getElem?_mem hi
  exact ⟨hm, good_of_word h1⟩
theorem goodIn_app {big a b : List Cond} (ha : GoodIn big a) (hb : GoodIn big b) : GoodIn big (a ++ b) := fun w h => (List.mem_append.mp h).elim (ha w) (hb w)
theorem goodIn_ca {big a b : List Cond} {c : Cond} (ha : GoodIn big (c :: a)) (hb : GoodIn big b) : GoodIn big (c :: (a ++ b)) := fun w h => (List.mem_cons.mp h).elim (fun e => ha w (List.mem_cons.mpr (Or.inl e))) (fun h => (List.mem_append.mp h).elim (fun h => ha w (List.mem_cons.mpr (Or.inr h))) (hb w))
theorem goodIn_sub {big ws : List Cond} (hm : ∀ w ∈ ws, w ∈ big) (h : ws.all goodWord = true) : GoodIn big ws := fun w hw => ⟨hm w hw, good_of_word (List.all_eq_true.mp h w hw)⟩
/-! ===== END ===== -/

/-! ===== BEGIN exceptions that leave a method, and their catching by the caller (launches without stack traces) ===== -/
section VXA
/-! The laws vx_back, vx_callV, vx_callS, vx_callSW, vx_throw0, vx_throwS follow proofs of the library, with one case more: JvmDerived/Free/Laws.lean (Back.of_free), Shelf42/LK1.lean (callV, callS), Shelf/KitTraced.lean (throwNew0V, throwNewS). -/
/-- where a method has thrown q: the class by its name, the cell, what was written, the world -/
def vx_T (XC : String → State → State → Prop) (st : State) (q : Addr) (t : State) (mc ms : Nat) (free : Addr → Prop) : Prop :=
  ∃ (E : String) (ce : Cell) (L : List Loc), XC E st t ∧ t.heap[q]? = some ce ∧ ce.vm = .none ∧ st.vm.findClass E = some ce.cls ∧ st.WarmedH t.vm ∧ st.sameButNew ({ t with vm := st.vm } : State) L mc ms ∧ ∀ z ∈ L, free z.base
def vx_Q (Qc : Array Value → State → Outcome → State → Prop) (XC : String → State → State → Prop) (mc ms : Nat) (free : Addr → Prop) : Array Value → State → Outcome → State → Prop := fun a st o t =>
  (Qc a st o t ∧ ∃ L, FrameEnd st o t L mc ms ∧ ∀ q ∈ L, free q.base) ∨ ∃ q, o = .threw q ∧ vx_T XC st q t mc ms free
/-- a callee that returns or throws -/
def vx_Met (l : Launch) (y : MethodName) (ws : List Cond) (rm : Room) (Pc : Array Value → State → Prop) (Qc : Array Value → State → Outcome → State → Prop) (XC : String → State → State → Prop) (mc ms : Nat) (free : Addr → Prop) : Prop :=
  MetFree l y (headSpec ws rm) Pc (fun _ _ _ _ _ => True) (vx_Q Qc XC mc ms free)
def vx_Post (XC : String → State → State → Prop) (mc ms : Nat) (free : Addr → Prop) : Pt → Array Value → Addr → Pt → Prop := fun A a q B =>
  ∃ (g : JFrame) (mk : MethodId) (t : State) (L : List Loc) (E : String) (ce : Cell), B.U.heap = t.heap ∧ B.U.vm = t.vm ∧ XC E (A.U.calling g mk a) t ∧ t.heap[q]? = some ce ∧ ce.vm = .none ∧ A.U.vm.findClass E = some ce.cls ∧ B.locs = A.locs ++ L ∧ (∀ z ∈ L, free z.base) ∧ B.cells = A.cells + mc ∧ B.slots = A.slots + ms
def vx_Back (l : Launch) (R : Room) (p : Program) (e : Env) (below : List Frame) (s : State) (sargs : Array Value) (y : MethodName) (len W9 : Nat)
    (Pre : Pt → Array Value → Prop) (Post : Pt → Array Value → Option Value → Pt → Prop) (PostX : Pt → Array Value → Addr → Pt → Prop) : Prop :=
  ∀ (m : MethodId) (meth : Method) (c : Code) (A : Pt) (g : JFrame) (ig : Instr) (mk : MethodId) (a : Array Value),
    Stand p l e R s m sargs below meth c A.U A.locs A.cells A.slots → g.method = m → g.locals.size = c.maxLocals → decode c.code g.pc = .ok (ig, len) →
    2 * g.monitorRoom + (g.stack.map fun v => v.category).sum ≤ W9 → A.U.methodNamed? y = some mk → Pre A a →
    (∃ (v : Option Value) (B : Pt), Stand p l e R s m sargs below meth c B.U B.locs B.cells B.slots ∧ Post A a v B ∧
      Steps p.tables e below (doInvoke e (A.U.setTop g) [] mk a).1 (B.U.setTop { g with pc := g.pc + len, stack := v.toList ++ g.stack })) ∨
    (∃ (q : Addr) (B : Pt), Stand p l e R s m sargs below meth c B.U B.locs B.cells B.slots ∧ PostX A a q B ∧
      Steps p.tables e below (doInvoke e (A.U.setTop g) [] mk a).1 ((B.U.setTop g).pushFrame (.throwing q)))
section Payer
variable {l : Launch} {R : Room} {p : Program} {e : Env} {below : List Frame} {s : State} {sargs : Array Value} {y : MethodName} {len W9 : Nat}
theorem vx_back {ws : List Cond} {rm : Room} {Pc : Array Value → State → Prop} {Qc : Array Value → State → Outcome → State → Prop} {XC : String → State → State → Prop} {mc ms : Nat} {free : Addr → Prop} {bytes : ByteArray} {maxL : Nat} {ret : Option FieldType}
    (hM : vx_Met l y ws rm Pc Qc XC mc ms free) (hblind : FrameBlind Pc) (hrc : rm.cells = mc) (hrs : rm.slots = ms)
    (hframes : rm.frames + 1 ≤ R.frames) (hlocals : W9 + (maxL + 11) + rm.locals ≤ R.locals)
    (hws : ∀ w ∈ ws, ∀ a' U, s.WarmedH U.vm → w.before a' U = true) (hcode : Cond.code y bytes maxL ret ∈ ws) (hinit : ∀ a' U, s.WarmedH U.vm → (Cond.initialized y.cls).before a' U = true) :
    vx_Back l R p e below s sargs y len W9 (PreOf R mc ms Pc) (PostOf Qc mc ms free) (vx_Post XC mc ms free) := by
  intro m meth c A g ig mk a X hg hsize hdg hW hn hp
  have h1 : (headSpec ws rm).pre.before a A.U = true := atoms_intro fun w hw => hws w hw _ _ X.warmed
  have h2 : (Cond.code y bytes maxL ret).before a A.U = true := hws _ hcode _ _ X.warmed
  have h3 : (Cond.initialized y.cls).before a A.U = true := hinit _ _ X.warmed
  have h4 : A.cells + (headSpec ws rm).room.cells ≤ R.cells := by rw [show (headSpec ws rm).room.cells = mc from hrc]; exact hp.1
  have h5 : A.slots + (headSpec ws rm).room.slots ≤ R.slots := by rw [show (headSpec ws rm).room.slots = ms from hrs]; exact hp.2.1
  have hPc : Pc a (A.U.calling g mk a) := hblind _ _ _ _ hp.2.2
  obtain ⟨U, Ls, c0, s0⟩ := A
  dsimp only [Pt.U, Pt.locs, Pt.cells, Pt.slots] at h1 h2 h3 h4 h5 X hn hPc ⊢
  obtain ⟨methY, cY, hmY, hcY, -, hlY, -, -, -, -⟩ := Cond.code_spec hn h2
  obtain ⟨kY, hkY, -⟩ := className_of_methodNamed hn
  have hinitY : kY.init = .initialized := Cond.initialized_spec (findClass_of_methodNamed hn) hkY h3
  have h : At U g.method c below := by rw [hg]; exact X.here
  have hlocals9 : W9 + (maxL + 11) + (headSpec ws rm).room.locals ≤ R.locals := hlocals
  have happ : (headSpec ws rm).appliesLoose y e.platform (U.calling g mk a) = true :=
    Spec.appliesLoose_calling (g := g) h hdg hn hkY hinitY
      (X.room_calling (g := g) (R' := (headSpec ws rm).room) hsize hmY hcY hframes (by rw [hlY]; omega) h4 h5) h1
  obtain ⟨mid, hmid⟩ := h.above
  have hfr : (U.setTop g).frames = (.java g :: mid) ++ below := by rw [State.frames_setTop' g h.top, hmid]; rfl
  obtain ⟨o, s₂, hsteps, -, hend, hq⟩ := Steps.callFree hM p X.admits X.cas X.clock (acts := []) hfr happ hPc trivial
  have hq' : vx_Q Qc XC mc ms free a (U.calling g mk a) o s₂ := hq
  rw [State.frames_setTop' g h.top] at hend
  obtain ⟨g₀, hg0⟩ := Option.isSome_iff_exists.mp h.top
  obtain ⟨r, hr⟩ := State.topJava?_eq_some.mp hg0
  have hr' : (({ U with heap := s₂.heap, slotsUsed := s₂.slotsUsed } : State).setVm s₂.vm).frames = .java g₀ :: r := hr
  rcases hq' with ⟨hqc, L, hfe, hL⟩ | ⟨q, rfl, E, ce, L, hx, hce, hcv, hcl, hW₂, hsm, hL⟩
  · obtain ⟨⟨v, rfl⟩, hW₂, e2, q2, q3, q4, q5, q6⟩ := id hfe
    have e3 : s₂ = ({ (U.calling g mk a).setFrames s₂.frames with heap := s₂.heap, slotsUsed := s₂.slotsUsed } : State).setVm s₂.vm := by
      have : s₂ = ({ s₂ with vm := (U.calling g mk a).vm } : State).setVm s₂.vm := rfl
      rw [e2] at this
      exact this
    obtain ⟨c₂, i₂, len₂, hc₂, hd₂, hf₂⟩ := hend
    have hW' : U.WarmedH s₂.vm := hW₂
    have hcc : c₂ = c := by
      have h1 : s₂.code? g.method = U.code? g.method := by
        rw [State.code?_eq, State.code?_eq, hW'.alike.method?]
      exact Option.some.inj (hc₂.symm.trans (h1.trans h.code))
    subst hcc
    have hlen : len₂ = len := by rw [hdg] at hd₂; cases hd₂; rfl
    subst hlen
    have hs₂ : s₂ = (({ U with heap := s₂.heap, slotsUsed := s₂.slotsUsed } : State).setVm s₂.vm).setTop { g with pc := g.pc + len₂, stack := v.toList ++ g.stack } := by
      refine e3.trans ?_
      rw [hf₂, State.calling_eq h.top, State.setFrames_setFrames, State.setTop_of_frames _ hr', hr]
      rfl
    have hsame : U.sameButNew ({ U with heap := s₂.heap, slotsUsed := s₂.slotsUsed } : State) L mc ms := by
      refine ⟨?_, q2, q3, q4, q5, q6⟩
      obtain ⟨t, ht, -⟩ := State.frames_cons hr
      show ({ U with heap := s₂.heap, slotsUsed := s₂.slotsUsed } : State) = { U.setFrames U.frames with heap := s₂.heap, slotsUsed := s₂.slotsUsed }
      rw [State.setFrames_self ht]
    subst hg
    refine Or.inl ⟨v, ⟨(({ U with heap := s₂.heap, slotsUsed := s₂.slotsUsed } : State).setVm s₂.vm), Ls ++ L, c0 + mc, s0 + ms⟩,
      ⟨X.admits, X.cas, X.clock, X.frames, X.room, X.hears, X.method, X.code, (X.here.setHeapUsed s₂.heap s₂.slotsUsed).setVm hW'.alike, X.tail, State.WarmedH.trans X.warmed hW', X.limits, X.bytes, X.same.trans (hsame.setVm s.vm)⟩,
      ⟨g, mk, s₂, L, rfl, rfl, hqc, rfl, hL, rfl, rfl⟩, ?_⟩
    show Steps p.tables e below _ ((({ U with heap := s₂.heap, slotsUsed := s₂.slotsUsed } : State).setVm s₂.vm).setTop { g with pc := g.pc + len₂, stack := v.toList ++ g.stack })
    rw [← hs₂]
    exact hsteps
  · obtain ⟨e2, q2, q3, q4, q5, q6⟩ := id hsm
    have e3 : s₂ = ({ (U.calling g mk a).setFrames s₂.frames with heap := s₂.heap, slotsUsed := s₂.slotsUsed } : State).setVm s₂.vm := by
      have : s₂ = ({ s₂ with vm := (U.calling g mk a).vm } : State).setVm s₂.vm := rfl
      rw [e2] at this
      exact this
    have hf₂ : s₂.frames = .throwing q :: .java g :: U.frames.tail := hend
    have hW' : U.WarmedH s₂.vm := hW₂
    have hs₂ : s₂ = ((({ U with heap := s₂.heap, slotsUsed := s₂.slotsUsed } : State).setVm s₂.vm).setTop g).pushFrame (.throwing q) := by
      refine e3.trans ?_
      rw [hf₂, State.calling_eq h.top, State.setFrames_setFrames, State.pushFrame, State.frames_setTop _ hr', State.setTop_of_frames _ hr', State.setFrames_setFrames, hr]
      rfl
    have hsame : U.sameButNew ({ U with heap := s₂.heap, slotsUsed := s₂.slotsUsed } : State) L mc ms := by
      refine ⟨?_, q2, q3, q4, q5, q6⟩
      obtain ⟨t, ht, -⟩ := State.frames_cons hr
      show ({ U with heap := s₂.heap, slotsUsed := s₂.slotsUsed } : State) = { U.setFrames U.frames with heap := s₂.heap, slotsUsed := s₂.slotsUsed }
      rw [State.setFrames_self ht]
    subst hg
    refine Or.inr ⟨q, ⟨(({ U with heap := s₂.heap, slotsUsed := s₂.slotsUsed } : State).setVm s₂.vm), Ls ++ L, c0 + mc, s0 + ms⟩,
      ⟨X.admits, X.cas, X.clock, X.frames, X.room, X.hears, X.method, X.code, (X.here.setHeapUsed s₂.heap s₂.slotsUsed).setVm hW'.alike, X.tail, State.WarmedH.trans X.warmed hW', X.limits, X.bytes, X.same.trans (hsame.setVm s.vm)⟩,
      ⟨g, mk, s₂, L, E, ce, rfl, rfl, hx, hce, hcv, hcl, rfl, hL, rfl, rfl⟩, ?_⟩
    show Steps p.tables e below _ (((({ U with heap := s₂.heap, slotsUsed := s₂.slotsUsed } : State).setVm s₂.vm).setTop g).pushFrame (.throwing q))
    rw [← hs₂]
    exact hsteps
end Payer
section Calls
variable {p : Program} {l : Launch} {e : Env} {R : Room} {s : State} {m : MethodId} {args : Array Value} {below : List Frame} {meth : Method} {c : Code} {T : State} {locs : List Loc} {cells slots : Nat}
theorem vx_callV (X : Stand p l e R s m args below meth c T locs cells slots) (hexec : p.tables.exec = Jvm.exec) {own C : String} {index : Nat} {y : MethodName} {bytes : ByteArray} {maxL : Nat} {ret : Option FieldType}
    (hown : s.vm.findClass own = some m.cls) (hlink : (Cond.methodLink own index y).before args s = true) (hinst : (Cond.instanceMethod y).before args s = true) (hsel : (Cond.selects C y y).before args s = true)
    (hcode : (Cond.code y bytes maxL ret).before args s = true) (hy : y.cls ≠ "java/lang/invoke/MethodHandle" ∧ y.cls ≠ "java/lang/invoke/VarHandle")
    {W9 : Nat} {Pre : Pt → Array Value → Prop} {Post : Pt → Array Value → Option Value → Pt → Prop} {PostX : Pt → Array Value → Addr → Pt → Prop} (hK : vx_Back l R p e below s args y 3 W9 Pre Post PostX)
    {b : Addr} {cellB : Cell} (hcell : T.heap[b]? = some cellB) (hobj : cellB.vm.isStatics = false) (hcls : s.vm.findClass C = some cellB.cls)
    {g : JFrame} (hg : g.method = m) (hsize : g.locals.size = c.maxLocals) {argsL rest : List Value} (hlen : ∀ sig, parseMethodDescriptor y.desc = some sig → argsL.length = sig.parameters.length)
    (hstack : g.stack = argsL.reverse ++ .ref b :: rest) (hW : 2 * g.monitorRoom + (rest.map fun v => v.category).sum ≤ W9) (hdg : decode c.code g.pc = .ok (.invokevirtual index, 3))
    (hpre : ∀ vm₁, s.WarmedH vm₁ → Pre ⟨T.setVm vm₁, locs, cells, slots⟩ (Value.ref b :: argsL).toArray) :
    (∃ (v : Option Value) (vm₁ : Vm) (B : Pt), s.WarmedH vm₁ ∧ Stand p l e R s m args below meth c B.U B.locs B.cells B.slots ∧ Post ⟨T.setVm vm₁, locs, cells, slots⟩ (Value.ref b :: argsL).toArray v B ∧
      ∀ target, Steps p.tables e below (B.U.setTop { g with pc := g.pc + 3, stack := v.toList ++ rest }) target → Steps p.tables e below (T.setTop g) target) ∨
    (∃ (q : Addr) (vm₁ : Vm) (B : Pt), s.WarmedH vm₁ ∧ Stand p l e R s m args below meth c B.U B.locs B.cells B.slots ∧ PostX ⟨T.setVm vm₁, locs, cells, slots⟩ (Value.ref b :: argsL).toArray q B ∧
      Steps p.tables e below (T.setTop g) ((B.U.setTop { g with stack := rest }).pushFrame (.throwing q))) := by
  obtain ⟨mk, methM, hnamed, hmethM, hstM, habM⟩ := Cond.instanceMethod_spec hinst
  obtain ⟨methM', cM, hmethM', -, -, -, -, -, -, hsigM⟩ := Cond.code_spec hnamed hcode
  cases hmethM.symm.trans hmethM'
  obtain ⟨c2, r2, m2, q1, q2, q3, q4, kP, hkP, hkPi⟩ := Cond.selects_spec hsel
  cases hcls.symm.trans q1
  cases (State.methodFound?_of_named hnamed hy).symm.trans q2
  cases hnamed.symm.trans q3
  have hselP : selectMethod e.platform s.vm cellB.cls mk = .method mk := by rw [Launch.admits_selectMethod X.admits]; exact q4
  obtain ⟨vm₁, X₁, hstep₁⟩ := X.invokevirtual hexec hown hlink hnamed hmethM hstM hkP hkPi hy (a := b) (cell := cellB) hcell
    (fun z h => by rw [h] at hobj; cases hobj) hselP hmethM habM hkP hkPi (g := g) hg (argsL := argsL) (rest := rest) (hlen _ hsigM) hstack hdg
  rcases hK m meth c ⟨T.setVm vm₁, locs, cells, slots⟩ { g with stack := rest } (.invokevirtual index) mk (Value.ref b :: argsL).toArray X₁ hg hsize hdg hW (X₁.named hnamed) (hpre vm₁ X₁.warmed) with ⟨v, B, X', hpost, hsteps⟩ | ⟨q, B, X', hpost, hsteps⟩
  · exact Or.inl ⟨v, vm₁, B, X₁.warmed, X', hpost, fun target h => hstep₁ _ fun acts => by rw [doInvoke_state]; exact hsteps.trans h⟩
  · exact Or.inr ⟨q, vm₁, B, X₁.warmed, X', hpost, hstep₁ _ fun acts => by rw [doInvoke_state]; exact hsteps⟩
theorem vx_callS (X : Stand p l e R s m args below meth c T locs cells slots) (hexec : p.tables.exec = Jvm.exec) {own : String} {index : Nat} {y : MethodName} {bytes : ByteArray} {maxL : Nat} {ret : Option FieldType}
    (hown : s.vm.findClass own = some m.cls) (hlink : (Cond.methodLink own index y).before args s = true) (hstat : (Cond.static y).before args s = true) (hinit : (Cond.initialized y.cls).before args s = true)
    (hcode : (Cond.code y bytes maxL ret).before args s = true) (hy : y.cls ≠ "java/lang/invoke/MethodHandle" ∧ y.cls ≠ "java/lang/invoke/VarHandle")
    {W9 : Nat} {Pre : Pt → Array Value → Prop} {Post : Pt → Array Value → Option Value → Pt → Prop} {PostX : Pt → Array Value → Addr → Pt → Prop} (hK : vx_Back l R p e below s args y 3 W9 Pre Post PostX)
    {g : JFrame} (hg : g.method = m) (hsize : g.locals.size = c.maxLocals) {argsL rest : List Value} (hlen : ∀ sig, parseMethodDescriptor y.desc = some sig → argsL.length = sig.parameters.length)
    (hstack : g.stack = argsL.reverse ++ rest) (hW : 2 * g.monitorRoom + (rest.map fun v => v.category).sum ≤ W9) (hdg : decode c.code g.pc = .ok (.invokestatic index, 3))
    (hpre : ∀ vm₁, s.WarmedH vm₁ → Pre ⟨T.setVm vm₁, locs, cells, slots⟩ argsL.toArray) :
    (∃ (v : Option Value) (vm₁ : Vm) (B : Pt), s.WarmedH vm₁ ∧ Stand p l e R s m args below meth c B.U B.locs B.cells B.slots ∧ Post ⟨T.setVm vm₁, locs, cells, slots⟩ argsL.toArray v B ∧
      ∀ target, Steps p.tables e below (B.U.setTop { g with pc := g.pc + 3, stack := v.toList ++ rest }) target → Steps p.tables e below (T.setTop g) target) ∨
    (∃ (q : Addr) (vm₁ : Vm) (B : Pt), s.WarmedH vm₁ ∧ Stand p l e R s m args below meth c B.U B.locs B.cells B.slots ∧ PostX ⟨T.setVm vm₁, locs, cells, slots⟩ argsL.toArray q B ∧
      Steps p.tables e below (T.setTop g) ((B.U.setTop { g with stack := rest }).pushFrame (.throwing q))) := by
  obtain ⟨mk, hnamed⟩ := Cond.code_named hcode
  obtain ⟨methM, cM, hmethM, -, -, -, -, -, -, hsigM⟩ := Cond.code_spec hnamed hcode
  have hstatic : methM.isStatic = true := Cond.static_spec hnamed hmethM hstat
  obtain ⟨kP, hkP, -⟩ := className_of_methodNamed hnamed
  have hinitP : kP.init = .initialized := Cond.initialized_spec (findClass_of_methodNamed hnamed) hkP hinit
  obtain ⟨vm₁, X₁, hstep₁⟩ := X.invokestatic hexec hown hlink hnamed hmethM hstatic hkP hinitP hy (g := g) hg (argsL := argsL) (rest := rest) (hlen _ hsigM) hstack hdg
  rcases hK m meth c ⟨T.setVm vm₁, locs, cells, slots⟩ { g with stack := rest } (.invokestatic index) mk argsL.toArray X₁ hg hsize hdg hW (X₁.named hnamed) (hpre vm₁ X₁.warmed) with ⟨v, B, X', hpost, hsteps⟩ | ⟨q, B, X', hpost, hsteps⟩
  · exact Or.inl ⟨v, vm₁, B, X₁.warmed, X', hpost, fun target h => hstep₁ _ fun acts => by rw [doInvoke_state]; exact hsteps.trans h⟩
  · exact Or.inr ⟨q, vm₁, B, X₁.warmed, X', hpost, hstep₁ _ fun acts => by rw [doInvoke_state]; exact hsteps⟩
end Calls
theorem vx_cls {s : State} {T : State} {vm₁ : Vm} {E : String} {k : ClassId} (hW : s.WarmedH vm₁) (h : (T.setVm vm₁).vm.findClass E = some k) : s.vm.findClass E = some k := by
  have h1 : vm₁.findClass E = some k := h
  rw [hW.alike.findClass] at h1
  exact h1
/-- the method's frame g, with q thrown over it -/
def vx_W (p : Program) (l : Launch) (e : Env) (R : Room) (s : State) (m : MethodId) (args : Array Value) (below : List Frame) (meth : Method) (c : Code) (H : Heap) (locs : List Loc) (cells slots : Nat) (Q : State → Prop) (g : JFrame) (q : Addr) : Prop :=
  ∀ T : State, T.heap = H → Stand p l e R s m args below meth c T locs cells slots → ∃ t, Steps p.tables e below ((T.setTop g).pushFrame (.throwing q)) t ∧ Q t
def vx_Run (p : Program) (l : Launch) (e : Env) (R : Room) (s : State) (m : MethodId) (args : Array Value) (below : List Frame) (meth : Method) (c : Code) (H : Heap) (locs : List Loc) (cells slots mc ms : Nat) (g : JFrame) (rest : List Value) (Qa : State → Outcome → State → Prop) (XC : String → State → State → Prop) (free : Addr → Prop) : Prop :=
  ∀ T : State, T.heap = H → Stand p l e R s m args below meth c T locs cells slots →
    (∃ (v : Option Value) (st₀ t T' : State) (L : List Loc), st₀.heap = H ∧ Stand p l e R s m args below meth c T' (locs ++ L) (cells + mc) (slots + ms) ∧ (∀ q ∈ L, free q.base) ∧ T'.heap = t.heap ∧ T'.vm = t.vm ∧ Qa st₀ (.returned v) t ∧
      Goes p e below T g T' { g with pc := g.pc + 3, stack := v.toList ++ rest }) ∨
    (∃ (q : Addr) (st₀ t T' : State) (L : List Loc) (E : String) (ce : Cell), st₀.heap = H ∧ Stand p l e R s m args below meth c T' (locs ++ L) (cells + mc) (slots + ms) ∧ (∀ z ∈ L, free z.base) ∧ T'.heap = t.heap ∧ T'.vm = t.vm ∧ XC E st₀ t ∧ t.heap[q]? = some ce ∧ ce.vm = .none ∧ s.vm.findClass E = some ce.cls ∧
      Steps p.tables e below (T.setTop g) ((T'.setTop { g with stack := rest }).pushFrame (.throwing q)))
def vx_X {S : Type} (px : S → Prop) (B : String → S → State → Prop) (A : Nat → Prop) : String → State → State → Prop := fun E st t => ∃ u : S, px u ∧ B E u t ∧ va_F A st t
section Runs
variable {p : Program} {l : Launch} {e : Env} {R : Room} {s : State} {m : MethodId} {args : Array Value} {below : List Frame} {meth : Method} {c : Code} {H : Heap} {locs : List Loc} {cells slots : Nat}
variable {y : MethodName} {bytes cc : ByteArray} {maxL nL mc ms n index : Nat} {ret : Option FieldType} {ws : List Cond} {rm : Room} {Pc : Array Value → State → Prop} {Qc : Array Value → State → Outcome → State → Prop} {XC : String → State → State → Prop} {free : Addr → Prop} {Ts : List Cond} {own C : String} {b : Addr} {As rest : List Value} {g : JFrame}
theorem vx_callBack (cb : CallB R s args own index y bytes maxL ret ws rm mc ms n) (hM : vx_Met l y ws rm Pc Qc XC mc ms free) (hbl : FrameBlind Pc) : vx_Back l R p e below s args y 3 8 (PreOf R mc ms Pc) (PostOf Qc mc ms free) (vx_Post XC mc ms free) := by
  obtain ⟨hrc, hrs, hfr, hlo, hws, hcw, -, hini, -⟩ := cb
  exact vx_back (bytes := bytes) (maxL := maxL) (ret := ret) hM hbl hrc hrs hfr hlo hws hcw (fun a' U hW => word_at hW (Or.inl (by first | rfl | simp [Cond.onTables, Cond.keeps, Cond.steady])) hini)
theorem vx_runV (S : CallFix p m c cc nL s args Ts own) (hM : vx_Met l y ws rm Pc Qc XC mc ms free) (cw : CallW R s args own C index y bytes maxL ret ws rm mc ms n) (hp : PreV s H C b Pc As)
    (hg : g.method = m) (hn : As.length = n) (hsize : g.locals.size = nL) (hstack : g.stack = As.reverse ++ .ref b :: rest) (hW : 2 * g.monitorRoom + (rest.map fun v => v.category).sum ≤ 8) (hdg : decode cc g.pc = .ok (.invokevirtual index, 3)) (hf : cells + mc ≤ R.cells ∧ slots + ms ≤ R.slots) :
    vx_Run p l e R s m args below meth c H locs cells slots mc ms g rest (Qc (Value.ref b :: As).toArray) XC free := by
  have hK : vx_Back l R p e below s args y 3 8 (PreOf R mc ms Pc) (PostOf Qc mc ms free) (vx_Post XC mc ms free) := vx_callBack cw.1 hM hp.1
  obtain ⟨⟨-, -, -, -, -, -, hcode, -, hy, hlen, hl⟩, hin, hse⟩ := cw
  obtain ⟨hx, hb, hml, ho, -⟩ := S
  obtain ⟨-, ⟨cellB, hcB, hoB, hclB⟩, hPc⟩ := hp
  intro T hT X
  rcases vx_callV X hx (C := C) (bytes := bytes) (maxL := maxL) (ret := ret) ho hl hin hse hcode hy hK (by rw [hT]; exact hcB) hoB hclB hg (hsize.trans hml.symm) (argsL := As) (rest := rest) (fun sig h => hn.trans (hlen sig h)) hstack hW (by rw [hb]; exact hdg)
    (fun vm₁ hW₁ => ⟨hf.1, hf.2, hPc (T.setVm vm₁) hT hW₁⟩) with ⟨v, vm₁, ⟨U', l2, c2, s2⟩, hW₁, X', ⟨g', mk, t, L, e1, e2, hq, h1, hL, h2, h3⟩, st⟩ | ⟨q, vm₁, ⟨U', l2, c2, s2⟩, hW₁, X', ⟨g', mk, t, L, E, ce, e1, e2, hq, hce, hcv, hcl, h1, hL, h2, h3⟩, st⟩
  · dsimp only [Pt.U, Pt.locs, Pt.cells, Pt.slots] at X' e1 e2 h1 h2 h3 st
    subst h1; subst h2; subst h3
    exact Or.inl ⟨v, (T.setVm vm₁).calling g' mk (Value.ref b :: As).toArray, t, U', L, hT, X', hL, e1, e2, hq, st⟩
  · dsimp only [Pt.U, Pt.locs, Pt.cells, Pt.slots] at X' e1 e2 h1 h2 h3 st hcl
    subst h1; subst h2; subst h3
    exact Or.inr ⟨q, (T.setVm vm₁).calling g' mk (Value.ref b :: As).toArray, t, U', L, E, ce, hT, X', hL, e1, e2, hq, hce, hcv, vx_cls hW₁ hcl, st⟩
theorem vx_runS (S : CallFix p m c cc nL s args Ts own) (hM : vx_Met l y ws rm Pc Qc XC mc ms free) (cw : CallB R s args own index y bytes maxL ret ws rm mc ms n ∧ (Cond.static y).before args s = true) (hp : PreS s H Pc As)
    (hg : g.method = m) (hn : As.length = n) (hsize : g.locals.size = nL) (hstack : g.stack = As.reverse ++ rest) (hW : 2 * g.monitorRoom + (rest.map fun v => v.category).sum ≤ 8) (hdg : decode cc g.pc = .ok (.invokestatic index, 3)) (hf : cells + mc ≤ R.cells ∧ slots + ms ≤ R.slots) :
    vx_Run p l e R s m args below meth c H locs cells slots mc ms g rest (Qc As.toArray) XC free := by
  have hK : vx_Back l R p e below s args y 3 8 (PreOf R mc ms Pc) (PostOf Qc mc ms free) (vx_Post XC mc ms free) := vx_callBack cw.1 hM hp.1
  obtain ⟨⟨-, -, -, -, -, -, hcode, hini, hy, hlen, hl⟩, hstt⟩ := cw
  obtain ⟨hx, hb, hml, ho, -⟩ := S
  intro T hT X
  rcases vx_callS X hx (bytes := bytes) (maxL := maxL) (ret := ret) ho hl hstt hini hcode hy hK hg (hsize.trans hml.symm) (argsL := As) (rest := rest) (fun sig h => hn.trans (hlen sig h)) hstack hW (by rw [hb]; exact hdg)
    (fun vm₁ hW₁ => ⟨hf.1, hf.2, hp.2 (T.setVm vm₁) hT hW₁⟩) with ⟨v, vm₁, ⟨U', l2, c2, s2⟩, hW₁, X', ⟨g', mk, t, L, e1, e2, hq, h1, hL, h2, h3⟩, st⟩ | ⟨q, vm₁, ⟨U', l2, c2, s2⟩, hW₁, X', ⟨g', mk, t, L, E, ce, e1, e2, hq, hce, hcv, hcl, h1, hL, h2, h3⟩, st⟩
  · dsimp only [Pt.U, Pt.locs, Pt.cells, Pt.slots] at X' e1 e2 h1 h2 h3 st
    subst h1; subst h2; subst h3
    exact Or.inl ⟨v, (T.setVm vm₁).calling g' mk As.toArray, t, U', L, hT, X', hL, e1, e2, hq, st⟩
  · dsimp only [Pt.U, Pt.locs, Pt.cells, Pt.slots] at X' e1 e2 h1 h2 h3 st hcl
    subst h1; subst h2; subst h3
    exact Or.inr ⟨q, (T.setVm vm₁).calling g' mk As.toArray, t, U', L, E, ce, hT, X', hL, e1, e2, hq, hce, hcv, vx_cls hW₁ hcl, st⟩
end Runs
section Rows
variable {p : Program} {l : Launch} {e : Env} {R : Room} {s : State} {m : MethodId} {args : Array Value} {below : List Frame} {meth : Method} {c : Code} {H : Heap} {locs : List Loc} {cells slots : Nat} {Q : State → Prop}
variable {mc ms : Nat} {free : Addr → Prop} {A0 A1 : Nat → Prop} {H0 : Heap} {a : Array Value} {pc : Nat} {ls : Array Slot} {st0 rest : List Value}
theorem vx_keep {st₀ t T' : State} {L : List Loc} (h0 : st₀.heap = H) (e1 : T'.heap = t.heap) (hS : va_S A0 H0 H locs) (hA : ∀ q, q < H.size → A1 q → A0 q) (hf : ∀ q, free q → A0 q) (hL : ∀ q ∈ L, free q.base) (hF : va_F A1 st₀ t) :
    H.size ≤ T'.heap.size ∧ (∀ q : Nat, q < H.size → ¬ A1 q → T'.heap[q]? = H[q]?) ∧ va_S A0 H0 T'.heap (locs ++ L) := by
  obtain ⟨hz, hk⟩ := hF
  rw [h0] at hz hk
  exact ⟨by rw [e1]; exact hz, fun q h1 h2 => by rw [e1]; exact hk q h1 h2,
    ⟨Nat.le_trans hS.1 (by rw [e1]; exact hz), fun q h1 h2 => by rw [e1, hk q (Nat.lt_of_lt_of_le h1 hS.1) (fun z => h2 (hA q (Nat.lt_of_lt_of_le h1 hS.1) z))]; exact hS.2.1 q h1 h2, fun q hq => by
      rcases List.mem_append.mp hq with h | h
      · exact hS.2.2 q h
      · exact hf _ (hL q h)⟩⟩
theorem vx_calli {S SX : Type} {post : Int32 → S → Prop} {px : SX → Prop} {B : S → State → Prop} {BX : String → SX → State → Prop} {AX : Nat → Prop} (hr : vx_Run p l e R s m args below meth c H locs cells slots mc ms (F0 m pc ls st0) rest (va_Qi post B A1 a) (vx_X px BX AX) free) (hS : va_S A0 H0 H locs) (hA : ∀ q, q < H.size → A1 q → A0 q) (hf : ∀ q, free q → A0 q) (hAX : ∀ q, q < H.size → AX q → A0 q)
    (kx : ∀ (E : String) (ce : Cell) (q9 : Addr) (u : SX) (t : State) (H1 : Heap) (locs1 : List Loc), t.heap = H1 → s.vm.Alike t.vm → px u → BX E u t → H.size ≤ H1.size → (∀ q : Nat, q < H.size → ¬ AX q → H1[q]? = H[q]?) → va_S A0 H0 H1 locs1 → H1[q9]? = some ce → ce.vm = .none → s.vm.findClass E = some ce.cls → vx_W p l e R s m args below meth c H1 locs1 (cells + mc) (slots + ms) Q (F0 m pc ls rest) q9)
    (kk : ∀ (r : Int32) (u : S) (t : State) (H1 : Heap) (locs1 : List Loc), t.heap = H1 → s.vm.Alike t.vm → post r u → B u t → H.size ≤ H1.size → (∀ q : Nat, q < H.size → ¬ A1 q → H1[q]? = H[q]?) → va_S A0 H0 H1 locs1 → W p l e R s m args below meth c H1 locs1 (cells + mc) (slots + ms) Q (F0 m (pc + 3) ls (.int r :: rest))) : W p l e R s m args below meth c H locs cells slots Q (F0 m pc ls st0) := by
  intro T hT X
  rcases hr T hT X with ⟨v, st₀, t, T', L, h0, X', hL, e1, e2, ⟨⟨r, u, hv, hp, hb⟩, hF⟩, st⟩ | ⟨q, st₀, t, T', L, E, ce, h0, X', hL, e1, e2, ⟨u, hp, hb, hF⟩, hce, hcv, hcl, st⟩
  · cases hv
    obtain ⟨k1, k2, k3⟩ := vx_keep h0 e1 hS hA hf hL hF
    obtain ⟨t2, a1, b1⟩ := kk r u t T'.heap (locs ++ L) e1.symm (by rw [← e2]; exact X'.warmed.alike) hp hb k1 k2 k3 T' rfl X'
    exact ⟨t2, st t2 a1, b1⟩
  · obtain ⟨k1, k2, k3⟩ := vx_keep h0 e1 hS hAX hf hL hF
    obtain ⟨t2, a1, b1⟩ := kx E ce q u t T'.heap (locs ++ L) e1.symm (by rw [← e2]; exact X'.warmed.alike) hp hb k1 k2 k3 (by rw [e1]; exact hce) hcv hcl T' rfl X'
    exact ⟨t2, st.trans a1, b1⟩
theorem vx_calll {S SX : Type} {post : Int64 → S → Prop} {px : SX → Prop} {B : S → State → Prop} {BX : String → SX → State → Prop} {AX : Nat → Prop} (hr : vx_Run p l e R s m args below meth c H locs cells slots mc ms (F0 m pc ls st0) rest (va_Ql post B A1 a) (vx_X px BX AX) free) (hS : va_S A0 H0 H locs) (hA : ∀ q, q < H.size → A1 q → A0 q) (hf : ∀ q, free q → A0 q) (hAX : ∀ q, q < H.size → AX q → A0 q)
    (kx : ∀ (E : String) (ce : Cell) (q9 : Addr) (u : SX) (t : State) (H1 : Heap) (locs1 : List Loc), t.heap = H1 → s.vm.Alike t.vm → px u → BX E u t → H.size ≤ H1.size → (∀ q : Nat, q < H.size → ¬ AX q → H1[q]? = H[q]?) → va_S A0 H0 H1 locs1 → H1[q9]? = some ce → ce.vm = .none → s.vm.findClass E = some ce.cls → vx_W p l e R s m args below meth c H1 locs1 (cells + mc) (slots + ms) Q (F0 m pc ls rest) q9)
    (kk : ∀ (r : Int64) (u : S) (t : State) (H1 : Heap) (locs1 : List Loc), t.heap = H1 → s.vm.Alike t.vm → post r u → B u t → H.size ≤ H1.size → (∀ q : Nat, q < H.size → ¬ A1 q → H1[q]? = H[q]?) → va_S A0 H0 H1 locs1 → W p l e R s m args below meth c H1 locs1 (cells + mc) (slots + ms) Q (F0 m (pc + 3) ls (.long r :: rest))) : W p l e R s m args below meth c H locs cells slots Q (F0 m pc ls st0) := by
  intro T hT X
  rcases hr T hT X with ⟨v, st₀, t, T', L, h0, X', hL, e1, e2, ⟨⟨r, u, hv, hp, hb⟩, hF⟩, st⟩ | ⟨q, st₀, t, T', L, E, ce, h0, X', hL, e1, e2, ⟨u, hp, hb, hF⟩, hce, hcv, hcl, st⟩
  · cases hv
    obtain ⟨k1, k2, k3⟩ := vx_keep h0 e1 hS hA hf hL hF
    obtain ⟨t2, a1, b1⟩ := kk r u t T'.heap (locs ++ L) e1.symm (by rw [← e2]; exact X'.warmed.alike) hp hb k1 k2 k3 T' rfl X'
    exact ⟨t2, st t2 a1, b1⟩
  · obtain ⟨k1, k2, k3⟩ := vx_keep h0 e1 hS hAX hf hL hF
    obtain ⟨t2, a1, b1⟩ := kx E ce q u t T'.heap (locs ++ L) e1.symm (by rw [← e2]; exact X'.warmed.alike) hp hb k1 k2 k3 (by rw [e1]; exact hce) hcv hcl T' rfl X'
    exact ⟨t2, st.trans a1, b1⟩
theorem vx_callf {S SX : Type} {post : UInt32 → S → Prop} {px : SX → Prop} {B : S → State → Prop} {BX : String → SX → State → Prop} {AX : Nat → Prop} (hr : vx_Run p l e R s m args below meth c H locs cells slots mc ms (F0 m pc ls st0) rest (va_Qf post B A1 a) (vx_X px BX AX) free) (hS : va_S A0 H0 H locs) (hA : ∀ q, q < H.size → A1 q → A0 q) (hf : ∀ q, free q → A0 q) (hAX : ∀ q, q < H.size → AX q → A0 q)
    (kx : ∀ (E : String) (ce : Cell) (q9 : Addr) (u : SX) (t : State) (H1 : Heap) (locs1 : List Loc), t.heap = H1 → s.vm.Alike t.vm → px u → BX E u t → H.size ≤ H1.size → (∀ q : Nat, q < H.size → ¬ AX q → H1[q]? = H[q]?) → va_S A0 H0 H1 locs1 → H1[q9]? = some ce → ce.vm = .none → s.vm.findClass E = some ce.cls → vx_W p l e R s m args below meth c H1 locs1 (cells + mc) (slots + ms) Q (F0 m pc ls rest) q9)
    (kk : ∀ (r : UInt32) (u : S) (t : State) (H1 : Heap) (locs1 : List Loc), t.heap = H1 → s.vm.Alike t.vm → post r u → B u t → H.size ≤ H1.size → (∀ q : Nat, q < H.size → ¬ A1 q → H1[q]? = H[q]?) → va_S A0 H0 H1 locs1 → W p l e R s m args below meth c H1 locs1 (cells + mc) (slots + ms) Q (F0 m (pc + 3) ls (.float r :: rest))) : W p l e R s m args below meth c H locs cells slots Q (F0 m pc ls st0) := by
  intro T hT X
  rcases hr T hT X with ⟨v, st₀, t, T', L, h0, X', hL, e1, e2, ⟨⟨r, u, hv, hp, hb⟩, hF⟩, st⟩ | ⟨q, st₀, t, T', L, E, ce, h0, X', hL, e1, e2, ⟨u, hp, hb, hF⟩, hce, hcv, hcl, st⟩
  · cases hv
    obtain ⟨k1, k2, k3⟩ := vx_keep h0 e1 hS hA hf hL hF
    obtain ⟨t2, a1, b1⟩ := kk r u t T'.heap (locs ++ L) e1.symm (by rw [← e2]; exact X'.warmed.alike) hp hb k1 k2 k3 T' rfl X'
    exact ⟨t2, st t2 a1, b1⟩
  · obtain ⟨k1, k2, k3⟩ := vx_keep h0 e1 hS hAX hf hL hF
    obtain ⟨t2, a1, b1⟩ := kx E ce q u t T'.heap (locs ++ L) e1.symm (by rw [← e2]; exact X'.warmed.alike) hp hb k1 k2 k3 (by rw [e1]; exact hce) hcv hcl T' rfl X'
    exact ⟨t2, st.trans a1, b1⟩
theorem vx_calld {S SX : Type} {post : UInt64 → S → Prop} {px : SX → Prop} {B : S → State → Prop} {BX : String → SX → State → Prop} {AX : Nat → Prop} (hr : vx_Run p l e R s m args below meth c H locs cells slots mc ms (F0 m pc ls st0) rest (va_Qd post B A1 a) (vx_X px BX AX) free) (hS : va_S A0 H0 H locs) (hA : ∀ q, q < H.size → A1 q → A0 q) (hf : ∀ q, free q → A0 q) (hAX : ∀ q, q < H.size → AX q → A0 q)
    (kx : ∀ (E : String) (ce : Cell) (q9 : Addr) (u : SX) (t : State) (H1 : Heap) (locs1 : List Loc), t.heap = H1 → s.vm.Alike t.vm → px u → BX E u t → H.size ≤ H1.size → (∀ q : Nat, q < H.size → ¬ AX q → H1[q]? = H[q]?) → va_S A0 H0 H1 locs1 → H1[q9]? = some ce → ce.vm = .none → s.vm.findClass E = some ce.cls → vx_W p l e R s m args below meth c H1 locs1 (cells + mc) (slots + ms) Q (F0 m pc ls rest) q9)
    (kk : ∀ (r : UInt64) (u : S) (t : State) (H1 : Heap) (locs1 : List Loc), t.heap = H1 → s.vm.Alike t.vm → post r u → B u t → H.size ≤ H1.size → (∀ q : Nat, q < H.size → ¬ A1 q → H1[q]? = H[q]?) → va_S A0 H0 H1 locs1 → W p l e R s m args below meth c H1 locs1 (cells + mc) (slots + ms) Q (F0 m (pc + 3) ls (.double r :: rest))) : W p l e R s m args below meth c H locs cells slots Q (F0 m pc ls st0) := by
  intro T hT X
  rcases hr T hT X with ⟨v, st₀, t, T', L, h0, X', hL, e1, e2, ⟨⟨r, u, hv, hp, hb⟩, hF⟩, st⟩ | ⟨q, st₀, t, T', L, E, ce, h0, X', hL, e1, e2, ⟨u, hp, hb, hF⟩, hce, hcv, hcl, st⟩
  · cases hv
    obtain ⟨k1, k2, k3⟩ := vx_keep h0 e1 hS hA hf hL hF
    obtain ⟨t2, a1, b1⟩ := kk r u t T'.heap (locs ++ L) e1.symm (by rw [← e2]; exact X'.warmed.alike) hp hb k1 k2 k3 T' rfl X'
    exact ⟨t2, st t2 a1, b1⟩
  · obtain ⟨k1, k2, k3⟩ := vx_keep h0 e1 hS hAX hf hL hF
    obtain ⟨t2, a1, b1⟩ := kx E ce q u t T'.heap (locs ++ L) e1.symm (by rw [← e2]; exact X'.warmed.alike) hp hb k1 k2 k3 (by rw [e1]; exact hce) hcv hcl T' rfl X'
    exact ⟨t2, st.trans a1, b1⟩
theorem vx_callv {S SX : Type} {post : S → Prop} {px : SX → Prop} {B : S → State → Prop} {BX : String → SX → State → Prop} {AX : Nat → Prop} (hr : vx_Run p l e R s m args below meth c H locs cells slots mc ms (F0 m pc ls st0) rest (va_Qv post B A1 a) (vx_X px BX AX) free) (hS : va_S A0 H0 H locs) (hA : ∀ q, q < H.size → A1 q → A0 q) (hf : ∀ q, free q → A0 q) (hAX : ∀ q, q < H.size → AX q → A0 q)
    (kx : ∀ (E : String) (ce : Cell) (q9 : Addr) (u : SX) (t : State) (H1 : Heap) (locs1 : List Loc), t.heap = H1 → s.vm.Alike t.vm → px u → BX E u t → H.size ≤ H1.size → (∀ q : Nat, q < H.size → ¬ AX q → H1[q]? = H[q]?) → va_S A0 H0 H1 locs1 → H1[q9]? = some ce → ce.vm = .none → s.vm.findClass E = some ce.cls → vx_W p l e R s m args below meth c H1 locs1 (cells + mc) (slots + ms) Q (F0 m pc ls rest) q9)
    (kk : ∀ (u : S) (t : State) (H1 : Heap) (locs1 : List Loc), t.heap = H1 → s.vm.Alike t.vm → post u → B u t → H.size ≤ H1.size → (∀ q : Nat, q < H.size → ¬ A1 q → H1[q]? = H[q]?) → va_S A0 H0 H1 locs1 → W p l e R s m args below meth c H1 locs1 (cells + mc) (slots + ms) Q (F0 m (pc + 3) ls (rest))) : W p l e R s m args below meth c H locs cells slots Q (F0 m pc ls st0) := by
  intro T hT X
  rcases hr T hT X with ⟨v, st₀, t, T', L, h0, X', hL, e1, e2, ⟨⟨u, hv, hp, hb⟩, hF⟩, st⟩ | ⟨q, st₀, t, T', L, E, ce, h0, X', hL, e1, e2, ⟨u, hp, hb, hF⟩, hce, hcv, hcl, st⟩
  · cases hv
    obtain ⟨k1, k2, k3⟩ := vx_keep h0 e1 hS hA hf hL hF
    obtain ⟨t2, a1, b1⟩ := kk u t T'.heap (locs ++ L) e1.symm (by rw [← e2]; exact X'.warmed.alike) hp hb k1 k2 k3 T' rfl X'
    exact ⟨t2, st t2 a1, b1⟩
  · obtain ⟨k1, k2, k3⟩ := vx_keep h0 e1 hS hAX hf hL hF
    obtain ⟨t2, a1, b1⟩ := kx E ce q u t T'.heap (locs ++ L) e1.symm (by rw [← e2]; exact X'.warmed.alike) hp hb k1 k2 k3 (by rw [e1]; exact hce) hcv hcl T' rfl X'
    exact ⟨t2, st.trans a1, b1⟩
/-- caught by the row x of this method's table; the rows ahead don't take it -/
theorem vx_catch {own name : String} {E : String} {ce : Cell} {q : Addr} (hown : s.vm.findClass own = some m.cls) (pre : List ExceptionTableEntry) (x : ExceptionTableEntry) (suf : List ExceptionTableEntry) (hsplit : c.exceptionTable.toList = pre ++ x :: suf)
    (hpass : ∀ z ∈ pre, covers z pc = false ∨ (z.catchType ≠ 0 ∧ ∃ nm : String, (Cond.classLink own z.catchType nm).before args s = true ∧ va_Nc E nm s)) (hx : covers x pc = true) (h0 : x.catchType ≠ 0)
    (hlink : (Cond.classLink own x.catchType name).before args s = true) (hcast : (Cond.castable E name).before args s = true) (hcell : H[q]? = some ce) (hv : ce.vm = .none) (hcl : s.vm.findClass E = some ce.cls)
    (kk : W p l e R s m args below meth c H locs cells slots Q (F0 m x.handlerPc ls [.ref q])) : vx_W p l e R s m args below meth c H locs cells slots Q (F0 m pc ls rest) q := by
  intro T hT X
  have hpl : e.platform.magicAccessors = ({} : Platform).magicAccessors := by rw [X.admits.platform]
  obtain ⟨c3, c4, hc3, hc4, hasg⟩ := Cond.castable_spec hcast
  cases Option.some.inj (hc3.symm.trans hcl)
  obtain ⟨c5, hc5, hcl5⟩ := Cond.classLink_spec hown hlink e.platform hpl
  cases Option.some.inj (hc4.symm.trans hc5)
  obtain ⟨vm', X', st⟩ := X.thenCaughtThrough q (g := F0 m pc ls rest) rfl (Steps.refl _) (by rw [hT]; exact hcell) (by rw [hv]; rfl) (by obtain ⟨k9, h9, -⟩ := Vm.findClass_spec hcl; exact ⟨k9, h9⟩) pre x suf hsplit
    (fun z hz => by
      rcases hpass z hz with h | ⟨hz0, nm, hl1, hn1⟩
      · exact Or.inl h
      · obtain ⟨c6, hc6, hcl6⟩ := Cond.classLink_spec hown hl1 e.platform hpl
        obtain ⟨a8, b8, h1, h2, h3⟩ := hn1
        cases Option.some.inj (h1.symm.trans hcl)
        cases Option.some.inj (h2.symm.trans hc6)
        exact Or.inr ⟨hz0, _, hcl6, h3⟩) hx (Or.inr ⟨h0, c4, hcl5, hasg⟩)
  obtain ⟨t, a1, b1⟩ := kk (T.setVm vm') hT X'
  exact ⟨t, st.trans a1, b1⟩
end Rows
section Ends
variable {p : Program} {l : Launch} {e : Env} {R : Room} {s : State} {m : MethodId} {args : Array Value} {below : List Frame} {meth : Method} {c : Code} {H : Heap} {locs : List Loc} {cells slots : Nat} {Q : State → Prop}
variable {mc ms : Nat} {free : Addr → Prop} {A0 A1 : Nat → Prop} {H0 : Heap} {a : Array Value} {ls : Array Slot} {st0 rest : List Value}
variable {Qc : Array Value → State → Outcome → State → Prop} {XC : String → State → State → Prop}
/-- what a body that may throw owes at its end -/
def vx_MQ (below : List Frame) (Qc : Array Value → State → Outcome → State → Prop) (XC : String → State → State → Prop) (a : Array Value) (s : State) (mc ms : Nat) (free : Addr → Prop) : State → Prop := fun t =>
  ∃ o, t.status = .running ∧ Ended t below o ∧ vx_Q Qc XC mc ms free a s o t
theorem vx_ret {g : JFrame} {mc ms : Nat} (k : W p l e R s m args below meth c H locs cells slots (MQ below Qc args s mc ms free) g) : W p l e R s m args below meth c H locs cells slots (vx_MQ below Qc XC args s mc ms free) g := by
  intro T hT X
  obtain ⟨t, a1, o, b1, b2, b3, b4⟩ := k T hT X
  exact ⟨t, a1, o, b1, b2, Or.inl ⟨b3, b4⟩⟩
/-- not caught here: it goes on to the caller -/
theorem vx_widen {g : JFrame} {q : Addr} {k n : Nat} (h1 : cells ≤ k) (h2 : slots ≤ n) (kk : vx_W p l e R s m args below meth c H locs k n Q g q) : vx_W p l e R s m args below meth c H locs cells slots Q g q := fun T hT X => kk T hT (stand_widen X h1 h2)
theorem vx_out {pc : Nat} {E : String} {ce : Cell} {q : Addr} {mc ms : Nat} (hout : ∀ x ∈ c.exceptionTable.toList, covers x pc = false) (hlocks : meth.locks = false) (hcell : H[q]? = some ce) (hv : ce.vm = .none) (hcl : s.vm.findClass E = some ce.cls)
    (hx : ∀ t : State, t.heap = H → s.vm.Alike t.vm → XC E s t) (hf : ∀ z ∈ locs, free z.base) (hc : cells ≤ mc) (hs : slots ≤ ms) :
    vx_W p l e R s m args below meth c H locs cells slots (vx_MQ below Qc XC args s mc ms free) (F0 m pc ls rest) q := by
  intro T hT X
  obtain ⟨st1, hrun, hend, hW, hsm⟩ := X.leaveThrown q (g := F0 m pc ls rest) rfl rfl rfl hout hlocks
  have hcell9 : (T.setFrames (.throwing q :: below)).heap[q]? = some ce := by
    show T.heap[q]? = some ce
    rw [hT]; exact hcell
  exact ⟨_, st1, .threw q, hrun, hend, Or.inr ⟨q, rfl, E, ce, locs, hx _ hT hW.alike, hcell9, hv, hcl, hW, hsm.mono hc hs, hf⟩⟩
theorem vx_frame {U : State} {k n : Nat} (h : s.sameButNew ({ U with vm := s.vm } : State) locs k n) : s.heap.size ≤ U.heap.size ∧ ∀ q : Nat, q < s.heap.size → (∀ z ∈ locs, z.base ≠ q) → U.heap[q]? = s.heap[q]? := by
  obtain ⟨-, h2, -, -, -, h6⟩ := h
  refine ⟨h2, fun q hq hz => ?_⟩
  obtain ⟨c9, e1, e2, e3, e4⟩ := h6 q _ (Array.getElem?_eq_getElem hq)
  have hs : c9.slots = (s.heap[q]).slots := Array.ext_getElem? fun i => e4 i fun hm => hz _ hm rfl
  have h9 : c9 = s.heap[q] := by
    rw [hs] at e2
    exact e2
  have e5 : U.heap[q]? = some c9 := e1
  rw [e5, h9, Array.getElem?_eq_getElem hq]
/-- the words of a throw but the four that speak of the heap -/
def vx_no (w : Cond) : Bool := decide (w ≠ .isRef (.static Bundle.tN "UNASSIGNED_STACK" Bundle.steD)) && decide (w ≠ .isRef (.static Bundle.tN "SUPPRESSED_SENTINEL" Bundle.listD)) && decide (w ≠ .laysStatic Bundle.tN "UNASSIGNED_STACK" Bundle.steD) && decide (w ≠ .laysStatic Bundle.tN "SUPPRESSED_SENTINEL" Bundle.listD)
def vx_at0 (own : String) (ic : Nat) (X : String) (names : List String) : List Cond := (Bundle.ownAtoms0 own ic X names).filter vx_no
def vx_atS (own : String) (ic : Nat) (X : String) (names : List String) : List Cond := (Bundle.ownAtoms own ic X names).filter vx_no
/-- a word that the tables alone decide, or a good one -/
def vx_ot (w : Cond) : Bool := w.onTables || goodWord w
theorem vx_ot_at {args a' : Array Value} {s U : State} {w : Cond} (hW : s.WarmedH U.vm) (hvm : s.vm = U.vm) (hg : vx_ot w = true) (h : w.before args s = true) : w.before a' U = true := by
  simp only [vx_ot, Bool.or_eq_true] at hg
  rcases hg with hg | hg
  · exact va_tabs hg hvm h
  · exact word_at hW (good_of_word hg) h
/-- a list's words: the good ones out of the method's own list, the others by premises of their own -/
theorem vx_hat {args : Array Value} {s : State} {L B : List Cond} (h1 : ∀ w ∈ L.filter goodWord, w.before args s = true) (h2 : ∀ w ∈ L.filter (fun w => !goodWord w), w ∈ B) (h3 : ∀ w ∈ B, w.before args s = true) : ∀ w ∈ L, w.before args s = true := by
  intro w hw
  by_cases g : goodWord w = true
  · exact h1 w (List.mem_filter.mpr ⟨hw, g⟩)
  · refine h3 w (h2 w (List.mem_filter.mpr ⟨hw, ?_⟩))
    show (!goodWord w) = true
    cases hgw : goodWord w
    · rfl
    · exact absurd hgw g
theorem vx_c {args : Array Value} {s : State} {w : Cond} {B : List Cond} (h : w.before args s = true) (t : ∀ w ∈ B, w.before args s = true) : ∀ w' ∈ w :: B, w'.before args s = true := fun w' h' => (List.mem_cons.mp h').elim (fun e => by rw [e]; exact h) (t w')
theorem vx_n {args : Array Value} {s : State} : ∀ w ∈ ([] : List Cond), w.before args s = true := fun _ h => nomatch h
theorem vx_own {args : Array Value} {s : State} {L : List Cond} (h1 : ∀ w ∈ L.filter vx_no, w.before args s = true)
    (hU : (Cond.isRef (.static Bundle.tN "UNASSIGNED_STACK" Bundle.steD)).before args s = true) (hN : (Cond.isRef (.static Bundle.tN "SUPPRESSED_SENTINEL" Bundle.listD)).before args s = true)
    (lU : (Cond.laysStatic Bundle.tN "UNASSIGNED_STACK" Bundle.steD).before args s = true) (lN : (Cond.laysStatic Bundle.tN "SUPPRESSED_SENTINEL" Bundle.listD).before args s = true) : ∀ w ∈ L, w.before args s = true := by
  intro w hw
  by_cases e1 : w = .isRef (.static Bundle.tN "UNASSIGNED_STACK" Bundle.steD)
  · rw [e1]; exact hU
  · by_cases e2 : w = .isRef (.static Bundle.tN "SUPPRESSED_SENTINEL" Bundle.listD)
    · rw [e2]; exact hN
    · by_cases e3 : w = .laysStatic Bundle.tN "UNASSIGNED_STACK" Bundle.steD
      · rw [e3]; exact lU
      · by_cases e4 : w = .laysStatic Bundle.tN "SUPPRESSED_SENTINEL" Bundle.listD
        · rw [e4]; exact lN
        · exact h1 w (List.mem_filter.mpr ⟨hw, by unfold vx_no; rw [decide_eq_true e1, decide_eq_true e2, decide_eq_true e3, decide_eq_true e4]; rfl⟩)
/-- where a static field lies, its class's statics cell in H -/
def vx_L (C n d : String) (A : Nat → Prop) (U : State) (H : Heap) : Prop := ∃ (c : ClassId) (k : Class) (i : Nat) (f : Field) (a : Nat) (cell : Cell), U.vm.findClass C = some c ∧ U.fieldFound? C n d = some (c, k, i, f) ∧ f.isStatic = true ∧ k.statics = some a ∧ H[a]? = some cell ∧ cell.vm.isStatics = true ∧ cell.cls = c ∧ f.slot < cell.slots.size ∧ k.staticTypes[f.slot]? = some f.type ∧ ¬ A a
theorem vx_L.moved {C n d : String} {A : Nat → Prop} {u U : State} {H : Heap} (hvm : u.vm.Alike U.vm) (h : vx_L C n d A u H) : vx_L C n d A U H := by
  obtain ⟨c, k, i, f, a, cell, h1, h2, h3, h4, h5, h6, h7, h8, h9, h10⟩ := h
  obtain ⟨k', hi', he⟩ := State.fieldFound?_setVm hvm h2
  exact ⟨c, k', i, f, a, cell, by rw [hvm.findClass]; exact h1, hi', h3, by rw [he]; exact h4, h5, h6, h7, h8, by rw [he]; exact h9, h10⟩
theorem vx_L.kept {C n d : String} {A : Nat → Prop} {U : State} {H H1 : Heap} (h : vx_L C n d A U H) (hq : ∀ a : Nat, a < H.size → ¬ A a → H1[a]? = H[a]?) : vx_L C n d A U H1 := by
  obtain ⟨c, k, i, f, a, cell, h1, h2, h3, h4, h5, h6, h7, h8, h9, h10⟩ := h
  exact ⟨c, k, i, f, a, cell, h1, h2, h3, h4, by rw [hq a (Array.getElem?_eq_some_iff.mp h5).1 h10]; exact h5, h6, h7, h8, h9, h10⟩
theorem vx_L.narrow {C n d : String} {A B : Nat → Prop} {U : State} {H : Heap} (h : vx_L C n d A U H) (hAB : ∀ q, B q → A q) : vx_L C n d B U H := by
  obtain ⟨c, k, i, f, a, cell, h1, h2, h3, h4, h5, h6, h7, h8, h9, h10⟩ := h
  exact ⟨c, k, i, f, a, cell, h1, h2, h3, h4, h5, h6, h7, h8, h9, fun z => h10 (hAB _ z)⟩
theorem vx_L.word {C n d : String} {A : Nat → Prop} {s : State} {args : Array Value} (h : vx_L C n d A s s.heap) : (Cond.laysStatic C n d).before args s = true := by
  obtain ⟨c, k, i, f, a, cell, h1, h2, h3, h4, h5, h6, h7, h8, h9, -⟩ := h
  show (Cond.laysStatic C n d).holds args s none s [] = true
  exact Cond.laysStatic_of h1 h2 h3 h4 h5 h6 h7 h8 h9
/-- .. and what it holds: null or some reference -/
def vx_Zq (C n d : String) (A : Nat → Prop) (U : State) (H : Heap) : Prop := va_Zq C n d A U H ∧ vx_L C n d A U H
theorem vx_Zq.moved {C n d : String} {A : Nat → Prop} {u U : State} {H : Heap} (hvm : u.vm.Alike U.vm) (h : vx_Zq C n d A u H) : vx_Zq C n d A U H := ⟨va_Zq.moved hvm h.1, vx_L.moved hvm h.2⟩
theorem vx_Zq.kept {C n d : String} {A : Nat → Prop} {U : State} {H H1 : Heap} (h : vx_Zq C n d A U H) (hq : ∀ a : Nat, a < H.size → ¬ A a → H1[a]? = H[a]?) : vx_Zq C n d A U H1 := ⟨va_Zq.kept h.1 hq, vx_L.kept h.2 hq⟩
theorem vx_Zq.narrow {C n d : String} {A B : Nat → Prop} {U : State} {H : Heap} (h : vx_Zq C n d A U H) (hAB : ∀ q, B q → A q) : vx_Zq C n d B U H := ⟨va_Zq.narrow h.1 hAB, vx_L.narrow h.2 hAB⟩
theorem vx_Zqof {args : Array Value} {s : State} {C n d : String} {A : Nat → Prop} (hl : (Cond.laysStatic C n d).before args s = true) (hini : (Cond.initialized C).before args s = true) (h : (Cond.isRef (.static C n d)).before args s = true) (hA : ∀ a : Nat, a < s.heap.size → ¬ A a) : vx_Zq C n d A s s.heap := by
  refine ⟨va_Zqof hl hini h hA, ?_⟩
  obtain ⟨c, k, i, f, a, cell, h1, h2, h3, h4, h5, h6, h7, h8, h9⟩ := Cond.laysStatic_spec hl
  exact ⟨c, k, i, f, a, cell, h1, h2, h3, h4, h5, h6, h7, h8, h9, hA a (Array.getElem?_eq_some_iff.mp h5).1⟩
theorem vx_isRef {C n d : String} {v : Value} {A : Nat → Prop} {s : State} {args : Array Value} (h : va_Z C n d v A s s.heap) (hv : v.isRef = true) : (Cond.isRef (.static C n d)).before args s = true := by
  obtain ⟨cf, kf, fi, f, a, cell, h1, h2, h3, h4, h5, h6, h7, -⟩ := h
  have he : (Term.static C n d).eval args s none [] s = some v := by
    simp [Term.eval, State.fieldNamed?, h1, h2, h4, h5, h6, h7]
  simp only [Cond.before, Cond.holds, Cond.value, he]
  cases v <;> simp_all [Value.isRef]
theorem vx_isRefq {C n d : String} {A : Nat → Prop} {s : State} {args : Array Value} (h : va_Zq C n d A s s.heap) : (Cond.isRef (.static C n d)).before args s = true := by
  rcases h with h | ⟨t, h⟩
  · exact vx_isRef h rfl
  · exact vx_isRef h rfl
/-- the same frame, seen from here: as if the method were called anew in this heap -/
theorem vx_rebase {T : State} (X : Stand p l e R s m args below meth c T locs cells slots) {R' : Room} (hf : R'.frames ≤ R.frames) (hl : R'.locals ≤ R.locals) (hc : cells + R'.cells ≤ R.cells) (hs : slots + R'.slots ≤ R.slots) :
    Stand p l e R' ((T.setVm s.vm).setFrames (.invoking m args :: below)) m args below meth c T [] 0 0 := by
  have htop : (T.setVm s.vm).topJava?.isSome := X.here.top
  have hF : ((T.setVm s.vm).setFrames (.invoking m args :: below)).frames = .invoking m args :: below := State.frames_setFrames _ (State.cur_lt_of_top htop)
  obtain ⟨g₀, hg0⟩ := Option.isSome_iff_exists.mp htop
  obtain ⟨r, hr⟩ := State.topJava?_eq_some.mp hg0
  have hl9 : e.platform.stackLimits (T.setVm s.vm).me = e.platform.stackLimits s.me := X.limits
  have hb9 : (T.setVm s.vm).me.stackBytes = s.me.stackBytes := X.bytes
  refine ⟨X.admits, X.cas, X.clock, hF, ?_, X.hears, X.method, X.code, X.here, X.tail, X.warmed, ?_, ?_, ?_⟩
  · have h := X.room
    have hU : ((T.setVm s.vm).setFrames (.invoking m args :: below)).localsInUse = s.localsInUse := by
      rw [State.localsInUse_invoking hF (meth := meth) (c := c) X.method X.code, State.localsInUse_invoking X.frames X.method X.code]
    simp only [State.hasRoom, Bool.and_eq_true, decide_eq_true_eq] at h ⊢
    obtain ⟨⟨⟨⟨h1, h2, h3, h4, h5, h6⟩, h7⟩, h8⟩, h9⟩ := h
    rw [X.frames, List.length_cons] at h2 h3
    have q1 := X.heapSize
    have q2 := X.used
    simp only [hF, hU, List.length_cons, State.stackLimits_setFrames, State.stackBytes_setFrames, hl9, hb9]
    refine ⟨⟨⟨⟨by omega, by omega, by omega, by omega, by omega, h6⟩, ?_⟩, ?_⟩, X.book⟩
    · show T.heap.size + R'.cells ≤ e.platform.maxCells
      omega
    · show T.slotsUsed + R'.slots ≤ e.platform.maxSlots
      omega
  · rw [State.stackLimits_setFrames]; rfl
  · rw [State.stackBytes_setFrames]; rfl
  · refine ⟨?_, Nat.le_refl _, Nat.le_refl _, ?_, ?_, fun a c9 h9 => ⟨c9, h9, rfl, rfl, fun _ _ => rfl⟩⟩
    · obtain ⟨t, ht, -⟩ := State.frames_cons hr
      show T.setVm s.vm = { ((T.setVm s.vm).setFrames (.invoking m args :: below)).setFrames (T.setVm s.vm).frames with heap := T.heap, slotsUsed := T.slotsUsed }
      rw [State.setFrames_setFrames, State.setFrames_self ht]
      rfl
    · show T.slotsUsed = T.slotsUsed + ((T.heap.toList.drop T.heap.size).map (·.slots.size)).sum
      rw [List.drop_eq_nil_of_le (Nat.le_of_eq Array.length_toList)]
      rfl
    · show ((T.heap.toList.drop T.heap.size).map (·.slots.size)).sum ≤ 0
      rw [List.drop_eq_nil_of_le (Nat.le_of_eq Array.length_toList)]
      exact Nat.le_refl _
/-- 'throw new E()': new; dup; invokespecial; athrow -/
theorem vx_throw0 {cc : ByteArray} {pc : Nat} (hexec : p.tables.exec = Jvm.exec) (hb : c.code = cc) (hl : l.stackTraces = false) {own cls : String} {names : List String} {ik ic mc ms : Nat} {A : Nat → Prop}
    (hown : s.vm.findClass own = some m.cls) (hcls : Bundle.fit cls = true) (hnames : ∀ n ∈ names, Bundle.fit n = true)
    (hk : (Cond.classLink own ik cls).before args s = true) (hini : (Cond.initialized cls).before args s = true) (hat : ∀ w ∈ vx_at0 own ic cls names, w.before args s = true)
    (hgood : ∀ w ∈ Cond.classLink own ik cls :: Cond.initialized cls :: vx_at0 own ic cls names, vx_ot w = true)
    (hU : vx_Zq Bundle.tN "UNASSIGNED_STACK" Bundle.steD A s s.heap) (hN : vx_Zq Bundle.tN "SUPPRESSED_SENTINEL" Bundle.listD A s s.heap) (hS : va_S A s.heap H locs) (hsize : ls.size = c.maxLocals)
    (d0 : decode cc pc = .ok (.new ik, 3)) (d3 : decode cc (pc + 3) = .ok (.dup, 1)) (d4 : decode cc (pc + 4) = .ok (.invokespecial ic, 3)) (d7 : decode cc (pc + 7) = .ok (.athrow, 1))
    (hout : ∀ x ∈ c.exceptionTable.toList, covers x (pc + 7) = false)
    (hRframes : names.length + 3 < R.frames) (hRlocals : (rest.map fun v => v.category).sum + (13 * (names.length + 1) + 42) ≤ R.locals) (hRcells : cells + 1 ≤ R.cells) (hRslots : slots + 6 ≤ R.slots) (hlocks : meth.locks = false)
    (hx : ∀ t : State, s.vm.Alike t.vm → H.size ≤ t.heap.size → (∀ q : Nat, q < H.size → t.heap[q]? = H[q]?) → XC cls s t)
    (hf : ∀ z ∈ locs, free z.base) (hc : cells + 1 ≤ mc) (hs : slots + 6 ≤ ms) :
    W p l e R s m args below meth c H locs cells slots (vx_MQ below Qc XC args s mc ms free) (F0 m pc ls rest) := by
  intro T hT X
  have htr : e.platform.stackTraces = false := (show e.platform.stackTraces = l.stackTraces by rw [X.admits.platform]).trans hl
  have Y := vx_rebase X (R' := { frames := R.frames, locals := R.locals, cells := 1, slots := 6 }) (Nat.le_refl _) (Nat.le_refl _) hRcells hRslots
  obtain ⟨s', hA⟩ : ∃ z, z = (T.setVm s.vm).setFrames (.invoking m args :: below) := ⟨_, rfl⟩
  rw [← hA] at Y
  have hvm : s'.vm = s.vm := by rw [hA]; rfl
  have hhp : s'.heap = H := by rw [hA]; exact hT
  have hW0 : s.WarmedH s'.vm := by rw [hvm]; exact State.WarmedH.refl s
  have hat' : ∀ w ∈ vx_at0 own ic cls names, w.before args s' = true := fun w hw => vx_ot_at hW0 hvm.symm (hgood w (List.mem_cons_of_mem _ (List.mem_cons_of_mem _ hw))) (hat w hw)
  have hk' : (Cond.classLink own ik cls).before args s' = true := vx_ot_at hW0 hvm.symm (hgood _ List.mem_cons_self) hk
  have hini' : (Cond.initialized cls).before args s' = true := vx_ot_at hW0 hvm.symm (hgood _ (List.mem_cons_of_mem _ List.mem_cons_self)) hini
  have hU' : vx_Zq Bundle.tN "UNASSIGNED_STACK" Bundle.steD A s' s'.heap := by rw [hhp]; exact vx_Zq.moved hW0.alike (hU.kept hS.2.1)
  have hN' : vx_Zq Bundle.tN "SUPPRESSED_SENTINEL" Bundle.listD A s' s'.heap := by rw [hhp]; exact vx_Zq.moved hW0.alike (hN.kept hS.2.1)
  have h : ∀ w ∈ Bundle.ownAtoms0 own ic cls names, w.before args s' = true := vx_own hat' (vx_isRefq hU'.1) (vx_isRefq hN'.1) hU'.2.word hN'.2.word
  have hown' : s'.vm.findClass own = some m.cls := by rw [hvm]; exact hown
  have hins : (Cond.instantiable cls 6).before args s' = true := h _ (by simp [Bundle.ownAtoms0])
  obtain ⟨vm₁, cX, kX, hfX, hkX, -, -, X₁, st1⟩ := Y.newCold hexec (own := own) (C := cls) (index := ik) (n := 6) hown' hk' hins hini'
    (g := F0 m pc ls rest) rfl (by rw [hb]; exact d0) (Nat.le_refl _) (Nat.le_refl _)
  generalize hT1 : (T.setVm vm₁).pushCell { cls := cX, slots := kX.instanceTypes.map defaultValue, vm := .none } = T1 at X₁ st1
  have hcat : (Value.ref T.heap.size).category = 1 := rfl
  have hcellA : T1.heap[T.heap.size]? = some (freshCell cX kX) := by rw [← hT1]; exact State.heap_pushCell_size _ _
  have d3' : decode c.code (pc + 3) = .ok (.dup, 1) := by rw [hb]; exact d3
  obtain ⟨U, hsteps, hrun, hend, hW, hsame, ce, hce, hO⟩ := X₁.ctorThrow0 hexec htr (own := own) (cls := cls) (names := names) (ic := ic) hown' hcls hnames h (fun x hx => nomatch hx) hfX hkX hcellA (by rw [hhp, hT]; exact Nat.le_refl _)
    (g := { method := m, pc := pc + 4, locals := ls, stack := .ref T.heap.size :: .ref T.heap.size :: rest, locked := none }) rfl hsize rfl rfl (rest := rest) rfl
    (by rw [hb]; exact d4) (by rw [hb]; exact d7) hout hRframes (by simp only [List.map_cons, List.sum_cons, hcat]; omega) hlocks
  obtain ⟨f1, f2⟩ := vx_frame hsame
  rw [hhp] at f1 f2
  have hWs : s.WarmedH U.vm := State.WarmedH.trans hW0 hW
  have hcl : s.vm.findClass cls = some ce.cls := by
    have h9 := hO.cls
    rw [hvm] at h9
    exact h9
  have hall : s.sameButNew ({ U with vm := s.vm } : State) locs mc ms := by
    subst hA
    obtain ⟨e1, e2⟩ := hsame
    rw [State.setFrames_setFrames] at e1
    have h2 : (T.setVm s.vm).sameButNew ({ U with vm := s.vm } : State) [] (0 + 1) (0 + 6) := ⟨e1, e2⟩
    have h3 := X.same.trans h2
    rw [List.append_nil] at h3
    exact h3.mono hc hs
  refine ⟨U, ?_, .threw T.heap.size, hrun, hend, Or.inr ⟨T.heap.size, rfl, cls, ce, locs, hx U hWs.alike f1 (fun q hq => f2 q hq (fun z hz => nomatch hz)), hce, hO.vm, hcl, hWs, hall, hf⟩⟩
  refine st1 _ ?_
  show Steps p.tables e below (T1.setTop { method := m, pc := pc + 3, locals := ls, stack := .ref T.heap.size :: rest, locked := none }) _
  jvm_step X₁.here [X₁.here.top, hexec, d3', Value.category]
  exact hsteps
/-- 'throw new E("text")': new; dup; ldc; invokespecial; athrow -/
theorem vx_throwS {cc : ByteArray} {pc : Nat} (hexec : p.tables.exec = Jvm.exec) (hb : c.code = cc) (hl : l.stackTraces = false) {own cls text : String} {names : List String} {ik is ic mc ms sa : Nat} {A : Nat → Prop}
    (hown : s.vm.findClass own = some m.cls) (hcls : Bundle.fit cls = true) (hnames : ∀ n ∈ names, Bundle.fit n = true)
    (hk : (Cond.classLink own ik cls).before args s = true) (hini : (Cond.initialized cls).before args s = true) (hstr : vk_R own is text sa s) (hat : ∀ w ∈ vx_atS own ic cls names, w.before args s = true)
    (hgood : ∀ w ∈ Cond.classLink own ik cls :: Cond.initialized cls :: vx_atS own ic cls names, vx_ot w = true)
    (hU : vx_Zq Bundle.tN "UNASSIGNED_STACK" Bundle.steD A s s.heap) (hN : vx_Zq Bundle.tN "SUPPRESSED_SENTINEL" Bundle.listD A s s.heap) (hS : va_S A s.heap H locs) (hsize : ls.size = c.maxLocals)
    (d0 : decode cc pc = .ok (.new ik, 3)) (d3 : decode cc (pc + 3) = .ok (.dup, 1)) (d4 : decode cc (pc + 4) = .ok (.ldc is, 2)) (d6 : decode cc (pc + 6) = .ok (.invokespecial ic, 3)) (d9 : decode cc (pc + 9) = .ok (.athrow, 1))
    (hout : ∀ x ∈ c.exceptionTable.toList, covers x (pc + 9) = false)
    (hRframes : names.length + 3 < R.frames) (hRlocals : (rest.map fun v => v.category).sum + (13 * (names.length + 1) + 43) ≤ R.locals) (hRcells : cells + 1 ≤ R.cells) (hRslots : slots + 6 ≤ R.slots) (hlocks : meth.locks = false)
    (hx : ∀ t : State, s.vm.Alike t.vm → H.size ≤ t.heap.size → (∀ q : Nat, q < H.size → t.heap[q]? = H[q]?) → XC cls s t)
    (hf : ∀ z ∈ locs, free z.base) (hc : cells + 1 ≤ mc) (hs : slots + 6 ≤ ms) :
    W p l e R s m args below meth c H locs cells slots (vx_MQ below Qc XC args s mc ms free) (F0 m pc ls rest) := by
  intro T hT X
  have htr : e.platform.stackTraces = false := (show e.platform.stackTraces = l.stackTraces by rw [X.admits.platform]).trans hl
  have Y := vx_rebase X (R' := { frames := R.frames, locals := R.locals, cells := 1, slots := 6 }) (Nat.le_refl _) (Nat.le_refl _) hRcells hRslots
  obtain ⟨s', hA⟩ : ∃ z, z = (T.setVm s.vm).setFrames (.invoking m args :: below) := ⟨_, rfl⟩
  rw [← hA] at Y
  have hvm : s'.vm = s.vm := by rw [hA]; rfl
  have hhp : s'.heap = H := by rw [hA]; exact hT
  have hW0 : s.WarmedH s'.vm := by rw [hvm]; exact State.WarmedH.refl s
  have hat' : ∀ w ∈ vx_atS own ic cls names, w.before args s' = true := fun w hw => vx_ot_at hW0 hvm.symm (hgood w (List.mem_cons_of_mem _ (List.mem_cons_of_mem _ hw))) (hat w hw)
  have hk' : (Cond.classLink own ik cls).before args s' = true := vx_ot_at hW0 hvm.symm (hgood _ List.mem_cons_self) hk
  have hini' : (Cond.initialized cls).before args s' = true := vx_ot_at hW0 hvm.symm (hgood _ (List.mem_cons_of_mem _ List.mem_cons_self)) hini
  have hU' : vx_Zq Bundle.tN "UNASSIGNED_STACK" Bundle.steD A s' s'.heap := by rw [hhp]; exact vx_Zq.moved hW0.alike (hU.kept hS.2.1)
  have hN' : vx_Zq Bundle.tN "SUPPRESSED_SENTINEL" Bundle.listD A s' s'.heap := by rw [hhp]; exact vx_Zq.moved hW0.alike (hN.kept hS.2.1)
  have h : ∀ w ∈ Bundle.ownAtoms own ic cls names, w.before args s' = true := vx_own hat' (vx_isRefq hU'.1) (vx_isRefq hN'.1) hU'.2.word hN'.2.word
  have hown' : s'.vm.findClass own = some m.cls := by rw [hvm]; exact hown
  have hins : (Cond.instantiable cls 6).before args s' = true := h _ (by simp [Bundle.ownAtoms])
  obtain ⟨vm₁, cX, kX, hfX, hkX, -, -, X₁, st1⟩ := Y.newCold hexec (own := own) (C := cls) (index := ik) (n := 6) hown' hk' hins hini'
    (g := F0 m pc ls rest) rfl (by rw [hb]; exact d0) (Nat.le_refl _) (Nat.le_refl _)
  generalize hT1 : (T.setVm vm₁).pushCell { cls := cX, slots := kX.instanceTypes.map defaultValue, vm := .none } = T1 at X₁ st1
  have hcat : (Value.ref T.heap.size).category = 1 := rfl
  have hcellA : T1.heap[T.heap.size]? = some (freshCell cX kX) := by rw [← hT1]; exact State.heap_pushCell_size _ _
  have d3' : decode c.code (pc + 3) = .ok (.dup, 1) := by rw [hb]; exact d3
  have d4' : decode c.code (pc + 4) = .ok (.ldc is, 2) := by rw [hb]; exact d4
  have hstr' : vk_R own is text sa s' := vk_R.warm hW0 hstr
  obtain ⟨U, hsteps, hrun, hend, hW, hsame, ce, hce, hO⟩ := X₁.ctorThrowS hexec htr (own := own) (cls := cls) (names := names) (ic := ic) hown' hcls hnames h (fun x hx => nomatch hx) hfX hkX hcellA (by rw [hhp, hT]; exact Nat.le_refl _) (msg := .ref sa) rfl
    (g := { method := m, pc := pc + 6, locals := ls, stack := .ref sa :: .ref T.heap.size :: .ref T.heap.size :: rest, locked := none }) rfl hsize rfl rfl (rest := rest) rfl
    (by rw [hb]; exact d6) (by rw [hb]; exact d9) hout hRframes (by simp only [List.map_cons, List.sum_cons, hcat]; omega) hlocks
  obtain ⟨f1, f2⟩ := vx_frame hsame
  rw [hhp] at f1 f2
  have hWs : s.WarmedH U.vm := State.WarmedH.trans hW0 hW
  have hcl : s.vm.findClass cls = some ce.cls := by
    have h9 := hO.cls
    rw [hvm] at h9
    exact h9
  have hall : s.sameButNew ({ U with vm := s.vm } : State) locs mc ms := by
    subst hA
    obtain ⟨e1, e2⟩ := hsame
    rw [State.setFrames_setFrames] at e1
    have h2 : (T.setVm s.vm).sameButNew ({ U with vm := s.vm } : State) [] (0 + 1) (0 + 6) := ⟨e1, e2⟩
    have h3 := X.same.trans h2
    rw [List.append_nil] at h3
    exact h3.mono hc hs
  refine ⟨U, ?_, .threw T.heap.size, hrun, hend, Or.inr ⟨T.heap.size, rfl, cls, ce, locs, hx U hWs.alike f1 (fun q hq => f2 q hq (fun z hz => nomatch hz)), hce, hO.vm, hcl, hWs, hall, hf⟩⟩
  refine st1 _ ?_
  show Steps p.tables e below (T1.setTop { method := m, pc := pc + 3, locals := ls, stack := .ref T.heap.size :: rest, locked := none }) _
  jvm_step X₁.here [X₁.here.top, hexec, d3', Value.category]
  exact X₁.ldcString hexec (own := own) (text := text) (index := is) (a := sa) hown' hstr'.1 hstr'.2
    (g := { method := m, pc := pc + 4, locals := ls, stack := .ref T.heap.size :: .ref T.heap.size :: rest, locked := none }) rfl d4' _ hsteps
/-- 'throw new E("text")', the text by a wide index -/
theorem vx_throwSW {cc : ByteArray} {pc : Nat} (hexec : p.tables.exec = Jvm.exec) (hb : c.code = cc) (hl : l.stackTraces = false) {own cls text : String} {names : List String} {ik is ic mc ms sa : Nat} {A : Nat → Prop}
    (hown : s.vm.findClass own = some m.cls) (hcls : Bundle.fit cls = true) (hnames : ∀ n ∈ names, Bundle.fit n = true)
    (hk : (Cond.classLink own ik cls).before args s = true) (hini : (Cond.initialized cls).before args s = true) (hstr : vk_R own is text sa s) (hat : ∀ w ∈ vx_atS own ic cls names, w.before args s = true)
    (hgood : ∀ w ∈ Cond.classLink own ik cls :: Cond.initialized cls :: vx_atS own ic cls names, vx_ot w = true)
    (hU : vx_Zq Bundle.tN "UNASSIGNED_STACK" Bundle.steD A s s.heap) (hN : vx_Zq Bundle.tN "SUPPRESSED_SENTINEL" Bundle.listD A s s.heap) (hS : va_S A s.heap H locs) (hsize : ls.size = c.maxLocals)
    (d0 : decode cc pc = .ok (.new ik, 3)) (d3 : decode cc (pc + 3) = .ok (.dup, 1)) (d4 : decode cc (pc + 4) = .ok (.ldc_w is, 3)) (d7 : decode cc (pc + 7) = .ok (.invokespecial ic, 3)) (d10 : decode cc (pc + 10) = .ok (.athrow, 1))
    (hout : ∀ x ∈ c.exceptionTable.toList, covers x (pc + 10) = false)
    (hRframes : names.length + 3 < R.frames) (hRlocals : (rest.map fun v => v.category).sum + (13 * (names.length + 1) + 43) ≤ R.locals) (hRcells : cells + 1 ≤ R.cells) (hRslots : slots + 6 ≤ R.slots) (hlocks : meth.locks = false)
    (hx : ∀ t : State, s.vm.Alike t.vm → H.size ≤ t.heap.size → (∀ q : Nat, q < H.size → t.heap[q]? = H[q]?) → XC cls s t)
    (hf : ∀ z ∈ locs, free z.base) (hc : cells + 1 ≤ mc) (hs : slots + 6 ≤ ms) :
    W p l e R s m args below meth c H locs cells slots (vx_MQ below Qc XC args s mc ms free) (F0 m pc ls rest) := by
  intro T hT X
  have htr : e.platform.stackTraces = false := (show e.platform.stackTraces = l.stackTraces by rw [X.admits.platform]).trans hl
  have Y := vx_rebase X (R' := { frames := R.frames, locals := R.locals, cells := 1, slots := 6 }) (Nat.le_refl _) (Nat.le_refl _) hRcells hRslots
  obtain ⟨s', hA⟩ : ∃ z, z = (T.setVm s.vm).setFrames (.invoking m args :: below) := ⟨_, rfl⟩
  rw [← hA] at Y
  have hvm : s'.vm = s.vm := by rw [hA]; rfl
  have hhp : s'.heap = H := by rw [hA]; exact hT
  have hW0 : s.WarmedH s'.vm := by rw [hvm]; exact State.WarmedH.refl s
  have hat' : ∀ w ∈ vx_atS own ic cls names, w.before args s' = true := fun w hw => vx_ot_at hW0 hvm.symm (hgood w (List.mem_cons_of_mem _ (List.mem_cons_of_mem _ hw))) (hat w hw)
  have hk' : (Cond.classLink own ik cls).before args s' = true := vx_ot_at hW0 hvm.symm (hgood _ List.mem_cons_self) hk
  have hini' : (Cond.initialized cls).before args s' = true := vx_ot_at hW0 hvm.symm (hgood _ (List.mem_cons_of_mem _ List.mem_cons_self)) hini
  have hU' : vx_Zq Bundle.tN "UNASSIGNED_STACK" Bundle.steD A s' s'.heap := by rw [hhp]; exact vx_Zq.moved hW0.alike (hU.kept hS.2.1)
  have hN' : vx_Zq Bundle.tN "SUPPRESSED_SENTINEL" Bundle.listD A s' s'.heap := by rw [hhp]; exact vx_Zq.moved hW0.alike (hN.kept hS.2.1)
  have h : ∀ w ∈ Bundle.ownAtoms own ic cls names, w.before args s' = true := vx_own hat' (vx_isRefq hU'.1) (vx_isRefq hN'.1) hU'.2.word hN'.2.word
  have hown' : s'.vm.findClass own = some m.cls := by rw [hvm]; exact hown
  have hins : (Cond.instantiable cls 6).before args s' = true := h _ (by simp [Bundle.ownAtoms])
  obtain ⟨vm₁, cX, kX, hfX, hkX, -, -, X₁, st1⟩ := Y.newCold hexec (own := own) (C := cls) (index := ik) (n := 6) hown' hk' hins hini'
    (g := F0 m pc ls rest) rfl (by rw [hb]; exact d0) (Nat.le_refl _) (Nat.le_refl _)
  generalize hT1 : (T.setVm vm₁).pushCell { cls := cX, slots := kX.instanceTypes.map defaultValue, vm := .none } = T1 at X₁ st1
  have hcat : (Value.ref T.heap.size).category = 1 := rfl
  have hcellA : T1.heap[T.heap.size]? = some (freshCell cX kX) := by rw [← hT1]; exact State.heap_pushCell_size _ _
  have d3' : decode c.code (pc + 3) = .ok (.dup, 1) := by rw [hb]; exact d3
  have d4' : decode c.code (pc + 4) = .ok (.ldc_w is, 3) := by rw [hb]; exact d4
  have hstr' : vk_R own is text sa s' := vk_R.warm hW0 hstr
  obtain ⟨U, hsteps, hrun, hend, hW, hsame, ce, hce, hO⟩ := X₁.ctorThrowS hexec htr (own := own) (cls := cls) (names := names) (ic := ic) hown' hcls hnames h (fun x hx => nomatch hx) hfX hkX hcellA (by rw [hhp, hT]; exact Nat.le_refl _) (msg := .ref sa) rfl
    (g := { method := m, pc := pc + 7, locals := ls, stack := .ref sa :: .ref T.heap.size :: .ref T.heap.size :: rest, locked := none }) rfl hsize rfl rfl (rest := rest) rfl
    (by rw [hb]; exact d7) (by rw [hb]; exact d10) hout hRframes (by simp only [List.map_cons, List.sum_cons, hcat]; omega) hlocks
  obtain ⟨f1, f2⟩ := vx_frame hsame
  rw [hhp] at f1 f2
  have hWs : s.WarmedH U.vm := State.WarmedH.trans hW0 hW
  have hcl : s.vm.findClass cls = some ce.cls := by
    have h9 := hO.cls
    rw [hvm] at h9
    exact h9
  have hall : s.sameButNew ({ U with vm := s.vm } : State) locs mc ms := by
    subst hA
    obtain ⟨e1, e2⟩ := hsame
    rw [State.setFrames_setFrames] at e1
    have h2 : (T.setVm s.vm).sameButNew ({ U with vm := s.vm } : State) [] (0 + 1) (0 + 6) := ⟨e1, e2⟩
    have h3 := X.same.trans h2
    rw [List.append_nil] at h3
    exact h3.mono hc hs
  refine ⟨U, ?_, .threw T.heap.size, hrun, hend, Or.inr ⟨T.heap.size, rfl, cls, ce, locs, hx U hWs.alike f1 (fun q hq => f2 q hq (fun z hz => nomatch hz)), hce, hO.vm, hcl, hWs, hall, hf⟩⟩
  refine st1 _ ?_
  show Steps p.tables e below (T1.setTop { method := m, pc := pc + 3, locals := ls, stack := .ref T.heap.size :: rest, locked := none }) _
  jvm_step X₁.here [X₁.here.top, hexec, d3', Value.category]
  exact X₁.ldcStringW hexec (own := own) (text := text) (index := is) (a := sa) hown' hstr'.1 hstr'.2
    (g := { method := m, pc := pc + 4, locals := ls, stack := .ref T.heap.size :: .ref T.heap.size :: rest, locked := none }) rfl d4' _ hsteps
end Ends
section Bodies
variable {l : Launch}
theorem vx_ofW {y : MethodName} {ws ws' : List Cond} {rm : Room} {Pc : Array Value → State → Prop} {Qc : Array Value → State → Outcome → State → Prop} {XC : String → State → State → Prop} {mc ms : Nat} {free : Addr → Prop} {cc : ByteArray} {maxL : Nat} {ret : Option FieldType}
    (hy : plainName y.cls = true) (hw : ws = Cond.code y cc maxL ret :: ws')
    (body : ∀ p e s m args below meth c s₁, BodyLoose p l y (headSpec ws rm) cc maxL ret e s m args below meth c s₁ → c.maxLocals = maxL → (∀ x ∈ c.exceptionTable.toList, False) → Pc args s →
      W p l e (headSpec ws rm).room s m args below meth c s.heap [] 0 0 (vx_MQ below Qc XC args s mc ms free) (entryFrame m args maxL)) : vx_Met l y ws rm Pc Qc XC mc ms free := by
  refine MetFree.of_bodyS (code := cc) (maxLocals := maxL) (ret := ret) hy ?_ ?_
  · intro args s m h hn
    obtain ⟨meth, c, h1, h2, h3, h4, h5, h6, -, -⟩ := Cond.code_spec hn (atoms_spec (ws := ws) h _ (by rw [hw]; exact List.mem_cons_self))
    exact ⟨meth, c, h1, h2, h3, h4, h5, h6⟩
  · intro p e s m args below meth c s₁ B hml hP _
    have hh0 : s₁.heap = s.heap := by rw [B.state]; rfl
    have ht : ∀ x ∈ c.exceptionTable.toList, False := by
      obtain ⟨meth9, c9, h1, h2, -, -, -, -, h7, -⟩ := Cond.code_spec B.named (atoms_spec (ws := ws) B.pre _ (by rw [hw]; exact List.mem_cons_self))
      cases Option.some.inj (h1.symm.trans B.method)
      cases Option.some.inj (h2.symm.trans (Stand.of_body B).code)
      intro x hx
      rw [Array.isEmpty_iff.mp h7] at hx
      cases hx
    obtain ⟨t, a1, o, b1, b2, b3⟩ := body p e s m args below meth c s₁ B hml ht hP s₁ hh0 (Stand.of_body B)
    exact ⟨t, o, a1, b1, b2, b3⟩
/-- the table of a body with handlers -/
theorem vx_table {p : Program} {x y : MethodName} {S : Spec} {cc bytes : ByteArray} {maxL maxL' : Nat} {ret ret' : Option FieldType} {e : Env} {s s₁ : State} {m : MethodId} {args : Array Value} {below : List Frame} {meth : Method} {c : Code} {hh : List (Nat × Nat × Nat × Nat)}
    (B : BodyLoose p l y S cc maxL ret e s m args below meth c s₁) (h : (Cond.codeWith y bytes maxL' ret' hh).before args s = true) : c.exceptionTable.toList = tableOf hh := by
  obtain ⟨m9, meth9, c9, hn9, h1, h2, -, -, h6, -⟩ := Cond.codeWith_spec h
  cases Option.some.inj (hn9.symm.trans B.named)
  cases Option.some.inj (h1.symm.trans B.method)
  cases Option.some.inj (h2.symm.trans (Stand.of_body B).code)
  rw [← h6, table_eq]
end Bodies
end VXA
/-! ===== END ===== -/
/-! ===== BEGIN a static call of a method with an exception table ===== -/
section VXS
variable {p : Program} {l : Launch} {e : Env} {R : Room} {s : State} {m : MethodId} {args : Array Value} {below : List Frame} {meth : Method} {c : Code} {T : State} {H : Heap} {locs : List Loc} {cells slots : Nat}
abbrev vx_CSW (R : Room) (s : State) (args : Array Value) (own : String) (index : Nat) (y : MethodName) (bytes : ByteArray) (maxL : Nat) (ret : Option FieldType) (hh : List (Nat × Nat × Nat × Nat)) (ws : List Cond) (rm : Room) (mc ms n : Nat) : Prop :=
  (rm.cells = mc ∧ rm.slots = ms ∧ rm.frames + 1 ≤ R.frames ∧ 8 + (maxL + 11) + rm.locals ≤ R.locals ∧ (∀ w ∈ ws, ∀ (a' : Array Value) (U : State), s.WarmedH U.vm → w.before a' U = true) ∧ Cond.codeWith y bytes maxL ret hh ∈ ws) ∧
  (Cond.codeWith y bytes maxL ret hh).before args s = true ∧ (Cond.initialized y.cls).before args s = true ∧ (y.cls ≠ "java/lang/invoke/MethodHandle" ∧ y.cls ≠ "java/lang/invoke/VarHandle") ∧
  (∀ sig, parseMethodDescriptor y.desc = some sig → n = sig.parameters.length) ∧ (Cond.methodLink own index y).before args s = true ∧ (Cond.static y).before args s = true
theorem vx_cwSW {own : String} {index maxL mc ms : Nat} {y : MethodName} {bytes : ByteArray} {ret : Option FieldType} {hh : List (Nat × Nat × Nat × Nat)} {Ts ws ws' : List Cond} {rm : Room} (n : Nat) (ht : ∀ w ∈ Ts, w.before args s = true) (hT : GoodIn Ts (va_wsS own index y ws)) (hw : ws = Cond.codeWith y bytes maxL ret hh :: ws') (hrc : rm.cells = mc) (hrs : rm.slots = ms)
    (hd : y.cls ≠ "java/lang/invoke/MethodHandle" ∧ y.cls ≠ "java/lang/invoke/VarHandle" ∧ (parseMethodDescriptor y.desc).map (fun d => d.parameters.length) = some n) (hR : rm.frames + 1 ≤ R.frames ∧ 8 + (maxL + 11) + rm.locals ≤ R.locals) :
    vx_CSW R s args own index y bytes maxL ret hh ws rm mc ms n := by
  have ok : ∀ w ∈ va_wsS own index y ws, w.before args s = true := fun w h => ht w (hT w h).1
  have hG : GoodIn Ts ws := fun w h => hT w (by unfold va_wsS; exact List.mem_append_right _ h)
  have hc : Cond.codeWith y bytes maxL ret hh ∈ ws := by rw [hw]; exact List.mem_cons_self
  refine ⟨⟨hrc, hrs, hR.1, hR.2, pay_in ht hG, hc⟩, ht _ (hG _ hc).1, ok _ (by simp [va_wsS]), ⟨hd.1, hd.2.1⟩, fun sig h => ?_, ok _ (by simp [va_wsS]), ok _ (by simp [va_wsS])⟩
  have h2 := hd.2.2
  rw [h] at h2
  exact (Option.some.inj h2).symm
theorem vx_callSW (X : Stand p l e R s m args below meth c T locs cells slots) (hexec : p.tables.exec = Jvm.exec) {own : String} {index : Nat} {y : MethodName} {bytes : ByteArray} {maxL : Nat} {ret : Option FieldType} {hh : List (Nat × Nat × Nat × Nat)}
    (hown : s.vm.findClass own = some m.cls) (hlink : (Cond.methodLink own index y).before args s = true) (hstat : (Cond.static y).before args s = true) (hinit : (Cond.initialized y.cls).before args s = true)
    (hcode : (Cond.codeWith y bytes maxL ret hh).before args s = true) (hy : y.cls ≠ "java/lang/invoke/MethodHandle" ∧ y.cls ≠ "java/lang/invoke/VarHandle")
    {W9 : Nat} {Pre : Pt → Array Value → Prop} {Post : Pt → Array Value → Option Value → Pt → Prop} (hK : Back l R p e below s args y 3 W9 Pre Post)
    {g : JFrame} (hg : g.method = m) (hsize : g.locals.size = c.maxLocals) {argsL rest : List Value} (hlen : ∀ sig, parseMethodDescriptor y.desc = some sig → argsL.length = sig.parameters.length)
    (hstack : g.stack = argsL.reverse ++ rest) (hW : 2 * g.monitorRoom + (rest.map fun v => v.category).sum ≤ W9) (hdg : decode c.code g.pc = .ok (.invokestatic index, 3))
    (hpre : ∀ vm₁, s.WarmedH vm₁ → Pre ⟨T.setVm vm₁, locs, cells, slots⟩ argsL.toArray) :
    ∃ (v : Option Value) (vm₁ : Vm) (B : Pt), s.WarmedH vm₁ ∧ Stand p l e R s m args below meth c B.U B.locs B.cells B.slots ∧ Post ⟨T.setVm vm₁, locs, cells, slots⟩ argsL.toArray v B ∧
      ∀ target, Steps p.tables e below (B.U.setTop { g with pc := g.pc + 3, stack := v.toList ++ rest }) target → Steps p.tables e below (T.setTop g) target := by
  obtain ⟨mk, methM, cM, hnamed, hmethM, -, -, -, -, -, -, hsigM⟩ := Cond.codeWith_spec hcode
  have hstatic : methM.isStatic = true := Cond.static_spec hnamed hmethM hstat
  obtain ⟨kP, hkP, -⟩ := className_of_methodNamed hnamed
  have hinitP : kP.init = .initialized := Cond.initialized_spec (findClass_of_methodNamed hnamed) hkP hinit
  obtain ⟨vm₁, X₁, hstep₁⟩ := X.invokestatic hexec hown hlink hnamed hmethM hstatic hkP hinitP hy (g := g) hg (argsL := argsL) (rest := rest) (hlen _ hsigM) hstack hdg
  obtain ⟨v, B, X', hpost, hsteps⟩ := hK m meth c ⟨T.setVm vm₁, locs, cells, slots⟩ { g with stack := rest } (.invokestatic index) mk argsL.toArray X₁ hg hsize hdg hW (X₁.named hnamed) (hpre vm₁ X₁.warmed)
  exact ⟨v, vm₁, B, X₁.warmed, X', hpost, fun target h => hstep₁ _ fun acts => by rw [doInvoke_state]; exact hsteps.trans h⟩
theorem vx_runSW {y : MethodName} {bytes cc : ByteArray} {maxL nL mc ms n index : Nat} {ret : Option FieldType} {hh : List (Nat × Nat × Nat × Nat)} {ws : List Cond} {rm : Room} {Pc : Array Value → State → Prop} {Qc : Array Value → State → Outcome → State → Prop} {free : Addr → Prop} {Ts : List Cond} {own : String} {As rest : List Value} {g : JFrame}
    (S : CallFix p m c cc nL s args Ts own) (hM : Met l y ws rm Pc Qc mc ms free) (cw : vx_CSW R s args own index y bytes maxL ret hh ws rm mc ms n) (hp : PreS s H Pc As)
    (hg : g.method = m) (hn : As.length = n) (hsize : g.locals.size = nL) (hstack : g.stack = As.reverse ++ rest) (hW : 2 * g.monitorRoom + (rest.map fun v => v.category).sum ≤ 8) (hdg : decode cc g.pc = .ok (.invokestatic index, 3)) (hf : cells + mc ≤ R.cells ∧ slots + ms ≤ R.slots) :
    va_Run p l e R s m args below meth c H locs cells slots mc ms g rest (Qc As.toArray) (free) := by
  obtain ⟨⟨hrc, hrs, hfr, hlo, hws, hcw⟩, hcode, hini, hy, hlen, hl, hstt⟩ := cw
  have hK : Back l R p e below s args y 3 8 (PreOf R mc ms Pc) (PostOf Qc mc ms free) := va_backW (hh := hh) (bytes := bytes) (maxL := maxL) (ret := ret) hM hp.1 hrc hrs hfr hlo hws hcw (fun a' U hW => word_at hW (Or.inl (by first | rfl | simp [Cond.onTables, Cond.keeps, Cond.steady])) hini)
  obtain ⟨hx, hb, hml, ho, -⟩ := S
  intro T hT X
  obtain ⟨v, vm₁, ⟨U', l2, c2, s2⟩, hW₁, X', ⟨g', mk, t, L, e1, e2, hq, h1, hL, h2, h3⟩, st⟩ := vx_callSW X hx (hh := hh) (bytes := bytes) (maxL := maxL) (ret := ret) ho hl hstt hini hcode hy hK hg (hsize.trans hml.symm) (argsL := As) (rest := rest) (fun sig h => hn.trans (hlen sig h)) hstack hW (by rw [hb]; exact hdg)
    (fun vm₁ hW₁ => ⟨hf.1, hf.2, hp.2 (T.setVm vm₁) hT hW₁⟩)
  dsimp only [Pt.U, Pt.locs, Pt.cells, Pt.slots] at X' e1 e2 h1 h2 h3 st
  subst h1; subst h2; subst h3
  exact ⟨v, (T.setVm vm₁).calling g' mk As.toArray, t, U', L, hT, X', hL, e1, e2, hq, st⟩
/-- not caught here, past rows that name other classes: it goes on to the caller -/
theorem vx_outP {p : Program} {l : Launch} {e : Env} {R : Room} {s : State} {m : MethodId} {args : Array Value} {below : List Frame} {meth : Method} {c : Code} {H : Heap} {locs : List Loc} {cells slots : Nat} {free : Addr → Prop} {ls : Array Slot} {rest : List Value} {Qc : Array Value → State → Outcome → State → Prop} {XC : String → State → State → Prop}
    {pc : Nat} {own E : String} {ce : Cell} {q : Addr} {mc ms : Nat} (hown : s.vm.findClass own = some m.cls) (hlocks : meth.locks = false)
    (hpass : ∀ z ∈ c.exceptionTable.toList, covers z pc = false ∨ (z.catchType ≠ 0 ∧ ∃ nm : String, (Cond.classLink own z.catchType nm).before args s = true ∧ va_Nc E nm s)) (hcell : H[q]? = some ce) (hv : ce.vm = .none) (hcl : s.vm.findClass E = some ce.cls)
    (hx : ∀ t : State, t.heap = H → s.vm.Alike t.vm → XC E s t) (hf : ∀ z ∈ locs, free z.base) (hc : cells ≤ mc) (hs : slots ≤ ms) :
    vx_W p l e R s m args below meth c H locs cells slots (vx_MQ below Qc XC args s mc ms free) (F0 m pc ls rest) q := by
  intro T hT X
  have hpl : e.platform.magicAccessors = ({} : Platform).magicAccessors := by rw [X.admits.platform]
  obtain ⟨vm', hW', X', st⟩ := X.outThrough hlocks q (g := F0 m pc ls rest) rfl rfl rfl (cell := ce) (by rw [hT]; exact hcell) (by rw [hv]; rfl)
    (by obtain ⟨k9, h9, -⟩ := Vm.findClass_spec hcl; exact ⟨k9, h9⟩) (fun z hz => by
      rcases hpass z hz with h | ⟨hz0, nm, hl1, hn1⟩
      · exact Or.inl h
      · obtain ⟨c6, hc6, hcl6⟩ := Cond.classLink_spec hown hl1 e.platform hpl
        obtain ⟨a8, b8, h1, h2, h3⟩ := hn1
        cases Option.some.inj (h1.symm.trans hcl)
        cases Option.some.inj (h2.symm.trans hc6)
        exact Or.inr ⟨hz0, _, hcl6, h3⟩)
  obtain ⟨g₀, hfr⟩ := X'.frames_eq
  have hcell9 : ((T.setVm vm').setFrames (.throwing q :: below)).heap[q]? = some ce := by
    show T.heap[q]? = some ce
    rw [hT]; exact hcell
  have hend : Ended ((T.setVm vm').setFrames (.throwing q :: below)) below (.threw q) := State.frames_setFrames _ (State.cur_lt_of_frames hfr)
  refine ⟨(T.setVm vm').setFrames (.throwing q :: below), ?_, .threw q, X'.here.running, hend, Or.inr ⟨q, rfl, E, ce, locs, hx _ hT (X'.ends _).1.alike, hcell9, hv, hcl, (X'.ends _).1, (X'.ends _).2.mono hc hs, hf⟩⟩
  rw [X.pushThrowing_eq]
  exact st
/-- a thing of a world lies in the heap -/
theorem vx_lt {D : va_G} {cl : List vw_C} {ws : va_W} {H1 : Heap} (h : va_P D cl ws H1) {k : Nat} {q : Nat × va_E} (hk : ws[k]? = some q) : q.1 < H1.size := (h k q hk).lt
end VXS
/-! ===== END ===== -/
/-! ===== BEGIN methods with a table of their own: called by a name, returning or throwing ===== -/
section VXH
/-! vx_backW, vx_callVX, vx_callSX, vx_callVW, vx_runVW, vx_runVX, vx_runSX, vx_ofWH follow the same proofs as their sisters above (Free/Laws.lean, Shelf42/LK1.lean); vx_outP calls Shelf42/NT130.lean (outThrough). -/
section
variable {l : Launch} {R : Room} {p : Program} {e : Env} {below : List Frame} {s : State} {sargs : Array Value} {y : MethodName} {len W9 : Nat}
theorem vx_backW {ws : List Cond} {rm : Room} {Pc : Array Value → State → Prop} {Qc : Array Value → State → Outcome → State → Prop} {XC : String → State → State → Prop} {mc ms : Nat} {free : Addr → Prop} {bytes : ByteArray} {maxL : Nat} {ret : Option FieldType} {hh : List (Nat × Nat × Nat × Nat)}
    (hM : vx_Met l y ws rm Pc Qc XC mc ms free) (hblind : FrameBlind Pc) (hrc : rm.cells = mc) (hrs : rm.slots = ms)
    (hframes : rm.frames + 1 ≤ R.frames) (hlocals : W9 + (maxL + 11) + rm.locals ≤ R.locals)
    (hws : ∀ w ∈ ws, ∀ a' U, s.WarmedH U.vm → w.before a' U = true) (hcode : Cond.codeWith y bytes maxL ret hh ∈ ws) (hinit : ∀ a' U, s.WarmedH U.vm → (Cond.initialized y.cls).before a' U = true) :
    vx_Back l R p e below s sargs y len W9 (PreOf R mc ms Pc) (PostOf Qc mc ms free) (vx_Post XC mc ms free) := by
  intro m meth c A g ig mk a X hg hsize hdg hW hn hp
  have h1 : (headSpec ws rm).pre.before a A.U = true := atoms_intro fun w hw => hws w hw _ _ X.warmed
  have h2 : (Cond.codeWith y bytes maxL ret hh).before a A.U = true := hws _ hcode _ _ X.warmed
  have h3 : (Cond.initialized y.cls).before a A.U = true := hinit _ _ X.warmed
  have h4 : A.cells + (headSpec ws rm).room.cells ≤ R.cells := by rw [show (headSpec ws rm).room.cells = mc from hrc]; exact hp.1
  have h5 : A.slots + (headSpec ws rm).room.slots ≤ R.slots := by rw [show (headSpec ws rm).room.slots = ms from hrs]; exact hp.2.1
  have hPc : Pc a (A.U.calling g mk a) := hblind _ _ _ _ hp.2.2
  obtain ⟨U, Ls, c0, s0⟩ := A
  dsimp only [Pt.U, Pt.locs, Pt.cells, Pt.slots] at h1 h2 h3 h4 h5 X hn hPc ⊢
  obtain ⟨m9, methY, cY, hn9, hmY, hcY, -, hlY, -⟩ := Cond.codeWith_spec h2
  cases Option.some.inj (hn9.symm.trans hn)
  obtain ⟨kY, hkY, -⟩ := className_of_methodNamed hn
  have hinitY : kY.init = .initialized := Cond.initialized_spec (findClass_of_methodNamed hn) hkY h3
  have h : At U g.method c below := by rw [hg]; exact X.here
  have hlocals9 : W9 + (maxL + 11) + (headSpec ws rm).room.locals ≤ R.locals := hlocals
  have happ : (headSpec ws rm).appliesLoose y e.platform (U.calling g mk a) = true :=
    Spec.appliesLoose_calling (g := g) h hdg hn hkY hinitY
      (X.room_calling (g := g) (R' := (headSpec ws rm).room) hsize hmY hcY hframes (by rw [hlY]; omega) h4 h5) h1
  obtain ⟨mid, hmid⟩ := h.above
  have hfr : (U.setTop g).frames = (.java g :: mid) ++ below := by rw [State.frames_setTop' g h.top, hmid]; rfl
  obtain ⟨o, s₂, hsteps, -, hend, hq⟩ := Steps.callFree hM p X.admits X.cas X.clock (acts := []) hfr happ hPc trivial
  have hq' : vx_Q Qc XC mc ms free a (U.calling g mk a) o s₂ := hq
  rw [State.frames_setTop' g h.top] at hend
  obtain ⟨g₀, hg0⟩ := Option.isSome_iff_exists.mp h.top
  obtain ⟨r, hr⟩ := State.topJava?_eq_some.mp hg0
  have hr' : (({ U with heap := s₂.heap, slotsUsed := s₂.slotsUsed } : State).setVm s₂.vm).frames = .java g₀ :: r := hr
  rcases hq' with ⟨hqc, L, hfe, hL⟩ | ⟨q, rfl, E, ce, L, hx, hce, hcv, hcl, hW₂, hsm, hL⟩
  · obtain ⟨⟨v, rfl⟩, hW₂, e2, q2, q3, q4, q5, q6⟩ := id hfe
    have e3 : s₂ = ({ (U.calling g mk a).setFrames s₂.frames with heap := s₂.heap, slotsUsed := s₂.slotsUsed } : State).setVm s₂.vm := by
      have : s₂ = ({ s₂ with vm := (U.calling g mk a).vm } : State).setVm s₂.vm := rfl
      rw [e2] at this
      exact this
    obtain ⟨c₂, i₂, len₂, hc₂, hd₂, hf₂⟩ := hend
    have hW' : U.WarmedH s₂.vm := hW₂
    have hcc : c₂ = c := by
      have h1 : s₂.code? g.method = U.code? g.method := by
        rw [State.code?_eq, State.code?_eq, hW'.alike.method?]
      exact Option.some.inj (hc₂.symm.trans (h1.trans h.code))
    subst hcc
    have hlen : len₂ = len := by rw [hdg] at hd₂; cases hd₂; rfl
    subst hlen
    have hs₂ : s₂ = (({ U with heap := s₂.heap, slotsUsed := s₂.slotsUsed } : State).setVm s₂.vm).setTop { g with pc := g.pc + len₂, stack := v.toList ++ g.stack } := by
      refine e3.trans ?_
      rw [hf₂, State.calling_eq h.top, State.setFrames_setFrames, State.setTop_of_frames _ hr', hr]
      rfl
    have hsame : U.sameButNew ({ U with heap := s₂.heap, slotsUsed := s₂.slotsUsed } : State) L mc ms := by
      refine ⟨?_, q2, q3, q4, q5, q6⟩
      obtain ⟨t, ht, -⟩ := State.frames_cons hr
      show ({ U with heap := s₂.heap, slotsUsed := s₂.slotsUsed } : State) = { U.setFrames U.frames with heap := s₂.heap, slotsUsed := s₂.slotsUsed }
      rw [State.setFrames_self ht]
    subst hg
    refine Or.inl ⟨v, ⟨(({ U with heap := s₂.heap, slotsUsed := s₂.slotsUsed } : State).setVm s₂.vm), Ls ++ L, c0 + mc, s0 + ms⟩,
      ⟨X.admits, X.cas, X.clock, X.frames, X.room, X.hears, X.method, X.code, (X.here.setHeapUsed s₂.heap s₂.slotsUsed).setVm hW'.alike, X.tail, State.WarmedH.trans X.warmed hW', X.limits, X.bytes, X.same.trans (hsame.setVm s.vm)⟩,
      ⟨g, mk, s₂, L, rfl, rfl, hqc, rfl, hL, rfl, rfl⟩, ?_⟩
    show Steps p.tables e below _ ((({ U with heap := s₂.heap, slotsUsed := s₂.slotsUsed } : State).setVm s₂.vm).setTop { g with pc := g.pc + len₂, stack := v.toList ++ g.stack })
    rw [← hs₂]
    exact hsteps
  · obtain ⟨e2, q2, q3, q4, q5, q6⟩ := id hsm
    have e3 : s₂ = ({ (U.calling g mk a).setFrames s₂.frames with heap := s₂.heap, slotsUsed := s₂.slotsUsed } : State).setVm s₂.vm := by
      have : s₂ = ({ s₂ with vm := (U.calling g mk a).vm } : State).setVm s₂.vm := rfl
      rw [e2] at this
      exact this
    have hf₂ : s₂.frames = .throwing q :: .java g :: U.frames.tail := hend
    have hW' : U.WarmedH s₂.vm := hW₂
    have hs₂ : s₂ = ((({ U with heap := s₂.heap, slotsUsed := s₂.slotsUsed } : State).setVm s₂.vm).setTop g).pushFrame (.throwing q) := by
      refine e3.trans ?_
      rw [hf₂, State.calling_eq h.top, State.setFrames_setFrames, State.pushFrame, State.frames_setTop _ hr', State.setTop_of_frames _ hr', State.setFrames_setFrames, hr]
      rfl
    have hsame : U.sameButNew ({ U with heap := s₂.heap, slotsUsed := s₂.slotsUsed } : State) L mc ms := by
      refine ⟨?_, q2, q3, q4, q5, q6⟩
      obtain ⟨t, ht, -⟩ := State.frames_cons hr
      show ({ U with heap := s₂.heap, slotsUsed := s₂.slotsUsed } : State) = { U.setFrames U.frames with heap := s₂.heap, slotsUsed := s₂.slotsUsed }
      rw [State.setFrames_self ht]
    subst hg
    refine Or.inr ⟨q, ⟨(({ U with heap := s₂.heap, slotsUsed := s₂.slotsUsed } : State).setVm s₂.vm), Ls ++ L, c0 + mc, s0 + ms⟩,
      ⟨X.admits, X.cas, X.clock, X.frames, X.room, X.hears, X.method, X.code, (X.here.setHeapUsed s₂.heap s₂.slotsUsed).setVm hW'.alike, X.tail, State.WarmedH.trans X.warmed hW', X.limits, X.bytes, X.same.trans (hsame.setVm s.vm)⟩,
      ⟨g, mk, s₂, L, E, ce, rfl, rfl, hx, hce, hcv, hcl, rfl, hL, rfl, rfl⟩, ?_⟩
    show Steps p.tables e below _ (((({ U with heap := s₂.heap, slotsUsed := s₂.slotsUsed } : State).setVm s₂.vm).setTop g).pushFrame (.throwing q))
    rw [← hs₂]
    exact hsteps
end
variable {p : Program} {l : Launch} {e : Env} {R : Room} {s : State} {m : MethodId} {args : Array Value} {below : List Frame} {meth : Method} {c : Code} {T : State} {H : Heap} {locs : List Loc} {cells slots : Nat}
theorem vx_callVX (X : Stand p l e R s m args below meth c T locs cells slots) (hexec : p.tables.exec = Jvm.exec) {own C : String} {index : Nat} {y : MethodName} {bytes : ByteArray} {maxL : Nat} {ret : Option FieldType} {hh : List (Nat × Nat × Nat × Nat)}
    (hown : s.vm.findClass own = some m.cls) (hlink : (Cond.methodLink own index y).before args s = true) (hinst : (Cond.instanceMethod y).before args s = true) (hsel : (Cond.selects C y y).before args s = true)
    (hcode : (Cond.codeWith y bytes maxL ret hh).before args s = true) (hy : y.cls ≠ "java/lang/invoke/MethodHandle" ∧ y.cls ≠ "java/lang/invoke/VarHandle")
    {W9 : Nat} {Pre : Pt → Array Value → Prop} {Post : Pt → Array Value → Option Value → Pt → Prop} {PostX : Pt → Array Value → Addr → Pt → Prop} (hK : vx_Back l R p e below s args y 3 W9 Pre Post PostX)
    {b : Addr} {cellB : Cell} (hcell : T.heap[b]? = some cellB) (hobj : cellB.vm.isStatics = false) (hcls : s.vm.findClass C = some cellB.cls)
    {g : JFrame} (hg : g.method = m) (hsize : g.locals.size = c.maxLocals) {argsL rest : List Value} (hlen : ∀ sig, parseMethodDescriptor y.desc = some sig → argsL.length = sig.parameters.length)
    (hstack : g.stack = argsL.reverse ++ .ref b :: rest) (hW : 2 * g.monitorRoom + (rest.map fun v => v.category).sum ≤ W9) (hdg : decode c.code g.pc = .ok (.invokevirtual index, 3))
    (hpre : ∀ vm₁, s.WarmedH vm₁ → Pre ⟨T.setVm vm₁, locs, cells, slots⟩ (Value.ref b :: argsL).toArray) :
    (∃ (v : Option Value) (vm₁ : Vm) (B : Pt), s.WarmedH vm₁ ∧ Stand p l e R s m args below meth c B.U B.locs B.cells B.slots ∧ Post ⟨T.setVm vm₁, locs, cells, slots⟩ (Value.ref b :: argsL).toArray v B ∧
      ∀ target, Steps p.tables e below (B.U.setTop { g with pc := g.pc + 3, stack := v.toList ++ rest }) target → Steps p.tables e below (T.setTop g) target) ∨
    (∃ (q : Addr) (vm₁ : Vm) (B : Pt), s.WarmedH vm₁ ∧ Stand p l e R s m args below meth c B.U B.locs B.cells B.slots ∧ PostX ⟨T.setVm vm₁, locs, cells, slots⟩ (Value.ref b :: argsL).toArray q B ∧
      Steps p.tables e below (T.setTop g) ((B.U.setTop { g with stack := rest }).pushFrame (.throwing q))) := by
  obtain ⟨mk, methM, hnamed, hmethM, hstM, habM⟩ := Cond.instanceMethod_spec hinst
  obtain ⟨m8, methM', cM, hn8, hmethM', -, -, -, -, -, -, hsigM⟩ := Cond.codeWith_spec hcode
  cases Option.some.inj (hn8.symm.trans hnamed)
  cases hmethM.symm.trans hmethM'
  obtain ⟨c2, r2, m2, q1, q2, q3, q4, kP, hkP, hkPi⟩ := Cond.selects_spec hsel
  cases hcls.symm.trans q1
  cases (State.methodFound?_of_named hnamed hy).symm.trans q2
  cases hnamed.symm.trans q3
  have hselP : selectMethod e.platform s.vm cellB.cls mk = .method mk := by rw [Launch.admits_selectMethod X.admits]; exact q4
  obtain ⟨vm₁, X₁, hstep₁⟩ := X.invokevirtual hexec hown hlink hnamed hmethM hstM hkP hkPi hy (a := b) (cell := cellB) hcell
    (fun z h => by rw [h] at hobj; cases hobj) hselP hmethM habM hkP hkPi (g := g) hg (argsL := argsL) (rest := rest) (hlen _ hsigM) hstack hdg
  rcases hK m meth c ⟨T.setVm vm₁, locs, cells, slots⟩ { g with stack := rest } (.invokevirtual index) mk (Value.ref b :: argsL).toArray X₁ hg hsize hdg hW (X₁.named hnamed) (hpre vm₁ X₁.warmed) with ⟨v, B, X', hpost, hsteps⟩ | ⟨q, B, X', hpost, hsteps⟩
  · exact Or.inl ⟨v, vm₁, B, X₁.warmed, X', hpost, fun target h => hstep₁ _ fun acts => by rw [doInvoke_state]; exact hsteps.trans h⟩
  · exact Or.inr ⟨q, vm₁, B, X₁.warmed, X', hpost, hstep₁ _ fun acts => by rw [doInvoke_state]; exact hsteps⟩
theorem vx_callSX (X : Stand p l e R s m args below meth c T locs cells slots) (hexec : p.tables.exec = Jvm.exec) {own : String} {index : Nat} {y : MethodName} {bytes : ByteArray} {maxL : Nat} {ret : Option FieldType} {hh : List (Nat × Nat × Nat × Nat)}
    (hown : s.vm.findClass own = some m.cls) (hlink : (Cond.methodLink own index y).before args s = true) (hstat : (Cond.static y).before args s = true) (hinit : (Cond.initialized y.cls).before args s = true)
    (hcode : (Cond.codeWith y bytes maxL ret hh).before args s = true) (hy : y.cls ≠ "java/lang/invoke/MethodHandle" ∧ y.cls ≠ "java/lang/invoke/VarHandle")
    {W9 : Nat} {Pre : Pt → Array Value → Prop} {Post : Pt → Array Value → Option Value → Pt → Prop} {PostX : Pt → Array Value → Addr → Pt → Prop} (hK : vx_Back l R p e below s args y 3 W9 Pre Post PostX)
    {g : JFrame} (hg : g.method = m) (hsize : g.locals.size = c.maxLocals) {argsL rest : List Value} (hlen : ∀ sig, parseMethodDescriptor y.desc = some sig → argsL.length = sig.parameters.length)
    (hstack : g.stack = argsL.reverse ++ rest) (hW : 2 * g.monitorRoom + (rest.map fun v => v.category).sum ≤ W9) (hdg : decode c.code g.pc = .ok (.invokestatic index, 3))
    (hpre : ∀ vm₁, s.WarmedH vm₁ → Pre ⟨T.setVm vm₁, locs, cells, slots⟩ argsL.toArray) :
    (∃ (v : Option Value) (vm₁ : Vm) (B : Pt), s.WarmedH vm₁ ∧ Stand p l e R s m args below meth c B.U B.locs B.cells B.slots ∧ Post ⟨T.setVm vm₁, locs, cells, slots⟩ argsL.toArray v B ∧
      ∀ target, Steps p.tables e below (B.U.setTop { g with pc := g.pc + 3, stack := v.toList ++ rest }) target → Steps p.tables e below (T.setTop g) target) ∨
    (∃ (q : Addr) (vm₁ : Vm) (B : Pt), s.WarmedH vm₁ ∧ Stand p l e R s m args below meth c B.U B.locs B.cells B.slots ∧ PostX ⟨T.setVm vm₁, locs, cells, slots⟩ argsL.toArray q B ∧
      Steps p.tables e below (T.setTop g) ((B.U.setTop { g with stack := rest }).pushFrame (.throwing q))) := by
  obtain ⟨mk, methM, cM, hnamed, hmethM, -, -, -, -, -, -, hsigM⟩ := Cond.codeWith_spec hcode
  have hstatic : methM.isStatic = true := Cond.static_spec hnamed hmethM hstat
  obtain ⟨kP, hkP, -⟩ := className_of_methodNamed hnamed
  have hinitP : kP.init = .initialized := Cond.initialized_spec (findClass_of_methodNamed hnamed) hkP hinit
  obtain ⟨vm₁, X₁, hstep₁⟩ := X.invokestatic hexec hown hlink hnamed hmethM hstatic hkP hinitP hy (g := g) hg (argsL := argsL) (rest := rest) (hlen _ hsigM) hstack hdg
  rcases hK m meth c ⟨T.setVm vm₁, locs, cells, slots⟩ { g with stack := rest } (.invokestatic index) mk argsL.toArray X₁ hg hsize hdg hW (X₁.named hnamed) (hpre vm₁ X₁.warmed) with ⟨v, B, X', hpost, hsteps⟩ | ⟨q, B, X', hpost, hsteps⟩
  · exact Or.inl ⟨v, vm₁, B, X₁.warmed, X', hpost, fun target h => hstep₁ _ fun acts => by rw [doInvoke_state]; exact hsteps.trans h⟩
  · exact Or.inr ⟨q, vm₁, B, X₁.warmed, X', hpost, hstep₁ _ fun acts => by rw [doInvoke_state]; exact hsteps⟩
theorem vx_callVW (X : Stand p l e R s m args below meth c T locs cells slots) (hexec : p.tables.exec = Jvm.exec) {own C : String} {index : Nat} {y : MethodName} {bytes : ByteArray} {maxL : Nat} {ret : Option FieldType} {hh : List (Nat × Nat × Nat × Nat)}
    (hown : s.vm.findClass own = some m.cls) (hlink : (Cond.methodLink own index y).before args s = true) (hinst : (Cond.instanceMethod y).before args s = true) (hsel : (Cond.selects C y y).before args s = true)
    (hcode : (Cond.codeWith y bytes maxL ret hh).before args s = true) (hy : y.cls ≠ "java/lang/invoke/MethodHandle" ∧ y.cls ≠ "java/lang/invoke/VarHandle")
    {W9 : Nat} {Pre : Pt → Array Value → Prop} {Post : Pt → Array Value → Option Value → Pt → Prop} (hK : Back l R p e below s args y 3 W9 Pre Post)
    {b : Addr} {cellB : Cell} (hcell : T.heap[b]? = some cellB) (hobj : cellB.vm.isStatics = false) (hcls : s.vm.findClass C = some cellB.cls)
    {g : JFrame} (hg : g.method = m) (hsize : g.locals.size = c.maxLocals) {argsL rest : List Value} (hlen : ∀ sig, parseMethodDescriptor y.desc = some sig → argsL.length = sig.parameters.length)
    (hstack : g.stack = argsL.reverse ++ .ref b :: rest) (hW : 2 * g.monitorRoom + (rest.map fun v => v.category).sum ≤ W9) (hdg : decode c.code g.pc = .ok (.invokevirtual index, 3))
    (hpre : ∀ vm₁, s.WarmedH vm₁ → Pre ⟨T.setVm vm₁, locs, cells, slots⟩ (Value.ref b :: argsL).toArray) :
    ∃ (v : Option Value) (vm₁ : Vm) (B : Pt), s.WarmedH vm₁ ∧ Stand p l e R s m args below meth c B.U B.locs B.cells B.slots ∧ Post ⟨T.setVm vm₁, locs, cells, slots⟩ (Value.ref b :: argsL).toArray v B ∧
      ∀ target, Steps p.tables e below (B.U.setTop { g with pc := g.pc + 3, stack := v.toList ++ rest }) target → Steps p.tables e below (T.setTop g) target := by
  obtain ⟨mk, methM, hnamed, hmethM, hstM, habM⟩ := Cond.instanceMethod_spec hinst
  obtain ⟨m8, methM', cM, hn8, hmethM', -, -, -, -, -, -, hsigM⟩ := Cond.codeWith_spec hcode
  cases Option.some.inj (hn8.symm.trans hnamed)
  cases hmethM.symm.trans hmethM'
  obtain ⟨c2, r2, m2, q1, q2, q3, q4, kP, hkP, hkPi⟩ := Cond.selects_spec hsel
  cases hcls.symm.trans q1
  cases (State.methodFound?_of_named hnamed hy).symm.trans q2
  cases hnamed.symm.trans q3
  have hselP : selectMethod e.platform s.vm cellB.cls mk = .method mk := by rw [Launch.admits_selectMethod X.admits]; exact q4
  obtain ⟨vm₁, X₁, hstep₁⟩ := X.invokevirtual hexec hown hlink hnamed hmethM hstM hkP hkPi hy (a := b) (cell := cellB) hcell
    (fun z h => by rw [h] at hobj; cases hobj) hselP hmethM habM hkP hkPi (g := g) hg (argsL := argsL) (rest := rest) (hlen _ hsigM) hstack hdg
  obtain ⟨v, B, X', hpost, hsteps⟩ := hK m meth c ⟨T.setVm vm₁, locs, cells, slots⟩ { g with stack := rest } (.invokevirtual index) mk (Value.ref b :: argsL).toArray X₁ hg hsize hdg hW (X₁.named hnamed) (hpre vm₁ X₁.warmed)
  exact ⟨v, vm₁, B, X₁.warmed, X', hpost, fun target h => hstep₁ _ fun acts => by rw [doInvoke_state]; exact hsteps.trans h⟩
abbrev vx_CVW (R : Room) (s : State) (args : Array Value) (own C : String) (index : Nat) (y : MethodName) (bytes : ByteArray) (maxL : Nat) (ret : Option FieldType) (hh : List (Nat × Nat × Nat × Nat)) (ws : List Cond) (rm : Room) (mc ms n : Nat) : Prop :=
  (rm.cells = mc ∧ rm.slots = ms ∧ rm.frames + 1 ≤ R.frames ∧ 8 + (maxL + 11) + rm.locals ≤ R.locals ∧ (∀ w ∈ ws, ∀ (a' : Array Value) (U : State), s.WarmedH U.vm → w.before a' U = true) ∧ Cond.codeWith y bytes maxL ret hh ∈ ws) ∧
  (Cond.codeWith y bytes maxL ret hh).before args s = true ∧ (Cond.initialized y.cls).before args s = true ∧ (y.cls ≠ "java/lang/invoke/MethodHandle" ∧ y.cls ≠ "java/lang/invoke/VarHandle") ∧
  (∀ sig, parseMethodDescriptor y.desc = some sig → n = sig.parameters.length) ∧ (Cond.methodLink own index y).before args s = true ∧ (Cond.instanceMethod y).before args s = true ∧ (Cond.selects C y y).before args s = true
theorem vx_cwVW {own C : String} {index maxL mc ms : Nat} {y : MethodName} {bytes : ByteArray} {ret : Option FieldType} {hh : List (Nat × Nat × Nat × Nat)} {Ts ws ws' : List Cond} {rm : Room} (n : Nat) (ht : ∀ w ∈ Ts, w.before args s = true) (hT : GoodIn Ts (wsV own index C y ws)) (hw : ws = Cond.codeWith y bytes maxL ret hh :: ws') (hrc : rm.cells = mc) (hrs : rm.slots = ms)
    (hd : y.cls = C ∧ y.cls ≠ "java/lang/invoke/MethodHandle" ∧ y.cls ≠ "java/lang/invoke/VarHandle" ∧ (parseMethodDescriptor y.desc).map (fun d => d.parameters.length) = some n) (hR : rm.frames + 1 ≤ R.frames ∧ 8 + (maxL + 11) + rm.locals ≤ R.locals) :
    vx_CVW R s args own C index y bytes maxL ret hh ws rm mc ms n := by
  obtain ⟨hC, hd⟩ := hd
  subst hC
  have ok : ∀ w ∈ wsV own index y.cls y ws, w.before args s = true := fun w h => ht w (hT w h).1
  have hG : GoodIn Ts ws := fun w h => hT w (by unfold wsV; exact List.mem_append_right _ h)
  have hc : Cond.codeWith y bytes maxL ret hh ∈ ws := by rw [hw]; exact List.mem_cons_self
  refine ⟨⟨hrc, hrs, hR.1, hR.2, pay_in ht hG, hc⟩, ht _ (hG _ hc).1, ok _ (by simp [wsV]), ⟨hd.1, hd.2.1⟩, fun sig h => ?_, ok _ (by simp [wsV]), ok _ (by simp [wsV]), ok _ (by simp [wsV])⟩
  have h2 := hd.2.2
  rw [h] at h2
  exact (Option.some.inj h2).symm
theorem vx_runVW {y : MethodName} {bytes cc : ByteArray} {maxL nL mc ms n index : Nat} {ret : Option FieldType} {hh : List (Nat × Nat × Nat × Nat)} {ws : List Cond} {rm : Room} {Pc : Array Value → State → Prop} {Qc : Array Value → State → Outcome → State → Prop} {free : Addr → Prop} {Ts : List Cond} {own C : String} {b : Addr} {As rest : List Value} {g : JFrame}
    (S : CallFix p m c cc nL s args Ts own) (hM : Met l y ws rm Pc Qc mc ms free) (cw : vx_CVW R s args own C index y bytes maxL ret hh ws rm mc ms n) (hp : PreV s H C b Pc As)
    (hg : g.method = m) (hn : As.length = n) (hsize : g.locals.size = nL) (hstack : g.stack = As.reverse ++ .ref b :: rest) (hW : 2 * g.monitorRoom + (rest.map fun v => v.category).sum ≤ 8) (hdg : decode cc g.pc = .ok (.invokevirtual index, 3)) (hf : cells + mc ≤ R.cells ∧ slots + ms ≤ R.slots) :
    va_Run p l e R s m args below meth c H locs cells slots mc ms g rest (Qc (Value.ref b :: As).toArray) free := by
  obtain ⟨⟨hrc, hrs, hfr, hlo, hws, hcw⟩, hcode, hini, hy, hlen, hl, hin, hse⟩ := cw
  have hK : Back l R p e below s args y 3 8 (PreOf R mc ms Pc) (PostOf Qc mc ms free) := va_backW (hh := hh) (bytes := bytes) (maxL := maxL) (ret := ret) hM hp.1 hrc hrs hfr hlo hws hcw (fun a' U hW => word_at hW (Or.inl (by first | rfl | simp [Cond.onTables, Cond.keeps, Cond.steady])) hini)
  obtain ⟨hx, hb, hml, ho, -⟩ := S
  obtain ⟨-, ⟨cellB, hcB, hoB, hclB⟩, hPc⟩ := hp
  intro T hT X
  obtain ⟨v, vm₁, ⟨U', l2, c2, s2⟩, hW₁, X', ⟨g', mk, t, L, e1, e2, hq, h1, hL, h2, h3⟩, st⟩ := vx_callVW X hx (C := C) (hh := hh) (bytes := bytes) (maxL := maxL) (ret := ret) ho hl hin hse hcode hy hK (by rw [hT]; exact hcB) hoB hclB hg (hsize.trans hml.symm) (argsL := As) (rest := rest) (fun sig h => hn.trans (hlen sig h)) hstack hW (by rw [hb]; exact hdg)
    (fun vm₁ hW₁ => ⟨hf.1, hf.2, hPc (T.setVm vm₁) hT hW₁⟩)
  dsimp only [Pt.U, Pt.locs, Pt.cells, Pt.slots] at X' e1 e2 h1 h2 h3 st
  subst h1; subst h2; subst h3
  exact ⟨v, (T.setVm vm₁).calling g' mk (Value.ref b :: As).toArray, t, U', L, hT, X', hL, e1, e2, hq, st⟩
section
variable {y : MethodName} {bytes cc : ByteArray} {maxL nL mc ms n index : Nat} {ret : Option FieldType} {ws : List Cond} {rm : Room} {Pc : Array Value → State → Prop} {Qc : Array Value → State → Outcome → State → Prop} {XC : String → State → State → Prop} {free : Addr → Prop} {Ts : List Cond} {own C : String} {b : Addr} {As rest : List Value} {g : JFrame}
theorem vx_runVX {hh : List (Nat × Nat × Nat × Nat)} (S : CallFix p m c cc nL s args Ts own) (hM : vx_Met l y ws rm Pc Qc XC mc ms free) (cw : vx_CVW R s args own C index y bytes maxL ret hh ws rm mc ms n) (hp : PreV s H C b Pc As)
    (hg : g.method = m) (hn : As.length = n) (hsize : g.locals.size = nL) (hstack : g.stack = As.reverse ++ .ref b :: rest) (hW : 2 * g.monitorRoom + (rest.map fun v => v.category).sum ≤ 8) (hdg : decode cc g.pc = .ok (.invokevirtual index, 3)) (hf : cells + mc ≤ R.cells ∧ slots + ms ≤ R.slots) :
    vx_Run p l e R s m args below meth c H locs cells slots mc ms g rest (Qc (Value.ref b :: As).toArray) XC free := by
  obtain ⟨⟨hrc, hrs, hfr, hlo, hws, hcw⟩, hcode, hini, hy, hlen, hl, hin, hse⟩ := cw
  have hK : vx_Back l R p e below s args y 3 8 (PreOf R mc ms Pc) (PostOf Qc mc ms free) (vx_Post XC mc ms free) := vx_backW (hh := hh) (bytes := bytes) (maxL := maxL) (ret := ret) hM hp.1 hrc hrs hfr hlo hws hcw (fun a' U hW => word_at hW (Or.inl (by first | rfl | simp [Cond.onTables, Cond.keeps, Cond.steady])) hini)
  obtain ⟨hx, hb, hml, ho, -⟩ := S
  obtain ⟨-, ⟨cellB, hcB, hoB, hclB⟩, hPc⟩ := hp
  intro T hT X
  rcases vx_callVX X hx (C := C) (hh := hh) (bytes := bytes) (maxL := maxL) (ret := ret) ho hl hin hse hcode hy hK (by rw [hT]; exact hcB) hoB hclB hg (hsize.trans hml.symm) (argsL := As) (rest := rest) (fun sig h => hn.trans (hlen sig h)) hstack hW (by rw [hb]; exact hdg)
    (fun vm₁ hW₁ => ⟨hf.1, hf.2, hPc (T.setVm vm₁) hT hW₁⟩) with ⟨v, vm₁, ⟨U', l2, c2, s2⟩, hW₁, X', ⟨g', mk, t, L, e1, e2, hq, h1, hL, h2, h3⟩, st⟩ | ⟨q, vm₁, ⟨U', l2, c2, s2⟩, hW₁, X', ⟨g', mk, t, L, E, ce, e1, e2, hq, hce, hcv, hcl, h1, hL, h2, h3⟩, st⟩
  · dsimp only [Pt.U, Pt.locs, Pt.cells, Pt.slots] at X' e1 e2 h1 h2 h3 st
    subst h1; subst h2; subst h3
    exact Or.inl ⟨v, (T.setVm vm₁).calling g' mk (Value.ref b :: As).toArray, t, U', L, hT, X', hL, e1, e2, hq, st⟩
  · dsimp only [Pt.U, Pt.locs, Pt.cells, Pt.slots] at X' e1 e2 h1 h2 h3 st hcl
    subst h1; subst h2; subst h3
    exact Or.inr ⟨q, (T.setVm vm₁).calling g' mk (Value.ref b :: As).toArray, t, U', L, E, ce, hT, X', hL, e1, e2, hq, hce, hcv, vx_cls hW₁ hcl, st⟩
theorem vx_runSX {hh : List (Nat × Nat × Nat × Nat)} (S : CallFix p m c cc nL s args Ts own) (hM : vx_Met l y ws rm Pc Qc XC mc ms free) (cw : vx_CSW R s args own index y bytes maxL ret hh ws rm mc ms n) (hp : PreS s H Pc As)
    (hg : g.method = m) (hn : As.length = n) (hsize : g.locals.size = nL) (hstack : g.stack = As.reverse ++ rest) (hW : 2 * g.monitorRoom + (rest.map fun v => v.category).sum ≤ 8) (hdg : decode cc g.pc = .ok (.invokestatic index, 3)) (hf : cells + mc ≤ R.cells ∧ slots + ms ≤ R.slots) :
    vx_Run p l e R s m args below meth c H locs cells slots mc ms g rest (Qc As.toArray) XC free := by
  obtain ⟨⟨hrc, hrs, hfr, hlo, hws, hcw⟩, hcode, hini, hy, hlen, hl, hstt⟩ := cw
  have hK : vx_Back l R p e below s args y 3 8 (PreOf R mc ms Pc) (PostOf Qc mc ms free) (vx_Post XC mc ms free) := vx_backW (hh := hh) (bytes := bytes) (maxL := maxL) (ret := ret) hM hp.1 hrc hrs hfr hlo hws hcw (fun a' U hW => word_at hW (Or.inl (by first | rfl | simp [Cond.onTables, Cond.keeps, Cond.steady])) hini)
  obtain ⟨hx, hb, hml, ho, -⟩ := S
  intro T hT X
  rcases vx_callSX X hx (hh := hh) (bytes := bytes) (maxL := maxL) (ret := ret) ho hl hstt hini hcode hy hK hg (hsize.trans hml.symm) (argsL := As) (rest := rest) (fun sig h => hn.trans (hlen sig h)) hstack hW (by rw [hb]; exact hdg)
    (fun vm₁ hW₁ => ⟨hf.1, hf.2, hp.2 (T.setVm vm₁) hT hW₁⟩) with ⟨v, vm₁, ⟨U', l2, c2, s2⟩, hW₁, X', ⟨g', mk, t, L, e1, e2, hq, h1, hL, h2, h3⟩, st⟩ | ⟨q, vm₁, ⟨U', l2, c2, s2⟩, hW₁, X', ⟨g', mk, t, L, E, ce, e1, e2, hq, hce, hcv, hcl, h1, hL, h2, h3⟩, st⟩
  · dsimp only [Pt.U, Pt.locs, Pt.cells, Pt.slots] at X' e1 e2 h1 h2 h3 st
    subst h1; subst h2; subst h3
    exact Or.inl ⟨v, (T.setVm vm₁).calling g' mk As.toArray, t, U', L, hT, X', hL, e1, e2, hq, st⟩
  · dsimp only [Pt.U, Pt.locs, Pt.cells, Pt.slots] at X' e1 e2 h1 h2 h3 st hcl
    subst h1; subst h2; subst h3
    exact Or.inr ⟨q, (T.setVm vm₁).calling g' mk As.toArray, t, U', L, E, ce, hT, X', hL, e1, e2, hq, hce, hcv, vx_cls hW₁ hcl, st⟩
end
end VXH
theorem vx_ofWH {l : Launch} {y : MethodName} {ws ws' : List Cond} {rm : Room} {Pc : Array Value → State → Prop} {Qc : Array Value → State → Outcome → State → Prop} {XC : String → State → State → Prop} {mc ms : Nat} {free : Addr → Prop} {cc : ByteArray} {maxL : Nat} {ret : Option FieldType} {hh : List (Nat × Nat × Nat × Nat)}
    (hy : plainName y.cls = true) (hw : ws = Cond.codeWith y cc maxL ret hh :: ws')
    (body : ∀ p e s m args below meth c s₁, BodyLoose p l y (headSpec ws rm) cc maxL ret e s m args below meth c s₁ → c.maxLocals = maxL → Pc args s →
      W p l e (headSpec ws rm).room s m args below meth c s.heap [] 0 0 (vx_MQ below Qc XC args s mc ms free) (entryFrame m args maxL)) : vx_Met l y ws rm Pc Qc XC mc ms free := by
  refine MetFree.of_bodyS (code := cc) (maxLocals := maxL) (ret := ret) hy ?_ ?_
  · intro args s m h hn
    obtain ⟨m9, meth, c, hn9, h1, h2, h3, h4, -, h5, h6, -⟩ := Cond.codeWith_spec (atoms_spec (ws := ws) h _ (by rw [hw]; exact List.mem_cons_self))
    cases hn.symm.trans hn9
    exact ⟨meth, c, h1, h2, h3, h4, h5, h6⟩
  · intro p e s m args below meth c s₁ B hml hP _
    have hh0 : s₁.heap = s.heap := by rw [B.state]; rfl
    obtain ⟨t, a1, o, b1, b2, b3⟩ := body p e s m args below meth c s₁ B hml hP s₁ hh0 (Stand.of_body B)
    exact ⟨t, o, a1, b1, b2, b3⟩
/-! ===== END ===== -/

/-! ===== BEGIN what the machine throws by itself, no traces kept ===== -/
section VXM
set_option maxHeartbeats 1000000 in
/-- the machine throws cls with the message text, no traces kept: from its note over the frame g to 'throwing' over the same frame (follows the proofs of Stand.vmThrowsMessage, Shelf/KitTracedVmS.lean, and Stand.throwsMessageColdBareV, StandMessageColdV.lean, without the step out of the frame) -/
theorem vx_vmAt {p : Program} {l : Launch} {e : Env} {R : Room} {s : State} {m₀ : MethodId} {args : Array Value} {below : List Frame} {meth : Method} {c : Code} {W : State} {locs : List Loc} {cells slots : Nat}
    (X : Stand p l e R s m₀ args below meth c W locs cells slots) (hexec : p.tables.exec = Jvm.exec) (htr : e.platform.stackTraces = false) {cls : String} {names : List String} {text : String}
    (hcls : Bundle.fit cls = true) (hnames : ∀ n ∈ names, Bundle.fit n = true) (hsoe : (cls == "java/lang/StackOverflowError") = false) (hoom : (cls == "java/lang/OutOfMemoryError") = false)
    (h : ∀ a ∈ Bundle.messageArmAtoms cls names, a.before args s = true)
    (hlocs : ∀ x ∈ locs, ∀ cell, s.heap[x.base]? = some cell → cell.vm.isStatics = false)
    (htext : (text == notModelled) = false) (hlimit : ¬ (stringBytes (stringToUtf16 text)).size > e.platform.arrayLengthLimit) (hheap : ¬ (stringBytes (stringToUtf16 text)).size * componentBytes .byte > e.platform.maxHeapBytes)
    {g : JFrame} (hg : g.method = m₀) (hsize : g.locals.size = c.maxLocals)
    (hRframes : names.length + 4 < R.frames) (hRlocals : 2 * g.monitorRoom + (g.stack.map fun v => v.category).sum + 10240 ≤ R.locals) (hshort : 13 * names.length + 55 ≤ 10240)
    (hRcells : cells + 3 ≤ R.cells) (hRslots : slots + ((stringBytes (stringToUtf16 text)).size + 4 + 6) ≤ R.slots) (hlocks : meth.locks = false) :
    ∃ (S : State) (q : Addr) (ce : Cell), (∀ target, Steps p.tables e below ((S.setTop g).pushFrame (.throwing q)) target → Steps p.tables e below ((W.setTop g).pushFrame (.throwNew cls (some text) none)) target) ∧
      Stand p l e R s m₀ args below meth c S locs (cells + 3) (slots + ((stringBytes (stringToUtf16 text)).size + 4 + 6)) ∧ S.heap[q]? = some ce ∧ s.vm.findClass cls = some ce.cls ∧ ce.vm = .none := by
  have howns : e.platform.frameOwnsMonitors = true := by rw [X.admits.platform]
  have hfin : e.platform.finalization = false := by rw [X.admits.platform]
  have hpl : e.platform.magicAccessors = ({} : Platform).magicAccessors := by rw [X.admits.platform]
  have a : ∀ x, x ∈ Bundle.messageArmAtoms cls names → x.holds args s none s [] = true := fun x hx => h x hx
  obtain ⟨T, Z0, L, -, Y⟩ := ThrowableC.of_atoms (args := args) howns hfin hpl (fun x hx => h x (by simp [Bundle.messageArmAtoms, hx]))
  obtain ⟨Z, M, LZ, LM, hnZ⟩ := Init0T.ofS_atoms (args := args) hpl L Y (fun x hx => h x (by simp [Bundle.messageArmAtoms, hx]))
  obtain ⟨P1, Ps, hlen, L1, hL, hP1m, hlink1, hlink⟩ := Bundle.chainS (args := args) hpl hnZ names cls hcls hnames (fun x hx => h x (by simp [Bundle.messageArmAtoms, hx]))
  obtain ⟨Zs, LZs, hn4, hfitv, hfitc⟩ := StringT.of_atoms (args := args) (fun x hx => h x (by simp [Bundle.messageArmAtoms, hx]))
  have hfound : s.vm.findClass cls = some P1.m.cls := findClass_of_methodNamed hP1m
  obtain ⟨c1, kX, hc1, hk, hord, -, -, hn6⟩ := Cond.instantiable_spec (a (.instantiable cls 6) (by simp [Bundle.messageArmAtoms]))
  cases Option.some.inj (hc1.symm.trans hfound)
  have hinit := Cond.initialized_spec hfound hk (a (.initialized cls) (by simp [Bundle.messageArmAtoms]))
  have hctor : kX.findMethod "<init>" "(Ljava/lang/String;)V" = some P1.m.idx := findMethod_of_methodNamed hP1m hk
  have hsel0 : selectMethod e.platform s.vm P1.m.cls T.fill0 = .method T.fill0 := by
    obtain ⟨c2, r2, m2, q1, q2, q3, q4, -⟩ := Cond.selects_spec (a (.selects cls Bundle.tFill0 Bundle.tFill0) (by simp [Bundle.messageArmAtoms]))
    cases Option.some.inj (q1.symm.trans hfound)
    cases Option.some.inj (q2.symm.trans (State.methodFound?_of_named Y.fill0 (by decide)))
    cases Option.some.inj (q3.symm.trans Y.fill0)
    rw [Launch.admits_selectMethod X.admits]; exact q4
  have hselF : selectMethod e.platform s.vm P1.m.cls T.fill = .method T.fill := by
    obtain ⟨c2, r2, m2, q1, q2, q3, q4, -⟩ := Cond.selects_spec (a (.selects cls Bundle.tFill Bundle.tFill) (by simp [Bundle.messageArmAtoms]))
    cases Option.some.inj (q1.symm.trans hfound)
    cases Option.some.inj (q2.symm.trans (State.methodFound?_of_named Y.fill (by decide)))
    cases Option.some.inj (q3.symm.trans Y.fill)
    rw [Launch.admits_selectMethod X.admits]; exact q4
  obtain ⟨cellS0, hcS0, hiss⟩ := Y.statics
  obtain ⟨u0, hu0⟩ := Cond.staticRefV Y.unassigned L.unassignedStatic L.statics hcS0 hiss (a (.isRef (.static Bundle.tN "UNASSIGNED_STACK" Bundle.steD)) (by simp [Bundle.messageArmAtoms]))
  obtain ⟨sen, hsen⟩ := Cond.staticRefV Y.sentinel L.sentinelStatic L.statics hcS0 hiss (a (.isRef (.static Bundle.tN "SUPPRESSED_SENTINEL" Bundle.listD)) (by simp [Bundle.messageArmAtoms]))
  obtain ⟨ci198, i198, fB, hk198, hg198, ha198, hsB, -, hnB, htB, hffB⟩ := Cond.ownField (t := .object "java/lang/Object") Y.found L.cls (by decide +kernel) (a (.fieldLink Bundle.tN 198 Bundle.tN "backtrace" "Ljava/lang/Object;") (by simp [Bundle.messageArmAtoms])) (a (.lays Bundle.tN Bundle.tN "backtrace" "Ljava/lang/Object;") (by simp [Bundle.messageArmAtoms])) e.platform hpl
  obtain ⟨cellS, hcS', heS, -, hkeep⟩ := X.same.2.2.2.2.2 T.aS cellS0 hcS0
  have hcellS : W.heap[T.aS]? = some cellS := hcS'
  have hout' : ∀ i, (⟨T.aS, i⟩ : Loc) ∉ locs := fun i hmem => by
    have := hlocs _ hmem cellS0 hcS0
    rw [hiss] at this; cases this
  have hknownS : cellS.vm ≠ .unknown := by
    rw [heS]; intro hu
    rw [show cellS0.vm = .unknown from hu] at hiss
    cases hiss
  have hvU : cellS.slots[T.fUnassigned.slot]? = some u0.v := by rw [hkeep _ (hout' _)]; exact hu0
  have hvSen : cellS.slots[T.fSentinel.slot]? = some sen.v := by rw [hkeep _ (hout' _)]; exact hsen
  obtain ⟨iM, hffM⟩ := Y.msg
  obtain ⟨tyC, dC, hdC, hdnC⟩ := Cond.laysAt hfound hk Y.cause (a (.lays cls Bundle.tN "cause" "Ljava/lang/Throwable;") (by simp [Bundle.messageArmAtoms]))
  obtain ⟨tyS, dS, hdS, hdnS⟩ := Cond.laysAt hfound hk Y.stack (a (.lays cls Bundle.tN "stackTrace" Bundle.steD) (by simp [Bundle.messageArmAtoms]))
  obtain ⟨tyP, dP, hdP, hdnP⟩ := Cond.laysAt hfound hk Y.supp (a (.lays cls Bundle.tN "suppressedExceptions" Bundle.listD) (by simp [Bundle.messageArmAtoms]))
  obtain ⟨tyM, dM, hdM, hdnM⟩ := Cond.laysAt hfound hk hffM (a (.lays cls Bundle.tN "detailMessage" "Ljava/lang/String;") (by simp [Bundle.messageArmAtoms]))
  obtain ⟨tyB, dB, hdB, hdnB⟩ := Cond.laysAt hfound hk hffB (a (.lays cls Bundle.tN "backtrace" "Ljava/lang/Object;") (by simp [Bundle.messageArmAtoms]))
  have bC := Cond.laysApart hdB hdC hdnB hdnC (by rw [hnB, Y.causeName]; decide)
  have bS := Cond.laysApart hdB hdS hdnB hdnS (by rw [hnB, Y.stackName]; decide)
  have bP := Cond.laysApart hdB hdP hdnB hdnP (by rw [hnB, Y.suppName]; decide)
  have hbk : ((preparedCellV T.toThrowableT (freshCell P1.m.cls kX) (W.heap.size + 2) u0 sen).withEntry W.cur).slots[fB.slot]? = some .null := by
    have := fresh_default (c := P1.m.cls) tyB
    rw [htB] at this
    simpa [preparedCellV, Cell.setSlot, Cell.withEntry, Array.getElem?_setIfInBounds, bC, bS, bP, bC.symm, bS.symm, bP.symm, defaultValue] using this
  have tkC := Takes.of_laid (v := .ref (W.heap.size + 2)) hk hord tyC (by rw [Y.causeType]; rfl)
  have tkS := Takes.of_laid (v := u0.v) hk hord tyS (by rw [Y.stackType]; exact fits_refV_array _ u0)
  have tkP := Takes.of_laid (v := sen.v) hk hord tyP (by rw [Y.suppType]; exact fits_refV_object _ sen)
  have tkM := Takes.of_laid (v := .ref (W.heap.size + 1)) hk hord tyM (by rw [Y.msgType]; rfl)
  have hskip : SkipFacts T e.platform s (fun u => u) u0 ((preparedCellV T.toThrowableT (freshCell P1.m.cls kX) (W.heap.size + 2) u0 sen).withEntry W.cur) := ⟨{ ci198 := ci198, i198 := i198, fBack := fB }, ⟨hk198, hg198, ha198, hsB⟩, hbk, fun _ _ => rfl⟩
  have h0 : At W g.method c below := by rw [hg]; exact X.here
  obtain ⟨hbeyond, hfreeW⟩ := X.vmMayThrow hsize (.throwNew cls (some text) none) (fun f hf => by cases hf) rfl hRlocals
  have hfr' : W.frames.length + Ps.length + 4 < (e.platform.stackLimits W.me).1 := by have := X.framesAbove hRframes; omega
  have hwd' : (stackUse (.java g :: W.frames.tail)).2 + 13 * Ps.length + 55 ≤ (e.platform.stackLimits W.me).2 := by have := X.stackAbove hsize (K := 13 * Ps.length + 55) (by omega); omega
  have hslots : W.slotsUsed + (stringBytes (stringToUtf16 text)).size + Zs.kS.instanceTypes.size + kX.instanceTypes.size ≤ e.platform.maxSlots := by
    have := X.slotsAbove hRslots
    rw [hn4, hn6]
    omega
  obtain ⟨vm', hW', st⟩ := Steps.vmThrowsMessageColdByV p (s₀ := s) (S := W) (g := g) h0 hexec T L Z LZ M LM X.warmed (t := W.cur) rfl Zs LZs P1 L1 Ps hL hlink1 hlink hsoe hoom hfound hk hinit hord hctor
    (Launch.admits_hotImplicitExceptions X.admits) hbeyond hfreeW htext hlimit hheap (X.cellsAbove hRcells) hslots (hfitv _) (hfitc _)
    (Nn := fun u => u) heapOnly_id (fun _ _ => rfl) (fun _ => rfl) (fun u x y => setCell_twice _ _ _ _) (fun _ => Nat.le_refl _) (cN := ((preparedCellV T.toThrowableT (freshCell P1.m.cls kX) (W.heap.size + 2) u0 sen).withEntry W.cur))
    hsel0 hcellS hknownS hvU tkS (fun _ hu => hu) (fun _ hu => hu) rfl rfl rfl (by simp [preparedCellV, Cell.setSlot, Cell.withEntry]) hskip (fun _ _ hA hW _ hroom _ hrest => L.nativeOff p htr hA hW hroom hrest) hselF hvSen tkC tkP tkM Y.objLocals rfl hfr' hwd'
  rw [plainBareV_eq T.toThrowableT (W.heap.size + 2) u0 sen (.ref (W.heap.size + 1)) W.cur rfl rfl] at st
  obtain ⟨-, -, w3, w4, -, -, -⟩ := withThrown_facts e.platform W Zs text P1.m.cls kX
  have X3 := ((X.pushed (bytesOf Zs.cB (stringToUtf16 text))).pushed (stringAt Zs.cS Zs.kS Zs.fv Zs.fc (stringToUtf16 text) W.heap.size)).pushed (freshCell P1.m.cls kX)
  rw [← withString_eq] at X3
  have X4 := X3.noted hW'
  have ha : (W.heap.size + 2) < ((withThrown W Zs text P1.m.cls kX).setVm vm').heap.size := by show _ < (withThrown W Zs text P1.m.cls kX).heap.size; rw [w3]; omega
  have hcell : ((withThrown W Zs text P1.m.cls kX).setVm vm').heap[(W.heap.size + 2)]? = some (freshCell P1.m.cls kX) := w4
  have X5 := ((((X4.stored hcell T.fCause.slot (.ref (W.heap.size + 2))).storedAgain ha T.fStack.slot u0.v).storedAgain ha T.fSupp.slot sen.v).storedAgain ha T.fStack.slot u0.v).storedAgain ha T.fMsg.slot (.ref (W.heap.size + 1))
  obtain ⟨g₁, hfrM⟩ := X5.frames_eq
  have hU : ((((withThrown W Zs text P1.m.cls kX).setVm vm').setCell (W.heap.size + 2) (plainBareV T.toThrowableT (freshCell P1.m.cls kX) (W.heap.size + 2) u0 sen (.ref (W.heap.size + 1)))).setTop g).pushFrame (.throwing (W.heap.size + 2)) = (((withThrown W Zs text P1.m.cls kX).setVm vm').setCell (W.heap.size + 2) (plainBareV T.toThrowableT (freshCell P1.m.cls kX) (W.heap.size + 2) u0 sen (.ref (W.heap.size + 1)))).setFrames (.throwing (W.heap.size + 2) :: .java g :: below) := by
    rw [State.pushFrame, State.frames_setTop _ hfrM, State.setTop_of_frames _ hfrM, State.setFrames_setFrames]
  have b1 : (bytesOf Zs.cB (stringToUtf16 text)).slots.size = (stringBytes (stringToUtf16 text)).size := by
    rw [(Cell.writeAll_facts _ _).2.2]; simp [bytes0]
  have b2 : (stringAt Zs.cS Zs.kS Zs.fv Zs.fc (stringToUtf16 text) W.heap.size).slots.size = 4 := by simp [string0, Cell.setSlot, hn4]
  have b3 : (freshCell P1.m.cls kX).slots.size = 6 := by simp [hn6]
  rw [b1, b2, b3] at X5
  have e9 : slots + (stringBytes (stringToUtf16 text)).size + 4 + 6 = slots + ((stringBytes (stringToUtf16 text)).size + 4 + 6) := by omega
  rw [e9] at X5
  simp only [List.append_assoc, List.cons_append, List.nil_append] at X5
  refine ⟨((withThrown W Zs text P1.m.cls kX).setVm vm').setCell (W.heap.size + 2) (plainBareV T.toThrowableT (freshCell P1.m.cls kX) (W.heap.size + 2) u0 sen (.ref (W.heap.size + 1))), W.heap.size + 2, _, fun target ht => st _ (by rw [X.tail, ← hU]; exact ht),
    X5.forget (fun y hy => ?_), heapAt_setCell_self _ ha, hfound, rfl⟩
  simp only [List.mem_cons, List.not_mem_nil, or_false] at hy
  have hge : s.heap.size ≤ W.heap.size := X.same.2.1
  rcases hy with rfl | rfl | rfl | rfl | rfl <;> exact Nat.le_trans hge (Nat.le_add_right _ 2)
set_option maxHeartbeats 1000000 in
/-- the machine throws NullPointerException, no traces kept: from its note over the frame g to 'throwing' over the same frame (follows the proof of Stand.vmThrowsNpe, Shelf42/KT2.lean; throwsNpeColdBareVAt, Shelf42/NT91.lean, called) -/
theorem vx_npeAt {p : Program} {l : Launch} {e : Env} {R : Room} {s : State} {m₀ : MethodId} {args : Array Value} {below : List Frame} {meth : Method} {c : Code} {W : State} {locs : List Loc} {cells slots : Nat}
    (X : Stand p l e R s m₀ args below meth c W locs cells slots) (hexec : p.tables.exec = Jvm.exec) (htr : e.platform.stackTraces = false) {n : Nat}
    (h : ∀ a ∈ Bundle.npeArmAtoms n, a.before args s = true)
    (hlocs : ∀ x ∈ locs, ∀ cell, s.heap[x.base]? = some cell → cell.vm.isStatics = false)
    {g : JFrame} (hg : g.method = m₀) (hsize : g.locals.size = c.maxLocals)
    (hRframes : 7 < R.frames) (hRlocals : 2 * g.monitorRoom + (g.stack.map fun v => v.category).sum + 10240 ≤ R.locals)
    (hRcells : cells + 1 ≤ R.cells) (hRslots : slots + n ≤ R.slots) (hlocks : meth.locks = false) :
    ∃ (S : State) (q : Addr) (ce : Cell), (∀ target, Steps p.tables e below ((S.setTop g).pushFrame (.throwing q)) target → Steps p.tables e below ((W.setTop g).pushFrame (.throwNew "java/lang/NullPointerException" none none)) target) ∧
      Stand p l e R s m₀ args below meth c S locs (cells + 1) (slots + n) ∧ S.heap[q]? = some ce ∧ s.vm.findClass "java/lang/NullPointerException" = some ce.cls ∧ ce.vm = .none := by
  have howns : e.platform.frameOwnsMonitors = true := by rw [X.admits.platform]
  have hfin : e.platform.finalization = false := by rw [X.admits.platform]
  have hpl : e.platform.magicAccessors = ({} : Platform).magicAccessors := by rw [X.admits.platform]
  have hpl2 : e.platform.arrayCloneIsPublic = true := by rw [X.admits.platform]
  have a' : ∀ x, x ∈ Bundle.npeArmAtoms n → x.holds args s none s [] = true := fun x hx => h x hx
  obtain ⟨T, Z, L, LZ, Y⟩ := ThrowableC.of_atoms (args := args) howns hfin hpl (fun x hx => h x (by simp [Bundle.npeArmAtoms, hx]))
  obtain ⟨N, LN, hcN, hnNF, hordN, hffS⟩ := NpeC.of_atoms (args := args) hpl hpl2 L Y (fun x hx => h x (by simp [Bundle.npeArmAtoms, hx]))
  obtain ⟨P1, L1, hP1m, hP1s⟩ := PassC.of_atoms (args := args) (s := s) hpl (X := Bundle.nN) (Y := Bundle.rN) (by decide) (by decide) LibCode.NullPointerException.Init0.at_0 LibCode.NullPointerException.Init0.at_1 LibCode.NullPointerException.Init0.at_4 (fun x hx => h x (by simp [Bundle.npeArmAtoms, hx]))
  obtain ⟨PR, LR, hPRm, hPRs⟩ := PassC.of_atoms (args := args) (s := s) hpl (X := Bundle.rN) (Y := Bundle.eN) (by decide) (by decide) LibCode.RuntimeException.Init0.at_0 LibCode.RuntimeException.Init0.at_1 LibCode.RuntimeException.Init0.at_4 (fun x hx => h x (by simp [Bundle.npeArmAtoms, hx]))
  obtain ⟨PE, LEx, hPEm, hPEs⟩ := PassC.of_atoms (args := args) (s := s) hpl (X := Bundle.eN) (Y := Bundle.tN) (by decide) (by decide) LibCode.Exception.Init0.at_0 LibCode.Exception.Init0.at_1 LibCode.Exception.Init0.at_4 (fun x hx => h x (by simp [Bundle.npeArmAtoms, hx]))
  have hfound : s.vm.findClass Bundle.nN = some P1.m.cls := findClass_of_methodNamed hP1m
  have ecls : N.cN = P1.m.cls := Option.some.inj (hcN.symm.trans hfound)
  have hk : s.vm.classes[P1.m.cls]? = some N.kN := by rw [← ecls]; exact LN.cls
  have hinit := Cond.initialized_spec hfound hk (a' (.initialized Bundle.nN) (by simp [Bundle.npeArmAtoms]))
  have hctor : N.kN.findMethod "<init>" "()V" = some P1.m.idx := findMethod_of_methodNamed hP1m hk
  obtain ⟨c1, k1, hc1, hk1, -, -, -, hn⟩ := Cond.instantiable_spec (a' (.instantiable Bundle.nN n) (by simp [Bundle.npeArmAtoms]))
  cases Option.some.inj (hc1.symm.trans hfound)
  cases Option.some.inj (hk1.symm.trans hk)
  have hfsz : (freshCell P1.m.cls N.kN).slots.size = n := by simp [hn]
  have hlink1 : P1.sup = PR.m := Option.some.inj (hP1s.symm.trans hPRm)
  have hlinkR : PR.sup = PE.m := Option.some.inj (hPRs.symm.trans hPEm)
  have hlinkE : PE.sup = Z.m T.toThrowableT := Option.some.inj (hPEs.symm.trans Y.init0)
  have hLs : ∀ P, P ∈ [PR, PE] → P.Links0 e.platform s := fun P hP => by
    simp only [List.mem_cons, List.not_mem_nil, or_false] at hP
    rcases hP with rfl | rfl
    · exact LR
    · exact LEx
  have hsel0 : selectMethod e.platform s.vm P1.m.cls T.fill0 = .method T.fill0 := by
    obtain ⟨c2, r2, m2, q1, q2, q3, q4, -⟩ := Cond.selects_spec (a' (.selects Bundle.nN Bundle.tFill0 Bundle.tFill0) (by simp [Bundle.npeArmAtoms]))
    cases Option.some.inj (q1.symm.trans hfound)
    cases Option.some.inj (q2.symm.trans (State.methodFound?_of_named Y.fill0 (by decide)))
    cases Option.some.inj (q3.symm.trans Y.fill0)
    rw [Launch.admits_selectMethod X.admits]; exact q4
  have hselF : selectMethod e.platform s.vm P1.m.cls T.fill = .method N.fill := by
    obtain ⟨c2, r2, m2, q1, q2, q3, q4, -⟩ := Cond.selects_spec (a' (.selects Bundle.nN Bundle.tFill Bundle.nFill) (by simp [Bundle.npeArmAtoms]))
    cases Option.some.inj (q1.symm.trans hfound)
    cases Option.some.inj (q2.symm.trans (State.methodFound?_of_named Y.fill (by decide)))
    cases Option.some.inj (q3.symm.trans hnNF)
    rw [Launch.admits_selectMethod X.admits]; exact q4
  obtain ⟨cellS0, hcS0, hiss⟩ := Y.statics
  obtain ⟨u0, hu0⟩ := Cond.staticRefV Y.unassigned L.unassignedStatic L.statics hcS0 hiss (a' (.isRef (.static Bundle.tN "UNASSIGNED_STACK" Bundle.steD)) (by simp [Bundle.npeArmAtoms]))
  obtain ⟨sen, hsen⟩ := Cond.staticRefV Y.sentinel L.sentinelStatic L.statics hcS0 hiss (a' (.isRef (.static Bundle.tN "SUPPRESSED_SENTINEL" Bundle.listD)) (by simp [Bundle.npeArmAtoms]))
  obtain ⟨ci198, i198, fB, hk198, hg198, ha198, hsB, -, hnB, htB, hffB⟩ := Cond.ownField (t := .object "java/lang/Object") Y.found L.cls (by decide +kernel) (a' (.fieldLink Bundle.tN 198 Bundle.tN "backtrace" Bundle.objD) (by simp [Bundle.npeArmAtoms])) (a' (.lays Bundle.tN Bundle.tN "backtrace" Bundle.objD) (by simp [Bundle.npeArmAtoms])) e.platform hpl
  obtain ⟨cellS, hcS', heS, -, hkeep⟩ := X.same.2.2.2.2.2 T.aS cellS0 hcS0
  have hcellS : W.heap[T.aS]? = some cellS := hcS'
  have hout' : ∀ i, (⟨T.aS, i⟩ : Loc) ∉ locs := fun i hmem => by
    have := hlocs _ hmem cellS0 hcS0
    rw [hiss] at this; cases this
  have hknownS : cellS.vm ≠ .unknown := by
    rw [heS]; intro hu
    rw [show cellS0.vm = .unknown from hu] at hiss
    cases hiss
  have hvU : cellS.slots[T.fUnassigned.slot]? = some u0.v := by rw [hkeep _ (hout' _)]; exact hu0
  have hvSen : cellS.slots[T.fSentinel.slot]? = some sen.v := by rw [hkeep _ (hout' _)]; exact hsen
  obtain ⟨tyC, dC, hdC, hdnC⟩ := Cond.laysAt hfound hk Y.cause (a' (.lays Bundle.nN Bundle.tN "cause" "Ljava/lang/Throwable;") (by simp [Bundle.npeArmAtoms]))
  obtain ⟨tyS, dS, hdS, hdnS⟩ := Cond.laysAt hfound hk Y.stack (a' (.lays Bundle.nN Bundle.tN "stackTrace" Bundle.steD) (by simp [Bundle.npeArmAtoms]))
  obtain ⟨tyP, dP, hdP, hdnP⟩ := Cond.laysAt hfound hk Y.supp (a' (.lays Bundle.nN Bundle.tN "suppressedExceptions" Bundle.listD) (by simp [Bundle.npeArmAtoms]))
  obtain ⟨tyX, dX, hdX, hdnX⟩ := Cond.laysAt hfound hk hffS (a' (.lays Bundle.nN Bundle.nN "extendedMessageState" "I") (by simp [Bundle.npeArmAtoms, Bundle.npeAtoms]))
  obtain ⟨hnX, htX⟩ := State.fieldFound?_type hffS (t := .int) (by decide +kernel)
  have xC := Cond.laysApart hdC hdX hdnC hdnX (by rw [hnX, Y.causeName]; decide)
  have xS := Cond.laysApart hdS hdX hdnS hdnX (by rw [hnX, Y.stackName]; decide)
  have xP := Cond.laysApart hdP hdX hdnP hdnX (by rw [hnX, Y.suppName]; decide)
  have hv0 : (freshCell P1.m.cls N.kN).slots[N.fState.slot]? = some (.int 0) := by
    have := fresh_default (c := P1.m.cls) tyX
    rw [htX] at this; exact this
  obtain ⟨tyB, dB, hdB, hdnB⟩ := Cond.laysAt hfound hk hffB (a' (.lays Bundle.nN Bundle.tN "backtrace" Bundle.objD) (by simp [Bundle.npeArmAtoms]))
  have bC := Cond.laysApart hdB hdC hdnB hdnC (by rw [hnB, Y.causeName]; decide)
  have bS := Cond.laysApart hdB hdS hdnB hdnS (by rw [hnB, Y.stackName]; decide)
  have bP := Cond.laysApart hdB hdP hdnB hdnP (by rw [hnB, Y.suppName]; decide)
  have bX := Cond.laysApart hdB hdX hdnB hdnX (by rw [hnB, hnX]; decide)
  have hbk : ((npeCell N.toNpeT (preparedCellV T.toThrowableT (freshCell P1.m.cls N.kN) W.heap.size u0 sen) W.cur).withEntry W.cur).slots[fB.slot]? = some .null := by
    have := fresh_default (c := P1.m.cls) tyB
    rw [htB] at this
    simpa [npeCell, preparedCellV, Cell.setSlot, Cell.withEntry, Array.getElem?_setIfInBounds, bC, bS, bP, bX, bC.symm, bS.symm, bP.symm, bX.symm, defaultValue] using this
  have tkC := Takes.of_laid (v := .ref W.heap.size) hk hordN tyC (by rw [Y.causeType]; rfl)
  have tkS := Takes.of_laid (v := u0.v) hk hordN tyS (by rw [Y.stackType]; exact fits_refV_array _ u0)
  have tkP := Takes.of_laid (v := sen.v) hk hordN tyP (by rw [Y.suppType]; exact fits_refV_object _ sen)
  have tkX := Takes.of_laid (v := .int 1) hk hordN tyX (by rw [htX]; rfl)
  have hskip : SkipFacts T e.platform s (fun u => u) u0 ((npeCell N.toNpeT (preparedCellV T.toThrowableT (freshCell P1.m.cls N.kN) W.heap.size u0 sen) W.cur).withEntry W.cur) := ⟨{ ci198 := ci198, i198 := i198, fBack := fB }, ⟨hk198, hg198, ha198, hsB⟩, hbk, fun _ _ => rfl⟩
  obtain ⟨vm', X3, st, -⟩ := X.throwsNpeColdBareVAt hexec hg hsize T L Z LZ N LN P1 L1 [PR, PE] hLs hlink1 ⟨hlinkR, hlinkE, trivial⟩ hfound hk hinit hordN hctor hsel0 hselF hcellS hknownS hvU hvSen
    hv0 xC xS xP tkC tkS tkP tkX Y.objLocals hskip (fun _ _ hA hW _ hroom _ hrest => L.nativeOff p htr hA hW hroom hrest) (by simpa using hRframes) hRlocals (by simp) hRcells (by rw [hn]; exact hRslots)
  have hlt : W.heap.size < ((W.pushCell (freshCell P1.m.cls N.kN)).setVm vm').heap.size := by
    show W.heap.size < (W.pushCell (freshCell P1.m.cls N.kN)).heap.size
    rw [State.heap_size_pushCell]; omega
  rw [hfsz] at X3
  obtain ⟨g₁, hfrM⟩ := X3.frames_eq
  have hU : ((((W.pushCell (freshCell P1.m.cls N.kN)).setVm vm').setCell W.heap.size (npeBareV T.toThrowableT N.toNpeT (freshCell P1.m.cls N.kN) W.heap.size u0 sen)).setTop g).pushFrame (.throwing W.heap.size) = (((W.pushCell (freshCell P1.m.cls N.kN)).setVm vm').setCell W.heap.size (npeBareV T.toThrowableT N.toNpeT (freshCell P1.m.cls N.kN) W.heap.size u0 sen)).setFrames (.throwing W.heap.size :: .java g :: below) := by
    rw [State.pushFrame, State.frames_setTop _ hfrM, State.setTop_of_frames _ hfrM, State.setFrames_setFrames]
  refine ⟨_, W.heap.size, _, fun target ht => st.trans (by rw [← hU]; exact ht), X3.forget (fun y hy => ?_), heapAt_setCell_self _ hlt, hfound, rfl⟩
  simp only [List.mem_cons, List.not_mem_nil, or_false] at hy
  have hge : s.heap.size ≤ W.heap.size := X.same.2.1
  rcases hy with rfl | rfl | rfl | rfl | rfl <;> exact hge
/-- the words of a machine's NullPointerException, but the four that speak of the heap -/
def vx_atN (n : Nat) : List Cond := (Bundle.npeArmAtoms n).filter vx_no
/-- the words of a machine's throw with a message, but the four that speak of the heap -/
def vx_atM (X : String) (names : List String) : List Cond := (Bundle.messageArmAtoms X names).filter vx_no
section
variable {p : Program} {l : Launch} {e : Env} {R : Room} {s : State} {m : MethodId} {args : Array Value} {below : List Frame} {meth : Method} {c : Code} {H : Heap} {locs : List Loc} {cells slots : Nat}
/-- a frame seen from a rebased start, seen from the first start again -/
theorem vx_back9 {T S : State} {R' : Room} {k n : Nat} (X : Stand p l e R s m args below meth c T locs cells slots) (Y : Stand p l e R' ((T.setVm s.vm).setFrames (.invoking m args :: below)) m args below meth c T [] 0 0) (Z : Stand p l e R' ((T.setVm s.vm).setFrames (.invoking m args :: below)) m args below meth c S [] k n) :
    Stand p l e R s m args below meth c S locs (cells + k) (slots + n) := by
  have hW0 : s.WarmedH ((T.setVm s.vm).setFrames (.invoking m args :: below)).vm := State.WarmedH.refl s
  refine { admits := X.admits, cas := X.cas, clock := X.clock, frames := X.frames, room := X.room, hears := X.hears, method := X.method, code := X.code, here := Z.here, tail := Z.tail, warmed := State.WarmedH.trans hW0 Z.warmed, limits := Z.limits.trans (Y.limits.symm.trans X.limits), bytes := Z.bytes.trans (Y.bytes.symm.trans X.bytes), same := ?_ }
  obtain ⟨e1, e2⟩ := Z.same
  rw [State.setFrames_setFrames] at e1
  have h2 : (T.setVm s.vm).sameButNew (S.setVm s.vm) [] k n := ⟨e1, e2⟩
  have h3 := X.same.trans h2
  rw [List.append_nil] at h3
  exact h3
/-- from the machine's note that E is thrown here with this text -/
def vx_Note (p : Program) (l : Launch) (e : Env) (R : Room) (s : State) (m : MethodId) (args : Array Value) (below : List Frame) (meth : Method) (c : Code) (H : Heap) (locs : List Loc) (cells slots : Nat) (Q : State → Prop) (g : JFrame) (E text : String) : Prop :=
  ∀ T : State, T.heap = H → Stand p l e R s m args below meth c T locs cells slots → ∃ t, Steps p.tables e below ((T.setTop g).pushFrame (.throwNew E (some text) none)) t ∧ Q t
theorem vx_vm {pc : Nat} {ls : Array Slot} {rest : List Value} {Q : State → Prop} (hexec : p.tables.exec = Jvm.exec) (hl : l.stackTraces = false) {cls text : String} {names : List String} {nb : Nat} {A : Nat → Prop}
    (hcls : Bundle.fit cls = true) (hnames : ∀ n ∈ names, Bundle.fit n = true) (hsoe : (cls == "java/lang/StackOverflowError") = false) (hoom : (cls == "java/lang/OutOfMemoryError") = false)
    (hat : ∀ w ∈ vx_atM cls names, w.before args s = true) (hgood : ∀ w ∈ vx_atM cls names, vx_ot w = true)
    (hU : vx_Zq Bundle.tN "UNASSIGNED_STACK" Bundle.steD A s s.heap) (hN : vx_Zq Bundle.tN "SUPPRESSED_SENTINEL" Bundle.listD A s s.heap) (hS : va_S A s.heap H locs) (hsize : ls.size = c.maxLocals)
    (htext : (text == notModelled) = false) (hnb : (stringBytes (stringToUtf16 text)).size ≤ nb) (hnb1 : nb ≤ 1000)
    (hRframes : names.length + 4 < R.frames) (hRlocals : (rest.map fun v => v.category).sum + 10240 ≤ R.locals) (hshort : 13 * names.length + 55 ≤ 10240) (hRcells : cells + 3 ≤ R.cells) (hRslots : slots + (nb + 10) ≤ R.slots) (hlocks : meth.locks = false)
    (k : ∀ (H1 : Heap) (q9 : Addr) (ce : Cell), H.size ≤ H1.size → (∀ q : Nat, q < H.size → H1[q]? = H[q]?) → va_S A s.heap H1 locs → H1[q9]? = some ce → ce.vm = .none → s.vm.findClass cls = some ce.cls → vx_W p l e R s m args below meth c H1 locs (cells + 3) (slots + (nb + 10)) Q (F0 m pc ls rest) q9) :
    vx_Note p l e R s m args below meth c H locs cells slots Q (F0 m pc ls rest) cls text := by
  intro T hT X
  have htr : e.platform.stackTraces = false := (show e.platform.stackTraces = l.stackTraces by rw [X.admits.platform]).trans hl
  have Y := vx_rebase X (R' := { frames := R.frames, locals := R.locals, cells := 3, slots := nb + 10 }) (Nat.le_refl _) (Nat.le_refl _) hRcells hRslots
  have hhp : ((T.setVm s.vm).setFrames (.invoking m args :: below)).heap = H := hT
  have hW0 : s.WarmedH ((T.setVm s.vm).setFrames (.invoking m args :: below)).vm := State.WarmedH.refl s
  have hat' : ∀ w ∈ vx_atM cls names, w.before args ((T.setVm s.vm).setFrames (.invoking m args :: below)) = true := fun w hw => vx_ot_at hW0 rfl (hgood w hw) (hat w hw)
  have hU' : vx_Zq Bundle.tN "UNASSIGNED_STACK" Bundle.steD A ((T.setVm s.vm).setFrames (.invoking m args :: below)) ((T.setVm s.vm).setFrames (.invoking m args :: below)).heap := by rw [hhp]; exact vx_Zq.moved hW0.alike (hU.kept hS.2.1)
  have hN' : vx_Zq Bundle.tN "SUPPRESSED_SENTINEL" Bundle.listD A ((T.setVm s.vm).setFrames (.invoking m args :: below)) ((T.setVm s.vm).setFrames (.invoking m args :: below)).heap := by rw [hhp]; exact vx_Zq.moved hW0.alike (hN.kept hS.2.1)
  obtain ⟨S, q, ce, st, Z, hce, hcl', hv⟩ := vx_vmAt Y hexec htr (cls := cls) (names := names) (text := text) hcls hnames hsoe hoom (vx_own hat' (vx_isRefq hU'.1) (vx_isRefq hN'.1) hU'.2.word hN'.2.word) (fun x hx => nomatch hx) htext
    (by rw [Launch.admits_arrayLengthLimit X.admits]; omega) (by rw [Launch.admits_maxHeapBytes X.admits]; simp only [componentBytes]; omega)
    (g := F0 m pc ls rest) rfl hsize hRframes (by show 2 * 0 + (rest.map fun v => v.category).sum + 10240 ≤ R.locals; omega) hshort (by show 0 + 3 ≤ 3; omega) (by show 0 + (_ + 4 + 6) ≤ nb + 10; omega) hlocks
  obtain ⟨f1, f2⟩ := vx_frame Z.same
  have f1' : H.size ≤ S.heap.size := by rw [← hT]; exact f1
  have f2' : ∀ q : Nat, q < H.size → S.heap[q]? = H[q]? := fun q hq => by
    rw [← hT]
    exact f2 q (by rw [← hT] at hq; exact hq) (fun z hz => nomatch hz)
  have X5 := vx_back9 X Y Z
  have X6 : Stand p l e R s m args below meth c S locs (cells + 3) (slots + (nb + 10)) := { X5 with same := X5.same.mono (by omega) (by omega) }
  obtain ⟨t, a1, b1⟩ := k S.heap q ce f1' f2' ⟨Nat.le_trans hS.1 f1', fun q h1 h2 => (f2' q (Nat.lt_of_lt_of_le h1 hS.1)).trans (hS.2.1 q h1 h2), hS.2.2⟩ hce hv hcl' S rfl X6
  exact ⟨t, st t a1, b1⟩
/-- from the machine's note that NullPointerException is thrown here -/
def vx_NoteN (p : Program) (l : Launch) (e : Env) (R : Room) (s : State) (m : MethodId) (args : Array Value) (below : List Frame) (meth : Method) (c : Code) (H : Heap) (locs : List Loc) (cells slots : Nat) (Q : State → Prop) (g : JFrame) : Prop :=
  ∀ T : State, T.heap = H → Stand p l e R s m args below meth c T locs cells slots → ∃ t, Steps p.tables e below ((T.setTop g).pushFrame (.throwNew "java/lang/NullPointerException" none none)) t ∧ Q t
theorem vx_npe {pc : Nat} {ls : Array Slot} {rest : List Value} {Q : State → Prop} (hexec : p.tables.exec = Jvm.exec) (hl : l.stackTraces = false) {nb : Nat} {A : Nat → Prop}
    (hat : ∀ w ∈ vx_atN nb, w.before args s = true) (hgood : ∀ w ∈ vx_atN nb, vx_ot w = true)
    (hU : vx_Zq Bundle.tN "UNASSIGNED_STACK" Bundle.steD A s s.heap) (hN : vx_Zq Bundle.tN "SUPPRESSED_SENTINEL" Bundle.listD A s s.heap) (hS : va_S A s.heap H locs) (hsize : ls.size = c.maxLocals)
    (hRframes : 7 < R.frames) (hRlocals : (rest.map fun v => v.category).sum + 10240 ≤ R.locals) (hRcells : cells + 1 ≤ R.cells) (hRslots : slots + nb ≤ R.slots) (hlocks : meth.locks = false)
    (k : ∀ (H1 : Heap) (q9 : Addr) (ce : Cell), H.size ≤ H1.size → (∀ q : Nat, q < H.size → H1[q]? = H[q]?) → va_S A s.heap H1 locs → H1[q9]? = some ce → ce.vm = .none → s.vm.findClass "java/lang/NullPointerException" = some ce.cls → vx_W p l e R s m args below meth c H1 locs (cells + 1) (slots + nb) Q (F0 m pc ls rest) q9) :
    vx_NoteN p l e R s m args below meth c H locs cells slots Q (F0 m pc ls rest) := by
  intro T hT X
  have htr : e.platform.stackTraces = false := (show e.platform.stackTraces = l.stackTraces by rw [X.admits.platform]).trans hl
  have Y := vx_rebase X (R' := { frames := R.frames, locals := R.locals, cells := 1, slots := nb }) (Nat.le_refl _) (Nat.le_refl _) hRcells hRslots
  have hhp : ((T.setVm s.vm).setFrames (.invoking m args :: below)).heap = H := hT
  have hW0 : s.WarmedH ((T.setVm s.vm).setFrames (.invoking m args :: below)).vm := State.WarmedH.refl s
  have hat' : ∀ w ∈ vx_atN nb, w.before args ((T.setVm s.vm).setFrames (.invoking m args :: below)) = true := fun w hw => vx_ot_at hW0 rfl (hgood w hw) (hat w hw)
  have hU' : vx_Zq Bundle.tN "UNASSIGNED_STACK" Bundle.steD A ((T.setVm s.vm).setFrames (.invoking m args :: below)) ((T.setVm s.vm).setFrames (.invoking m args :: below)).heap := by rw [hhp]; exact vx_Zq.moved hW0.alike (hU.kept hS.2.1)
  have hN' : vx_Zq Bundle.tN "SUPPRESSED_SENTINEL" Bundle.listD A ((T.setVm s.vm).setFrames (.invoking m args :: below)) ((T.setVm s.vm).setFrames (.invoking m args :: below)).heap := by rw [hhp]; exact vx_Zq.moved hW0.alike (hN.kept hS.2.1)
  obtain ⟨S, q, ce, st, Z, hce, hcl', hv⟩ := vx_npeAt Y hexec htr (n := nb) (vx_own hat' (vx_isRefq hU'.1) (vx_isRefq hN'.1) hU'.2.word hN'.2.word) (fun x hx => nomatch hx)
    (g := F0 m pc ls rest) rfl hsize hRframes (by show 2 * 0 + (rest.map fun v => v.category).sum + 10240 ≤ R.locals; omega) (by show 0 + 1 ≤ 1; omega) (by show 0 + nb ≤ nb; omega) hlocks
  obtain ⟨f1, f2⟩ := vx_frame Z.same
  have f1' : H.size ≤ S.heap.size := by rw [← hT]; exact f1
  have f2' : ∀ q : Nat, q < H.size → S.heap[q]? = H[q]? := fun q hq => by
    rw [← hT]
    exact f2 q (by rw [← hT] at hq; exact hq) (fun z hz => nomatch hz)
  have X5 := vx_back9 X Y Z
  have X6 : Stand p l e R s m args below meth c S locs (cells + 1) (slots + nb) := { X5 with same := X5.same.mono (by omega) (by omega) }
  obtain ⟨t, a1, b1⟩ := k S.heap q ce f1' f2' ⟨Nat.le_trans hS.1 f1', fun q h1 h2 => (f2' q (Nat.lt_of_lt_of_le h1 hS.1)).trans (hS.2.1 q h1 h2), hS.2.2⟩ hce hv hcl' S rfl X6
  exact ⟨t, st t a1, b1⟩
variable {Q : State → Prop} {cc : ByteArray} {pc : Nat} {ls : Array Slot} {rest : List Value}
theorem vx_idivZ (hexec : p.tables.exec = Jvm.exec) (hb : c.code = cc) {a b : Int32} (h0 : b = 0) (d : decode cc pc = .ok (.idiv, 1)) (k : vx_Note p l e R s m args below meth c H locs cells slots Q (F0 m pc ls rest) "java/lang/ArithmeticException" "/ by zero") :
    W p l e R s m args below meth c H locs cells slots Q (F0 m pc ls (.int b :: .int a :: rest)) := by
  intro T hT X
  obtain ⟨t, st, q⟩ := k T hT X
  exact ⟨t, X.idivZero hexec (g := F0 m pc ls (.int b :: .int a :: rest)) rfl (a := a) (rest := rest) (by rw [h0]) (by rw [hb]; exact d) t st, q⟩
theorem vx_iremZ (hexec : p.tables.exec = Jvm.exec) (hb : c.code = cc) {a b : Int32} (h0 : b = 0) (d : decode cc pc = .ok (.irem, 1)) (k : vx_Note p l e R s m args below meth c H locs cells slots Q (F0 m pc ls rest) "java/lang/ArithmeticException" "/ by zero") :
    W p l e R s m args below meth c H locs cells slots Q (F0 m pc ls (.int b :: .int a :: rest)) := by
  intro T hT X
  obtain ⟨t, st, q⟩ := k T hT X
  exact ⟨t, X.iremZero hexec (g := F0 m pc ls (.int b :: .int a :: rest)) rfl (a := a) (rest := rest) (by rw [h0]) (by rw [hb]; exact d) t st, q⟩
theorem vx_ldivZ (hexec : p.tables.exec = Jvm.exec) (hb : c.code = cc) {a b : Int64} (h0 : b = 0) (d : decode cc pc = .ok (.ldiv, 1)) (k : vx_Note p l e R s m args below meth c H locs cells slots Q (F0 m pc ls rest) "java/lang/ArithmeticException" "/ by zero") :
    W p l e R s m args below meth c H locs cells slots Q (F0 m pc ls (.long b :: .long a :: rest)) := by
  intro T hT X
  obtain ⟨t, st, q⟩ := k T hT X
  exact ⟨t, X.ldivZero hexec (g := F0 m pc ls (.long b :: .long a :: rest)) rfl (a := a) (rest := rest) (by rw [h0]) (by rw [hb]; exact d) t st, q⟩
theorem vx_lremZ (hexec : p.tables.exec = Jvm.exec) (hb : c.code = cc) {a b : Int64} (h0 : b = 0) (d : decode cc pc = .ok (.lrem, 1)) (k : vx_Note p l e R s m args below meth c H locs cells slots Q (F0 m pc ls rest) "java/lang/ArithmeticException" "/ by zero") :
    W p l e R s m args below meth c H locs cells slots Q (F0 m pc ls (.long b :: .long a :: rest)) := by
  intro T hT X
  obtain ⟨t, st, q⟩ := k T hT X
  exact ⟨t, X.lremZero hexec (g := F0 m pc ls (.long b :: .long a :: rest)) rfl (a := a) (rest := rest) (by rw [h0]) (by rw [hb]; exact d) t st, q⟩
theorem vx_ialdZ {D : va_G} {cl : List vw_C} {ws : va_W} {tys : List (ClassId × FieldType)} {a : Nat} (hexec : p.tables.exec = Jvm.exec) (hb : c.code = cc) (hK : va_K D cl tys s) (hP : va_P D cl ws H) (q0 t0 : Nat) {cA : ClassId} {n : Nat} {f : Nat → Int32} (ha : ws[q0]? = some (a, .inl (cA, n, .inl f))) (ht : tys[t0]? = some (cA, .int)) {i : Int32} (hout : ¬ vp_in i n) (hdg : decode cc pc = .ok (.iaload, 1))
    (k : ∀ tx : String, tx = (toString "Index " ++ toString i ++ toString " out of bounds for length " ++ toString n : String) → vx_Note p l e R s m args below meth c H locs cells slots Q (F0 m pc ls rest) "java/lang/ArrayIndexOutOfBoundsException" tx) : W p l e R s m args below meth c H locs cells slots Q (F0 m pc ls (.int i :: .ref a :: rest)) := by
  intro T hT X
  obtain ⟨t, st, q⟩ := k _ rfl T hT X
  refine ⟨t, ?_, q⟩
  have h1 := X.ialoadOut hexec (by rw [hT]; exact hP q0 _ ha) ((hK.2 t0 _ ht).1 n (fun j => .int (f j))) (j := i) (by show (i < 0 ∨ (arrV _ _ _).slots.size ≤ _); rw [arrV_size]; exact Classical.byContradiction hout) (g := F0 m pc ls (.int i :: .ref a :: rest)) rfl (rest := rest) rfl (by rw [hb]; exact hdg) t
  simp only [arrV_size] at h1
  exact h1 st
theorem vx_iastZ {D : va_G} {cl : List vw_C} {ws : va_W} {tys : List (ClassId × FieldType)} {a : Nat} (hexec : p.tables.exec = Jvm.exec) (hb : c.code = cc) (hK : va_K D cl tys s) (hP : va_P D cl ws H) (q0 t0 : Nat) {cA : ClassId} {n : Nat} {f : Nat → Int32} (ha : ws[q0]? = some (a, .inl (cA, n, .inl f))) (ht : tys[t0]? = some (cA, .int)) {i : Int32} {x : Int32} (hout : ¬ vp_in i n) (hdg : decode cc pc = .ok (.iastore, 1))
    (k : ∀ tx : String, tx = (toString "Index " ++ toString i ++ toString " out of bounds for length " ++ toString n : String) → vx_Note p l e R s m args below meth c H locs cells slots Q (F0 m pc ls rest) "java/lang/ArrayIndexOutOfBoundsException" tx) : W p l e R s m args below meth c H locs cells slots Q (F0 m pc ls (.int x :: .int i :: .ref a :: rest)) := by
  intro T hT X
  obtain ⟨t, st, q⟩ := k _ rfl T hT X
  refine ⟨t, ?_, q⟩
  have h1 := X.iastoreOut hexec (by rw [hT]; exact hP q0 _ ha) ((hK.2 t0 _ ht).1 n (fun j => .int (f j))) (j := i) (by show (i < 0 ∨ (arrV _ _ _).slots.size ≤ _); rw [arrV_size]; exact Classical.byContradiction hout) (g := F0 m pc ls (.int x :: .int i :: .ref a :: rest)) rfl (rest := rest) rfl (by rw [hb]; exact hdg) t
  simp only [arrV_size] at h1
  exact h1 st
theorem vx_baldZ {D : va_G} {cl : List vw_C} {ws : va_W} {tys : List (ClassId × FieldType)} {a : Nat} (hexec : p.tables.exec = Jvm.exec) (hb : c.code = cc) (hK : va_K D cl tys s) (hP : va_P D cl ws H) (q0 t0 : Nat) {cA : ClassId} {n : Nat} {f : Nat → Int32} (ha : ws[q0]? = some (a, .inl (cA, n, .inl f))) (ht : tys[t0]? = some (cA, .byte)) {i : Int32} (hout : ¬ vp_in i n) (hdg : decode cc pc = .ok (.baload, 1))
    (k : ∀ tx : String, tx = (toString "Index " ++ toString i ++ toString " out of bounds for length " ++ toString n : String) → vx_Note p l e R s m args below meth c H locs cells slots Q (F0 m pc ls rest) "java/lang/ArrayIndexOutOfBoundsException" tx) : W p l e R s m args below meth c H locs cells slots Q (F0 m pc ls (.int i :: .ref a :: rest)) := by
  intro T hT X
  obtain ⟨t, st, q⟩ := k _ rfl T hT X
  refine ⟨t, ?_, q⟩
  have h1 := X.baloadOut hexec (by rw [hT]; exact hP q0 _ ha) ((hK.2 t0 _ ht).1 n (fun j => .int (f j))) (j := i) (by show (i < 0 ∨ (arrV _ _ _).slots.size ≤ _); rw [arrV_size]; exact Classical.byContradiction hout) (g := F0 m pc ls (.int i :: .ref a :: rest)) rfl (rest := rest) rfl (by rw [hb]; exact hdg) t
  simp only [arrV_size] at h1
  exact h1 st
theorem vx_bastZ {D : va_G} {cl : List vw_C} {ws : va_W} {tys : List (ClassId × FieldType)} {a : Nat} (hexec : p.tables.exec = Jvm.exec) (hb : c.code = cc) (hK : va_K D cl tys s) (hP : va_P D cl ws H) (q0 t0 : Nat) {cA : ClassId} {n : Nat} {f : Nat → Int32} (ha : ws[q0]? = some (a, .inl (cA, n, .inl f))) (ht : tys[t0]? = some (cA, .byte)) {i : Int32} {x : Int32} (hout : ¬ vp_in i n) (hdg : decode cc pc = .ok (.bastore, 1))
    (k : ∀ tx : String, tx = (toString "Index " ++ toString i ++ toString " out of bounds for length " ++ toString n : String) → vx_Note p l e R s m args below meth c H locs cells slots Q (F0 m pc ls rest) "java/lang/ArrayIndexOutOfBoundsException" tx) : W p l e R s m args below meth c H locs cells slots Q (F0 m pc ls (.int x :: .int i :: .ref a :: rest)) := by
  intro T hT X
  obtain ⟨t, st, q⟩ := k _ rfl T hT X
  refine ⟨t, ?_, q⟩
  have h1 := X.bastoreOut hexec (by rw [hT]; exact hP q0 _ ha) ((hK.2 t0 _ ht).1 n (fun j => .int (f j))) (j := i) (by show (i < 0 ∨ (arrV _ _ _).slots.size ≤ _); rw [arrV_size]; exact Classical.byContradiction hout) (g := F0 m pc ls (.int x :: .int i :: .ref a :: rest)) rfl (rest := rest) rfl (by rw [hb]; exact hdg) t
  simp only [arrV_size] at h1
  exact h1 st
theorem vx_zaldZ {D : va_G} {cl : List vw_C} {ws : va_W} {tys : List (ClassId × FieldType)} {a : Nat} (hexec : p.tables.exec = Jvm.exec) (hb : c.code = cc) (hK : va_K D cl tys s) (hP : va_P D cl ws H) (q0 t0 : Nat) {cA : ClassId} {n : Nat} {f : Nat → Int32} (ha : ws[q0]? = some (a, .inl (cA, n, .inl f))) (ht : tys[t0]? = some (cA, .boolean)) {i : Int32} (hout : ¬ vp_in i n) (hdg : decode cc pc = .ok (.baload, 1))
    (k : ∀ tx : String, tx = (toString "Index " ++ toString i ++ toString " out of bounds for length " ++ toString n : String) → vx_Note p l e R s m args below meth c H locs cells slots Q (F0 m pc ls rest) "java/lang/ArrayIndexOutOfBoundsException" tx) : W p l e R s m args below meth c H locs cells slots Q (F0 m pc ls (.int i :: .ref a :: rest)) := by
  intro T hT X
  obtain ⟨t, st, q⟩ := k _ rfl T hT X
  refine ⟨t, ?_, q⟩
  have h1 := X.baloadOut hexec (by rw [hT]; exact hP q0 _ ha) ((hK.2 t0 _ ht).1 n (fun j => .int (f j))) (j := i) (by show (i < 0 ∨ (arrV _ _ _).slots.size ≤ _); rw [arrV_size]; exact Classical.byContradiction hout) (g := F0 m pc ls (.int i :: .ref a :: rest)) rfl (rest := rest) rfl (by rw [hb]; exact hdg) t
  simp only [arrV_size] at h1
  exact h1 st
theorem vx_zastZ {D : va_G} {cl : List vw_C} {ws : va_W} {tys : List (ClassId × FieldType)} {a : Nat} (hexec : p.tables.exec = Jvm.exec) (hb : c.code = cc) (hK : va_K D cl tys s) (hP : va_P D cl ws H) (q0 t0 : Nat) {cA : ClassId} {n : Nat} {f : Nat → Int32} (ha : ws[q0]? = some (a, .inl (cA, n, .inl f))) (ht : tys[t0]? = some (cA, .boolean)) {i : Int32} {x : Int32} (hout : ¬ vp_in i n) (hdg : decode cc pc = .ok (.bastore, 1))
    (k : ∀ tx : String, tx = (toString "Index " ++ toString i ++ toString " out of bounds for length " ++ toString n : String) → vx_Note p l e R s m args below meth c H locs cells slots Q (F0 m pc ls rest) "java/lang/ArrayIndexOutOfBoundsException" tx) : W p l e R s m args below meth c H locs cells slots Q (F0 m pc ls (.int x :: .int i :: .ref a :: rest)) := by
  intro T hT X
  obtain ⟨t, st, q⟩ := k _ rfl T hT X
  refine ⟨t, ?_, q⟩
  have h1 := X.bastoreOut hexec (by rw [hT]; exact hP q0 _ ha) ((hK.2 t0 _ ht).1 n (fun j => .int (f j))) (j := i) (by show (i < 0 ∨ (arrV _ _ _).slots.size ≤ _); rw [arrV_size]; exact Classical.byContradiction hout) (g := F0 m pc ls (.int x :: .int i :: .ref a :: rest)) rfl (rest := rest) rfl (by rw [hb]; exact hdg) t
  simp only [arrV_size] at h1
  exact h1 st
theorem vx_caldZ {D : va_G} {cl : List vw_C} {ws : va_W} {tys : List (ClassId × FieldType)} {a : Nat} (hexec : p.tables.exec = Jvm.exec) (hb : c.code = cc) (hK : va_K D cl tys s) (hP : va_P D cl ws H) (q0 t0 : Nat) {cA : ClassId} {n : Nat} {f : Nat → Int32} (ha : ws[q0]? = some (a, .inl (cA, n, .inl f))) (ht : tys[t0]? = some (cA, .char)) {i : Int32} (hout : ¬ vp_in i n) (hdg : decode cc pc = .ok (.caload, 1))
    (k : ∀ tx : String, tx = (toString "Index " ++ toString i ++ toString " out of bounds for length " ++ toString n : String) → vx_Note p l e R s m args below meth c H locs cells slots Q (F0 m pc ls rest) "java/lang/ArrayIndexOutOfBoundsException" tx) : W p l e R s m args below meth c H locs cells slots Q (F0 m pc ls (.int i :: .ref a :: rest)) := by
  intro T hT X
  obtain ⟨t, st, q⟩ := k _ rfl T hT X
  refine ⟨t, ?_, q⟩
  have h1 := X.caloadOut hexec (by rw [hT]; exact hP q0 _ ha) ((hK.2 t0 _ ht).1 n (fun j => .int (f j))) (j := i) (by show (i < 0 ∨ (arrV _ _ _).slots.size ≤ _); rw [arrV_size]; exact Classical.byContradiction hout) (g := F0 m pc ls (.int i :: .ref a :: rest)) rfl (rest := rest) rfl (by rw [hb]; exact hdg) t
  simp only [arrV_size] at h1
  exact h1 st
theorem vx_castZ {D : va_G} {cl : List vw_C} {ws : va_W} {tys : List (ClassId × FieldType)} {a : Nat} (hexec : p.tables.exec = Jvm.exec) (hb : c.code = cc) (hK : va_K D cl tys s) (hP : va_P D cl ws H) (q0 t0 : Nat) {cA : ClassId} {n : Nat} {f : Nat → Int32} (ha : ws[q0]? = some (a, .inl (cA, n, .inl f))) (ht : tys[t0]? = some (cA, .char)) {i : Int32} {x : Int32} (hout : ¬ vp_in i n) (hdg : decode cc pc = .ok (.castore, 1))
    (k : ∀ tx : String, tx = (toString "Index " ++ toString i ++ toString " out of bounds for length " ++ toString n : String) → vx_Note p l e R s m args below meth c H locs cells slots Q (F0 m pc ls rest) "java/lang/ArrayIndexOutOfBoundsException" tx) : W p l e R s m args below meth c H locs cells slots Q (F0 m pc ls (.int x :: .int i :: .ref a :: rest)) := by
  intro T hT X
  obtain ⟨t, st, q⟩ := k _ rfl T hT X
  refine ⟨t, ?_, q⟩
  have h1 := X.castoreOut hexec (by rw [hT]; exact hP q0 _ ha) ((hK.2 t0 _ ht).1 n (fun j => .int (f j))) (j := i) (by show (i < 0 ∨ (arrV _ _ _).slots.size ≤ _); rw [arrV_size]; exact Classical.byContradiction hout) (g := F0 m pc ls (.int x :: .int i :: .ref a :: rest)) rfl (rest := rest) rfl (by rw [hb]; exact hdg) t
  simp only [arrV_size] at h1
  exact h1 st
theorem vx_saldZ {D : va_G} {cl : List vw_C} {ws : va_W} {tys : List (ClassId × FieldType)} {a : Nat} (hexec : p.tables.exec = Jvm.exec) (hb : c.code = cc) (hK : va_K D cl tys s) (hP : va_P D cl ws H) (q0 t0 : Nat) {cA : ClassId} {n : Nat} {f : Nat → Int32} (ha : ws[q0]? = some (a, .inl (cA, n, .inl f))) (ht : tys[t0]? = some (cA, .short)) {i : Int32} (hout : ¬ vp_in i n) (hdg : decode cc pc = .ok (.saload, 1))
    (k : ∀ tx : String, tx = (toString "Index " ++ toString i ++ toString " out of bounds for length " ++ toString n : String) → vx_Note p l e R s m args below meth c H locs cells slots Q (F0 m pc ls rest) "java/lang/ArrayIndexOutOfBoundsException" tx) : W p l e R s m args below meth c H locs cells slots Q (F0 m pc ls (.int i :: .ref a :: rest)) := by
  intro T hT X
  obtain ⟨t, st, q⟩ := k _ rfl T hT X
  refine ⟨t, ?_, q⟩
  have h1 := X.saloadOut hexec (by rw [hT]; exact hP q0 _ ha) ((hK.2 t0 _ ht).1 n (fun j => .int (f j))) (j := i) (by show (i < 0 ∨ (arrV _ _ _).slots.size ≤ _); rw [arrV_size]; exact Classical.byContradiction hout) (g := F0 m pc ls (.int i :: .ref a :: rest)) rfl (rest := rest) rfl (by rw [hb]; exact hdg) t
  simp only [arrV_size] at h1
  exact h1 st
theorem vx_sastZ {D : va_G} {cl : List vw_C} {ws : va_W} {tys : List (ClassId × FieldType)} {a : Nat} (hexec : p.tables.exec = Jvm.exec) (hb : c.code = cc) (hK : va_K D cl tys s) (hP : va_P D cl ws H) (q0 t0 : Nat) {cA : ClassId} {n : Nat} {f : Nat → Int32} (ha : ws[q0]? = some (a, .inl (cA, n, .inl f))) (ht : tys[t0]? = some (cA, .short)) {i : Int32} {x : Int32} (hout : ¬ vp_in i n) (hdg : decode cc pc = .ok (.sastore, 1))
    (k : ∀ tx : String, tx = (toString "Index " ++ toString i ++ toString " out of bounds for length " ++ toString n : String) → vx_Note p l e R s m args below meth c H locs cells slots Q (F0 m pc ls rest) "java/lang/ArrayIndexOutOfBoundsException" tx) : W p l e R s m args below meth c H locs cells slots Q (F0 m pc ls (.int x :: .int i :: .ref a :: rest)) := by
  intro T hT X
  obtain ⟨t, st, q⟩ := k _ rfl T hT X
  refine ⟨t, ?_, q⟩
  have h1 := X.sastoreOut hexec (by rw [hT]; exact hP q0 _ ha) ((hK.2 t0 _ ht).1 n (fun j => .int (f j))) (j := i) (by show (i < 0 ∨ (arrV _ _ _).slots.size ≤ _); rw [arrV_size]; exact Classical.byContradiction hout) (g := F0 m pc ls (.int x :: .int i :: .ref a :: rest)) rfl (rest := rest) rfl (by rw [hb]; exact hdg) t
  simp only [arrV_size] at h1
  exact h1 st
theorem vx_laldZ {D : va_G} {cl : List vw_C} {ws : va_W} {tys : List (ClassId × FieldType)} {a : Nat} (hexec : p.tables.exec = Jvm.exec) (hb : c.code = cc) (hK : va_K D cl tys s) (hP : va_P D cl ws H) (q0 t0 : Nat) {cA : ClassId} {n : Nat} {f : Nat → Int64} (ha : ws[q0]? = some (a, .inl (cA, n, .inr (.inl f)))) (ht : tys[t0]? = some (cA, .long)) {i : Int32} (hout : ¬ vp_in i n) (hdg : decode cc pc = .ok (.laload, 1))
    (k : ∀ tx : String, tx = (toString "Index " ++ toString i ++ toString " out of bounds for length " ++ toString n : String) → vx_Note p l e R s m args below meth c H locs cells slots Q (F0 m pc ls rest) "java/lang/ArrayIndexOutOfBoundsException" tx) : W p l e R s m args below meth c H locs cells slots Q (F0 m pc ls (.int i :: .ref a :: rest)) := by
  intro T hT X
  obtain ⟨t, st, q⟩ := k _ rfl T hT X
  refine ⟨t, ?_, q⟩
  have h1 := X.laloadOut hexec (by rw [hT]; exact hP q0 _ ha) ((hK.2 t0 _ ht).1 n (fun j => .long (f j))) (j := i) (by show (i < 0 ∨ (arrV _ _ _).slots.size ≤ _); rw [arrV_size]; exact Classical.byContradiction hout) (g := F0 m pc ls (.int i :: .ref a :: rest)) rfl (rest := rest) rfl (by rw [hb]; exact hdg) t
  simp only [arrV_size] at h1
  exact h1 st
theorem vx_lastZ {D : va_G} {cl : List vw_C} {ws : va_W} {tys : List (ClassId × FieldType)} {a : Nat} (hexec : p.tables.exec = Jvm.exec) (hb : c.code = cc) (hK : va_K D cl tys s) (hP : va_P D cl ws H) (q0 t0 : Nat) {cA : ClassId} {n : Nat} {f : Nat → Int64} (ha : ws[q0]? = some (a, .inl (cA, n, .inr (.inl f)))) (ht : tys[t0]? = some (cA, .long)) {i : Int32} {x : Int64} (hout : ¬ vp_in i n) (hdg : decode cc pc = .ok (.lastore, 1))
    (k : ∀ tx : String, tx = (toString "Index " ++ toString i ++ toString " out of bounds for length " ++ toString n : String) → vx_Note p l e R s m args below meth c H locs cells slots Q (F0 m pc ls rest) "java/lang/ArrayIndexOutOfBoundsException" tx) : W p l e R s m args below meth c H locs cells slots Q (F0 m pc ls (.long x :: .int i :: .ref a :: rest)) := by
  intro T hT X
  obtain ⟨t, st, q⟩ := k _ rfl T hT X
  refine ⟨t, ?_, q⟩
  have h1 := X.lastoreOut hexec (by rw [hT]; exact hP q0 _ ha) ((hK.2 t0 _ ht).1 n (fun j => .long (f j))) (j := i) (by show (i < 0 ∨ (arrV _ _ _).slots.size ≤ _); rw [arrV_size]; exact Classical.byContradiction hout) (g := F0 m pc ls (.long x :: .int i :: .ref a :: rest)) rfl (rest := rest) rfl (by rw [hb]; exact hdg) t
  simp only [arrV_size] at h1
  exact h1 st
theorem vx_faldZ {D : va_G} {cl : List vw_C} {ws : va_W} {tys : List (ClassId × FieldType)} {a : Nat} (hexec : p.tables.exec = Jvm.exec) (hb : c.code = cc) (hK : va_K D cl tys s) (hP : va_P D cl ws H) (q0 t0 : Nat) {cA : ClassId} {n : Nat} {f : Nat → UInt32} (ha : ws[q0]? = some (a, .inl (cA, n, .inr (.inr (.inl f))))) (ht : tys[t0]? = some (cA, .float)) {i : Int32} (hout : ¬ vp_in i n) (hdg : decode cc pc = .ok (.faload, 1))
    (k : ∀ tx : String, tx = (toString "Index " ++ toString i ++ toString " out of bounds for length " ++ toString n : String) → vx_Note p l e R s m args below meth c H locs cells slots Q (F0 m pc ls rest) "java/lang/ArrayIndexOutOfBoundsException" tx) : W p l e R s m args below meth c H locs cells slots Q (F0 m pc ls (.int i :: .ref a :: rest)) := by
  intro T hT X
  obtain ⟨t, st, q⟩ := k _ rfl T hT X
  refine ⟨t, ?_, q⟩
  have h1 := X.faloadOut hexec (by rw [hT]; exact hP q0 _ ha) ((hK.2 t0 _ ht).1 n (fun j => .float (f j))) (j := i) (by show (i < 0 ∨ (arrV _ _ _).slots.size ≤ _); rw [arrV_size]; exact Classical.byContradiction hout) (g := F0 m pc ls (.int i :: .ref a :: rest)) rfl (rest := rest) rfl (by rw [hb]; exact hdg) t
  simp only [arrV_size] at h1
  exact h1 st
theorem vx_fastZ {D : va_G} {cl : List vw_C} {ws : va_W} {tys : List (ClassId × FieldType)} {a : Nat} (hexec : p.tables.exec = Jvm.exec) (hb : c.code = cc) (hK : va_K D cl tys s) (hP : va_P D cl ws H) (q0 t0 : Nat) {cA : ClassId} {n : Nat} {f : Nat → UInt32} (ha : ws[q0]? = some (a, .inl (cA, n, .inr (.inr (.inl f))))) (ht : tys[t0]? = some (cA, .float)) {i : Int32} {x : UInt32} (hout : ¬ vp_in i n) (hdg : decode cc pc = .ok (.fastore, 1))
    (k : ∀ tx : String, tx = (toString "Index " ++ toString i ++ toString " out of bounds for length " ++ toString n : String) → vx_Note p l e R s m args below meth c H locs cells slots Q (F0 m pc ls rest) "java/lang/ArrayIndexOutOfBoundsException" tx) : W p l e R s m args below meth c H locs cells slots Q (F0 m pc ls (.float x :: .int i :: .ref a :: rest)) := by
  intro T hT X
  obtain ⟨t, st, q⟩ := k _ rfl T hT X
  refine ⟨t, ?_, q⟩
  have h1 := X.fastoreOut hexec (by rw [hT]; exact hP q0 _ ha) ((hK.2 t0 _ ht).1 n (fun j => .float (f j))) (j := i) (by show (i < 0 ∨ (arrV _ _ _).slots.size ≤ _); rw [arrV_size]; exact Classical.byContradiction hout) (g := F0 m pc ls (.float x :: .int i :: .ref a :: rest)) rfl (rest := rest) rfl (by rw [hb]; exact hdg) t
  simp only [arrV_size] at h1
  exact h1 st
theorem vx_daldZ {D : va_G} {cl : List vw_C} {ws : va_W} {tys : List (ClassId × FieldType)} {a : Nat} (hexec : p.tables.exec = Jvm.exec) (hb : c.code = cc) (hK : va_K D cl tys s) (hP : va_P D cl ws H) (q0 t0 : Nat) {cA : ClassId} {n : Nat} {f : Nat → UInt64} (ha : ws[q0]? = some (a, .inl (cA, n, .inr (.inr (.inr (.inl f)))))) (ht : tys[t0]? = some (cA, .double)) {i : Int32} (hout : ¬ vp_in i n) (hdg : decode cc pc = .ok (.daload, 1))
    (k : ∀ tx : String, tx = (toString "Index " ++ toString i ++ toString " out of bounds for length " ++ toString n : String) → vx_Note p l e R s m args below meth c H locs cells slots Q (F0 m pc ls rest) "java/lang/ArrayIndexOutOfBoundsException" tx) : W p l e R s m args below meth c H locs cells slots Q (F0 m pc ls (.int i :: .ref a :: rest)) := by
  intro T hT X
  obtain ⟨t, st, q⟩ := k _ rfl T hT X
  refine ⟨t, ?_, q⟩
  have h1 := X.daloadOut hexec (by rw [hT]; exact hP q0 _ ha) ((hK.2 t0 _ ht).1 n (fun j => .double (f j))) (j := i) (by show (i < 0 ∨ (arrV _ _ _).slots.size ≤ _); rw [arrV_size]; exact Classical.byContradiction hout) (g := F0 m pc ls (.int i :: .ref a :: rest)) rfl (rest := rest) rfl (by rw [hb]; exact hdg) t
  simp only [arrV_size] at h1
  exact h1 st
theorem vx_dastZ {D : va_G} {cl : List vw_C} {ws : va_W} {tys : List (ClassId × FieldType)} {a : Nat} (hexec : p.tables.exec = Jvm.exec) (hb : c.code = cc) (hK : va_K D cl tys s) (hP : va_P D cl ws H) (q0 t0 : Nat) {cA : ClassId} {n : Nat} {f : Nat → UInt64} (ha : ws[q0]? = some (a, .inl (cA, n, .inr (.inr (.inr (.inl f)))))) (ht : tys[t0]? = some (cA, .double)) {i : Int32} {x : UInt64} (hout : ¬ vp_in i n) (hdg : decode cc pc = .ok (.dastore, 1))
    (k : ∀ tx : String, tx = (toString "Index " ++ toString i ++ toString " out of bounds for length " ++ toString n : String) → vx_Note p l e R s m args below meth c H locs cells slots Q (F0 m pc ls rest) "java/lang/ArrayIndexOutOfBoundsException" tx) : W p l e R s m args below meth c H locs cells slots Q (F0 m pc ls (.double x :: .int i :: .ref a :: rest)) := by
  intro T hT X
  obtain ⟨t, st, q⟩ := k _ rfl T hT X
  refine ⟨t, ?_, q⟩
  have h1 := X.dastoreOut hexec (by rw [hT]; exact hP q0 _ ha) ((hK.2 t0 _ ht).1 n (fun j => .double (f j))) (j := i) (by show (i < 0 ∨ (arrV _ _ _).slots.size ≤ _); rw [arrV_size]; exact Classical.byContradiction hout) (g := F0 m pc ls (.double x :: .int i :: .ref a :: rest)) rfl (rest := rest) rfl (by rw [hb]; exact hdg) t
  simp only [arrV_size] at h1
  exact h1 st
theorem vx_arraylengthN (hexec : p.tables.exec = Jvm.exec) (hb : c.code = cc) (hdg : decode cc pc = .ok (.arraylength, 1)) (k : vx_NoteN p l e R s m args below meth c H locs cells slots Q (F0 m pc ls rest)) : W p l e R s m args below meth c H locs cells slots Q (F0 m pc ls (.null :: rest)) := by
  intro T hT X
  obtain ⟨t, st, q⟩ := k T hT X
  exact ⟨t, X.arraylengthNull hexec (g := F0 m pc ls (.null :: rest)) rfl (rest := rest) rfl (by rw [hb]; exact hdg) t st, q⟩
theorem vx_ialoadN (hexec : p.tables.exec = Jvm.exec) (hb : c.code = cc) {i : Int32} (hdg : decode cc pc = .ok (.iaload, 1)) (k : vx_NoteN p l e R s m args below meth c H locs cells slots Q (F0 m pc ls rest)) : W p l e R s m args below meth c H locs cells slots Q (F0 m pc ls (.int i :: .null :: rest)) := by
  intro T hT X
  obtain ⟨t, st, q⟩ := k T hT X
  exact ⟨t, X.ialoadNull hexec (g := F0 m pc ls (.int i :: .null :: rest)) rfl (rest := rest) rfl (by rw [hb]; exact hdg) t st, q⟩
theorem vx_laloadN (hexec : p.tables.exec = Jvm.exec) (hb : c.code = cc) {i : Int32} (hdg : decode cc pc = .ok (.laload, 1)) (k : vx_NoteN p l e R s m args below meth c H locs cells slots Q (F0 m pc ls rest)) : W p l e R s m args below meth c H locs cells slots Q (F0 m pc ls (.int i :: .null :: rest)) := by
  intro T hT X
  obtain ⟨t, st, q⟩ := k T hT X
  exact ⟨t, X.laloadNull hexec (g := F0 m pc ls (.int i :: .null :: rest)) rfl (rest := rest) rfl (by rw [hb]; exact hdg) t st, q⟩
theorem vx_faloadN (hexec : p.tables.exec = Jvm.exec) (hb : c.code = cc) {i : Int32} (hdg : decode cc pc = .ok (.faload, 1)) (k : vx_NoteN p l e R s m args below meth c H locs cells slots Q (F0 m pc ls rest)) : W p l e R s m args below meth c H locs cells slots Q (F0 m pc ls (.int i :: .null :: rest)) := by
  intro T hT X
  obtain ⟨t, st, q⟩ := k T hT X
  exact ⟨t, X.faloadNull hexec (g := F0 m pc ls (.int i :: .null :: rest)) rfl (rest := rest) rfl (by rw [hb]; exact hdg) t st, q⟩
theorem vx_daloadN (hexec : p.tables.exec = Jvm.exec) (hb : c.code = cc) {i : Int32} (hdg : decode cc pc = .ok (.daload, 1)) (k : vx_NoteN p l e R s m args below meth c H locs cells slots Q (F0 m pc ls rest)) : W p l e R s m args below meth c H locs cells slots Q (F0 m pc ls (.int i :: .null :: rest)) := by
  intro T hT X
  obtain ⟨t, st, q⟩ := k T hT X
  exact ⟨t, X.daloadNull hexec (g := F0 m pc ls (.int i :: .null :: rest)) rfl (rest := rest) rfl (by rw [hb]; exact hdg) t st, q⟩
theorem vx_aaloadN (hexec : p.tables.exec = Jvm.exec) (hb : c.code = cc) {i : Int32} (hdg : decode cc pc = .ok (.aaload, 1)) (k : vx_NoteN p l e R s m args below meth c H locs cells slots Q (F0 m pc ls rest)) : W p l e R s m args below meth c H locs cells slots Q (F0 m pc ls (.int i :: .null :: rest)) := by
  intro T hT X
  obtain ⟨t, st, q⟩ := k T hT X
  exact ⟨t, X.aaloadNull hexec (g := F0 m pc ls (.int i :: .null :: rest)) rfl (rest := rest) rfl (by rw [hb]; exact hdg) t st, q⟩
theorem vx_baloadN (hexec : p.tables.exec = Jvm.exec) (hb : c.code = cc) {i : Int32} (hdg : decode cc pc = .ok (.baload, 1)) (k : vx_NoteN p l e R s m args below meth c H locs cells slots Q (F0 m pc ls rest)) : W p l e R s m args below meth c H locs cells slots Q (F0 m pc ls (.int i :: .null :: rest)) := by
  intro T hT X
  obtain ⟨t, st, q⟩ := k T hT X
  exact ⟨t, X.baloadNull hexec (g := F0 m pc ls (.int i :: .null :: rest)) rfl (rest := rest) rfl (by rw [hb]; exact hdg) t st, q⟩
theorem vx_caloadN (hexec : p.tables.exec = Jvm.exec) (hb : c.code = cc) {i : Int32} (hdg : decode cc pc = .ok (.caload, 1)) (k : vx_NoteN p l e R s m args below meth c H locs cells slots Q (F0 m pc ls rest)) : W p l e R s m args below meth c H locs cells slots Q (F0 m pc ls (.int i :: .null :: rest)) := by
  intro T hT X
  obtain ⟨t, st, q⟩ := k T hT X
  exact ⟨t, X.caloadNull hexec (g := F0 m pc ls (.int i :: .null :: rest)) rfl (rest := rest) rfl (by rw [hb]; exact hdg) t st, q⟩
theorem vx_saloadN (hexec : p.tables.exec = Jvm.exec) (hb : c.code = cc) {i : Int32} (hdg : decode cc pc = .ok (.saload, 1)) (k : vx_NoteN p l e R s m args below meth c H locs cells slots Q (F0 m pc ls rest)) : W p l e R s m args below meth c H locs cells slots Q (F0 m pc ls (.int i :: .null :: rest)) := by
  intro T hT X
  obtain ⟨t, st, q⟩ := k T hT X
  exact ⟨t, X.saloadNull hexec (g := F0 m pc ls (.int i :: .null :: rest)) rfl (rest := rest) rfl (by rw [hb]; exact hdg) t st, q⟩
theorem vx_iastoreN (hexec : p.tables.exec = Jvm.exec) (hb : c.code = cc) {x : Int32} {i : Int32} (hdg : decode cc pc = .ok (.iastore, 1)) (k : vx_NoteN p l e R s m args below meth c H locs cells slots Q (F0 m pc ls rest)) : W p l e R s m args below meth c H locs cells slots Q (F0 m pc ls (.int x :: .int i :: .null :: rest)) := by
  intro T hT X
  obtain ⟨t, st, q⟩ := k T hT X
  exact ⟨t, X.iastoreNull hexec (g := F0 m pc ls (.int x :: .int i :: .null :: rest)) rfl (rest := rest) rfl (by rw [hb]; exact hdg) t st, q⟩
theorem vx_lastoreN (hexec : p.tables.exec = Jvm.exec) (hb : c.code = cc) {x : Int64} {i : Int32} (hdg : decode cc pc = .ok (.lastore, 1)) (k : vx_NoteN p l e R s m args below meth c H locs cells slots Q (F0 m pc ls rest)) : W p l e R s m args below meth c H locs cells slots Q (F0 m pc ls (.long x :: .int i :: .null :: rest)) := by
  intro T hT X
  obtain ⟨t, st, q⟩ := k T hT X
  exact ⟨t, X.lastoreNull hexec (g := F0 m pc ls (.long x :: .int i :: .null :: rest)) rfl (rest := rest) rfl (by rw [hb]; exact hdg) t st, q⟩
theorem vx_fastoreN (hexec : p.tables.exec = Jvm.exec) (hb : c.code = cc) {x : UInt32} {i : Int32} (hdg : decode cc pc = .ok (.fastore, 1)) (k : vx_NoteN p l e R s m args below meth c H locs cells slots Q (F0 m pc ls rest)) : W p l e R s m args below meth c H locs cells slots Q (F0 m pc ls (.float x :: .int i :: .null :: rest)) := by
  intro T hT X
  obtain ⟨t, st, q⟩ := k T hT X
  exact ⟨t, X.fastoreNull hexec (g := F0 m pc ls (.float x :: .int i :: .null :: rest)) rfl (rest := rest) rfl (by rw [hb]; exact hdg) t st, q⟩
theorem vx_dastoreN (hexec : p.tables.exec = Jvm.exec) (hb : c.code = cc) {x : UInt64} {i : Int32} (hdg : decode cc pc = .ok (.dastore, 1)) (k : vx_NoteN p l e R s m args below meth c H locs cells slots Q (F0 m pc ls rest)) : W p l e R s m args below meth c H locs cells slots Q (F0 m pc ls (.double x :: .int i :: .null :: rest)) := by
  intro T hT X
  obtain ⟨t, st, q⟩ := k T hT X
  exact ⟨t, X.dastoreNull hexec (g := F0 m pc ls (.double x :: .int i :: .null :: rest)) rfl (rest := rest) rfl (by rw [hb]; exact hdg) t st, q⟩
theorem vx_bastoreN (hexec : p.tables.exec = Jvm.exec) (hb : c.code = cc) {x : Int32} {i : Int32} (hdg : decode cc pc = .ok (.bastore, 1)) (k : vx_NoteN p l e R s m args below meth c H locs cells slots Q (F0 m pc ls rest)) : W p l e R s m args below meth c H locs cells slots Q (F0 m pc ls (.int x :: .int i :: .null :: rest)) := by
  intro T hT X
  obtain ⟨t, st, q⟩ := k T hT X
  exact ⟨t, X.bastoreNull hexec (g := F0 m pc ls (.int x :: .int i :: .null :: rest)) rfl (rest := rest) rfl (by rw [hb]; exact hdg) t st, q⟩
theorem vx_castoreN (hexec : p.tables.exec = Jvm.exec) (hb : c.code = cc) {x : Int32} {i : Int32} (hdg : decode cc pc = .ok (.castore, 1)) (k : vx_NoteN p l e R s m args below meth c H locs cells slots Q (F0 m pc ls rest)) : W p l e R s m args below meth c H locs cells slots Q (F0 m pc ls (.int x :: .int i :: .null :: rest)) := by
  intro T hT X
  obtain ⟨t, st, q⟩ := k T hT X
  exact ⟨t, X.castoreNull hexec (g := F0 m pc ls (.int x :: .int i :: .null :: rest)) rfl (rest := rest) rfl (by rw [hb]; exact hdg) t st, q⟩
theorem vx_sastoreN (hexec : p.tables.exec = Jvm.exec) (hb : c.code = cc) {x : Int32} {i : Int32} (hdg : decode cc pc = .ok (.sastore, 1)) (k : vx_NoteN p l e R s m args below meth c H locs cells slots Q (F0 m pc ls rest)) : W p l e R s m args below meth c H locs cells slots Q (F0 m pc ls (.int x :: .int i :: .null :: rest)) := by
  intro T hT X
  obtain ⟨t, st, q⟩ := k T hT X
  exact ⟨t, X.sastoreNull hexec (g := F0 m pc ls (.int x :: .int i :: .null :: rest)) rfl (rest := rest) rfl (by rw [hb]; exact hdg) t st, q⟩
theorem vx_invokeN {own C : String} {index maxL : Nat} {y : MethodName} {bytes : ByteArray} {ret : Option FieldType} (hexec : p.tables.exec = Jvm.exec) (hb : c.code = cc) (hown : s.vm.findClass own = some m.cls) (hlink : (Cond.methodLink own index y).before args s = true) (hinst : (Cond.instanceMethod y).before args s = true) (hcode : (Cond.code y bytes maxL ret).before args s = true) (hsel : (Cond.selects C y y).before args s = true)
    (hx : y.cls ≠ "java/lang/invoke/MethodHandle" ∧ y.cls ≠ "java/lang/invoke/VarHandle") {As : List Value} (hlen : (parseMethodDescriptor y.desc).map (fun d => d.parameters.length) = some As.length) (hdg : decode cc pc = .ok (.invokevirtual index, 3))
    (k : vx_NoteN p l e R s m args below meth c H locs cells slots Q (F0 m pc ls rest)) {st0 : List Value} (hst : st0 = As.reverse ++ .null :: rest) : W p l e R s m args below meth c H locs cells slots Q (F0 m pc ls st0) := by
  intro T hT X
  obtain ⟨r0, r, hn, hrm, hstR, hsigR⟩ := va_Decl.of hinst hcode
  obtain ⟨c2, r2, m2, q1, q2, q3, q4, kP, hkP, hkPi⟩ := Cond.selects_spec hsel
  cases hn.symm.trans q3
  have hl9 : As.length = r.sig.parameters.length := by
    rw [hsigR] at hlen
    exact (Option.some.inj hlen).symm
  obtain ⟨vm', X1, st1⟩ := X.invokevirtualNull hexec hown hlink hn hrm hstR hkP hkPi hx (g := F0 m pc ls st0) rfl (argsL := As) (rest := rest) hl9 hst (by rw [hb]; exact hdg)
  obtain ⟨t, st, q⟩ := k (T.setVm vm') hT X1
  exact ⟨t, st1 t st, q⟩
theorem vx_newarrayZ {atype : ArrayType} (hexec : p.tables.exec = Jvm.exec) (hb : c.code = cc) {n : Int32} (h0 : n < 0) (hdg : decode cc pc = .ok (.newarray atype, 2)) (k : ∀ tx : String, tx = toString n → vx_Note p l e R s m args below meth c H locs cells slots Q (F0 m pc ls rest) "java/lang/NegativeArraySizeException" tx) : W p l e R s m args below meth c H locs cells slots Q (F0 m pc ls (.int n :: rest)) := by
  intro T hT X
  obtain ⟨t, st, q⟩ := k _ rfl T hT X
  exact ⟨t, X.newarrayNegative hexec (g := F0 m pc ls (.int n :: rest)) rfl h0 (rest := rest) rfl (by rw [hb]; exact hdg) t st, q⟩
end
end VXM
/-! ===== END ===== -/

/-! ===== BEGIN printed: names, fields, word lists, decode rows ===== -/
def RX0 : String := "TeaChests$1"
def TX0 : u_T := fun k => match k with
  | _ => ("", "", "", false)
def tyX0 : Nat → FieldType := fun k => match k with
  | _ => .int
abbrev wsX00 : List Cond := u_ws RX0 TX0 0
theorem nmX0 : ∀ a, a < 0 → ∀ b, b < 0 → a ≠ b → (TX0 a).2.1 ≠ (TX0 b).2.1 := by decide +kernel
theorem tyX0_ok : ∀ k, k < 0 → parseFieldDescriptor (TX0 k).2.2.1 = some (tyX0 k) := by decide +kernel
def RX1 : String := "TeaChests$Chest"
def TX1 : u_T := fun k => match k with
  | 0 => ("TeaChests$Chest", "number", "I", true)
  | 1 => ("TeaChests$Chest", "size", "I", false)
  | 2 => ("TeaChests$Chest", "garden", "I", false)
  | 3 => ("TeaChests$Chest", "kind", "I", false)
  | 4 => ("TeaChests$Chest", "pounds", "I", false)
  | 5 => ("TeaChests$Chest", "isLined", "Z", false)
  | 6 => ("TeaChests$Chest", "screws", "I", false)
  | 7 => ("TeaChests$Chest", "damp", "I", false)
  | 8 => ("TeaChests$Chest", "where", "I", false)
  | _ => ("TeaChests$Chest", "label", "Ljava/lang/String;", false)
def tyX1 : Nat → FieldType := fun k => match k with
  | 0 => .int
  | 1 => .int
  | 2 => .int
  | 3 => .int
  | 4 => .int
  | 5 => .boolean
  | 6 => .int
  | 7 => .int
  | 8 => .int
  | _ => .object "java/lang/String"
abbrev wsX10 : List Cond := u_ws RX1 TX1 10
theorem nmX1 : ∀ a, a < 10 → ∀ b, b < 10 → a ≠ b → (TX1 a).2.1 ≠ (TX1 b).2.1 := by decide +kernel
theorem tyX1_ok : ∀ k, k < 10 → parseFieldDescriptor (TX1 k).2.2.1 = some (tyX1 k) := by decide +kernel
abbrev cX1_init : ByteArray := prog_3_method_1_code
def yX1_init : MethodName := ⟨RX1, "<init>", "(I)V"⟩
abbrev cX1_copyFrom : ByteArray := prog_3_method_2_code
def yX1_copyFrom : MethodName := ⟨RX1, "copyFrom", "(LTeaChests$Chest;)V"⟩
abbrev cX1_room : ByteArray := prog_3_method_3_code
def yX1_room : MethodName := ⟨RX1, "room", "()I"⟩
abbrev cX1_isThere : ByteArray := prog_3_method_4_code
def yX1_isThere : MethodName := ⟨RX1, "isThere", "()Z"⟩
abbrev cX1_isTight : ByteArray := prog_3_method_5_code
def yX1_isTight : MethodName := ⟨RX1, "isTight", "()Z"⟩
abbrev cX1_hasLabel : ByteArray := prog_3_method_6_code
def yX1_hasLabel : MethodName := ⟨RX1, "hasLabel", "()Z"⟩
abbrev cX1_coins : ByteArray := prog_3_method_7_code
def yX1_coins : MethodName := ⟨RX1, "coins", "()I"⟩
abbrev cX1_putIn : ByteArray := prog_3_method_8_code
def yX1_putIn : MethodName := ⟨RX1, "putIn", "(III)V"⟩
abbrev cX1_takeAllOut : ByteArray := prog_3_method_9_code
def yX1_takeAllOut : MethodName := ⟨RX1, "takeAllOut", "()V"⟩
abbrev cX1_writeLabel : ByteArray := prog_3_method_10_code
def yX1_writeLabel : MethodName := ⟨RX1, "writeLabel", "()V"⟩
abbrev cX1_becomeDamper : ByteArray := prog_3_method_11_code
def yX1_becomeDamper : MethodName := ⟨RX1, "becomeDamper", "()V"⟩
abbrev cX1_ranksBefore : ByteArray := prog_3_method_12_code
def yX1_ranksBefore : MethodName := ⟨RX1, "ranksBefore", "(LTeaChests$Chest;)Z"⟩
def RX2 : String := "TeaChests$CommandText"
def TX2 : u_T := fun k => match k with
  | 0 => ("TeaChests$CommandText", "signs", "[C", true)
  | 1 => ("TeaChests$CommandText", "length", "I", false)
  | 2 => ("TeaChests$CommandText", "at", "I", false)
  | 3 => ("TeaChests$CommandText", "farthest", "I", false)
  | 4 => ("TeaChests$CommandText", "verb", "LTeaChests$Verb;", false)
  | 5 => ("TeaChests$CommandText", "chest", "I", false)
  | 6 => ("TeaChests$CommandText", "garden", "I", false)
  | 7 => ("TeaChests$CommandText", "kind", "I", false)
  | _ => ("TeaChests$CommandText", "many", "I", false)
def tyX2 : Nat → FieldType := fun k => match k with
  | 0 => .array .char
  | 1 => .int
  | 2 => .int
  | 3 => .int
  | 4 => .object "TeaChests$Verb"
  | 5 => .int
  | 6 => .int
  | 7 => .int
  | _ => .int
abbrev wsX20 : List Cond := u_ws RX2 TX2 9
theorem nmX2 : ∀ a, a < 9 → ∀ b, b < 9 → a ≠ b → (TX2 a).2.1 ≠ (TX2 b).2.1 := by decide +kernel
theorem tyX2_ok : ∀ k, k < 9 → parseFieldDescriptor (TX2 k).2.2.1 = some (tyX2 k) := by decide +kernel
abbrev cX2_init : ByteArray := prog_4_method_1_code
def yX2_init : MethodName := ⟨RX2, "<init>", "()V"⟩
abbrev cX2_append : ByteArray := prog_4_method_2_code
def yX2_append : MethodName := ⟨RX2, "append", "(C)Z"⟩
abbrev cX2_clear : ByteArray := prog_4_method_3_code
def yX2_clear : MethodName := ⟨RX2, "clear", "()V"⟩
abbrev cX2_rewind : ByteArray := prog_4_method_4_code
def yX2_rewind : MethodName := ⟨RX2, "rewind", "()V"⟩
abbrev cX2_countCommands : ByteArray := prog_4_method_5_code
def yX2_countCommands : MethodName := ⟨RX2, "countCommands", "()I"⟩
abbrev cX2_readCommand : ByteArray := prog_4_method_6_code
def yX2_readCommand : MethodName := ⟨RX2, "readCommand", "()Z"⟩
abbrev cX2_readSign : ByteArray := prog_4_method_7_code
def yX2_readSign : MethodName := ⟨RX2, "readSign", "(C)Z"⟩
abbrev cX2_signAt : ByteArray := prog_4_method_8_code
def yX2_signAt : MethodName := ⟨RX2, "signAt", "(I)I"⟩
abbrev cX2_readLeaf : ByteArray := prog_4_method_9_code
def yX2_readLeaf : MethodName := ⟨RX2, "readLeaf", "()Z"⟩
abbrev cX2_readChest : ByteArray := prog_4_method_10_code
def yX2_readChest : MethodName := ⟨RX2, "readChest", "()Z"⟩
abbrev cX2_readManyAsNumber : ByteArray := prog_4_method_11_code
def yX2_readManyAsNumber : MethodName := ⟨RX2, "readManyAsNumber", "()Z"⟩
abbrev cX2_readManyAsDigit : ByteArray := prog_4_method_12_code
def yX2_readManyAsDigit : MethodName := ⟨RX2, "readManyAsDigit", "()Z"⟩
abbrev cX2_readNumber : ByteArray := prog_4_method_13_code
def yX2_readNumber : MethodName := ⟨RX2, "readNumber", "()I"⟩
abbrev cX2_readDigit : ByteArray := prog_4_method_14_code
def yX2_readDigit : MethodName := ⟨RX2, "readDigit", "()I"⟩
abbrev cX2_readVerb : ByteArray := prog_4_method_15_code
def yX2_readVerb : MethodName := ⟨RX2, "readVerb", "()LTeaChests$Verb;"⟩
abbrev cX2_readKind : ByteArray := prog_4_method_16_code
def yX2_readKind : MethodName := ⟨RX2, "readKind", "()Z"⟩
abbrev cX2_readWord : ByteArray := prog_4_method_17_code
def yX2_readWord : MethodName := ⟨RX2, "readWord", "(Ljava/lang/String;)Z"⟩
def RX3 : String := "TeaChests$History"
def TX3 : u_T := fun k => match k with
  | 0 => ("TeaChests$History", "rows", "[LTeaChests$House;", true)
  | 1 => ("TeaChests$History", "committed", "I", false)
  | _ => ("TeaChests$History", "changes", "I", false)
def tyX3 : Nat → FieldType := fun k => match k with
  | 0 => .array (.object "TeaChests$House")
  | 1 => .int
  | _ => .int
abbrev wsX30 : List Cond := u_ws RX3 TX3 3
theorem nmX3 : ∀ a, a < 3 → ∀ b, b < 3 → a ≠ b → (TX3 a).2.1 ≠ (TX3 b).2.1 := by decide +kernel
theorem tyX3_ok : ∀ k, k < 3 → parseFieldDescriptor (TX3 k).2.2.1 = some (tyX3 k) := by decide +kernel
abbrev cX3_init : ByteArray := prog_5_method_1_code
def yX3_init : MethodName := ⟨RX3, "<init>", "()V"⟩
abbrev cX3_spareRow : ByteArray := prog_5_method_2_code
def yX3_spareRow : MethodName := ⟨RX3, "spareRow", "()LTeaChests$House;"⟩
abbrev cX3_prepare : ByteArray := prog_5_method_3_code
def yX3_prepare : MethodName := ⟨RX3, "prepare", "(LTeaChests$House;)V"⟩
abbrev cX3_commit : ByteArray := prog_5_method_4_code
def yX3_commit : MethodName := ⟨RX3, "commit", "()V"⟩
abbrev cX3_dropPrepared : ByteArray := prog_5_method_5_code
def yX3_dropPrepared : MethodName := ⟨RX3, "dropPrepared", "(LTeaChests$House;)V"⟩
abbrev cX3_takeBack : ByteArray := prog_5_method_6_code
def yX3_takeBack : MethodName := ⟨RX3, "takeBack", "(LTeaChests$House;)Z"⟩
abbrev cX3_forget : ByteArray := prog_5_method_7_code
def yX3_forget : MethodName := ⟨RX3, "forget", "()V"⟩
def RX4 : String := "TeaChests$House"
def TX4 : u_T := fun k => match k with
  | 0 => ("TeaChests$House", "store", "[I", true)
  | 1 => ("TeaChests$House", "chests", "[LTeaChests$Chest;", true)
  | 2 => ("TeaChests$House", "made", "I", false)
  | 3 => ("TeaChests$House", "sheets", "I", false)
  | 4 => ("TeaChests$House", "screws", "I", false)
  | 5 => ("TeaChests$House", "clock", "I", false)
  | 6 => ("TeaChests$House", "humidity", "I", false)
  | 7 => ("TeaChests$House", "coins", "I", false)
  | 8 => ("TeaChests$House", "shipsSailed", "I", false)
  | 9 => ("TeaChests$House", "poundsBrought", "I", false)
  | 10 => ("TeaChests$House", "poundsSailed", "I", false)
  | 11 => ("TeaChests$House", "poundsThrown", "I", false)
  | 12 => ("TeaChests$House", "reason", "I", false)
  | _ => ("TeaChests$House", "detail", "I", false)
def tyX4 : Nat → FieldType := fun k => match k with
  | 0 => .array .int
  | 1 => .array (.object "TeaChests$Chest")
  | 2 => .int
  | 3 => .int
  | 4 => .int
  | 5 => .int
  | 6 => .int
  | 7 => .int
  | 8 => .int
  | 9 => .int
  | 10 => .int
  | 11 => .int
  | 12 => .int
  | _ => .int
abbrev wsX40 : List Cond := u_ws RX4 TX4 14
theorem nmX4 : ∀ a, a < 14 → ∀ b, b < 14 → a ≠ b → (TX4 a).2.1 ≠ (TX4 b).2.1 := by decide +kernel
theorem tyX4_ok : ∀ k, k < 14 → parseFieldDescriptor (TX4 k).2.2.1 = some (tyX4 k) := by decide +kernel
abbrev cX4_init : ByteArray := prog_6_method_1_code
def yX4_init : MethodName := ⟨RX4, "<init>", "()V"⟩
abbrev cX4_copyFrom : ByteArray := prog_6_method_2_code
def yX4_copyFrom : MethodName := ⟨RX4, "copyFrom", "(LTeaChests$House;)V"⟩
abbrev cX4_isLeaf : ByteArray := prog_6_method_3_code
def yX4_isLeaf : MethodName := ⟨RX4, "isLeaf", "(II)Z"⟩
abbrev cX4_stored : ByteArray := prog_6_method_4_code
def yX4_stored : MethodName := ⟨RX4, "stored", "(II)I"⟩
abbrev cX4_addToStore : ByteArray := prog_6_method_5_code
def yX4_addToStore : MethodName := ⟨RX4, "addToStore", "(III)V"⟩
abbrev cX4_storedOf : ByteArray := prog_6_method_6_code
def yX4_storedOf : MethodName := ⟨RX4, "storedOf", "(I)I"⟩
abbrev cX4_isBetterGarden : ByteArray := prog_6_method_7_code
def yX4_isBetterGarden : MethodName := ⟨RX4, "isBetterGarden", "(II)Z"⟩
abbrev cX4_poundsStored : ByteArray := prog_6_method_8_code
def yX4_poundsStored : MethodName := ⟨RX4, "poundsStored", "()I"⟩
abbrev cX4_tryBring : ByteArray := prog_6_method_9_code
def yX4_tryBring : MethodName := ⟨RX4, "tryBring", "(III)Z"⟩
abbrev cX4_addSheets : ByteArray := prog_6_method_10_code
def yX4_addSheets : MethodName := ⟨RX4, "addSheets", "(I)V"⟩
abbrev cX4_addScrews : ByteArray := prog_6_method_11_code
def yX4_addScrews : MethodName := ⟨RX4, "addScrews", "(I)V"⟩
abbrev cX4_refuse : ByteArray := prog_6_method_12_code
def yX4_refuse : MethodName := ⟨RX4, "refuse", "(II)Z"⟩
abbrev cX4_isInHouse : ByteArray := prog_6_method_13_code
def yX4_isInHouse : MethodName := ⟨RX4, "isInHouse", "(LTeaChests$Chest;)Z"⟩
abbrev cX4_isUnscrewed : ByteArray := prog_6_method_14_code
def yX4_isUnscrewed : MethodName := ⟨RX4, "isUnscrewed", "(LTeaChests$Chest;)Z"⟩
abbrev cX4_isUnlined : ByteArray := prog_6_method_15_code
def yX4_isUnlined : MethodName := ⟨RX4, "isUnlined", "(LTeaChests$Chest;)Z"⟩
abbrev cX4_hasSheets : ByteArray := prog_6_method_16_code
def yX4_hasSheets : MethodName := ⟨RX4, "hasSheets", "(I)Z"⟩
abbrev cX4_hasNoOtherLeaves : ByteArray := prog_6_method_17_code
def yX4_hasNoOtherLeaves : MethodName := ⟨RX4, "hasNoOtherLeaves", "(LTeaChests$Chest;II)Z"⟩
abbrev cX4_hasRoom : ByteArray := prog_6_method_18_code
def yX4_hasRoom : MethodName := ⟨RX4, "hasRoom", "(LTeaChests$Chest;I)Z"⟩
abbrev cX4_hasPounds : ByteArray := prog_6_method_19_code
def yX4_hasPounds : MethodName := ⟨RX4, "hasPounds", "(III)Z"⟩
abbrev cX4_isFilled : ByteArray := prog_6_method_20_code
def yX4_isFilled : MethodName := ⟨RX4, "isFilled", "(LTeaChests$Chest;)Z"⟩
abbrev cX4_hasScrews : ByteArray := prog_6_method_21_code
def yX4_hasScrews : MethodName := ⟨RX4, "hasScrews", "(I)Z"⟩
abbrev cX4_takesScrews : ByteArray := prog_6_method_22_code
def yX4_takesScrews : MethodName := ⟨RX4, "takesScrews", "(LTeaChests$Chest;I)Z"⟩
abbrev cX4_isReadyForQuay : ByteArray := prog_6_method_23_code
def yX4_isReadyForQuay : MethodName := ⟨RX4, "isReadyForQuay", "(LTeaChests$Chest;)Z"⟩
abbrev cX4_isOnQuay : ByteArray := prog_6_method_24_code
def yX4_isOnQuay : MethodName := ⟨RX4, "isOnQuay", "(LTeaChests$Chest;)Z"⟩
abbrev cX4_isShipReached : ByteArray := prog_6_method_25_code
def yX4_isShipReached : MethodName := ⟨RX4, "isShipReached", "()Z"⟩
abbrev cX4_hasShipRoom : ByteArray := prog_6_method_26_code
def yX4_hasShipRoom : MethodName := ⟨RX4, "hasShipRoom", "(I)Z"⟩
abbrev cX4_isShipLoaded : ByteArray := prog_6_method_27_code
def yX4_isShipLoaded : MethodName := ⟨RX4, "isShipLoaded", "()Z"⟩
abbrev cX4_find : ByteArray := prog_6_method_28_code
def yX4_find : MethodName := ⟨RX4, "find", "(I)LTeaChests$Chest;"⟩
abbrev cX4_tryMake : ByteArray := prog_6_method_29_code
def yX4_tryMake : MethodName := ⟨RX4, "tryMake", "(I)Z"⟩
abbrev cX4_tryLine : ByteArray := prog_6_method_30_code
def yX4_tryLine : MethodName := ⟨RX4, "tryLine", "(LTeaChests$Chest;)Z"⟩
abbrev cX4_tryFill : ByteArray := prog_6_method_31_code
def yX4_tryFill : MethodName := ⟨RX4, "tryFill", "(LTeaChests$Chest;III)Z"⟩
abbrev cX4_tryEmpty : ByteArray := prog_6_method_32_code
def yX4_tryEmpty : MethodName := ⟨RX4, "tryEmpty", "(LTeaChests$Chest;)Z"⟩
abbrev cX4_tryScrew : ByteArray := prog_6_method_33_code
def yX4_tryScrew : MethodName := ⟨RX4, "tryScrew", "(LTeaChests$Chest;I)Z"⟩
abbrev cX4_tryUnscrew : ByteArray := prog_6_method_34_code
def yX4_tryUnscrew : MethodName := ⟨RX4, "tryUnscrew", "(LTeaChests$Chest;)Z"⟩
abbrev cX4_tryLabel : ByteArray := prog_6_method_35_code
def yX4_tryLabel : MethodName := ⟨RX4, "tryLabel", "(LTeaChests$Chest;)Z"⟩
abbrev cX4_chestAtPlace : ByteArray := prog_6_method_36_code
def yX4_chestAtPlace : MethodName := ⟨RX4, "chestAtPlace", "(I)I"⟩
abbrev cX4_placeOf : ByteArray := prog_6_method_37_code
def yX4_placeOf : MethodName := ⟨RX4, "placeOf", "(LTeaChests$Chest;)I"⟩
abbrev cX4_chestsAt : ByteArray := prog_6_method_38_code
def yX4_chestsAt : MethodName := ⟨RX4, "chestsAt", "(I)I"⟩
abbrev cX4_poundsInChests : ByteArray := prog_6_method_39_code
def yX4_poundsInChests : MethodName := ⟨RX4, "poundsInChests", "()I"⟩
abbrev cX4_filledChests : ByteArray := prog_6_method_40_code
def yX4_filledChests : MethodName := ⟨RX4, "filledChests", "()I"⟩
abbrev cX4_sumOfDamp : ByteArray := prog_6_method_41_code
def yX4_sumOfDamp : MethodName := ⟨RX4, "sumOfDamp", "()I"⟩
abbrev cX4_tryToQuay : ByteArray := prog_6_method_42_code
def yX4_tryToQuay : MethodName := ⟨RX4, "tryToQuay", "(LTeaChests$Chest;)Z"⟩
abbrev cX4_tryLoad : ByteArray := prog_6_method_43_code
def yX4_tryLoad : MethodName := ⟨RX4, "tryLoad", "(LTeaChests$Chest;)Z"⟩
abbrev cX4_trySail : ByteArray := prog_6_method_44_code
def yX4_trySail : MethodName := ⟨RX4, "trySail", "()Z"⟩
abbrev cX4_shipRoom : ByteArray := prog_6_method_45_code
def yX4_shipRoom : MethodName := ⟨RX4, "shipRoom", "()I"⟩
abbrev cX4_shipCoins : ByteArray := prog_6_method_46_code
def yX4_shipCoins : MethodName := ⟨RX4, "shipCoins", "()I"⟩
abbrev cX4_isOutsideInOrder : ByteArray := prog_6_method_47_code
def yX4_isOutsideInOrder : MethodName := ⟨RX4, "isOutsideInOrder", "()Z"⟩
abbrev cX4_heightIn : ByteArray := prog_6_method_48_code
def yX4_heightIn : MethodName := ⟨RX4, "heightIn", "(I)I"⟩
abbrev cX4_letPass : ByteArray := prog_6_method_49_code
def yX4_letPass : MethodName := ⟨RX4, "letPass", "(I)Z"⟩
abbrev cX4_letDampIn : ByteArray := prog_6_method_50_code
def yX4_letDampIn : MethodName := ⟨RX4, "letDampIn", "()V"⟩
def RX5 : String := "TeaChests$Kind"
def TX5 : u_T := fun k => match k with
  | _ => ("", "", "", false)
def tyX5 : Nat → FieldType := fun k => match k with
  | _ => .int
abbrev wsX50 : List Cond := u_ws RX5 TX5 0
theorem nmX5 : ∀ a, a < 0 → ∀ b, b < 0 → a ≠ b → (TX5 a).2.1 ≠ (TX5 b).2.1 := by decide +kernel
theorem tyX5_ok : ∀ k, k < 0 → parseFieldDescriptor (TX5 k).2.2.1 = some (tyX5 k) := by decide +kernel
def RX6 : String := "TeaChests$Verb"
def TX6 : u_T := fun k => match k with
  | _ => ("", "", "", false)
def tyX6 : Nat → FieldType := fun k => match k with
  | _ => .int
abbrev wsX60 : List Cond := u_ws RX6 TX6 0
theorem nmX6 : ∀ a, a < 0 → ∀ b, b < 0 → a ≠ b → (TX6 a).2.1 ≠ (TX6 b).2.1 := by decide +kernel
theorem tyX6_ok : ∀ k, k < 0 → parseFieldDescriptor (TX6 k).2.2.1 = some (tyX6 k) := by decide +kernel
def RX7 : String := "TeaChests"
def TX7 : u_T := fun k => match k with
  | 0 => ("TeaChests", "house", "LTeaChests$House;", true)
  | 1 => ("TeaChests", "saved", "LTeaChests$House;", true)
  | 2 => ("TeaChests", "isSaved", "Z", false)
  | 3 => ("TeaChests", "history", "LTeaChests$History;", true)
  | _ => ("TeaChests", "text", "LTeaChests$CommandText;", true)
def tyX7 : Nat → FieldType := fun k => match k with
  | 0 => .object "TeaChests$House"
  | 1 => .object "TeaChests$House"
  | 2 => .boolean
  | 3 => .object "TeaChests$History"
  | _ => .object "TeaChests$CommandText"
abbrev wsX70 : List Cond := u_ws RX7 TX7 5
theorem nmX7 : ∀ a, a < 5 → ∀ b, b < 5 → a ≠ b → (TX7 a).2.1 ≠ (TX7 b).2.1 := by decide +kernel
theorem tyX7_ok : ∀ k, k < 5 → parseFieldDescriptor (TX7 k).2.2.1 = some (tyX7 k) := by decide +kernel
abbrev cX7_init : ByteArray := prog_1_method_1_code
def yX7_init : MethodName := ⟨RX7, "<init>", "()V"⟩
abbrev cX7_bring : ByteArray := prog_1_method_2_code
def yX7_bring : MethodName := ⟨RX7, "bring", "(III)I"⟩
abbrev cX7_leaves : ByteArray := prog_1_method_3_code
def yX7_leaves : MethodName := ⟨RX7, "leaves", "(II)I"⟩
abbrev cX7_bestGarden : ByteArray := prog_1_method_4_code
def yX7_bestGarden : MethodName := ⟨RX7, "bestGarden", "()I"⟩
abbrev cX7_buy : ByteArray := prog_1_method_5_code
def yX7_buy : MethodName := ⟨RX7, "buy", "(ZI)I"⟩
abbrev cX7_make : ByteArray := prog_1_method_6_code
def yX7_make : MethodName := ⟨RX7, "make", "(I)I"⟩
abbrev cX7_line : ByteArray := prog_1_method_7_code
def yX7_line : MethodName := ⟨RX7, "line", "(I)I"⟩
abbrev cX7_fill : ByteArray := prog_1_method_8_code
def yX7_fill : MethodName := ⟨RX7, "fill", "(IIII)I"⟩
abbrev cX7_empty : ByteArray := prog_1_method_9_code
def yX7_empty : MethodName := ⟨RX7, "empty", "(I)I"⟩
abbrev cX7_screw : ByteArray := prog_1_method_10_code
def yX7_screw : MethodName := ⟨RX7, "screw", "(II)Z"⟩
abbrev cX7_unscrew : ByteArray := prog_1_method_11_code
def yX7_unscrew : MethodName := ⟨RX7, "unscrew", "(I)I"⟩
abbrev cX7_label : ByteArray := prog_1_method_12_code
def yX7_label : MethodName := ⟨RX7, "label", "(I)I"⟩
abbrev cX7_labelled : ByteArray := prog_1_method_13_code
def yX7_labelled : MethodName := ⟨RX7, "labelled", "(II)C"⟩
abbrev cX7_chest : ByteArray := prog_1_method_14_code
def yX7_chest : MethodName := ⟨RX7, "chest", "(II)I"⟩
abbrev cX7_worth : ByteArray := prog_1_method_15_code
def yX7_worth : MethodName := ⟨RX7, "worth", "(I)I"⟩
abbrev cX7_ranked : ByteArray := prog_1_method_16_code
def yX7_ranked : MethodName := ⟨RX7, "ranked", "(I)I"⟩
abbrev cX7_toQuay : ByteArray := prog_1_method_17_code
def yX7_toQuay : MethodName := ⟨RX7, "toQuay", "(I)I"⟩
abbrev cX7_load : ByteArray := prog_1_method_18_code
def yX7_load : MethodName := ⟨RX7, "load", "(I)I"⟩
abbrev cX7_sail : ByteArray := prog_1_method_19_code
def yX7_sail : MethodName := ⟨RX7, "sail", "()I"⟩
abbrev cX7_cargo : ByteArray := prog_1_method_20_code
def yX7_cargo : MethodName := ⟨RX7, "cargo", "()I"⟩
abbrev cX7_height : ByteArray := prog_1_method_21_code
def yX7_height : MethodName := ⟨RX7, "height", "(I)I"⟩
abbrev cX7_heightAgain : ByteArray := prog_1_method_22_code
def yX7_heightAgain : MethodName := ⟨RX7, "heightAgain", "(I)I"⟩
abbrev cX7_reachedIn : ByteArray := prog_1_method_23_code
def yX7_reachedIn : MethodName := ⟨RX7, "reachedIn", "()I"⟩
abbrev cX7_setHumidity : ByteArray := prog_1_method_24_code
def yX7_setHumidity : MethodName := ⟨RX7, "setHumidity", "(I)I"⟩
abbrev cX7_pass : ByteArray := prog_1_method_25_code
def yX7_pass : MethodName := ⟨RX7, "pass", "(I)I"⟩
abbrev cX7_isWell : ByteArray := prog_1_method_26_code
def yX7_isWell : MethodName := ⟨RX7, "isWell", "()Z"⟩
abbrev cX7_meanDamp : ByteArray := prog_1_method_27_code
def yX7_meanDamp : MethodName := ⟨RX7, "meanDamp", "()D"⟩
abbrev cX7_sailedShare : ByteArray := prog_1_method_28_code
def yX7_sailedShare : MethodName := ⟨RX7, "sailedShare", "()F"⟩
abbrev cX7_reason : ByteArray := prog_1_method_29_code
def yX7_reason : MethodName := ⟨RX7, "reason", "(Z)I"⟩
abbrev cX7_account : ByteArray := prog_1_method_30_code
def yX7_account : MethodName := ⟨RX7, "account", "(I)I"⟩
abbrev cX7_feed : ByteArray := prog_1_method_31_code
def yX7_feed : MethodName := ⟨RX7, "feed", "(C)I"⟩
abbrev cX7_perform : ByteArray := prog_1_method_32_code
def yX7_perform : MethodName := ⟨RX7, "perform", "()I"⟩
abbrev cX7_undo : ByteArray := prog_1_method_33_code
def yX7_undo : MethodName := ⟨RX7, "undo", "()I"⟩
abbrev cX7_save : ByteArray := prog_1_method_34_code
def yX7_save : MethodName := ⟨RX7, "save", "()I"⟩
abbrev cX7_restore : ByteArray := prog_1_method_35_code
def yX7_restore : MethodName := ⟨RX7, "restore", "()I"⟩
abbrev cX7_isWithin : ByteArray := prog_1_method_36_code
def yX7_isWithin : MethodName := ⟨RX7, "isWithin", "(III)Z"⟩
abbrev cX7_needRange : ByteArray := prog_1_method_37_code
def yX7_needRange : MethodName := ⟨RX7, "needRange", "(III)V"⟩
abbrev cX7_needLeaf : ByteArray := prog_1_method_38_code
def yX7_needLeaf : MethodName := ⟨RX7, "needLeaf", "(II)V"⟩
abbrev cX7_needChest : ByteArray := prog_1_method_39_code
def yX7_needChest : MethodName := ⟨RX7, "needChest", "(I)LTeaChests$Chest;"⟩
abbrev cX7_keepChange : ByteArray := prog_1_method_40_code
def yX7_keepChange : MethodName := ⟨RX7, "keepChange", "()V"⟩
abbrev cX7_conclude : ByteArray := prog_1_method_41_code
def yX7_conclude : MethodName := ⟨RX7, "conclude", "(Z)V"⟩
abbrev cX7_carryOutAll : ByteArray := prog_1_method_42_code
def yX7_carryOutAll : MethodName := ⟨RX7, "carryOutAll", "(I)I"⟩
abbrev cX7_carryOutRead : ByteArray := prog_1_method_43_code
def yX7_carryOutRead : MethodName := ⟨RX7, "carryOutRead", "()Z"⟩
def RX8 : String := "TeaChestsModel"
def TX8 : u_T := fun k => match k with
  | 0 => ("TeaChestsModel", "thrown", "I", false)
  | 1 => ("TeaChestsModel", "fails", "I", false)
  | 2 => ("TeaChestsModel", "changes", "I", false)
  | 3 => ("TeaChestsModel", "why", "I", false)
  | 4 => ("TeaChestsModel", "detail", "I", false)
  | 5 => ("TeaChestsModel", "lastWhy", "I", false)
  | 6 => ("TeaChestsModel", "lastDetail", "I", false)
  | 7 => ("TeaChestsModel", "isSaved", "Z", false)
  | 8 => ("TeaChestsModel", "v", "[I", true)
  | 9 => ("TeaChestsModel", "before", "[I", true)
  | 10 => ("TeaChestsModel", "saved", "[I", true)
  | 11 => ("TeaChestsModel", "past", "[I", true)
  | 12 => ("TeaChestsModel", "label", "[I", true)
  | 13 => ("TeaChestsModel", "labelN", "I", false)
  | 14 => ("TeaChestsModel", "input", "[I", true)
  | 15 => ("TeaChestsModel", "told", "[I", true)
  | 16 => ("TeaChestsModel", "signs", "[I", true)
  | 17 => ("TeaChestsModel", "inputN", "I", false)
  | 18 => ("TeaChestsModel", "here", "I", false)
  | 19 => ("TeaChestsModel", "isWrong", "Z", false)
  | _ => ("TeaChestsModel", "isDoing", "Z", false)
def tyX8 : Nat → FieldType := fun k => match k with
  | 0 => .int
  | 1 => .int
  | 2 => .int
  | 3 => .int
  | 4 => .int
  | 5 => .int
  | 6 => .int
  | 7 => .boolean
  | 8 => .array .int
  | 9 => .array .int
  | 10 => .array .int
  | 11 => .array .int
  | 12 => .array .int
  | 13 => .int
  | 14 => .array .int
  | 15 => .array .int
  | 16 => .array .int
  | 17 => .int
  | 18 => .int
  | 19 => .boolean
  | _ => .boolean
abbrev wsX80 : List Cond := u_ws RX8 TX8 21
theorem nmX8 : ∀ a, a < 21 → ∀ b, b < 21 → a ≠ b → (TX8 a).2.1 ≠ (TX8 b).2.1 := by decide +kernel
theorem tyX8_ok : ∀ k, k < 21 → parseFieldDescriptor (TX8 k).2.2.1 = some (tyX8 k) := by decide +kernel
abbrev cX8_init : ByteArray := prog_10_method_1_code
def yX8_init : MethodName := ⟨RX8, "<init>", "()V"⟩
abbrev cX8_thrown : ByteArray := prog_10_method_2_code
def yX8_thrown : MethodName := ⟨RX8, "thrown", "()I"⟩
abbrev cX8_no : ByteArray := prog_10_method_3_code
def yX8_no : MethodName := ⟨RX8, "no", "(I)I"⟩
abbrev cX8_fail : ByteArray := prog_10_method_4_code
def yX8_fail : MethodName := ⟨RX8, "fail", "(I)I"⟩
abbrev cX8_refuses : ByteArray := prog_10_method_5_code
def yX8_refuses : MethodName := ⟨RX8, "refuses", "(II)I"⟩
abbrev cX8_isIn : ByteArray := prog_10_method_6_code
def yX8_isIn : MethodName := ⟨RX8, "isIn", "(III)Z"⟩
abbrev cX8_lesser : ByteArray := prog_10_method_7_code
def yX8_lesser : MethodName := ⟨RX8, "lesser", "(II)I"⟩
abbrev cX8_lays : ByteArray := prog_10_method_8_code
def yX8_lays : MethodName := ⟨RX8, "lays", "([I[I)V"⟩
abbrev cX8_begins : ByteArray := prog_10_method_9_code
def yX8_begins : MethodName := ⟨RX8, "begins", "()V"⟩
abbrev cX8_ends : ByteArray := prog_10_method_10_code
def yX8_ends : MethodName := ⟨RX8, "ends", "(IIII)I"⟩
abbrev cX8_at : ByteArray := prog_10_method_11_code
def yX8_at : MethodName := ⟨RX8, "at", "(II)I"⟩
abbrev cX8_isChest : ByteArray := prog_10_method_12_code
def yX8_isChest : MethodName := ⟨RX8, "isChest", "(I)Z"⟩
abbrev cX8_isLeaf : ByteArray := prog_10_method_13_code
def yX8_isLeaf : MethodName := ⟨RX8, "isLeaf", "(II)Z"⟩
abbrev cX8_leaf : ByteArray := prog_10_method_14_code
def yX8_leaf : MethodName := ⟨RX8, "leaf", "(II)I"⟩
abbrev cX8_isEmpty : ByteArray := prog_10_method_15_code
def yX8_isEmpty : MethodName := ⟨RX8, "isEmpty", "(I)Z"⟩
abbrev cX8_isTight : ByteArray := prog_10_method_16_code
def yX8_isTight : MethodName := ⟨RX8, "isTight", "(I)Z"⟩
abbrev cX8_brings : ByteArray := prog_10_method_17_code
def yX8_brings : MethodName := ⟨RX8, "brings", "(III)I"⟩
abbrev cX8_bring : ByteArray := prog_10_method_18_code
def yX8_bring : MethodName := ⟨RX8, "bring", "(III)I"⟩
abbrev cX8_leaves : ByteArray := prog_10_method_19_code
def yX8_leaves : MethodName := ⟨RX8, "leaves", "(II)I"⟩
abbrev cX8_allOf : ByteArray := prog_10_method_20_code
def yX8_allOf : MethodName := ⟨RX8, "allOf", "(I)I"⟩
abbrev cX8_bestGarden : ByteArray := prog_10_method_21_code
def yX8_bestGarden : MethodName := ⟨RX8, "bestGarden", "()I"⟩
abbrev cX8_buys : ByteArray := prog_10_method_22_code
def yX8_buys : MethodName := ⟨RX8, "buys", "(II)I"⟩
abbrev cX8_buy : ByteArray := prog_10_method_23_code
def yX8_buy : MethodName := ⟨RX8, "buy", "(ZI)I"⟩
abbrev cX8_makes : ByteArray := prog_10_method_24_code
def yX8_makes : MethodName := ⟨RX8, "makes", "(I)I"⟩
abbrev cX8_make : ByteArray := prog_10_method_25_code
def yX8_make : MethodName := ⟨RX8, "make", "(I)I"⟩
abbrev cX8_isShut : ByteArray := prog_10_method_26_code
def yX8_isShut : MethodName := ⟨RX8, "isShut", "(I)Z"⟩
abbrev cX8_linesChest : ByteArray := prog_10_method_27_code
def yX8_linesChest : MethodName := ⟨RX8, "linesChest", "(I)I"⟩
abbrev cX8_line : ByteArray := prog_10_method_28_code
def yX8_line : MethodName := ⟨RX8, "line", "(I)I"⟩
abbrev cX8_fills : ByteArray := prog_10_method_29_code
def yX8_fills : MethodName := ⟨RX8, "fills", "(IIII)I"⟩
abbrev cX8_fill : ByteArray := prog_10_method_30_code
def yX8_fill : MethodName := ⟨RX8, "fill", "(IIII)I"⟩
abbrev cX8_empties : ByteArray := prog_10_method_31_code
def yX8_empties : MethodName := ⟨RX8, "empties", "(I)I"⟩
abbrev cX8_empty : ByteArray := prog_10_method_32_code
def yX8_empty : MethodName := ⟨RX8, "empty", "(I)I"⟩
abbrev cX8_screws : ByteArray := prog_10_method_33_code
def yX8_screws : MethodName := ⟨RX8, "screws", "(II)I"⟩
abbrev cX8_screw : ByteArray := prog_10_method_34_code
def yX8_screw : MethodName := ⟨RX8, "screw", "(II)Z"⟩
abbrev cX8_unscrews : ByteArray := prog_10_method_35_code
def yX8_unscrews : MethodName := ⟨RX8, "unscrews", "(I)I"⟩
abbrev cX8_unscrew : ByteArray := prog_10_method_36_code
def yX8_unscrew : MethodName := ⟨RX8, "unscrew", "(I)I"⟩
abbrev cX8_writes : ByteArray := prog_10_method_37_code
def yX8_writes : MethodName := ⟨RX8, "writes", "(I)V"⟩
abbrev cX8_writesLabel : ByteArray := prog_10_method_38_code
def yX8_writesLabel : MethodName := ⟨RX8, "writesLabel", "(I)V"⟩
abbrev cX8_labels : ByteArray := prog_10_method_39_code
def yX8_labels : MethodName := ⟨RX8, "labels", "(I)I"⟩
abbrev cX8_label : ByteArray := prog_10_method_40_code
def yX8_label : MethodName := ⟨RX8, "label", "(I)I"⟩
abbrev cX8_labelled : ByteArray := prog_10_method_41_code
def yX8_labelled : MethodName := ⟨RX8, "labelled", "(II)C"⟩
abbrev cX8_chest : ByteArray := prog_10_method_42_code
def yX8_chest : MethodName := ⟨RX8, "chest", "(II)I"⟩
abbrev cX8_worthOf : ByteArray := prog_10_method_43_code
def yX8_worthOf : MethodName := ⟨RX8, "worthOf", "(I)I"⟩
abbrev cX8_worth : ByteArray := prog_10_method_44_code
def yX8_worth : MethodName := ⟨RX8, "worth", "(I)I"⟩
abbrev cX8_isAhead : ByteArray := prog_10_method_45_code
def yX8_isAhead : MethodName := ⟨RX8, "isAhead", "(II)Z"⟩
abbrev cX8_ranked : ByteArray := prog_10_method_46_code
def yX8_ranked : MethodName := ⟨RX8, "ranked", "(I)I"⟩
abbrev cX8_withWhere : ByteArray := prog_10_method_47_code
def yX8_withWhere : MethodName := ⟨RX8, "withWhere", "(I)I"⟩
abbrev cX8_goesOut : ByteArray := prog_10_method_48_code
def yX8_goesOut : MethodName := ⟨RX8, "goesOut", "(I)I"⟩
abbrev cX8_toQuay : ByteArray := prog_10_method_49_code
def yX8_toQuay : MethodName := ⟨RX8, "toQuay", "(I)I"⟩
abbrev cX8_room : ByteArray := prog_10_method_50_code
def yX8_room : MethodName := ⟨RX8, "room", "()I"⟩
abbrev cX8_heightAt : ByteArray := prog_10_method_51_code
def yX8_heightAt : MethodName := ⟨RX8, "heightAt", "(I)I"⟩
abbrev cX8_loads : ByteArray := prog_10_method_52_code
def yX8_loads : MethodName := ⟨RX8, "loads", "(I)I"⟩
abbrev cX8_load : ByteArray := prog_10_method_53_code
def yX8_load : MethodName := ⟨RX8, "load", "(I)I"⟩
abbrev cX8_cargoOf : ByteArray := prog_10_method_54_code
def yX8_cargoOf : MethodName := ⟨RX8, "cargoOf", "()I"⟩
abbrev cX8_sails : ByteArray := prog_10_method_55_code
def yX8_sails : MethodName := ⟨RX8, "sails", "()I"⟩
abbrev cX8_sail : ByteArray := prog_10_method_56_code
def yX8_sail : MethodName := ⟨RX8, "sail", "()I"⟩
abbrev cX8_cargo : ByteArray := prog_10_method_57_code
def yX8_cargo : MethodName := ⟨RX8, "cargo", "()I"⟩
abbrev cX8_height : ByteArray := prog_10_method_58_code
def yX8_height : MethodName := ⟨RX8, "height", "(I)I"⟩
abbrev cX8_heightAgain : ByteArray := prog_10_method_59_code
def yX8_heightAgain : MethodName := ⟨RX8, "heightAgain", "(I)I"⟩
abbrev cX8_reachedIn : ByteArray := prog_10_method_60_code
def yX8_reachedIn : MethodName := ⟨RX8, "reachedIn", "()I"⟩
abbrev cX8_humid : ByteArray := prog_10_method_61_code
def yX8_humid : MethodName := ⟨RX8, "humid", "(I)I"⟩
abbrev cX8_setHumidity : ByteArray := prog_10_method_62_code
def yX8_setHumidity : MethodName := ⟨RX8, "setHumidity", "(I)I"⟩
abbrev cX8_hour : ByteArray := prog_10_method_63_code
def yX8_hour : MethodName := ⟨RX8, "hour", "()V"⟩
abbrev cX8_passes : ByteArray := prog_10_method_64_code
def yX8_passes : MethodName := ⟨RX8, "passes", "(I)I"⟩
abbrev cX8_pass : ByteArray := prog_10_method_65_code
def yX8_pass : MethodName := ⟨RX8, "pass", "(I)I"⟩
abbrev cX8_stored : ByteArray := prog_10_method_66_code
def yX8_stored : MethodName := ⟨RX8, "stored", "()I"⟩
abbrev cX8_packed : ByteArray := prog_10_method_67_code
def yX8_packed : MethodName := ⟨RX8, "packed", "()I"⟩
abbrev cX8_isWell : ByteArray := prog_10_method_68_code
def yX8_isWell : MethodName := ⟨RX8, "isWell", "()Z"⟩
abbrev cX8_meanDamp : ByteArray := prog_10_method_69_code
def yX8_meanDamp : MethodName := ⟨RX8, "meanDamp", "()D"⟩
abbrev cX8_sailedShare : ByteArray := prog_10_method_70_code
def yX8_sailedShare : MethodName := ⟨RX8, "sailedShare", "()F"⟩
abbrev cX8_reason : ByteArray := prog_10_method_71_code
def yX8_reason : MethodName := ⟨RX8, "reason", "(Z)I"⟩
abbrev cX8_account : ByteArray := prog_10_method_72_code
def yX8_account : MethodName := ⟨RX8, "account", "(I)I"⟩
abbrev cX8_feed : ByteArray := prog_10_method_73_code
def yX8_feed : MethodName := ⟨RX8, "feed", "(C)I"⟩
abbrev cX8_sign : ByteArray := prog_10_method_74_code
def yX8_sign : MethodName := ⟨RX8, "sign", "()I"⟩
abbrev cX8_word : ByteArray := prog_10_method_75_code
def yX8_word : MethodName := ⟨RX8, "word", "(II)I"⟩
abbrev cX8_number : ByteArray := prog_10_method_76_code
def yX8_number : MethodName := ⟨RX8, "number", "(I)I"⟩
abbrev cX8_mark : ByteArray := prog_10_method_77_code
def yX8_mark : MethodName := ⟨RX8, "mark", "(I)V"⟩
abbrev cX8_does : ByteArray := prog_10_method_78_code
def yX8_does : MethodName := ⟨RX8, "does", "(I)I"⟩
abbrev cX8_command : ByteArray := prog_10_method_79_code
def yX8_command : MethodName := ⟨RX8, "command", "()V"⟩
abbrev cX8_commands : ByteArray := prog_10_method_80_code
def yX8_commands : MethodName := ⟨RX8, "commands", "()I"⟩
abbrev cX8_perform : ByteArray := prog_10_method_81_code
def yX8_perform : MethodName := ⟨RX8, "perform", "()I"⟩
abbrev cX8_undo : ByteArray := prog_10_method_82_code
def yX8_undo : MethodName := ⟨RX8, "undo", "()I"⟩
abbrev cX8_save : ByteArray := prog_10_method_83_code
def yX8_save : MethodName := ⟨RX8, "save", "()I"⟩
abbrev cX8_restore : ByteArray := prog_10_method_84_code
def yX8_restore : MethodName := ⟨RX8, "restore", "()I"⟩
def RJx145de : String := "java/io/Serializable"
def TJx145de : u_T := fun k => match k with
  | _ => ("", "", "", false)
def tyJx145de : Nat → FieldType := fun k => match k with
  | _ => .int
abbrev wsJx145de0 : List Cond := u_ws RJx145de TJx145de 0
theorem nmJx145de : ∀ a, a < 0 → ∀ b, b < 0 → a ≠ b → (TJx145de a).2.1 ≠ (TJx145de b).2.1 := by decide +kernel
theorem tyJx145de_ok : ∀ k, k < 0 → parseFieldDescriptor (TJx145de k).2.2.1 = some (tyJx145de k) := by decide +kernel
def RJ5 : String := "java/lang/AbstractStringBuilder"
def TJ5 : u_T := fun k => match k with
  | _ => ("", "", "", false)
def tyJ5 : Nat → FieldType := fun k => match k with
  | _ => .int
abbrev wsJ50 : List Cond := u_ws RJ5 TJ5 0
theorem nmJ5 : ∀ a, a < 0 → ∀ b, b < 0 → a ≠ b → (TJ5 a).2.1 ≠ (TJ5 b).2.1 := by decide +kernel
theorem tyJ5_ok : ∀ k, k < 0 → parseFieldDescriptor (TJ5 k).2.2.1 = some (tyJ5 k) := by decide +kernel
abbrev cJ5_init_d00df : ByteArray := prog_12_method_2_code
def yJ5_init_d00df : MethodName := ⟨RJ5, "<init>", "(I)V"⟩
abbrev cJ5_length_8abf5 : ByteArray := prog_12_method_6_code
def yJ5_length_8abf5 : MethodName := ⟨RJ5, "length", "()I"⟩
abbrev cJ5_ensureCapacityInternal_d00df : ByteArray := prog_12_method_9_code
def yJ5_ensureCapacityInternal_d00df : MethodName := ⟨RJ5, "ensureCapacityInternal", "(I)V"⟩
abbrev cJ5_newCapacity_0f7a4 : ByteArray := prog_12_method_10_code
def yJ5_newCapacity_0f7a4 : MethodName := ⟨RJ5, "newCapacity", "(I)I"⟩
abbrev cJ5_inflate_da8c8 : ByteArray := prog_12_method_11_code
def yJ5_inflate_da8c8 : MethodName := ⟨RJ5, "inflate", "()V"⟩
abbrev cJ5_append_cf1ce : ByteArray := prog_12_method_22_code
def yJ5_append_cf1ce : MethodName := ⟨RJ5, "append", "(Ljava/lang/String;)Ljava/lang/AbstractStringBuilder;"⟩
abbrev cJ5_appendNull_278bc : ByteArray := prog_12_method_26_code
def yJ5_appendNull_278bc : MethodName := ⟨RJ5, "appendNull", "()Ljava/lang/AbstractStringBuilder;"⟩
abbrev cJ5_append_3fe6f : ByteArray := prog_12_method_31_code
def yJ5_append_3fe6f : MethodName := ⟨RJ5, "append", "(C)Ljava/lang/AbstractStringBuilder;"⟩
abbrev cJ5_append_c97b9 : ByteArray := prog_12_method_32_code
def yJ5_append_c97b9 : MethodName := ⟨RJ5, "append", "(I)Ljava/lang/AbstractStringBuilder;"⟩
abbrev cJ5_getValue_6d5f1 : ByteArray := prog_12_method_64_code
def yJ5_getValue_6d5f1 : MethodName := ⟨RJ5, "getValue", "()[B"⟩
abbrev cJ5_isLatin1_aae02 : ByteArray := prog_12_method_68_code
def yJ5_isLatin1_aae02 : MethodName := ⟨RJ5, "isLatin1", "()Z"⟩
abbrev cJ5_inflateIfNeededFor_a7421 : ByteArray := prog_12_method_71_code
def yJ5_inflateIfNeededFor_a7421 : MethodName := ⟨RJ5, "inflateIfNeededFor", "(Ljava/lang/String;)V"⟩
abbrev cJ5_putStringAt_47b60 : ByteArray := prog_12_method_73_code
def yJ5_putStringAt_47b60 : MethodName := ⟨RJ5, "putStringAt", "(ILjava/lang/String;)V"⟩
def RJx2cfe8 : String := "java/lang/Appendable"
def TJx2cfe8 : u_T := fun k => match k with
  | _ => ("", "", "", false)
def tyJx2cfe8 : Nat → FieldType := fun k => match k with
  | _ => .int
abbrev wsJx2cfe80 : List Cond := u_ws RJx2cfe8 TJx2cfe8 0
theorem nmJx2cfe8 : ∀ a, a < 0 → ∀ b, b < 0 → a ≠ b → (TJx2cfe8 a).2.1 ≠ (TJx2cfe8 b).2.1 := by decide +kernel
theorem tyJx2cfe8_ok : ∀ k, k < 0 → parseFieldDescriptor (TJx2cfe8 k).2.2.1 = some (tyJx2cfe8 k) := by decide +kernel
def RJx00060 : String := "java/lang/ArrayIndexOutOfBoundsException"
def TJx00060 : u_T := fun k => match k with
  | 0 => ("java/lang/Throwable", "backtrace", "Ljava/lang/Object;", false)
  | 1 => ("java/lang/Throwable", "detailMessage", "Ljava/lang/String;", false)
  | 2 => ("java/lang/Throwable", "cause", "Ljava/lang/Throwable;", false)
  | 3 => ("java/lang/Throwable", "stackTrace", "[Ljava/lang/StackTraceElement;", false)
  | 4 => ("java/lang/Throwable", "depth", "I", false)
  | _ => ("java/lang/Throwable", "suppressedExceptions", "Ljava/util/List;", false)
def tyJx00060 : Nat → FieldType := fun k => match k with
  | 0 => .object "java/lang/Object"
  | 1 => .object "java/lang/String"
  | 2 => .object "java/lang/Throwable"
  | 3 => .array (.object "java/lang/StackTraceElement")
  | 4 => .int
  | _ => .object "java/util/List"
abbrev wsJx000600 : List Cond := u_ws RJx00060 TJx00060 6
theorem nmJx00060 : ∀ a, a < 6 → ∀ b, b < 6 → a ≠ b → (TJx00060 a).2.1 ≠ (TJx00060 b).2.1 := by decide +kernel
theorem tyJx00060_ok : ∀ k, k < 6 → parseFieldDescriptor (TJx00060 k).2.2.1 = some (tyJx00060 k) := by decide +kernel
abbrev cJx00060_init_a7421 : ByteArray := prog_15_method_2_code
def yJx00060_init_a7421 : MethodName := ⟨RJx00060, "<init>", "(Ljava/lang/String;)V"⟩
def RJx9f9b0 : String := "java/lang/CharSequence"
def TJx9f9b0 : u_T := fun k => match k with
  | _ => ("", "", "", false)
def tyJx9f9b0 : Nat → FieldType := fun k => match k with
  | _ => .int
abbrev wsJx9f9b00 : List Cond := u_ws RJx9f9b0 TJx9f9b0 0
theorem nmJx9f9b0 : ∀ a, a < 0 → ∀ b, b < 0 → a ≠ b → (TJx9f9b0 a).2.1 ≠ (TJx9f9b0 b).2.1 := by decide +kernel
theorem tyJx9f9b0_ok : ∀ k, k < 0 → parseFieldDescriptor (TJx9f9b0 k).2.2.1 = some (tyJx9f9b0 k) := by decide +kernel
def RJx8e188 : String := "java/lang/Cloneable"
def TJx8e188 : u_T := fun k => match k with
  | _ => ("", "", "", false)
def tyJx8e188 : Nat → FieldType := fun k => match k with
  | _ => .int
abbrev wsJx8e1880 : List Cond := u_ws RJx8e188 TJx8e188 0
theorem nmJx8e188 : ∀ a, a < 0 → ∀ b, b < 0 → a ≠ b → (TJx8e188 a).2.1 ≠ (TJx8e188 b).2.1 := by decide +kernel
theorem tyJx8e188_ok : ∀ k, k < 0 → parseFieldDescriptor (TJx8e188 k).2.2.1 = some (tyJx8e188 k) := by decide +kernel
def RJxb160c : String := "java/lang/Comparable"
def TJxb160c : u_T := fun k => match k with
  | _ => ("", "", "", false)
def tyJxb160c : Nat → FieldType := fun k => match k with
  | _ => .int
abbrev wsJxb160c0 : List Cond := u_ws RJxb160c TJxb160c 0
theorem nmJxb160c : ∀ a, a < 0 → ∀ b, b < 0 → a ≠ b → (TJxb160c a).2.1 ≠ (TJxb160c b).2.1 := by decide +kernel
theorem tyJxb160c_ok : ∀ k, k < 0 → parseFieldDescriptor (TJxb160c k).2.2.1 = some (tyJxb160c k) := by decide +kernel
def RJx29ce0 : String := "java/lang/Enum"
def TJx29ce0 : u_T := fun k => match k with
  | _ => ("", "", "", false)
def tyJx29ce0 : Nat → FieldType := fun k => match k with
  | _ => .int
abbrev wsJx29ce00 : List Cond := u_ws RJx29ce0 TJx29ce0 0
theorem nmJx29ce0 : ∀ a, a < 0 → ∀ b, b < 0 → a ≠ b → (TJx29ce0 a).2.1 ≠ (TJx29ce0 b).2.1 := by decide +kernel
theorem tyJx29ce0_ok : ∀ k, k < 0 → parseFieldDescriptor (TJx29ce0 k).2.2.1 = some (tyJx29ce0 k) := by decide +kernel
abbrev cJx29ce0_ordinal_8abf5 : ByteArray := prog_19_method_2_code
def yJx29ce0_ordinal_8abf5 : MethodName := ⟨RJx29ce0, "ordinal", "()I"⟩
def RJ6 : String := "java/lang/Integer"
def TJ6 : u_T := fun k => match k with
  | _ => ("", "", "", false)
def tyJ6 : Nat → FieldType := fun k => match k with
  | _ => .int
abbrev wsJ60 : List Cond := u_ws RJ6 TJ6 0
theorem nmJ6 : ∀ a, a < 0 → ∀ b, b < 0 → a ≠ b → (TJ6 a).2.1 ≠ (TJ6 b).2.1 := by decide +kernel
theorem tyJ6_ok : ∀ k, k < 0 → parseFieldDescriptor (TJ6 k).2.2.1 = some (tyJ6 k) := by decide +kernel
abbrev cJ6_getChars_ba4f3 : ByteArray := prog_24_method_12_code
def yJ6_getChars_ba4f3 : MethodName := ⟨RJ6, "getChars", "(II[B)I"⟩
abbrev cJ6_stringSize_0f7a4 : ByteArray := prog_24_method_13_code
def yJ6_stringSize_0f7a4 : MethodName := ⟨RJ6, "stringSize", "(I)I"⟩
def RJ9 : String := "java/lang/Math"
def TJ9 : u_T := fun k => match k with
  | _ => ("", "", "", false)
def tyJ9 : Nat → FieldType := fun k => match k with
  | _ => .int
abbrev wsJ90 : List Cond := u_ws RJ9 TJ9 0
theorem nmJ9 : ∀ a, a < 0 → ∀ b, b < 0 → a ≠ b → (TJ9 a).2.1 ≠ (TJ9 b).2.1 := by decide +kernel
theorem tyJ9_ok : ∀ k, k < 0 → parseFieldDescriptor (TJ9 k).2.2.1 = some (tyJ9 k) := by decide +kernel
abbrev cJ9_floorMod_7cf53 : ByteArray := prog_25_method_50_code
def yJ9_floorMod_7cf53 : MethodName := ⟨RJ9, "floorMod", "(II)I"⟩
abbrev cJ9_abs_0f7a4 : ByteArray := prog_25_method_59_code
def yJ9_abs_0f7a4 : MethodName := ⟨RJ9, "abs", "(I)I"⟩
abbrev cJ9_max_7cf53 : ByteArray := prog_25_method_65_code
def yJ9_max_7cf53 : MethodName := ⟨RJ9, "max", "(II)I"⟩
abbrev cJ9_min_7cf53 : ByteArray := prog_25_method_69_code
def yJ9_min_7cf53 : MethodName := ⟨RJ9, "min", "(II)I"⟩
def RJxd2413 : String := "java/lang/Number"
def TJxd2413 : u_T := fun k => match k with
  | _ => ("", "", "", false)
def tyJxd2413 : Nat → FieldType := fun k => match k with
  | _ => .int
abbrev wsJxd24130 : List Cond := u_ws RJxd2413 TJxd2413 0
theorem nmJxd2413 : ∀ a, a < 0 → ∀ b, b < 0 → a ≠ b → (TJxd2413 a).2.1 ≠ (TJxd2413 b).2.1 := by decide +kernel
theorem tyJxd2413_ok : ∀ k, k < 0 → parseFieldDescriptor (TJxd2413 k).2.2.1 = some (tyJxd2413 k) := by decide +kernel
def RJ0 : String := "java/lang/String"
def TJ0 : u_T := fun k => match k with
  | 0 => ("java/lang/String", "value", "[B", true)
  | 1 => ("java/lang/String", "coder", "B", true)
  | 2 => ("java/lang/String", "hash", "I", false)
  | _ => ("java/lang/String", "hashIsZero", "Z", false)
def tyJ0 : Nat → FieldType := fun k => match k with
  | 0 => .array .byte
  | 1 => .byte
  | 2 => .int
  | _ => .boolean
abbrev wsJ00 : List Cond := u_ws RJ0 TJ0 4
theorem nmJ0 : ∀ a, a < 4 → ∀ b, b < 4 → a ≠ b → (TJ0 a).2.1 ≠ (TJ0 b).2.1 := by decide +kernel
theorem tyJ0_ok : ∀ k, k < 4 → parseFieldDescriptor (TJ0 k).2.2.1 = some (tyJ0 k) := by decide +kernel
abbrev cJ0_init_81219 : ByteArray := prog_28_method_53_code
def yJ0_init_81219 : MethodName := ⟨RJ0, "<init>", "(Ljava/lang/StringBuilder;)V"⟩
abbrev cJ0_length_8abf5 : ByteArray := prog_28_method_54_code
def yJ0_length_8abf5 : MethodName := ⟨RJ0, "length", "()I"⟩
abbrev cJ0_isEmpty_aae02 : ByteArray := prog_28_method_55_code
def yJ0_isEmpty_aae02 : MethodName := ⟨RJ0, "isEmpty", "()Z"⟩
abbrev cJ0_charAt_5068e : ByteArray := prog_28_method_56_code
def yJ0_charAt_5068e : MethodName := ⟨RJ0, "charAt", "(I)C"⟩
abbrev cJ0_getBytes_840e7 : ByteArray := prog_28_method_147_code
def yJ0_getBytes_840e7 : MethodName := ⟨RJ0, "getBytes", "([BIB)V"⟩
abbrev cJ0_init_db425 : ByteArray := prog_28_method_150_code
def yJ0_init_db425 : MethodName := ⟨RJ0, "<init>", "(Ljava/lang/AbstractStringBuilder;Ljava/lang/Void;)V"⟩
abbrev cJ0_coder_7d493 : ByteArray := prog_28_method_152_code
def yJ0_coder_7d493 : MethodName := ⟨RJ0, "coder", "()B"⟩
abbrev cJ0_isLatin1_aae02 : ByteArray := prog_28_method_154_code
def yJ0_isLatin1_aae02 : MethodName := ⟨RJ0, "isLatin1", "()Z"⟩
abbrev cJ0_checkIndex_df160 : ByteArray := prog_28_method_155_code
def yJ0_checkIndex_df160 : MethodName := ⟨RJ0, "checkIndex", "(II)V"⟩
abbrev cJ0_checkBoundsOffCount_cabcc : ByteArray := prog_28_method_157_code
def yJ0_checkBoundsOffCount_cabcc : MethodName := ⟨RJ0, "checkBoundsOffCount", "(III)I"⟩
abbrev cJ0_checkBoundsBeginEnd_23922 : ByteArray := prog_28_method_158_code
def yJ0_checkBoundsBeginEnd_23922 : MethodName := ⟨RJ0, "checkBoundsBeginEnd", "(III)V"⟩
def RJ4 : String := "java/lang/StringBuilder"
def TJ4 : u_T := fun k => match k with
  | 0 => ("java/lang/AbstractStringBuilder", "value", "[B", false)
  | 1 => ("java/lang/AbstractStringBuilder", "coder", "B", false)
  | 2 => ("java/lang/AbstractStringBuilder", "maybeLatin1", "Z", false)
  | _ => ("java/lang/AbstractStringBuilder", "count", "I", false)
def tyJ4 : Nat → FieldType := fun k => match k with
  | 0 => .array .byte
  | 1 => .byte
  | 2 => .boolean
  | _ => .int
abbrev wsJ40 : List Cond := u_ws RJ4 TJ4 4
theorem nmJ4 : ∀ a, a < 4 → ∀ b, b < 4 → a ≠ b → (TJ4 a).2.1 ≠ (TJ4 b).2.1 := by decide +kernel
theorem tyJ4_ok : ∀ k, k < 4 → parseFieldDescriptor (TJ4 k).2.2.1 = some (tyJ4 k) := by decide +kernel
abbrev cJ4_init_da8c8 : ByteArray := prog_29_method_1_code
def yJ4_init_da8c8 : MethodName := ⟨RJ4, "<init>", "()V"⟩
abbrev cJ4_append_15ec4 : ByteArray := prog_29_method_7_code
def yJ4_append_15ec4 : MethodName := ⟨RJ4, "append", "(Ljava/lang/String;)Ljava/lang/StringBuilder;"⟩
abbrev cJ4_append_cf468 : ByteArray := prog_29_method_14_code
def yJ4_append_cf468 : MethodName := ⟨RJ4, "append", "(C)Ljava/lang/StringBuilder;"⟩
abbrev cJ4_append_bf812 : ByteArray := prog_29_method_15_code
def yJ4_append_bf812 : MethodName := ⟨RJ4, "append", "(I)Ljava/lang/StringBuilder;"⟩
abbrev cJ4_toString_0e30d : ByteArray := prog_29_method_42_code
def yJ4_toString_0e30d : MethodName := ⟨RJ4, "toString", "()Ljava/lang/String;"⟩
abbrev cJ4_length_8abf5 : ByteArray := prog_29_method_93_code
def yJ4_length_8abf5 : MethodName := ⟨RJ4, "length", "()I"⟩
def RJ1 : String := "java/lang/StringLatin1"
def TJ1 : u_T := fun k => match k with
  | _ => ("", "", "", false)
def tyJ1 : Nat → FieldType := fun k => match k with
  | _ => .int
abbrev wsJ10 : List Cond := u_ws RJ1 TJ1 0
theorem nmJ1 : ∀ a, a < 0 → ∀ b, b < 0 → a ≠ b → (TJ1 a).2.1 ≠ (TJ1 b).2.1 := by decide +kernel
theorem tyJ1_ok : ∀ k, k < 0 → parseFieldDescriptor (TJ1 k).2.2.1 = some (tyJ1 k) := by decide +kernel
abbrev cJ1_charAt_3b067 : ByteArray := prog_30_method_2_code
def yJ1_charAt_3b067 : MethodName := ⟨RJ1, "charAt", "([BI)C"⟩
abbrev cJ1_canEncode_fc78d : ByteArray := prog_30_method_3_code
def yJ1_canEncode_fc78d : MethodName := ⟨RJ1, "canEncode", "(C)Z"⟩
abbrev cJ1_inflate_0e8fd : ByteArray := prog_30_method_50_code
def yJ1_inflate_0e8fd : MethodName := ⟨RJ1, "inflate", "([BI[BII)V"⟩
def RJ2 : String := "java/lang/StringUTF16"
def TJ2 : u_T := fun k => match k with
  | _ => ("", "", "", false)
def tyJ2 : Nat → FieldType := fun k => match k with
  | _ => .int
abbrev wsJ20 : List Cond := u_ws RJ2 TJ2 0
theorem nmJ2 : ∀ a, a < 0 → ∀ b, b < 0 → a ≠ b → (TJ2 a).2.1 ≠ (TJ2 b).2.1 := by decide +kernel
theorem tyJ2_ok : ∀ k, k < 0 → parseFieldDescriptor (TJ2 k).2.2.1 = some (tyJ2 k) := by decide +kernel
abbrev cJ2_newBytesFor_77867 : ByteArray := prog_31_method_2_code
def yJ2_newBytesFor_77867 : MethodName := ⟨RJ2, "newBytesFor", "(I)[B"⟩
abbrev cJ2_newBytesLength_0f7a4 : ByteArray := prog_31_method_3_code
def yJ2_newBytesLength_0f7a4 : MethodName := ⟨RJ2, "newBytesLength", "(I)I"⟩
abbrev cJ2_putChar_b72d1 : ByteArray := prog_31_method_4_code
def yJ2_putChar_b72d1 : MethodName := ⟨RJ2, "putChar", "([BII)V"⟩
abbrev cJ2_getChar_3b067 : ByteArray := prog_31_method_5_code
def yJ2_getChar_3b067 : MethodName := ⟨RJ2, "getChar", "([BI)C"⟩
abbrev cJ2_length_9d52b : ByteArray := prog_31_method_6_code
def yJ2_length_9d52b : MethodName := ⟨RJ2, "length", "([B)I"⟩
abbrev cJ2_coderFromArrayLen_85cad : ByteArray := prog_31_method_15_code
def yJ2_coderFromArrayLen_85cad : MethodName := ⟨RJ2, "coderFromArrayLen", "([BI)B"⟩
abbrev cJ2_compress_39247 : ByteArray := prog_31_method_17_code
def yJ2_compress_39247 : MethodName := ⟨RJ2, "compress", "([BII)[B"⟩
abbrev cJ2_compress_5af95 : ByteArray := prog_31_method_22_code
def yJ2_compress_5af95 : MethodName := ⟨RJ2, "compress", "([BI[BII)I"⟩
abbrev cJ2_putCharSB_b72d1 : ByteArray := prog_31_method_71_code
def yJ2_putCharSB_b72d1 : MethodName := ⟨RJ2, "putCharSB", "([BII)V"⟩
abbrev cJ2_getChars_46870 : ByteArray := prog_31_method_77_code
def yJ2_getChars_46870 : MethodName := ⟨RJ2, "getChars", "(III[B)I"⟩
abbrev cJ2_putCharsAt_cd4e5 : ByteArray := prog_31_method_81_code
def yJ2_putCharsAt_cd4e5 : MethodName := ⟨RJ2, "putCharsAt", "([BICCCC)I"⟩
abbrev cJ2_charAt_3b067 : ByteArray := prog_31_method_83_code
def yJ2_charAt_3b067 : MethodName := ⟨RJ2, "charAt", "([BI)C"⟩
abbrev cJ2_inflate_0e8fd : ByteArray := prog_31_method_86_code
def yJ2_inflate_0e8fd : MethodName := ⟨RJ2, "inflate", "([BI[BII)V"⟩
abbrev cJ2_getChars_ba4f3 : ByteArray := prog_31_method_89_code
def yJ2_getChars_ba4f3 : MethodName := ⟨RJ2, "getChars", "(II[B)I"⟩
abbrev cJ2_checkIndex_2214a : ByteArray := prog_31_method_91_code
def yJ2_checkIndex_2214a : MethodName := ⟨RJ2, "checkIndex", "(I[B)V"⟩
abbrev cJ2_checkBoundsBeginEnd_d044e : ByteArray := prog_31_method_93_code
def yJ2_checkBoundsBeginEnd_d044e : MethodName := ⟨RJ2, "checkBoundsBeginEnd", "(II[B)V"⟩
abbrev cJ2_checkBoundsOffCount_d044e : ByteArray := prog_31_method_94_code
def yJ2_checkBoundsOffCount_d044e : MethodName := ⟨RJ2, "checkBoundsOffCount", "(II[B)V"⟩
def RJ10 : String := "java/lang/System"
def TJ10 : u_T := fun k => match k with
  | _ => ("", "", "", false)
def tyJ10 : Nat → FieldType := fun k => match k with
  | _ => .int
abbrev wsJ100 : List Cond := u_ws RJ10 TJ10 0
theorem nmJ10 : ∀ a, a < 0 → ∀ b, b < 0 → a ≠ b → (TJ10 a).2.1 ≠ (TJ10 b).2.1 := by decide +kernel
theorem tyJ10_ok : ∀ k, k < 0 → parseFieldDescriptor (TJ10 k).2.2.1 = some (tyJ10 k) := by decide +kernel
def RJxfd54e : String := "java/lang/constant/Constable"
def TJxfd54e : u_T := fun k => match k with
  | _ => ("", "", "", false)
def tyJxfd54e : Nat → FieldType := fun k => match k with
  | _ => .int
abbrev wsJxfd54e0 : List Cond := u_ws RJxfd54e TJxfd54e 0
theorem nmJxfd54e : ∀ a, a < 0 → ∀ b, b < 0 → a ≠ b → (TJxfd54e a).2.1 ≠ (TJxfd54e b).2.1 := by decide +kernel
theorem tyJxfd54e_ok : ∀ k, k < 0 → parseFieldDescriptor (TJxfd54e k).2.2.1 = some (tyJxfd54e k) := by decide +kernel
def RJx3cf43 : String := "java/lang/constant/ConstantDesc"
def TJx3cf43 : u_T := fun k => match k with
  | _ => ("", "", "", false)
def tyJx3cf43 : Nat → FieldType := fun k => match k with
  | _ => .int
abbrev wsJx3cf430 : List Cond := u_ws RJx3cf43 TJx3cf43 0
theorem nmJx3cf43 : ∀ a, a < 0 → ∀ b, b < 0 → a ≠ b → (TJx3cf43 a).2.1 ≠ (TJx3cf43 b).2.1 := by decide +kernel
theorem tyJx3cf43_ok : ∀ k, k < 0 → parseFieldDescriptor (TJx3cf43 k).2.2.1 = some (tyJx3cf43 k) := by decide +kernel
def RJ7 : String := "java/util/Arrays"
def TJ7 : u_T := fun k => match k with
  | _ => ("", "", "", false)
def tyJ7 : Nat → FieldType := fun k => match k with
  | _ => .int
abbrev wsJ70 : List Cond := u_ws RJ7 TJ7 0
theorem nmJ7 : ∀ a, a < 0 → ∀ b, b < 0 → a ≠ b → (TJ7 a).2.1 ≠ (TJ7 b).2.1 := by decide +kernel
theorem tyJ7_ok : ∀ k, k < 0 → parseFieldDescriptor (TJ7 k).2.2.1 = some (tyJ7 k) := by decide +kernel
abbrev cJ7_copyOf_9075b : ByteArray := prog_37_method_121_code
def yJ7_copyOf_9075b : MethodName := ⟨RJ7, "copyOf", "([BI)[B"⟩
abbrev cJ7_checkLength_df160 : ByteArray := prog_37_method_131_code
def yJ7_checkLength_df160 : MethodName := ⟨RJ7, "checkLength", "(II)V"⟩
abbrev cJ7_copyOfRange_39247 : ByteArray := prog_37_method_132_code
def yJ7_copyOfRange_39247 : MethodName := ⟨RJ7, "copyOfRange", "([BII)[B"⟩
abbrev cJ7_copyOfRangeByte_39247 : ByteArray := prog_37_method_133_code
def yJ7_copyOfRangeByte_39247 : MethodName := ⟨RJ7, "copyOfRangeByte", "([BII)[B"⟩
def RJ8 : String := "jdk/internal/util/ArraysSupport"
def TJ8 : u_T := fun k => match k with
  | _ => ("", "", "", false)
def tyJ8 : Nat → FieldType := fun k => match k with
  | _ => .int
abbrev wsJ80 : List Cond := u_ws RJ8 TJ8 0
theorem nmJ8 : ∀ a, a < 0 → ∀ b, b < 0 → a ≠ b → (TJ8 a).2.1 ≠ (TJ8 b).2.1 := by decide +kernel
theorem tyJ8_ok : ∀ k, k < 0 → parseFieldDescriptor (TJ8 k).2.2.1 = some (tyJ8 k) := by decide +kernel
abbrev cJ8_newLength_cabcc : ByteArray := prog_39_method_27_code
def yJ8_newLength_cabcc : MethodName := ⟨RJ8, "newLength", "(III)I"⟩
abbrev cJ8_hugeLength_7cf53 : ByteArray := prog_39_method_28_code
def yJ8_hugeLength_7cf53 : MethodName := ⟨RJ8, "hugeLength", "(II)I"⟩
def RJ3 : String := "jdk/internal/util/Preconditions"
def TJ3 : u_T := fun k => match k with
  | _ => ("", "", "", false)
def tyJ3 : Nat → FieldType := fun k => match k with
  | _ => .int
abbrev wsJ30 : List Cond := u_ws RJ3 TJ3 0
theorem nmJ3 : ∀ a, a < 0 → ∀ b, b < 0 → a ≠ b → (TJ3 a).2.1 ≠ (TJ3 b).2.1 := by decide +kernel
theorem tyJ3_ok : ∀ k, k < 0 → parseFieldDescriptor (TJ3 k).2.2.1 = some (tyJ3 k) := by decide +kernel
abbrev cJ3_checkIndex_8e157 : ByteArray := prog_40_method_11_code
def yJ3_checkIndex_8e157 : MethodName := ⟨RJ3, "checkIndex", "(IILjava/util/function/BiFunction;)I"⟩
abbrev cJ3_checkFromToIndex_8c36e : ByteArray := prog_40_method_12_code
def yJ3_checkFromToIndex_8c36e : MethodName := ⟨RJ3, "checkFromToIndex", "(IIILjava/util/function/BiFunction;)I"⟩
abbrev cJ3_checkFromIndexSize_8c36e : ByteArray := prog_40_method_13_code
def yJ3_checkFromIndexSize_8c36e : MethodName := ⟨RJ3, "checkFromIndexSize", "(IIILjava/util/function/BiFunction;)I"⟩
def RL : String := "TeaChestsLaw"
abbrev cL_bring : ByteArray := method_3_code
def yL_bring : MethodName := ⟨RL, "bring", "(LTeaChests;III[J)I"⟩
abbrev cL_leaves : ByteArray := method_4_code
def yL_leaves : MethodName := ⟨RL, "leaves", "(LTeaChests;II[J)I"⟩
abbrev cL_buy : ByteArray := method_5_code
def yL_buy : MethodName := ⟨RL, "buy", "(LTeaChests;ZI[J)I"⟩
abbrev cL_make : ByteArray := method_6_code
def yL_make : MethodName := ⟨RL, "make", "(LTeaChests;I[J)I"⟩
abbrev cL_line : ByteArray := method_7_code
def yL_line : MethodName := ⟨RL, "line", "(LTeaChests;I[J)I"⟩
abbrev cL_fill : ByteArray := method_8_code
def yL_fill : MethodName := ⟨RL, "fill", "(LTeaChests;IIII[J)I"⟩
abbrev cL_empty : ByteArray := method_9_code
def yL_empty : MethodName := ⟨RL, "empty", "(LTeaChests;I[J)I"⟩
abbrev cL_screw : ByteArray := method_10_code
def yL_screw : MethodName := ⟨RL, "screw", "(LTeaChests;II[J)I"⟩
abbrev cL_unscrew : ByteArray := method_11_code
def yL_unscrew : MethodName := ⟨RL, "unscrew", "(LTeaChests;I[J)I"⟩
abbrev cL_label : ByteArray := method_12_code
def yL_label : MethodName := ⟨RL, "label", "(LTeaChests;I[J)I"⟩
abbrev cL_labelled : ByteArray := method_13_code
def yL_labelled : MethodName := ⟨RL, "labelled", "(LTeaChests;II[J)I"⟩
abbrev cL_chest : ByteArray := method_14_code
def yL_chest : MethodName := ⟨RL, "chest", "(LTeaChests;II[J)I"⟩
abbrev cL_worth : ByteArray := method_15_code
def yL_worth : MethodName := ⟨RL, "worth", "(LTeaChests;I[J)I"⟩
abbrev cL_ranked : ByteArray := method_16_code
def yL_ranked : MethodName := ⟨RL, "ranked", "(LTeaChests;I[J)I"⟩
abbrev cL_toQuay : ByteArray := method_17_code
def yL_toQuay : MethodName := ⟨RL, "toQuay", "(LTeaChests;I[J)I"⟩
abbrev cL_load : ByteArray := method_18_code
def yL_load : MethodName := ⟨RL, "load", "(LTeaChests;I[J)I"⟩
abbrev cL_sail : ByteArray := method_19_code
def yL_sail : MethodName := ⟨RL, "sail", "(LTeaChests;[J)I"⟩
abbrev cL_height : ByteArray := method_20_code
def yL_height : MethodName := ⟨RL, "height", "(LTeaChests;I[J)I"⟩
abbrev cL_heightAgain : ByteArray := method_21_code
def yL_heightAgain : MethodName := ⟨RL, "heightAgain", "(LTeaChests;I[J)I"⟩
abbrev cL_setHumidity : ByteArray := method_22_code
def yL_setHumidity : MethodName := ⟨RL, "setHumidity", "(LTeaChests;I[J)I"⟩
abbrev cL_pass : ByteArray := method_23_code
def yL_pass : MethodName := ⟨RL, "pass", "(LTeaChests;I[J)I"⟩
abbrev cL_meanDamp : ByteArray := method_24_code
def yL_meanDamp : MethodName := ⟨RL, "meanDamp", "(LTeaChests;[D)I"⟩
abbrev cL_sailedShare : ByteArray := method_25_code
def yL_sailedShare : MethodName := ⟨RL, "sailedShare", "(LTeaChests;[D)I"⟩
abbrev cL_reason : ByteArray := method_26_code
def yL_reason : MethodName := ⟨RL, "reason", "(LTeaChests;Z[J)I"⟩
abbrev cL_account : ByteArray := method_27_code
def yL_account : MethodName := ⟨RL, "account", "(LTeaChests;I[J)I"⟩
abbrev cL_feed : ByteArray := method_28_code
def yL_feed : MethodName := ⟨RL, "feed", "(LTeaChests;C[J)I"⟩
abbrev cL_perform : ByteArray := method_29_code
def yL_perform : MethodName := ⟨RL, "perform", "(LTeaChests;[J)I"⟩
abbrev cL_undo : ByteArray := method_30_code
def yL_undo : MethodName := ⟨RL, "undo", "(LTeaChests;[J)I"⟩
abbrev cL_restore : ByteArray := method_31_code
def yL_restore : MethodName := ⟨RL, "restore", "(LTeaChests;[J)I"⟩
abbrev cL_law : ByteArray := code
def yL_law : MethodName := ⟨RL, "law", "([I)Z"⟩
abbrev vwCl : List vw_C := [(RJ0, TJ0, 4), (RJ4, TJ4, 4), (RJx00060, TJx00060, 6), (RX1, TX1, 10), (RX2, TX2, 9), (RX3, TX3, 3), (RX4, TX4, 14), (RX7, TX7, 5), (RX8, TX8, 21)]
end
section
/-! THE TABLES' WORDS, each as a member of one list -/
def xT : List Cond := lw_tbl.filter goodWord
theorem xT_in {i : Nat} {w : Cond} (h : lw_tbl[i]? = some w) (hg : goodWord w = true) : w ∈ xT := List.mem_filter.mpr ⟨List.mem_of_getElem? h, hg⟩
theorem xT_good {w : Cond} (h : w ∈ xT) : goodWord w = true := (List.mem_filter.mp h).2
theorem xT_tbl {w : Cond} (h : w ∈ xT) : w ∈ lw_tbl := (List.mem_filter.mp h).1
theorem mV_X4_storedOf : Cond.selects RX4 yX4_storedOf yX4_storedOf ∈ xT := xT_in (i := 0) (by decide +kernel) (by decide +kernel)
theorem mV_Throwable_fillInStackTrace : Cond.selects "java/lang/Throwable" ⟨"java/lang/Throwable", "fillInStackTrace", "(I)Ljava/lang/Throwable;"⟩ ⟨"java/lang/Throwable", "fillInStackTrace", "(I)Ljava/lang/Throwable;"⟩ ∈ xT := xT_in (i := 1) (by decide +kernel) (by decide +kernel)
theorem mV_X3_spareRow : Cond.selects RX3 yX3_spareRow yX3_spareRow ∈ xT := xT_in (i := 2) (by decide +kernel) (by decide +kernel)
theorem mV_X4_addToStore : Cond.selects RX4 yX4_addToStore yX4_addToStore ∈ xT := xT_in (i := 3) (by decide +kernel) (by decide +kernel)
theorem mV_X7_conclude : Cond.selects RX7 yX7_conclude yX7_conclude ∈ xT := xT_in (i := 4) (by decide +kernel) (by decide +kernel)
theorem mV_X7_keepChange : Cond.selects RX7 yX7_keepChange yX7_keepChange ∈ xT := xT_in (i := 5) (by decide +kernel) (by decide +kernel)
theorem mV_X7_needChest : Cond.selects RX7 yX7_needChest yX7_needChest ∈ xT := xT_in (i := 6) (by decide +kernel) (by decide +kernel)
theorem mV_X4_isInHouse : Cond.selects RX4 yX4_isInHouse yX4_isInHouse ∈ xT := xT_in (i := 7) (by decide +kernel) (by decide +kernel)
theorem mV_X4_isUnscrewed : Cond.selects RX4 yX4_isUnscrewed yX4_isUnscrewed ∈ xT := xT_in (i := 8) (by decide +kernel) (by decide +kernel)
theorem mV_X4_isUnlined : Cond.selects RX4 yX4_isUnlined yX4_isUnlined ∈ xT := xT_in (i := 9) (by decide +kernel) (by decide +kernel)
theorem mV_X4_hasSheets : Cond.selects RX4 yX4_hasSheets yX4_hasSheets ∈ xT := xT_in (i := 10) (by decide +kernel) (by decide +kernel)
theorem mV_X4_hasNoOtherLeaves : Cond.selects RX4 yX4_hasNoOtherLeaves yX4_hasNoOtherLeaves ∈ xT := xT_in (i := 11) (by decide +kernel) (by decide +kernel)
theorem mV_X4_hasRoom : Cond.selects RX4 yX4_hasRoom yX4_hasRoom ∈ xT := xT_in (i := 12) (by decide +kernel) (by decide +kernel)
theorem mV_X4_hasPounds : Cond.selects RX4 yX4_hasPounds yX4_hasPounds ∈ xT := xT_in (i := 13) (by decide +kernel) (by decide +kernel)
theorem mV_X4_isFilled : Cond.selects RX4 yX4_isFilled yX4_isFilled ∈ xT := xT_in (i := 14) (by decide +kernel) (by decide +kernel)
theorem mV_X4_hasScrews : Cond.selects RX4 yX4_hasScrews yX4_hasScrews ∈ xT := xT_in (i := 15) (by decide +kernel) (by decide +kernel)
theorem mV_X4_takesScrews : Cond.selects RX4 yX4_takesScrews yX4_takesScrews ∈ xT := xT_in (i := 16) (by decide +kernel) (by decide +kernel)
theorem mV_X4_placeOf : Cond.selects RX4 yX4_placeOf yX4_placeOf ∈ xT := xT_in (i := 17) (by decide +kernel) (by decide +kernel)
theorem mV_X4_isReadyForQuay : Cond.selects RX4 yX4_isReadyForQuay yX4_isReadyForQuay ∈ xT := xT_in (i := 18) (by decide +kernel) (by decide +kernel)
theorem mV_X4_isOnQuay : Cond.selects RX4 yX4_isOnQuay yX4_isOnQuay ∈ xT := xT_in (i := 19) (by decide +kernel) (by decide +kernel)
theorem mV_X4_isShipReached : Cond.selects RX4 yX4_isShipReached yX4_isShipReached ∈ xT := xT_in (i := 20) (by decide +kernel) (by decide +kernel)
theorem mV_X4_hasShipRoom : Cond.selects RX4 yX4_hasShipRoom yX4_hasShipRoom ∈ xT := xT_in (i := 21) (by decide +kernel) (by decide +kernel)
theorem mV_X4_isShipLoaded : Cond.selects RX4 yX4_isShipLoaded yX4_isShipLoaded ∈ xT := xT_in (i := 22) (by decide +kernel) (by decide +kernel)
theorem mV_X4_letDampIn : Cond.selects RX4 yX4_letDampIn yX4_letDampIn ∈ xT := xT_in (i := 23) (by decide +kernel) (by decide +kernel)
theorem mV_X2_readVerb : Cond.selects RX2 yX2_readVerb yX2_readVerb ∈ xT := xT_in (i := 24) (by decide +kernel) (by decide +kernel)
theorem mV_X2_readWord : Cond.selects RX2 yX2_readWord yX2_readWord ∈ xT := xT_in (i := 25) (by decide +kernel) (by decide +kernel)
theorem mV_X2_signAt : Cond.selects RX2 yX2_signAt yX2_signAt ∈ xT := xT_in (i := 26) (by decide +kernel) (by decide +kernel)
theorem mV_X2_readManyAsNumber : Cond.selects RX2 yX2_readManyAsNumber yX2_readManyAsNumber ∈ xT := xT_in (i := 27) (by decide +kernel) (by decide +kernel)
theorem mV_X2_readNumber : Cond.selects RX2 yX2_readNumber yX2_readNumber ∈ xT := xT_in (i := 28) (by decide +kernel) (by decide +kernel)
theorem mV_X2_readDigit : Cond.selects RX2 yX2_readDigit yX2_readDigit ∈ xT := xT_in (i := 29) (by decide +kernel) (by decide +kernel)
theorem mV_X2_readChest : Cond.selects RX2 yX2_readChest yX2_readChest ∈ xT := xT_in (i := 30) (by decide +kernel) (by decide +kernel)
theorem mV_X2_readLeaf : Cond.selects RX2 yX2_readLeaf yX2_readLeaf ∈ xT := xT_in (i := 31) (by decide +kernel) (by decide +kernel)
theorem mV_X2_readKind : Cond.selects RX2 yX2_readKind yX2_readKind ∈ xT := xT_in (i := 32) (by decide +kernel) (by decide +kernel)
theorem mV_X2_readManyAsDigit : Cond.selects RX2 yX2_readManyAsDigit yX2_readManyAsDigit ∈ xT := xT_in (i := 33) (by decide +kernel) (by decide +kernel)
theorem mV_X7_carryOutAll : Cond.selects RX7 yX7_carryOutAll yX7_carryOutAll ∈ xT := xT_in (i := 34) (by decide +kernel) (by decide +kernel)
theorem mV_X7_carryOutRead : Cond.selects RX7 yX7_carryOutRead yX7_carryOutRead ∈ xT := xT_in (i := 35) (by decide +kernel) (by decide +kernel)
theorem mV_X8_begins : Cond.selects RX8 yX8_begins yX8_begins ∈ xT := xT_in (i := 36) (by decide +kernel) (by decide +kernel)
theorem mV_X8_brings : Cond.selects RX8 yX8_brings yX8_brings ∈ xT := xT_in (i := 37) (by decide +kernel) (by decide +kernel)
theorem mV_X8_fail : Cond.selects RX8 yX8_fail yX8_fail ∈ xT := xT_in (i := 38) (by decide +kernel) (by decide +kernel)
theorem mV_X8_refuses : Cond.selects RX8 yX8_refuses yX8_refuses ∈ xT := xT_in (i := 39) (by decide +kernel) (by decide +kernel)
theorem mV_X8_ends : Cond.selects RX8 yX8_ends yX8_ends ∈ xT := xT_in (i := 40) (by decide +kernel) (by decide +kernel)
theorem mV_X8_no : Cond.selects RX8 yX8_no yX8_no ∈ xT := xT_in (i := 41) (by decide +kernel) (by decide +kernel)
theorem mV_X8_allOf : Cond.selects RX8 yX8_allOf yX8_allOf ∈ xT := xT_in (i := 42) (by decide +kernel) (by decide +kernel)
theorem mV_X8_buys : Cond.selects RX8 yX8_buys yX8_buys ∈ xT := xT_in (i := 43) (by decide +kernel) (by decide +kernel)
theorem mV_X8_makes : Cond.selects RX8 yX8_makes yX8_makes ∈ xT := xT_in (i := 44) (by decide +kernel) (by decide +kernel)
theorem mV_X8_linesChest : Cond.selects RX8 yX8_linesChest yX8_linesChest ∈ xT := xT_in (i := 45) (by decide +kernel) (by decide +kernel)
theorem mV_X8_isChest : Cond.selects RX8 yX8_isChest yX8_isChest ∈ xT := xT_in (i := 46) (by decide +kernel) (by decide +kernel)
theorem mV_X8_isShut : Cond.selects RX8 yX8_isShut yX8_isShut ∈ xT := xT_in (i := 47) (by decide +kernel) (by decide +kernel)
theorem mV_X8_fills : Cond.selects RX8 yX8_fills yX8_fills ∈ xT := xT_in (i := 48) (by decide +kernel) (by decide +kernel)
theorem mV_X8_isEmpty : Cond.selects RX8 yX8_isEmpty yX8_isEmpty ∈ xT := xT_in (i := 49) (by decide +kernel) (by decide +kernel)
theorem mV_X8_empties : Cond.selects RX8 yX8_empties yX8_empties ∈ xT := xT_in (i := 50) (by decide +kernel) (by decide +kernel)
theorem mV_X8_screws : Cond.selects RX8 yX8_screws yX8_screws ∈ xT := xT_in (i := 51) (by decide +kernel) (by decide +kernel)
theorem mV_X8_isTight : Cond.selects RX8 yX8_isTight yX8_isTight ∈ xT := xT_in (i := 52) (by decide +kernel) (by decide +kernel)
theorem mV_X8_unscrews : Cond.selects RX8 yX8_unscrews yX8_unscrews ∈ xT := xT_in (i := 53) (by decide +kernel) (by decide +kernel)
theorem mV_X8_labels : Cond.selects RX8 yX8_labels yX8_labels ∈ xT := xT_in (i := 54) (by decide +kernel) (by decide +kernel)
theorem mV_X8_writesLabel : Cond.selects RX8 yX8_writesLabel yX8_writesLabel ∈ xT := xT_in (i := 55) (by decide +kernel) (by decide +kernel)
theorem mV_X8_writes : Cond.selects RX8 yX8_writes yX8_writes ∈ xT := xT_in (i := 56) (by decide +kernel) (by decide +kernel)
theorem mV_X8_worthOf : Cond.selects RX8 yX8_worthOf yX8_worthOf ∈ xT := xT_in (i := 57) (by decide +kernel) (by decide +kernel)
theorem mV_X8_isAhead : Cond.selects RX8 yX8_isAhead yX8_isAhead ∈ xT := xT_in (i := 58) (by decide +kernel) (by decide +kernel)
theorem mV_X8_goesOut : Cond.selects RX8 yX8_goesOut yX8_goesOut ∈ xT := xT_in (i := 59) (by decide +kernel) (by decide +kernel)
theorem mV_X8_withWhere : Cond.selects RX8 yX8_withWhere yX8_withWhere ∈ xT := xT_in (i := 60) (by decide +kernel) (by decide +kernel)
theorem mV_X8_loads : Cond.selects RX8 yX8_loads yX8_loads ∈ xT := xT_in (i := 61) (by decide +kernel) (by decide +kernel)
theorem mV_X8_room : Cond.selects RX8 yX8_room yX8_room ∈ xT := xT_in (i := 62) (by decide +kernel) (by decide +kernel)
theorem mV_X8_sails : Cond.selects RX8 yX8_sails yX8_sails ∈ xT := xT_in (i := 63) (by decide +kernel) (by decide +kernel)
theorem mV_X8_cargoOf : Cond.selects RX8 yX8_cargoOf yX8_cargoOf ∈ xT := xT_in (i := 64) (by decide +kernel) (by decide +kernel)
theorem mV_X8_humid : Cond.selects RX8 yX8_humid yX8_humid ∈ xT := xT_in (i := 65) (by decide +kernel) (by decide +kernel)
theorem mV_X8_passes : Cond.selects RX8 yX8_passes yX8_passes ∈ xT := xT_in (i := 66) (by decide +kernel) (by decide +kernel)
theorem mV_X8_hour : Cond.selects RX8 yX8_hour yX8_hour ∈ xT := xT_in (i := 67) (by decide +kernel) (by decide +kernel)
theorem mV_X8_stored : Cond.selects RX8 yX8_stored yX8_stored ∈ xT := xT_in (i := 68) (by decide +kernel) (by decide +kernel)
theorem mV_X8_packed : Cond.selects RX8 yX8_packed yX8_packed ∈ xT := xT_in (i := 69) (by decide +kernel) (by decide +kernel)
theorem mV_X8_commands : Cond.selects RX8 yX8_commands yX8_commands ∈ xT := xT_in (i := 70) (by decide +kernel) (by decide +kernel)
theorem mV_X8_command : Cond.selects RX8 yX8_command yX8_command ∈ xT := xT_in (i := 71) (by decide +kernel) (by decide +kernel)
theorem mV_X8_word : Cond.selects RX8 yX8_word yX8_word ∈ xT := xT_in (i := 72) (by decide +kernel) (by decide +kernel)
theorem mV_X8_sign : Cond.selects RX8 yX8_sign yX8_sign ∈ xT := xT_in (i := 73) (by decide +kernel) (by decide +kernel)
theorem mV_X8_number : Cond.selects RX8 yX8_number yX8_number ∈ xT := xT_in (i := 74) (by decide +kernel) (by decide +kernel)
theorem mV_X8_mark : Cond.selects RX8 yX8_mark yX8_mark ∈ xT := xT_in (i := 75) (by decide +kernel) (by decide +kernel)
theorem mV_X8_does : Cond.selects RX8 yX8_does yX8_does ∈ xT := xT_in (i := 76) (by decide +kernel) (by decide +kernel)
theorem mN_L : Cond.initialized RL ∈ xT := xT_in (i := 77) (by decide +kernel) (by decide +kernel)
theorem mN_X7 : Cond.initialized RX7 ∈ xT := xT_in (i := 78) (by decide +kernel) (by decide +kernel)
theorem mN_X4 : Cond.initialized RX4 ∈ xT := xT_in (i := 79) (by decide +kernel) (by decide +kernel)
theorem mN_X1 : Cond.initialized RX1 ∈ xT := xT_in (i := 80) (by decide +kernel) (by decide +kernel)
theorem mN_X3 : Cond.initialized RX3 ∈ xT := xT_in (i := 81) (by decide +kernel) (by decide +kernel)
theorem mN_X2 : Cond.initialized RX2 ∈ xT := xT_in (i := 82) (by decide +kernel) (by decide +kernel)
theorem mN_X8 : Cond.initialized RX8 ∈ xT := xT_in (i := 83) (by decide +kernel) (by decide +kernel)
theorem mN_Throwable : Cond.initialized "java/lang/Throwable" ∈ xT := xT_in (i := 84) (by decide +kernel) (by decide +kernel)
theorem mN_Exception : Cond.initialized "java/lang/Exception" ∈ xT := xT_in (i := 85) (by decide +kernel) (by decide +kernel)
theorem mN_RuntimeException : Cond.initialized "java/lang/RuntimeException" ∈ xT := xT_in (i := 86) (by decide +kernel) (by decide +kernel)
theorem mN_IndexOutOfBoundsException : Cond.initialized "java/lang/IndexOutOfBoundsException" ∈ xT := xT_in (i := 87) (by decide +kernel) (by decide +kernel)
theorem mN_Jx00060 : Cond.initialized RJx00060 ∈ xT := xT_in (i := 88) (by decide +kernel) (by decide +kernel)
theorem mN_J0 : Cond.initialized RJ0 ∈ xT := xT_in (i := 89) (by decide +kernel) (by decide +kernel)
theorem mN_IllegalArgumentException : Cond.initialized "java/lang/IllegalArgumentException" ∈ xT := xT_in (i := 90) (by decide +kernel) (by decide +kernel)
theorem mN_J9 : Cond.initialized RJ9 ∈ xT := xT_in (i := 91) (by decide +kernel) (by decide +kernel)
theorem mN_J10 : Cond.initialized RJ10 ∈ xT := xT_in (i := 92) (by decide +kernel) (by decide +kernel)
theorem mN_UnsupportedOperationException : Cond.initialized "java/lang/UnsupportedOperationException" ∈ xT := xT_in (i := 93) (by decide +kernel) (by decide +kernel)
theorem mN_J5 : Cond.initialized RJ5 ∈ xT := xT_in (i := 94) (by decide +kernel) (by decide +kernel)
theorem mN_J4 : Cond.initialized RJ4 ∈ xT := xT_in (i := 95) (by decide +kernel) (by decide +kernel)
theorem mN_J2 : Cond.initialized RJ2 ∈ xT := xT_in (i := 96) (by decide +kernel) (by decide +kernel)
theorem mN_Jxd2413 : Cond.initialized RJxd2413 ∈ xT := xT_in (i := 97) (by decide +kernel) (by decide +kernel)
theorem mN_J6 : Cond.initialized RJ6 ∈ xT := xT_in (i := 98) (by decide +kernel) (by decide +kernel)
theorem mN_J8 : Cond.initialized RJ8 ∈ xT := xT_in (i := 99) (by decide +kernel) (by decide +kernel)
theorem mN_J7 : Cond.initialized RJ7 ∈ xT := xT_in (i := 100) (by decide +kernel) (by decide +kernel)
theorem mN_J3 : Cond.initialized RJ3 ∈ xT := xT_in (i := 101) (by decide +kernel) (by decide +kernel)
theorem mN_J1 : Cond.initialized RJ1 ∈ xT := xT_in (i := 102) (by decide +kernel) (by decide +kernel)
theorem mN_NoSuchElementException : Cond.initialized "java/util/NoSuchElementException" ∈ xT := xT_in (i := 103) (by decide +kernel) (by decide +kernel)
theorem mN_ArithmeticException : Cond.initialized "java/lang/ArithmeticException" ∈ xT := xT_in (i := 104) (by decide +kernel) (by decide +kernel)
theorem mN_IllegalStateException : Cond.initialized "java/lang/IllegalStateException" ∈ xT := xT_in (i := 105) (by decide +kernel) (by decide +kernel)
theorem mN_X0 : Cond.initialized RX0 ∈ xT := xT_in (i := 106) (by decide +kernel) (by decide +kernel)
theorem mN_Jx29ce0 : Cond.initialized RJx29ce0 ∈ xT := xT_in (i := 107) (by decide +kernel) (by decide +kernel)
theorem mN_X6 : Cond.initialized RX6 ∈ xT := xT_in (i := 108) (by decide +kernel) (by decide +kernel)
theorem mK_L_8 : Cond.classLink RL 8 RX7 ∈ xT := xT_in (i := 109) (by decide +kernel) (by decide +kernel)
theorem mA_X7 : Cond.instantiable RX7 5 ∈ xT := xT_in (i := 110) (by decide +kernel) (by decide +kernel)
theorem mM_L_120 : Cond.methodLink RL 120 yX7_init ∈ xT := xT_in (i := 111) (by decide +kernel) (by decide +kernel)
theorem mI_X7_init : Cond.instanceMethod yX7_init ∈ xT := xT_in (i := 112) (by decide +kernel) (by decide +kernel)
theorem mC_X7_init : Cond.code yX7_init cX7_init 1 none ∈ xT := xT_in (i := 113) (by decide +kernel) (by decide +kernel)
theorem mM_X7_1 : Cond.methodLink RX7 1 Lib.objectInit ∈ xT := xT_in (i := 114) (by decide +kernel) (by decide +kernel)
theorem mI_Object_init : Cond.instanceMethod Lib.objectInit ∈ xT := xT_in (i := 115) (by decide +kernel) (by decide +kernel)
theorem mC_Object_init : Cond.code Lib.objectInit ⟨#[0xb1]⟩ 1 none ∈ xT := xT_in (i := 116) (by decide +kernel) (by decide +kernel)
theorem mK_X7_7 : Cond.classLink RX7 7 RX4 ∈ xT := xT_in (i := 117) (by decide +kernel) (by decide +kernel)
theorem mA_X4 : Cond.instantiable RX4 14 ∈ xT := xT_in (i := 118) (by decide +kernel) (by decide +kernel)
theorem mM_X7_9 : Cond.methodLink RX7 9 yX4_init ∈ xT := xT_in (i := 119) (by decide +kernel) (by decide +kernel)
theorem mI_X4_init : Cond.instanceMethod yX4_init ∈ xT := xT_in (i := 120) (by decide +kernel) (by decide +kernel)
theorem mC_X4_init : Cond.code yX4_init cX4_init 2 none ∈ xT := xT_in (i := 121) (by decide +kernel) (by decide +kernel)
theorem mM_X4_3 : Cond.methodLink RX4 3 Lib.objectInit ∈ xT := xT_in (i := 122) (by decide +kernel) (by decide +kernel)
theorem mK_X4_19 : Cond.classLink RX4 19 RX1 ∈ xT := xT_in (i := 125) (by decide +kernel) (by decide +kernel)
theorem mA_X1 : Cond.instantiable RX1 10 ∈ xT := xT_in (i := 127) (by decide +kernel) (by decide +kernel)
theorem mM_X4_35 : Cond.methodLink RX4 35 yX1_init ∈ xT := xT_in (i := 128) (by decide +kernel) (by decide +kernel)
theorem mI_X1_init : Cond.instanceMethod yX1_init ∈ xT := xT_in (i := 129) (by decide +kernel) (by decide +kernel)
theorem mC_X1_init : Cond.code yX1_init cX1_init 2 none ∈ xT := xT_in (i := 130) (by decide +kernel) (by decide +kernel)
theorem mM_X1_3 : Cond.methodLink RX1 3 Lib.objectInit ∈ xT := xT_in (i := 131) (by decide +kernel) (by decide +kernel)
theorem mF_X1_27 : Cond.fieldLink RX1 27 "TeaChests$Chest" "number" "I" ∈ xT := xT_in (i := 133) (by decide +kernel) (by decide +kernel)
theorem mF_X4_123 : Cond.fieldLink RX4 123 "TeaChests$Chest" "number" "I" ∈ xT := xT_in (i := 134) (by decide +kernel) (by decide +kernel)
theorem mF_X1_30 : Cond.fieldLink RX1 30 "TeaChests$Chest" "size" "I" ∈ xT := xT_in (i := 135) (by decide +kernel) (by decide +kernel)
theorem mF_X7_148 : Cond.fieldLink RX7 148 "TeaChests$Chest" "size" "I" ∈ xT := xT_in (i := 136) (by decide +kernel) (by decide +kernel)
theorem mF_X4_107 : Cond.fieldLink RX4 107 "TeaChests$Chest" "size" "I" ∈ xT := xT_in (i := 137) (by decide +kernel) (by decide +kernel)
theorem mF_X1_9 : Cond.fieldLink RX1 9 "TeaChests$Chest" "garden" "I" ∈ xT := xT_in (i := 138) (by decide +kernel) (by decide +kernel)
theorem mF_X7_151 : Cond.fieldLink RX7 151 "TeaChests$Chest" "garden" "I" ∈ xT := xT_in (i := 139) (by decide +kernel) (by decide +kernel)
theorem mF_X4_113 : Cond.fieldLink RX4 113 "TeaChests$Chest" "garden" "I" ∈ xT := xT_in (i := 140) (by decide +kernel) (by decide +kernel)
theorem mF_X1_15 : Cond.fieldLink RX1 15 "TeaChests$Chest" "kind" "I" ∈ xT := xT_in (i := 141) (by decide +kernel) (by decide +kernel)
theorem mF_X7_154 : Cond.fieldLink RX7 154 "TeaChests$Chest" "kind" "I" ∈ xT := xT_in (i := 142) (by decide +kernel) (by decide +kernel)
theorem mF_X4_116 : Cond.fieldLink RX4 116 "TeaChests$Chest" "kind" "I" ∈ xT := xT_in (i := 143) (by decide +kernel) (by decide +kernel)
theorem mF_X1_33 : Cond.fieldLink RX1 33 "TeaChests$Chest" "pounds" "I" ∈ xT := xT_in (i := 144) (by decide +kernel) (by decide +kernel)
theorem mF_X7_107 : Cond.fieldLink RX7 107 "TeaChests$Chest" "pounds" "I" ∈ xT := xT_in (i := 145) (by decide +kernel) (by decide +kernel)
theorem mF_X4_110 : Cond.fieldLink RX4 110 "TeaChests$Chest" "pounds" "I" ∈ xT := xT_in (i := 146) (by decide +kernel) (by decide +kernel)
theorem mF_X1_36 : Cond.fieldLink RX1 36 "TeaChests$Chest" "isLined" "Z" ∈ xT := xT_in (i := 147) (by decide +kernel) (by decide +kernel)
theorem mF_X7_157 : Cond.fieldLink RX7 157 "TeaChests$Chest" "isLined" "Z" ∈ xT := xT_in (i := 148) (by decide +kernel) (by decide +kernel)
theorem mF_X4_103 : Cond.fieldLink RX4 103 "TeaChests$Chest" "isLined" "Z" ∈ xT := xT_in (i := 149) (by decide +kernel) (by decide +kernel)
theorem mF_X1_40 : Cond.fieldLink RX1 40 "TeaChests$Chest" "screws" "I" ∈ xT := xT_in (i := 150) (by decide +kernel) (by decide +kernel)
theorem mF_X7_121 : Cond.fieldLink RX7 121 "TeaChests$Chest" "screws" "I" ∈ xT := xT_in (i := 151) (by decide +kernel) (by decide +kernel)
theorem mF_X4_102 : Cond.fieldLink RX4 102 "TeaChests$Chest" "screws" "I" ∈ xT := xT_in (i := 152) (by decide +kernel) (by decide +kernel)
theorem mF_X1_43 : Cond.fieldLink RX1 43 "TeaChests$Chest" "damp" "I" ∈ xT := xT_in (i := 153) (by decide +kernel) (by decide +kernel)
theorem mF_X7_160 : Cond.fieldLink RX7 160 "TeaChests$Chest" "damp" "I" ∈ xT := xT_in (i := 154) (by decide +kernel) (by decide +kernel)
theorem mF_X4_199 : Cond.fieldLink RX4 199 "TeaChests$Chest" "damp" "I" ∈ xT := xT_in (i := 155) (by decide +kernel) (by decide +kernel)
theorem mF_X1_18 : Cond.fieldLink RX1 18 "TeaChests$Chest" "where" "I" ∈ xT := xT_in (i := 156) (by decide +kernel) (by decide +kernel)
theorem mF_X4_99 : Cond.fieldLink RX4 99 "TeaChests$Chest" "where" "I" ∈ xT := xT_in (i := 157) (by decide +kernel) (by decide +kernel)
theorem mF_X7_163 : Cond.fieldLink RX7 163 "TeaChests$Chest" "where" "I" ∈ xT := xT_in (i := 158) (by decide +kernel) (by decide +kernel)
theorem mF_X1_23 : Cond.fieldLink RX1 23 "TeaChests$Chest" "label" "Ljava/lang/String;" ∈ xT := xT_in (i := 159) (by decide +kernel) (by decide +kernel)
theorem mF_X7_128 : Cond.fieldLink RX7 128 "TeaChests$Chest" "label" "Ljava/lang/String;" ∈ xT := xT_in (i := 160) (by decide +kernel) (by decide +kernel)
theorem mL_X1_X1_number : Cond.laysFinal RX1 RX1 "number" "I" ∈ xT := xT_in (i := 161) (by decide +kernel) (by decide +kernel)
theorem mL_X1_X1_size : Cond.lays RX1 RX1 "size" "I" ∈ xT := xT_in (i := 163) (by decide +kernel) (by decide +kernel)
theorem mL_X1_X1_garden : Cond.lays RX1 RX1 "garden" "I" ∈ xT := xT_in (i := 165) (by decide +kernel) (by decide +kernel)
theorem mL_X1_X1_kind : Cond.lays RX1 RX1 "kind" "I" ∈ xT := xT_in (i := 167) (by decide +kernel) (by decide +kernel)
theorem mL_X1_X1_pounds : Cond.lays RX1 RX1 "pounds" "I" ∈ xT := xT_in (i := 169) (by decide +kernel) (by decide +kernel)
theorem mL_X1_X1_isLined : Cond.lays RX1 RX1 "isLined" "Z" ∈ xT := xT_in (i := 171) (by decide +kernel) (by decide +kernel)
theorem mL_X1_X1_screws : Cond.lays RX1 RX1 "screws" "I" ∈ xT := xT_in (i := 173) (by decide +kernel) (by decide +kernel)
theorem mL_X1_X1_damp : Cond.lays RX1 RX1 "damp" "I" ∈ xT := xT_in (i := 175) (by decide +kernel) (by decide +kernel)
theorem mL_X1_X1_where : Cond.lays RX1 RX1 "where" "I" ∈ xT := xT_in (i := 177) (by decide +kernel) (by decide +kernel)
theorem mL_X1_X1_label : Cond.lays RX1 RX1 "label" "Ljava/lang/String;" ∈ xT := xT_in (i := 179) (by decide +kernel) (by decide +kernel)
theorem mU_X1_Object : Cond.superclass RX1 "java/lang/Object" ∈ xT := xT_in (i := 181) (by decide +kernel) (by decide +kernel)
theorem mR_int : Cond.arrayClass .int ∈ xT := xT_in (i := 182) (by decide +kernel) (by decide +kernel)
theorem mR_byte : Cond.arrayClass .byte ∈ xT := xT_in (i := 183) (by decide +kernel) (by decide +kernel)
theorem mF_X4_13 : Cond.fieldLink RX4 13 "TeaChests$House" "store" "[I" ∈ xT := xT_in (i := 184) (by decide +kernel) (by decide +kernel)
theorem mF_X4_21 : Cond.fieldLink RX4 21 "TeaChests$House" "chests" "[LTeaChests$Chest;" ∈ xT := xT_in (i := 185) (by decide +kernel) (by decide +kernel)
theorem mF_X4_48 : Cond.fieldLink RX4 48 "TeaChests$House" "made" "I" ∈ xT := xT_in (i := 186) (by decide +kernel) (by decide +kernel)
theorem mF_X7_86 : Cond.fieldLink RX7 86 "TeaChests$House" "made" "I" ∈ xT := xT_in (i := 187) (by decide +kernel) (by decide +kernel)
theorem mF_X4_25 : Cond.fieldLink RX4 25 "TeaChests$House" "sheets" "I" ∈ xT := xT_in (i := 188) (by decide +kernel) (by decide +kernel)
theorem mF_X7_79 : Cond.fieldLink RX7 79 "TeaChests$House" "sheets" "I" ∈ xT := xT_in (i := 189) (by decide +kernel) (by decide +kernel)
theorem mF_X4_29 : Cond.fieldLink RX4 29 "TeaChests$House" "screws" "I" ∈ xT := xT_in (i := 190) (by decide +kernel) (by decide +kernel)
theorem mF_X7_72 : Cond.fieldLink RX7 72 "TeaChests$House" "screws" "I" ∈ xT := xT_in (i := 191) (by decide +kernel) (by decide +kernel)
theorem mF_X4_51 : Cond.fieldLink RX4 51 "TeaChests$House" "clock" "I" ∈ xT := xT_in (i := 192) (by decide +kernel) (by decide +kernel)
theorem mF_X7_201 : Cond.fieldLink RX7 201 "TeaChests$House" "clock" "I" ∈ xT := xT_in (i := 193) (by decide +kernel) (by decide +kernel)
theorem mF_X4_32 : Cond.fieldLink RX4 32 "TeaChests$House" "humidity" "I" ∈ xT := xT_in (i := 194) (by decide +kernel) (by decide +kernel)
theorem mF_X7_204 : Cond.fieldLink RX7 204 "TeaChests$House" "humidity" "I" ∈ xT := xT_in (i := 195) (by decide +kernel) (by decide +kernel)
theorem mF_X4_54 : Cond.fieldLink RX4 54 "TeaChests$House" "coins" "I" ∈ xT := xT_in (i := 196) (by decide +kernel) (by decide +kernel)
theorem mF_X7_252 : Cond.fieldLink RX7 252 "TeaChests$House" "coins" "I" ∈ xT := xT_in (i := 197) (by decide +kernel) (by decide +kernel)
theorem mF_X4_57 : Cond.fieldLink RX4 57 "TeaChests$House" "shipsSailed" "I" ∈ xT := xT_in (i := 198) (by decide +kernel) (by decide +kernel)
theorem mF_X7_249 : Cond.fieldLink RX7 249 "TeaChests$House" "shipsSailed" "I" ∈ xT := xT_in (i := 199) (by decide +kernel) (by decide +kernel)
theorem mF_X4_60 : Cond.fieldLink RX4 60 "TeaChests$House" "poundsBrought" "I" ∈ xT := xT_in (i := 200) (by decide +kernel) (by decide +kernel)
theorem mF_X7_222 : Cond.fieldLink RX7 222 "TeaChests$House" "poundsBrought" "I" ∈ xT := xT_in (i := 201) (by decide +kernel) (by decide +kernel)
theorem mF_X4_63 : Cond.fieldLink RX4 63 "TeaChests$House" "poundsSailed" "I" ∈ xT := xT_in (i := 202) (by decide +kernel) (by decide +kernel)
theorem mF_X7_216 : Cond.fieldLink RX7 216 "TeaChests$House" "poundsSailed" "I" ∈ xT := xT_in (i := 203) (by decide +kernel) (by decide +kernel)
theorem mF_X4_66 : Cond.fieldLink RX4 66 "TeaChests$House" "poundsThrown" "I" ∈ xT := xT_in (i := 204) (by decide +kernel) (by decide +kernel)
theorem mF_X7_219 : Cond.fieldLink RX7 219 "TeaChests$House" "poundsThrown" "I" ∈ xT := xT_in (i := 205) (by decide +kernel) (by decide +kernel)
theorem mF_X4_93 : Cond.fieldLink RX4 93 "TeaChests$House" "reason" "I" ∈ xT := xT_in (i := 206) (by decide +kernel) (by decide +kernel)
theorem mF_X7_241 : Cond.fieldLink RX7 241 "TeaChests$House" "reason" "I" ∈ xT := xT_in (i := 207) (by decide +kernel) (by decide +kernel)
theorem mF_X4_96 : Cond.fieldLink RX4 96 "TeaChests$House" "detail" "I" ∈ xT := xT_in (i := 208) (by decide +kernel) (by decide +kernel)
theorem mF_X7_246 : Cond.fieldLink RX7 246 "TeaChests$House" "detail" "I" ∈ xT := xT_in (i := 209) (by decide +kernel) (by decide +kernel)
theorem mL_X4_X4_store : Cond.laysFinal RX4 RX4 "store" "[I" ∈ xT := xT_in (i := 210) (by decide +kernel) (by decide +kernel)
theorem mL_X4_X4_chests : Cond.laysFinal RX4 RX4 "chests" "[LTeaChests$Chest;" ∈ xT := xT_in (i := 212) (by decide +kernel) (by decide +kernel)
theorem mL_X4_X4_made : Cond.lays RX4 RX4 "made" "I" ∈ xT := xT_in (i := 214) (by decide +kernel) (by decide +kernel)
theorem mL_X4_X4_sheets : Cond.lays RX4 RX4 "sheets" "I" ∈ xT := xT_in (i := 216) (by decide +kernel) (by decide +kernel)
theorem mL_X4_X4_screws : Cond.lays RX4 RX4 "screws" "I" ∈ xT := xT_in (i := 218) (by decide +kernel) (by decide +kernel)
theorem mL_X4_X4_clock : Cond.lays RX4 RX4 "clock" "I" ∈ xT := xT_in (i := 220) (by decide +kernel) (by decide +kernel)
theorem mL_X4_X4_humidity : Cond.lays RX4 RX4 "humidity" "I" ∈ xT := xT_in (i := 222) (by decide +kernel) (by decide +kernel)
theorem mL_X4_X4_coins : Cond.lays RX4 RX4 "coins" "I" ∈ xT := xT_in (i := 224) (by decide +kernel) (by decide +kernel)
theorem mL_X4_X4_shipsSailed : Cond.lays RX4 RX4 "shipsSailed" "I" ∈ xT := xT_in (i := 226) (by decide +kernel) (by decide +kernel)
theorem mL_X4_X4_poundsBrought : Cond.lays RX4 RX4 "poundsBrought" "I" ∈ xT := xT_in (i := 228) (by decide +kernel) (by decide +kernel)
theorem mL_X4_X4_poundsSailed : Cond.lays RX4 RX4 "poundsSailed" "I" ∈ xT := xT_in (i := 230) (by decide +kernel) (by decide +kernel)
theorem mL_X4_X4_poundsThrown : Cond.lays RX4 RX4 "poundsThrown" "I" ∈ xT := xT_in (i := 232) (by decide +kernel) (by decide +kernel)
theorem mL_X4_X4_reason : Cond.lays RX4 RX4 "reason" "I" ∈ xT := xT_in (i := 234) (by decide +kernel) (by decide +kernel)
theorem mL_X4_X4_detail : Cond.lays RX4 RX4 "detail" "I" ∈ xT := xT_in (i := 236) (by decide +kernel) (by decide +kernel)
theorem mU_X4_Object : Cond.superclass RX4 "java/lang/Object" ∈ xT := xT_in (i := 238) (by decide +kernel) (by decide +kernel)
theorem mK_X7_23 : Cond.classLink RX7 23 RX3 ∈ xT := xT_in (i := 239) (by decide +kernel) (by decide +kernel)
theorem mA_X3 : Cond.instantiable RX3 3 ∈ xT := xT_in (i := 240) (by decide +kernel) (by decide +kernel)
theorem mM_X7_25 : Cond.methodLink RX7 25 yX3_init ∈ xT := xT_in (i := 241) (by decide +kernel) (by decide +kernel)
theorem mI_X3_init : Cond.instanceMethod yX3_init ∈ xT := xT_in (i := 242) (by decide +kernel) (by decide +kernel)
theorem mC_X3_init : Cond.code yX3_init cX3_init 2 none ∈ xT := xT_in (i := 243) (by decide +kernel) (by decide +kernel)
theorem mM_X3_3 : Cond.methodLink RX3 3 Lib.objectInit ∈ xT := xT_in (i := 244) (by decide +kernel) (by decide +kernel)
theorem mK_X3_11 : Cond.classLink RX3 11 RX4 ∈ xT := xT_in (i := 245) (by decide +kernel) (by decide +kernel)
theorem mM_X3_17 : Cond.methodLink RX3 17 yX4_init ∈ xT := xT_in (i := 247) (by decide +kernel) (by decide +kernel)
theorem mF_X3_13 : Cond.fieldLink RX3 13 "TeaChests$History" "rows" "[LTeaChests$House;" ∈ xT := xT_in (i := 248) (by decide +kernel) (by decide +kernel)
theorem mF_X3_18 : Cond.fieldLink RX3 18 "TeaChests$History" "committed" "I" ∈ xT := xT_in (i := 249) (by decide +kernel) (by decide +kernel)
theorem mF_X3_36 : Cond.fieldLink RX3 36 "TeaChests$History" "changes" "I" ∈ xT := xT_in (i := 250) (by decide +kernel) (by decide +kernel)
theorem mF_X7_256 : Cond.fieldLink RX7 256 "TeaChests$History" "changes" "I" ∈ xT := xT_in (i := 251) (by decide +kernel) (by decide +kernel)
theorem mL_X3_X3_rows : Cond.laysFinal RX3 RX3 "rows" "[LTeaChests$House;" ∈ xT := xT_in (i := 252) (by decide +kernel) (by decide +kernel)
theorem mL_X3_X3_committed : Cond.lays RX3 RX3 "committed" "I" ∈ xT := xT_in (i := 254) (by decide +kernel) (by decide +kernel)
theorem mL_X3_X3_changes : Cond.lays RX3 RX3 "changes" "I" ∈ xT := xT_in (i := 256) (by decide +kernel) (by decide +kernel)
theorem mU_X3_Object : Cond.superclass RX3 "java/lang/Object" ∈ xT := xT_in (i := 258) (by decide +kernel) (by decide +kernel)
theorem mK_X7_30 : Cond.classLink RX7 30 RX2 ∈ xT := xT_in (i := 259) (by decide +kernel) (by decide +kernel)
theorem mA_X2 : Cond.instantiable RX2 9 ∈ xT := xT_in (i := 260) (by decide +kernel) (by decide +kernel)
theorem mI_X2_init : Cond.instanceMethod yX2_init ∈ xT := xT_in (i := 262) (by decide +kernel) (by decide +kernel)
theorem mC_X2_init : Cond.code yX2_init cX2_init 1 none ∈ xT := xT_in (i := 263) (by decide +kernel) (by decide +kernel)
theorem mM_X2_3 : Cond.methodLink RX2 3 Lib.objectInit ∈ xT := xT_in (i := 264) (by decide +kernel) (by decide +kernel)
theorem mF_X2_9 : Cond.fieldLink RX2 9 "TeaChests$CommandText" "signs" "[C" ∈ xT := xT_in (i := 265) (by decide +kernel) (by decide +kernel)
theorem mF_X2_15 : Cond.fieldLink RX2 15 "TeaChests$CommandText" "length" "I" ∈ xT := xT_in (i := 266) (by decide +kernel) (by decide +kernel)
theorem mF_X7_254 : Cond.fieldLink RX7 254 "TeaChests$CommandText" "length" "I" ∈ xT := xT_in (i := 267) (by decide +kernel) (by decide +kernel)
theorem mF_X2_19 : Cond.fieldLink RX2 19 "TeaChests$CommandText" "at" "I" ∈ xT := xT_in (i := 268) (by decide +kernel) (by decide +kernel)
theorem mF_X2_87 : Cond.fieldLink RX2 87 "TeaChests$CommandText" "farthest" "I" ∈ xT := xT_in (i := 269) (by decide +kernel) (by decide +kernel)
theorem mF_X2_37 : Cond.fieldLink RX2 37 "TeaChests$CommandText" "verb" "LTeaChests$Verb;" ∈ xT := xT_in (i := 270) (by decide +kernel) (by decide +kernel)
theorem mF_X7_337 : Cond.fieldLink RX7 337 "TeaChests$CommandText" "verb" "LTeaChests$Verb;" ∈ xT := xT_in (i := 271) (by decide +kernel) (by decide +kernel)
theorem mF_X2_81 : Cond.fieldLink RX2 81 "TeaChests$CommandText" "chest" "I" ∈ xT := xT_in (i := 272) (by decide +kernel) (by decide +kernel)
theorem mF_X7_352 : Cond.fieldLink RX7 352 "TeaChests$CommandText" "chest" "I" ∈ xT := xT_in (i := 273) (by decide +kernel) (by decide +kernel)
theorem mF_X2_72 : Cond.fieldLink RX2 72 "TeaChests$CommandText" "garden" "I" ∈ xT := xT_in (i := 274) (by decide +kernel) (by decide +kernel)
theorem mF_X7_364 : Cond.fieldLink RX7 364 "TeaChests$CommandText" "garden" "I" ∈ xT := xT_in (i := 275) (by decide +kernel) (by decide +kernel)
theorem mF_X2_109 : Cond.fieldLink RX2 109 "TeaChests$CommandText" "kind" "I" ∈ xT := xT_in (i := 276) (by decide +kernel) (by decide +kernel)
theorem mF_X7_365 : Cond.fieldLink RX7 365 "TeaChests$CommandText" "kind" "I" ∈ xT := xT_in (i := 277) (by decide +kernel) (by decide +kernel)
theorem mF_X2_84 : Cond.fieldLink RX2 84 "TeaChests$CommandText" "many" "I" ∈ xT := xT_in (i := 278) (by decide +kernel) (by decide +kernel)
theorem mF_X7_349 : Cond.fieldLink RX7 349 "TeaChests$CommandText" "many" "I" ∈ xT := xT_in (i := 279) (by decide +kernel) (by decide +kernel)
theorem mL_X2_X2_signs : Cond.laysFinal RX2 RX2 "signs" "[C" ∈ xT := xT_in (i := 280) (by decide +kernel) (by decide +kernel)
theorem mL_X2_X2_length : Cond.lays RX2 RX2 "length" "I" ∈ xT := xT_in (i := 282) (by decide +kernel) (by decide +kernel)
theorem mL_X2_X2_at : Cond.lays RX2 RX2 "at" "I" ∈ xT := xT_in (i := 284) (by decide +kernel) (by decide +kernel)
theorem mL_X2_X2_farthest : Cond.lays RX2 RX2 "farthest" "I" ∈ xT := xT_in (i := 286) (by decide +kernel) (by decide +kernel)
theorem mL_X2_X2_verb : Cond.lays RX2 RX2 "verb" "LTeaChests$Verb;" ∈ xT := xT_in (i := 288) (by decide +kernel) (by decide +kernel)
theorem mL_X2_X2_chest : Cond.lays RX2 RX2 "chest" "I" ∈ xT := xT_in (i := 290) (by decide +kernel) (by decide +kernel)
theorem mL_X2_X2_garden : Cond.lays RX2 RX2 "garden" "I" ∈ xT := xT_in (i := 292) (by decide +kernel) (by decide +kernel)
theorem mL_X2_X2_kind : Cond.lays RX2 RX2 "kind" "I" ∈ xT := xT_in (i := 294) (by decide +kernel) (by decide +kernel)
theorem mL_X2_X2_many : Cond.lays RX2 RX2 "many" "I" ∈ xT := xT_in (i := 296) (by decide +kernel) (by decide +kernel)
theorem mU_X2_Object : Cond.superclass RX2 "java/lang/Object" ∈ xT := xT_in (i := 298) (by decide +kernel) (by decide +kernel)
theorem mR_char : Cond.arrayClass .char ∈ xT := xT_in (i := 299) (by decide +kernel) (by decide +kernel)
theorem mF_X7_10 : Cond.fieldLink RX7 10 "TeaChests" "house" "LTeaChests$House;" ∈ xT := xT_in (i := 300) (by decide +kernel) (by decide +kernel)
theorem mF_X7_16 : Cond.fieldLink RX7 16 "TeaChests" "saved" "LTeaChests$House;" ∈ xT := xT_in (i := 301) (by decide +kernel) (by decide +kernel)
theorem mF_X7_19 : Cond.fieldLink RX7 19 "TeaChests" "isSaved" "Z" ∈ xT := xT_in (i := 302) (by decide +kernel) (by decide +kernel)
theorem mF_X7_26 : Cond.fieldLink RX7 26 "TeaChests" "history" "LTeaChests$History;" ∈ xT := xT_in (i := 303) (by decide +kernel) (by decide +kernel)
theorem mF_X7_33 : Cond.fieldLink RX7 33 "TeaChests" "text" "LTeaChests$CommandText;" ∈ xT := xT_in (i := 304) (by decide +kernel) (by decide +kernel)
theorem mL_X7_X7_house : Cond.laysFinal RX7 RX7 "house" "LTeaChests$House;" ∈ xT := xT_in (i := 305) (by decide +kernel) (by decide +kernel)
theorem mL_X7_X7_saved : Cond.laysFinal RX7 RX7 "saved" "LTeaChests$House;" ∈ xT := xT_in (i := 307) (by decide +kernel) (by decide +kernel)
theorem mL_X7_X7_isSaved : Cond.lays RX7 RX7 "isSaved" "Z" ∈ xT := xT_in (i := 309) (by decide +kernel) (by decide +kernel)
theorem mL_X7_X7_history : Cond.laysFinal RX7 RX7 "history" "LTeaChests$History;" ∈ xT := xT_in (i := 311) (by decide +kernel) (by decide +kernel)
theorem mL_X7_X7_text : Cond.laysFinal RX7 RX7 "text" "LTeaChests$CommandText;" ∈ xT := xT_in (i := 313) (by decide +kernel) (by decide +kernel)
theorem mU_X7_Object : Cond.superclass RX7 "java/lang/Object" ∈ xT := xT_in (i := 315) (by decide +kernel) (by decide +kernel)
theorem mM_L_134 : Cond.methodLink RL 134 yX7_bestGarden ∈ xT := xT_in (i := 316) (by decide +kernel) (by decide +kernel)
theorem mI_X7_bestGarden : Cond.instanceMethod yX7_bestGarden ∈ xT := xT_in (i := 317) (by decide +kernel) (by decide +kernel)
theorem mV_X7_bestGarden : Cond.selects RX7 yX7_bestGarden yX7_bestGarden ∈ xT := xT_in (i := 318) (by decide +kernel) (by decide +kernel)
theorem mC_X7_bestGarden : Cond.code yX7_bestGarden cX7_bestGarden 3 (some .int) ∈ xT := xT_in (i := 319) (by decide +kernel) (by decide +kernel)
theorem mM_X7_61 : Cond.methodLink RX7 61 yX4_isBetterGarden ∈ xT := xT_in (i := 320) (by decide +kernel) (by decide +kernel)
theorem mI_X4_isBetterGarden : Cond.instanceMethod yX4_isBetterGarden ∈ xT := xT_in (i := 321) (by decide +kernel) (by decide +kernel)
theorem mV_X4_isBetterGarden : Cond.selects RX4 yX4_isBetterGarden yX4_isBetterGarden ∈ xT := xT_in (i := 322) (by decide +kernel) (by decide +kernel)
theorem mC_X4_isBetterGarden : Cond.code yX4_isBetterGarden cX4_isBetterGarden 5 (some .boolean) ∈ xT := xT_in (i := 323) (by decide +kernel) (by decide +kernel)
theorem mM_X4_77 : Cond.methodLink RX4 77 yX4_storedOf ∈ xT := xT_in (i := 324) (by decide +kernel) (by decide +kernel)
theorem mI_X4_storedOf : Cond.instanceMethod yX4_storedOf ∈ xT := xT_in (i := 326) (by decide +kernel) (by decide +kernel)
theorem mC_X4_storedOf : Cond.code yX4_storedOf cX4_storedOf 4 (some .int) ∈ xT := xT_in (i := 327) (by decide +kernel) (by decide +kernel)
theorem mM_X4_73 : Cond.methodLink RX4 73 yX4_stored ∈ xT := xT_in (i := 328) (by decide +kernel) (by decide +kernel)
theorem mI_X4_stored : Cond.instanceMethod yX4_stored ∈ xT := xT_in (i := 329) (by decide +kernel) (by decide +kernel)
theorem mV_X4_stored : Cond.selects RX4 yX4_stored yX4_stored ∈ xT := xT_in (i := 330) (by decide +kernel) (by decide +kernel)
theorem mC_X4_stored : Cond.code yX4_stored cX4_stored 3 (some .int) ∈ xT := xT_in (i := 331) (by decide +kernel) (by decide +kernel)
theorem mM_X4_69 : Cond.methodLink RX4 69 yX4_isLeaf ∈ xT := xT_in (i := 332) (by decide +kernel) (by decide +kernel)
theorem mS_X4_isLeaf : Cond.static yX4_isLeaf ∈ xT := xT_in (i := 333) (by decide +kernel) (by decide +kernel)
theorem mC_X4_isLeaf : Cond.code yX4_isLeaf cX4_isLeaf 2 (some .boolean) ∈ xT := xT_in (i := 334) (by decide +kernel) (by decide +kernel)
theorem mM_L_187 : Cond.methodLink RL 187 yX7_cargo ∈ xT := xT_in (i := 335) (by decide +kernel) (by decide +kernel)
theorem mI_X7_cargo : Cond.instanceMethod yX7_cargo ∈ xT := xT_in (i := 336) (by decide +kernel) (by decide +kernel)
theorem mV_X7_cargo : Cond.selects RX7 yX7_cargo yX7_cargo ∈ xT := xT_in (i := 337) (by decide +kernel) (by decide +kernel)
theorem mC_X7_cargo : Cond.code yX7_cargo cX7_cargo 1 (some .int) ∈ xT := xT_in (i := 338) (by decide +kernel) (by decide +kernel)
theorem mM_X7_192 : Cond.methodLink RX7 192 yX4_shipCoins ∈ xT := xT_in (i := 339) (by decide +kernel) (by decide +kernel)
theorem mI_X4_shipCoins : Cond.instanceMethod yX4_shipCoins ∈ xT := xT_in (i := 340) (by decide +kernel) (by decide +kernel)
theorem mV_X4_shipCoins : Cond.selects RX4 yX4_shipCoins yX4_shipCoins ∈ xT := xT_in (i := 341) (by decide +kernel) (by decide +kernel)
theorem mC_X4_shipCoins : Cond.code yX4_shipCoins cX4_shipCoins 6 (some .int) ∈ xT := xT_in (i := 342) (by decide +kernel) (by decide +kernel)
theorem mM_X4_220 : Cond.methodLink RX4 220 yX1_coins ∈ xT := xT_in (i := 343) (by decide +kernel) (by decide +kernel)
theorem mI_X1_coins : Cond.instanceMethod yX1_coins ∈ xT := xT_in (i := 344) (by decide +kernel) (by decide +kernel)
theorem mV_X1_coins : Cond.selects RX1 yX1_coins yX1_coins ∈ xT := xT_in (i := 345) (by decide +kernel) (by decide +kernel)
theorem mC_X1_coins : Cond.code yX1_coins cX1_coins 1 (some .int) ∈ xT := xT_in (i := 346) (by decide +kernel) (by decide +kernel)
theorem mM_L_197 : Cond.methodLink RL 197 yX7_reachedIn ∈ xT := xT_in (i := 347) (by decide +kernel) (by decide +kernel)
theorem mI_X7_reachedIn : Cond.instanceMethod yX7_reachedIn ∈ xT := xT_in (i := 348) (by decide +kernel) (by decide +kernel)
theorem mV_X7_reachedIn : Cond.selects RX7 yX7_reachedIn yX7_reachedIn ∈ xT := xT_in (i := 349) (by decide +kernel) (by decide +kernel)
theorem mC_X7_reachedIn : Cond.code yX7_reachedIn cX7_reachedIn 2 (some .int) ∈ xT := xT_in (i := 350) (by decide +kernel) (by decide +kernel)
theorem mM_X7_198 : Cond.methodLink RX7 198 yX4_heightIn ∈ xT := xT_in (i := 351) (by decide +kernel) (by decide +kernel)
theorem mI_X4_heightIn : Cond.instanceMethod yX4_heightIn ∈ xT := xT_in (i := 352) (by decide +kernel) (by decide +kernel)
theorem mV_X4_heightIn : Cond.selects RX4 yX4_heightIn yX4_heightIn ∈ xT := xT_in (i := 353) (by decide +kernel) (by decide +kernel)
theorem mC_X4_heightIn : Cond.code yX4_heightIn cX4_heightIn 2 (some .int) ∈ xT := xT_in (i := 354) (by decide +kernel) (by decide +kernel)
theorem mM_X4_222 : Cond.methodLink RX4 222 Lib.Math.abs.name ∈ xT := xT_in (i := 355) (by decide +kernel) (by decide +kernel)
theorem mS_Math_abs : Cond.static Lib.Math.abs.name ∈ xT := xT_in (i := 356) (by decide +kernel) (by decide +kernel)
theorem mC_Math_abs : Cond.code Lib.Math.abs.name Lib.Math.abs.code 1 (some .int) ∈ xT := xT_in (i := 357) (by decide +kernel) (by decide +kernel)
theorem mM_L_207 : Cond.methodLink RL 207 yX7_isWell ∈ xT := xT_in (i := 358) (by decide +kernel) (by decide +kernel)
theorem mI_X7_isWell : Cond.instanceMethod yX7_isWell ∈ xT := xT_in (i := 359) (by decide +kernel) (by decide +kernel)
theorem mV_X7_isWell : Cond.selects RX7 yX7_isWell yX7_isWell ∈ xT := xT_in (i := 360) (by decide +kernel) (by decide +kernel)
theorem mC_X7_isWell : Cond.code yX7_isWell cX7_isWell 2 (some .boolean) ∈ xT := xT_in (i := 361) (by decide +kernel) (by decide +kernel)
theorem mM_X7_210 : Cond.methodLink RX7 210 yX4_poundsStored ∈ xT := xT_in (i := 362) (by decide +kernel) (by decide +kernel)
theorem mI_X4_poundsStored : Cond.instanceMethod yX4_poundsStored ∈ xT := xT_in (i := 363) (by decide +kernel) (by decide +kernel)
theorem mV_X4_poundsStored : Cond.selects RX4 yX4_poundsStored yX4_poundsStored ∈ xT := xT_in (i := 364) (by decide +kernel) (by decide +kernel)
theorem mC_X4_poundsStored : Cond.code yX4_poundsStored cX4_poundsStored 3 (some .int) ∈ xT := xT_in (i := 365) (by decide +kernel) (by decide +kernel)
theorem mM_X7_213 : Cond.methodLink RX7 213 yX4_poundsInChests ∈ xT := xT_in (i := 366) (by decide +kernel) (by decide +kernel)
theorem mI_X4_poundsInChests : Cond.instanceMethod yX4_poundsInChests ∈ xT := xT_in (i := 367) (by decide +kernel) (by decide +kernel)
theorem mV_X4_poundsInChests : Cond.selects RX4 yX4_poundsInChests yX4_poundsInChests ∈ xT := xT_in (i := 368) (by decide +kernel) (by decide +kernel)
theorem mC_X4_poundsInChests : Cond.code yX4_poundsInChests cX4_poundsInChests 6 (some .int) ∈ xT := xT_in (i := 369) (by decide +kernel) (by decide +kernel)
theorem mM_X4_189 : Cond.methodLink RX4 189 yX1_isThere ∈ xT := xT_in (i := 370) (by decide +kernel) (by decide +kernel)
theorem mI_X1_isThere : Cond.instanceMethod yX1_isThere ∈ xT := xT_in (i := 371) (by decide +kernel) (by decide +kernel)
theorem mV_X1_isThere : Cond.selects RX1 yX1_isThere yX1_isThere ∈ xT := xT_in (i := 372) (by decide +kernel) (by decide +kernel)
theorem mC_X1_isThere : Cond.code yX1_isThere cX1_isThere 1 (some .boolean) ∈ xT := xT_in (i := 373) (by decide +kernel) (by decide +kernel)
theorem mM_X7_225 : Cond.methodLink RX7 225 yX4_isOutsideInOrder ∈ xT := xT_in (i := 374) (by decide +kernel) (by decide +kernel)
theorem mI_X4_isOutsideInOrder : Cond.instanceMethod yX4_isOutsideInOrder ∈ xT := xT_in (i := 375) (by decide +kernel) (by decide +kernel)
theorem mV_X4_isOutsideInOrder : Cond.selects RX4 yX4_isOutsideInOrder yX4_isOutsideInOrder ∈ xT := xT_in (i := 376) (by decide +kernel) (by decide +kernel)
theorem mC_X4_isOutsideInOrder : Cond.code yX4_isOutsideInOrder cX4_isOutsideInOrder 6 (some .boolean) ∈ xT := xT_in (i := 377) (by decide +kernel) (by decide +kernel)
theorem mM_X4_126 : Cond.methodLink RX4 126 yX1_isTight ∈ xT := xT_in (i := 378) (by decide +kernel) (by decide +kernel)
theorem mI_X1_isTight : Cond.instanceMethod yX1_isTight ∈ xT := xT_in (i := 379) (by decide +kernel) (by decide +kernel)
theorem mV_X1_isTight : Cond.selects RX1 yX1_isTight yX1_isTight ∈ xT := xT_in (i := 380) (by decide +kernel) (by decide +kernel)
theorem mC_X1_isTight : Cond.code yX1_isTight cX1_isTight 1 (some .boolean) ∈ xT := xT_in (i := 381) (by decide +kernel) (by decide +kernel)
theorem mM_X4_130 : Cond.methodLink RX4 130 yX1_hasLabel ∈ xT := xT_in (i := 382) (by decide +kernel) (by decide +kernel)
theorem mI_X1_hasLabel : Cond.instanceMethod yX1_hasLabel ∈ xT := xT_in (i := 383) (by decide +kernel) (by decide +kernel)
theorem mV_X1_hasLabel : Cond.selects RX1 yX1_hasLabel yX1_hasLabel ∈ xT := xT_in (i := 384) (by decide +kernel) (by decide +kernel)
theorem mC_X1_hasLabel : Cond.code yX1_hasLabel cX1_hasLabel 1 (some .boolean) ∈ xT := xT_in (i := 385) (by decide +kernel) (by decide +kernel)
theorem mM_X1_46 : Cond.methodLink RX1 46 yJ0_isEmpty_aae02 ∈ xT := xT_in (i := 386) (by decide +kernel) (by decide +kernel)
theorem mI_J0_isEmpty_aae02 : Cond.instanceMethod yJ0_isEmpty_aae02 ∈ xT := xT_in (i := 387) (by decide +kernel) (by decide +kernel)
theorem mV_J0_isEmpty_aae02 : Cond.selects RJ0 yJ0_isEmpty_aae02 yJ0_isEmpty_aae02 ∈ xT := xT_in (i := 388) (by decide +kernel) (by decide +kernel)
theorem mC_J0_isEmpty_aae02 : Cond.code yJ0_isEmpty_aae02 cJ0_isEmpty_aae02 1 (some .boolean) ∈ xT := xT_in (i := 389) (by decide +kernel) (by decide +kernel)
theorem mM_L_239 : Cond.methodLink RL 239 yX7_save ∈ xT := xT_in (i := 390) (by decide +kernel) (by decide +kernel)
theorem mI_X7_save : Cond.instanceMethod yX7_save ∈ xT := xT_in (i := 391) (by decide +kernel) (by decide +kernel)
theorem mV_X7_save : Cond.selects RX7 yX7_save yX7_save ∈ xT := xT_in (i := 392) (by decide +kernel) (by decide +kernel)
theorem mC_X7_save : Cond.code yX7_save cX7_save 1 (some .int) ∈ xT := xT_in (i := 393) (by decide +kernel) (by decide +kernel)
theorem mM_X7_291 : Cond.methodLink RX7 291 yX4_copyFrom ∈ xT := xT_in (i := 394) (by decide +kernel) (by decide +kernel)
theorem mI_X4_copyFrom : Cond.instanceMethod yX4_copyFrom ∈ xT := xT_in (i := 395) (by decide +kernel) (by decide +kernel)
theorem mV_X4_copyFrom : Cond.selects RX4 yX4_copyFrom yX4_copyFrom ∈ xT := xT_in (i := 396) (by decide +kernel) (by decide +kernel)
theorem mC_X4_copyFrom : Cond.code yX4_copyFrom cX4_copyFrom 3 none ∈ xT := xT_in (i := 397) (by decide +kernel) (by decide +kernel)
theorem mM_X4_38 : Cond.methodLink RX4 38 ⟨RJ10, "arraycopy", "(Ljava/lang/Object;ILjava/lang/Object;II)V"⟩ ∈ xT := xT_in (i := 398) (by decide +kernel) (by decide +kernel)
theorem mS_System_arraycopy : Cond.static ⟨RJ10, "arraycopy", "(Ljava/lang/Object;ILjava/lang/Object;II)V"⟩ ∈ xT := xT_in (i := 399) (by decide +kernel) (by decide +kernel)
theorem mZ_System_arraycopy : Cond.native ⟨RJ10, "arraycopy", "(Ljava/lang/Object;ILjava/lang/Object;II)V"⟩ ∈ xT := xT_in (i := 400) (by decide +kernel) (by decide +kernel)
theorem mM_X4_44 : Cond.methodLink RX4 44 yX1_copyFrom ∈ xT := xT_in (i := 401) (by decide +kernel) (by decide +kernel)
theorem mI_X1_copyFrom : Cond.instanceMethod yX1_copyFrom ∈ xT := xT_in (i := 402) (by decide +kernel) (by decide +kernel)
theorem mV_X1_copyFrom : Cond.selects RX1 yX1_copyFrom yX1_copyFrom ∈ xT := xT_in (i := 403) (by decide +kernel) (by decide +kernel)
theorem mC_X1_copyFrom : Cond.code yX1_copyFrom cX1_copyFrom 2 none ∈ xT := xT_in (i := 404) (by decide +kernel) (by decide +kernel)
theorem mM_L_124 : Cond.methodLink RL 124 yL_bring ∈ xT := xT_in (i := 405) (by decide +kernel) (by decide +kernel)
theorem mS_L_bring : Cond.static yL_bring ∈ xT := xT_in (i := 406) (by decide +kernel) (by decide +kernel)
theorem mC_L_bring : Cond.codeWith yL_bring cL_bring 6 (some .int) [((0), (12), (15), (13)), ((0), (12), (19), (15)), ((0), (12), (23), (17))] ∈ xT := xT_in (i := 407) (by decide +kernel) (by decide +kernel)
theorem mK_L_13 : Cond.classLink RL 13 "java/lang/IndexOutOfBoundsException" ∈ xT := xT_in (i := 408) (by decide +kernel) (by decide +kernel)
theorem mA_Jx00060 : Cond.instantiable RJx00060 6 ∈ xT := xT_in (i := 409) (by decide +kernel) (by decide +kernel)
theorem mI_Jx00060_init_a7421 : Cond.instanceMethod yJx00060_init_a7421 ∈ xT := xT_in (i := 410) (by decide +kernel) (by decide +kernel)
theorem mC_Jx00060_init_a7421 : Cond.code yJx00060_init_a7421 cJx00060_init_a7421 2 none ∈ xT := xT_in (i := 411) (by decide +kernel) (by decide +kernel)
theorem mM_Jx00060_7 : Cond.methodLink RJx00060 7 ⟨"java/lang/IndexOutOfBoundsException", "<init>", "(Ljava/lang/String;)V"⟩ ∈ xT := xT_in (i := 412) (by decide +kernel) (by decide +kernel)
theorem mI_IndexOutOfBoundsException_init_S : Cond.instanceMethod ⟨"java/lang/IndexOutOfBoundsException", "<init>", "(Ljava/lang/String;)V"⟩ ∈ xT := xT_in (i := 413) (by decide +kernel) (by decide +kernel)
theorem mC_IndexOutOfBoundsException_init_S : Cond.code ⟨"java/lang/IndexOutOfBoundsException", "<init>", "(Ljava/lang/String;)V"⟩ prog_23_method_2_code 2 none ∈ xT := xT_in (i := 414) (by decide +kernel) (by decide +kernel)
theorem mM_IndexOutOfBoundsException_7 : Cond.methodLink "java/lang/IndexOutOfBoundsException" 7 ⟨"java/lang/RuntimeException", "<init>", "(Ljava/lang/String;)V"⟩ ∈ xT := xT_in (i := 415) (by decide +kernel) (by decide +kernel)
theorem mI_RuntimeException_init_S : Cond.instanceMethod ⟨"java/lang/RuntimeException", "<init>", "(Ljava/lang/String;)V"⟩ ∈ xT := xT_in (i := 416) (by decide +kernel) (by decide +kernel)
theorem mC_RuntimeException_init_S : Cond.code ⟨"java/lang/RuntimeException", "<init>", "(Ljava/lang/String;)V"⟩ prog_27_method_2_code 2 none ∈ xT := xT_in (i := 417) (by decide +kernel) (by decide +kernel)
theorem mM_RuntimeException_7 : Cond.methodLink "java/lang/RuntimeException" 7 ⟨"java/lang/Exception", "<init>", "(Ljava/lang/String;)V"⟩ ∈ xT := xT_in (i := 418) (by decide +kernel) (by decide +kernel)
theorem mI_Exception_init_S : Cond.instanceMethod ⟨"java/lang/Exception", "<init>", "(Ljava/lang/String;)V"⟩ ∈ xT := xT_in (i := 419) (by decide +kernel) (by decide +kernel)
theorem mC_Exception_init_S : Cond.code ⟨"java/lang/Exception", "<init>", "(Ljava/lang/String;)V"⟩ prog_20_method_2_code 2 none ∈ xT := xT_in (i := 420) (by decide +kernel) (by decide +kernel)
theorem mM_Exception_7 : Cond.methodLink "java/lang/Exception" 7 ⟨"java/lang/Throwable", "<init>", "(Ljava/lang/String;)V"⟩ ∈ xT := xT_in (i := 421) (by decide +kernel) (by decide +kernel)
theorem mI_Throwable_init_S : Cond.instanceMethod ⟨"java/lang/Throwable", "<init>", "(Ljava/lang/String;)V"⟩ ∈ xT := xT_in (i := 422) (by decide +kernel) (by decide +kernel)
theorem mC_Throwable_init_S : Cond.code ⟨"java/lang/Throwable", "<init>", "(Ljava/lang/String;)V"⟩ prog_33_method_2_code 2 none ∈ xT := xT_in (i := 423) (by decide +kernel) (by decide +kernel)
theorem mM_Throwable_1 : Cond.methodLink "java/lang/Throwable" 1 Lib.objectInit ∈ xT := xT_in (i := 424) (by decide +kernel) (by decide +kernel)
theorem mF_Throwable_13 : Cond.fieldLink "java/lang/Throwable" 13 "java/lang/Throwable" "UNASSIGNED_STACK" "[Ljava/lang/StackTraceElement;" ∈ xT := xT_in (i := 425) (by decide +kernel) (by decide +kernel)
theorem mF_Throwable_20 : Cond.fieldLink "java/lang/Throwable" 20 "java/lang/Throwable" "SUPPRESSED_SENTINEL" "Ljava/util/List;" ∈ xT := xT_in (i := 427) (by decide +kernel) (by decide +kernel)
theorem mM_Throwable_27 : Cond.methodLink "java/lang/Throwable" 27 ⟨"java/lang/Throwable", "fillInStackTrace", "()Ljava/lang/Throwable;"⟩ ∈ xT := xT_in (i := 429) (by decide +kernel) (by decide +kernel)
theorem mI_Throwable_fillInStackTrace : Cond.instanceMethod ⟨"java/lang/Throwable", "fillInStackTrace", "()Ljava/lang/Throwable;"⟩ ∈ xT := xT_in (i := 430) (by decide +kernel) (by decide +kernel)
theorem mE_Throwable_Throwable_fillInStackTrace_10618 : Cond.sameMethod "java/lang/Throwable" "java/lang/Throwable" "fillInStackTrace" "()Ljava/lang/Throwable;" ∈ xT := xT_in (i := 431) (by decide +kernel) (by decide +kernel)
theorem mV_ArithmeticException_Throwable_fillInStackTrace : Cond.selects "java/lang/ArithmeticException" ⟨"java/lang/Throwable", "fillInStackTrace", "()Ljava/lang/Throwable;"⟩ ⟨"java/lang/Throwable", "fillInStackTrace", "()Ljava/lang/Throwable;"⟩ ∈ xT := xT_in (i := 432) (by decide +kernel) (by decide +kernel)
theorem mV_Jx00060_Throwable_fillInStackTrace : Cond.selects RJx00060 ⟨"java/lang/Throwable", "fillInStackTrace", "()Ljava/lang/Throwable;"⟩ ⟨"java/lang/Throwable", "fillInStackTrace", "()Ljava/lang/Throwable;"⟩ ∈ xT := xT_in (i := 433) (by decide +kernel) (by decide +kernel)
theorem mV_IllegalArgumentException_Throwable_fillInStackTrace : Cond.selects "java/lang/IllegalArgumentException" ⟨"java/lang/Throwable", "fillInStackTrace", "()Ljava/lang/Throwable;"⟩ ⟨"java/lang/Throwable", "fillInStackTrace", "()Ljava/lang/Throwable;"⟩ ∈ xT := xT_in (i := 434) (by decide +kernel) (by decide +kernel)
theorem mV_IllegalStateException_Throwable_fillInStackTrace : Cond.selects "java/lang/IllegalStateException" ⟨"java/lang/Throwable", "fillInStackTrace", "()Ljava/lang/Throwable;"⟩ ⟨"java/lang/Throwable", "fillInStackTrace", "()Ljava/lang/Throwable;"⟩ ∈ xT := xT_in (i := 435) (by decide +kernel) (by decide +kernel)
theorem mV_IndexOutOfBoundsException_Throwable_fillInStackTrace : Cond.selects "java/lang/IndexOutOfBoundsException" ⟨"java/lang/Throwable", "fillInStackTrace", "()Ljava/lang/Throwable;"⟩ ⟨"java/lang/Throwable", "fillInStackTrace", "()Ljava/lang/Throwable;"⟩ ∈ xT := xT_in (i := 436) (by decide +kernel) (by decide +kernel)
theorem mV_UnsupportedOperationException_Throwable_fillInStackTrace : Cond.selects "java/lang/UnsupportedOperationException" ⟨"java/lang/Throwable", "fillInStackTrace", "()Ljava/lang/Throwable;"⟩ ⟨"java/lang/Throwable", "fillInStackTrace", "()Ljava/lang/Throwable;"⟩ ∈ xT := xT_in (i := 437) (by decide +kernel) (by decide +kernel)
theorem mV_NoSuchElementException_Throwable_fillInStackTrace : Cond.selects "java/util/NoSuchElementException" ⟨"java/lang/Throwable", "fillInStackTrace", "()Ljava/lang/Throwable;"⟩ ⟨"java/lang/Throwable", "fillInStackTrace", "()Ljava/lang/Throwable;"⟩ ∈ xT := xT_in (i := 438) (by decide +kernel) (by decide +kernel)
theorem mM_Throwable_202 : Cond.methodLink "java/lang/Throwable" 202 ⟨"java/lang/Throwable", "fillInStackTrace", "(I)Ljava/lang/Throwable;"⟩ ∈ xT := xT_in (i := 440) (by decide +kernel) (by decide +kernel)
theorem mA_Throwable : Cond.instantiable "java/lang/Throwable" 6 ∈ xT := xT_in (i := 443) (by decide +kernel) (by decide +kernel)
theorem mZ_Throwable_fillInStackTrace : Cond.native ⟨"java/lang/Throwable", "fillInStackTrace", "(I)Ljava/lang/Throwable;"⟩ ∈ xT := xT_in (i := 444) (by decide +kernel) (by decide +kernel)
theorem mF_Throwable_198 : Cond.fieldLink "java/lang/Throwable" 198 "java/lang/Throwable" "backtrace" "Ljava/lang/Object;" ∈ xT := xT_in (i := 445) (by decide +kernel) (by decide +kernel)
theorem mF_Throwable_31 : Cond.fieldLink "java/lang/Throwable" 31 "java/lang/Throwable" "detailMessage" "Ljava/lang/String;" ∈ xT := xT_in (i := 446) (by decide +kernel) (by decide +kernel)
theorem mF_Throwable_7 : Cond.fieldLink "java/lang/Throwable" 7 "java/lang/Throwable" "cause" "Ljava/lang/Throwable;" ∈ xT := xT_in (i := 447) (by decide +kernel) (by decide +kernel)
theorem mF_Throwable_17 : Cond.fieldLink "java/lang/Throwable" 17 "java/lang/Throwable" "stackTrace" "[Ljava/lang/StackTraceElement;" ∈ xT := xT_in (i := 448) (by decide +kernel) (by decide +kernel)
theorem mF_Throwable_24 : Cond.fieldLink "java/lang/Throwable" 24 "java/lang/Throwable" "suppressedExceptions" "Ljava/util/List;" ∈ xT := xT_in (i := 449) (by decide +kernel) (by decide +kernel)
theorem mL_Jx00060_Throwable_backtrace : Cond.lays RJx00060 "java/lang/Throwable" "backtrace" "Ljava/lang/Object;" ∈ xT := xT_in (i := 450) (by decide +kernel) (by decide +kernel)
theorem mL_Jx00060_Throwable_detailMessage : Cond.lays RJx00060 "java/lang/Throwable" "detailMessage" "Ljava/lang/String;" ∈ xT := xT_in (i := 452) (by decide +kernel) (by decide +kernel)
theorem mL_Jx00060_Throwable_cause : Cond.lays RJx00060 "java/lang/Throwable" "cause" "Ljava/lang/Throwable;" ∈ xT := xT_in (i := 454) (by decide +kernel) (by decide +kernel)
theorem mL_Jx00060_Throwable_stackTrace : Cond.lays RJx00060 "java/lang/Throwable" "stackTrace" "[Ljava/lang/StackTraceElement;" ∈ xT := xT_in (i := 456) (by decide +kernel) (by decide +kernel)
theorem mL_Jx00060_Throwable_depth : Cond.lays RJx00060 "java/lang/Throwable" "depth" "I" ∈ xT := xT_in (i := 458) (by decide +kernel) (by decide +kernel)
theorem mL_Jx00060_Throwable_suppressedExceptions : Cond.lays RJx00060 "java/lang/Throwable" "suppressedExceptions" "Ljava/util/List;" ∈ xT := xT_in (i := 460) (by decide +kernel) (by decide +kernel)
theorem mU_Jx00060_IndexOutOfBoundsException : Cond.superclass RJx00060 "java/lang/IndexOutOfBoundsException" ∈ xT := xT_in (i := 462) (by decide +kernel) (by decide +kernel)
theorem mL_Throwable_Throwable_cause : Cond.lays "java/lang/Throwable" "java/lang/Throwable" "cause" "Ljava/lang/Throwable;" ∈ xT := xT_in (i := 473) (by decide +kernel) (by decide +kernel)
theorem mL_Throwable_Throwable_stackTrace : Cond.lays "java/lang/Throwable" "java/lang/Throwable" "stackTrace" "[Ljava/lang/StackTraceElement;" ∈ xT := xT_in (i := 474) (by decide +kernel) (by decide +kernel)
theorem mL_Throwable_Throwable_suppressedExceptions : Cond.lays "java/lang/Throwable" "java/lang/Throwable" "suppressedExceptions" "Ljava/util/List;" ∈ xT := xT_in (i := 475) (by decide +kernel) (by decide +kernel)
theorem mL_Throwable_Throwable_detailMessage : Cond.lays "java/lang/Throwable" "java/lang/Throwable" "detailMessage" "Ljava/lang/String;" ∈ xT := xT_in (i := 476) (by decide +kernel) (by decide +kernel)
theorem mL_Throwable_Throwable_backtrace : Cond.lays "java/lang/Throwable" "java/lang/Throwable" "backtrace" "Ljava/lang/Object;" ∈ xT := xT_in (i := 477) (by decide +kernel) (by decide +kernel)
theorem mU_Throwable_Object : Cond.superclass "java/lang/Throwable" "java/lang/Object" ∈ xT := xT_in (i := 479) (by decide +kernel) (by decide +kernel)
theorem mI_Throwable_init : Cond.instanceMethod ⟨"java/lang/Throwable", "<init>", "()V"⟩ ∈ xT := xT_in (i := 480) (by decide +kernel) (by decide +kernel)
theorem mC_Throwable_init : Cond.code ⟨"java/lang/Throwable", "<init>", "()V"⟩ prog_33_method_1_code 1 none ∈ xT := xT_in (i := 481) (by decide +kernel) (by decide +kernel)
theorem mA_J0 : Cond.instantiable RJ0 4 ∈ xT := xT_in (i := 482) (by decide +kernel) (by decide +kernel)
theorem mL_J0_J0_value : Cond.laysFinal RJ0 RJ0 "value" "[B" ∈ xT := xT_in (i := 483) (by decide +kernel) (by decide +kernel)
theorem mL_J0_J0_coder : Cond.laysFinal RJ0 RJ0 "coder" "B" ∈ xT := xT_in (i := 485) (by decide +kernel) (by decide +kernel)
theorem mK_L_15 : Cond.classLink RL 15 "java/lang/IllegalArgumentException" ∈ xT := xT_in (i := 487) (by decide +kernel) (by decide +kernel)
theorem mK_L_17 : Cond.classLink RL 17 "java/lang/UnsupportedOperationException" ∈ xT := xT_in (i := 488) (by decide +kernel) (by decide +kernel)
theorem mM_L_7 : Cond.methodLink RL 7 yX7_bring ∈ xT := xT_in (i := 489) (by decide +kernel) (by decide +kernel)
theorem mI_X7_bring : Cond.instanceMethod yX7_bring ∈ xT := xT_in (i := 490) (by decide +kernel) (by decide +kernel)
theorem mV_X7_bring : Cond.selects RX7 yX7_bring yX7_bring ∈ xT := xT_in (i := 491) (by decide +kernel) (by decide +kernel)
theorem mC_X7_bring : Cond.code yX7_bring cX7_bring 4 (some .int) ∈ xT := xT_in (i := 492) (by decide +kernel) (by decide +kernel)
theorem mM_X7_37 : Cond.methodLink RX7 37 yX7_needLeaf ∈ xT := xT_in (i := 493) (by decide +kernel) (by decide +kernel)
theorem mS_X7_needLeaf : Cond.static yX7_needLeaf ∈ xT := xT_in (i := 494) (by decide +kernel) (by decide +kernel)
theorem mC_X7_needLeaf : Cond.code yX7_needLeaf cX7_needLeaf 2 none ∈ xT := xT_in (i := 495) (by decide +kernel) (by decide +kernel)
theorem mM_X7_304 : Cond.methodLink RX7 304 yX4_isLeaf ∈ xT := xT_in (i := 496) (by decide +kernel) (by decide +kernel)
theorem mK_X7_307 : Cond.classLink RX7 307 "java/lang/IndexOutOfBoundsException" ∈ xT := xT_in (i := 497) (by decide +kernel) (by decide +kernel)
theorem mA_IndexOutOfBoundsException : Cond.instantiable "java/lang/IndexOutOfBoundsException" 6 ∈ xT := xT_in (i := 498) (by decide +kernel) (by decide +kernel)
theorem mL_IndexOutOfBoundsException_Throwable_cause : Cond.lays "java/lang/IndexOutOfBoundsException" "java/lang/Throwable" "cause" "Ljava/lang/Throwable;" ∈ xT := xT_in (i := 501) (by decide +kernel) (by decide +kernel)
theorem mL_IndexOutOfBoundsException_Throwable_stackTrace : Cond.lays "java/lang/IndexOutOfBoundsException" "java/lang/Throwable" "stackTrace" "[Ljava/lang/StackTraceElement;" ∈ xT := xT_in (i := 502) (by decide +kernel) (by decide +kernel)
theorem mL_IndexOutOfBoundsException_Throwable_suppressedExceptions : Cond.lays "java/lang/IndexOutOfBoundsException" "java/lang/Throwable" "suppressedExceptions" "Ljava/util/List;" ∈ xT := xT_in (i := 503) (by decide +kernel) (by decide +kernel)
theorem mL_IndexOutOfBoundsException_Throwable_detailMessage : Cond.lays "java/lang/IndexOutOfBoundsException" "java/lang/Throwable" "detailMessage" "Ljava/lang/String;" ∈ xT := xT_in (i := 504) (by decide +kernel) (by decide +kernel)
theorem mL_IndexOutOfBoundsException_Throwable_backtrace : Cond.lays "java/lang/IndexOutOfBoundsException" "java/lang/Throwable" "backtrace" "Ljava/lang/Object;" ∈ xT := xT_in (i := 505) (by decide +kernel) (by decide +kernel)
theorem mM_X7_311 : Cond.methodLink RX7 311 ⟨"java/lang/IndexOutOfBoundsException", "<init>", "(Ljava/lang/String;)V"⟩ ∈ xT := xT_in (i := 507) (by decide +kernel) (by decide +kernel)
theorem mL_IndexOutOfBoundsException_Throwable_depth : Cond.lays "java/lang/IndexOutOfBoundsException" "java/lang/Throwable" "depth" "I" ∈ xT := xT_in (i := 508) (by decide +kernel) (by decide +kernel)
theorem mU_IndexOutOfBoundsException_RuntimeException : Cond.superclass "java/lang/IndexOutOfBoundsException" "java/lang/RuntimeException" ∈ xT := xT_in (i := 509) (by decide +kernel) (by decide +kernel)
theorem mM_X7_41 : Cond.methodLink RX7 41 yX7_needRange ∈ xT := xT_in (i := 510) (by decide +kernel) (by decide +kernel)
theorem mS_X7_needRange : Cond.static yX7_needRange ∈ xT := xT_in (i := 511) (by decide +kernel) (by decide +kernel)
theorem mC_X7_needRange : Cond.code yX7_needRange cX7_needRange 3 none ∈ xT := xT_in (i := 512) (by decide +kernel) (by decide +kernel)
theorem mM_X7_299 : Cond.methodLink RX7 299 yX7_isWithin ∈ xT := xT_in (i := 513) (by decide +kernel) (by decide +kernel)
theorem mS_X7_isWithin : Cond.static yX7_isWithin ∈ xT := xT_in (i := 514) (by decide +kernel) (by decide +kernel)
theorem mC_X7_isWithin : Cond.code yX7_isWithin cX7_isWithin 3 (some .boolean) ∈ xT := xT_in (i := 515) (by decide +kernel) (by decide +kernel)
theorem mK_X7_166 : Cond.classLink RX7 166 "java/lang/IllegalArgumentException" ∈ xT := xT_in (i := 516) (by decide +kernel) (by decide +kernel)
theorem mA_IllegalArgumentException : Cond.instantiable "java/lang/IllegalArgumentException" 6 ∈ xT := xT_in (i := 517) (by decide +kernel) (by decide +kernel)
theorem mL_IllegalArgumentException_Throwable_cause : Cond.lays "java/lang/IllegalArgumentException" "java/lang/Throwable" "cause" "Ljava/lang/Throwable;" ∈ xT := xT_in (i := 520) (by decide +kernel) (by decide +kernel)
theorem mL_IllegalArgumentException_Throwable_stackTrace : Cond.lays "java/lang/IllegalArgumentException" "java/lang/Throwable" "stackTrace" "[Ljava/lang/StackTraceElement;" ∈ xT := xT_in (i := 521) (by decide +kernel) (by decide +kernel)
theorem mL_IllegalArgumentException_Throwable_suppressedExceptions : Cond.lays "java/lang/IllegalArgumentException" "java/lang/Throwable" "suppressedExceptions" "Ljava/util/List;" ∈ xT := xT_in (i := 522) (by decide +kernel) (by decide +kernel)
theorem mL_IllegalArgumentException_Throwable_detailMessage : Cond.lays "java/lang/IllegalArgumentException" "java/lang/Throwable" "detailMessage" "Ljava/lang/String;" ∈ xT := xT_in (i := 523) (by decide +kernel) (by decide +kernel)
theorem mL_IllegalArgumentException_Throwable_backtrace : Cond.lays "java/lang/IllegalArgumentException" "java/lang/Throwable" "backtrace" "Ljava/lang/Object;" ∈ xT := xT_in (i := 524) (by decide +kernel) (by decide +kernel)
theorem mM_X7_170 : Cond.methodLink RX7 170 ⟨"java/lang/IllegalArgumentException", "<init>", "(Ljava/lang/String;)V"⟩ ∈ xT := xT_in (i := 526) (by decide +kernel) (by decide +kernel)
theorem mI_IllegalArgumentException_init_S : Cond.instanceMethod ⟨"java/lang/IllegalArgumentException", "<init>", "(Ljava/lang/String;)V"⟩ ∈ xT := xT_in (i := 527) (by decide +kernel) (by decide +kernel)
theorem mC_IllegalArgumentException_init_S : Cond.code ⟨"java/lang/IllegalArgumentException", "<init>", "(Ljava/lang/String;)V"⟩ prog_21_method_2_code 2 none ∈ xT := xT_in (i := 528) (by decide +kernel) (by decide +kernel)
theorem mM_IllegalArgumentException_7 : Cond.methodLink "java/lang/IllegalArgumentException" 7 ⟨"java/lang/RuntimeException", "<init>", "(Ljava/lang/String;)V"⟩ ∈ xT := xT_in (i := 529) (by decide +kernel) (by decide +kernel)
theorem mL_IllegalArgumentException_Throwable_depth : Cond.lays "java/lang/IllegalArgumentException" "java/lang/Throwable" "depth" "I" ∈ xT := xT_in (i := 530) (by decide +kernel) (by decide +kernel)
theorem mU_IllegalArgumentException_RuntimeException : Cond.superclass "java/lang/IllegalArgumentException" "java/lang/RuntimeException" ∈ xT := xT_in (i := 531) (by decide +kernel) (by decide +kernel)
theorem mM_X7_45 : Cond.methodLink RX7 45 yX3_prepare ∈ xT := xT_in (i := 532) (by decide +kernel) (by decide +kernel)
theorem mI_X3_prepare : Cond.instanceMethod yX3_prepare ∈ xT := xT_in (i := 533) (by decide +kernel) (by decide +kernel)
theorem mV_X3_prepare : Cond.selects RX3 yX3_prepare yX3_prepare ∈ xT := xT_in (i := 534) (by decide +kernel) (by decide +kernel)
theorem mC_X3_prepare : Cond.code yX3_prepare cX3_prepare 2 none ∈ xT := xT_in (i := 535) (by decide +kernel) (by decide +kernel)
theorem mM_X3_28 : Cond.methodLink RX3 28 yX3_spareRow ∈ xT := xT_in (i := 536) (by decide +kernel) (by decide +kernel)
theorem mI_X3_spareRow : Cond.instanceMethod yX3_spareRow ∈ xT := xT_in (i := 538) (by decide +kernel) (by decide +kernel)
theorem mC_X3_spareRow : Cond.code yX3_spareRow cX3_spareRow 1 (some (.object "TeaChests$House")) ∈ xT := xT_in (i := 539) (by decide +kernel) (by decide +kernel)
theorem mM_X3_22 : Cond.methodLink RX3 22 yJ9_floorMod_7cf53 ∈ xT := xT_in (i := 540) (by decide +kernel) (by decide +kernel)
theorem mS_J9_floorMod_7cf53 : Cond.static yJ9_floorMod_7cf53 ∈ xT := xT_in (i := 541) (by decide +kernel) (by decide +kernel)
theorem mC_J9_floorMod_7cf53 : Cond.code yJ9_floorMod_7cf53 cJ9_floorMod_7cf53 3 (some .int) ∈ xT := xT_in (i := 542) (by decide +kernel) (by decide +kernel)
theorem mM_X3_32 : Cond.methodLink RX3 32 yX4_copyFrom ∈ xT := xT_in (i := 543) (by decide +kernel) (by decide +kernel)
theorem mM_X7_49 : Cond.methodLink RX7 49 yX4_tryBring ∈ xT := xT_in (i := 544) (by decide +kernel) (by decide +kernel)
theorem mI_X4_tryBring : Cond.instanceMethod yX4_tryBring ∈ xT := xT_in (i := 545) (by decide +kernel) (by decide +kernel)
theorem mV_X4_tryBring : Cond.selects RX4 yX4_tryBring yX4_tryBring ∈ xT := xT_in (i := 546) (by decide +kernel) (by decide +kernel)
theorem mC_X4_tryBring : Cond.code yX4_tryBring cX4_tryBring 5 (some .boolean) ∈ xT := xT_in (i := 547) (by decide +kernel) (by decide +kernel)
theorem mM_X4_81 : Cond.methodLink RX4 81 yX4_refuse ∈ xT := xT_in (i := 548) (by decide +kernel) (by decide +kernel)
theorem mI_X4_refuse : Cond.instanceMethod yX4_refuse ∈ xT := xT_in (i := 549) (by decide +kernel) (by decide +kernel)
theorem mV_X4_refuse : Cond.selects RX4 yX4_refuse yX4_refuse ∈ xT := xT_in (i := 550) (by decide +kernel) (by decide +kernel)
theorem mC_X4_refuse : Cond.code yX4_refuse cX4_refuse 3 (some .boolean) ∈ xT := xT_in (i := 551) (by decide +kernel) (by decide +kernel)
theorem mM_X4_84 : Cond.methodLink RX4 84 yX4_addToStore ∈ xT := xT_in (i := 552) (by decide +kernel) (by decide +kernel)
theorem mI_X4_addToStore : Cond.instanceMethod yX4_addToStore ∈ xT := xT_in (i := 554) (by decide +kernel) (by decide +kernel)
theorem mC_X4_addToStore : Cond.code yX4_addToStore cX4_addToStore 4 none ∈ xT := xT_in (i := 555) (by decide +kernel) (by decide +kernel)
theorem mM_X7_53 : Cond.methodLink RX7 53 yX7_conclude ∈ xT := xT_in (i := 556) (by decide +kernel) (by decide +kernel)
theorem mI_X7_conclude : Cond.instanceMethod yX7_conclude ∈ xT := xT_in (i := 558) (by decide +kernel) (by decide +kernel)
theorem mC_X7_conclude : Cond.code yX7_conclude cX7_conclude 2 none ∈ xT := xT_in (i := 559) (by decide +kernel) (by decide +kernel)
theorem mK_X7_320 : Cond.classLink RX7 320 "java/lang/UnsupportedOperationException" ∈ xT := xT_in (i := 560) (by decide +kernel) (by decide +kernel)
theorem mA_UnsupportedOperationException : Cond.instantiable "java/lang/UnsupportedOperationException" 6 ∈ xT := xT_in (i := 561) (by decide +kernel) (by decide +kernel)
theorem mL_UnsupportedOperationException_Throwable_cause : Cond.lays "java/lang/UnsupportedOperationException" "java/lang/Throwable" "cause" "Ljava/lang/Throwable;" ∈ xT := xT_in (i := 564) (by decide +kernel) (by decide +kernel)
theorem mL_UnsupportedOperationException_Throwable_stackTrace : Cond.lays "java/lang/UnsupportedOperationException" "java/lang/Throwable" "stackTrace" "[Ljava/lang/StackTraceElement;" ∈ xT := xT_in (i := 565) (by decide +kernel) (by decide +kernel)
theorem mL_UnsupportedOperationException_Throwable_suppressedExceptions : Cond.lays "java/lang/UnsupportedOperationException" "java/lang/Throwable" "suppressedExceptions" "Ljava/util/List;" ∈ xT := xT_in (i := 566) (by decide +kernel) (by decide +kernel)
theorem mL_UnsupportedOperationException_Throwable_detailMessage : Cond.lays "java/lang/UnsupportedOperationException" "java/lang/Throwable" "detailMessage" "Ljava/lang/String;" ∈ xT := xT_in (i := 567) (by decide +kernel) (by decide +kernel)
theorem mL_UnsupportedOperationException_Throwable_backtrace : Cond.lays "java/lang/UnsupportedOperationException" "java/lang/Throwable" "backtrace" "Ljava/lang/Object;" ∈ xT := xT_in (i := 568) (by decide +kernel) (by decide +kernel)
theorem mM_X7_324 : Cond.methodLink RX7 324 ⟨"java/lang/UnsupportedOperationException", "<init>", "(Ljava/lang/String;)V"⟩ ∈ xT := xT_in (i := 570) (by decide +kernel) (by decide +kernel)
theorem mI_UnsupportedOperationException_init_S : Cond.instanceMethod ⟨"java/lang/UnsupportedOperationException", "<init>", "(Ljava/lang/String;)V"⟩ ∈ xT := xT_in (i := 571) (by decide +kernel) (by decide +kernel)
theorem mC_UnsupportedOperationException_init_S : Cond.code ⟨"java/lang/UnsupportedOperationException", "<init>", "(Ljava/lang/String;)V"⟩ prog_34_method_2_code 2 none ∈ xT := xT_in (i := 572) (by decide +kernel) (by decide +kernel)
theorem mM_UnsupportedOperationException_7 : Cond.methodLink "java/lang/UnsupportedOperationException" 7 ⟨"java/lang/RuntimeException", "<init>", "(Ljava/lang/String;)V"⟩ ∈ xT := xT_in (i := 573) (by decide +kernel) (by decide +kernel)
theorem mL_UnsupportedOperationException_Throwable_depth : Cond.lays "java/lang/UnsupportedOperationException" "java/lang/Throwable" "depth" "I" ∈ xT := xT_in (i := 574) (by decide +kernel) (by decide +kernel)
theorem mU_UnsupportedOperationException_RuntimeException : Cond.superclass "java/lang/UnsupportedOperationException" "java/lang/RuntimeException" ∈ xT := xT_in (i := 575) (by decide +kernel) (by decide +kernel)
theorem mM_X7_317 : Cond.methodLink RX7 317 yX3_commit ∈ xT := xT_in (i := 576) (by decide +kernel) (by decide +kernel)
theorem mI_X3_commit : Cond.instanceMethod yX3_commit ∈ xT := xT_in (i := 577) (by decide +kernel) (by decide +kernel)
theorem mV_X3_commit : Cond.selects RX3 yX3_commit yX3_commit ∈ xT := xT_in (i := 578) (by decide +kernel) (by decide +kernel)
theorem mC_X3_commit : Cond.code yX3_commit cX3_commit 1 none ∈ xT := xT_in (i := 579) (by decide +kernel) (by decide +kernel)
theorem mM_X3_39 : Cond.methodLink RX3 39 Lib.Math.min.name ∈ xT := xT_in (i := 580) (by decide +kernel) (by decide +kernel)
theorem mS_Math_min : Cond.static Lib.Math.min.name ∈ xT := xT_in (i := 581) (by decide +kernel) (by decide +kernel)
theorem mC_Math_min : Cond.code Lib.Math.min.name Lib.Math.min.code 2 (some .int) ∈ xT := xT_in (i := 582) (by decide +kernel) (by decide +kernel)
theorem mM_X7_57 : Cond.methodLink RX7 57 yX4_stored ∈ xT := xT_in (i := 583) (by decide +kernel) (by decide +kernel)
theorem mM_L_130 : Cond.methodLink RL 130 yL_leaves ∈ xT := xT_in (i := 584) (by decide +kernel) (by decide +kernel)
theorem mS_L_leaves : Cond.static yL_leaves ∈ xT := xT_in (i := 585) (by decide +kernel) (by decide +kernel)
theorem mC_L_leaves : Cond.codeWith yL_leaves cL_leaves 5 (some .int) [((0), (10), (13), (13))] ∈ xT := xT_in (i := 586) (by decide +kernel) (by decide +kernel)
theorem mM_L_19 : Cond.methodLink RL 19 yX7_leaves ∈ xT := xT_in (i := 587) (by decide +kernel) (by decide +kernel)
theorem mI_X7_leaves : Cond.instanceMethod yX7_leaves ∈ xT := xT_in (i := 588) (by decide +kernel) (by decide +kernel)
theorem mV_X7_leaves : Cond.selects RX7 yX7_leaves yX7_leaves ∈ xT := xT_in (i := 589) (by decide +kernel) (by decide +kernel)
theorem mC_X7_leaves : Cond.code yX7_leaves cX7_leaves 3 (some .int) ∈ xT := xT_in (i := 590) (by decide +kernel) (by decide +kernel)
theorem mM_L_138 : Cond.methodLink RL 138 yL_buy ∈ xT := xT_in (i := 591) (by decide +kernel) (by decide +kernel)
theorem mS_L_buy : Cond.static yL_buy ∈ xT := xT_in (i := 592) (by decide +kernel) (by decide +kernel)
theorem mC_L_buy : Cond.codeWith yL_buy cL_buy 5 (some .int) [((0), (10), (13), (15))] ∈ xT := xT_in (i := 593) (by decide +kernel) (by decide +kernel)
theorem mM_L_23 : Cond.methodLink RL 23 yX7_buy ∈ xT := xT_in (i := 594) (by decide +kernel) (by decide +kernel)
theorem mI_X7_buy : Cond.instanceMethod yX7_buy ∈ xT := xT_in (i := 595) (by decide +kernel) (by decide +kernel)
theorem mV_X7_buy : Cond.selects RX7 yX7_buy yX7_buy ∈ xT := xT_in (i := 596) (by decide +kernel) (by decide +kernel)
theorem mC_X7_buy : Cond.code yX7_buy cX7_buy 3 (some .int) ∈ xT := xT_in (i := 597) (by decide +kernel) (by decide +kernel)
theorem mM_X7_65 : Cond.methodLink RX7 65 yX7_keepChange ∈ xT := xT_in (i := 598) (by decide +kernel) (by decide +kernel)
theorem mI_X7_keepChange : Cond.instanceMethod yX7_keepChange ∈ xT := xT_in (i := 600) (by decide +kernel) (by decide +kernel)
theorem mC_X7_keepChange : Cond.code yX7_keepChange cX7_keepChange 1 none ∈ xT := xT_in (i := 601) (by decide +kernel) (by decide +kernel)
theorem mM_X7_68 : Cond.methodLink RX7 68 yX4_addScrews ∈ xT := xT_in (i := 602) (by decide +kernel) (by decide +kernel)
theorem mI_X4_addScrews : Cond.instanceMethod yX4_addScrews ∈ xT := xT_in (i := 603) (by decide +kernel) (by decide +kernel)
theorem mV_X4_addScrews : Cond.selects RX4 yX4_addScrews yX4_addScrews ∈ xT := xT_in (i := 604) (by decide +kernel) (by decide +kernel)
theorem mC_X4_addScrews : Cond.code yX4_addScrews cX4_addScrews 2 none ∈ xT := xT_in (i := 605) (by decide +kernel) (by decide +kernel)
theorem mM_X4_88 : Cond.methodLink RX4 88 Lib.Math.min.name ∈ xT := xT_in (i := 606) (by decide +kernel) (by decide +kernel)
theorem mM_X7_76 : Cond.methodLink RX7 76 yX4_addSheets ∈ xT := xT_in (i := 607) (by decide +kernel) (by decide +kernel)
theorem mI_X4_addSheets : Cond.instanceMethod yX4_addSheets ∈ xT := xT_in (i := 608) (by decide +kernel) (by decide +kernel)
theorem mV_X4_addSheets : Cond.selects RX4 yX4_addSheets yX4_addSheets ∈ xT := xT_in (i := 609) (by decide +kernel) (by decide +kernel)
theorem mC_X4_addSheets : Cond.code yX4_addSheets cX4_addSheets 2 none ∈ xT := xT_in (i := 610) (by decide +kernel) (by decide +kernel)
theorem mM_L_142 : Cond.methodLink RL 142 yL_make ∈ xT := xT_in (i := 611) (by decide +kernel) (by decide +kernel)
theorem mS_L_make : Cond.static yL_make ∈ xT := xT_in (i := 612) (by decide +kernel) (by decide +kernel)
theorem mC_L_make : Cond.codeWith yL_make cL_make 4 (some .int) [((0), (9), (12), (15)), ((0), (9), (15), (17))] ∈ xT := xT_in (i := 613) (by decide +kernel) (by decide +kernel)
theorem mM_L_27 : Cond.methodLink RL 27 yX7_make ∈ xT := xT_in (i := 614) (by decide +kernel) (by decide +kernel)
theorem mI_X7_make : Cond.instanceMethod yX7_make ∈ xT := xT_in (i := 615) (by decide +kernel) (by decide +kernel)
theorem mV_X7_make : Cond.selects RX7 yX7_make yX7_make ∈ xT := xT_in (i := 616) (by decide +kernel) (by decide +kernel)
theorem mC_X7_make : Cond.code yX7_make cX7_make 2 (some .int) ∈ xT := xT_in (i := 617) (by decide +kernel) (by decide +kernel)
theorem mM_X7_82 : Cond.methodLink RX7 82 yX4_tryMake ∈ xT := xT_in (i := 618) (by decide +kernel) (by decide +kernel)
theorem mI_X4_tryMake : Cond.instanceMethod yX4_tryMake ∈ xT := xT_in (i := 619) (by decide +kernel) (by decide +kernel)
theorem mV_X4_tryMake : Cond.selects RX4 yX4_tryMake yX4_tryMake ∈ xT := xT_in (i := 620) (by decide +kernel) (by decide +kernel)
theorem mC_X4_tryMake : Cond.code yX4_tryMake cX4_tryMake 2 (some .boolean) ∈ xT := xT_in (i := 621) (by decide +kernel) (by decide +kernel)
theorem mM_L_146 : Cond.methodLink RL 146 yL_line ∈ xT := xT_in (i := 622) (by decide +kernel) (by decide +kernel)
theorem mS_L_line : Cond.static yL_line ∈ xT := xT_in (i := 623) (by decide +kernel) (by decide +kernel)
theorem mC_L_line : Cond.codeWith yL_line cL_line 4 (some .int) [((0), (9), (12), (13)), ((0), (9), (15), (17))] ∈ xT := xT_in (i := 624) (by decide +kernel) (by decide +kernel)
theorem mM_L_31 : Cond.methodLink RL 31 yX7_line ∈ xT := xT_in (i := 625) (by decide +kernel) (by decide +kernel)
theorem mI_X7_line : Cond.instanceMethod yX7_line ∈ xT := xT_in (i := 626) (by decide +kernel) (by decide +kernel)
theorem mV_X7_line : Cond.selects RX7 yX7_line yX7_line ∈ xT := xT_in (i := 627) (by decide +kernel) (by decide +kernel)
theorem mC_X7_line : Cond.code yX7_line cX7_line 3 (some .int) ∈ xT := xT_in (i := 628) (by decide +kernel) (by decide +kernel)
theorem mM_X7_89 : Cond.methodLink RX7 89 yX7_needChest ∈ xT := xT_in (i := 629) (by decide +kernel) (by decide +kernel)
theorem mI_X7_needChest : Cond.instanceMethod yX7_needChest ∈ xT := xT_in (i := 631) (by decide +kernel) (by decide +kernel)
theorem mC_X7_needChest : Cond.code yX7_needChest cX7_needChest 3 (some (.object "TeaChests$Chest")) ∈ xT := xT_in (i := 632) (by decide +kernel) (by decide +kernel)
theorem mM_X7_312 : Cond.methodLink RX7 312 yX4_find ∈ xT := xT_in (i := 633) (by decide +kernel) (by decide +kernel)
theorem mI_X4_find : Cond.instanceMethod yX4_find ∈ xT := xT_in (i := 634) (by decide +kernel) (by decide +kernel)
theorem mV_X4_find : Cond.selects RX4 yX4_find yX4_find ∈ xT := xT_in (i := 635) (by decide +kernel) (by decide +kernel)
theorem mC_X4_find : Cond.code yX4_find cX4_find 2 (some (.object "TeaChests$Chest")) ∈ xT := xT_in (i := 636) (by decide +kernel) (by decide +kernel)
theorem mM_X7_93 : Cond.methodLink RX7 93 yX4_tryLine ∈ xT := xT_in (i := 638) (by decide +kernel) (by decide +kernel)
theorem mI_X4_tryLine : Cond.instanceMethod yX4_tryLine ∈ xT := xT_in (i := 639) (by decide +kernel) (by decide +kernel)
theorem mV_X4_tryLine : Cond.selects RX4 yX4_tryLine yX4_tryLine ∈ xT := xT_in (i := 640) (by decide +kernel) (by decide +kernel)
theorem mC_X4_tryLine : Cond.code yX4_tryLine cX4_tryLine 3 (some .boolean) ∈ xT := xT_in (i := 641) (by decide +kernel) (by decide +kernel)
theorem mM_X4_142 : Cond.methodLink RX4 142 yX4_isInHouse ∈ xT := xT_in (i := 642) (by decide +kernel) (by decide +kernel)
theorem mI_X4_isInHouse : Cond.instanceMethod yX4_isInHouse ∈ xT := xT_in (i := 644) (by decide +kernel) (by decide +kernel)
theorem mC_X4_isInHouse : Cond.code yX4_isInHouse cX4_isInHouse 2 (some .boolean) ∈ xT := xT_in (i := 645) (by decide +kernel) (by decide +kernel)
theorem mM_X4_146 : Cond.methodLink RX4 146 yX4_isUnscrewed ∈ xT := xT_in (i := 646) (by decide +kernel) (by decide +kernel)
theorem mI_X4_isUnscrewed : Cond.instanceMethod yX4_isUnscrewed ∈ xT := xT_in (i := 648) (by decide +kernel) (by decide +kernel)
theorem mC_X4_isUnscrewed : Cond.code yX4_isUnscrewed cX4_isUnscrewed 2 (some .boolean) ∈ xT := xT_in (i := 649) (by decide +kernel) (by decide +kernel)
theorem mM_X4_149 : Cond.methodLink RX4 149 yX4_isUnlined ∈ xT := xT_in (i := 650) (by decide +kernel) (by decide +kernel)
theorem mI_X4_isUnlined : Cond.instanceMethod yX4_isUnlined ∈ xT := xT_in (i := 652) (by decide +kernel) (by decide +kernel)
theorem mC_X4_isUnlined : Cond.code yX4_isUnlined cX4_isUnlined 2 (some .boolean) ∈ xT := xT_in (i := 653) (by decide +kernel) (by decide +kernel)
theorem mM_X4_152 : Cond.methodLink RX4 152 yX4_hasSheets ∈ xT := xT_in (i := 654) (by decide +kernel) (by decide +kernel)
theorem mI_X4_hasSheets : Cond.instanceMethod yX4_hasSheets ∈ xT := xT_in (i := 656) (by decide +kernel) (by decide +kernel)
theorem mC_X4_hasSheets : Cond.code yX4_hasSheets cX4_hasSheets 2 (some .boolean) ∈ xT := xT_in (i := 657) (by decide +kernel) (by decide +kernel)
theorem mM_L_149 : Cond.methodLink RL 149 yL_fill ∈ xT := xT_in (i := 658) (by decide +kernel) (by decide +kernel)
theorem mS_L_fill : Cond.static yL_fill ∈ xT := xT_in (i := 659) (by decide +kernel) (by decide +kernel)
theorem mC_L_fill : Cond.codeWith yL_fill cL_fill 7 (some .int) [((0), (14), (17), (13)), ((0), (14), (21), (15)), ((0), (14), (25), (17))] ∈ xT := xT_in (i := 660) (by decide +kernel) (by decide +kernel)
theorem mM_L_34 : Cond.methodLink RL 34 yX7_fill ∈ xT := xT_in (i := 661) (by decide +kernel) (by decide +kernel)
theorem mI_X7_fill : Cond.instanceMethod yX7_fill ∈ xT := xT_in (i := 662) (by decide +kernel) (by decide +kernel)
theorem mV_X7_fill : Cond.selects RX7 yX7_fill yX7_fill ∈ xT := xT_in (i := 663) (by decide +kernel) (by decide +kernel)
theorem mC_X7_fill : Cond.code yX7_fill cX7_fill 6 (some .int) ∈ xT := xT_in (i := 664) (by decide +kernel) (by decide +kernel)
theorem mM_X7_97 : Cond.methodLink RX7 97 yX4_tryFill ∈ xT := xT_in (i := 665) (by decide +kernel) (by decide +kernel)
theorem mI_X4_tryFill : Cond.instanceMethod yX4_tryFill ∈ xT := xT_in (i := 666) (by decide +kernel) (by decide +kernel)
theorem mV_X4_tryFill : Cond.selects RX4 yX4_tryFill yX4_tryFill ∈ xT := xT_in (i := 667) (by decide +kernel) (by decide +kernel)
theorem mC_X4_tryFill : Cond.code yX4_tryFill cX4_tryFill 5 (some .boolean) ∈ xT := xT_in (i := 668) (by decide +kernel) (by decide +kernel)
theorem mM_X4_156 : Cond.methodLink RX4 156 yX4_hasNoOtherLeaves ∈ xT := xT_in (i := 669) (by decide +kernel) (by decide +kernel)
theorem mI_X4_hasNoOtherLeaves : Cond.instanceMethod yX4_hasNoOtherLeaves ∈ xT := xT_in (i := 671) (by decide +kernel) (by decide +kernel)
theorem mC_X4_hasNoOtherLeaves : Cond.code yX4_hasNoOtherLeaves cX4_hasNoOtherLeaves 4 (some .boolean) ∈ xT := xT_in (i := 672) (by decide +kernel) (by decide +kernel)
theorem mM_X4_160 : Cond.methodLink RX4 160 yX4_hasRoom ∈ xT := xT_in (i := 673) (by decide +kernel) (by decide +kernel)
theorem mI_X4_hasRoom : Cond.instanceMethod yX4_hasRoom ∈ xT := xT_in (i := 675) (by decide +kernel) (by decide +kernel)
theorem mC_X4_hasRoom : Cond.code yX4_hasRoom cX4_hasRoom 3 (some .boolean) ∈ xT := xT_in (i := 676) (by decide +kernel) (by decide +kernel)
theorem mM_X4_119 : Cond.methodLink RX4 119 yX1_room ∈ xT := xT_in (i := 677) (by decide +kernel) (by decide +kernel)
theorem mI_X1_room : Cond.instanceMethod yX1_room ∈ xT := xT_in (i := 678) (by decide +kernel) (by decide +kernel)
theorem mV_X1_room : Cond.selects RX1 yX1_room yX1_room ∈ xT := xT_in (i := 679) (by decide +kernel) (by decide +kernel)
theorem mC_X1_room : Cond.code yX1_room cX1_room 1 (some .int) ∈ xT := xT_in (i := 680) (by decide +kernel) (by decide +kernel)
theorem mM_X4_164 : Cond.methodLink RX4 164 yX4_hasPounds ∈ xT := xT_in (i := 681) (by decide +kernel) (by decide +kernel)
theorem mI_X4_hasPounds : Cond.instanceMethod yX4_hasPounds ∈ xT := xT_in (i := 683) (by decide +kernel) (by decide +kernel)
theorem mC_X4_hasPounds : Cond.code yX4_hasPounds cX4_hasPounds 4 (some .boolean) ∈ xT := xT_in (i := 684) (by decide +kernel) (by decide +kernel)
theorem mM_X4_168 : Cond.methodLink RX4 168 yX1_putIn ∈ xT := xT_in (i := 685) (by decide +kernel) (by decide +kernel)
theorem mI_X1_putIn : Cond.instanceMethod yX1_putIn ∈ xT := xT_in (i := 686) (by decide +kernel) (by decide +kernel)
theorem mV_X1_putIn : Cond.selects RX1 yX1_putIn yX1_putIn ∈ xT := xT_in (i := 687) (by decide +kernel) (by decide +kernel)
theorem mC_X1_putIn : Cond.code yX1_putIn cX1_putIn 4 none ∈ xT := xT_in (i := 688) (by decide +kernel) (by decide +kernel)
theorem mM_X7_101 : Cond.methodLink RX7 101 yX1_room ∈ xT := xT_in (i := 689) (by decide +kernel) (by decide +kernel)
theorem mM_L_153 : Cond.methodLink RL 153 yL_empty ∈ xT := xT_in (i := 690) (by decide +kernel) (by decide +kernel)
theorem mS_L_empty : Cond.static yL_empty ∈ xT := xT_in (i := 691) (by decide +kernel) (by decide +kernel)
theorem mC_L_empty : Cond.codeWith yL_empty cL_empty 4 (some .int) [((0), (9), (12), (13)), ((0), (9), (15), (17))] ∈ xT := xT_in (i := 692) (by decide +kernel) (by decide +kernel)
theorem mM_L_38 : Cond.methodLink RL 38 yX7_empty ∈ xT := xT_in (i := 693) (by decide +kernel) (by decide +kernel)
theorem mI_X7_empty : Cond.instanceMethod yX7_empty ∈ xT := xT_in (i := 694) (by decide +kernel) (by decide +kernel)
theorem mV_X7_empty : Cond.selects RX7 yX7_empty yX7_empty ∈ xT := xT_in (i := 695) (by decide +kernel) (by decide +kernel)
theorem mC_X7_empty : Cond.code yX7_empty cX7_empty 4 (some .int) ∈ xT := xT_in (i := 696) (by decide +kernel) (by decide +kernel)
theorem mM_X7_110 : Cond.methodLink RX7 110 yX4_tryEmpty ∈ xT := xT_in (i := 697) (by decide +kernel) (by decide +kernel)
theorem mI_X4_tryEmpty : Cond.instanceMethod yX4_tryEmpty ∈ xT := xT_in (i := 698) (by decide +kernel) (by decide +kernel)
theorem mV_X4_tryEmpty : Cond.selects RX4 yX4_tryEmpty yX4_tryEmpty ∈ xT := xT_in (i := 699) (by decide +kernel) (by decide +kernel)
theorem mC_X4_tryEmpty : Cond.code yX4_tryEmpty cX4_tryEmpty 4 (some .boolean) ∈ xT := xT_in (i := 700) (by decide +kernel) (by decide +kernel)
theorem mM_X4_171 : Cond.methodLink RX4 171 yX4_isFilled ∈ xT := xT_in (i := 701) (by decide +kernel) (by decide +kernel)
theorem mI_X4_isFilled : Cond.instanceMethod yX4_isFilled ∈ xT := xT_in (i := 703) (by decide +kernel) (by decide +kernel)
theorem mC_X4_isFilled : Cond.code yX4_isFilled cX4_isFilled 2 (some .boolean) ∈ xT := xT_in (i := 704) (by decide +kernel) (by decide +kernel)
theorem mM_X4_174 : Cond.methodLink RX4 174 yX1_takeAllOut ∈ xT := xT_in (i := 705) (by decide +kernel) (by decide +kernel)
theorem mI_X1_takeAllOut : Cond.instanceMethod yX1_takeAllOut ∈ xT := xT_in (i := 706) (by decide +kernel) (by decide +kernel)
theorem mV_X1_takeAllOut : Cond.selects RX1 yX1_takeAllOut yX1_takeAllOut ∈ xT := xT_in (i := 707) (by decide +kernel) (by decide +kernel)
theorem mC_X1_takeAllOut : Cond.code yX1_takeAllOut cX1_takeAllOut 1 none ∈ xT := xT_in (i := 708) (by decide +kernel) (by decide +kernel)
theorem mM_L_156 : Cond.methodLink RL 156 yL_screw ∈ xT := xT_in (i := 709) (by decide +kernel) (by decide +kernel)
theorem mS_L_screw : Cond.static yL_screw ∈ xT := xT_in (i := 710) (by decide +kernel) (by decide +kernel)
theorem mC_L_screw : Cond.codeWith yL_screw cL_screw 5 (some .int) [((0), (17), (20), (13)), ((0), (17), (24), (15)), ((0), (17), (28), (17))] ∈ xT := xT_in (i := 711) (by decide +kernel) (by decide +kernel)
theorem mM_L_41 : Cond.methodLink RL 41 yX7_screw ∈ xT := xT_in (i := 712) (by decide +kernel) (by decide +kernel)
theorem mI_X7_screw : Cond.instanceMethod yX7_screw ∈ xT := xT_in (i := 713) (by decide +kernel) (by decide +kernel)
theorem mV_X7_screw : Cond.selects RX7 yX7_screw yX7_screw ∈ xT := xT_in (i := 714) (by decide +kernel) (by decide +kernel)
theorem mC_X7_screw : Cond.code yX7_screw cX7_screw 4 (some .boolean) ∈ xT := xT_in (i := 715) (by decide +kernel) (by decide +kernel)
theorem mM_X7_113 : Cond.methodLink RX7 113 yX4_tryScrew ∈ xT := xT_in (i := 716) (by decide +kernel) (by decide +kernel)
theorem mI_X4_tryScrew : Cond.instanceMethod yX4_tryScrew ∈ xT := xT_in (i := 717) (by decide +kernel) (by decide +kernel)
theorem mV_X4_tryScrew : Cond.selects RX4 yX4_tryScrew yX4_tryScrew ∈ xT := xT_in (i := 718) (by decide +kernel) (by decide +kernel)
theorem mC_X4_tryScrew : Cond.code yX4_tryScrew cX4_tryScrew 3 (some .boolean) ∈ xT := xT_in (i := 719) (by decide +kernel) (by decide +kernel)
theorem mM_X4_177 : Cond.methodLink RX4 177 yX4_hasScrews ∈ xT := xT_in (i := 720) (by decide +kernel) (by decide +kernel)
theorem mI_X4_hasScrews : Cond.instanceMethod yX4_hasScrews ∈ xT := xT_in (i := 722) (by decide +kernel) (by decide +kernel)
theorem mC_X4_hasScrews : Cond.code yX4_hasScrews cX4_hasScrews 2 (some .boolean) ∈ xT := xT_in (i := 723) (by decide +kernel) (by decide +kernel)
theorem mM_X4_180 : Cond.methodLink RX4 180 yX4_takesScrews ∈ xT := xT_in (i := 724) (by decide +kernel) (by decide +kernel)
theorem mI_X4_takesScrews : Cond.instanceMethod yX4_takesScrews ∈ xT := xT_in (i := 726) (by decide +kernel) (by decide +kernel)
theorem mC_X4_takesScrews : Cond.code yX4_takesScrews cX4_takesScrews 3 (some .boolean) ∈ xT := xT_in (i := 727) (by decide +kernel) (by decide +kernel)
theorem mM_X7_117 : Cond.methodLink RX7 117 yX1_isTight ∈ xT := xT_in (i := 728) (by decide +kernel) (by decide +kernel)
theorem mM_L_159 : Cond.methodLink RL 159 yL_unscrew ∈ xT := xT_in (i := 729) (by decide +kernel) (by decide +kernel)
theorem mS_L_unscrew : Cond.static yL_unscrew ∈ xT := xT_in (i := 730) (by decide +kernel) (by decide +kernel)
theorem mC_L_unscrew : Cond.codeWith yL_unscrew cL_unscrew 4 (some .int) [((0), (9), (12), (13)), ((0), (9), (15), (17))] ∈ xT := xT_in (i := 731) (by decide +kernel) (by decide +kernel)
theorem mM_L_45 : Cond.methodLink RL 45 yX7_unscrew ∈ xT := xT_in (i := 732) (by decide +kernel) (by decide +kernel)
theorem mI_X7_unscrew : Cond.instanceMethod yX7_unscrew ∈ xT := xT_in (i := 733) (by decide +kernel) (by decide +kernel)
theorem mV_X7_unscrew : Cond.selects RX7 yX7_unscrew yX7_unscrew ∈ xT := xT_in (i := 734) (by decide +kernel) (by decide +kernel)
theorem mC_X7_unscrew : Cond.code yX7_unscrew cX7_unscrew 4 (some .int) ∈ xT := xT_in (i := 735) (by decide +kernel) (by decide +kernel)
theorem mM_X7_122 : Cond.methodLink RX7 122 yX4_tryUnscrew ∈ xT := xT_in (i := 736) (by decide +kernel) (by decide +kernel)
theorem mI_X4_tryUnscrew : Cond.instanceMethod yX4_tryUnscrew ∈ xT := xT_in (i := 737) (by decide +kernel) (by decide +kernel)
theorem mV_X4_tryUnscrew : Cond.selects RX4 yX4_tryUnscrew yX4_tryUnscrew ∈ xT := xT_in (i := 738) (by decide +kernel) (by decide +kernel)
theorem mC_X4_tryUnscrew : Cond.code yX4_tryUnscrew cX4_tryUnscrew 2 (some .boolean) ∈ xT := xT_in (i := 739) (by decide +kernel) (by decide +kernel)
theorem mM_X4_183 : Cond.methodLink RX4 183 yX4_addScrews ∈ xT := xT_in (i := 740) (by decide +kernel) (by decide +kernel)
theorem mM_L_162 : Cond.methodLink RL 162 yL_label ∈ xT := xT_in (i := 741) (by decide +kernel) (by decide +kernel)
theorem mS_L_label : Cond.static yL_label ∈ xT := xT_in (i := 742) (by decide +kernel) (by decide +kernel)
theorem mC_L_label : Cond.codeWith yL_label cL_label 4 (some .int) [((0), (9), (12), (13)), ((0), (9), (15), (17))] ∈ xT := xT_in (i := 743) (by decide +kernel) (by decide +kernel)
theorem mM_L_48 : Cond.methodLink RL 48 yX7_label ∈ xT := xT_in (i := 744) (by decide +kernel) (by decide +kernel)
theorem mI_X7_label : Cond.instanceMethod yX7_label ∈ xT := xT_in (i := 745) (by decide +kernel) (by decide +kernel)
theorem mV_X7_label : Cond.selects RX7 yX7_label yX7_label ∈ xT := xT_in (i := 746) (by decide +kernel) (by decide +kernel)
theorem mC_X7_label : Cond.code yX7_label cX7_label 3 (some .int) ∈ xT := xT_in (i := 747) (by decide +kernel) (by decide +kernel)
theorem mM_X7_125 : Cond.methodLink RX7 125 yX4_tryLabel ∈ xT := xT_in (i := 748) (by decide +kernel) (by decide +kernel)
theorem mI_X4_tryLabel : Cond.instanceMethod yX4_tryLabel ∈ xT := xT_in (i := 749) (by decide +kernel) (by decide +kernel)
theorem mV_X4_tryLabel : Cond.selects RX4 yX4_tryLabel yX4_tryLabel ∈ xT := xT_in (i := 750) (by decide +kernel) (by decide +kernel)
theorem mC_X4_tryLabel : Cond.code yX4_tryLabel cX4_tryLabel 2 (some .boolean) ∈ xT := xT_in (i := 751) (by decide +kernel) (by decide +kernel)
theorem mM_X4_186 : Cond.methodLink RX4 186 yX1_writeLabel ∈ xT := xT_in (i := 752) (by decide +kernel) (by decide +kernel)
theorem mI_X1_writeLabel : Cond.instanceMethod yX1_writeLabel ∈ xT := xT_in (i := 753) (by decide +kernel) (by decide +kernel)
theorem mV_X1_writeLabel : Cond.selects RX1 yX1_writeLabel yX1_writeLabel ∈ xT := xT_in (i := 754) (by decide +kernel) (by decide +kernel)
theorem mC_X1_writeLabel : Cond.code yX1_writeLabel cX1_writeLabel 2 none ∈ xT := xT_in (i := 755) (by decide +kernel) (by decide +kernel)
theorem mK_X1_56 : Cond.classLink RX1 56 RJ4 ∈ xT := xT_in (i := 757) (by decide +kernel) (by decide +kernel)
theorem mA_J4 : Cond.instantiable RJ4 4 ∈ xT := xT_in (i := 758) (by decide +kernel) (by decide +kernel)
theorem mM_X1_58 : Cond.methodLink RX1 58 yJ4_init_da8c8 ∈ xT := xT_in (i := 759) (by decide +kernel) (by decide +kernel)
theorem mI_J4_init_da8c8 : Cond.instanceMethod yJ4_init_da8c8 ∈ xT := xT_in (i := 760) (by decide +kernel) (by decide +kernel)
theorem mC_J4_init_da8c8 : Cond.code yJ4_init_da8c8 cJ4_init_da8c8 1 none ∈ xT := xT_in (i := 761) (by decide +kernel) (by decide +kernel)
theorem mM_J4_1 : Cond.methodLink RJ4 1 yJ5_init_d00df ∈ xT := xT_in (i := 762) (by decide +kernel) (by decide +kernel)
theorem mI_J5_init_d00df : Cond.instanceMethod yJ5_init_d00df ∈ xT := xT_in (i := 763) (by decide +kernel) (by decide +kernel)
theorem mC_J5_init_d00df : Cond.code yJ5_init_d00df cJ5_init_d00df 2 none ∈ xT := xT_in (i := 764) (by decide +kernel) (by decide +kernel)
theorem mM_J5_3 : Cond.methodLink RJ5 3 Lib.objectInit ∈ xT := xT_in (i := 765) (by decide +kernel) (by decide +kernel)
theorem mF_J5_18 : Cond.fieldLink RJ5 18 "java/lang/String" "COMPACT_STRINGS" "Z" ∈ xT := xT_in (i := 766) (by decide +kernel) (by decide +kernel)
theorem mM_J5_26 : Cond.methodLink RJ5 26 yJ2_newBytesFor_77867 ∈ xT := xT_in (i := 768) (by decide +kernel) (by decide +kernel)
theorem mS_J2_newBytesFor_77867 : Cond.static yJ2_newBytesFor_77867 ∈ xT := xT_in (i := 769) (by decide +kernel) (by decide +kernel)
theorem mC_J2_newBytesFor_77867 : Cond.code yJ2_newBytesFor_77867 cJ2_newBytesFor_77867 1 (some (.array .byte)) ∈ xT := xT_in (i := 770) (by decide +kernel) (by decide +kernel)
theorem mM_J2_11 : Cond.methodLink RJ2 11 yJ2_newBytesLength_0f7a4 ∈ xT := xT_in (i := 771) (by decide +kernel) (by decide +kernel)
theorem mS_J2_newBytesLength_0f7a4 : Cond.static yJ2_newBytesLength_0f7a4 ∈ xT := xT_in (i := 772) (by decide +kernel) (by decide +kernel)
theorem mC_J2_newBytesLength_0f7a4 : Cond.code yJ2_newBytesLength_0f7a4 cJ2_newBytesLength_0f7a4 1 (some .int) ∈ xT := xT_in (i := 773) (by decide +kernel) (by decide +kernel)
theorem mQ_J2_20 : Cond.constant RJ2 20 (1073741823) ∈ xT := xT_in (i := 774) (by decide +kernel) (by decide +kernel)
theorem mF_J5_15 : Cond.fieldLink RJ5 15 "java/lang/AbstractStringBuilder" "value" "[B" ∈ xT := xT_in (i := 775) (by decide +kernel) (by decide +kernel)
theorem mF_J5_22 : Cond.fieldLink RJ5 22 "java/lang/AbstractStringBuilder" "coder" "B" ∈ xT := xT_in (i := 776) (by decide +kernel) (by decide +kernel)
theorem mF_J0_1048 : Cond.fieldLink RJ0 1048 "java/lang/AbstractStringBuilder" "maybeLatin1" "Z" ∈ xT := xT_in (i := 777) (by decide +kernel) (by decide +kernel)
theorem mF_J5_79 : Cond.fieldLink RJ5 79 "java/lang/AbstractStringBuilder" "count" "I" ∈ xT := xT_in (i := 778) (by decide +kernel) (by decide +kernel)
theorem mL_J4_J5_value : Cond.lays RJ4 RJ5 "value" "[B" ∈ xT := xT_in (i := 779) (by decide +kernel) (by decide +kernel)
theorem mL_J4_J5_coder : Cond.lays RJ4 RJ5 "coder" "B" ∈ xT := xT_in (i := 781) (by decide +kernel) (by decide +kernel)
theorem mL_J4_J5_maybeLatin1 : Cond.lays RJ4 RJ5 "maybeLatin1" "Z" ∈ xT := xT_in (i := 783) (by decide +kernel) (by decide +kernel)
theorem mL_J4_J5_count : Cond.lays RJ4 RJ5 "count" "I" ∈ xT := xT_in (i := 785) (by decide +kernel) (by decide +kernel)
theorem mU_J4_J5 : Cond.superclass RJ4 RJ5 ∈ xT := xT_in (i := 787) (by decide +kernel) (by decide +kernel)
theorem mM_X1_59 : Cond.methodLink RX1 59 yJ4_append_bf812 ∈ xT := xT_in (i := 788) (by decide +kernel) (by decide +kernel)
theorem mI_J4_append_bf812 : Cond.instanceMethod yJ4_append_bf812 ∈ xT := xT_in (i := 789) (by decide +kernel) (by decide +kernel)
theorem mV_J4_append_bf812 : Cond.selects RJ4 yJ4_append_bf812 yJ4_append_bf812 ∈ xT := xT_in (i := 790) (by decide +kernel) (by decide +kernel)
theorem mC_J4_append_bf812 : Cond.code yJ4_append_bf812 cJ4_append_bf812 2 (some (.object "java/lang/StringBuilder")) ∈ xT := xT_in (i := 791) (by decide +kernel) (by decide +kernel)
theorem mM_J4_53 : Cond.methodLink RJ4 53 yJ5_append_c97b9 ∈ xT := xT_in (i := 792) (by decide +kernel) (by decide +kernel)
theorem mI_J5_append_c97b9 : Cond.instanceMethod yJ5_append_c97b9 ∈ xT := xT_in (i := 793) (by decide +kernel) (by decide +kernel)
theorem mC_J5_append_c97b9 : Cond.code yJ5_append_c97b9 cJ5_append_c97b9 4 (some (.object "java/lang/AbstractStringBuilder")) ∈ xT := xT_in (i := 794) (by decide +kernel) (by decide +kernel)
theorem mM_J5_245 : Cond.methodLink RJ5 245 yJ6_stringSize_0f7a4 ∈ xT := xT_in (i := 795) (by decide +kernel) (by decide +kernel)
theorem mS_J6_stringSize_0f7a4 : Cond.static yJ6_stringSize_0f7a4 ∈ xT := xT_in (i := 796) (by decide +kernel) (by decide +kernel)
theorem mC_J6_stringSize_0f7a4 : Cond.code yJ6_stringSize_0f7a4 cJ6_stringSize_0f7a4 4 (some .int) ∈ xT := xT_in (i := 797) (by decide +kernel) (by decide +kernel)
theorem mM_J5_100 : Cond.methodLink RJ5 100 yJ5_ensureCapacityInternal_d00df ∈ xT := xT_in (i := 798) (by decide +kernel) (by decide +kernel)
theorem mI_J5_ensureCapacityInternal_d00df : Cond.instanceMethod yJ5_ensureCapacityInternal_d00df ∈ xT := xT_in (i := 800) (by decide +kernel) (by decide +kernel)
theorem mC_J5_ensureCapacityInternal_d00df : Cond.code yJ5_ensureCapacityInternal_d00df cJ5_ensureCapacityInternal_d00df 3 none ∈ xT := xT_in (i := 801) (by decide +kernel) (by decide +kernel)
theorem mM_J5_104 : Cond.methodLink RJ5 104 yJ5_newCapacity_0f7a4 ∈ xT := xT_in (i := 802) (by decide +kernel) (by decide +kernel)
theorem mI_J5_newCapacity_0f7a4 : Cond.instanceMethod yJ5_newCapacity_0f7a4 ∈ xT := xT_in (i := 804) (by decide +kernel) (by decide +kernel)
theorem mC_J5_newCapacity_0f7a4 : Cond.code yJ5_newCapacity_0f7a4 cJ5_newCapacity_0f7a4 6 (some .int) ∈ xT := xT_in (i := 805) (by decide +kernel) (by decide +kernel)
theorem mM_J5_114 : Cond.methodLink RJ5 114 yJ8_newLength_cabcc ∈ xT := xT_in (i := 806) (by decide +kernel) (by decide +kernel)
theorem mS_J8_newLength_cabcc : Cond.static yJ8_newLength_cabcc ∈ xT := xT_in (i := 807) (by decide +kernel) (by decide +kernel)
theorem mC_J8_newLength_cabcc : Cond.code yJ8_newLength_cabcc cJ8_newLength_cabcc 4 (some .int) ∈ xT := xT_in (i := 808) (by decide +kernel) (by decide +kernel)
theorem mM_J8_194 : Cond.methodLink RJ8 194 Lib.Math.max.name ∈ xT := xT_in (i := 809) (by decide +kernel) (by decide +kernel)
theorem mS_Math_max : Cond.static Lib.Math.max.name ∈ xT := xT_in (i := 810) (by decide +kernel) (by decide +kernel)
theorem mC_Math_max : Cond.code Lib.Math.max.name Lib.Math.max.code 2 (some .int) ∈ xT := xT_in (i := 811) (by decide +kernel) (by decide +kernel)
theorem mQ_J8_200 : Cond.constant RJ8 200 (2147483639) ∈ xT := xT_in (i := 812) (by decide +kernel) (by decide +kernel)
theorem mM_J8_201 : Cond.methodLink RJ8 201 yJ8_hugeLength_7cf53 ∈ xT := xT_in (i := 813) (by decide +kernel) (by decide +kernel)
theorem mS_J8_hugeLength_7cf53 : Cond.static yJ8_hugeLength_7cf53 ∈ xT := xT_in (i := 814) (by decide +kernel) (by decide +kernel)
theorem mC_J8_hugeLength_7cf53 : Cond.code yJ8_hugeLength_7cf53 cJ8_hugeLength_7cf53 3 (some .int) ∈ xT := xT_in (i := 815) (by decide +kernel) (by decide +kernel)
theorem mQ_J5_39 : Cond.constant RJ5 39 (2147483647) ∈ xT := xT_in (i := 816) (by decide +kernel) (by decide +kernel)
theorem mM_J5_108 : Cond.methodLink RJ5 108 yJ7_copyOf_9075b ∈ xT := xT_in (i := 817) (by decide +kernel) (by decide +kernel)
theorem mS_J7_copyOf_9075b : Cond.static yJ7_copyOf_9075b ∈ xT := xT_in (i := 818) (by decide +kernel) (by decide +kernel)
theorem mC_J7_copyOf_9075b : Cond.code yJ7_copyOf_9075b cJ7_copyOf_9075b 3 (some (.array .byte)) ∈ xT := xT_in (i := 819) (by decide +kernel) (by decide +kernel)
theorem mM_J7_310 : Cond.methodLink RJ7 310 ⟨"[B", "clone", "()Ljava/lang/Object;"⟩ ∈ xT := xT_in (i := 820) (by decide +kernel) (by decide +kernel)
theorem mE__B_Object_clone_26382 : Cond.sameMethod "[B" "java/lang/Object" "clone" "()Ljava/lang/Object;" ∈ xT := xT_in (i := 821) (by decide +kernel) (by decide +kernel)
theorem mZ_Object_clone : Cond.native ⟨"java/lang/Object", "clone", "()Ljava/lang/Object;"⟩ ∈ xT := xT_in (i := 822) (by decide +kernel) (by decide +kernel)
theorem mI_Object_clone : Cond.instanceMethod ⟨"java/lang/Object", "clone", "()Ljava/lang/Object;"⟩ ∈ xT := xT_in (i := 823) (by decide +kernel) (by decide +kernel)
theorem mV__B_AB_clone_Object_clone : Cond.selects "[B" ⟨"[B", "clone", "()Ljava/lang/Object;"⟩ ⟨"java/lang/Object", "clone", "()Ljava/lang/Object;"⟩ ∈ xT := xT_in (i := 824) (by decide +kernel) (by decide +kernel)
theorem mK_J7_311 : Cond.classLink RJ7 311 "[B" ∈ xT := xT_in (i := 826) (by decide +kernel) (by decide +kernel)
theorem mM_J7_304 : Cond.methodLink RJ7 304 Lib.Math.min.name ∈ xT := xT_in (i := 827) (by decide +kernel) (by decide +kernel)
theorem mM_J7_150 : Cond.methodLink RJ7 150 ⟨RJ10, "arraycopy", "(Ljava/lang/Object;ILjava/lang/Object;II)V"⟩ ∈ xT := xT_in (i := 828) (by decide +kernel) (by decide +kernel)
theorem mM_J5_83 : Cond.methodLink RJ5 83 yJ5_isLatin1_aae02 ∈ xT := xT_in (i := 829) (by decide +kernel) (by decide +kernel)
theorem mI_J5_isLatin1_aae02 : Cond.instanceMethod yJ5_isLatin1_aae02 ∈ xT := xT_in (i := 830) (by decide +kernel) (by decide +kernel)
theorem mE_J5_J5_isLatin_82730 : Cond.sameMethod RJ5 RJ5 "isLatin1" "()Z" ∈ xT := xT_in (i := 831) (by decide +kernel) (by decide +kernel)
theorem mV_J4_J5_isLatin1_aae02 : Cond.selects RJ4 yJ5_isLatin1_aae02 yJ5_isLatin1_aae02 ∈ xT := xT_in (i := 832) (by decide +kernel) (by decide +kernel)
theorem mC_J5_isLatin1_aae02 : Cond.code yJ5_isLatin1_aae02 cJ5_isLatin1_aae02 1 (some .boolean) ∈ xT := xT_in (i := 833) (by decide +kernel) (by decide +kernel)
theorem mM_J5_248 : Cond.methodLink RJ5 248 yJ6_getChars_ba4f3 ∈ xT := xT_in (i := 834) (by decide +kernel) (by decide +kernel)
theorem mS_J6_getChars_ba4f3 : Cond.static yJ6_getChars_ba4f3 ∈ xT := xT_in (i := 835) (by decide +kernel) (by decide +kernel)
theorem mC_J6_getChars_ba4f3 : Cond.code yJ6_getChars_ba4f3 cJ6_getChars_ba4f3 7 (some .int) ∈ xT := xT_in (i := 836) (by decide +kernel) (by decide +kernel)
theorem mF_J6_83 : Cond.fieldLink RJ6 83 "java/lang/Integer" "DigitOnes" "[B" ∈ xT := xT_in (i := 837) (by decide +kernel) (by decide +kernel)
theorem mF_J6_87 : Cond.fieldLink RJ6 87 "java/lang/Integer" "DigitTens" "[B" ∈ xT := xT_in (i := 839) (by decide +kernel) (by decide +kernel)
theorem mM_J5_251 : Cond.methodLink RJ5 251 yJ2_getChars_46870 ∈ xT := xT_in (i := 841) (by decide +kernel) (by decide +kernel)
theorem mS_J2_getChars_46870 : Cond.static yJ2_getChars_46870 ∈ xT := xT_in (i := 842) (by decide +kernel) (by decide +kernel)
theorem mC_J2_getChars_46870 : Cond.code yJ2_getChars_46870 cJ2_getChars_46870 5 (some .int) ∈ xT := xT_in (i := 843) (by decide +kernel) (by decide +kernel)
theorem mM_J2_96 : Cond.methodLink RJ2 96 yJ2_checkBoundsBeginEnd_d044e ∈ xT := xT_in (i := 844) (by decide +kernel) (by decide +kernel)
theorem mS_J2_checkBoundsBeginEnd_d044e : Cond.static yJ2_checkBoundsBeginEnd_d044e ∈ xT := xT_in (i := 845) (by decide +kernel) (by decide +kernel)
theorem mC_J2_checkBoundsBeginEnd_d044e : Cond.code yJ2_checkBoundsBeginEnd_d044e cJ2_checkBoundsBeginEnd_d044e 3 none ∈ xT := xT_in (i := 846) (by decide +kernel) (by decide +kernel)
theorem mM_J2_48 : Cond.methodLink RJ2 48 yJ2_length_9d52b ∈ xT := xT_in (i := 847) (by decide +kernel) (by decide +kernel)
theorem mS_J2_length_9d52b : Cond.static yJ2_length_9d52b ∈ xT := xT_in (i := 848) (by decide +kernel) (by decide +kernel)
theorem mC_J2_length_9d52b : Cond.code yJ2_length_9d52b cJ2_length_9d52b 1 (some .int) ∈ xT := xT_in (i := 849) (by decide +kernel) (by decide +kernel)
theorem mM_J2_241 : Cond.methodLink RJ2 241 yJ0_checkBoundsBeginEnd_23922 ∈ xT := xT_in (i := 850) (by decide +kernel) (by decide +kernel)
theorem mS_J0_checkBoundsBeginEnd_23922 : Cond.static yJ0_checkBoundsBeginEnd_23922 ∈ xT := xT_in (i := 851) (by decide +kernel) (by decide +kernel)
theorem mC_J0_checkBoundsBeginEnd_23922 : Cond.code yJ0_checkBoundsBeginEnd_23922 cJ0_checkBoundsBeginEnd_23922 3 none ∈ xT := xT_in (i := 852) (by decide +kernel) (by decide +kernel)
theorem mF_J0_1053 : Cond.fieldLink RJ0 1053 "jdk/internal/util/Preconditions" "SIOOBE_FORMATTER" "Ljava/util/function/BiFunction;" ∈ xT := xT_in (i := 853) (by decide +kernel) (by decide +kernel)
theorem mM_J0_1062 : Cond.methodLink RJ0 1062 yJ3_checkFromToIndex_8c36e ∈ xT := xT_in (i := 855) (by decide +kernel) (by decide +kernel)
theorem mS_J3_checkFromToIndex_8c36e : Cond.static yJ3_checkFromToIndex_8c36e ∈ xT := xT_in (i := 856) (by decide +kernel) (by decide +kernel)
theorem mC_J3_checkFromToIndex_8c36e : Cond.code yJ3_checkFromToIndex_8c36e cJ3_checkFromToIndex_8c36e 4 (some .int) ∈ xT := xT_in (i := 857) (by decide +kernel) (by decide +kernel)
theorem mM_J2_393 : Cond.methodLink RJ2 393 yJ2_getChars_ba4f3 ∈ xT := xT_in (i := 858) (by decide +kernel) (by decide +kernel)
theorem mS_J2_getChars_ba4f3 : Cond.static yJ2_getChars_ba4f3 ∈ xT := xT_in (i := 859) (by decide +kernel) (by decide +kernel)
theorem mC_J2_getChars_ba4f3 : Cond.code yJ2_getChars_ba4f3 cJ2_getChars_ba4f3 7 (some .int) ∈ xT := xT_in (i := 860) (by decide +kernel) (by decide +kernel)
theorem mF_J2_403 : Cond.fieldLink RJ2 403 "java/lang/Integer" "DigitOnes" "[B" ∈ xT := xT_in (i := 861) (by decide +kernel) (by decide +kernel)
theorem mM_J2_111 : Cond.methodLink RJ2 111 yJ2_putChar_b72d1 ∈ xT := xT_in (i := 862) (by decide +kernel) (by decide +kernel)
theorem mS_J2_putChar_b72d1 : Cond.static yJ2_putChar_b72d1 ∈ xT := xT_in (i := 863) (by decide +kernel) (by decide +kernel)
theorem mC_J2_putChar_b72d1 : Cond.code yJ2_putChar_b72d1 cJ2_putChar_b72d1 3 none ∈ xT := xT_in (i := 864) (by decide +kernel) (by decide +kernel)
theorem mF_J2_44 : Cond.fieldLink RJ2 44 "java/lang/StringUTF16" "$assertionsDisabled" "Z" ∈ xT := xT_in (i := 865) (by decide +kernel) (by decide +kernel)
theorem mF_J2_59 : Cond.fieldLink RJ2 59 "java/lang/StringUTF16" "HI_BYTE_SHIFT" "I" ∈ xT := xT_in (i := 867) (by decide +kernel) (by decide +kernel)
theorem mF_J2_63 : Cond.fieldLink RJ2 63 "java/lang/StringUTF16" "LO_BYTE_SHIFT" "I" ∈ xT := xT_in (i := 869) (by decide +kernel) (by decide +kernel)
theorem mF_J2_407 : Cond.fieldLink RJ2 407 "java/lang/Integer" "DigitTens" "[B" ∈ xT := xT_in (i := 871) (by decide +kernel) (by decide +kernel)
theorem mM_X1_63 : Cond.methodLink RX1 63 yJ4_append_cf468 ∈ xT := xT_in (i := 872) (by decide +kernel) (by decide +kernel)
theorem mI_J4_append_cf468 : Cond.instanceMethod yJ4_append_cf468 ∈ xT := xT_in (i := 873) (by decide +kernel) (by decide +kernel)
theorem mV_J4_append_cf468 : Cond.selects RJ4 yJ4_append_cf468 yJ4_append_cf468 ∈ xT := xT_in (i := 874) (by decide +kernel) (by decide +kernel)
theorem mC_J4_append_cf468 : Cond.code yJ4_append_cf468 cJ4_append_cf468 2 (some (.object "java/lang/StringBuilder")) ∈ xT := xT_in (i := 875) (by decide +kernel) (by decide +kernel)
theorem mM_J4_50 : Cond.methodLink RJ4 50 yJ5_append_3fe6f ∈ xT := xT_in (i := 876) (by decide +kernel) (by decide +kernel)
theorem mI_J5_append_3fe6f : Cond.instanceMethod yJ5_append_3fe6f ∈ xT := xT_in (i := 877) (by decide +kernel) (by decide +kernel)
theorem mC_J5_append_3fe6f : Cond.code yJ5_append_3fe6f cJ5_append_3fe6f 2 (some (.object "java/lang/AbstractStringBuilder")) ∈ xT := xT_in (i := 878) (by decide +kernel) (by decide +kernel)
theorem mM_J5_191 : Cond.methodLink RJ5 191 yJ1_canEncode_fc78d ∈ xT := xT_in (i := 879) (by decide +kernel) (by decide +kernel)
theorem mS_J1_canEncode_fc78d : Cond.static yJ1_canEncode_fc78d ∈ xT := xT_in (i := 880) (by decide +kernel) (by decide +kernel)
theorem mC_J1_canEncode_fc78d : Cond.code yJ1_canEncode_fc78d cJ1_canEncode_fc78d 1 (some .boolean) ∈ xT := xT_in (i := 881) (by decide +kernel) (by decide +kernel)
theorem mM_J5_195 : Cond.methodLink RJ5 195 yJ5_inflate_da8c8 ∈ xT := xT_in (i := 882) (by decide +kernel) (by decide +kernel)
theorem mI_J5_inflate_da8c8 : Cond.instanceMethod yJ5_inflate_da8c8 ∈ xT := xT_in (i := 884) (by decide +kernel) (by decide +kernel)
theorem mC_J5_inflate_da8c8 : Cond.code yJ5_inflate_da8c8 cJ5_inflate_da8c8 2 none ∈ xT := xT_in (i := 885) (by decide +kernel) (by decide +kernel)
theorem mM_J5_125 : Cond.methodLink RJ5 125 yJ1_inflate_0e8fd ∈ xT := xT_in (i := 886) (by decide +kernel) (by decide +kernel)
theorem mS_J1_inflate_0e8fd : Cond.static yJ1_inflate_0e8fd ∈ xT := xT_in (i := 887) (by decide +kernel) (by decide +kernel)
theorem mC_J1_inflate_0e8fd : Cond.code yJ1_inflate_0e8fd cJ1_inflate_0e8fd 5 none ∈ xT := xT_in (i := 888) (by decide +kernel) (by decide +kernel)
theorem mM_J1_240 : Cond.methodLink RJ1 240 yJ2_inflate_0e8fd ∈ xT := xT_in (i := 889) (by decide +kernel) (by decide +kernel)
theorem mS_J2_inflate_0e8fd : Cond.static yJ2_inflate_0e8fd ∈ xT := xT_in (i := 890) (by decide +kernel) (by decide +kernel)
theorem mC_J2_inflate_0e8fd : Cond.code yJ2_inflate_0e8fd cJ2_inflate_0e8fd 6 none ∈ xT := xT_in (i := 891) (by decide +kernel) (by decide +kernel)
theorem mM_J2_173 : Cond.methodLink RJ2 173 yJ2_checkBoundsOffCount_d044e ∈ xT := xT_in (i := 892) (by decide +kernel) (by decide +kernel)
theorem mS_J2_checkBoundsOffCount_d044e : Cond.static yJ2_checkBoundsOffCount_d044e ∈ xT := xT_in (i := 893) (by decide +kernel) (by decide +kernel)
theorem mC_J2_checkBoundsOffCount_d044e : Cond.code yJ2_checkBoundsOffCount_d044e cJ2_checkBoundsOffCount_d044e 3 none ∈ xT := xT_in (i := 894) (by decide +kernel) (by decide +kernel)
theorem mM_J2_419 : Cond.methodLink RJ2 419 yJ0_checkBoundsOffCount_cabcc ∈ xT := xT_in (i := 895) (by decide +kernel) (by decide +kernel)
theorem mS_J0_checkBoundsOffCount_cabcc : Cond.static yJ0_checkBoundsOffCount_cabcc ∈ xT := xT_in (i := 896) (by decide +kernel) (by decide +kernel)
theorem mC_J0_checkBoundsOffCount_cabcc : Cond.code yJ0_checkBoundsOffCount_cabcc cJ0_checkBoundsOffCount_cabcc 3 (some .int) ∈ xT := xT_in (i := 897) (by decide +kernel) (by decide +kernel)
theorem mM_J0_1065 : Cond.methodLink RJ0 1065 yJ3_checkFromIndexSize_8c36e ∈ xT := xT_in (i := 898) (by decide +kernel) (by decide +kernel)
theorem mS_J3_checkFromIndexSize_8c36e : Cond.static yJ3_checkFromIndexSize_8c36e ∈ xT := xT_in (i := 899) (by decide +kernel) (by decide +kernel)
theorem mC_J3_checkFromIndexSize_8c36e : Cond.code yJ3_checkFromIndexSize_8c36e cJ3_checkFromIndexSize_8c36e 4 (some .int) ∈ xT := xT_in (i := 900) (by decide +kernel) (by decide +kernel)
theorem mM_J5_197 : Cond.methodLink RJ5 197 yJ2_putCharSB_b72d1 ∈ xT := xT_in (i := 901) (by decide +kernel) (by decide +kernel)
theorem mS_J2_putCharSB_b72d1 : Cond.static yJ2_putCharSB_b72d1 ∈ xT := xT_in (i := 902) (by decide +kernel) (by decide +kernel)
theorem mC_J2_putCharSB_b72d1 : Cond.code yJ2_putCharSB_b72d1 cJ2_putCharSB_b72d1 3 none ∈ xT := xT_in (i := 903) (by decide +kernel) (by decide +kernel)
theorem mM_J2_67 : Cond.methodLink RJ2 67 yJ2_checkIndex_2214a ∈ xT := xT_in (i := 904) (by decide +kernel) (by decide +kernel)
theorem mS_J2_checkIndex_2214a : Cond.static yJ2_checkIndex_2214a ∈ xT := xT_in (i := 905) (by decide +kernel) (by decide +kernel)
theorem mC_J2_checkIndex_2214a : Cond.code yJ2_checkIndex_2214a cJ2_checkIndex_2214a 2 none ∈ xT := xT_in (i := 906) (by decide +kernel) (by decide +kernel)
theorem mM_J2_414 : Cond.methodLink RJ2 414 yJ0_checkIndex_df160 ∈ xT := xT_in (i := 907) (by decide +kernel) (by decide +kernel)
theorem mS_J0_checkIndex_df160 : Cond.static yJ0_checkIndex_df160 ∈ xT := xT_in (i := 908) (by decide +kernel) (by decide +kernel)
theorem mC_J0_checkIndex_df160 : Cond.code yJ0_checkIndex_df160 cJ0_checkIndex_df160 2 none ∈ xT := xT_in (i := 909) (by decide +kernel) (by decide +kernel)
theorem mM_J0_1059 : Cond.methodLink RJ0 1059 yJ3_checkIndex_8e157 ∈ xT := xT_in (i := 910) (by decide +kernel) (by decide +kernel)
theorem mS_J3_checkIndex_8e157 : Cond.static yJ3_checkIndex_8e157 ∈ xT := xT_in (i := 911) (by decide +kernel) (by decide +kernel)
theorem mC_J3_checkIndex_8e157 : Cond.code yJ3_checkIndex_8e157 cJ3_checkIndex_8e157 3 (some .int) ∈ xT := xT_in (i := 912) (by decide +kernel) (by decide +kernel)
theorem mM_X1_71 : Cond.methodLink RX1 71 yJ4_append_15ec4 ∈ xT := xT_in (i := 913) (by decide +kernel) (by decide +kernel)
theorem mI_J4_append_15ec4 : Cond.instanceMethod yJ4_append_15ec4 ∈ xT := xT_in (i := 914) (by decide +kernel) (by decide +kernel)
theorem mV_J4_append_15ec4 : Cond.selects RJ4 yJ4_append_15ec4 yJ4_append_15ec4 ∈ xT := xT_in (i := 915) (by decide +kernel) (by decide +kernel)
theorem mC_J4_append_15ec4 : Cond.code yJ4_append_15ec4 cJ4_append_15ec4 2 (some (.object "java/lang/StringBuilder")) ∈ xT := xT_in (i := 916) (by decide +kernel) (by decide +kernel)
theorem mM_J4_29 : Cond.methodLink RJ4 29 yJ5_append_cf1ce ∈ xT := xT_in (i := 917) (by decide +kernel) (by decide +kernel)
theorem mI_J5_append_cf1ce : Cond.instanceMethod yJ5_append_cf1ce ∈ xT := xT_in (i := 918) (by decide +kernel) (by decide +kernel)
theorem mC_J5_append_cf1ce : Cond.code yJ5_append_cf1ce cJ5_append_cf1ce 3 (some (.object "java/lang/AbstractStringBuilder")) ∈ xT := xT_in (i := 919) (by decide +kernel) (by decide +kernel)
theorem mM_J5_204 : Cond.methodLink RJ5 204 yJ5_appendNull_278bc ∈ xT := xT_in (i := 920) (by decide +kernel) (by decide +kernel)
theorem mI_J5_appendNull_278bc : Cond.instanceMethod yJ5_appendNull_278bc ∈ xT := xT_in (i := 922) (by decide +kernel) (by decide +kernel)
theorem mC_J5_appendNull_278bc : Cond.code yJ5_appendNull_278bc cJ5_appendNull_278bc 3 (some (.object "java/lang/AbstractStringBuilder")) ∈ xT := xT_in (i := 923) (by decide +kernel) (by decide +kernel)
theorem mM_J5_226 : Cond.methodLink RJ5 226 yJ2_putCharsAt_cd4e5 ∈ xT := xT_in (i := 924) (by decide +kernel) (by decide +kernel)
theorem mS_J2_putCharsAt_cd4e5 : Cond.static yJ2_putCharsAt_cd4e5 ∈ xT := xT_in (i := 925) (by decide +kernel) (by decide +kernel)
theorem mC_J2_putCharsAt_cd4e5 : Cond.code yJ2_putCharsAt_cd4e5 cJ2_putCharsAt_cd4e5 7 (some .int) ∈ xT := xT_in (i := 926) (by decide +kernel) (by decide +kernel)
theorem mM_J5_32 : Cond.methodLink RJ5 32 yJ0_length_8abf5 ∈ xT := xT_in (i := 927) (by decide +kernel) (by decide +kernel)
theorem mI_J0_length_8abf5 : Cond.instanceMethod yJ0_length_8abf5 ∈ xT := xT_in (i := 928) (by decide +kernel) (by decide +kernel)
theorem mV_J0_length_8abf5 : Cond.selects RJ0 yJ0_length_8abf5 yJ0_length_8abf5 ∈ xT := xT_in (i := 929) (by decide +kernel) (by decide +kernel)
theorem mC_J0_length_8abf5 : Cond.code yJ0_length_8abf5 cJ0_length_8abf5 1 (some .int) ∈ xT := xT_in (i := 930) (by decide +kernel) (by decide +kernel)
theorem mM_J0_335 : Cond.methodLink RJ0 335 yJ0_coder_7d493 ∈ xT := xT_in (i := 931) (by decide +kernel) (by decide +kernel)
theorem mI_J0_coder_7d493 : Cond.instanceMethod yJ0_coder_7d493 ∈ xT := xT_in (i := 932) (by decide +kernel) (by decide +kernel)
theorem mV_J0_coder_7d493 : Cond.selects RJ0 yJ0_coder_7d493 yJ0_coder_7d493 ∈ xT := xT_in (i := 933) (by decide +kernel) (by decide +kernel)
theorem mC_J0_coder_7d493 : Cond.code yJ0_coder_7d493 cJ0_coder_7d493 1 (some .byte) ∈ xT := xT_in (i := 934) (by decide +kernel) (by decide +kernel)
theorem mF_J0_38 : Cond.fieldLink RJ0 38 "java/lang/String" "COMPACT_STRINGS" "Z" ∈ xT := xT_in (i := 935) (by decide +kernel) (by decide +kernel)
theorem mM_J5_208 : Cond.methodLink RJ5 208 yJ5_putStringAt_47b60 ∈ xT := xT_in (i := 936) (by decide +kernel) (by decide +kernel)
theorem mI_J5_putStringAt_47b60 : Cond.instanceMethod yJ5_putStringAt_47b60 ∈ xT := xT_in (i := 938) (by decide +kernel) (by decide +kernel)
theorem mC_J5_putStringAt_47b60 : Cond.code yJ5_putStringAt_47b60 cJ5_putStringAt_47b60 3 none ∈ xT := xT_in (i := 939) (by decide +kernel) (by decide +kernel)
theorem mM_J5_397 : Cond.methodLink RJ5 397 yJ5_inflateIfNeededFor_a7421 ∈ xT := xT_in (i := 940) (by decide +kernel) (by decide +kernel)
theorem mI_J5_inflateIfNeededFor_a7421 : Cond.instanceMethod yJ5_inflateIfNeededFor_a7421 ∈ xT := xT_in (i := 942) (by decide +kernel) (by decide +kernel)
theorem mC_J5_inflateIfNeededFor_a7421 : Cond.code yJ5_inflateIfNeededFor_a7421 cJ5_inflateIfNeededFor_a7421 2 none ∈ xT := xT_in (i := 943) (by decide +kernel) (by decide +kernel)
theorem mM_J5_40 : Cond.methodLink RJ5 40 yJ0_coder_7d493 ∈ xT := xT_in (i := 944) (by decide +kernel) (by decide +kernel)
theorem mM_J5_399 : Cond.methodLink RJ5 399 yJ0_getBytes_840e7 ∈ xT := xT_in (i := 945) (by decide +kernel) (by decide +kernel)
theorem mI_J0_getBytes_840e7 : Cond.instanceMethod yJ0_getBytes_840e7 ∈ xT := xT_in (i := 946) (by decide +kernel) (by decide +kernel)
theorem mV_J0_getBytes_840e7 : Cond.selects RJ0 yJ0_getBytes_840e7 yJ0_getBytes_840e7 ∈ xT := xT_in (i := 947) (by decide +kernel) (by decide +kernel)
theorem mC_J0_getBytes_840e7 : Cond.code yJ0_getBytes_840e7 cJ0_getBytes_840e7 4 none ∈ xT := xT_in (i := 948) (by decide +kernel) (by decide +kernel)
theorem mM_J0_212 : Cond.methodLink RJ0 212 ⟨RJ10, "arraycopy", "(Ljava/lang/Object;ILjava/lang/Object;II)V"⟩ ∈ xT := xT_in (i := 949) (by decide +kernel) (by decide +kernel)
theorem mM_J0_106 : Cond.methodLink RJ0 106 yJ1_inflate_0e8fd ∈ xT := xT_in (i := 950) (by decide +kernel) (by decide +kernel)
theorem mM_X1_76 : Cond.methodLink RX1 76 yJ4_toString_0e30d ∈ xT := xT_in (i := 952) (by decide +kernel) (by decide +kernel)
theorem mI_J4_toString_0e30d : Cond.instanceMethod yJ4_toString_0e30d ∈ xT := xT_in (i := 953) (by decide +kernel) (by decide +kernel)
theorem mV_J4_toString_0e30d : Cond.selects RJ4 yJ4_toString_0e30d yJ4_toString_0e30d ∈ xT := xT_in (i := 954) (by decide +kernel) (by decide +kernel)
theorem mC_J4_toString_0e30d : Cond.code yJ4_toString_0e30d cJ4_toString_0e30d 1 (some (.object "java/lang/String")) ∈ xT := xT_in (i := 955) (by decide +kernel) (by decide +kernel)
theorem mK_J4_18 : Cond.classLink RJ4 18 RJ0 ∈ xT := xT_in (i := 956) (by decide +kernel) (by decide +kernel)
theorem mM_J4_137 : Cond.methodLink RJ4 137 yJ0_init_81219 ∈ xT := xT_in (i := 957) (by decide +kernel) (by decide +kernel)
theorem mI_J0_init_81219 : Cond.instanceMethod yJ0_init_81219 ∈ xT := xT_in (i := 958) (by decide +kernel) (by decide +kernel)
theorem mC_J0_init_81219 : Cond.code yJ0_init_81219 cJ0_init_81219 2 none ∈ xT := xT_in (i := 959) (by decide +kernel) (by decide +kernel)
theorem mM_J0_489 : Cond.methodLink RJ0 489 yJ0_init_db425 ∈ xT := xT_in (i := 960) (by decide +kernel) (by decide +kernel)
theorem mI_J0_init_db425 : Cond.instanceMethod yJ0_init_db425 ∈ xT := xT_in (i := 961) (by decide +kernel) (by decide +kernel)
theorem mC_J0_init_db425 : Cond.code yJ0_init_db425 cJ0_init_db425 5 none ∈ xT := xT_in (i := 962) (by decide +kernel) (by decide +kernel)
theorem mM_J0_1 : Cond.methodLink RJ0 1 Lib.objectInit ∈ xT := xT_in (i := 963) (by decide +kernel) (by decide +kernel)
theorem mM_J0_552 : Cond.methodLink RJ0 552 yJ5_getValue_6d5f1 ∈ xT := xT_in (i := 964) (by decide +kernel) (by decide +kernel)
theorem mI_J5_getValue_6d5f1 : Cond.instanceMethod yJ5_getValue_6d5f1 ∈ xT := xT_in (i := 965) (by decide +kernel) (by decide +kernel)
theorem mE_J5_J5_getValue_88879 : Cond.sameMethod RJ5 RJ5 "getValue" "()[B" ∈ xT := xT_in (i := 966) (by decide +kernel) (by decide +kernel)
theorem mV_J4_J5_getValue_6d5f1 : Cond.selects RJ4 yJ5_getValue_6d5f1 yJ5_getValue_6d5f1 ∈ xT := xT_in (i := 967) (by decide +kernel) (by decide +kernel)
theorem mC_J5_getValue_6d5f1 : Cond.code yJ5_getValue_6d5f1 cJ5_getValue_6d5f1 1 (some (.array .byte)) ∈ xT := xT_in (i := 968) (by decide +kernel) (by decide +kernel)
theorem mM_J0_549 : Cond.methodLink RJ0 549 yJ5_length_8abf5 ∈ xT := xT_in (i := 969) (by decide +kernel) (by decide +kernel)
theorem mI_J5_length_8abf5 : Cond.instanceMethod yJ5_length_8abf5 ∈ xT := xT_in (i := 970) (by decide +kernel) (by decide +kernel)
theorem mE_J5_J5_length_46096 : Cond.sameMethod RJ5 RJ5 "length" "()I" ∈ xT := xT_in (i := 971) (by decide +kernel) (by decide +kernel)
theorem mV_J4_J5_length_8abf5_J4_length_8abf5 : Cond.selects RJ4 yJ5_length_8abf5 yJ4_length_8abf5 ∈ xT := xT_in (i := 972) (by decide +kernel) (by decide +kernel)
theorem mI_J4_length_8abf5 : Cond.instanceMethod yJ4_length_8abf5 ∈ xT := xT_in (i := 973) (by decide +kernel) (by decide +kernel)
theorem mC_J4_length_8abf5 : Cond.code yJ4_length_8abf5 cJ4_length_8abf5 1 (some .int) ∈ xT := xT_in (i := 974) (by decide +kernel) (by decide +kernel)
theorem mM_J4_343 : Cond.methodLink RJ4 343 yJ5_length_8abf5 ∈ xT := xT_in (i := 975) (by decide +kernel) (by decide +kernel)
theorem mC_J5_length_8abf5 : Cond.code yJ5_length_8abf5 cJ5_length_8abf5 1 (some .int) ∈ xT := xT_in (i := 976) (by decide +kernel) (by decide +kernel)
theorem mM_J0_1047 : Cond.methodLink RJ0 1047 yJ5_isLatin1_aae02 ∈ xT := xT_in (i := 977) (by decide +kernel) (by decide +kernel)
theorem mM_J0_54 : Cond.methodLink RJ0 54 yJ7_copyOfRange_39247 ∈ xT := xT_in (i := 978) (by decide +kernel) (by decide +kernel)
theorem mS_J7_copyOfRange_39247 : Cond.static yJ7_copyOfRange_39247 ∈ xT := xT_in (i := 979) (by decide +kernel) (by decide +kernel)
theorem mC_J7_copyOfRange_39247 : Cond.code yJ7_copyOfRange_39247 cJ7_copyOfRange_39247 3 (some (.array .byte)) ∈ xT := xT_in (i := 980) (by decide +kernel) (by decide +kernel)
theorem mM_J7_339 : Cond.methodLink RJ7 339 yJ7_copyOfRangeByte_39247 ∈ xT := xT_in (i := 981) (by decide +kernel) (by decide +kernel)
theorem mS_J7_copyOfRangeByte_39247 : Cond.static yJ7_copyOfRangeByte_39247 ∈ xT := xT_in (i := 982) (by decide +kernel) (by decide +kernel)
theorem mC_J7_copyOfRangeByte_39247 : Cond.code yJ7_copyOfRangeByte_39247 cJ7_copyOfRangeByte_39247 5 (some (.array .byte)) ∈ xT := xT_in (i := 983) (by decide +kernel) (by decide +kernel)
theorem mM_J7_343 : Cond.methodLink RJ7 343 yJ7_checkLength_df160 ∈ xT := xT_in (i := 984) (by decide +kernel) (by decide +kernel)
theorem mS_J7_checkLength_df160 : Cond.static yJ7_checkLength_df160 ∈ xT := xT_in (i := 985) (by decide +kernel) (by decide +kernel)
theorem mC_J7_checkLength_df160 : Cond.code yJ7_checkLength_df160 cJ7_checkLength_df160 2 none ∈ xT := xT_in (i := 986) (by decide +kernel) (by decide +kernel)
theorem mK_J7_43 : Cond.classLink RJ7 43 "java/lang/IllegalArgumentException" ∈ xT := xT_in (i := 987) (by decide +kernel) (by decide +kernel)
theorem mK_J7_45 : Cond.classLink RJ7 45 RJ4 ∈ xT := xT_in (i := 988) (by decide +kernel) (by decide +kernel)
theorem mM_J7_47 : Cond.methodLink RJ7 47 yJ4_init_da8c8 ∈ xT := xT_in (i := 989) (by decide +kernel) (by decide +kernel)
theorem mM_J7_54 : Cond.methodLink RJ7 54 yJ4_append_bf812 ∈ xT := xT_in (i := 990) (by decide +kernel) (by decide +kernel)
theorem mM_J7_50 : Cond.methodLink RJ7 50 yJ4_append_15ec4 ∈ xT := xT_in (i := 992) (by decide +kernel) (by decide +kernel)
theorem mM_J7_61 : Cond.methodLink RJ7 61 yJ4_toString_0e30d ∈ xT := xT_in (i := 993) (by decide +kernel) (by decide +kernel)
theorem mM_J7_65 : Cond.methodLink RJ7 65 ⟨"java/lang/IllegalArgumentException", "<init>", "(Ljava/lang/String;)V"⟩ ∈ xT := xT_in (i := 994) (by decide +kernel) (by decide +kernel)
theorem mM_J0_1051 : Cond.methodLink RJ0 1051 yJ2_compress_39247 ∈ xT := xT_in (i := 995) (by decide +kernel) (by decide +kernel)
theorem mS_J2_compress_39247 : Cond.static yJ2_compress_39247 ∈ xT := xT_in (i := 996) (by decide +kernel) (by decide +kernel)
theorem mC_J2_compress_39247 : Cond.code yJ2_compress_39247 cJ2_compress_39247 6 (some (.array .byte)) ∈ xT := xT_in (i := 997) (by decide +kernel) (by decide +kernel)
theorem mM_J2_123 : Cond.methodLink RJ2 123 yJ2_compress_5af95 ∈ xT := xT_in (i := 998) (by decide +kernel) (by decide +kernel)
theorem mS_J2_compress_5af95 : Cond.static yJ2_compress_5af95 ∈ xT := xT_in (i := 999) (by decide +kernel) (by decide +kernel)
theorem mC_J2_compress_5af95 : Cond.code yJ2_compress_5af95 cJ2_compress_5af95 7 (some .int) ∈ xT := xT_in (i := 1000) (by decide +kernel) (by decide +kernel)
theorem mM_J2_71 : Cond.methodLink RJ2 71 yJ2_getChar_3b067 ∈ xT := xT_in (i := 1001) (by decide +kernel) (by decide +kernel)
theorem mS_J2_getChar_3b067 : Cond.static yJ2_getChar_3b067 ∈ xT := xT_in (i := 1002) (by decide +kernel) (by decide +kernel)
theorem mC_J2_getChar_3b067 : Cond.code yJ2_getChar_3b067 cJ2_getChar_3b067 2 (some .char) ∈ xT := xT_in (i := 1003) (by decide +kernel) (by decide +kernel)
theorem mM_J2_126 : Cond.methodLink RJ2 126 yJ7_copyOfRange_39247 ∈ xT := xT_in (i := 1004) (by decide +kernel) (by decide +kernel)
theorem mM_J0_47 : Cond.methodLink RJ0 47 yJ2_coderFromArrayLen_85cad ∈ xT := xT_in (i := 1005) (by decide +kernel) (by decide +kernel)
theorem mS_J2_coderFromArrayLen_85cad : Cond.static yJ2_coderFromArrayLen_85cad ∈ xT := xT_in (i := 1006) (by decide +kernel) (by decide +kernel)
theorem mC_J2_coderFromArrayLen_85cad : Cond.code yJ2_coderFromArrayLen_85cad cJ2_coderFromArrayLen_85cad 2 (some .byte) ∈ xT := xT_in (i := 1007) (by decide +kernel) (by decide +kernel)
theorem mF_J0_9 : Cond.fieldLink RJ0 9 "java/lang/String" "value" "[B" ∈ xT := xT_in (i := 1008) (by decide +kernel) (by decide +kernel)
theorem mF_J0_15 : Cond.fieldLink RJ0 15 "java/lang/String" "coder" "B" ∈ xT := xT_in (i := 1009) (by decide +kernel) (by decide +kernel)
theorem mL_J0_J0_hash : Cond.lays RJ0 RJ0 "hash" "I" ∈ xT := xT_in (i := 1010) (by decide +kernel) (by decide +kernel)
theorem mL_J0_J0_hashIsZero : Cond.lays RJ0 RJ0 "hashIsZero" "Z" ∈ xT := xT_in (i := 1012) (by decide +kernel) (by decide +kernel)
theorem mU_J0_Object : Cond.superclass RJ0 "java/lang/Object" ∈ xT := xT_in (i := 1014) (by decide +kernel) (by decide +kernel)
theorem mM_X7_132 : Cond.methodLink RX7 132 yJ0_length_8abf5 ∈ xT := xT_in (i := 1015) (by decide +kernel) (by decide +kernel)
theorem mM_L_165 : Cond.methodLink RL 165 yL_labelled ∈ xT := xT_in (i := 1016) (by decide +kernel) (by decide +kernel)
theorem mS_L_labelled : Cond.static yL_labelled ∈ xT := xT_in (i := 1017) (by decide +kernel) (by decide +kernel)
theorem mC_L_labelled : Cond.codeWith yL_labelled cL_labelled 5 (some .int) [((0), (10), (13), (13)), ((0), (10), (17), (55))] ∈ xT := xT_in (i := 1018) (by decide +kernel) (by decide +kernel)
theorem mK_L_55 : Cond.classLink RL 55 "java/util/NoSuchElementException" ∈ xT := xT_in (i := 1019) (by decide +kernel) (by decide +kernel)
theorem mM_L_51 : Cond.methodLink RL 51 yX7_labelled ∈ xT := xT_in (i := 1020) (by decide +kernel) (by decide +kernel)
theorem mI_X7_labelled : Cond.instanceMethod yX7_labelled ∈ xT := xT_in (i := 1021) (by decide +kernel) (by decide +kernel)
theorem mV_X7_labelled : Cond.selects RX7 yX7_labelled yX7_labelled ∈ xT := xT_in (i := 1022) (by decide +kernel) (by decide +kernel)
theorem mC_X7_labelled : Cond.code yX7_labelled cX7_labelled 4 (some .char) ∈ xT := xT_in (i := 1023) (by decide +kernel) (by decide +kernel)
theorem mK_X7_137 : Cond.classLink RX7 137 "java/util/NoSuchElementException" ∈ xT := xT_in (i := 1024) (by decide +kernel) (by decide +kernel)
theorem mA_NoSuchElementException : Cond.instantiable "java/util/NoSuchElementException" 6 ∈ xT := xT_in (i := 1025) (by decide +kernel) (by decide +kernel)
theorem mL_NoSuchElementException_Throwable_cause : Cond.lays "java/util/NoSuchElementException" "java/lang/Throwable" "cause" "Ljava/lang/Throwable;" ∈ xT := xT_in (i := 1028) (by decide +kernel) (by decide +kernel)
theorem mL_NoSuchElementException_Throwable_stackTrace : Cond.lays "java/util/NoSuchElementException" "java/lang/Throwable" "stackTrace" "[Ljava/lang/StackTraceElement;" ∈ xT := xT_in (i := 1029) (by decide +kernel) (by decide +kernel)
theorem mL_NoSuchElementException_Throwable_suppressedExceptions : Cond.lays "java/util/NoSuchElementException" "java/lang/Throwable" "suppressedExceptions" "Ljava/util/List;" ∈ xT := xT_in (i := 1030) (by decide +kernel) (by decide +kernel)
theorem mL_NoSuchElementException_Throwable_detailMessage : Cond.lays "java/util/NoSuchElementException" "java/lang/Throwable" "detailMessage" "Ljava/lang/String;" ∈ xT := xT_in (i := 1031) (by decide +kernel) (by decide +kernel)
theorem mL_NoSuchElementException_Throwable_backtrace : Cond.lays "java/util/NoSuchElementException" "java/lang/Throwable" "backtrace" "Ljava/lang/Object;" ∈ xT := xT_in (i := 1032) (by decide +kernel) (by decide +kernel)
theorem mM_X7_141 : Cond.methodLink RX7 141 ⟨"java/util/NoSuchElementException", "<init>", "(Ljava/lang/String;)V"⟩ ∈ xT := xT_in (i := 1034) (by decide +kernel) (by decide +kernel)
theorem mI_NoSuchElementException_init_S : Cond.instanceMethod ⟨"java/util/NoSuchElementException", "<init>", "(Ljava/lang/String;)V"⟩ ∈ xT := xT_in (i := 1035) (by decide +kernel) (by decide +kernel)
theorem mC_NoSuchElementException_init_S : Cond.code ⟨"java/util/NoSuchElementException", "<init>", "(Ljava/lang/String;)V"⟩ prog_38_method_4_code 2 none ∈ xT := xT_in (i := 1036) (by decide +kernel) (by decide +kernel)
theorem mM_NoSuchElementException_13 : Cond.methodLink "java/util/NoSuchElementException" 13 ⟨"java/lang/RuntimeException", "<init>", "(Ljava/lang/String;)V"⟩ ∈ xT := xT_in (i := 1037) (by decide +kernel) (by decide +kernel)
theorem mL_NoSuchElementException_Throwable_depth : Cond.lays "java/util/NoSuchElementException" "java/lang/Throwable" "depth" "I" ∈ xT := xT_in (i := 1038) (by decide +kernel) (by decide +kernel)
theorem mU_NoSuchElementException_RuntimeException : Cond.superclass "java/util/NoSuchElementException" "java/lang/RuntimeException" ∈ xT := xT_in (i := 1039) (by decide +kernel) (by decide +kernel)
theorem mM_X7_144 : Cond.methodLink RX7 144 yJ0_charAt_5068e ∈ xT := xT_in (i := 1040) (by decide +kernel) (by decide +kernel)
theorem mI_J0_charAt_5068e : Cond.instanceMethod yJ0_charAt_5068e ∈ xT := xT_in (i := 1041) (by decide +kernel) (by decide +kernel)
theorem mV_J0_charAt_5068e : Cond.selects RJ0 yJ0_charAt_5068e yJ0_charAt_5068e ∈ xT := xT_in (i := 1042) (by decide +kernel) (by decide +kernel)
theorem mC_J0_charAt_5068e : Cond.code yJ0_charAt_5068e cJ0_charAt_5068e 2 (some .char) ∈ xT := xT_in (i := 1043) (by decide +kernel) (by decide +kernel)
theorem mM_J0_492 : Cond.methodLink RJ0 492 yJ0_isLatin1_aae02 ∈ xT := xT_in (i := 1044) (by decide +kernel) (by decide +kernel)
theorem mI_J0_isLatin1_aae02 : Cond.instanceMethod yJ0_isLatin1_aae02 ∈ xT := xT_in (i := 1045) (by decide +kernel) (by decide +kernel)
theorem mV_J0_isLatin1_aae02 : Cond.selects RJ0 yJ0_isLatin1_aae02 yJ0_isLatin1_aae02 ∈ xT := xT_in (i := 1046) (by decide +kernel) (by decide +kernel)
theorem mC_J0_isLatin1_aae02 : Cond.code yJ0_isLatin1_aae02 cJ0_isLatin1_aae02 1 (some .boolean) ∈ xT := xT_in (i := 1047) (by decide +kernel) (by decide +kernel)
theorem mM_J0_495 : Cond.methodLink RJ0 495 yJ1_charAt_3b067 ∈ xT := xT_in (i := 1048) (by decide +kernel) (by decide +kernel)
theorem mS_J1_charAt_3b067 : Cond.static yJ1_charAt_3b067 ∈ xT := xT_in (i := 1049) (by decide +kernel) (by decide +kernel)
theorem mC_J1_charAt_3b067 : Cond.code yJ1_charAt_3b067 cJ1_charAt_3b067 2 (some .char) ∈ xT := xT_in (i := 1050) (by decide +kernel) (by decide +kernel)
theorem mM_J1_9 : Cond.methodLink RJ1 9 yJ0_checkIndex_df160 ∈ xT := xT_in (i := 1051) (by decide +kernel) (by decide +kernel)
theorem mM_J0_498 : Cond.methodLink RJ0 498 yJ2_charAt_3b067 ∈ xT := xT_in (i := 1052) (by decide +kernel) (by decide +kernel)
theorem mS_J2_charAt_3b067 : Cond.static yJ2_charAt_3b067 ∈ xT := xT_in (i := 1053) (by decide +kernel) (by decide +kernel)
theorem mC_J2_charAt_3b067 : Cond.code yJ2_charAt_3b067 cJ2_charAt_3b067 2 (some .char) ∈ xT := xT_in (i := 1054) (by decide +kernel) (by decide +kernel)
theorem mM_L_168 : Cond.methodLink RL 168 yL_chest ∈ xT := xT_in (i := 1055) (by decide +kernel) (by decide +kernel)
theorem mS_L_chest : Cond.static yL_chest ∈ xT := xT_in (i := 1056) (by decide +kernel) (by decide +kernel)
theorem mC_L_chest : Cond.codeWith yL_chest cL_chest 5 (some .int) [((0), (10), (13), (13)), ((0), (10), (17), (15))] ∈ xT := xT_in (i := 1057) (by decide +kernel) (by decide +kernel)
theorem mM_L_57 : Cond.methodLink RL 57 yX7_chest ∈ xT := xT_in (i := 1058) (by decide +kernel) (by decide +kernel)
theorem mI_X7_chest : Cond.instanceMethod yX7_chest ∈ xT := xT_in (i := 1059) (by decide +kernel) (by decide +kernel)
theorem mV_X7_chest : Cond.selects RX7 yX7_chest yX7_chest ∈ xT := xT_in (i := 1060) (by decide +kernel) (by decide +kernel)
theorem mC_X7_chest : Cond.code yX7_chest cX7_chest 4 (some .int) ∈ xT := xT_in (i := 1061) (by decide +kernel) (by decide +kernel)
theorem mM_L_171 : Cond.methodLink RL 171 yL_worth ∈ xT := xT_in (i := 1063) (by decide +kernel) (by decide +kernel)
theorem mS_L_worth : Cond.static yL_worth ∈ xT := xT_in (i := 1064) (by decide +kernel) (by decide +kernel)
theorem mC_L_worth : Cond.codeWith yL_worth cL_worth 4 (some .int) [((0), (9), (12), (13))] ∈ xT := xT_in (i := 1065) (by decide +kernel) (by decide +kernel)
theorem mM_L_60 : Cond.methodLink RL 60 yX7_worth ∈ xT := xT_in (i := 1066) (by decide +kernel) (by decide +kernel)
theorem mI_X7_worth : Cond.instanceMethod yX7_worth ∈ xT := xT_in (i := 1067) (by decide +kernel) (by decide +kernel)
theorem mV_X7_worth : Cond.selects RX7 yX7_worth yX7_worth ∈ xT := xT_in (i := 1068) (by decide +kernel) (by decide +kernel)
theorem mC_X7_worth : Cond.code yX7_worth cX7_worth 2 (some .int) ∈ xT := xT_in (i := 1069) (by decide +kernel) (by decide +kernel)
theorem mM_X7_171 : Cond.methodLink RX7 171 yX1_coins ∈ xT := xT_in (i := 1070) (by decide +kernel) (by decide +kernel)
theorem mM_L_174 : Cond.methodLink RL 174 yL_ranked ∈ xT := xT_in (i := 1071) (by decide +kernel) (by decide +kernel)
theorem mS_L_ranked : Cond.static yL_ranked ∈ xT := xT_in (i := 1072) (by decide +kernel) (by decide +kernel)
theorem mC_L_ranked : Cond.codeWith yL_ranked cL_ranked 4 (some .int) [((0), (9), (12), (55))] ∈ xT := xT_in (i := 1073) (by decide +kernel) (by decide +kernel)
theorem mM_L_63 : Cond.methodLink RL 63 yX7_ranked ∈ xT := xT_in (i := 1074) (by decide +kernel) (by decide +kernel)
theorem mI_X7_ranked : Cond.instanceMethod yX7_ranked ∈ xT := xT_in (i := 1075) (by decide +kernel) (by decide +kernel)
theorem mV_X7_ranked : Cond.selects RX7 yX7_ranked yX7_ranked ∈ xT := xT_in (i := 1076) (by decide +kernel) (by decide +kernel)
theorem mC_X7_ranked : Cond.code yX7_ranked cX7_ranked 3 (some .int) ∈ xT := xT_in (i := 1077) (by decide +kernel) (by decide +kernel)
theorem mM_X7_174 : Cond.methodLink RX7 174 yX4_chestAtPlace ∈ xT := xT_in (i := 1078) (by decide +kernel) (by decide +kernel)
theorem mI_X4_chestAtPlace : Cond.instanceMethod yX4_chestAtPlace ∈ xT := xT_in (i := 1079) (by decide +kernel) (by decide +kernel)
theorem mV_X4_chestAtPlace : Cond.selects RX4 yX4_chestAtPlace yX4_chestAtPlace ∈ xT := xT_in (i := 1080) (by decide +kernel) (by decide +kernel)
theorem mC_X4_chestAtPlace : Cond.code yX4_chestAtPlace cX4_chestAtPlace 6 (some .int) ∈ xT := xT_in (i := 1081) (by decide +kernel) (by decide +kernel)
theorem mM_X4_192 : Cond.methodLink RX4 192 yX4_placeOf ∈ xT := xT_in (i := 1082) (by decide +kernel) (by decide +kernel)
theorem mI_X4_placeOf : Cond.instanceMethod yX4_placeOf ∈ xT := xT_in (i := 1084) (by decide +kernel) (by decide +kernel)
theorem mC_X4_placeOf : Cond.code yX4_placeOf cX4_placeOf 7 (some .int) ∈ xT := xT_in (i := 1085) (by decide +kernel) (by decide +kernel)
theorem mM_X4_196 : Cond.methodLink RX4 196 yX1_ranksBefore ∈ xT := xT_in (i := 1086) (by decide +kernel) (by decide +kernel)
theorem mI_X1_ranksBefore : Cond.instanceMethod yX1_ranksBefore ∈ xT := xT_in (i := 1087) (by decide +kernel) (by decide +kernel)
theorem mV_X1_ranksBefore : Cond.selects RX1 yX1_ranksBefore yX1_ranksBefore ∈ xT := xT_in (i := 1088) (by decide +kernel) (by decide +kernel)
theorem mC_X1_ranksBefore : Cond.code yX1_ranksBefore cX1_ranksBefore 2 (some .boolean) ∈ xT := xT_in (i := 1089) (by decide +kernel) (by decide +kernel)
theorem mM_X1_83 : Cond.methodLink RX1 83 yX1_coins ∈ xT := xT_in (i := 1090) (by decide +kernel) (by decide +kernel)
theorem mM_L_177 : Cond.methodLink RL 177 yL_toQuay ∈ xT := xT_in (i := 1092) (by decide +kernel) (by decide +kernel)
theorem mS_L_toQuay : Cond.static yL_toQuay ∈ xT := xT_in (i := 1093) (by decide +kernel) (by decide +kernel)
theorem mC_L_toQuay : Cond.codeWith yL_toQuay cL_toQuay 4 (some .int) [((0), (9), (12), (13)), ((0), (9), (15), (17))] ∈ xT := xT_in (i := 1094) (by decide +kernel) (by decide +kernel)
theorem mM_L_66 : Cond.methodLink RL 66 yX7_toQuay ∈ xT := xT_in (i := 1095) (by decide +kernel) (by decide +kernel)
theorem mI_X7_toQuay : Cond.instanceMethod yX7_toQuay ∈ xT := xT_in (i := 1096) (by decide +kernel) (by decide +kernel)
theorem mV_X7_toQuay : Cond.selects RX7 yX7_toQuay yX7_toQuay ∈ xT := xT_in (i := 1097) (by decide +kernel) (by decide +kernel)
theorem mC_X7_toQuay : Cond.code yX7_toQuay cX7_toQuay 3 (some .int) ∈ xT := xT_in (i := 1098) (by decide +kernel) (by decide +kernel)
theorem mM_X7_180 : Cond.methodLink RX7 180 yX4_tryToQuay ∈ xT := xT_in (i := 1099) (by decide +kernel) (by decide +kernel)
theorem mI_X4_tryToQuay : Cond.instanceMethod yX4_tryToQuay ∈ xT := xT_in (i := 1100) (by decide +kernel) (by decide +kernel)
theorem mV_X4_tryToQuay : Cond.selects RX4 yX4_tryToQuay yX4_tryToQuay ∈ xT := xT_in (i := 1101) (by decide +kernel) (by decide +kernel)
theorem mC_X4_tryToQuay : Cond.code yX4_tryToQuay cX4_tryToQuay 2 (some .boolean) ∈ xT := xT_in (i := 1102) (by decide +kernel) (by decide +kernel)
theorem mM_X4_202 : Cond.methodLink RX4 202 yX4_isReadyForQuay ∈ xT := xT_in (i := 1103) (by decide +kernel) (by decide +kernel)
theorem mI_X4_isReadyForQuay : Cond.instanceMethod yX4_isReadyForQuay ∈ xT := xT_in (i := 1105) (by decide +kernel) (by decide +kernel)
theorem mC_X4_isReadyForQuay : Cond.code yX4_isReadyForQuay cX4_isReadyForQuay 2 (some .boolean) ∈ xT := xT_in (i := 1106) (by decide +kernel) (by decide +kernel)
theorem mM_X7_183 : Cond.methodLink RX7 183 yX4_chestsAt ∈ xT := xT_in (i := 1107) (by decide +kernel) (by decide +kernel)
theorem mI_X4_chestsAt : Cond.instanceMethod yX4_chestsAt ∈ xT := xT_in (i := 1108) (by decide +kernel) (by decide +kernel)
theorem mV_X4_chestsAt : Cond.selects RX4 yX4_chestsAt yX4_chestsAt ∈ xT := xT_in (i := 1109) (by decide +kernel) (by decide +kernel)
theorem mC_X4_chestsAt : Cond.code yX4_chestsAt cX4_chestsAt 7 (some .int) ∈ xT := xT_in (i := 1110) (by decide +kernel) (by decide +kernel)
theorem mM_L_180 : Cond.methodLink RL 180 yL_load ∈ xT := xT_in (i := 1111) (by decide +kernel) (by decide +kernel)
theorem mS_L_load : Cond.static yL_load ∈ xT := xT_in (i := 1112) (by decide +kernel) (by decide +kernel)
theorem mC_L_load : Cond.codeWith yL_load cL_load 4 (some .int) [((0), (9), (12), (13)), ((0), (9), (15), (17))] ∈ xT := xT_in (i := 1113) (by decide +kernel) (by decide +kernel)
theorem mM_L_69 : Cond.methodLink RL 69 yX7_load ∈ xT := xT_in (i := 1114) (by decide +kernel) (by decide +kernel)
theorem mI_X7_load : Cond.instanceMethod yX7_load ∈ xT := xT_in (i := 1115) (by decide +kernel) (by decide +kernel)
theorem mV_X7_load : Cond.selects RX7 yX7_load yX7_load ∈ xT := xT_in (i := 1116) (by decide +kernel) (by decide +kernel)
theorem mC_X7_load : Cond.code yX7_load cX7_load 3 (some .int) ∈ xT := xT_in (i := 1117) (by decide +kernel) (by decide +kernel)
theorem mM_X7_186 : Cond.methodLink RX7 186 yX4_tryLoad ∈ xT := xT_in (i := 1118) (by decide +kernel) (by decide +kernel)
theorem mI_X4_tryLoad : Cond.instanceMethod yX4_tryLoad ∈ xT := xT_in (i := 1119) (by decide +kernel) (by decide +kernel)
theorem mV_X4_tryLoad : Cond.selects RX4 yX4_tryLoad yX4_tryLoad ∈ xT := xT_in (i := 1120) (by decide +kernel) (by decide +kernel)
theorem mC_X4_tryLoad : Cond.code yX4_tryLoad cX4_tryLoad 2 (some .boolean) ∈ xT := xT_in (i := 1121) (by decide +kernel) (by decide +kernel)
theorem mM_X4_205 : Cond.methodLink RX4 205 yX4_isOnQuay ∈ xT := xT_in (i := 1122) (by decide +kernel) (by decide +kernel)
theorem mI_X4_isOnQuay : Cond.instanceMethod yX4_isOnQuay ∈ xT := xT_in (i := 1124) (by decide +kernel) (by decide +kernel)
theorem mC_X4_isOnQuay : Cond.code yX4_isOnQuay cX4_isOnQuay 2 (some .boolean) ∈ xT := xT_in (i := 1125) (by decide +kernel) (by decide +kernel)
theorem mM_X4_208 : Cond.methodLink RX4 208 yX4_isShipReached ∈ xT := xT_in (i := 1126) (by decide +kernel) (by decide +kernel)
theorem mI_X4_isShipReached : Cond.instanceMethod yX4_isShipReached ∈ xT := xT_in (i := 1128) (by decide +kernel) (by decide +kernel)
theorem mC_X4_isShipReached : Cond.code yX4_isShipReached cX4_isShipReached 1 (some .boolean) ∈ xT := xT_in (i := 1129) (by decide +kernel) (by decide +kernel)
theorem mM_X4_133 : Cond.methodLink RX4 133 yX4_heightIn ∈ xT := xT_in (i := 1130) (by decide +kernel) (by decide +kernel)
theorem mM_X4_211 : Cond.methodLink RX4 211 yX4_hasShipRoom ∈ xT := xT_in (i := 1131) (by decide +kernel) (by decide +kernel)
theorem mI_X4_hasShipRoom : Cond.instanceMethod yX4_hasShipRoom ∈ xT := xT_in (i := 1133) (by decide +kernel) (by decide +kernel)
theorem mC_X4_hasShipRoom : Cond.code yX4_hasShipRoom cX4_hasShipRoom 2 (some .boolean) ∈ xT := xT_in (i := 1134) (by decide +kernel) (by decide +kernel)
theorem mM_X4_136 : Cond.methodLink RX4 136 yX4_shipRoom ∈ xT := xT_in (i := 1135) (by decide +kernel) (by decide +kernel)
theorem mI_X4_shipRoom : Cond.instanceMethod yX4_shipRoom ∈ xT := xT_in (i := 1136) (by decide +kernel) (by decide +kernel)
theorem mV_X4_shipRoom : Cond.selects RX4 yX4_shipRoom yX4_shipRoom ∈ xT := xT_in (i := 1137) (by decide +kernel) (by decide +kernel)
theorem mC_X4_shipRoom : Cond.code yX4_shipRoom cX4_shipRoom 6 (some .int) ∈ xT := xT_in (i := 1138) (by decide +kernel) (by decide +kernel)
theorem mM_X7_189 : Cond.methodLink RX7 189 yX4_shipRoom ∈ xT := xT_in (i := 1139) (by decide +kernel) (by decide +kernel)
theorem mM_L_183 : Cond.methodLink RL 183 yL_sail ∈ xT := xT_in (i := 1140) (by decide +kernel) (by decide +kernel)
theorem mS_L_sail : Cond.static yL_sail ∈ xT := xT_in (i := 1141) (by decide +kernel) (by decide +kernel)
theorem mC_L_sail : Cond.codeWith yL_sail cL_sail 3 (some .int) [((0), (8), (11), (17))] ∈ xT := xT_in (i := 1142) (by decide +kernel) (by decide +kernel)
theorem mM_L_72 : Cond.methodLink RL 72 yX7_sail ∈ xT := xT_in (i := 1143) (by decide +kernel) (by decide +kernel)
theorem mI_X7_sail : Cond.instanceMethod yX7_sail ∈ xT := xT_in (i := 1144) (by decide +kernel) (by decide +kernel)
theorem mV_X7_sail : Cond.selects RX7 yX7_sail yX7_sail ∈ xT := xT_in (i := 1145) (by decide +kernel) (by decide +kernel)
theorem mC_X7_sail : Cond.code yX7_sail cX7_sail 2 (some .int) ∈ xT := xT_in (i := 1146) (by decide +kernel) (by decide +kernel)
theorem mM_X7_195 : Cond.methodLink RX7 195 yX4_trySail ∈ xT := xT_in (i := 1147) (by decide +kernel) (by decide +kernel)
theorem mI_X4_trySail : Cond.instanceMethod yX4_trySail ∈ xT := xT_in (i := 1148) (by decide +kernel) (by decide +kernel)
theorem mV_X4_trySail : Cond.selects RX4 yX4_trySail yX4_trySail ∈ xT := xT_in (i := 1149) (by decide +kernel) (by decide +kernel)
theorem mC_X4_trySail : Cond.code yX4_trySail cX4_trySail 5 (some .boolean) ∈ xT := xT_in (i := 1150) (by decide +kernel) (by decide +kernel)
theorem mM_X4_214 : Cond.methodLink RX4 214 yX4_isShipLoaded ∈ xT := xT_in (i := 1151) (by decide +kernel) (by decide +kernel)
theorem mI_X4_isShipLoaded : Cond.instanceMethod yX4_isShipLoaded ∈ xT := xT_in (i := 1153) (by decide +kernel) (by decide +kernel)
theorem mC_X4_isShipLoaded : Cond.code yX4_isShipLoaded cX4_isShipLoaded 1 (some .boolean) ∈ xT := xT_in (i := 1154) (by decide +kernel) (by decide +kernel)
theorem mM_X4_139 : Cond.methodLink RX4 139 yX4_chestsAt ∈ xT := xT_in (i := 1155) (by decide +kernel) (by decide +kernel)
theorem mM_X4_217 : Cond.methodLink RX4 217 yX4_shipCoins ∈ xT := xT_in (i := 1156) (by decide +kernel) (by decide +kernel)
theorem mM_L_191 : Cond.methodLink RL 191 yL_height ∈ xT := xT_in (i := 1157) (by decide +kernel) (by decide +kernel)
theorem mS_L_height : Cond.static yL_height ∈ xT := xT_in (i := 1158) (by decide +kernel) (by decide +kernel)
theorem mC_L_height : Cond.codeWith yL_height cL_height 4 (some .int) [((0), (9), (12), (15))] ∈ xT := xT_in (i := 1159) (by decide +kernel) (by decide +kernel)
theorem mM_L_76 : Cond.methodLink RL 76 yX7_height ∈ xT := xT_in (i := 1160) (by decide +kernel) (by decide +kernel)
theorem mI_X7_height : Cond.instanceMethod yX7_height ∈ xT := xT_in (i := 1161) (by decide +kernel) (by decide +kernel)
theorem mV_X7_height : Cond.selects RX7 yX7_height yX7_height ∈ xT := xT_in (i := 1162) (by decide +kernel) (by decide +kernel)
theorem mC_X7_height : Cond.code yX7_height cX7_height 2 (some .int) ∈ xT := xT_in (i := 1163) (by decide +kernel) (by decide +kernel)
theorem mM_L_194 : Cond.methodLink RL 194 yL_heightAgain ∈ xT := xT_in (i := 1164) (by decide +kernel) (by decide +kernel)
theorem mS_L_heightAgain : Cond.static yL_heightAgain ∈ xT := xT_in (i := 1165) (by decide +kernel) (by decide +kernel)
theorem mC_L_heightAgain : Cond.codeWith yL_heightAgain cL_heightAgain 4 (some .int) [((0), (9), (12), (15))] ∈ xT := xT_in (i := 1166) (by decide +kernel) (by decide +kernel)
theorem mM_L_79 : Cond.methodLink RL 79 yX7_heightAgain ∈ xT := xT_in (i := 1167) (by decide +kernel) (by decide +kernel)
theorem mI_X7_heightAgain : Cond.instanceMethod yX7_heightAgain ∈ xT := xT_in (i := 1168) (by decide +kernel) (by decide +kernel)
theorem mV_X7_heightAgain : Cond.selects RX7 yX7_heightAgain yX7_heightAgain ∈ xT := xT_in (i := 1169) (by decide +kernel) (by decide +kernel)
theorem mC_X7_heightAgain : Cond.code yX7_heightAgain cX7_heightAgain 6 (some .int) ∈ xT := xT_in (i := 1170) (by decide +kernel) (by decide +kernel)
theorem mM_L_201 : Cond.methodLink RL 201 yL_setHumidity ∈ xT := xT_in (i := 1171) (by decide +kernel) (by decide +kernel)
theorem mS_L_setHumidity : Cond.static yL_setHumidity ∈ xT := xT_in (i := 1172) (by decide +kernel) (by decide +kernel)
theorem mC_L_setHumidity : Cond.codeWith yL_setHumidity cL_setHumidity 4 (some .int) [((0), (9), (12), (15))] ∈ xT := xT_in (i := 1173) (by decide +kernel) (by decide +kernel)
theorem mM_L_82 : Cond.methodLink RL 82 yX7_setHumidity ∈ xT := xT_in (i := 1174) (by decide +kernel) (by decide +kernel)
theorem mI_X7_setHumidity : Cond.instanceMethod yX7_setHumidity ∈ xT := xT_in (i := 1175) (by decide +kernel) (by decide +kernel)
theorem mV_X7_setHumidity : Cond.selects RX7 yX7_setHumidity yX7_setHumidity ∈ xT := xT_in (i := 1176) (by decide +kernel) (by decide +kernel)
theorem mC_X7_setHumidity : Cond.code yX7_setHumidity cX7_setHumidity 3 (some .int) ∈ xT := xT_in (i := 1177) (by decide +kernel) (by decide +kernel)
theorem mM_L_204 : Cond.methodLink RL 204 yL_pass ∈ xT := xT_in (i := 1178) (by decide +kernel) (by decide +kernel)
theorem mS_L_pass : Cond.static yL_pass ∈ xT := xT_in (i := 1179) (by decide +kernel) (by decide +kernel)
theorem mC_L_pass : Cond.codeWith yL_pass cL_pass 4 (some .int) [((0), (9), (12), (15))] ∈ xT := xT_in (i := 1180) (by decide +kernel) (by decide +kernel)
theorem mM_L_85 : Cond.methodLink RL 85 yX7_pass ∈ xT := xT_in (i := 1181) (by decide +kernel) (by decide +kernel)
theorem mI_X7_pass : Cond.instanceMethod yX7_pass ∈ xT := xT_in (i := 1182) (by decide +kernel) (by decide +kernel)
theorem mV_X7_pass : Cond.selects RX7 yX7_pass yX7_pass ∈ xT := xT_in (i := 1183) (by decide +kernel) (by decide +kernel)
theorem mC_X7_pass : Cond.code yX7_pass cX7_pass 2 (some .int) ∈ xT := xT_in (i := 1184) (by decide +kernel) (by decide +kernel)
theorem mM_X7_207 : Cond.methodLink RX7 207 yX4_letPass ∈ xT := xT_in (i := 1185) (by decide +kernel) (by decide +kernel)
theorem mI_X4_letPass : Cond.instanceMethod yX4_letPass ∈ xT := xT_in (i := 1186) (by decide +kernel) (by decide +kernel)
theorem mV_X4_letPass : Cond.selects RX4 yX4_letPass yX4_letPass ∈ xT := xT_in (i := 1187) (by decide +kernel) (by decide +kernel)
theorem mC_X4_letPass : Cond.code yX4_letPass cX4_letPass 3 (some .boolean) ∈ xT := xT_in (i := 1188) (by decide +kernel) (by decide +kernel)
theorem mM_X4_225 : Cond.methodLink RX4 225 yX4_letDampIn ∈ xT := xT_in (i := 1189) (by decide +kernel) (by decide +kernel)
theorem mI_X4_letDampIn : Cond.instanceMethod yX4_letDampIn ∈ xT := xT_in (i := 1191) (by decide +kernel) (by decide +kernel)
theorem mC_X4_letDampIn : Cond.code yX4_letDampIn cX4_letDampIn 5 none ∈ xT := xT_in (i := 1192) (by decide +kernel) (by decide +kernel)
theorem mM_X4_228 : Cond.methodLink RX4 228 yX1_becomeDamper ∈ xT := xT_in (i := 1193) (by decide +kernel) (by decide +kernel)
theorem mI_X1_becomeDamper : Cond.instanceMethod yX1_becomeDamper ∈ xT := xT_in (i := 1194) (by decide +kernel) (by decide +kernel)
theorem mV_X1_becomeDamper : Cond.selects RX1 yX1_becomeDamper yX1_becomeDamper ∈ xT := xT_in (i := 1195) (by decide +kernel) (by decide +kernel)
theorem mC_X1_becomeDamper : Cond.code yX1_becomeDamper cX1_becomeDamper 1 none ∈ xT := xT_in (i := 1196) (by decide +kernel) (by decide +kernel)
theorem mM_X1_80 : Cond.methodLink RX1 80 yX1_isTight ∈ xT := xT_in (i := 1197) (by decide +kernel) (by decide +kernel)
theorem mM_L_212 : Cond.methodLink RL 212 yL_meanDamp ∈ xT := xT_in (i := 1198) (by decide +kernel) (by decide +kernel)
theorem mS_L_meanDamp : Cond.static yL_meanDamp ∈ xT := xT_in (i := 1199) (by decide +kernel) (by decide +kernel)
theorem mC_L_meanDamp : Cond.codeWith yL_meanDamp cL_meanDamp 3 (some .int) [((0), (7), (10), (92))] ∈ xT := xT_in (i := 1200) (by decide +kernel) (by decide +kernel)
theorem mK_L_92 : Cond.classLink RL 92 "java/lang/ArithmeticException" ∈ xT := xT_in (i := 1201) (by decide +kernel) (by decide +kernel)
theorem mA_ArithmeticException : Cond.instantiable "java/lang/ArithmeticException" 6 ∈ xT := xT_in (i := 1202) (by decide +kernel) (by decide +kernel)
theorem mI_ArithmeticException_init_S : Cond.instanceMethod ⟨"java/lang/ArithmeticException", "<init>", "(Ljava/lang/String;)V"⟩ ∈ xT := xT_in (i := 1203) (by decide +kernel) (by decide +kernel)
theorem mC_ArithmeticException_init_S : Cond.code ⟨"java/lang/ArithmeticException", "<init>", "(Ljava/lang/String;)V"⟩ prog_14_method_2_code 2 none ∈ xT := xT_in (i := 1204) (by decide +kernel) (by decide +kernel)
theorem mM_ArithmeticException_7 : Cond.methodLink "java/lang/ArithmeticException" 7 ⟨"java/lang/RuntimeException", "<init>", "(Ljava/lang/String;)V"⟩ ∈ xT := xT_in (i := 1205) (by decide +kernel) (by decide +kernel)
theorem mL_ArithmeticException_Throwable_backtrace : Cond.lays "java/lang/ArithmeticException" "java/lang/Throwable" "backtrace" "Ljava/lang/Object;" ∈ xT := xT_in (i := 1206) (by decide +kernel) (by decide +kernel)
theorem mL_ArithmeticException_Throwable_detailMessage : Cond.lays "java/lang/ArithmeticException" "java/lang/Throwable" "detailMessage" "Ljava/lang/String;" ∈ xT := xT_in (i := 1207) (by decide +kernel) (by decide +kernel)
theorem mL_ArithmeticException_Throwable_cause : Cond.lays "java/lang/ArithmeticException" "java/lang/Throwable" "cause" "Ljava/lang/Throwable;" ∈ xT := xT_in (i := 1208) (by decide +kernel) (by decide +kernel)
theorem mL_ArithmeticException_Throwable_stackTrace : Cond.lays "java/lang/ArithmeticException" "java/lang/Throwable" "stackTrace" "[Ljava/lang/StackTraceElement;" ∈ xT := xT_in (i := 1209) (by decide +kernel) (by decide +kernel)
theorem mL_ArithmeticException_Throwable_depth : Cond.lays "java/lang/ArithmeticException" "java/lang/Throwable" "depth" "I" ∈ xT := xT_in (i := 1210) (by decide +kernel) (by decide +kernel)
theorem mL_ArithmeticException_Throwable_suppressedExceptions : Cond.lays "java/lang/ArithmeticException" "java/lang/Throwable" "suppressedExceptions" "Ljava/util/List;" ∈ xT := xT_in (i := 1211) (by decide +kernel) (by decide +kernel)
theorem mU_ArithmeticException_RuntimeException : Cond.superclass "java/lang/ArithmeticException" "java/lang/RuntimeException" ∈ xT := xT_in (i := 1212) (by decide +kernel) (by decide +kernel)
theorem mM_L_88 : Cond.methodLink RL 88 yX7_meanDamp ∈ xT := xT_in (i := 1215) (by decide +kernel) (by decide +kernel)
theorem mI_X7_meanDamp : Cond.instanceMethod yX7_meanDamp ∈ xT := xT_in (i := 1216) (by decide +kernel) (by decide +kernel)
theorem mV_X7_meanDamp : Cond.selects RX7 yX7_meanDamp yX7_meanDamp ∈ xT := xT_in (i := 1217) (by decide +kernel) (by decide +kernel)
theorem mC_X7_meanDamp : Cond.code yX7_meanDamp cX7_meanDamp 2 (some .double) ∈ xT := xT_in (i := 1218) (by decide +kernel) (by decide +kernel)
theorem mM_X7_228 : Cond.methodLink RX7 228 yX4_filledChests ∈ xT := xT_in (i := 1219) (by decide +kernel) (by decide +kernel)
theorem mI_X4_filledChests : Cond.instanceMethod yX4_filledChests ∈ xT := xT_in (i := 1220) (by decide +kernel) (by decide +kernel)
theorem mV_X4_filledChests : Cond.selects RX4 yX4_filledChests yX4_filledChests ∈ xT := xT_in (i := 1221) (by decide +kernel) (by decide +kernel)
theorem mC_X4_filledChests : Cond.code yX4_filledChests cX4_filledChests 6 (some .int) ∈ xT := xT_in (i := 1222) (by decide +kernel) (by decide +kernel)
theorem mK_X7_231 : Cond.classLink RX7 231 "java/lang/ArithmeticException" ∈ xT := xT_in (i := 1223) (by decide +kernel) (by decide +kernel)
theorem mM_X7_235 : Cond.methodLink RX7 235 ⟨"java/lang/ArithmeticException", "<init>", "(Ljava/lang/String;)V"⟩ ∈ xT := xT_in (i := 1225) (by decide +kernel) (by decide +kernel)
theorem mM_X7_236 : Cond.methodLink RX7 236 yX4_sumOfDamp ∈ xT := xT_in (i := 1226) (by decide +kernel) (by decide +kernel)
theorem mI_X4_sumOfDamp : Cond.instanceMethod yX4_sumOfDamp ∈ xT := xT_in (i := 1227) (by decide +kernel) (by decide +kernel)
theorem mV_X4_sumOfDamp : Cond.selects RX4 yX4_sumOfDamp yX4_sumOfDamp ∈ xT := xT_in (i := 1228) (by decide +kernel) (by decide +kernel)
theorem mC_X4_sumOfDamp : Cond.code yX4_sumOfDamp cX4_sumOfDamp 6 (some .int) ∈ xT := xT_in (i := 1229) (by decide +kernel) (by decide +kernel)
theorem mM_L_216 : Cond.methodLink RL 216 yL_sailedShare ∈ xT := xT_in (i := 1230) (by decide +kernel) (by decide +kernel)
theorem mS_L_sailedShare : Cond.static yL_sailedShare ∈ xT := xT_in (i := 1231) (by decide +kernel) (by decide +kernel)
theorem mC_L_sailedShare : Cond.codeWith yL_sailedShare cL_sailedShare 3 (some .int) [((0), (8), (11), (92))] ∈ xT := xT_in (i := 1232) (by decide +kernel) (by decide +kernel)
theorem mM_L_94 : Cond.methodLink RL 94 yX7_sailedShare ∈ xT := xT_in (i := 1233) (by decide +kernel) (by decide +kernel)
theorem mI_X7_sailedShare : Cond.instanceMethod yX7_sailedShare ∈ xT := xT_in (i := 1234) (by decide +kernel) (by decide +kernel)
theorem mV_X7_sailedShare : Cond.selects RX7 yX7_sailedShare yX7_sailedShare ∈ xT := xT_in (i := 1235) (by decide +kernel) (by decide +kernel)
theorem mC_X7_sailedShare : Cond.code yX7_sailedShare cX7_sailedShare 1 (some .float) ∈ xT := xT_in (i := 1236) (by decide +kernel) (by decide +kernel)
theorem mM_L_219 : Cond.methodLink RL 219 yL_reason ∈ xT := xT_in (i := 1238) (by decide +kernel) (by decide +kernel)
theorem mS_L_reason : Cond.static yL_reason ∈ xT := xT_in (i := 1239) (by decide +kernel) (by decide +kernel)
theorem mC_L_reason : Cond.codeWith yL_reason cL_reason 4 (some .int) [((0), (9), (12), (55))] ∈ xT := xT_in (i := 1240) (by decide +kernel) (by decide +kernel)
theorem mM_L_98 : Cond.methodLink RL 98 yX7_reason ∈ xT := xT_in (i := 1241) (by decide +kernel) (by decide +kernel)
theorem mI_X7_reason : Cond.instanceMethod yX7_reason ∈ xT := xT_in (i := 1242) (by decide +kernel) (by decide +kernel)
theorem mV_X7_reason : Cond.selects RX7 yX7_reason yX7_reason ∈ xT := xT_in (i := 1243) (by decide +kernel) (by decide +kernel)
theorem mC_X7_reason : Cond.code yX7_reason cX7_reason 2 (some .int) ∈ xT := xT_in (i := 1244) (by decide +kernel) (by decide +kernel)
theorem mM_L_223 : Cond.methodLink RL 223 yL_account ∈ xT := xT_in (i := 1246) (by decide +kernel) (by decide +kernel)
theorem mS_L_account : Cond.static yL_account ∈ xT := xT_in (i := 1247) (by decide +kernel) (by decide +kernel)
theorem mC_L_account : Cond.codeWith yL_account cL_account 4 (some .int) [((0), (9), (12), (15))] ∈ xT := xT_in (i := 1248) (by decide +kernel) (by decide +kernel)
theorem mM_L_102 : Cond.methodLink RL 102 yX7_account ∈ xT := xT_in (i := 1249) (by decide +kernel) (by decide +kernel)
theorem mI_X7_account : Cond.instanceMethod yX7_account ∈ xT := xT_in (i := 1250) (by decide +kernel) (by decide +kernel)
theorem mV_X7_account : Cond.selects RX7 yX7_account yX7_account ∈ xT := xT_in (i := 1251) (by decide +kernel) (by decide +kernel)
theorem mC_X7_account : Cond.code yX7_account cX7_account 2 (some .int) ∈ xT := xT_in (i := 1252) (by decide +kernel) (by decide +kernel)
theorem mM_L_226 : Cond.methodLink RL 226 yL_feed ∈ xT := xT_in (i := 1254) (by decide +kernel) (by decide +kernel)
theorem mS_L_feed : Cond.static yL_feed ∈ xT := xT_in (i := 1255) (by decide +kernel) (by decide +kernel)
theorem mC_L_feed : Cond.codeWith yL_feed cL_feed 4 (some .int) [((0), (9), (12), (109))] ∈ xT := xT_in (i := 1256) (by decide +kernel) (by decide +kernel)
theorem mK_L_109 : Cond.classLink RL 109 "java/lang/IllegalStateException" ∈ xT := xT_in (i := 1257) (by decide +kernel) (by decide +kernel)
theorem mM_L_105 : Cond.methodLink RL 105 yX7_feed ∈ xT := xT_in (i := 1258) (by decide +kernel) (by decide +kernel)
theorem mI_X7_feed : Cond.instanceMethod yX7_feed ∈ xT := xT_in (i := 1259) (by decide +kernel) (by decide +kernel)
theorem mV_X7_feed : Cond.selects RX7 yX7_feed yX7_feed ∈ xT := xT_in (i := 1260) (by decide +kernel) (by decide +kernel)
theorem mC_X7_feed : Cond.code yX7_feed cX7_feed 2 (some .int) ∈ xT := xT_in (i := 1261) (by decide +kernel) (by decide +kernel)
theorem mM_X7_261 : Cond.methodLink RX7 261 yX2_append ∈ xT := xT_in (i := 1262) (by decide +kernel) (by decide +kernel)
theorem mI_X2_append : Cond.instanceMethod yX2_append ∈ xT := xT_in (i := 1263) (by decide +kernel) (by decide +kernel)
theorem mV_X2_append : Cond.selects RX2 yX2_append yX2_append ∈ xT := xT_in (i := 1264) (by decide +kernel) (by decide +kernel)
theorem mC_X2_append : Cond.code yX2_append cX2_append 2 (some .boolean) ∈ xT := xT_in (i := 1265) (by decide +kernel) (by decide +kernel)
theorem mK_X7_265 : Cond.classLink RX7 265 "java/lang/IllegalStateException" ∈ xT := xT_in (i := 1266) (by decide +kernel) (by decide +kernel)
theorem mA_IllegalStateException : Cond.instantiable "java/lang/IllegalStateException" 6 ∈ xT := xT_in (i := 1267) (by decide +kernel) (by decide +kernel)
theorem mL_IllegalStateException_Throwable_cause : Cond.lays "java/lang/IllegalStateException" "java/lang/Throwable" "cause" "Ljava/lang/Throwable;" ∈ xT := xT_in (i := 1270) (by decide +kernel) (by decide +kernel)
theorem mL_IllegalStateException_Throwable_stackTrace : Cond.lays "java/lang/IllegalStateException" "java/lang/Throwable" "stackTrace" "[Ljava/lang/StackTraceElement;" ∈ xT := xT_in (i := 1271) (by decide +kernel) (by decide +kernel)
theorem mL_IllegalStateException_Throwable_suppressedExceptions : Cond.lays "java/lang/IllegalStateException" "java/lang/Throwable" "suppressedExceptions" "Ljava/util/List;" ∈ xT := xT_in (i := 1272) (by decide +kernel) (by decide +kernel)
theorem mL_IllegalStateException_Throwable_detailMessage : Cond.lays "java/lang/IllegalStateException" "java/lang/Throwable" "detailMessage" "Ljava/lang/String;" ∈ xT := xT_in (i := 1273) (by decide +kernel) (by decide +kernel)
theorem mL_IllegalStateException_Throwable_backtrace : Cond.lays "java/lang/IllegalStateException" "java/lang/Throwable" "backtrace" "Ljava/lang/Object;" ∈ xT := xT_in (i := 1274) (by decide +kernel) (by decide +kernel)
theorem mM_X7_269 : Cond.methodLink RX7 269 ⟨"java/lang/IllegalStateException", "<init>", "(Ljava/lang/String;)V"⟩ ∈ xT := xT_in (i := 1276) (by decide +kernel) (by decide +kernel)
theorem mI_IllegalStateException_init_S : Cond.instanceMethod ⟨"java/lang/IllegalStateException", "<init>", "(Ljava/lang/String;)V"⟩ ∈ xT := xT_in (i := 1277) (by decide +kernel) (by decide +kernel)
theorem mC_IllegalStateException_init_S : Cond.code ⟨"java/lang/IllegalStateException", "<init>", "(Ljava/lang/String;)V"⟩ prog_22_method_2_code 2 none ∈ xT := xT_in (i := 1278) (by decide +kernel) (by decide +kernel)
theorem mM_IllegalStateException_7 : Cond.methodLink "java/lang/IllegalStateException" 7 ⟨"java/lang/RuntimeException", "<init>", "(Ljava/lang/String;)V"⟩ ∈ xT := xT_in (i := 1279) (by decide +kernel) (by decide +kernel)
theorem mL_IllegalStateException_Throwable_depth : Cond.lays "java/lang/IllegalStateException" "java/lang/Throwable" "depth" "I" ∈ xT := xT_in (i := 1280) (by decide +kernel) (by decide +kernel)
theorem mU_IllegalStateException_RuntimeException : Cond.superclass "java/lang/IllegalStateException" "java/lang/RuntimeException" ∈ xT := xT_in (i := 1281) (by decide +kernel) (by decide +kernel)
theorem mM_L_233 : Cond.methodLink RL 233 yL_perform ∈ xT := xT_in (i := 1282) (by decide +kernel) (by decide +kernel)
theorem mS_L_perform : Cond.static yL_perform ∈ xT := xT_in (i := 1283) (by decide +kernel) (by decide +kernel)
theorem mC_L_perform : Cond.codeWith yL_perform cL_perform 3 (some .int) [((0), (8), (11), (17))] ∈ xT := xT_in (i := 1284) (by decide +kernel) (by decide +kernel)
theorem mM_L_111 : Cond.methodLink RL 111 yX7_perform ∈ xT := xT_in (i := 1285) (by decide +kernel) (by decide +kernel)
theorem mI_X7_perform : Cond.instanceMethod yX7_perform ∈ xT := xT_in (i := 1286) (by decide +kernel) (by decide +kernel)
theorem mV_X7_perform : Cond.selects RX7 yX7_perform yX7_perform ∈ xT := xT_in (i := 1287) (by decide +kernel) (by decide +kernel)
theorem mC_X7_perform : Cond.code yX7_perform cX7_perform 3 (some .int) ∈ xT := xT_in (i := 1288) (by decide +kernel) (by decide +kernel)
theorem mM_X7_270 : Cond.methodLink RX7 270 yX2_countCommands ∈ xT := xT_in (i := 1289) (by decide +kernel) (by decide +kernel)
theorem mI_X2_countCommands : Cond.instanceMethod yX2_countCommands ∈ xT := xT_in (i := 1290) (by decide +kernel) (by decide +kernel)
theorem mV_X2_countCommands : Cond.selects RX2 yX2_countCommands yX2_countCommands ∈ xT := xT_in (i := 1291) (by decide +kernel) (by decide +kernel)
theorem mC_X2_countCommands : Cond.code yX2_countCommands cX2_countCommands 2 (some .int) ∈ xT := xT_in (i := 1292) (by decide +kernel) (by decide +kernel)
theorem mM_X2_22 : Cond.methodLink RX2 22 yX2_rewind ∈ xT := xT_in (i := 1293) (by decide +kernel) (by decide +kernel)
theorem mI_X2_rewind : Cond.instanceMethod yX2_rewind ∈ xT := xT_in (i := 1294) (by decide +kernel) (by decide +kernel)
theorem mV_X2_rewind : Cond.selects RX2 yX2_rewind yX2_rewind ∈ xT := xT_in (i := 1295) (by decide +kernel) (by decide +kernel)
theorem mC_X2_rewind : Cond.code yX2_rewind cX2_rewind 1 none ∈ xT := xT_in (i := 1296) (by decide +kernel) (by decide +kernel)
theorem mM_X2_25 : Cond.methodLink RX2 25 yX2_readCommand ∈ xT := xT_in (i := 1297) (by decide +kernel) (by decide +kernel)
theorem mI_X2_readCommand : Cond.instanceMethod yX2_readCommand ∈ xT := xT_in (i := 1298) (by decide +kernel) (by decide +kernel)
theorem mV_X2_readCommand : Cond.selects RX2 yX2_readCommand yX2_readCommand ∈ xT := xT_in (i := 1299) (by decide +kernel) (by decide +kernel)
theorem mC_X2_readCommand : Cond.code yX2_readCommand cX2_readCommand 1 (some .boolean) ∈ xT := xT_in (i := 1300) (by decide +kernel) (by decide +kernel)
theorem mM_X2_33 : Cond.methodLink RX2 33 yX2_readVerb ∈ xT := xT_in (i := 1301) (by decide +kernel) (by decide +kernel)
theorem mI_X2_readVerb : Cond.instanceMethod yX2_readVerb ∈ xT := xT_in (i := 1303) (by decide +kernel) (by decide +kernel)
theorem mC_X2_readVerb : Cond.code yX2_readVerb cX2_readVerb 5 (some (.object "TeaChests$Verb")) ∈ xT := xT_in (i := 1304) (by decide +kernel) (by decide +kernel)
theorem mM_X2_98 : Cond.methodLink RX2 98 yX2_readWord ∈ xT := xT_in (i := 1307) (by decide +kernel) (by decide +kernel)
theorem mI_X2_readWord : Cond.instanceMethod yX2_readWord ∈ xT := xT_in (i := 1309) (by decide +kernel) (by decide +kernel)
theorem mC_X2_readWord : Cond.code yX2_readWord cX2_readWord 3 (some .boolean) ∈ xT := xT_in (i := 1310) (by decide +kernel) (by decide +kernel)
theorem mM_X2_112 : Cond.methodLink RX2 112 yJ0_length_8abf5 ∈ xT := xT_in (i := 1311) (by decide +kernel) (by decide +kernel)
theorem mM_X2_65 : Cond.methodLink RX2 65 yX2_signAt ∈ xT := xT_in (i := 1312) (by decide +kernel) (by decide +kernel)
theorem mI_X2_signAt : Cond.instanceMethod yX2_signAt ∈ xT := xT_in (i := 1314) (by decide +kernel) (by decide +kernel)
theorem mC_X2_signAt : Cond.code yX2_signAt cX2_signAt 2 (some .int) ∈ xT := xT_in (i := 1315) (by decide +kernel) (by decide +kernel)
theorem mM_X2_116 : Cond.methodLink RX2 116 yJ0_charAt_5068e ∈ xT := xT_in (i := 1316) (by decide +kernel) (by decide +kernel)
theorem mM_X2_120 : Cond.methodLink RX2 120 Lib.Math.max.name ∈ xT := xT_in (i := 1317) (by decide +kernel) (by decide +kernel)
theorem mF_X2_41 : Cond.fieldLink RX2 41 "TeaChests$1" "$SwitchMap$TeaChests$Verb" "[I" ∈ xT := xT_in (i := 1318) (by decide +kernel) (by decide +kernel)
theorem mM_X2_47 : Cond.methodLink RX2 47 ⟨RX6, "ordinal", "()I"⟩ ∈ xT := xT_in (i := 1320) (by decide +kernel) (by decide +kernel)
theorem mE_X6_Jx29ce0_ordinal_46096 : Cond.sameMethod RX6 RJx29ce0 "ordinal" "()I" ∈ xT := xT_in (i := 1321) (by decide +kernel) (by decide +kernel)
theorem mV_X6_TeaChests_Verb_ordinal_Jx29ce0_ordinal_8abf5 : Cond.selects RX6 ⟨RX6, "ordinal", "()I"⟩ yJx29ce0_ordinal_8abf5 ∈ xT := xT_in (i := 1323) (by decide +kernel) (by decide +kernel)
theorem mI_Jx29ce0_ordinal_8abf5 : Cond.instanceMethod yJx29ce0_ordinal_8abf5 ∈ xT := xT_in (i := 1324) (by decide +kernel) (by decide +kernel)
theorem mC_Jx29ce0_ordinal_8abf5 : Cond.code yJx29ce0_ordinal_8abf5 cJx29ce0_ordinal_8abf5 1 (some .int) ∈ xT := xT_in (i := 1325) (by decide +kernel) (by decide +kernel)
theorem mM_X2_53 : Cond.methodLink RX2 53 yX2_readManyAsNumber ∈ xT := xT_in (i := 1326) (by decide +kernel) (by decide +kernel)
theorem mI_X2_readManyAsNumber : Cond.instanceMethod yX2_readManyAsNumber ∈ xT := xT_in (i := 1328) (by decide +kernel) (by decide +kernel)
theorem mC_X2_readManyAsNumber : Cond.code yX2_readManyAsNumber cX2_readManyAsNumber 1 (some .boolean) ∈ xT := xT_in (i := 1329) (by decide +kernel) (by decide +kernel)
theorem mM_X2_78 : Cond.methodLink RX2 78 yX2_readNumber ∈ xT := xT_in (i := 1330) (by decide +kernel) (by decide +kernel)
theorem mI_X2_readNumber : Cond.instanceMethod yX2_readNumber ∈ xT := xT_in (i := 1332) (by decide +kernel) (by decide +kernel)
theorem mC_X2_readNumber : Cond.code yX2_readNumber cX2_readNumber 3 (some .int) ∈ xT := xT_in (i := 1333) (by decide +kernel) (by decide +kernel)
theorem mM_X2_69 : Cond.methodLink RX2 69 yX2_readDigit ∈ xT := xT_in (i := 1334) (by decide +kernel) (by decide +kernel)
theorem mI_X2_readDigit : Cond.instanceMethod yX2_readDigit ∈ xT := xT_in (i := 1336) (by decide +kernel) (by decide +kernel)
theorem mC_X2_readDigit : Cond.code yX2_readDigit cX2_readDigit 2 (some .int) ∈ xT := xT_in (i := 1337) (by decide +kernel) (by decide +kernel)
theorem mM_X2_56 : Cond.methodLink RX2 56 yX2_readChest ∈ xT := xT_in (i := 1338) (by decide +kernel) (by decide +kernel)
theorem mI_X2_readChest : Cond.instanceMethod yX2_readChest ∈ xT := xT_in (i := 1340) (by decide +kernel) (by decide +kernel)
theorem mC_X2_readChest : Cond.code yX2_readChest cX2_readChest 1 (some .boolean) ∈ xT := xT_in (i := 1341) (by decide +kernel) (by decide +kernel)
theorem mM_X2_29 : Cond.methodLink RX2 29 yX2_readSign ∈ xT := xT_in (i := 1342) (by decide +kernel) (by decide +kernel)
theorem mI_X2_readSign : Cond.instanceMethod yX2_readSign ∈ xT := xT_in (i := 1343) (by decide +kernel) (by decide +kernel)
theorem mV_X2_readSign : Cond.selects RX2 yX2_readSign yX2_readSign ∈ xT := xT_in (i := 1344) (by decide +kernel) (by decide +kernel)
theorem mC_X2_readSign : Cond.code yX2_readSign cX2_readSign 2 (some .boolean) ∈ xT := xT_in (i := 1345) (by decide +kernel) (by decide +kernel)
theorem mM_X2_59 : Cond.methodLink RX2 59 yX2_readLeaf ∈ xT := xT_in (i := 1346) (by decide +kernel) (by decide +kernel)
theorem mI_X2_readLeaf : Cond.instanceMethod yX2_readLeaf ∈ xT := xT_in (i := 1348) (by decide +kernel) (by decide +kernel)
theorem mC_X2_readLeaf : Cond.code yX2_readLeaf cX2_readLeaf 1 (some .boolean) ∈ xT := xT_in (i := 1349) (by decide +kernel) (by decide +kernel)
theorem mM_X2_75 : Cond.methodLink RX2 75 yX2_readKind ∈ xT := xT_in (i := 1350) (by decide +kernel) (by decide +kernel)
theorem mI_X2_readKind : Cond.instanceMethod yX2_readKind ∈ xT := xT_in (i := 1352) (by decide +kernel) (by decide +kernel)
theorem mC_X2_readKind : Cond.code yX2_readKind cX2_readKind 2 (some .boolean) ∈ xT := xT_in (i := 1353) (by decide +kernel) (by decide +kernel)
theorem mM_X2_62 : Cond.methodLink RX2 62 yX2_readManyAsDigit ∈ xT := xT_in (i := 1355) (by decide +kernel) (by decide +kernel)
theorem mI_X2_readManyAsDigit : Cond.instanceMethod yX2_readManyAsDigit ∈ xT := xT_in (i := 1357) (by decide +kernel) (by decide +kernel)
theorem mC_X2_readManyAsDigit : Cond.code yX2_readManyAsDigit cX2_readManyAsDigit 1 (some .boolean) ∈ xT := xT_in (i := 1358) (by decide +kernel) (by decide +kernel)
theorem mM_X7_273 : Cond.methodLink RX7 273 yX2_clear ∈ xT := xT_in (i := 1359) (by decide +kernel) (by decide +kernel)
theorem mI_X2_clear : Cond.instanceMethod yX2_clear ∈ xT := xT_in (i := 1360) (by decide +kernel) (by decide +kernel)
theorem mV_X2_clear : Cond.selects RX2 yX2_clear yX2_clear ∈ xT := xT_in (i := 1361) (by decide +kernel) (by decide +kernel)
theorem mC_X2_clear : Cond.code yX2_clear cX2_clear 1 none ∈ xT := xT_in (i := 1362) (by decide +kernel) (by decide +kernel)
theorem mM_X7_276 : Cond.methodLink RX7 276 yX7_carryOutAll ∈ xT := xT_in (i := 1363) (by decide +kernel) (by decide +kernel)
theorem mI_X7_carryOutAll : Cond.instanceMethod yX7_carryOutAll ∈ xT := xT_in (i := 1365) (by decide +kernel) (by decide +kernel)
theorem mC_X7_carryOutAll : Cond.code yX7_carryOutAll cX7_carryOutAll 3 (some .int) ∈ xT := xT_in (i := 1366) (by decide +kernel) (by decide +kernel)
theorem mM_X7_325 : Cond.methodLink RX7 325 yX2_rewind ∈ xT := xT_in (i := 1367) (by decide +kernel) (by decide +kernel)
theorem mM_X7_328 : Cond.methodLink RX7 328 yX2_readCommand ∈ xT := xT_in (i := 1368) (by decide +kernel) (by decide +kernel)
theorem mM_X7_331 : Cond.methodLink RX7 331 yX7_carryOutRead ∈ xT := xT_in (i := 1369) (by decide +kernel) (by decide +kernel)
theorem mI_X7_carryOutRead : Cond.instanceMethod yX7_carryOutRead ∈ xT := xT_in (i := 1371) (by decide +kernel) (by decide +kernel)
theorem mC_X7_carryOutRead : Cond.code yX7_carryOutRead cX7_carryOutRead 3 (some .boolean) ∈ xT := xT_in (i := 1372) (by decide +kernel) (by decide +kernel)
theorem mF_X7_341 : Cond.fieldLink RX7 341 "TeaChests$Verb" "SAIL" "LTeaChests$Verb;" ∈ xT := xT_in (i := 1373) (by decide +kernel) (by decide +kernel)
theorem mF_X7_346 : Cond.fieldLink RX7 346 "TeaChests$Verb" "HOURS" "LTeaChests$Verb;" ∈ xT := xT_in (i := 1375) (by decide +kernel) (by decide +kernel)
theorem mF_X7_355 : Cond.fieldLink RX7 355 "TeaChests$1" "$SwitchMap$TeaChests$Verb" "[I" ∈ xT := xT_in (i := 1377) (by decide +kernel) (by decide +kernel)
theorem mM_X7_361 : Cond.methodLink RX7 361 ⟨RX6, "ordinal", "()I"⟩ ∈ xT := xT_in (i := 1378) (by decide +kernel) (by decide +kernel)
theorem mM_X7_334 : Cond.methodLink RX7 334 yX2_readSign ∈ xT := xT_in (i := 1379) (by decide +kernel) (by decide +kernel)
theorem mM_X7_279 : Cond.methodLink RX7 279 yX3_dropPrepared ∈ xT := xT_in (i := 1380) (by decide +kernel) (by decide +kernel)
theorem mI_X3_dropPrepared : Cond.instanceMethod yX3_dropPrepared ∈ xT := xT_in (i := 1381) (by decide +kernel) (by decide +kernel)
theorem mV_X3_dropPrepared : Cond.selects RX3 yX3_dropPrepared yX3_dropPrepared ∈ xT := xT_in (i := 1382) (by decide +kernel) (by decide +kernel)
theorem mC_X3_dropPrepared : Cond.code yX3_dropPrepared cX3_dropPrepared 2 none ∈ xT := xT_in (i := 1383) (by decide +kernel) (by decide +kernel)
theorem mM_X7_282 : Cond.methodLink RX7 282 yX4_refuse ∈ xT := xT_in (i := 1384) (by decide +kernel) (by decide +kernel)
theorem mM_L_236 : Cond.methodLink RL 236 yL_undo ∈ xT := xT_in (i := 1385) (by decide +kernel) (by decide +kernel)
theorem mS_L_undo : Cond.static yL_undo ∈ xT := xT_in (i := 1386) (by decide +kernel) (by decide +kernel)
theorem mC_L_undo : Cond.codeWith yL_undo cL_undo 3 (some .int) [((0), (8), (11), (109))] ∈ xT := xT_in (i := 1387) (by decide +kernel) (by decide +kernel)
theorem mM_L_114 : Cond.methodLink RL 114 yX7_undo ∈ xT := xT_in (i := 1388) (by decide +kernel) (by decide +kernel)
theorem mI_X7_undo : Cond.instanceMethod yX7_undo ∈ xT := xT_in (i := 1389) (by decide +kernel) (by decide +kernel)
theorem mV_X7_undo : Cond.selects RX7 yX7_undo yX7_undo ∈ xT := xT_in (i := 1390) (by decide +kernel) (by decide +kernel)
theorem mC_X7_undo : Cond.code yX7_undo cX7_undo 1 (some .int) ∈ xT := xT_in (i := 1391) (by decide +kernel) (by decide +kernel)
theorem mM_X7_285 : Cond.methodLink RX7 285 yX3_takeBack ∈ xT := xT_in (i := 1392) (by decide +kernel) (by decide +kernel)
theorem mI_X3_takeBack : Cond.instanceMethod yX3_takeBack ∈ xT := xT_in (i := 1393) (by decide +kernel) (by decide +kernel)
theorem mV_X3_takeBack : Cond.selects RX3 yX3_takeBack yX3_takeBack ∈ xT := xT_in (i := 1394) (by decide +kernel) (by decide +kernel)
theorem mC_X3_takeBack : Cond.code yX3_takeBack cX3_takeBack 2 (some .boolean) ∈ xT := xT_in (i := 1395) (by decide +kernel) (by decide +kernel)
theorem mM_L_243 : Cond.methodLink RL 243 yL_restore ∈ xT := xT_in (i := 1397) (by decide +kernel) (by decide +kernel)
theorem mS_L_restore : Cond.static yL_restore ∈ xT := xT_in (i := 1398) (by decide +kernel) (by decide +kernel)
theorem mC_L_restore : Cond.codeWith yL_restore cL_restore 3 (some .int) [((0), (8), (11), (109))] ∈ xT := xT_in (i := 1399) (by decide +kernel) (by decide +kernel)
theorem mM_L_117 : Cond.methodLink RL 117 yX7_restore ∈ xT := xT_in (i := 1400) (by decide +kernel) (by decide +kernel)
theorem mI_X7_restore : Cond.instanceMethod yX7_restore ∈ xT := xT_in (i := 1401) (by decide +kernel) (by decide +kernel)
theorem mV_X7_restore : Cond.selects RX7 yX7_restore yX7_restore ∈ xT := xT_in (i := 1402) (by decide +kernel) (by decide +kernel)
theorem mC_X7_restore : Cond.code yX7_restore cX7_restore 1 (some .int) ∈ xT := xT_in (i := 1403) (by decide +kernel) (by decide +kernel)
theorem mM_X7_296 : Cond.methodLink RX7 296 yX3_forget ∈ xT := xT_in (i := 1405) (by decide +kernel) (by decide +kernel)
theorem mI_X3_forget : Cond.instanceMethod yX3_forget ∈ xT := xT_in (i := 1406) (by decide +kernel) (by decide +kernel)
theorem mV_X3_forget : Cond.selects RX3 yX3_forget yX3_forget ∈ xT := xT_in (i := 1407) (by decide +kernel) (by decide +kernel)
theorem mC_X3_forget : Cond.code yX3_forget cX3_forget 1 none ∈ xT := xT_in (i := 1408) (by decide +kernel) (by decide +kernel)
theorem mK_L_121 : Cond.classLink RL 121 RX8 ∈ xT := xT_in (i := 1409) (by decide +kernel) (by decide +kernel)
theorem mA_X8 : Cond.instantiable RX8 21 ∈ xT := xT_in (i := 1410) (by decide +kernel) (by decide +kernel)
theorem mM_L_123 : Cond.methodLink RL 123 yX8_init ∈ xT := xT_in (i := 1411) (by decide +kernel) (by decide +kernel)
theorem mI_X8_init : Cond.instanceMethod yX8_init ∈ xT := xT_in (i := 1412) (by decide +kernel) (by decide +kernel)
theorem mC_X8_init : Cond.code yX8_init cX8_init 1 none ∈ xT := xT_in (i := 1413) (by decide +kernel) (by decide +kernel)
theorem mM_X8_1 : Cond.methodLink RX8 1 Lib.objectInit ∈ xT := xT_in (i := 1414) (by decide +kernel) (by decide +kernel)
theorem mF_X8_34 : Cond.fieldLink RX8 34 "TeaChestsModel" "thrown" "I" ∈ xT := xT_in (i := 1415) (by decide +kernel) (by decide +kernel)
theorem mF_X8_38 : Cond.fieldLink RX8 38 "TeaChestsModel" "fails" "I" ∈ xT := xT_in (i := 1416) (by decide +kernel) (by decide +kernel)
theorem mF_X8_64 : Cond.fieldLink RX8 64 "TeaChestsModel" "changes" "I" ∈ xT := xT_in (i := 1417) (by decide +kernel) (by decide +kernel)
theorem mF_X8_55 : Cond.fieldLink RX8 55 "TeaChestsModel" "why" "I" ∈ xT := xT_in (i := 1418) (by decide +kernel) (by decide +kernel)
theorem mF_X8_58 : Cond.fieldLink RX8 58 "TeaChestsModel" "detail" "I" ∈ xT := xT_in (i := 1419) (by decide +kernel) (by decide +kernel)
theorem mF_X8_41 : Cond.fieldLink RX8 41 "TeaChestsModel" "lastWhy" "I" ∈ xT := xT_in (i := 1420) (by decide +kernel) (by decide +kernel)
theorem mF_X8_44 : Cond.fieldLink RX8 44 "TeaChestsModel" "lastDetail" "I" ∈ xT := xT_in (i := 1421) (by decide +kernel) (by decide +kernel)
theorem mF_X8_229 : Cond.fieldLink RX8 229 "TeaChestsModel" "isSaved" "Z" ∈ xT := xT_in (i := 1422) (by decide +kernel) (by decide +kernel)
theorem mF_X8_7 : Cond.fieldLink RX8 7 "TeaChestsModel" "v" "[I" ∈ xT := xT_in (i := 1423) (by decide +kernel) (by decide +kernel)
theorem mF_X8_13 : Cond.fieldLink RX8 13 "TeaChestsModel" "before" "[I" ∈ xT := xT_in (i := 1424) (by decide +kernel) (by decide +kernel)
theorem mF_X8_16 : Cond.fieldLink RX8 16 "TeaChestsModel" "saved" "[I" ∈ xT := xT_in (i := 1425) (by decide +kernel) (by decide +kernel)
theorem mF_X8_19 : Cond.fieldLink RX8 19 "TeaChestsModel" "past" "[I" ∈ xT := xT_in (i := 1426) (by decide +kernel) (by decide +kernel)
theorem mF_X8_22 : Cond.fieldLink RX8 22 "TeaChestsModel" "label" "[I" ∈ xT := xT_in (i := 1427) (by decide +kernel) (by decide +kernel)
theorem mF_X8_136 : Cond.fieldLink RX8 136 "TeaChestsModel" "labelN" "I" ∈ xT := xT_in (i := 1428) (by decide +kernel) (by decide +kernel)
theorem mF_X8_25 : Cond.fieldLink RX8 25 "TeaChestsModel" "input" "[I" ∈ xT := xT_in (i := 1429) (by decide +kernel) (by decide +kernel)
theorem mF_X8_28 : Cond.fieldLink RX8 28 "TeaChestsModel" "told" "[I" ∈ xT := xT_in (i := 1430) (by decide +kernel) (by decide +kernel)
theorem mF_X8_31 : Cond.fieldLink RX8 31 "TeaChestsModel" "signs" "[I" ∈ xT := xT_in (i := 1431) (by decide +kernel) (by decide +kernel)
theorem mF_X8_195 : Cond.fieldLink RX8 195 "TeaChestsModel" "inputN" "I" ∈ xT := xT_in (i := 1432) (by decide +kernel) (by decide +kernel)
theorem mF_X8_198 : Cond.fieldLink RX8 198 "TeaChestsModel" "here" "I" ∈ xT := xT_in (i := 1433) (by decide +kernel) (by decide +kernel)
theorem mF_X8_204 : Cond.fieldLink RX8 204 "TeaChestsModel" "isWrong" "Z" ∈ xT := xT_in (i := 1434) (by decide +kernel) (by decide +kernel)
theorem mF_X8_217 : Cond.fieldLink RX8 217 "TeaChestsModel" "isDoing" "Z" ∈ xT := xT_in (i := 1435) (by decide +kernel) (by decide +kernel)
theorem mL_X8_X8_thrown : Cond.lays RX8 RX8 "thrown" "I" ∈ xT := xT_in (i := 1436) (by decide +kernel) (by decide +kernel)
theorem mL_X8_X8_fails : Cond.lays RX8 RX8 "fails" "I" ∈ xT := xT_in (i := 1438) (by decide +kernel) (by decide +kernel)
theorem mL_X8_X8_changes : Cond.lays RX8 RX8 "changes" "I" ∈ xT := xT_in (i := 1440) (by decide +kernel) (by decide +kernel)
theorem mL_X8_X8_why : Cond.lays RX8 RX8 "why" "I" ∈ xT := xT_in (i := 1442) (by decide +kernel) (by decide +kernel)
theorem mL_X8_X8_detail : Cond.lays RX8 RX8 "detail" "I" ∈ xT := xT_in (i := 1444) (by decide +kernel) (by decide +kernel)
theorem mL_X8_X8_lastWhy : Cond.lays RX8 RX8 "lastWhy" "I" ∈ xT := xT_in (i := 1446) (by decide +kernel) (by decide +kernel)
theorem mL_X8_X8_lastDetail : Cond.lays RX8 RX8 "lastDetail" "I" ∈ xT := xT_in (i := 1448) (by decide +kernel) (by decide +kernel)
theorem mL_X8_X8_isSaved : Cond.lays RX8 RX8 "isSaved" "Z" ∈ xT := xT_in (i := 1450) (by decide +kernel) (by decide +kernel)
theorem mL_X8_X8_v : Cond.laysFinal RX8 RX8 "v" "[I" ∈ xT := xT_in (i := 1452) (by decide +kernel) (by decide +kernel)
theorem mL_X8_X8_before : Cond.laysFinal RX8 RX8 "before" "[I" ∈ xT := xT_in (i := 1454) (by decide +kernel) (by decide +kernel)
theorem mL_X8_X8_saved : Cond.laysFinal RX8 RX8 "saved" "[I" ∈ xT := xT_in (i := 1456) (by decide +kernel) (by decide +kernel)
theorem mL_X8_X8_past : Cond.laysFinal RX8 RX8 "past" "[I" ∈ xT := xT_in (i := 1458) (by decide +kernel) (by decide +kernel)
theorem mL_X8_X8_label : Cond.laysFinal RX8 RX8 "label" "[I" ∈ xT := xT_in (i := 1460) (by decide +kernel) (by decide +kernel)
theorem mL_X8_X8_labelN : Cond.lays RX8 RX8 "labelN" "I" ∈ xT := xT_in (i := 1462) (by decide +kernel) (by decide +kernel)
theorem mL_X8_X8_input : Cond.laysFinal RX8 RX8 "input" "[I" ∈ xT := xT_in (i := 1464) (by decide +kernel) (by decide +kernel)
theorem mL_X8_X8_told : Cond.laysFinal RX8 RX8 "told" "[I" ∈ xT := xT_in (i := 1466) (by decide +kernel) (by decide +kernel)
theorem mL_X8_X8_signs : Cond.laysFinal RX8 RX8 "signs" "[I" ∈ xT := xT_in (i := 1468) (by decide +kernel) (by decide +kernel)
theorem mL_X8_X8_inputN : Cond.lays RX8 RX8 "inputN" "I" ∈ xT := xT_in (i := 1470) (by decide +kernel) (by decide +kernel)
theorem mL_X8_X8_here : Cond.lays RX8 RX8 "here" "I" ∈ xT := xT_in (i := 1472) (by decide +kernel) (by decide +kernel)
theorem mL_X8_X8_isWrong : Cond.lays RX8 RX8 "isWrong" "Z" ∈ xT := xT_in (i := 1474) (by decide +kernel) (by decide +kernel)
theorem mL_X8_X8_isDoing : Cond.lays RX8 RX8 "isDoing" "Z" ∈ xT := xT_in (i := 1476) (by decide +kernel) (by decide +kernel)
theorem mU_X8_Object : Cond.superclass RX8 "java/lang/Object" ∈ xT := xT_in (i := 1478) (by decide +kernel) (by decide +kernel)
theorem mM_L_230 : Cond.methodLink RL 230 yX8_thrown ∈ xT := xT_in (i := 1479) (by decide +kernel) (by decide +kernel)
theorem mI_X8_thrown : Cond.instanceMethod yX8_thrown ∈ xT := xT_in (i := 1480) (by decide +kernel) (by decide +kernel)
theorem mV_X8_thrown : Cond.selects RX8 yX8_thrown yX8_thrown ∈ xT := xT_in (i := 1481) (by decide +kernel) (by decide +kernel)
theorem mC_X8_thrown : Cond.code yX8_thrown cX8_thrown 1 (some .int) ∈ xT := xT_in (i := 1482) (by decide +kernel) (by decide +kernel)
theorem mM_L_129 : Cond.methodLink RL 129 yX8_bring ∈ xT := xT_in (i := 1483) (by decide +kernel) (by decide +kernel)
theorem mI_X8_bring : Cond.instanceMethod yX8_bring ∈ xT := xT_in (i := 1484) (by decide +kernel) (by decide +kernel)
theorem mV_X8_bring : Cond.selects RX8 yX8_bring yX8_bring ∈ xT := xT_in (i := 1485) (by decide +kernel) (by decide +kernel)
theorem mC_X8_bring : Cond.code yX8_bring cX8_bring 4 (some .int) ∈ xT := xT_in (i := 1486) (by decide +kernel) (by decide +kernel)
theorem mM_X8_85 : Cond.methodLink RX8 85 yX8_begins ∈ xT := xT_in (i := 1487) (by decide +kernel) (by decide +kernel)
theorem mI_X8_begins : Cond.instanceMethod yX8_begins ∈ xT := xT_in (i := 1489) (by decide +kernel) (by decide +kernel)
theorem mC_X8_begins : Cond.code yX8_begins cX8_begins 1 none ∈ xT := xT_in (i := 1490) (by decide +kernel) (by decide +kernel)
theorem mM_X8_51 : Cond.methodLink RX8 51 yX8_lays ∈ xT := xT_in (i := 1491) (by decide +kernel) (by decide +kernel)
theorem mS_X8_lays : Cond.static yX8_lays ∈ xT := xT_in (i := 1492) (by decide +kernel) (by decide +kernel)
theorem mC_X8_lays : Cond.code yX8_lays cX8_lays 3 none ∈ xT := xT_in (i := 1493) (by decide +kernel) (by decide +kernel)
theorem mM_X8_88 : Cond.methodLink RX8 88 yX8_brings ∈ xT := xT_in (i := 1494) (by decide +kernel) (by decide +kernel)
theorem mI_X8_brings : Cond.instanceMethod yX8_brings ∈ xT := xT_in (i := 1496) (by decide +kernel) (by decide +kernel)
theorem mC_X8_brings : Cond.code yX8_brings cX8_brings 5 (some .int) ∈ xT := xT_in (i := 1497) (by decide +kernel) (by decide +kernel)
theorem mM_X8_75 : Cond.methodLink RX8 75 yX8_isLeaf ∈ xT := xT_in (i := 1498) (by decide +kernel) (by decide +kernel)
theorem mS_X8_isLeaf : Cond.static yX8_isLeaf ∈ xT := xT_in (i := 1499) (by decide +kernel) (by decide +kernel)
theorem mC_X8_isLeaf : Cond.code yX8_isLeaf cX8_isLeaf 2 (some .boolean) ∈ xT := xT_in (i := 1500) (by decide +kernel) (by decide +kernel)
theorem mM_X8_67 : Cond.methodLink RX8 67 yX8_isIn ∈ xT := xT_in (i := 1501) (by decide +kernel) (by decide +kernel)
theorem mS_X8_isIn : Cond.static yX8_isIn ∈ xT := xT_in (i := 1502) (by decide +kernel) (by decide +kernel)
theorem mC_X8_isIn : Cond.code yX8_isIn cX8_isIn 3 (some .boolean) ∈ xT := xT_in (i := 1503) (by decide +kernel) (by decide +kernel)
theorem mM_X8_47 : Cond.methodLink RX8 47 yX8_fail ∈ xT := xT_in (i := 1504) (by decide +kernel) (by decide +kernel)
theorem mI_X8_fail : Cond.instanceMethod yX8_fail ∈ xT := xT_in (i := 1506) (by decide +kernel) (by decide +kernel)
theorem mC_X8_fail : Cond.code yX8_fail cX8_fail 2 (some .int) ∈ xT := xT_in (i := 1507) (by decide +kernel) (by decide +kernel)
theorem mM_X8_79 : Cond.methodLink RX8 79 yX8_leaf ∈ xT := xT_in (i := 1508) (by decide +kernel) (by decide +kernel)
theorem mS_X8_leaf : Cond.static yX8_leaf ∈ xT := xT_in (i := 1509) (by decide +kernel) (by decide +kernel)
theorem mC_X8_leaf : Cond.code yX8_leaf cX8_leaf 2 (some .int) ∈ xT := xT_in (i := 1510) (by decide +kernel) (by decide +kernel)
theorem mM_X8_82 : Cond.methodLink RX8 82 yX8_refuses ∈ xT := xT_in (i := 1511) (by decide +kernel) (by decide +kernel)
theorem mI_X8_refuses : Cond.instanceMethod yX8_refuses ∈ xT := xT_in (i := 1513) (by decide +kernel) (by decide +kernel)
theorem mC_X8_refuses : Cond.code yX8_refuses cX8_refuses 3 (some .int) ∈ xT := xT_in (i := 1514) (by decide +kernel) (by decide +kernel)
theorem mM_X8_92 : Cond.methodLink RX8 92 yX8_ends ∈ xT := xT_in (i := 1515) (by decide +kernel) (by decide +kernel)
theorem mI_X8_ends : Cond.instanceMethod yX8_ends ∈ xT := xT_in (i := 1517) (by decide +kernel) (by decide +kernel)
theorem mC_X8_ends : Cond.code yX8_ends cX8_ends 6 (some .int) ∈ xT := xT_in (i := 1518) (by decide +kernel) (by decide +kernel)
theorem mM_X8_61 : Cond.methodLink RX8 61 yX8_no ∈ xT := xT_in (i := 1519) (by decide +kernel) (by decide +kernel)
theorem mI_X8_no : Cond.instanceMethod yX8_no ∈ xT := xT_in (i := 1521) (by decide +kernel) (by decide +kernel)
theorem mC_X8_no : Cond.code yX8_no cX8_no 2 (some .int) ∈ xT := xT_in (i := 1522) (by decide +kernel) (by decide +kernel)
theorem mM_L_133 : Cond.methodLink RL 133 yX8_leaves ∈ xT := xT_in (i := 1523) (by decide +kernel) (by decide +kernel)
theorem mI_X8_leaves : Cond.instanceMethod yX8_leaves ∈ xT := xT_in (i := 1524) (by decide +kernel) (by decide +kernel)
theorem mV_X8_leaves : Cond.selects RX8 yX8_leaves yX8_leaves ∈ xT := xT_in (i := 1525) (by decide +kernel) (by decide +kernel)
theorem mC_X8_leaves : Cond.code yX8_leaves cX8_leaves 3 (some .int) ∈ xT := xT_in (i := 1526) (by decide +kernel) (by decide +kernel)
theorem mM_L_137 : Cond.methodLink RL 137 yX8_bestGarden ∈ xT := xT_in (i := 1527) (by decide +kernel) (by decide +kernel)
theorem mI_X8_bestGarden : Cond.instanceMethod yX8_bestGarden ∈ xT := xT_in (i := 1528) (by decide +kernel) (by decide +kernel)
theorem mV_X8_bestGarden : Cond.selects RX8 yX8_bestGarden yX8_bestGarden ∈ xT := xT_in (i := 1529) (by decide +kernel) (by decide +kernel)
theorem mC_X8_bestGarden : Cond.code yX8_bestGarden cX8_bestGarden 4 (some .int) ∈ xT := xT_in (i := 1530) (by decide +kernel) (by decide +kernel)
theorem mM_X8_96 : Cond.methodLink RX8 96 yX8_allOf ∈ xT := xT_in (i := 1531) (by decide +kernel) (by decide +kernel)
theorem mI_X8_allOf : Cond.instanceMethod yX8_allOf ∈ xT := xT_in (i := 1533) (by decide +kernel) (by decide +kernel)
theorem mC_X8_allOf : Cond.code yX8_allOf cX8_allOf 2 (some .int) ∈ xT := xT_in (i := 1534) (by decide +kernel) (by decide +kernel)
theorem mM_L_141 : Cond.methodLink RL 141 yX8_buy ∈ xT := xT_in (i := 1535) (by decide +kernel) (by decide +kernel)
theorem mI_X8_buy : Cond.instanceMethod yX8_buy ∈ xT := xT_in (i := 1536) (by decide +kernel) (by decide +kernel)
theorem mV_X8_buy : Cond.selects RX8 yX8_buy yX8_buy ∈ xT := xT_in (i := 1537) (by decide +kernel) (by decide +kernel)
theorem mC_X8_buy : Cond.code yX8_buy cX8_buy 3 (some .int) ∈ xT := xT_in (i := 1538) (by decide +kernel) (by decide +kernel)
theorem mM_X8_102 : Cond.methodLink RX8 102 yX8_buys ∈ xT := xT_in (i := 1539) (by decide +kernel) (by decide +kernel)
theorem mI_X8_buys : Cond.instanceMethod yX8_buys ∈ xT := xT_in (i := 1541) (by decide +kernel) (by decide +kernel)
theorem mC_X8_buys : Cond.code yX8_buys cX8_buys 3 (some .int) ∈ xT := xT_in (i := 1542) (by decide +kernel) (by decide +kernel)
theorem mM_X8_99 : Cond.methodLink RX8 99 yX8_lesser ∈ xT := xT_in (i := 1543) (by decide +kernel) (by decide +kernel)
theorem mS_X8_lesser : Cond.static yX8_lesser ∈ xT := xT_in (i := 1544) (by decide +kernel) (by decide +kernel)
theorem mC_X8_lesser : Cond.code yX8_lesser cX8_lesser 2 (some .int) ∈ xT := xT_in (i := 1545) (by decide +kernel) (by decide +kernel)
theorem mM_L_145 : Cond.methodLink RL 145 yX8_make ∈ xT := xT_in (i := 1546) (by decide +kernel) (by decide +kernel)
theorem mI_X8_make : Cond.instanceMethod yX8_make ∈ xT := xT_in (i := 1547) (by decide +kernel) (by decide +kernel)
theorem mV_X8_make : Cond.selects RX8 yX8_make yX8_make ∈ xT := xT_in (i := 1548) (by decide +kernel) (by decide +kernel)
theorem mC_X8_make : Cond.code yX8_make cX8_make 2 (some .int) ∈ xT := xT_in (i := 1549) (by decide +kernel) (by decide +kernel)
theorem mM_X8_105 : Cond.methodLink RX8 105 yX8_makes ∈ xT := xT_in (i := 1550) (by decide +kernel) (by decide +kernel)
theorem mI_X8_makes : Cond.instanceMethod yX8_makes ∈ xT := xT_in (i := 1552) (by decide +kernel) (by decide +kernel)
theorem mC_X8_makes : Cond.code yX8_makes cX8_makes 4 (some .int) ∈ xT := xT_in (i := 1553) (by decide +kernel) (by decide +kernel)
theorem mM_X8_71 : Cond.methodLink RX8 71 yX8_at ∈ xT := xT_in (i := 1554) (by decide +kernel) (by decide +kernel)
theorem mS_X8_at : Cond.static yX8_at ∈ xT := xT_in (i := 1555) (by decide +kernel) (by decide +kernel)
theorem mC_X8_at : Cond.code yX8_at cX8_at 2 (some .int) ∈ xT := xT_in (i := 1556) (by decide +kernel) (by decide +kernel)
theorem mM_L_148 : Cond.methodLink RL 148 yX8_line ∈ xT := xT_in (i := 1557) (by decide +kernel) (by decide +kernel)
theorem mI_X8_line : Cond.instanceMethod yX8_line ∈ xT := xT_in (i := 1558) (by decide +kernel) (by decide +kernel)
theorem mV_X8_line : Cond.selects RX8 yX8_line yX8_line ∈ xT := xT_in (i := 1559) (by decide +kernel) (by decide +kernel)
theorem mC_X8_line : Cond.code yX8_line cX8_line 2 (some .int) ∈ xT := xT_in (i := 1560) (by decide +kernel) (by decide +kernel)
theorem mM_X8_115 : Cond.methodLink RX8 115 yX8_linesChest ∈ xT := xT_in (i := 1561) (by decide +kernel) (by decide +kernel)
theorem mI_X8_linesChest : Cond.instanceMethod yX8_linesChest ∈ xT := xT_in (i := 1563) (by decide +kernel) (by decide +kernel)
theorem mC_X8_linesChest : Cond.code yX8_linesChest cX8_linesChest 3 (some .int) ∈ xT := xT_in (i := 1564) (by decide +kernel) (by decide +kernel)
theorem mM_X8_108 : Cond.methodLink RX8 108 yX8_isChest ∈ xT := xT_in (i := 1565) (by decide +kernel) (by decide +kernel)
theorem mI_X8_isChest : Cond.instanceMethod yX8_isChest ∈ xT := xT_in (i := 1567) (by decide +kernel) (by decide +kernel)
theorem mC_X8_isChest : Cond.code yX8_isChest cX8_isChest 2 (some .boolean) ∈ xT := xT_in (i := 1568) (by decide +kernel) (by decide +kernel)
theorem mM_X8_112 : Cond.methodLink RX8 112 yX8_isShut ∈ xT := xT_in (i := 1569) (by decide +kernel) (by decide +kernel)
theorem mI_X8_isShut : Cond.instanceMethod yX8_isShut ∈ xT := xT_in (i := 1571) (by decide +kernel) (by decide +kernel)
theorem mC_X8_isShut : Cond.code yX8_isShut cX8_isShut 3 (some .boolean) ∈ xT := xT_in (i := 1572) (by decide +kernel) (by decide +kernel)
theorem mM_L_152 : Cond.methodLink RL 152 yX8_fill ∈ xT := xT_in (i := 1573) (by decide +kernel) (by decide +kernel)
theorem mI_X8_fill : Cond.instanceMethod yX8_fill ∈ xT := xT_in (i := 1574) (by decide +kernel) (by decide +kernel)
theorem mV_X8_fill : Cond.selects RX8 yX8_fill yX8_fill ∈ xT := xT_in (i := 1575) (by decide +kernel) (by decide +kernel)
theorem mC_X8_fill : Cond.code yX8_fill cX8_fill 5 (some .int) ∈ xT := xT_in (i := 1576) (by decide +kernel) (by decide +kernel)
theorem mM_X8_121 : Cond.methodLink RX8 121 yX8_fills ∈ xT := xT_in (i := 1577) (by decide +kernel) (by decide +kernel)
theorem mI_X8_fills : Cond.instanceMethod yX8_fills ∈ xT := xT_in (i := 1579) (by decide +kernel) (by decide +kernel)
theorem mC_X8_fills : Cond.code yX8_fills cX8_fills 8 (some .int) ∈ xT := xT_in (i := 1580) (by decide +kernel) (by decide +kernel)
theorem mM_X8_118 : Cond.methodLink RX8 118 yX8_isEmpty ∈ xT := xT_in (i := 1581) (by decide +kernel) (by decide +kernel)
theorem mI_X8_isEmpty : Cond.instanceMethod yX8_isEmpty ∈ xT := xT_in (i := 1583) (by decide +kernel) (by decide +kernel)
theorem mC_X8_isEmpty : Cond.code yX8_isEmpty cX8_isEmpty 2 (some .boolean) ∈ xT := xT_in (i := 1584) (by decide +kernel) (by decide +kernel)
theorem mM_L_155 : Cond.methodLink RL 155 yX8_empty ∈ xT := xT_in (i := 1585) (by decide +kernel) (by decide +kernel)
theorem mI_X8_empty : Cond.instanceMethod yX8_empty ∈ xT := xT_in (i := 1586) (by decide +kernel) (by decide +kernel)
theorem mV_X8_empty : Cond.selects RX8 yX8_empty yX8_empty ∈ xT := xT_in (i := 1587) (by decide +kernel) (by decide +kernel)
theorem mC_X8_empty : Cond.code yX8_empty cX8_empty 2 (some .int) ∈ xT := xT_in (i := 1588) (by decide +kernel) (by decide +kernel)
theorem mM_X8_124 : Cond.methodLink RX8 124 yX8_empties ∈ xT := xT_in (i := 1589) (by decide +kernel) (by decide +kernel)
theorem mI_X8_empties : Cond.instanceMethod yX8_empties ∈ xT := xT_in (i := 1591) (by decide +kernel) (by decide +kernel)
theorem mC_X8_empties : Cond.code yX8_empties cX8_empties 5 (some .int) ∈ xT := xT_in (i := 1592) (by decide +kernel) (by decide +kernel)
theorem mM_L_158 : Cond.methodLink RL 158 yX8_screw ∈ xT := xT_in (i := 1593) (by decide +kernel) (by decide +kernel)
theorem mI_X8_screw : Cond.instanceMethod yX8_screw ∈ xT := xT_in (i := 1594) (by decide +kernel) (by decide +kernel)
theorem mV_X8_screw : Cond.selects RX8 yX8_screw yX8_screw ∈ xT := xT_in (i := 1595) (by decide +kernel) (by decide +kernel)
theorem mC_X8_screw : Cond.code yX8_screw cX8_screw 3 (some .boolean) ∈ xT := xT_in (i := 1596) (by decide +kernel) (by decide +kernel)
theorem mM_X8_130 : Cond.methodLink RX8 130 yX8_screws ∈ xT := xT_in (i := 1597) (by decide +kernel) (by decide +kernel)
theorem mI_X8_screws : Cond.instanceMethod yX8_screws ∈ xT := xT_in (i := 1599) (by decide +kernel) (by decide +kernel)
theorem mC_X8_screws : Cond.code yX8_screws cX8_screws 3 (some .int) ∈ xT := xT_in (i := 1600) (by decide +kernel) (by decide +kernel)
theorem mM_X8_127 : Cond.methodLink RX8 127 yX8_isTight ∈ xT := xT_in (i := 1601) (by decide +kernel) (by decide +kernel)
theorem mI_X8_isTight : Cond.instanceMethod yX8_isTight ∈ xT := xT_in (i := 1603) (by decide +kernel) (by decide +kernel)
theorem mC_X8_isTight : Cond.code yX8_isTight cX8_isTight 2 (some .boolean) ∈ xT := xT_in (i := 1604) (by decide +kernel) (by decide +kernel)
theorem mM_L_161 : Cond.methodLink RL 161 yX8_unscrew ∈ xT := xT_in (i := 1605) (by decide +kernel) (by decide +kernel)
theorem mI_X8_unscrew : Cond.instanceMethod yX8_unscrew ∈ xT := xT_in (i := 1606) (by decide +kernel) (by decide +kernel)
theorem mV_X8_unscrew : Cond.selects RX8 yX8_unscrew yX8_unscrew ∈ xT := xT_in (i := 1607) (by decide +kernel) (by decide +kernel)
theorem mC_X8_unscrew : Cond.code yX8_unscrew cX8_unscrew 2 (some .int) ∈ xT := xT_in (i := 1608) (by decide +kernel) (by decide +kernel)
theorem mM_X8_133 : Cond.methodLink RX8 133 yX8_unscrews ∈ xT := xT_in (i := 1609) (by decide +kernel) (by decide +kernel)
theorem mI_X8_unscrews : Cond.instanceMethod yX8_unscrews ∈ xT := xT_in (i := 1611) (by decide +kernel) (by decide +kernel)
theorem mC_X8_unscrews : Cond.code yX8_unscrews cX8_unscrews 3 (some .int) ∈ xT := xT_in (i := 1612) (by decide +kernel) (by decide +kernel)
theorem mM_L_164 : Cond.methodLink RL 164 yX8_label ∈ xT := xT_in (i := 1613) (by decide +kernel) (by decide +kernel)
theorem mI_X8_label : Cond.instanceMethod yX8_label ∈ xT := xT_in (i := 1614) (by decide +kernel) (by decide +kernel)
theorem mV_X8_label : Cond.selects RX8 yX8_label yX8_label ∈ xT := xT_in (i := 1615) (by decide +kernel) (by decide +kernel)
theorem mC_X8_label : Cond.code yX8_label cX8_label 2 (some .int) ∈ xT := xT_in (i := 1616) (by decide +kernel) (by decide +kernel)
theorem mM_X8_146 : Cond.methodLink RX8 146 yX8_labels ∈ xT := xT_in (i := 1617) (by decide +kernel) (by decide +kernel)
theorem mI_X8_labels : Cond.instanceMethod yX8_labels ∈ xT := xT_in (i := 1619) (by decide +kernel) (by decide +kernel)
theorem mC_X8_labels : Cond.code yX8_labels cX8_labels 2 (some .int) ∈ xT := xT_in (i := 1620) (by decide +kernel) (by decide +kernel)
theorem mM_X8_143 : Cond.methodLink RX8 143 yX8_writesLabel ∈ xT := xT_in (i := 1621) (by decide +kernel) (by decide +kernel)
theorem mI_X8_writesLabel : Cond.instanceMethod yX8_writesLabel ∈ xT := xT_in (i := 1623) (by decide +kernel) (by decide +kernel)
theorem mC_X8_writesLabel : Cond.code yX8_writesLabel cX8_writesLabel 5 none ∈ xT := xT_in (i := 1624) (by decide +kernel) (by decide +kernel)
theorem mM_X8_139 : Cond.methodLink RX8 139 yX8_writes ∈ xT := xT_in (i := 1625) (by decide +kernel) (by decide +kernel)
theorem mI_X8_writes : Cond.instanceMethod yX8_writes ∈ xT := xT_in (i := 1627) (by decide +kernel) (by decide +kernel)
theorem mC_X8_writes : Cond.code yX8_writes cX8_writes 2 none ∈ xT := xT_in (i := 1628) (by decide +kernel) (by decide +kernel)
theorem mM_L_167 : Cond.methodLink RL 167 yX8_labelled ∈ xT := xT_in (i := 1629) (by decide +kernel) (by decide +kernel)
theorem mI_X8_labelled : Cond.instanceMethod yX8_labelled ∈ xT := xT_in (i := 1630) (by decide +kernel) (by decide +kernel)
theorem mV_X8_labelled : Cond.selects RX8 yX8_labelled yX8_labelled ∈ xT := xT_in (i := 1631) (by decide +kernel) (by decide +kernel)
theorem mC_X8_labelled : Cond.code yX8_labelled cX8_labelled 3 (some .char) ∈ xT := xT_in (i := 1632) (by decide +kernel) (by decide +kernel)
theorem mM_L_170 : Cond.methodLink RL 170 yX8_chest ∈ xT := xT_in (i := 1633) (by decide +kernel) (by decide +kernel)
theorem mI_X8_chest : Cond.instanceMethod yX8_chest ∈ xT := xT_in (i := 1634) (by decide +kernel) (by decide +kernel)
theorem mV_X8_chest : Cond.selects RX8 yX8_chest yX8_chest ∈ xT := xT_in (i := 1635) (by decide +kernel) (by decide +kernel)
theorem mC_X8_chest : Cond.code yX8_chest cX8_chest 3 (some .int) ∈ xT := xT_in (i := 1636) (by decide +kernel) (by decide +kernel)
theorem mM_L_173 : Cond.methodLink RL 173 yX8_worth ∈ xT := xT_in (i := 1637) (by decide +kernel) (by decide +kernel)
theorem mI_X8_worth : Cond.instanceMethod yX8_worth ∈ xT := xT_in (i := 1638) (by decide +kernel) (by decide +kernel)
theorem mV_X8_worth : Cond.selects RX8 yX8_worth yX8_worth ∈ xT := xT_in (i := 1639) (by decide +kernel) (by decide +kernel)
theorem mC_X8_worth : Cond.code yX8_worth cX8_worth 2 (some .int) ∈ xT := xT_in (i := 1640) (by decide +kernel) (by decide +kernel)
theorem mM_X8_149 : Cond.methodLink RX8 149 yX8_worthOf ∈ xT := xT_in (i := 1641) (by decide +kernel) (by decide +kernel)
theorem mI_X8_worthOf : Cond.instanceMethod yX8_worthOf ∈ xT := xT_in (i := 1643) (by decide +kernel) (by decide +kernel)
theorem mC_X8_worthOf : Cond.code yX8_worthOf cX8_worthOf 3 (some .int) ∈ xT := xT_in (i := 1644) (by decide +kernel) (by decide +kernel)
theorem mM_L_176 : Cond.methodLink RL 176 yX8_ranked ∈ xT := xT_in (i := 1645) (by decide +kernel) (by decide +kernel)
theorem mI_X8_ranked : Cond.instanceMethod yX8_ranked ∈ xT := xT_in (i := 1646) (by decide +kernel) (by decide +kernel)
theorem mV_X8_ranked : Cond.selects RX8 yX8_ranked yX8_ranked ∈ xT := xT_in (i := 1647) (by decide +kernel) (by decide +kernel)
theorem mC_X8_ranked : Cond.code yX8_ranked cX8_ranked 5 (some .int) ∈ xT := xT_in (i := 1648) (by decide +kernel) (by decide +kernel)
theorem mM_X8_152 : Cond.methodLink RX8 152 yX8_isAhead ∈ xT := xT_in (i := 1649) (by decide +kernel) (by decide +kernel)
theorem mI_X8_isAhead : Cond.instanceMethod yX8_isAhead ∈ xT := xT_in (i := 1651) (by decide +kernel) (by decide +kernel)
theorem mC_X8_isAhead : Cond.code yX8_isAhead cX8_isAhead 4 (some .boolean) ∈ xT := xT_in (i := 1652) (by decide +kernel) (by decide +kernel)
theorem mM_L_179 : Cond.methodLink RL 179 yX8_toQuay ∈ xT := xT_in (i := 1653) (by decide +kernel) (by decide +kernel)
theorem mI_X8_toQuay : Cond.instanceMethod yX8_toQuay ∈ xT := xT_in (i := 1654) (by decide +kernel) (by decide +kernel)
theorem mV_X8_toQuay : Cond.selects RX8 yX8_toQuay yX8_toQuay ∈ xT := xT_in (i := 1655) (by decide +kernel) (by decide +kernel)
theorem mC_X8_toQuay : Cond.code yX8_toQuay cX8_toQuay 2 (some .int) ∈ xT := xT_in (i := 1656) (by decide +kernel) (by decide +kernel)
theorem mM_X8_158 : Cond.methodLink RX8 158 yX8_goesOut ∈ xT := xT_in (i := 1657) (by decide +kernel) (by decide +kernel)
theorem mI_X8_goesOut : Cond.instanceMethod yX8_goesOut ∈ xT := xT_in (i := 1659) (by decide +kernel) (by decide +kernel)
theorem mC_X8_goesOut : Cond.code yX8_goesOut cX8_goesOut 2 (some .int) ∈ xT := xT_in (i := 1660) (by decide +kernel) (by decide +kernel)
theorem mM_X8_155 : Cond.methodLink RX8 155 yX8_withWhere ∈ xT := xT_in (i := 1661) (by decide +kernel) (by decide +kernel)
theorem mI_X8_withWhere : Cond.instanceMethod yX8_withWhere ∈ xT := xT_in (i := 1663) (by decide +kernel) (by decide +kernel)
theorem mC_X8_withWhere : Cond.code yX8_withWhere cX8_withWhere 4 (some .int) ∈ xT := xT_in (i := 1664) (by decide +kernel) (by decide +kernel)
theorem mM_L_182 : Cond.methodLink RL 182 yX8_load ∈ xT := xT_in (i := 1665) (by decide +kernel) (by decide +kernel)
theorem mI_X8_load : Cond.instanceMethod yX8_load ∈ xT := xT_in (i := 1666) (by decide +kernel) (by decide +kernel)
theorem mV_X8_load : Cond.selects RX8 yX8_load yX8_load ∈ xT := xT_in (i := 1667) (by decide +kernel) (by decide +kernel)
theorem mC_X8_load : Cond.code yX8_load cX8_load 2 (some .int) ∈ xT := xT_in (i := 1668) (by decide +kernel) (by decide +kernel)
theorem mM_X8_168 : Cond.methodLink RX8 168 yX8_loads ∈ xT := xT_in (i := 1669) (by decide +kernel) (by decide +kernel)
theorem mI_X8_loads : Cond.instanceMethod yX8_loads ∈ xT := xT_in (i := 1671) (by decide +kernel) (by decide +kernel)
theorem mC_X8_loads : Cond.code yX8_loads cX8_loads 2 (some .int) ∈ xT := xT_in (i := 1672) (by decide +kernel) (by decide +kernel)
theorem mM_X8_161 : Cond.methodLink RX8 161 yX8_heightAt ∈ xT := xT_in (i := 1673) (by decide +kernel) (by decide +kernel)
theorem mS_X8_heightAt : Cond.static yX8_heightAt ∈ xT := xT_in (i := 1674) (by decide +kernel) (by decide +kernel)
theorem mC_X8_heightAt : Cond.code yX8_heightAt cX8_heightAt 2 (some .int) ∈ xT := xT_in (i := 1675) (by decide +kernel) (by decide +kernel)
theorem mM_X8_164 : Cond.methodLink RX8 164 yX8_room ∈ xT := xT_in (i := 1676) (by decide +kernel) (by decide +kernel)
theorem mI_X8_room : Cond.instanceMethod yX8_room ∈ xT := xT_in (i := 1678) (by decide +kernel) (by decide +kernel)
theorem mC_X8_room : Cond.code yX8_room cX8_room 3 (some .int) ∈ xT := xT_in (i := 1679) (by decide +kernel) (by decide +kernel)
theorem mM_L_186 : Cond.methodLink RL 186 yX8_sail ∈ xT := xT_in (i := 1680) (by decide +kernel) (by decide +kernel)
theorem mI_X8_sail : Cond.instanceMethod yX8_sail ∈ xT := xT_in (i := 1681) (by decide +kernel) (by decide +kernel)
theorem mV_X8_sail : Cond.selects RX8 yX8_sail yX8_sail ∈ xT := xT_in (i := 1682) (by decide +kernel) (by decide +kernel)
theorem mC_X8_sail : Cond.code yX8_sail cX8_sail 1 (some .int) ∈ xT := xT_in (i := 1683) (by decide +kernel) (by decide +kernel)
theorem mM_X8_174 : Cond.methodLink RX8 174 yX8_sails ∈ xT := xT_in (i := 1684) (by decide +kernel) (by decide +kernel)
theorem mI_X8_sails : Cond.instanceMethod yX8_sails ∈ xT := xT_in (i := 1686) (by decide +kernel) (by decide +kernel)
theorem mC_X8_sails : Cond.code yX8_sails cX8_sails 3 (some .int) ∈ xT := xT_in (i := 1687) (by decide +kernel) (by decide +kernel)
theorem mM_X8_171 : Cond.methodLink RX8 171 yX8_cargoOf ∈ xT := xT_in (i := 1688) (by decide +kernel) (by decide +kernel)
theorem mI_X8_cargoOf : Cond.instanceMethod yX8_cargoOf ∈ xT := xT_in (i := 1690) (by decide +kernel) (by decide +kernel)
theorem mC_X8_cargoOf : Cond.code yX8_cargoOf cX8_cargoOf 3 (some .int) ∈ xT := xT_in (i := 1691) (by decide +kernel) (by decide +kernel)
theorem mM_L_190 : Cond.methodLink RL 190 yX8_cargo ∈ xT := xT_in (i := 1692) (by decide +kernel) (by decide +kernel)
theorem mI_X8_cargo : Cond.instanceMethod yX8_cargo ∈ xT := xT_in (i := 1693) (by decide +kernel) (by decide +kernel)
theorem mV_X8_cargo : Cond.selects RX8 yX8_cargo yX8_cargo ∈ xT := xT_in (i := 1694) (by decide +kernel) (by decide +kernel)
theorem mC_X8_cargo : Cond.code yX8_cargo cX8_cargo 1 (some .int) ∈ xT := xT_in (i := 1695) (by decide +kernel) (by decide +kernel)
theorem mM_L_193 : Cond.methodLink RL 193 yX8_height ∈ xT := xT_in (i := 1696) (by decide +kernel) (by decide +kernel)
theorem mI_X8_height : Cond.instanceMethod yX8_height ∈ xT := xT_in (i := 1697) (by decide +kernel) (by decide +kernel)
theorem mV_X8_height : Cond.selects RX8 yX8_height yX8_height ∈ xT := xT_in (i := 1698) (by decide +kernel) (by decide +kernel)
theorem mC_X8_height : Cond.code yX8_height cX8_height 2 (some .int) ∈ xT := xT_in (i := 1699) (by decide +kernel) (by decide +kernel)
theorem mM_L_196 : Cond.methodLink RL 196 yX8_heightAgain ∈ xT := xT_in (i := 1700) (by decide +kernel) (by decide +kernel)
theorem mI_X8_heightAgain : Cond.instanceMethod yX8_heightAgain ∈ xT := xT_in (i := 1701) (by decide +kernel) (by decide +kernel)
theorem mV_X8_heightAgain : Cond.selects RX8 yX8_heightAgain yX8_heightAgain ∈ xT := xT_in (i := 1702) (by decide +kernel) (by decide +kernel)
theorem mC_X8_heightAgain : Cond.code yX8_heightAgain cX8_heightAgain 2 (some .int) ∈ xT := xT_in (i := 1703) (by decide +kernel) (by decide +kernel)
theorem mM_X8_177 : Cond.methodLink RX8 177 yX8_height ∈ xT := xT_in (i := 1704) (by decide +kernel) (by decide +kernel)
theorem mM_L_200 : Cond.methodLink RL 200 yX8_reachedIn ∈ xT := xT_in (i := 1705) (by decide +kernel) (by decide +kernel)
theorem mI_X8_reachedIn : Cond.instanceMethod yX8_reachedIn ∈ xT := xT_in (i := 1706) (by decide +kernel) (by decide +kernel)
theorem mV_X8_reachedIn : Cond.selects RX8 yX8_reachedIn yX8_reachedIn ∈ xT := xT_in (i := 1707) (by decide +kernel) (by decide +kernel)
theorem mC_X8_reachedIn : Cond.code yX8_reachedIn cX8_reachedIn 2 (some .int) ∈ xT := xT_in (i := 1708) (by decide +kernel) (by decide +kernel)
theorem mM_L_203 : Cond.methodLink RL 203 yX8_setHumidity ∈ xT := xT_in (i := 1709) (by decide +kernel) (by decide +kernel)
theorem mI_X8_setHumidity : Cond.instanceMethod yX8_setHumidity ∈ xT := xT_in (i := 1710) (by decide +kernel) (by decide +kernel)
theorem mV_X8_setHumidity : Cond.selects RX8 yX8_setHumidity yX8_setHumidity ∈ xT := xT_in (i := 1711) (by decide +kernel) (by decide +kernel)
theorem mC_X8_setHumidity : Cond.code yX8_setHumidity cX8_setHumidity 2 (some .int) ∈ xT := xT_in (i := 1712) (by decide +kernel) (by decide +kernel)
theorem mM_X8_180 : Cond.methodLink RX8 180 yX8_humid ∈ xT := xT_in (i := 1713) (by decide +kernel) (by decide +kernel)
theorem mI_X8_humid : Cond.instanceMethod yX8_humid ∈ xT := xT_in (i := 1715) (by decide +kernel) (by decide +kernel)
theorem mC_X8_humid : Cond.code yX8_humid cX8_humid 3 (some .int) ∈ xT := xT_in (i := 1716) (by decide +kernel) (by decide +kernel)
theorem mM_L_206 : Cond.methodLink RL 206 yX8_pass ∈ xT := xT_in (i := 1717) (by decide +kernel) (by decide +kernel)
theorem mI_X8_pass : Cond.instanceMethod yX8_pass ∈ xT := xT_in (i := 1718) (by decide +kernel) (by decide +kernel)
theorem mV_X8_pass : Cond.selects RX8 yX8_pass yX8_pass ∈ xT := xT_in (i := 1719) (by decide +kernel) (by decide +kernel)
theorem mC_X8_pass : Cond.code yX8_pass cX8_pass 2 (some .int) ∈ xT := xT_in (i := 1720) (by decide +kernel) (by decide +kernel)
theorem mM_X8_186 : Cond.methodLink RX8 186 yX8_passes ∈ xT := xT_in (i := 1721) (by decide +kernel) (by decide +kernel)
theorem mI_X8_passes : Cond.instanceMethod yX8_passes ∈ xT := xT_in (i := 1723) (by decide +kernel) (by decide +kernel)
theorem mC_X8_passes : Cond.code yX8_passes cX8_passes 3 (some .int) ∈ xT := xT_in (i := 1724) (by decide +kernel) (by decide +kernel)
theorem mM_X8_183 : Cond.methodLink RX8 183 yX8_hour ∈ xT := xT_in (i := 1725) (by decide +kernel) (by decide +kernel)
theorem mI_X8_hour : Cond.instanceMethod yX8_hour ∈ xT := xT_in (i := 1727) (by decide +kernel) (by decide +kernel)
theorem mC_X8_hour : Cond.code yX8_hour cX8_hour 2 none ∈ xT := xT_in (i := 1728) (by decide +kernel) (by decide +kernel)
theorem mM_L_211 : Cond.methodLink RL 211 yX8_isWell ∈ xT := xT_in (i := 1729) (by decide +kernel) (by decide +kernel)
theorem mI_X8_isWell : Cond.instanceMethod yX8_isWell ∈ xT := xT_in (i := 1730) (by decide +kernel) (by decide +kernel)
theorem mV_X8_isWell : Cond.selects RX8 yX8_isWell yX8_isWell ∈ xT := xT_in (i := 1731) (by decide +kernel) (by decide +kernel)
theorem mC_X8_isWell : Cond.code yX8_isWell cX8_isWell 3 (some .boolean) ∈ xT := xT_in (i := 1732) (by decide +kernel) (by decide +kernel)
theorem mM_X8_189 : Cond.methodLink RX8 189 yX8_stored ∈ xT := xT_in (i := 1733) (by decide +kernel) (by decide +kernel)
theorem mI_X8_stored : Cond.instanceMethod yX8_stored ∈ xT := xT_in (i := 1735) (by decide +kernel) (by decide +kernel)
theorem mC_X8_stored : Cond.code yX8_stored cX8_stored 3 (some .int) ∈ xT := xT_in (i := 1736) (by decide +kernel) (by decide +kernel)
theorem mM_X8_192 : Cond.methodLink RX8 192 yX8_packed ∈ xT := xT_in (i := 1737) (by decide +kernel) (by decide +kernel)
theorem mI_X8_packed : Cond.instanceMethod yX8_packed ∈ xT := xT_in (i := 1739) (by decide +kernel) (by decide +kernel)
theorem mC_X8_packed : Cond.code yX8_packed cX8_packed 3 (some .int) ∈ xT := xT_in (i := 1740) (by decide +kernel) (by decide +kernel)
theorem mM_L_215 : Cond.methodLink RL 215 yX8_meanDamp ∈ xT := xT_in (i := 1741) (by decide +kernel) (by decide +kernel)
theorem mI_X8_meanDamp : Cond.instanceMethod yX8_meanDamp ∈ xT := xT_in (i := 1742) (by decide +kernel) (by decide +kernel)
theorem mV_X8_meanDamp : Cond.selects RX8 yX8_meanDamp yX8_meanDamp ∈ xT := xT_in (i := 1743) (by decide +kernel) (by decide +kernel)
theorem mC_X8_meanDamp : Cond.code yX8_meanDamp cX8_meanDamp 4 (some .double) ∈ xT := xT_in (i := 1744) (by decide +kernel) (by decide +kernel)
theorem mM_L_218 : Cond.methodLink RL 218 yX8_sailedShare ∈ xT := xT_in (i := 1745) (by decide +kernel) (by decide +kernel)
theorem mI_X8_sailedShare : Cond.instanceMethod yX8_sailedShare ∈ xT := xT_in (i := 1746) (by decide +kernel) (by decide +kernel)
theorem mV_X8_sailedShare : Cond.selects RX8 yX8_sailedShare yX8_sailedShare ∈ xT := xT_in (i := 1747) (by decide +kernel) (by decide +kernel)
theorem mC_X8_sailedShare : Cond.code yX8_sailedShare cX8_sailedShare 1 (some .float) ∈ xT := xT_in (i := 1748) (by decide +kernel) (by decide +kernel)
theorem mM_L_222 : Cond.methodLink RL 222 yX8_reason ∈ xT := xT_in (i := 1749) (by decide +kernel) (by decide +kernel)
theorem mI_X8_reason : Cond.instanceMethod yX8_reason ∈ xT := xT_in (i := 1750) (by decide +kernel) (by decide +kernel)
theorem mV_X8_reason : Cond.selects RX8 yX8_reason yX8_reason ∈ xT := xT_in (i := 1751) (by decide +kernel) (by decide +kernel)
theorem mC_X8_reason : Cond.code yX8_reason cX8_reason 2 (some .int) ∈ xT := xT_in (i := 1752) (by decide +kernel) (by decide +kernel)
theorem mM_L_225 : Cond.methodLink RL 225 yX8_account ∈ xT := xT_in (i := 1753) (by decide +kernel) (by decide +kernel)
theorem mI_X8_account : Cond.instanceMethod yX8_account ∈ xT := xT_in (i := 1754) (by decide +kernel) (by decide +kernel)
theorem mV_X8_account : Cond.selects RX8 yX8_account yX8_account ∈ xT := xT_in (i := 1755) (by decide +kernel) (by decide +kernel)
theorem mC_X8_account : Cond.code yX8_account cX8_account 2 (some .int) ∈ xT := xT_in (i := 1756) (by decide +kernel) (by decide +kernel)
theorem mM_L_229 : Cond.methodLink RL 229 yX8_feed ∈ xT := xT_in (i := 1757) (by decide +kernel) (by decide +kernel)
theorem mI_X8_feed : Cond.instanceMethod yX8_feed ∈ xT := xT_in (i := 1758) (by decide +kernel) (by decide +kernel)
theorem mV_X8_feed : Cond.selects RX8 yX8_feed yX8_feed ∈ xT := xT_in (i := 1759) (by decide +kernel) (by decide +kernel)
theorem mC_X8_feed : Cond.code yX8_feed cX8_feed 2 (some .int) ∈ xT := xT_in (i := 1760) (by decide +kernel) (by decide +kernel)
theorem mM_L_235 : Cond.methodLink RL 235 yX8_perform ∈ xT := xT_in (i := 1761) (by decide +kernel) (by decide +kernel)
theorem mI_X8_perform : Cond.instanceMethod yX8_perform ∈ xT := xT_in (i := 1762) (by decide +kernel) (by decide +kernel)
theorem mV_X8_perform : Cond.selects RX8 yX8_perform yX8_perform ∈ xT := xT_in (i := 1763) (by decide +kernel) (by decide +kernel)
theorem mC_X8_perform : Cond.code yX8_perform cX8_perform 2 (some .int) ∈ xT := xT_in (i := 1764) (by decide +kernel) (by decide +kernel)
theorem mM_X8_226 : Cond.methodLink RX8 226 yX8_commands ∈ xT := xT_in (i := 1765) (by decide +kernel) (by decide +kernel)
theorem mI_X8_commands : Cond.instanceMethod yX8_commands ∈ xT := xT_in (i := 1767) (by decide +kernel) (by decide +kernel)
theorem mC_X8_commands : Cond.code yX8_commands cX8_commands 2 (some .int) ∈ xT := xT_in (i := 1768) (by decide +kernel) (by decide +kernel)
theorem mM_X8_223 : Cond.methodLink RX8 223 yX8_command ∈ xT := xT_in (i := 1769) (by decide +kernel) (by decide +kernel)
theorem mI_X8_command : Cond.instanceMethod yX8_command ∈ xT := xT_in (i := 1771) (by decide +kernel) (by decide +kernel)
theorem mC_X8_command : Cond.code yX8_command cX8_command 3 none ∈ xT := xT_in (i := 1772) (by decide +kernel) (by decide +kernel)
theorem mM_X8_208 : Cond.methodLink RX8 208 yX8_word ∈ xT := xT_in (i := 1773) (by decide +kernel) (by decide +kernel)
theorem mI_X8_word : Cond.instanceMethod yX8_word ∈ xT := xT_in (i := 1775) (by decide +kernel) (by decide +kernel)
theorem mC_X8_word : Cond.code yX8_word cX8_word 8 (some .int) ∈ xT := xT_in (i := 1776) (by decide +kernel) (by decide +kernel)
theorem mM_X8_201 : Cond.methodLink RX8 201 yX8_sign ∈ xT := xT_in (i := 1777) (by decide +kernel) (by decide +kernel)
theorem mI_X8_sign : Cond.instanceMethod yX8_sign ∈ xT := xT_in (i := 1779) (by decide +kernel) (by decide +kernel)
theorem mC_X8_sign : Cond.code yX8_sign cX8_sign 1 (some .int) ∈ xT := xT_in (i := 1780) (by decide +kernel) (by decide +kernel)
theorem mM_X8_211 : Cond.methodLink RX8 211 yX8_number ∈ xT := xT_in (i := 1781) (by decide +kernel) (by decide +kernel)
theorem mI_X8_number : Cond.instanceMethod yX8_number ∈ xT := xT_in (i := 1783) (by decide +kernel) (by decide +kernel)
theorem mC_X8_number : Cond.code yX8_number cX8_number 4 (some .int) ∈ xT := xT_in (i := 1784) (by decide +kernel) (by decide +kernel)
theorem mM_X8_214 : Cond.methodLink RX8 214 yX8_mark ∈ xT := xT_in (i := 1785) (by decide +kernel) (by decide +kernel)
theorem mI_X8_mark : Cond.instanceMethod yX8_mark ∈ xT := xT_in (i := 1787) (by decide +kernel) (by decide +kernel)
theorem mC_X8_mark : Cond.code yX8_mark cX8_mark 2 none ∈ xT := xT_in (i := 1788) (by decide +kernel) (by decide +kernel)
theorem mM_X8_220 : Cond.methodLink RX8 220 yX8_does ∈ xT := xT_in (i := 1789) (by decide +kernel) (by decide +kernel)
theorem mI_X8_does : Cond.instanceMethod yX8_does ∈ xT := xT_in (i := 1791) (by decide +kernel) (by decide +kernel)
theorem mC_X8_does : Cond.code yX8_does cX8_does 2 (some .int) ∈ xT := xT_in (i := 1792) (by decide +kernel) (by decide +kernel)
theorem mM_L_238 : Cond.methodLink RL 238 yX8_undo ∈ xT := xT_in (i := 1793) (by decide +kernel) (by decide +kernel)
theorem mI_X8_undo : Cond.instanceMethod yX8_undo ∈ xT := xT_in (i := 1794) (by decide +kernel) (by decide +kernel)
theorem mV_X8_undo : Cond.selects RX8 yX8_undo yX8_undo ∈ xT := xT_in (i := 1795) (by decide +kernel) (by decide +kernel)
theorem mC_X8_undo : Cond.code yX8_undo cX8_undo 2 (some .int) ∈ xT := xT_in (i := 1796) (by decide +kernel) (by decide +kernel)
theorem mM_L_242 : Cond.methodLink RL 242 yX8_save ∈ xT := xT_in (i := 1797) (by decide +kernel) (by decide +kernel)
theorem mI_X8_save : Cond.instanceMethod yX8_save ∈ xT := xT_in (i := 1798) (by decide +kernel) (by decide +kernel)
theorem mV_X8_save : Cond.selects RX8 yX8_save yX8_save ∈ xT := xT_in (i := 1799) (by decide +kernel) (by decide +kernel)
theorem mC_X8_save : Cond.code yX8_save cX8_save 1 (some .int) ∈ xT := xT_in (i := 1800) (by decide +kernel) (by decide +kernel)
theorem mM_L_245 : Cond.methodLink RL 245 yX8_restore ∈ xT := xT_in (i := 1801) (by decide +kernel) (by decide +kernel)
theorem mI_X8_restore : Cond.instanceMethod yX8_restore ∈ xT := xT_in (i := 1802) (by decide +kernel) (by decide +kernel)
theorem mV_X8_restore : Cond.selects RX8 yX8_restore yX8_restore ∈ xT := xT_in (i := 1803) (by decide +kernel) (by decide +kernel)
theorem mC_X8_restore : Cond.code yX8_restore cX8_restore 1 (some .int) ∈ xT := xT_in (i := 1804) (by decide +kernel) (by decide +kernel)
theorem mR_long : Cond.arrayClass .long ∈ xT := xT_in (i := 1805) (by decide +kernel) (by decide +kernel)
theorem mR_double : Cond.arrayClass .double ∈ xT := xT_in (i := 1806) (by decide +kernel) (by decide +kernel)
theorem mE_Throwable_Throwable_fillInStackTrace_16808 : Cond.sameMethod "java/lang/Throwable" "java/lang/Throwable" "fillInStackTrace" "(I)Ljava/lang/Throwable;" ∈ xT := xT_in (i := 1807) (by decide +kernel) (by decide +kernel)
theorem mE_J5_J5_append_8696 : Cond.sameMethod RJ5 RJ5 "append" "(I)Ljava/lang/AbstractStringBuilder;" ∈ xT := xT_in (i := 1808) (by decide +kernel) (by decide +kernel)
theorem mE_J5_J5_ensureCapacityInternal_48660 : Cond.sameMethod RJ5 RJ5 "ensureCapacityInternal" "(I)V" ∈ xT := xT_in (i := 1809) (by decide +kernel) (by decide +kernel)
theorem mE_J5_J5_newCapacity_69139 : Cond.sameMethod RJ5 RJ5 "newCapacity" "(I)I" ∈ xT := xT_in (i := 1810) (by decide +kernel) (by decide +kernel)
theorem mE_J5_J5_append_30200 : Cond.sameMethod RJ5 RJ5 "append" "(C)Ljava/lang/AbstractStringBuilder;" ∈ xT := xT_in (i := 1811) (by decide +kernel) (by decide +kernel)
theorem mE_J5_J5_inflate_25279 : Cond.sameMethod RJ5 RJ5 "inflate" "()V" ∈ xT := xT_in (i := 1812) (by decide +kernel) (by decide +kernel)
theorem mE_J5_J5_append_81406 : Cond.sameMethod RJ5 RJ5 "append" "(Ljava/lang/String;)Ljava/lang/AbstractStringBuilder;" ∈ xT := xT_in (i := 1813) (by decide +kernel) (by decide +kernel)
theorem mE_J5_J5_appendNull_17962 : Cond.sameMethod RJ5 RJ5 "appendNull" "()Ljava/lang/AbstractStringBuilder;" ∈ xT := xT_in (i := 1814) (by decide +kernel) (by decide +kernel)
theorem mE_J5_J5_putStringAt_37518 : Cond.sameMethod RJ5 RJ5 "putStringAt" "(ILjava/lang/String;)V" ∈ xT := xT_in (i := 1815) (by decide +kernel) (by decide +kernel)
theorem mE_J5_J5_inflateIfNeededFor_17161 : Cond.sameMethod RJ5 RJ5 "inflateIfNeededFor" "(Ljava/lang/String;)V" ∈ xT := xT_in (i := 1816) (by decide +kernel) (by decide +kernel)
theorem mF_X1_66 : Cond.fieldLink RX1 66 "TeaChests$Kind" "word" "Ljava/lang/String;" ∈ xT := xT_in (i := 1836) (by decide +kernel) (by decide +kernel)
theorem mF_X2_94 : Cond.fieldLink RX2 94 "TeaChests$Verb" "word" "Ljava/lang/String;" ∈ xT := xT_in (i := 1837) (by decide +kernel) (by decide +kernel)
theorem mF_Jx29ce0_7 : Cond.fieldLink RJx29ce0 7 "java/lang/Enum" "ordinal" "I" ∈ xT := xT_in (i := 1838) (by decide +kernel) (by decide +kernel)
theorem mF_X2_106 : Cond.fieldLink RX2 106 "TeaChests$Kind" "word" "Ljava/lang/String;" ∈ xT := xT_in (i := 1839) (by decide +kernel) (by decide +kernel)
theorem xT_list {ws : List Cond} (ps : List Nat) (hp : ws = ps.filterMap (fun i => lw_tbl[i]?)) (hg : ws.all goodWord = true) : ∀ w ∈ ws, w ∈ xT := fun w h => by
  have h1 := List.all_eq_true.mp hg w h
  rw [hp] at h
  obtain ⟨i, -, hi⟩ := List.mem_filterMap.mp h
  exact xT_in hi h1
theorem inX1 : ∀ w ∈ u_ws RX1 TX1 10, w ∈ xT := xT_list [161, 163, 165, 167, 169, 171, 173, 175, 177, 179] (by decide +kernel) (by decide +kernel)
theorem inX2 : ∀ w ∈ u_ws RX2 TX2 9, w ∈ xT := xT_list [280, 282, 284, 286, 288, 290, 292, 294, 296] (by decide +kernel) (by decide +kernel)
theorem inX3 : ∀ w ∈ u_ws RX3 TX3 3, w ∈ xT := xT_list [252, 254, 256] (by decide +kernel) (by decide +kernel)
theorem inX4 : ∀ w ∈ u_ws RX4 TX4 14, w ∈ xT := xT_list [210, 212, 214, 216, 218, 220, 222, 224, 226, 228, 230, 232, 234, 236] (by decide +kernel) (by decide +kernel)
theorem inX7 : ∀ w ∈ u_ws RX7 TX7 5, w ∈ xT := xT_list [305, 307, 309, 311, 313] (by decide +kernel) (by decide +kernel)
theorem inX8 : ∀ w ∈ u_ws RX8 TX8 21, w ∈ xT := xT_list [1436, 1438, 1440, 1442, 1444, 1446, 1448, 1450, 1452, 1454, 1456, 1458, 1460, 1462, 1464, 1466, 1468, 1470, 1472, 1474, 1476] (by decide +kernel) (by decide +kernel)
theorem inJ0 : ∀ w ∈ u_ws RJ0 TJ0 4, w ∈ xT := xT_list [483, 485, 1010, 1012] (by decide +kernel) (by decide +kernel)
theorem inJ4 : ∀ w ∈ u_ws RJ4 TJ4 4, w ∈ xT := xT_list [779, 781, 783, 785] (by decide +kernel) (by decide +kernel)
theorem yd_X1_init : yX1_init.cls ≠ "java/lang/invoke/MethodHandle" ∧ yX1_init.cls ≠ "java/lang/invoke/VarHandle" ∧ (parseMethodDescriptor yX1_init.desc).map (fun d => d.parameters.length) = some 1 := by decide +kernel
theorem yd_X1_copyFrom : yX1_copyFrom.cls ≠ "java/lang/invoke/MethodHandle" ∧ yX1_copyFrom.cls ≠ "java/lang/invoke/VarHandle" ∧ (parseMethodDescriptor yX1_copyFrom.desc).map (fun d => d.parameters.length) = some 1 := by decide +kernel
theorem yd_X1_room : yX1_room.cls ≠ "java/lang/invoke/MethodHandle" ∧ yX1_room.cls ≠ "java/lang/invoke/VarHandle" ∧ (parseMethodDescriptor yX1_room.desc).map (fun d => d.parameters.length) = some 0 := by decide +kernel
theorem yd_X1_isThere : yX1_isThere.cls ≠ "java/lang/invoke/MethodHandle" ∧ yX1_isThere.cls ≠ "java/lang/invoke/VarHandle" ∧ (parseMethodDescriptor yX1_isThere.desc).map (fun d => d.parameters.length) = some 0 := by decide +kernel
theorem yd_X1_isTight : yX1_isTight.cls ≠ "java/lang/invoke/MethodHandle" ∧ yX1_isTight.cls ≠ "java/lang/invoke/VarHandle" ∧ (parseMethodDescriptor yX1_isTight.desc).map (fun d => d.parameters.length) = some 0 := by decide +kernel
theorem yd_X1_hasLabel : yX1_hasLabel.cls ≠ "java/lang/invoke/MethodHandle" ∧ yX1_hasLabel.cls ≠ "java/lang/invoke/VarHandle" ∧ (parseMethodDescriptor yX1_hasLabel.desc).map (fun d => d.parameters.length) = some 0 := by decide +kernel
theorem yd_X1_coins : yX1_coins.cls ≠ "java/lang/invoke/MethodHandle" ∧ yX1_coins.cls ≠ "java/lang/invoke/VarHandle" ∧ (parseMethodDescriptor yX1_coins.desc).map (fun d => d.parameters.length) = some 0 := by decide +kernel
theorem yd_X1_putIn : yX1_putIn.cls ≠ "java/lang/invoke/MethodHandle" ∧ yX1_putIn.cls ≠ "java/lang/invoke/VarHandle" ∧ (parseMethodDescriptor yX1_putIn.desc).map (fun d => d.parameters.length) = some 3 := by decide +kernel
theorem yd_X1_takeAllOut : yX1_takeAllOut.cls ≠ "java/lang/invoke/MethodHandle" ∧ yX1_takeAllOut.cls ≠ "java/lang/invoke/VarHandle" ∧ (parseMethodDescriptor yX1_takeAllOut.desc).map (fun d => d.parameters.length) = some 0 := by decide +kernel
theorem yd_X1_writeLabel : yX1_writeLabel.cls ≠ "java/lang/invoke/MethodHandle" ∧ yX1_writeLabel.cls ≠ "java/lang/invoke/VarHandle" ∧ (parseMethodDescriptor yX1_writeLabel.desc).map (fun d => d.parameters.length) = some 0 := by decide +kernel
theorem yd_X1_becomeDamper : yX1_becomeDamper.cls ≠ "java/lang/invoke/MethodHandle" ∧ yX1_becomeDamper.cls ≠ "java/lang/invoke/VarHandle" ∧ (parseMethodDescriptor yX1_becomeDamper.desc).map (fun d => d.parameters.length) = some 0 := by decide +kernel
theorem yd_X1_ranksBefore : yX1_ranksBefore.cls ≠ "java/lang/invoke/MethodHandle" ∧ yX1_ranksBefore.cls ≠ "java/lang/invoke/VarHandle" ∧ (parseMethodDescriptor yX1_ranksBefore.desc).map (fun d => d.parameters.length) = some 1 := by decide +kernel
theorem yd_X2_init : yX2_init.cls ≠ "java/lang/invoke/MethodHandle" ∧ yX2_init.cls ≠ "java/lang/invoke/VarHandle" ∧ (parseMethodDescriptor yX2_init.desc).map (fun d => d.parameters.length) = some 0 := by decide +kernel
theorem yd_X2_append : yX2_append.cls ≠ "java/lang/invoke/MethodHandle" ∧ yX2_append.cls ≠ "java/lang/invoke/VarHandle" ∧ (parseMethodDescriptor yX2_append.desc).map (fun d => d.parameters.length) = some 1 := by decide +kernel
theorem yd_X2_clear : yX2_clear.cls ≠ "java/lang/invoke/MethodHandle" ∧ yX2_clear.cls ≠ "java/lang/invoke/VarHandle" ∧ (parseMethodDescriptor yX2_clear.desc).map (fun d => d.parameters.length) = some 0 := by decide +kernel
theorem yd_X2_rewind : yX2_rewind.cls ≠ "java/lang/invoke/MethodHandle" ∧ yX2_rewind.cls ≠ "java/lang/invoke/VarHandle" ∧ (parseMethodDescriptor yX2_rewind.desc).map (fun d => d.parameters.length) = some 0 := by decide +kernel
theorem yd_X2_countCommands : yX2_countCommands.cls ≠ "java/lang/invoke/MethodHandle" ∧ yX2_countCommands.cls ≠ "java/lang/invoke/VarHandle" ∧ (parseMethodDescriptor yX2_countCommands.desc).map (fun d => d.parameters.length) = some 0 := by decide +kernel
theorem yd_X2_readCommand : yX2_readCommand.cls ≠ "java/lang/invoke/MethodHandle" ∧ yX2_readCommand.cls ≠ "java/lang/invoke/VarHandle" ∧ (parseMethodDescriptor yX2_readCommand.desc).map (fun d => d.parameters.length) = some 0 := by decide +kernel
theorem yd_X2_readSign : yX2_readSign.cls ≠ "java/lang/invoke/MethodHandle" ∧ yX2_readSign.cls ≠ "java/lang/invoke/VarHandle" ∧ (parseMethodDescriptor yX2_readSign.desc).map (fun d => d.parameters.length) = some 1 := by decide +kernel
theorem yd_X2_signAt : yX2_signAt.cls ≠ "java/lang/invoke/MethodHandle" ∧ yX2_signAt.cls ≠ "java/lang/invoke/VarHandle" ∧ (parseMethodDescriptor yX2_signAt.desc).map (fun d => d.parameters.length) = some 1 := by decide +kernel
theorem yd_X2_readLeaf : yX2_readLeaf.cls ≠ "java/lang/invoke/MethodHandle" ∧ yX2_readLeaf.cls ≠ "java/lang/invoke/VarHandle" ∧ (parseMethodDescriptor yX2_readLeaf.desc).map (fun d => d.parameters.length) = some 0 := by decide +kernel
theorem yd_X2_readChest : yX2_readChest.cls ≠ "java/lang/invoke/MethodHandle" ∧ yX2_readChest.cls ≠ "java/lang/invoke/VarHandle" ∧ (parseMethodDescriptor yX2_readChest.desc).map (fun d => d.parameters.length) = some 0 := by decide +kernel
theorem yd_X2_readManyAsNumber : yX2_readManyAsNumber.cls ≠ "java/lang/invoke/MethodHandle" ∧ yX2_readManyAsNumber.cls ≠ "java/lang/invoke/VarHandle" ∧ (parseMethodDescriptor yX2_readManyAsNumber.desc).map (fun d => d.parameters.length) = some 0 := by decide +kernel
theorem yd_X2_readManyAsDigit : yX2_readManyAsDigit.cls ≠ "java/lang/invoke/MethodHandle" ∧ yX2_readManyAsDigit.cls ≠ "java/lang/invoke/VarHandle" ∧ (parseMethodDescriptor yX2_readManyAsDigit.desc).map (fun d => d.parameters.length) = some 0 := by decide +kernel
theorem yd_X2_readNumber : yX2_readNumber.cls ≠ "java/lang/invoke/MethodHandle" ∧ yX2_readNumber.cls ≠ "java/lang/invoke/VarHandle" ∧ (parseMethodDescriptor yX2_readNumber.desc).map (fun d => d.parameters.length) = some 0 := by decide +kernel
theorem yd_X2_readDigit : yX2_readDigit.cls ≠ "java/lang/invoke/MethodHandle" ∧ yX2_readDigit.cls ≠ "java/lang/invoke/VarHandle" ∧ (parseMethodDescriptor yX2_readDigit.desc).map (fun d => d.parameters.length) = some 0 := by decide +kernel
theorem yd_X2_readVerb : yX2_readVerb.cls ≠ "java/lang/invoke/MethodHandle" ∧ yX2_readVerb.cls ≠ "java/lang/invoke/VarHandle" ∧ (parseMethodDescriptor yX2_readVerb.desc).map (fun d => d.parameters.length) = some 0 := by decide +kernel
theorem yd_X2_readKind : yX2_readKind.cls ≠ "java/lang/invoke/MethodHandle" ∧ yX2_readKind.cls ≠ "java/lang/invoke/VarHandle" ∧ (parseMethodDescriptor yX2_readKind.desc).map (fun d => d.parameters.length) = some 0 := by decide +kernel
theorem yd_X2_readWord : yX2_readWord.cls ≠ "java/lang/invoke/MethodHandle" ∧ yX2_readWord.cls ≠ "java/lang/invoke/VarHandle" ∧ (parseMethodDescriptor yX2_readWord.desc).map (fun d => d.parameters.length) = some 1 := by decide +kernel
theorem yd_X3_init : yX3_init.cls ≠ "java/lang/invoke/MethodHandle" ∧ yX3_init.cls ≠ "java/lang/invoke/VarHandle" ∧ (parseMethodDescriptor yX3_init.desc).map (fun d => d.parameters.length) = some 0 := by decide +kernel
theorem yd_X3_spareRow : yX3_spareRow.cls ≠ "java/lang/invoke/MethodHandle" ∧ yX3_spareRow.cls ≠ "java/lang/invoke/VarHandle" ∧ (parseMethodDescriptor yX3_spareRow.desc).map (fun d => d.parameters.length) = some 0 := by decide +kernel
theorem yd_X3_prepare : yX3_prepare.cls ≠ "java/lang/invoke/MethodHandle" ∧ yX3_prepare.cls ≠ "java/lang/invoke/VarHandle" ∧ (parseMethodDescriptor yX3_prepare.desc).map (fun d => d.parameters.length) = some 1 := by decide +kernel
theorem yd_X3_commit : yX3_commit.cls ≠ "java/lang/invoke/MethodHandle" ∧ yX3_commit.cls ≠ "java/lang/invoke/VarHandle" ∧ (parseMethodDescriptor yX3_commit.desc).map (fun d => d.parameters.length) = some 0 := by decide +kernel
theorem yd_X3_dropPrepared : yX3_dropPrepared.cls ≠ "java/lang/invoke/MethodHandle" ∧ yX3_dropPrepared.cls ≠ "java/lang/invoke/VarHandle" ∧ (parseMethodDescriptor yX3_dropPrepared.desc).map (fun d => d.parameters.length) = some 1 := by decide +kernel
theorem yd_X3_takeBack : yX3_takeBack.cls ≠ "java/lang/invoke/MethodHandle" ∧ yX3_takeBack.cls ≠ "java/lang/invoke/VarHandle" ∧ (parseMethodDescriptor yX3_takeBack.desc).map (fun d => d.parameters.length) = some 1 := by decide +kernel
theorem yd_X3_forget : yX3_forget.cls ≠ "java/lang/invoke/MethodHandle" ∧ yX3_forget.cls ≠ "java/lang/invoke/VarHandle" ∧ (parseMethodDescriptor yX3_forget.desc).map (fun d => d.parameters.length) = some 0 := by decide +kernel
theorem yd_X4_init : yX4_init.cls ≠ "java/lang/invoke/MethodHandle" ∧ yX4_init.cls ≠ "java/lang/invoke/VarHandle" ∧ (parseMethodDescriptor yX4_init.desc).map (fun d => d.parameters.length) = some 0 := by decide +kernel
theorem yd_X4_copyFrom : yX4_copyFrom.cls ≠ "java/lang/invoke/MethodHandle" ∧ yX4_copyFrom.cls ≠ "java/lang/invoke/VarHandle" ∧ (parseMethodDescriptor yX4_copyFrom.desc).map (fun d => d.parameters.length) = some 1 := by decide +kernel
theorem yd_X4_isLeaf : yX4_isLeaf.cls ≠ "java/lang/invoke/MethodHandle" ∧ yX4_isLeaf.cls ≠ "java/lang/invoke/VarHandle" ∧ (parseMethodDescriptor yX4_isLeaf.desc).map (fun d => d.parameters.length) = some 2 := by decide +kernel
theorem yd_X4_stored : yX4_stored.cls ≠ "java/lang/invoke/MethodHandle" ∧ yX4_stored.cls ≠ "java/lang/invoke/VarHandle" ∧ (parseMethodDescriptor yX4_stored.desc).map (fun d => d.parameters.length) = some 2 := by decide +kernel
theorem yd_X4_addToStore : yX4_addToStore.cls ≠ "java/lang/invoke/MethodHandle" ∧ yX4_addToStore.cls ≠ "java/lang/invoke/VarHandle" ∧ (parseMethodDescriptor yX4_addToStore.desc).map (fun d => d.parameters.length) = some 3 := by decide +kernel
theorem yd_X4_storedOf : yX4_storedOf.cls ≠ "java/lang/invoke/MethodHandle" ∧ yX4_storedOf.cls ≠ "java/lang/invoke/VarHandle" ∧ (parseMethodDescriptor yX4_storedOf.desc).map (fun d => d.parameters.length) = some 1 := by decide +kernel
theorem yd_X4_isBetterGarden : yX4_isBetterGarden.cls ≠ "java/lang/invoke/MethodHandle" ∧ yX4_isBetterGarden.cls ≠ "java/lang/invoke/VarHandle" ∧ (parseMethodDescriptor yX4_isBetterGarden.desc).map (fun d => d.parameters.length) = some 2 := by decide +kernel
theorem yd_X4_poundsStored : yX4_poundsStored.cls ≠ "java/lang/invoke/MethodHandle" ∧ yX4_poundsStored.cls ≠ "java/lang/invoke/VarHandle" ∧ (parseMethodDescriptor yX4_poundsStored.desc).map (fun d => d.parameters.length) = some 0 := by decide +kernel
theorem yd_X4_tryBring : yX4_tryBring.cls ≠ "java/lang/invoke/MethodHandle" ∧ yX4_tryBring.cls ≠ "java/lang/invoke/VarHandle" ∧ (parseMethodDescriptor yX4_tryBring.desc).map (fun d => d.parameters.length) = some 3 := by decide +kernel
theorem yd_X4_addSheets : yX4_addSheets.cls ≠ "java/lang/invoke/MethodHandle" ∧ yX4_addSheets.cls ≠ "java/lang/invoke/VarHandle" ∧ (parseMethodDescriptor yX4_addSheets.desc).map (fun d => d.parameters.length) = some 1 := by decide +kernel
theorem yd_X4_addScrews : yX4_addScrews.cls ≠ "java/lang/invoke/MethodHandle" ∧ yX4_addScrews.cls ≠ "java/lang/invoke/VarHandle" ∧ (parseMethodDescriptor yX4_addScrews.desc).map (fun d => d.parameters.length) = some 1 := by decide +kernel
theorem yd_X4_refuse : yX4_refuse.cls ≠ "java/lang/invoke/MethodHandle" ∧ yX4_refuse.cls ≠ "java/lang/invoke/VarHandle" ∧ (parseMethodDescriptor yX4_refuse.desc).map (fun d => d.parameters.length) = some 2 := by decide +kernel
theorem yd_X4_isInHouse : yX4_isInHouse.cls ≠ "java/lang/invoke/MethodHandle" ∧ yX4_isInHouse.cls ≠ "java/lang/invoke/VarHandle" ∧ (parseMethodDescriptor yX4_isInHouse.desc).map (fun d => d.parameters.length) = some 1 := by decide +kernel
theorem yd_X4_isUnscrewed : yX4_isUnscrewed.cls ≠ "java/lang/invoke/MethodHandle" ∧ yX4_isUnscrewed.cls ≠ "java/lang/invoke/VarHandle" ∧ (parseMethodDescriptor yX4_isUnscrewed.desc).map (fun d => d.parameters.length) = some 1 := by decide +kernel
theorem yd_X4_isUnlined : yX4_isUnlined.cls ≠ "java/lang/invoke/MethodHandle" ∧ yX4_isUnlined.cls ≠ "java/lang/invoke/VarHandle" ∧ (parseMethodDescriptor yX4_isUnlined.desc).map (fun d => d.parameters.length) = some 1 := by decide +kernel
theorem yd_X4_hasSheets : yX4_hasSheets.cls ≠ "java/lang/invoke/MethodHandle" ∧ yX4_hasSheets.cls ≠ "java/lang/invoke/VarHandle" ∧ (parseMethodDescriptor yX4_hasSheets.desc).map (fun d => d.parameters.length) = some 1 := by decide +kernel
theorem yd_X4_hasNoOtherLeaves : yX4_hasNoOtherLeaves.cls ≠ "java/lang/invoke/MethodHandle" ∧ yX4_hasNoOtherLeaves.cls ≠ "java/lang/invoke/VarHandle" ∧ (parseMethodDescriptor yX4_hasNoOtherLeaves.desc).map (fun d => d.parameters.length) = some 3 := by decide +kernel
theorem yd_X4_hasRoom : yX4_hasRoom.cls ≠ "java/lang/invoke/MethodHandle" ∧ yX4_hasRoom.cls ≠ "java/lang/invoke/VarHandle" ∧ (parseMethodDescriptor yX4_hasRoom.desc).map (fun d => d.parameters.length) = some 2 := by decide +kernel
theorem yd_X4_hasPounds : yX4_hasPounds.cls ≠ "java/lang/invoke/MethodHandle" ∧ yX4_hasPounds.cls ≠ "java/lang/invoke/VarHandle" ∧ (parseMethodDescriptor yX4_hasPounds.desc).map (fun d => d.parameters.length) = some 3 := by decide +kernel
theorem yd_X4_isFilled : yX4_isFilled.cls ≠ "java/lang/invoke/MethodHandle" ∧ yX4_isFilled.cls ≠ "java/lang/invoke/VarHandle" ∧ (parseMethodDescriptor yX4_isFilled.desc).map (fun d => d.parameters.length) = some 1 := by decide +kernel
theorem yd_X4_hasScrews : yX4_hasScrews.cls ≠ "java/lang/invoke/MethodHandle" ∧ yX4_hasScrews.cls ≠ "java/lang/invoke/VarHandle" ∧ (parseMethodDescriptor yX4_hasScrews.desc).map (fun d => d.parameters.length) = some 1 := by decide +kernel
theorem yd_X4_takesScrews : yX4_takesScrews.cls ≠ "java/lang/invoke/MethodHandle" ∧ yX4_takesScrews.cls ≠ "java/lang/invoke/VarHandle" ∧ (parseMethodDescriptor yX4_takesScrews.desc).map (fun d => d.parameters.length) = some 2 := by decide +kernel
theorem yd_X4_isReadyForQuay : yX4_isReadyForQuay.cls ≠ "java/lang/invoke/MethodHandle" ∧ yX4_isReadyForQuay.cls ≠ "java/lang/invoke/VarHandle" ∧ (parseMethodDescriptor yX4_isReadyForQuay.desc).map (fun d => d.parameters.length) = some 1 := by decide +kernel
theorem yd_X4_isOnQuay : yX4_isOnQuay.cls ≠ "java/lang/invoke/MethodHandle" ∧ yX4_isOnQuay.cls ≠ "java/lang/invoke/VarHandle" ∧ (parseMethodDescriptor yX4_isOnQuay.desc).map (fun d => d.parameters.length) = some 1 := by decide +kernel
theorem yd_X4_isShipReached : yX4_isShipReached.cls ≠ "java/lang/invoke/MethodHandle" ∧ yX4_isShipReached.cls ≠ "java/lang/invoke/VarHandle" ∧ (parseMethodDescriptor yX4_isShipReached.desc).map (fun d => d.parameters.length) = some 0 := by decide +kernel
theorem yd_X4_hasShipRoom : yX4_hasShipRoom.cls ≠ "java/lang/invoke/MethodHandle" ∧ yX4_hasShipRoom.cls ≠ "java/lang/invoke/VarHandle" ∧ (parseMethodDescriptor yX4_hasShipRoom.desc).map (fun d => d.parameters.length) = some 1 := by decide +kernel
theorem yd_X4_isShipLoaded : yX4_isShipLoaded.cls ≠ "java/lang/invoke/MethodHandle" ∧ yX4_isShipLoaded.cls ≠ "java/lang/invoke/VarHandle" ∧ (parseMethodDescriptor yX4_isShipLoaded.desc).map (fun d => d.parameters.length) = some 0 := by decide +kernel
theorem yd_X4_find : yX4_find.cls ≠ "java/lang/invoke/MethodHandle" ∧ yX4_find.cls ≠ "java/lang/invoke/VarHandle" ∧ (parseMethodDescriptor yX4_find.desc).map (fun d => d.parameters.length) = some 1 := by decide +kernel
theorem yd_X4_tryMake : yX4_tryMake.cls ≠ "java/lang/invoke/MethodHandle" ∧ yX4_tryMake.cls ≠ "java/lang/invoke/VarHandle" ∧ (parseMethodDescriptor yX4_tryMake.desc).map (fun d => d.parameters.length) = some 1 := by decide +kernel
theorem yd_X4_tryLine : yX4_tryLine.cls ≠ "java/lang/invoke/MethodHandle" ∧ yX4_tryLine.cls ≠ "java/lang/invoke/VarHandle" ∧ (parseMethodDescriptor yX4_tryLine.desc).map (fun d => d.parameters.length) = some 1 := by decide +kernel
theorem yd_X4_tryFill : yX4_tryFill.cls ≠ "java/lang/invoke/MethodHandle" ∧ yX4_tryFill.cls ≠ "java/lang/invoke/VarHandle" ∧ (parseMethodDescriptor yX4_tryFill.desc).map (fun d => d.parameters.length) = some 4 := by decide +kernel
theorem yd_X4_tryEmpty : yX4_tryEmpty.cls ≠ "java/lang/invoke/MethodHandle" ∧ yX4_tryEmpty.cls ≠ "java/lang/invoke/VarHandle" ∧ (parseMethodDescriptor yX4_tryEmpty.desc).map (fun d => d.parameters.length) = some 1 := by decide +kernel
theorem yd_X4_tryScrew : yX4_tryScrew.cls ≠ "java/lang/invoke/MethodHandle" ∧ yX4_tryScrew.cls ≠ "java/lang/invoke/VarHandle" ∧ (parseMethodDescriptor yX4_tryScrew.desc).map (fun d => d.parameters.length) = some 2 := by decide +kernel
theorem yd_X4_tryUnscrew : yX4_tryUnscrew.cls ≠ "java/lang/invoke/MethodHandle" ∧ yX4_tryUnscrew.cls ≠ "java/lang/invoke/VarHandle" ∧ (parseMethodDescriptor yX4_tryUnscrew.desc).map (fun d => d.parameters.length) = some 1 := by decide +kernel
theorem yd_X4_tryLabel : yX4_tryLabel.cls ≠ "java/lang/invoke/MethodHandle" ∧ yX4_tryLabel.cls ≠ "java/lang/invoke/VarHandle" ∧ (parseMethodDescriptor yX4_tryLabel.desc).map (fun d => d.parameters.length) = some 1 := by decide +kernel
theorem yd_X4_chestAtPlace : yX4_chestAtPlace.cls ≠ "java/lang/invoke/MethodHandle" ∧ yX4_chestAtPlace.cls ≠ "java/lang/invoke/VarHandle" ∧ (parseMethodDescriptor yX4_chestAtPlace.desc).map (fun d => d.parameters.length) = some 1 := by decide +kernel
theorem yd_X4_placeOf : yX4_placeOf.cls ≠ "java/lang/invoke/MethodHandle" ∧ yX4_placeOf.cls ≠ "java/lang/invoke/VarHandle" ∧ (parseMethodDescriptor yX4_placeOf.desc).map (fun d => d.parameters.length) = some 1 := by decide +kernel
theorem yd_X4_chestsAt : yX4_chestsAt.cls ≠ "java/lang/invoke/MethodHandle" ∧ yX4_chestsAt.cls ≠ "java/lang/invoke/VarHandle" ∧ (parseMethodDescriptor yX4_chestsAt.desc).map (fun d => d.parameters.length) = some 1 := by decide +kernel
theorem yd_X4_poundsInChests : yX4_poundsInChests.cls ≠ "java/lang/invoke/MethodHandle" ∧ yX4_poundsInChests.cls ≠ "java/lang/invoke/VarHandle" ∧ (parseMethodDescriptor yX4_poundsInChests.desc).map (fun d => d.parameters.length) = some 0 := by decide +kernel
theorem yd_X4_filledChests : yX4_filledChests.cls ≠ "java/lang/invoke/MethodHandle" ∧ yX4_filledChests.cls ≠ "java/lang/invoke/VarHandle" ∧ (parseMethodDescriptor yX4_filledChests.desc).map (fun d => d.parameters.length) = some 0 := by decide +kernel
theorem yd_X4_sumOfDamp : yX4_sumOfDamp.cls ≠ "java/lang/invoke/MethodHandle" ∧ yX4_sumOfDamp.cls ≠ "java/lang/invoke/VarHandle" ∧ (parseMethodDescriptor yX4_sumOfDamp.desc).map (fun d => d.parameters.length) = some 0 := by decide +kernel
theorem yd_X4_tryToQuay : yX4_tryToQuay.cls ≠ "java/lang/invoke/MethodHandle" ∧ yX4_tryToQuay.cls ≠ "java/lang/invoke/VarHandle" ∧ (parseMethodDescriptor yX4_tryToQuay.desc).map (fun d => d.parameters.length) = some 1 := by decide +kernel
theorem yd_X4_tryLoad : yX4_tryLoad.cls ≠ "java/lang/invoke/MethodHandle" ∧ yX4_tryLoad.cls ≠ "java/lang/invoke/VarHandle" ∧ (parseMethodDescriptor yX4_tryLoad.desc).map (fun d => d.parameters.length) = some 1 := by decide +kernel
theorem yd_X4_trySail : yX4_trySail.cls ≠ "java/lang/invoke/MethodHandle" ∧ yX4_trySail.cls ≠ "java/lang/invoke/VarHandle" ∧ (parseMethodDescriptor yX4_trySail.desc).map (fun d => d.parameters.length) = some 0 := by decide +kernel
theorem yd_X4_shipRoom : yX4_shipRoom.cls ≠ "java/lang/invoke/MethodHandle" ∧ yX4_shipRoom.cls ≠ "java/lang/invoke/VarHandle" ∧ (parseMethodDescriptor yX4_shipRoom.desc).map (fun d => d.parameters.length) = some 0 := by decide +kernel
theorem yd_X4_shipCoins : yX4_shipCoins.cls ≠ "java/lang/invoke/MethodHandle" ∧ yX4_shipCoins.cls ≠ "java/lang/invoke/VarHandle" ∧ (parseMethodDescriptor yX4_shipCoins.desc).map (fun d => d.parameters.length) = some 0 := by decide +kernel
theorem yd_X4_isOutsideInOrder : yX4_isOutsideInOrder.cls ≠ "java/lang/invoke/MethodHandle" ∧ yX4_isOutsideInOrder.cls ≠ "java/lang/invoke/VarHandle" ∧ (parseMethodDescriptor yX4_isOutsideInOrder.desc).map (fun d => d.parameters.length) = some 0 := by decide +kernel
theorem yd_X4_heightIn : yX4_heightIn.cls ≠ "java/lang/invoke/MethodHandle" ∧ yX4_heightIn.cls ≠ "java/lang/invoke/VarHandle" ∧ (parseMethodDescriptor yX4_heightIn.desc).map (fun d => d.parameters.length) = some 1 := by decide +kernel
theorem yd_X4_letPass : yX4_letPass.cls ≠ "java/lang/invoke/MethodHandle" ∧ yX4_letPass.cls ≠ "java/lang/invoke/VarHandle" ∧ (parseMethodDescriptor yX4_letPass.desc).map (fun d => d.parameters.length) = some 1 := by decide +kernel
theorem yd_X4_letDampIn : yX4_letDampIn.cls ≠ "java/lang/invoke/MethodHandle" ∧ yX4_letDampIn.cls ≠ "java/lang/invoke/VarHandle" ∧ (parseMethodDescriptor yX4_letDampIn.desc).map (fun d => d.parameters.length) = some 0 := by decide +kernel
theorem yd_X7_init : yX7_init.cls ≠ "java/lang/invoke/MethodHandle" ∧ yX7_init.cls ≠ "java/lang/invoke/VarHandle" ∧ (parseMethodDescriptor yX7_init.desc).map (fun d => d.parameters.length) = some 0 := by decide +kernel
theorem yd_X7_bring : yX7_bring.cls ≠ "java/lang/invoke/MethodHandle" ∧ yX7_bring.cls ≠ "java/lang/invoke/VarHandle" ∧ (parseMethodDescriptor yX7_bring.desc).map (fun d => d.parameters.length) = some 3 := by decide +kernel
theorem yd_X7_leaves : yX7_leaves.cls ≠ "java/lang/invoke/MethodHandle" ∧ yX7_leaves.cls ≠ "java/lang/invoke/VarHandle" ∧ (parseMethodDescriptor yX7_leaves.desc).map (fun d => d.parameters.length) = some 2 := by decide +kernel
theorem yd_X7_bestGarden : yX7_bestGarden.cls ≠ "java/lang/invoke/MethodHandle" ∧ yX7_bestGarden.cls ≠ "java/lang/invoke/VarHandle" ∧ (parseMethodDescriptor yX7_bestGarden.desc).map (fun d => d.parameters.length) = some 0 := by decide +kernel
theorem yd_X7_buy : yX7_buy.cls ≠ "java/lang/invoke/MethodHandle" ∧ yX7_buy.cls ≠ "java/lang/invoke/VarHandle" ∧ (parseMethodDescriptor yX7_buy.desc).map (fun d => d.parameters.length) = some 2 := by decide +kernel
theorem yd_X7_make : yX7_make.cls ≠ "java/lang/invoke/MethodHandle" ∧ yX7_make.cls ≠ "java/lang/invoke/VarHandle" ∧ (parseMethodDescriptor yX7_make.desc).map (fun d => d.parameters.length) = some 1 := by decide +kernel
theorem yd_X7_line : yX7_line.cls ≠ "java/lang/invoke/MethodHandle" ∧ yX7_line.cls ≠ "java/lang/invoke/VarHandle" ∧ (parseMethodDescriptor yX7_line.desc).map (fun d => d.parameters.length) = some 1 := by decide +kernel
theorem yd_X7_fill : yX7_fill.cls ≠ "java/lang/invoke/MethodHandle" ∧ yX7_fill.cls ≠ "java/lang/invoke/VarHandle" ∧ (parseMethodDescriptor yX7_fill.desc).map (fun d => d.parameters.length) = some 4 := by decide +kernel
theorem yd_X7_empty : yX7_empty.cls ≠ "java/lang/invoke/MethodHandle" ∧ yX7_empty.cls ≠ "java/lang/invoke/VarHandle" ∧ (parseMethodDescriptor yX7_empty.desc).map (fun d => d.parameters.length) = some 1 := by decide +kernel
theorem yd_X7_screw : yX7_screw.cls ≠ "java/lang/invoke/MethodHandle" ∧ yX7_screw.cls ≠ "java/lang/invoke/VarHandle" ∧ (parseMethodDescriptor yX7_screw.desc).map (fun d => d.parameters.length) = some 2 := by decide +kernel
theorem yd_X7_unscrew : yX7_unscrew.cls ≠ "java/lang/invoke/MethodHandle" ∧ yX7_unscrew.cls ≠ "java/lang/invoke/VarHandle" ∧ (parseMethodDescriptor yX7_unscrew.desc).map (fun d => d.parameters.length) = some 1 := by decide +kernel
theorem yd_X7_label : yX7_label.cls ≠ "java/lang/invoke/MethodHandle" ∧ yX7_label.cls ≠ "java/lang/invoke/VarHandle" ∧ (parseMethodDescriptor yX7_label.desc).map (fun d => d.parameters.length) = some 1 := by decide +kernel
theorem yd_X7_labelled : yX7_labelled.cls ≠ "java/lang/invoke/MethodHandle" ∧ yX7_labelled.cls ≠ "java/lang/invoke/VarHandle" ∧ (parseMethodDescriptor yX7_labelled.desc).map (fun d => d.parameters.length) = some 2 := by decide +kernel
theorem yd_X7_chest : yX7_chest.cls ≠ "java/lang/invoke/MethodHandle" ∧ yX7_chest.cls ≠ "java/lang/invoke/VarHandle" ∧ (parseMethodDescriptor yX7_chest.desc).map (fun d => d.parameters.length) = some 2 := by decide +kernel
theorem yd_X7_worth : yX7_worth.cls ≠ "java/lang/invoke/MethodHandle" ∧ yX7_worth.cls ≠ "java/lang/invoke/VarHandle" ∧ (parseMethodDescriptor yX7_worth.desc).map (fun d => d.parameters.length) = some 1 := by decide +kernel
theorem yd_X7_ranked : yX7_ranked.cls ≠ "java/lang/invoke/MethodHandle" ∧ yX7_ranked.cls ≠ "java/lang/invoke/VarHandle" ∧ (parseMethodDescriptor yX7_ranked.desc).map (fun d => d.parameters.length) = some 1 := by decide +kernel
theorem yd_X7_toQuay : yX7_toQuay.cls ≠ "java/lang/invoke/MethodHandle" ∧ yX7_toQuay.cls ≠ "java/lang/invoke/VarHandle" ∧ (parseMethodDescriptor yX7_toQuay.desc).map (fun d => d.parameters.length) = some 1 := by decide +kernel
theorem yd_X7_load : yX7_load.cls ≠ "java/lang/invoke/MethodHandle" ∧ yX7_load.cls ≠ "java/lang/invoke/VarHandle" ∧ (parseMethodDescriptor yX7_load.desc).map (fun d => d.parameters.length) = some 1 := by decide +kernel
theorem yd_X7_sail : yX7_sail.cls ≠ "java/lang/invoke/MethodHandle" ∧ yX7_sail.cls ≠ "java/lang/invoke/VarHandle" ∧ (parseMethodDescriptor yX7_sail.desc).map (fun d => d.parameters.length) = some 0 := by decide +kernel
theorem yd_X7_cargo : yX7_cargo.cls ≠ "java/lang/invoke/MethodHandle" ∧ yX7_cargo.cls ≠ "java/lang/invoke/VarHandle" ∧ (parseMethodDescriptor yX7_cargo.desc).map (fun d => d.parameters.length) = some 0 := by decide +kernel
theorem yd_X7_height : yX7_height.cls ≠ "java/lang/invoke/MethodHandle" ∧ yX7_height.cls ≠ "java/lang/invoke/VarHandle" ∧ (parseMethodDescriptor yX7_height.desc).map (fun d => d.parameters.length) = some 1 := by decide +kernel
theorem yd_X7_heightAgain : yX7_heightAgain.cls ≠ "java/lang/invoke/MethodHandle" ∧ yX7_heightAgain.cls ≠ "java/lang/invoke/VarHandle" ∧ (parseMethodDescriptor yX7_heightAgain.desc).map (fun d => d.parameters.length) = some 1 := by decide +kernel
theorem yd_X7_reachedIn : yX7_reachedIn.cls ≠ "java/lang/invoke/MethodHandle" ∧ yX7_reachedIn.cls ≠ "java/lang/invoke/VarHandle" ∧ (parseMethodDescriptor yX7_reachedIn.desc).map (fun d => d.parameters.length) = some 0 := by decide +kernel
theorem yd_X7_setHumidity : yX7_setHumidity.cls ≠ "java/lang/invoke/MethodHandle" ∧ yX7_setHumidity.cls ≠ "java/lang/invoke/VarHandle" ∧ (parseMethodDescriptor yX7_setHumidity.desc).map (fun d => d.parameters.length) = some 1 := by decide +kernel
theorem yd_X7_pass : yX7_pass.cls ≠ "java/lang/invoke/MethodHandle" ∧ yX7_pass.cls ≠ "java/lang/invoke/VarHandle" ∧ (parseMethodDescriptor yX7_pass.desc).map (fun d => d.parameters.length) = some 1 := by decide +kernel
theorem yd_X7_isWell : yX7_isWell.cls ≠ "java/lang/invoke/MethodHandle" ∧ yX7_isWell.cls ≠ "java/lang/invoke/VarHandle" ∧ (parseMethodDescriptor yX7_isWell.desc).map (fun d => d.parameters.length) = some 0 := by decide +kernel
theorem yd_X7_meanDamp : yX7_meanDamp.cls ≠ "java/lang/invoke/MethodHandle" ∧ yX7_meanDamp.cls ≠ "java/lang/invoke/VarHandle" ∧ (parseMethodDescriptor yX7_meanDamp.desc).map (fun d => d.parameters.length) = some 0 := by decide +kernel
theorem yd_X7_sailedShare : yX7_sailedShare.cls ≠ "java/lang/invoke/MethodHandle" ∧ yX7_sailedShare.cls ≠ "java/lang/invoke/VarHandle" ∧ (parseMethodDescriptor yX7_sailedShare.desc).map (fun d => d.parameters.length) = some 0 := by decide +kernel
theorem yd_X7_reason : yX7_reason.cls ≠ "java/lang/invoke/MethodHandle" ∧ yX7_reason.cls ≠ "java/lang/invoke/VarHandle" ∧ (parseMethodDescriptor yX7_reason.desc).map (fun d => d.parameters.length) = some 1 := by decide +kernel
theorem yd_X7_account : yX7_account.cls ≠ "java/lang/invoke/MethodHandle" ∧ yX7_account.cls ≠ "java/lang/invoke/VarHandle" ∧ (parseMethodDescriptor yX7_account.desc).map (fun d => d.parameters.length) = some 1 := by decide +kernel
theorem yd_X7_feed : yX7_feed.cls ≠ "java/lang/invoke/MethodHandle" ∧ yX7_feed.cls ≠ "java/lang/invoke/VarHandle" ∧ (parseMethodDescriptor yX7_feed.desc).map (fun d => d.parameters.length) = some 1 := by decide +kernel
theorem yd_X7_perform : yX7_perform.cls ≠ "java/lang/invoke/MethodHandle" ∧ yX7_perform.cls ≠ "java/lang/invoke/VarHandle" ∧ (parseMethodDescriptor yX7_perform.desc).map (fun d => d.parameters.length) = some 0 := by decide +kernel
theorem yd_X7_undo : yX7_undo.cls ≠ "java/lang/invoke/MethodHandle" ∧ yX7_undo.cls ≠ "java/lang/invoke/VarHandle" ∧ (parseMethodDescriptor yX7_undo.desc).map (fun d => d.parameters.length) = some 0 := by decide +kernel
theorem yd_X7_save : yX7_save.cls ≠ "java/lang/invoke/MethodHandle" ∧ yX7_save.cls ≠ "java/lang/invoke/VarHandle" ∧ (parseMethodDescriptor yX7_save.desc).map (fun d => d.parameters.length) = some 0 := by decide +kernel
theorem yd_X7_restore : yX7_restore.cls ≠ "java/lang/invoke/MethodHandle" ∧ yX7_restore.cls ≠ "java/lang/invoke/VarHandle" ∧ (parseMethodDescriptor yX7_restore.desc).map (fun d => d.parameters.length) = some 0 := by decide +kernel
theorem yd_X7_isWithin : yX7_isWithin.cls ≠ "java/lang/invoke/MethodHandle" ∧ yX7_isWithin.cls ≠ "java/lang/invoke/VarHandle" ∧ (parseMethodDescriptor yX7_isWithin.desc).map (fun d => d.parameters.length) = some 3 := by decide +kernel
theorem yd_X7_needRange : yX7_needRange.cls ≠ "java/lang/invoke/MethodHandle" ∧ yX7_needRange.cls ≠ "java/lang/invoke/VarHandle" ∧ (parseMethodDescriptor yX7_needRange.desc).map (fun d => d.parameters.length) = some 3 := by decide +kernel
theorem yd_X7_needLeaf : yX7_needLeaf.cls ≠ "java/lang/invoke/MethodHandle" ∧ yX7_needLeaf.cls ≠ "java/lang/invoke/VarHandle" ∧ (parseMethodDescriptor yX7_needLeaf.desc).map (fun d => d.parameters.length) = some 2 := by decide +kernel
theorem yd_X7_needChest : yX7_needChest.cls ≠ "java/lang/invoke/MethodHandle" ∧ yX7_needChest.cls ≠ "java/lang/invoke/VarHandle" ∧ (parseMethodDescriptor yX7_needChest.desc).map (fun d => d.parameters.length) = some 1 := by decide +kernel
theorem yd_X7_keepChange : yX7_keepChange.cls ≠ "java/lang/invoke/MethodHandle" ∧ yX7_keepChange.cls ≠ "java/lang/invoke/VarHandle" ∧ (parseMethodDescriptor yX7_keepChange.desc).map (fun d => d.parameters.length) = some 0 := by decide +kernel
theorem yd_X7_conclude : yX7_conclude.cls ≠ "java/lang/invoke/MethodHandle" ∧ yX7_conclude.cls ≠ "java/lang/invoke/VarHandle" ∧ (parseMethodDescriptor yX7_conclude.desc).map (fun d => d.parameters.length) = some 1 := by decide +kernel
theorem yd_X7_carryOutAll : yX7_carryOutAll.cls ≠ "java/lang/invoke/MethodHandle" ∧ yX7_carryOutAll.cls ≠ "java/lang/invoke/VarHandle" ∧ (parseMethodDescriptor yX7_carryOutAll.desc).map (fun d => d.parameters.length) = some 1 := by decide +kernel
theorem yd_X7_carryOutRead : yX7_carryOutRead.cls ≠ "java/lang/invoke/MethodHandle" ∧ yX7_carryOutRead.cls ≠ "java/lang/invoke/VarHandle" ∧ (parseMethodDescriptor yX7_carryOutRead.desc).map (fun d => d.parameters.length) = some 0 := by decide +kernel
theorem yd_X8_init : yX8_init.cls ≠ "java/lang/invoke/MethodHandle" ∧ yX8_init.cls ≠ "java/lang/invoke/VarHandle" ∧ (parseMethodDescriptor yX8_init.desc).map (fun d => d.parameters.length) = some 0 := by decide +kernel
theorem yd_X8_thrown : yX8_thrown.cls ≠ "java/lang/invoke/MethodHandle" ∧ yX8_thrown.cls ≠ "java/lang/invoke/VarHandle" ∧ (parseMethodDescriptor yX8_thrown.desc).map (fun d => d.parameters.length) = some 0 := by decide +kernel
theorem yd_X8_no : yX8_no.cls ≠ "java/lang/invoke/MethodHandle" ∧ yX8_no.cls ≠ "java/lang/invoke/VarHandle" ∧ (parseMethodDescriptor yX8_no.desc).map (fun d => d.parameters.length) = some 1 := by decide +kernel
theorem yd_X8_fail : yX8_fail.cls ≠ "java/lang/invoke/MethodHandle" ∧ yX8_fail.cls ≠ "java/lang/invoke/VarHandle" ∧ (parseMethodDescriptor yX8_fail.desc).map (fun d => d.parameters.length) = some 1 := by decide +kernel
theorem yd_X8_refuses : yX8_refuses.cls ≠ "java/lang/invoke/MethodHandle" ∧ yX8_refuses.cls ≠ "java/lang/invoke/VarHandle" ∧ (parseMethodDescriptor yX8_refuses.desc).map (fun d => d.parameters.length) = some 2 := by decide +kernel
theorem yd_X8_isIn : yX8_isIn.cls ≠ "java/lang/invoke/MethodHandle" ∧ yX8_isIn.cls ≠ "java/lang/invoke/VarHandle" ∧ (parseMethodDescriptor yX8_isIn.desc).map (fun d => d.parameters.length) = some 3 := by decide +kernel
theorem yd_X8_lesser : yX8_lesser.cls ≠ "java/lang/invoke/MethodHandle" ∧ yX8_lesser.cls ≠ "java/lang/invoke/VarHandle" ∧ (parseMethodDescriptor yX8_lesser.desc).map (fun d => d.parameters.length) = some 2 := by decide +kernel
theorem yd_X8_lays : yX8_lays.cls ≠ "java/lang/invoke/MethodHandle" ∧ yX8_lays.cls ≠ "java/lang/invoke/VarHandle" ∧ (parseMethodDescriptor yX8_lays.desc).map (fun d => d.parameters.length) = some 2 := by decide +kernel
theorem yd_X8_begins : yX8_begins.cls ≠ "java/lang/invoke/MethodHandle" ∧ yX8_begins.cls ≠ "java/lang/invoke/VarHandle" ∧ (parseMethodDescriptor yX8_begins.desc).map (fun d => d.parameters.length) = some 0 := by decide +kernel
theorem yd_X8_ends : yX8_ends.cls ≠ "java/lang/invoke/MethodHandle" ∧ yX8_ends.cls ≠ "java/lang/invoke/VarHandle" ∧ (parseMethodDescriptor yX8_ends.desc).map (fun d => d.parameters.length) = some 4 := by decide +kernel
theorem yd_X8_at : yX8_at.cls ≠ "java/lang/invoke/MethodHandle" ∧ yX8_at.cls ≠ "java/lang/invoke/VarHandle" ∧ (parseMethodDescriptor yX8_at.desc).map (fun d => d.parameters.length) = some 2 := by decide +kernel
theorem yd_X8_isChest : yX8_isChest.cls ≠ "java/lang/invoke/MethodHandle" ∧ yX8_isChest.cls ≠ "java/lang/invoke/VarHandle" ∧ (parseMethodDescriptor yX8_isChest.desc).map (fun d => d.parameters.length) = some 1 := by decide +kernel
theorem yd_X8_isLeaf : yX8_isLeaf.cls ≠ "java/lang/invoke/MethodHandle" ∧ yX8_isLeaf.cls ≠ "java/lang/invoke/VarHandle" ∧ (parseMethodDescriptor yX8_isLeaf.desc).map (fun d => d.parameters.length) = some 2 := by decide +kernel
theorem yd_X8_leaf : yX8_leaf.cls ≠ "java/lang/invoke/MethodHandle" ∧ yX8_leaf.cls ≠ "java/lang/invoke/VarHandle" ∧ (parseMethodDescriptor yX8_leaf.desc).map (fun d => d.parameters.length) = some 2 := by decide +kernel
theorem yd_X8_isEmpty : yX8_isEmpty.cls ≠ "java/lang/invoke/MethodHandle" ∧ yX8_isEmpty.cls ≠ "java/lang/invoke/VarHandle" ∧ (parseMethodDescriptor yX8_isEmpty.desc).map (fun d => d.parameters.length) = some 1 := by decide +kernel
theorem yd_X8_isTight : yX8_isTight.cls ≠ "java/lang/invoke/MethodHandle" ∧ yX8_isTight.cls ≠ "java/lang/invoke/VarHandle" ∧ (parseMethodDescriptor yX8_isTight.desc).map (fun d => d.parameters.length) = some 1 := by decide +kernel
theorem yd_X8_brings : yX8_brings.cls ≠ "java/lang/invoke/MethodHandle" ∧ yX8_brings.cls ≠ "java/lang/invoke/VarHandle" ∧ (parseMethodDescriptor yX8_brings.desc).map (fun d => d.parameters.length) = some 3 := by decide +kernel
theorem yd_X8_bring : yX8_bring.cls ≠ "java/lang/invoke/MethodHandle" ∧ yX8_bring.cls ≠ "java/lang/invoke/VarHandle" ∧ (parseMethodDescriptor yX8_bring.desc).map (fun d => d.parameters.length) = some 3 := by decide +kernel
theorem yd_X8_leaves : yX8_leaves.cls ≠ "java/lang/invoke/MethodHandle" ∧ yX8_leaves.cls ≠ "java/lang/invoke/VarHandle" ∧ (parseMethodDescriptor yX8_leaves.desc).map (fun d => d.parameters.length) = some 2 := by decide +kernel
theorem yd_X8_allOf : yX8_allOf.cls ≠ "java/lang/invoke/MethodHandle" ∧ yX8_allOf.cls ≠ "java/lang/invoke/VarHandle" ∧ (parseMethodDescriptor yX8_allOf.desc).map (fun d => d.parameters.length) = some 1 := by decide +kernel
theorem yd_X8_bestGarden : yX8_bestGarden.cls ≠ "java/lang/invoke/MethodHandle" ∧ yX8_bestGarden.cls ≠ "java/lang/invoke/VarHandle" ∧ (parseMethodDescriptor yX8_bestGarden.desc).map (fun d => d.parameters.length) = some 0 := by decide +kernel
theorem yd_X8_buys : yX8_buys.cls ≠ "java/lang/invoke/MethodHandle" ∧ yX8_buys.cls ≠ "java/lang/invoke/VarHandle" ∧ (parseMethodDescriptor yX8_buys.desc).map (fun d => d.parameters.length) = some 2 := by decide +kernel
theorem yd_X8_buy : yX8_buy.cls ≠ "java/lang/invoke/MethodHandle" ∧ yX8_buy.cls ≠ "java/lang/invoke/VarHandle" ∧ (parseMethodDescriptor yX8_buy.desc).map (fun d => d.parameters.length) = some 2 := by decide +kernel
theorem yd_X8_makes : yX8_makes.cls ≠ "java/lang/invoke/MethodHandle" ∧ yX8_makes.cls ≠ "java/lang/invoke/VarHandle" ∧ (parseMethodDescriptor yX8_makes.desc).map (fun d => d.parameters.length) = some 1 := by decide +kernel
theorem yd_X8_make : yX8_make.cls ≠ "java/lang/invoke/MethodHandle" ∧ yX8_make.cls ≠ "java/lang/invoke/VarHandle" ∧ (parseMethodDescriptor yX8_make.desc).map (fun d => d.parameters.length) = some 1 := by decide +kernel
theorem yd_X8_isShut : yX8_isShut.cls ≠ "java/lang/invoke/MethodHandle" ∧ yX8_isShut.cls ≠ "java/lang/invoke/VarHandle" ∧ (parseMethodDescriptor yX8_isShut.desc).map (fun d => d.parameters.length) = some 1 := by decide +kernel
theorem yd_X8_linesChest : yX8_linesChest.cls ≠ "java/lang/invoke/MethodHandle" ∧ yX8_linesChest.cls ≠ "java/lang/invoke/VarHandle" ∧ (parseMethodDescriptor yX8_linesChest.desc).map (fun d => d.parameters.length) = some 1 := by decide +kernel
theorem yd_X8_line : yX8_line.cls ≠ "java/lang/invoke/MethodHandle" ∧ yX8_line.cls ≠ "java/lang/invoke/VarHandle" ∧ (parseMethodDescriptor yX8_line.desc).map (fun d => d.parameters.length) = some 1 := by decide +kernel
theorem yd_X8_fills : yX8_fills.cls ≠ "java/lang/invoke/MethodHandle" ∧ yX8_fills.cls ≠ "java/lang/invoke/VarHandle" ∧ (parseMethodDescriptor yX8_fills.desc).map (fun d => d.parameters.length) = some 4 := by decide +kernel
theorem yd_X8_fill : yX8_fill.cls ≠ "java/lang/invoke/MethodHandle" ∧ yX8_fill.cls ≠ "java/lang/invoke/VarHandle" ∧ (parseMethodDescriptor yX8_fill.desc).map (fun d => d.parameters.length) = some 4 := by decide +kernel
theorem yd_X8_empties : yX8_empties.cls ≠ "java/lang/invoke/MethodHandle" ∧ yX8_empties.cls ≠ "java/lang/invoke/VarHandle" ∧ (parseMethodDescriptor yX8_empties.desc).map (fun d => d.parameters.length) = some 1 := by decide +kernel
theorem yd_X8_empty : yX8_empty.cls ≠ "java/lang/invoke/MethodHandle" ∧ yX8_empty.cls ≠ "java/lang/invoke/VarHandle" ∧ (parseMethodDescriptor yX8_empty.desc).map (fun d => d.parameters.length) = some 1 := by decide +kernel
theorem yd_X8_screws : yX8_screws.cls ≠ "java/lang/invoke/MethodHandle" ∧ yX8_screws.cls ≠ "java/lang/invoke/VarHandle" ∧ (parseMethodDescriptor yX8_screws.desc).map (fun d => d.parameters.length) = some 2 := by decide +kernel
theorem yd_X8_screw : yX8_screw.cls ≠ "java/lang/invoke/MethodHandle" ∧ yX8_screw.cls ≠ "java/lang/invoke/VarHandle" ∧ (parseMethodDescriptor yX8_screw.desc).map (fun d => d.parameters.length) = some 2 := by decide +kernel
theorem yd_X8_unscrews : yX8_unscrews.cls ≠ "java/lang/invoke/MethodHandle" ∧ yX8_unscrews.cls ≠ "java/lang/invoke/VarHandle" ∧ (parseMethodDescriptor yX8_unscrews.desc).map (fun d => d.parameters.length) = some 1 := by decide +kernel
theorem yd_X8_unscrew : yX8_unscrew.cls ≠ "java/lang/invoke/MethodHandle" ∧ yX8_unscrew.cls ≠ "java/lang/invoke/VarHandle" ∧ (parseMethodDescriptor yX8_unscrew.desc).map (fun d => d.parameters.length) = some 1 := by decide +kernel
theorem yd_X8_writes : yX8_writes.cls ≠ "java/lang/invoke/MethodHandle" ∧ yX8_writes.cls ≠ "java/lang/invoke/VarHandle" ∧ (parseMethodDescriptor yX8_writes.desc).map (fun d => d.parameters.length) = some 1 := by decide +kernel
theorem yd_X8_writesLabel : yX8_writesLabel.cls ≠ "java/lang/invoke/MethodHandle" ∧ yX8_writesLabel.cls ≠ "java/lang/invoke/VarHandle" ∧ (parseMethodDescriptor yX8_writesLabel.desc).map (fun d => d.parameters.length) = some 1 := by decide +kernel
theorem yd_X8_labels : yX8_labels.cls ≠ "java/lang/invoke/MethodHandle" ∧ yX8_labels.cls ≠ "java/lang/invoke/VarHandle" ∧ (parseMethodDescriptor yX8_labels.desc).map (fun d => d.parameters.length) = some 1 := by decide +kernel
theorem yd_X8_label : yX8_label.cls ≠ "java/lang/invoke/MethodHandle" ∧ yX8_label.cls ≠ "java/lang/invoke/VarHandle" ∧ (parseMethodDescriptor yX8_label.desc).map (fun d => d.parameters.length) = some 1 := by decide +kernel
theorem yd_X8_labelled : yX8_labelled.cls ≠ "java/lang/invoke/MethodHandle" ∧ yX8_labelled.cls ≠ "java/lang/invoke/VarHandle" ∧ (parseMethodDescriptor yX8_labelled.desc).map (fun d => d.parameters.length) = some 2 := by decide +kernel
theorem yd_X8_chest : yX8_chest.cls ≠ "java/lang/invoke/MethodHandle" ∧ yX8_chest.cls ≠ "java/lang/invoke/VarHandle" ∧ (parseMethodDescriptor yX8_chest.desc).map (fun d => d.parameters.length) = some 2 := by decide +kernel
theorem yd_X8_worthOf : yX8_worthOf.cls ≠ "java/lang/invoke/MethodHandle" ∧ yX8_worthOf.cls ≠ "java/lang/invoke/VarHandle" ∧ (parseMethodDescriptor yX8_worthOf.desc).map (fun d => d.parameters.length) = some 1 := by decide +kernel
theorem yd_X8_worth : yX8_worth.cls ≠ "java/lang/invoke/MethodHandle" ∧ yX8_worth.cls ≠ "java/lang/invoke/VarHandle" ∧ (parseMethodDescriptor yX8_worth.desc).map (fun d => d.parameters.length) = some 1 := by decide +kernel
theorem yd_X8_isAhead : yX8_isAhead.cls ≠ "java/lang/invoke/MethodHandle" ∧ yX8_isAhead.cls ≠ "java/lang/invoke/VarHandle" ∧ (parseMethodDescriptor yX8_isAhead.desc).map (fun d => d.parameters.length) = some 2 := by decide +kernel
theorem yd_X8_ranked : yX8_ranked.cls ≠ "java/lang/invoke/MethodHandle" ∧ yX8_ranked.cls ≠ "java/lang/invoke/VarHandle" ∧ (parseMethodDescriptor yX8_ranked.desc).map (fun d => d.parameters.length) = some 1 := by decide +kernel
theorem yd_X8_withWhere : yX8_withWhere.cls ≠ "java/lang/invoke/MethodHandle" ∧ yX8_withWhere.cls ≠ "java/lang/invoke/VarHandle" ∧ (parseMethodDescriptor yX8_withWhere.desc).map (fun d => d.parameters.length) = some 1 := by decide +kernel
theorem yd_X8_goesOut : yX8_goesOut.cls ≠ "java/lang/invoke/MethodHandle" ∧ yX8_goesOut.cls ≠ "java/lang/invoke/VarHandle" ∧ (parseMethodDescriptor yX8_goesOut.desc).map (fun d => d.parameters.length) = some 1 := by decide +kernel
theorem yd_X8_toQuay : yX8_toQuay.cls ≠ "java/lang/invoke/MethodHandle" ∧ yX8_toQuay.cls ≠ "java/lang/invoke/VarHandle" ∧ (parseMethodDescriptor yX8_toQuay.desc).map (fun d => d.parameters.length) = some 1 := by decide +kernel
theorem yd_X8_room : yX8_room.cls ≠ "java/lang/invoke/MethodHandle" ∧ yX8_room.cls ≠ "java/lang/invoke/VarHandle" ∧ (parseMethodDescriptor yX8_room.desc).map (fun d => d.parameters.length) = some 0 := by decide +kernel
theorem yd_X8_heightAt : yX8_heightAt.cls ≠ "java/lang/invoke/MethodHandle" ∧ yX8_heightAt.cls ≠ "java/lang/invoke/VarHandle" ∧ (parseMethodDescriptor yX8_heightAt.desc).map (fun d => d.parameters.length) = some 1 := by decide +kernel
theorem yd_X8_loads : yX8_loads.cls ≠ "java/lang/invoke/MethodHandle" ∧ yX8_loads.cls ≠ "java/lang/invoke/VarHandle" ∧ (parseMethodDescriptor yX8_loads.desc).map (fun d => d.parameters.length) = some 1 := by decide +kernel
theorem yd_X8_load : yX8_load.cls ≠ "java/lang/invoke/MethodHandle" ∧ yX8_load.cls ≠ "java/lang/invoke/VarHandle" ∧ (parseMethodDescriptor yX8_load.desc).map (fun d => d.parameters.length) = some 1 := by decide +kernel
theorem yd_X8_cargoOf : yX8_cargoOf.cls ≠ "java/lang/invoke/MethodHandle" ∧ yX8_cargoOf.cls ≠ "java/lang/invoke/VarHandle" ∧ (parseMethodDescriptor yX8_cargoOf.desc).map (fun d => d.parameters.length) = some 0 := by decide +kernel
theorem yd_X8_sails : yX8_sails.cls ≠ "java/lang/invoke/MethodHandle" ∧ yX8_sails.cls ≠ "java/lang/invoke/VarHandle" ∧ (parseMethodDescriptor yX8_sails.desc).map (fun d => d.parameters.length) = some 0 := by decide +kernel
theorem yd_X8_sail : yX8_sail.cls ≠ "java/lang/invoke/MethodHandle" ∧ yX8_sail.cls ≠ "java/lang/invoke/VarHandle" ∧ (parseMethodDescriptor yX8_sail.desc).map (fun d => d.parameters.length) = some 0 := by decide +kernel
theorem yd_X8_cargo : yX8_cargo.cls ≠ "java/lang/invoke/MethodHandle" ∧ yX8_cargo.cls ≠ "java/lang/invoke/VarHandle" ∧ (parseMethodDescriptor yX8_cargo.desc).map (fun d => d.parameters.length) = some 0 := by decide +kernel
theorem yd_X8_height : yX8_height.cls ≠ "java/lang/invoke/MethodHandle" ∧ yX8_height.cls ≠ "java/lang/invoke/VarHandle" ∧ (parseMethodDescriptor yX8_height.desc).map (fun d => d.parameters.length) = some 1 := by decide +kernel
theorem yd_X8_heightAgain : yX8_heightAgain.cls ≠ "java/lang/invoke/MethodHandle" ∧ yX8_heightAgain.cls ≠ "java/lang/invoke/VarHandle" ∧ (parseMethodDescriptor yX8_heightAgain.desc).map (fun d => d.parameters.length) = some 1 := by decide +kernel
theorem yd_X8_reachedIn : yX8_reachedIn.cls ≠ "java/lang/invoke/MethodHandle" ∧ yX8_reachedIn.cls ≠ "java/lang/invoke/VarHandle" ∧ (parseMethodDescriptor yX8_reachedIn.desc).map (fun d => d.parameters.length) = some 0 := by decide +kernel
theorem yd_X8_humid : yX8_humid.cls ≠ "java/lang/invoke/MethodHandle" ∧ yX8_humid.cls ≠ "java/lang/invoke/VarHandle" ∧ (parseMethodDescriptor yX8_humid.desc).map (fun d => d.parameters.length) = some 1 := by decide +kernel
theorem yd_X8_setHumidity : yX8_setHumidity.cls ≠ "java/lang/invoke/MethodHandle" ∧ yX8_setHumidity.cls ≠ "java/lang/invoke/VarHandle" ∧ (parseMethodDescriptor yX8_setHumidity.desc).map (fun d => d.parameters.length) = some 1 := by decide +kernel
theorem yd_X8_hour : yX8_hour.cls ≠ "java/lang/invoke/MethodHandle" ∧ yX8_hour.cls ≠ "java/lang/invoke/VarHandle" ∧ (parseMethodDescriptor yX8_hour.desc).map (fun d => d.parameters.length) = some 0 := by decide +kernel
theorem yd_X8_passes : yX8_passes.cls ≠ "java/lang/invoke/MethodHandle" ∧ yX8_passes.cls ≠ "java/lang/invoke/VarHandle" ∧ (parseMethodDescriptor yX8_passes.desc).map (fun d => d.parameters.length) = some 1 := by decide +kernel
theorem yd_X8_pass : yX8_pass.cls ≠ "java/lang/invoke/MethodHandle" ∧ yX8_pass.cls ≠ "java/lang/invoke/VarHandle" ∧ (parseMethodDescriptor yX8_pass.desc).map (fun d => d.parameters.length) = some 1 := by decide +kernel
theorem yd_X8_stored : yX8_stored.cls ≠ "java/lang/invoke/MethodHandle" ∧ yX8_stored.cls ≠ "java/lang/invoke/VarHandle" ∧ (parseMethodDescriptor yX8_stored.desc).map (fun d => d.parameters.length) = some 0 := by decide +kernel
theorem yd_X8_packed : yX8_packed.cls ≠ "java/lang/invoke/MethodHandle" ∧ yX8_packed.cls ≠ "java/lang/invoke/VarHandle" ∧ (parseMethodDescriptor yX8_packed.desc).map (fun d => d.parameters.length) = some 0 := by decide +kernel
theorem yd_X8_isWell : yX8_isWell.cls ≠ "java/lang/invoke/MethodHandle" ∧ yX8_isWell.cls ≠ "java/lang/invoke/VarHandle" ∧ (parseMethodDescriptor yX8_isWell.desc).map (fun d => d.parameters.length) = some 0 := by decide +kernel
theorem yd_X8_meanDamp : yX8_meanDamp.cls ≠ "java/lang/invoke/MethodHandle" ∧ yX8_meanDamp.cls ≠ "java/lang/invoke/VarHandle" ∧ (parseMethodDescriptor yX8_meanDamp.desc).map (fun d => d.parameters.length) = some 0 := by decide +kernel
theorem yd_X8_sailedShare : yX8_sailedShare.cls ≠ "java/lang/invoke/MethodHandle" ∧ yX8_sailedShare.cls ≠ "java/lang/invoke/VarHandle" ∧ (parseMethodDescriptor yX8_sailedShare.desc).map (fun d => d.parameters.length) = some 0 := by decide +kernel
theorem yd_X8_reason : yX8_reason.cls ≠ "java/lang/invoke/MethodHandle" ∧ yX8_reason.cls ≠ "java/lang/invoke/VarHandle" ∧ (parseMethodDescriptor yX8_reason.desc).map (fun d => d.parameters.length) = some 1 := by decide +kernel
theorem yd_X8_account : yX8_account.cls ≠ "java/lang/invoke/MethodHandle" ∧ yX8_account.cls ≠ "java/lang/invoke/VarHandle" ∧ (parseMethodDescriptor yX8_account.desc).map (fun d => d.parameters.length) = some 1 := by decide +kernel
theorem yd_X8_feed : yX8_feed.cls ≠ "java/lang/invoke/MethodHandle" ∧ yX8_feed.cls ≠ "java/lang/invoke/VarHandle" ∧ (parseMethodDescriptor yX8_feed.desc).map (fun d => d.parameters.length) = some 1 := by decide +kernel
theorem yd_X8_sign : yX8_sign.cls ≠ "java/lang/invoke/MethodHandle" ∧ yX8_sign.cls ≠ "java/lang/invoke/VarHandle" ∧ (parseMethodDescriptor yX8_sign.desc).map (fun d => d.parameters.length) = some 0 := by decide +kernel
theorem yd_X8_word : yX8_word.cls ≠ "java/lang/invoke/MethodHandle" ∧ yX8_word.cls ≠ "java/lang/invoke/VarHandle" ∧ (parseMethodDescriptor yX8_word.desc).map (fun d => d.parameters.length) = some 2 := by decide +kernel
theorem yd_X8_number : yX8_number.cls ≠ "java/lang/invoke/MethodHandle" ∧ yX8_number.cls ≠ "java/lang/invoke/VarHandle" ∧ (parseMethodDescriptor yX8_number.desc).map (fun d => d.parameters.length) = some 1 := by decide +kernel
theorem yd_X8_mark : yX8_mark.cls ≠ "java/lang/invoke/MethodHandle" ∧ yX8_mark.cls ≠ "java/lang/invoke/VarHandle" ∧ (parseMethodDescriptor yX8_mark.desc).map (fun d => d.parameters.length) = some 1 := by decide +kernel
theorem yd_X8_does : yX8_does.cls ≠ "java/lang/invoke/MethodHandle" ∧ yX8_does.cls ≠ "java/lang/invoke/VarHandle" ∧ (parseMethodDescriptor yX8_does.desc).map (fun d => d.parameters.length) = some 1 := by decide +kernel
theorem yd_X8_command : yX8_command.cls ≠ "java/lang/invoke/MethodHandle" ∧ yX8_command.cls ≠ "java/lang/invoke/VarHandle" ∧ (parseMethodDescriptor yX8_command.desc).map (fun d => d.parameters.length) = some 0 := by decide +kernel
theorem yd_X8_commands : yX8_commands.cls ≠ "java/lang/invoke/MethodHandle" ∧ yX8_commands.cls ≠ "java/lang/invoke/VarHandle" ∧ (parseMethodDescriptor yX8_commands.desc).map (fun d => d.parameters.length) = some 0 := by decide +kernel
theorem yd_X8_perform : yX8_perform.cls ≠ "java/lang/invoke/MethodHandle" ∧ yX8_perform.cls ≠ "java/lang/invoke/VarHandle" ∧ (parseMethodDescriptor yX8_perform.desc).map (fun d => d.parameters.length) = some 0 := by decide +kernel
theorem yd_X8_undo : yX8_undo.cls ≠ "java/lang/invoke/MethodHandle" ∧ yX8_undo.cls ≠ "java/lang/invoke/VarHandle" ∧ (parseMethodDescriptor yX8_undo.desc).map (fun d => d.parameters.length) = some 0 := by decide +kernel
theorem yd_X8_save : yX8_save.cls ≠ "java/lang/invoke/MethodHandle" ∧ yX8_save.cls ≠ "java/lang/invoke/VarHandle" ∧ (parseMethodDescriptor yX8_save.desc).map (fun d => d.parameters.length) = some 0 := by decide +kernel
theorem yd_X8_restore : yX8_restore.cls ≠ "java/lang/invoke/MethodHandle" ∧ yX8_restore.cls ≠ "java/lang/invoke/VarHandle" ∧ (parseMethodDescriptor yX8_restore.desc).map (fun d => d.parameters.length) = some 0 := by decide +kernel
theorem yd_J5_init_d00df : yJ5_init_d00df.cls ≠ "java/lang/invoke/MethodHandle" ∧ yJ5_init_d00df.cls ≠ "java/lang/invoke/VarHandle" ∧ (parseMethodDescriptor yJ5_init_d00df.desc).map (fun d => d.parameters.length) = some 1 := by decide +kernel
theorem yd_J5_length_8abf5 : yJ5_length_8abf5.cls ≠ "java/lang/invoke/MethodHandle" ∧ yJ5_length_8abf5.cls ≠ "java/lang/invoke/VarHandle" ∧ (parseMethodDescriptor yJ5_length_8abf5.desc).map (fun d => d.parameters.length) = some 0 := by decide +kernel
theorem yd_J5_ensureCapacityInternal_d00df : yJ5_ensureCapacityInternal_d00df.cls ≠ "java/lang/invoke/MethodHandle" ∧ yJ5_ensureCapacityInternal_d00df.cls ≠ "java/lang/invoke/VarHandle" ∧ (parseMethodDescriptor yJ5_ensureCapacityInternal_d00df.desc).map (fun d => d.parameters.length) = some 1 := by decide +kernel
theorem yd_J5_newCapacity_0f7a4 : yJ5_newCapacity_0f7a4.cls ≠ "java/lang/invoke/MethodHandle" ∧ yJ5_newCapacity_0f7a4.cls ≠ "java/lang/invoke/VarHandle" ∧ (parseMethodDescriptor yJ5_newCapacity_0f7a4.desc).map (fun d => d.parameters.length) = some 1 := by decide +kernel
theorem yd_J5_inflate_da8c8 : yJ5_inflate_da8c8.cls ≠ "java/lang/invoke/MethodHandle" ∧ yJ5_inflate_da8c8.cls ≠ "java/lang/invoke/VarHandle" ∧ (parseMethodDescriptor yJ5_inflate_da8c8.desc).map (fun d => d.parameters.length) = some 0 := by decide +kernel
theorem yd_J5_append_cf1ce : yJ5_append_cf1ce.cls ≠ "java/lang/invoke/MethodHandle" ∧ yJ5_append_cf1ce.cls ≠ "java/lang/invoke/VarHandle" ∧ (parseMethodDescriptor yJ5_append_cf1ce.desc).map (fun d => d.parameters.length) = some 1 := by decide +kernel
theorem yd_J5_appendNull_278bc : yJ5_appendNull_278bc.cls ≠ "java/lang/invoke/MethodHandle" ∧ yJ5_appendNull_278bc.cls ≠ "java/lang/invoke/VarHandle" ∧ (parseMethodDescriptor yJ5_appendNull_278bc.desc).map (fun d => d.parameters.length) = some 0 := by decide +kernel
theorem yd_J5_append_3fe6f : yJ5_append_3fe6f.cls ≠ "java/lang/invoke/MethodHandle" ∧ yJ5_append_3fe6f.cls ≠ "java/lang/invoke/VarHandle" ∧ (parseMethodDescriptor yJ5_append_3fe6f.desc).map (fun d => d.parameters.length) = some 1 := by decide +kernel
theorem yd_J5_append_c97b9 : yJ5_append_c97b9.cls ≠ "java/lang/invoke/MethodHandle" ∧ yJ5_append_c97b9.cls ≠ "java/lang/invoke/VarHandle" ∧ (parseMethodDescriptor yJ5_append_c97b9.desc).map (fun d => d.parameters.length) = some 1 := by decide +kernel
theorem yd_J5_getValue_6d5f1 : yJ5_getValue_6d5f1.cls ≠ "java/lang/invoke/MethodHandle" ∧ yJ5_getValue_6d5f1.cls ≠ "java/lang/invoke/VarHandle" ∧ (parseMethodDescriptor yJ5_getValue_6d5f1.desc).map (fun d => d.parameters.length) = some 0 := by decide +kernel
theorem yd_J5_isLatin1_aae02 : yJ5_isLatin1_aae02.cls ≠ "java/lang/invoke/MethodHandle" ∧ yJ5_isLatin1_aae02.cls ≠ "java/lang/invoke/VarHandle" ∧ (parseMethodDescriptor yJ5_isLatin1_aae02.desc).map (fun d => d.parameters.length) = some 0 := by decide +kernel
theorem yd_J5_inflateIfNeededFor_a7421 : yJ5_inflateIfNeededFor_a7421.cls ≠ "java/lang/invoke/MethodHandle" ∧ yJ5_inflateIfNeededFor_a7421.cls ≠ "java/lang/invoke/VarHandle" ∧ (parseMethodDescriptor yJ5_inflateIfNeededFor_a7421.desc).map (fun d => d.parameters.length) = some 1 := by decide +kernel
theorem yd_J5_putStringAt_47b60 : yJ5_putStringAt_47b60.cls ≠ "java/lang/invoke/MethodHandle" ∧ yJ5_putStringAt_47b60.cls ≠ "java/lang/invoke/VarHandle" ∧ (parseMethodDescriptor yJ5_putStringAt_47b60.desc).map (fun d => d.parameters.length) = some 2 := by decide +kernel
theorem yd_Jx00060_init_a7421 : yJx00060_init_a7421.cls ≠ "java/lang/invoke/MethodHandle" ∧ yJx00060_init_a7421.cls ≠ "java/lang/invoke/VarHandle" ∧ (parseMethodDescriptor yJx00060_init_a7421.desc).map (fun d => d.parameters.length) = some 1 := by decide +kernel
theorem yd_Jx29ce0_ordinal_8abf5 : yJx29ce0_ordinal_8abf5.cls ≠ "java/lang/invoke/MethodHandle" ∧ yJx29ce0_ordinal_8abf5.cls ≠ "java/lang/invoke/VarHandle" ∧ (parseMethodDescriptor yJx29ce0_ordinal_8abf5.desc).map (fun d => d.parameters.length) = some 0 := by decide +kernel
theorem yd_J6_getChars_ba4f3 : yJ6_getChars_ba4f3.cls ≠ "java/lang/invoke/MethodHandle" ∧ yJ6_getChars_ba4f3.cls ≠ "java/lang/invoke/VarHandle" ∧ (parseMethodDescriptor yJ6_getChars_ba4f3.desc).map (fun d => d.parameters.length) = some 3 := by decide +kernel
theorem yd_J6_stringSize_0f7a4 : yJ6_stringSize_0f7a4.cls ≠ "java/lang/invoke/MethodHandle" ∧ yJ6_stringSize_0f7a4.cls ≠ "java/lang/invoke/VarHandle" ∧ (parseMethodDescriptor yJ6_stringSize_0f7a4.desc).map (fun d => d.parameters.length) = some 1 := by decide +kernel
theorem yd_J9_floorMod_7cf53 : yJ9_floorMod_7cf53.cls ≠ "java/lang/invoke/MethodHandle" ∧ yJ9_floorMod_7cf53.cls ≠ "java/lang/invoke/VarHandle" ∧ (parseMethodDescriptor yJ9_floorMod_7cf53.desc).map (fun d => d.parameters.length) = some 2 := by decide +kernel
theorem yd_J0_init_81219 : yJ0_init_81219.cls ≠ "java/lang/invoke/MethodHandle" ∧ yJ0_init_81219.cls ≠ "java/lang/invoke/VarHandle" ∧ (parseMethodDescriptor yJ0_init_81219.desc).map (fun d => d.parameters.length) = some 1 := by decide +kernel
theorem yd_J0_length_8abf5 : yJ0_length_8abf5.cls ≠ "java/lang/invoke/MethodHandle" ∧ yJ0_length_8abf5.cls ≠ "java/lang/invoke/VarHandle" ∧ (parseMethodDescriptor yJ0_length_8abf5.desc).map (fun d => d.parameters.length) = some 0 := by decide +kernel
theorem yd_J0_isEmpty_aae02 : yJ0_isEmpty_aae02.cls ≠ "java/lang/invoke/MethodHandle" ∧ yJ0_isEmpty_aae02.cls ≠ "java/lang/invoke/VarHandle" ∧ (parseMethodDescriptor yJ0_isEmpty_aae02.desc).map (fun d => d.parameters.length) = some 0 := by decide +kernel
theorem yd_J0_charAt_5068e : yJ0_charAt_5068e.cls ≠ "java/lang/invoke/MethodHandle" ∧ yJ0_charAt_5068e.cls ≠ "java/lang/invoke/VarHandle" ∧ (parseMethodDescriptor yJ0_charAt_5068e.desc).map (fun d => d.parameters.length) = some 1 := by decide +kernel
theorem yd_J0_getBytes_840e7 : yJ0_getBytes_840e7.cls ≠ "java/lang/invoke/MethodHandle" ∧ yJ0_getBytes_840e7.cls ≠ "java/lang/invoke/VarHandle" ∧ (parseMethodDescriptor yJ0_getBytes_840e7.desc).map (fun d => d.parameters.length) = some 3 := by decide +kernel
theorem yd_J0_init_db425 : yJ0_init_db425.cls ≠ "java/lang/invoke/MethodHandle" ∧ yJ0_init_db425.cls ≠ "java/lang/invoke/VarHandle" ∧ (parseMethodDescriptor yJ0_init_db425.desc).map (fun d => d.parameters.length) = some 2 := by decide +kernel
theorem yd_J0_coder_7d493 : yJ0_coder_7d493.cls ≠ "java/lang/invoke/MethodHandle" ∧ yJ0_coder_7d493.cls ≠ "java/lang/invoke/VarHandle" ∧ (parseMethodDescriptor yJ0_coder_7d493.desc).map (fun d => d.parameters.length) = some 0 := by decide +kernel
theorem yd_J0_isLatin1_aae02 : yJ0_isLatin1_aae02.cls ≠ "java/lang/invoke/MethodHandle" ∧ yJ0_isLatin1_aae02.cls ≠ "java/lang/invoke/VarHandle" ∧ (parseMethodDescriptor yJ0_isLatin1_aae02.desc).map (fun d => d.parameters.length) = some 0 := by decide +kernel
theorem yd_J0_checkIndex_df160 : yJ0_checkIndex_df160.cls ≠ "java/lang/invoke/MethodHandle" ∧ yJ0_checkIndex_df160.cls ≠ "java/lang/invoke/VarHandle" ∧ (parseMethodDescriptor yJ0_checkIndex_df160.desc).map (fun d => d.parameters.length) = some 2 := by decide +kernel
theorem yd_J0_checkBoundsOffCount_cabcc : yJ0_checkBoundsOffCount_cabcc.cls ≠ "java/lang/invoke/MethodHandle" ∧ yJ0_checkBoundsOffCount_cabcc.cls ≠ "java/lang/invoke/VarHandle" ∧ (parseMethodDescriptor yJ0_checkBoundsOffCount_cabcc.desc).map (fun d => d.parameters.length) = some 3 := by decide +kernel
theorem yd_J0_checkBoundsBeginEnd_23922 : yJ0_checkBoundsBeginEnd_23922.cls ≠ "java/lang/invoke/MethodHandle" ∧ yJ0_checkBoundsBeginEnd_23922.cls ≠ "java/lang/invoke/VarHandle" ∧ (parseMethodDescriptor yJ0_checkBoundsBeginEnd_23922.desc).map (fun d => d.parameters.length) = some 3 := by decide +kernel
theorem yd_J4_init_da8c8 : yJ4_init_da8c8.cls ≠ "java/lang/invoke/MethodHandle" ∧ yJ4_init_da8c8.cls ≠ "java/lang/invoke/VarHandle" ∧ (parseMethodDescriptor yJ4_init_da8c8.desc).map (fun d => d.parameters.length) = some 0 := by decide +kernel
theorem yd_J4_append_15ec4 : yJ4_append_15ec4.cls ≠ "java/lang/invoke/MethodHandle" ∧ yJ4_append_15ec4.cls ≠ "java/lang/invoke/VarHandle" ∧ (parseMethodDescriptor yJ4_append_15ec4.desc).map (fun d => d.parameters.length) = some 1 := by decide +kernel
theorem yd_J4_append_cf468 : yJ4_append_cf468.cls ≠ "java/lang/invoke/MethodHandle" ∧ yJ4_append_cf468.cls ≠ "java/lang/invoke/VarHandle" ∧ (parseMethodDescriptor yJ4_append_cf468.desc).map (fun d => d.parameters.length) = some 1 := by decide +kernel
theorem yd_J4_append_bf812 : yJ4_append_bf812.cls ≠ "java/lang/invoke/MethodHandle" ∧ yJ4_append_bf812.cls ≠ "java/lang/invoke/VarHandle" ∧ (parseMethodDescriptor yJ4_append_bf812.desc).map (fun d => d.parameters.length) = some 1 := by decide +kernel
theorem yd_J4_toString_0e30d : yJ4_toString_0e30d.cls ≠ "java/lang/invoke/MethodHandle" ∧ yJ4_toString_0e30d.cls ≠ "java/lang/invoke/VarHandle" ∧ (parseMethodDescriptor yJ4_toString_0e30d.desc).map (fun d => d.parameters.length) = some 0 := by decide +kernel
theorem yd_J4_length_8abf5 : yJ4_length_8abf5.cls ≠ "java/lang/invoke/MethodHandle" ∧ yJ4_length_8abf5.cls ≠ "java/lang/invoke/VarHandle" ∧ (parseMethodDescriptor yJ4_length_8abf5.desc).map (fun d => d.parameters.length) = some 0 := by decide +kernel
theorem yd_J1_charAt_3b067 : yJ1_charAt_3b067.cls ≠ "java/lang/invoke/MethodHandle" ∧ yJ1_charAt_3b067.cls ≠ "java/lang/invoke/VarHandle" ∧ (parseMethodDescriptor yJ1_charAt_3b067.desc).map (fun d => d.parameters.length) = some 2 := by decide +kernel
theorem yd_J1_canEncode_fc78d : yJ1_canEncode_fc78d.cls ≠ "java/lang/invoke/MethodHandle" ∧ yJ1_canEncode_fc78d.cls ≠ "java/lang/invoke/VarHandle" ∧ (parseMethodDescriptor yJ1_canEncode_fc78d.desc).map (fun d => d.parameters.length) = some 1 := by decide +kernel
theorem yd_J1_inflate_0e8fd : yJ1_inflate_0e8fd.cls ≠ "java/lang/invoke/MethodHandle" ∧ yJ1_inflate_0e8fd.cls ≠ "java/lang/invoke/VarHandle" ∧ (parseMethodDescriptor yJ1_inflate_0e8fd.desc).map (fun d => d.parameters.length) = some 5 := by decide +kernel
theorem yd_J2_newBytesFor_77867 : yJ2_newBytesFor_77867.cls ≠ "java/lang/invoke/MethodHandle" ∧ yJ2_newBytesFor_77867.cls ≠ "java/lang/invoke/VarHandle" ∧ (parseMethodDescriptor yJ2_newBytesFor_77867.desc).map (fun d => d.parameters.length) = some 1 := by decide +kernel
theorem yd_J2_newBytesLength_0f7a4 : yJ2_newBytesLength_0f7a4.cls ≠ "java/lang/invoke/MethodHandle" ∧ yJ2_newBytesLength_0f7a4.cls ≠ "java/lang/invoke/VarHandle" ∧ (parseMethodDescriptor yJ2_newBytesLength_0f7a4.desc).map (fun d => d.parameters.length) = some 1 := by decide +kernel
theorem yd_J2_putChar_b72d1 : yJ2_putChar_b72d1.cls ≠ "java/lang/invoke/MethodHandle" ∧ yJ2_putChar_b72d1.cls ≠ "java/lang/invoke/VarHandle" ∧ (parseMethodDescriptor yJ2_putChar_b72d1.desc).map (fun d => d.parameters.length) = some 3 := by decide +kernel
theorem yd_J2_getChar_3b067 : yJ2_getChar_3b067.cls ≠ "java/lang/invoke/MethodHandle" ∧ yJ2_getChar_3b067.cls ≠ "java/lang/invoke/VarHandle" ∧ (parseMethodDescriptor yJ2_getChar_3b067.desc).map (fun d => d.parameters.length) = some 2 := by decide +kernel
theorem yd_J2_length_9d52b : yJ2_length_9d52b.cls ≠ "java/lang/invoke/MethodHandle" ∧ yJ2_length_9d52b.cls ≠ "java/lang/invoke/VarHandle" ∧ (parseMethodDescriptor yJ2_length_9d52b.desc).map (fun d => d.parameters.length) = some 1 := by decide +kernel
theorem yd_J2_coderFromArrayLen_85cad : yJ2_coderFromArrayLen_85cad.cls ≠ "java/lang/invoke/MethodHandle" ∧ yJ2_coderFromArrayLen_85cad.cls ≠ "java/lang/invoke/VarHandle" ∧ (parseMethodDescriptor yJ2_coderFromArrayLen_85cad.desc).map (fun d => d.parameters.length) = some 2 := by decide +kernel
theorem yd_J2_compress_39247 : yJ2_compress_39247.cls ≠ "java/lang/invoke/MethodHandle" ∧ yJ2_compress_39247.cls ≠ "java/lang/invoke/VarHandle" ∧ (parseMethodDescriptor yJ2_compress_39247.desc).map (fun d => d.parameters.length) = some 3 := by decide +kernel
theorem yd_J2_compress_5af95 : yJ2_compress_5af95.cls ≠ "java/lang/invoke/MethodHandle" ∧ yJ2_compress_5af95.cls ≠ "java/lang/invoke/VarHandle" ∧ (parseMethodDescriptor yJ2_compress_5af95.desc).map (fun d => d.parameters.length) = some 5 := by decide +kernel
theorem yd_J2_putCharSB_b72d1 : yJ2_putCharSB_b72d1.cls ≠ "java/lang/invoke/MethodHandle" ∧ yJ2_putCharSB_b72d1.cls ≠ "java/lang/invoke/VarHandle" ∧ (parseMethodDescriptor yJ2_putCharSB_b72d1.desc).map (fun d => d.parameters.length) = some 3 := by decide +kernel
theorem yd_J2_getChars_46870 : yJ2_getChars_46870.cls ≠ "java/lang/invoke/MethodHandle" ∧ yJ2_getChars_46870.cls ≠ "java/lang/invoke/VarHandle" ∧ (parseMethodDescriptor yJ2_getChars_46870.desc).map (fun d => d.parameters.length) = some 4 := by decide +kernel
theorem yd_J2_putCharsAt_cd4e5 : yJ2_putCharsAt_cd4e5.cls ≠ "java/lang/invoke/MethodHandle" ∧ yJ2_putCharsAt_cd4e5.cls ≠ "java/lang/invoke/VarHandle" ∧ (parseMethodDescriptor yJ2_putCharsAt_cd4e5.desc).map (fun d => d.parameters.length) = some 6 := by decide +kernel
theorem yd_J2_charAt_3b067 : yJ2_charAt_3b067.cls ≠ "java/lang/invoke/MethodHandle" ∧ yJ2_charAt_3b067.cls ≠ "java/lang/invoke/VarHandle" ∧ (parseMethodDescriptor yJ2_charAt_3b067.desc).map (fun d => d.parameters.length) = some 2 := by decide +kernel
theorem yd_J2_inflate_0e8fd : yJ2_inflate_0e8fd.cls ≠ "java/lang/invoke/MethodHandle" ∧ yJ2_inflate_0e8fd.cls ≠ "java/lang/invoke/VarHandle" ∧ (parseMethodDescriptor yJ2_inflate_0e8fd.desc).map (fun d => d.parameters.length) = some 5 := by decide +kernel
theorem yd_J2_getChars_ba4f3 : yJ2_getChars_ba4f3.cls ≠ "java/lang/invoke/MethodHandle" ∧ yJ2_getChars_ba4f3.cls ≠ "java/lang/invoke/VarHandle" ∧ (parseMethodDescriptor yJ2_getChars_ba4f3.desc).map (fun d => d.parameters.length) = some 3 := by decide +kernel
theorem yd_J2_checkIndex_2214a : yJ2_checkIndex_2214a.cls ≠ "java/lang/invoke/MethodHandle" ∧ yJ2_checkIndex_2214a.cls ≠ "java/lang/invoke/VarHandle" ∧ (parseMethodDescriptor yJ2_checkIndex_2214a.desc).map (fun d => d.parameters.length) = some 2 := by decide +kernel
theorem yd_J2_checkBoundsBeginEnd_d044e : yJ2_checkBoundsBeginEnd_d044e.cls ≠ "java/lang/invoke/MethodHandle" ∧ yJ2_checkBoundsBeginEnd_d044e.cls ≠ "java/lang/invoke/VarHandle" ∧ (parseMethodDescriptor yJ2_checkBoundsBeginEnd_d044e.desc).map (fun d => d.parameters.length) = some 3 := by decide +kernel
theorem yd_J2_checkBoundsOffCount_d044e : yJ2_checkBoundsOffCount_d044e.cls ≠ "java/lang/invoke/MethodHandle" ∧ yJ2_checkBoundsOffCount_d044e.cls ≠ "java/lang/invoke/VarHandle" ∧ (parseMethodDescriptor yJ2_checkBoundsOffCount_d044e.desc).map (fun d => d.parameters.length) = some 3 := by decide +kernel
theorem yd_J7_copyOf_9075b : yJ7_copyOf_9075b.cls ≠ "java/lang/invoke/MethodHandle" ∧ yJ7_copyOf_9075b.cls ≠ "java/lang/invoke/VarHandle" ∧ (parseMethodDescriptor yJ7_copyOf_9075b.desc).map (fun d => d.parameters.length) = some 2 := by decide +kernel
theorem yd_J7_checkLength_df160 : yJ7_checkLength_df160.cls ≠ "java/lang/invoke/MethodHandle" ∧ yJ7_checkLength_df160.cls ≠ "java/lang/invoke/VarHandle" ∧ (parseMethodDescriptor yJ7_checkLength_df160.desc).map (fun d => d.parameters.length) = some 2 := by decide +kernel
theorem yd_J7_copyOfRange_39247 : yJ7_copyOfRange_39247.cls ≠ "java/lang/invoke/MethodHandle" ∧ yJ7_copyOfRange_39247.cls ≠ "java/lang/invoke/VarHandle" ∧ (parseMethodDescriptor yJ7_copyOfRange_39247.desc).map (fun d => d.parameters.length) = some 3 := by decide +kernel
theorem yd_J7_copyOfRangeByte_39247 : yJ7_copyOfRangeByte_39247.cls ≠ "java/lang/invoke/MethodHandle" ∧ yJ7_copyOfRangeByte_39247.cls ≠ "java/lang/invoke/VarHandle" ∧ (parseMethodDescriptor yJ7_copyOfRangeByte_39247.desc).map (fun d => d.parameters.length) = some 3 := by decide +kernel
theorem yd_J8_newLength_cabcc : yJ8_newLength_cabcc.cls ≠ "java/lang/invoke/MethodHandle" ∧ yJ8_newLength_cabcc.cls ≠ "java/lang/invoke/VarHandle" ∧ (parseMethodDescriptor yJ8_newLength_cabcc.desc).map (fun d => d.parameters.length) = some 3 := by decide +kernel
theorem yd_J8_hugeLength_7cf53 : yJ8_hugeLength_7cf53.cls ≠ "java/lang/invoke/MethodHandle" ∧ yJ8_hugeLength_7cf53.cls ≠ "java/lang/invoke/VarHandle" ∧ (parseMethodDescriptor yJ8_hugeLength_7cf53.desc).map (fun d => d.parameters.length) = some 2 := by decide +kernel
theorem yd_J3_checkIndex_8e157 : yJ3_checkIndex_8e157.cls ≠ "java/lang/invoke/MethodHandle" ∧ yJ3_checkIndex_8e157.cls ≠ "java/lang/invoke/VarHandle" ∧ (parseMethodDescriptor yJ3_checkIndex_8e157.desc).map (fun d => d.parameters.length) = some 3 := by decide +kernel
theorem yd_J3_checkFromToIndex_8c36e : yJ3_checkFromToIndex_8c36e.cls ≠ "java/lang/invoke/MethodHandle" ∧ yJ3_checkFromToIndex_8c36e.cls ≠ "java/lang/invoke/VarHandle" ∧ (parseMethodDescriptor yJ3_checkFromToIndex_8c36e.desc).map (fun d => d.parameters.length) = some 4 := by decide +kernel
theorem yd_J3_checkFromIndexSize_8c36e : yJ3_checkFromIndexSize_8c36e.cls ≠ "java/lang/invoke/MethodHandle" ∧ yJ3_checkFromIndexSize_8c36e.cls ≠ "java/lang/invoke/VarHandle" ∧ (parseMethodDescriptor yJ3_checkFromIndexSize_8c36e.desc).map (fun d => d.parameters.length) = some 4 := by decide +kernel
theorem yd_L_bring : yL_bring.cls ≠ "java/lang/invoke/MethodHandle" ∧ yL_bring.cls ≠ "java/lang/invoke/VarHandle" ∧ (parseMethodDescriptor yL_bring.desc).map (fun d => d.parameters.length) = some 5 := by decide +kernel
theorem yd_L_leaves : yL_leaves.cls ≠ "java/lang/invoke/MethodHandle" ∧ yL_leaves.cls ≠ "java/lang/invoke/VarHandle" ∧ (parseMethodDescriptor yL_leaves.desc).map (fun d => d.parameters.length) = some 4 := by decide +kernel
theorem yd_L_buy : yL_buy.cls ≠ "java/lang/invoke/MethodHandle" ∧ yL_buy.cls ≠ "java/lang/invoke/VarHandle" ∧ (parseMethodDescriptor yL_buy.desc).map (fun d => d.parameters.length) = some 4 := by decide +kernel
theorem yd_L_make : yL_make.cls ≠ "java/lang/invoke/MethodHandle" ∧ yL_make.cls ≠ "java/lang/invoke/VarHandle" ∧ (parseMethodDescriptor yL_make.desc).map (fun d => d.parameters.length) = some 3 := by decide +kernel
theorem yd_L_line : yL_line.cls ≠ "java/lang/invoke/MethodHandle" ∧ yL_line.cls ≠ "java/lang/invoke/VarHandle" ∧ (parseMethodDescriptor yL_line.desc).map (fun d => d.parameters.length) = some 3 := by decide +kernel
theorem yd_L_fill : yL_fill.cls ≠ "java/lang/invoke/MethodHandle" ∧ yL_fill.cls ≠ "java/lang/invoke/VarHandle" ∧ (parseMethodDescriptor yL_fill.desc).map (fun d => d.parameters.length) = some 6 := by decide +kernel
theorem yd_L_empty : yL_empty.cls ≠ "java/lang/invoke/MethodHandle" ∧ yL_empty.cls ≠ "java/lang/invoke/VarHandle" ∧ (parseMethodDescriptor yL_empty.desc).map (fun d => d.parameters.length) = some 3 := by decide +kernel
theorem yd_L_screw : yL_screw.cls ≠ "java/lang/invoke/MethodHandle" ∧ yL_screw.cls ≠ "java/lang/invoke/VarHandle" ∧ (parseMethodDescriptor yL_screw.desc).map (fun d => d.parameters.length) = some 4 := by decide +kernel
theorem yd_L_unscrew : yL_unscrew.cls ≠ "java/lang/invoke/MethodHandle" ∧ yL_unscrew.cls ≠ "java/lang/invoke/VarHandle" ∧ (parseMethodDescriptor yL_unscrew.desc).map (fun d => d.parameters.length) = some 3 := by decide +kernel
theorem yd_L_label : yL_label.cls ≠ "java/lang/invoke/MethodHandle" ∧ yL_label.cls ≠ "java/lang/invoke/VarHandle" ∧ (parseMethodDescriptor yL_label.desc).map (fun d => d.parameters.length) = some 3 := by decide +kernel
theorem yd_L_labelled : yL_labelled.cls ≠ "java/lang/invoke/MethodHandle" ∧ yL_labelled.cls ≠ "java/lang/invoke/VarHandle" ∧ (parseMethodDescriptor yL_labelled.desc).map (fun d => d.parameters.length) = some 4 := by decide +kernel
theorem yd_L_chest : yL_chest.cls ≠ "java/lang/invoke/MethodHandle" ∧ yL_chest.cls ≠ "java/lang/invoke/VarHandle" ∧ (parseMethodDescriptor yL_chest.desc).map (fun d => d.parameters.length) = some 4 := by decide +kernel
theorem yd_L_worth : yL_worth.cls ≠ "java/lang/invoke/MethodHandle" ∧ yL_worth.cls ≠ "java/lang/invoke/VarHandle" ∧ (parseMethodDescriptor yL_worth.desc).map (fun d => d.parameters.length) = some 3 := by decide +kernel
theorem yd_L_ranked : yL_ranked.cls ≠ "java/lang/invoke/MethodHandle" ∧ yL_ranked.cls ≠ "java/lang/invoke/VarHandle" ∧ (parseMethodDescriptor yL_ranked.desc).map (fun d => d.parameters.length) = some 3 := by decide +kernel
theorem yd_L_toQuay : yL_toQuay.cls ≠ "java/lang/invoke/MethodHandle" ∧ yL_toQuay.cls ≠ "java/lang/invoke/VarHandle" ∧ (parseMethodDescriptor yL_toQuay.desc).map (fun d => d.parameters.length) = some 3 := by decide +kernel
theorem yd_L_load : yL_load.cls ≠ "java/lang/invoke/MethodHandle" ∧ yL_load.cls ≠ "java/lang/invoke/VarHandle" ∧ (parseMethodDescriptor yL_load.desc).map (fun d => d.parameters.length) = some 3 := by decide +kernel
theorem yd_L_sail : yL_sail.cls ≠ "java/lang/invoke/MethodHandle" ∧ yL_sail.cls ≠ "java/lang/invoke/VarHandle" ∧ (parseMethodDescriptor yL_sail.desc).map (fun d => d.parameters.length) = some 2 := by decide +kernel
theorem yd_L_height : yL_height.cls ≠ "java/lang/invoke/MethodHandle" ∧ yL_height.cls ≠ "java/lang/invoke/VarHandle" ∧ (parseMethodDescriptor yL_height.desc).map (fun d => d.parameters.length) = some 3 := by decide +kernel
theorem yd_L_heightAgain : yL_heightAgain.cls ≠ "java/lang/invoke/MethodHandle" ∧ yL_heightAgain.cls ≠ "java/lang/invoke/VarHandle" ∧ (parseMethodDescriptor yL_heightAgain.desc).map (fun d => d.parameters.length) = some 3 := by decide +kernel
theorem yd_L_setHumidity : yL_setHumidity.cls ≠ "java/lang/invoke/MethodHandle" ∧ yL_setHumidity.cls ≠ "java/lang/invoke/VarHandle" ∧ (parseMethodDescriptor yL_setHumidity.desc).map (fun d => d.parameters.length) = some 3 := by decide +kernel
theorem yd_L_pass : yL_pass.cls ≠ "java/lang/invoke/MethodHandle" ∧ yL_pass.cls ≠ "java/lang/invoke/VarHandle" ∧ (parseMethodDescriptor yL_pass.desc).map (fun d => d.parameters.length) = some 3 := by decide +kernel
theorem yd_L_meanDamp : yL_meanDamp.cls ≠ "java/lang/invoke/MethodHandle" ∧ yL_meanDamp.cls ≠ "java/lang/invoke/VarHandle" ∧ (parseMethodDescriptor yL_meanDamp.desc).map (fun d => d.parameters.length) = some 2 := by decide +kernel
theorem yd_L_sailedShare : yL_sailedShare.cls ≠ "java/lang/invoke/MethodHandle" ∧ yL_sailedShare.cls ≠ "java/lang/invoke/VarHandle" ∧ (parseMethodDescriptor yL_sailedShare.desc).map (fun d => d.parameters.length) = some 2 := by decide +kernel
theorem yd_L_reason : yL_reason.cls ≠ "java/lang/invoke/MethodHandle" ∧ yL_reason.cls ≠ "java/lang/invoke/VarHandle" ∧ (parseMethodDescriptor yL_reason.desc).map (fun d => d.parameters.length) = some 3 := by decide +kernel
theorem yd_L_account : yL_account.cls ≠ "java/lang/invoke/MethodHandle" ∧ yL_account.cls ≠ "java/lang/invoke/VarHandle" ∧ (parseMethodDescriptor yL_account.desc).map (fun d => d.parameters.length) = some 3 := by decide +kernel
theorem yd_L_feed : yL_feed.cls ≠ "java/lang/invoke/MethodHandle" ∧ yL_feed.cls ≠ "java/lang/invoke/VarHandle" ∧ (parseMethodDescriptor yL_feed.desc).map (fun d => d.parameters.length) = some 3 := by decide +kernel
theorem yd_L_perform : yL_perform.cls ≠ "java/lang/invoke/MethodHandle" ∧ yL_perform.cls ≠ "java/lang/invoke/VarHandle" ∧ (parseMethodDescriptor yL_perform.desc).map (fun d => d.parameters.length) = some 2 := by decide +kernel
theorem yd_L_undo : yL_undo.cls ≠ "java/lang/invoke/MethodHandle" ∧ yL_undo.cls ≠ "java/lang/invoke/VarHandle" ∧ (parseMethodDescriptor yL_undo.desc).map (fun d => d.parameters.length) = some 2 := by decide +kernel
theorem yd_L_restore : yL_restore.cls ≠ "java/lang/invoke/MethodHandle" ∧ yL_restore.cls ≠ "java/lang/invoke/VarHandle" ∧ (parseMethodDescriptor yL_restore.desc).map (fun d => d.parameters.length) = some 2 := by decide +kernel
end
section
theorem dX1_init_0 : decode cX1_init 0 = .ok (.aload_n 0, 1) := by decide +kernel
theorem dX1_init_1 : decode cX1_init 1 = .ok (.invokespecial 3, 3) := by decide +kernel
theorem dX1_init_4 : decode cX1_init 4 = .ok (.aload_n 0, 1) := by decide +kernel
theorem dX1_init_5 : decode cX1_init 5 = .ok (.iconst (-1), 1) := by decide +kernel
theorem dX1_init_6 : decode cX1_init 6 = .ok (.putfield 9, 3) := by decide +kernel
theorem dX1_init_9 : decode cX1_init 9 = .ok (.aload_n 0, 1) := by decide +kernel
theorem dX1_init_10 : decode cX1_init 10 = .ok (.iconst (-1), 1) := by decide +kernel
theorem dX1_init_11 : decode cX1_init 11 = .ok (.putfield 15, 3) := by decide +kernel
theorem dX1_init_14 : decode cX1_init 14 = .ok (.aload_n 0, 1) := by decide +kernel
theorem dX1_init_15 : decode cX1_init 15 = .ok (.iconst (-1), 1) := by decide +kernel
theorem dX1_init_16 : decode cX1_init 16 = .ok (.putfield 18, 3) := by decide +kernel
theorem dX1_init_19 : decode cX1_init 19 = .ok (.aload_n 0, 1) := by decide +kernel
theorem dX1_init_20 : decode cX1_init 20 = .ok (.ldc 21, 2) := by decide +kernel
theorem dX1_init_22 : decode cX1_init 22 = .ok (.putfield 23, 3) := by decide +kernel
theorem dX1_init_25 : decode cX1_init 25 = .ok (.aload_n 0, 1) := by decide +kernel
theorem dX1_init_26 : decode cX1_init 26 = .ok (.iload_n 1, 1) := by decide +kernel
theorem dX1_init_27 : decode cX1_init 27 = .ok (.putfield 27, 3) := by decide +kernel
theorem dX1_init_30 : decode cX1_init 30 = .ok (.return_, 1) := by decide +kernel
theorem dX1_copyFrom_0 : decode cX1_copyFrom 0 = .ok (.aload_n 0, 1) := by decide +kernel
theorem dX1_copyFrom_1 : decode cX1_copyFrom 1 = .ok (.aload_n 1, 1) := by decide +kernel
theorem dX1_copyFrom_2 : decode cX1_copyFrom 2 = .ok (.getfield 30, 3) := by decide +kernel
theorem dX1_copyFrom_5 : decode cX1_copyFrom 5 = .ok (.putfield 30, 3) := by decide +kernel
theorem dX1_copyFrom_8 : decode cX1_copyFrom 8 = .ok (.aload_n 0, 1) := by decide +kernel
theorem dX1_copyFrom_9 : decode cX1_copyFrom 9 = .ok (.aload_n 1, 1) := by decide +kernel
theorem dX1_copyFrom_10 : decode cX1_copyFrom 10 = .ok (.getfield 9, 3) := by decide +kernel
theorem dX1_copyFrom_13 : decode cX1_copyFrom 13 = .ok (.putfield 9, 3) := by decide +kernel
theorem dX1_copyFrom_16 : decode cX1_copyFrom 16 = .ok (.aload_n 0, 1) := by decide +kernel
theorem dX1_copyFrom_17 : decode cX1_copyFrom 17 = .ok (.aload_n 1, 1) := by decide +kernel
theorem dX1_copyFrom_18 : decode cX1_copyFrom 18 = .ok (.getfield 15, 3) := by decide +kernel
theorem dX1_copyFrom_21 : decode cX1_copyFrom 21 = .ok (.putfield 15, 3) := by decide +kernel
theorem dX1_copyFrom_24 : decode cX1_copyFrom 24 = .ok (.aload_n 0, 1) := by decide +kernel
theorem dX1_copyFrom_25 : decode cX1_copyFrom 25 = .ok (.aload_n 1, 1) := by decide +kernel
theorem dX1_copyFrom_26 : decode cX1_copyFrom 26 = .ok (.getfield 33, 3) := by decide +kernel
theorem dX1_copyFrom_29 : decode cX1_copyFrom 29 = .ok (.putfield 33, 3) := by decide +kernel
theorem dX1_copyFrom_32 : decode cX1_copyFrom 32 = .ok (.aload_n 0, 1) := by decide +kernel
theorem dX1_copyFrom_33 : decode cX1_copyFrom 33 = .ok (.aload_n 1, 1) := by decide +kernel
theorem dX1_copyFrom_34 : decode cX1_copyFrom 34 = .ok (.getfield 36, 3) := by decide +kernel
theorem dX1_copyFrom_37 : decode cX1_copyFrom 37 = .ok (.putfield 36, 3) := by decide +kernel
theorem dX1_copyFrom_40 : decode cX1_copyFrom 40 = .ok (.aload_n 0, 1) := by decide +kernel
theorem dX1_copyFrom_41 : decode cX1_copyFrom 41 = .ok (.aload_n 1, 1) := by decide +kernel
theorem dX1_copyFrom_42 : decode cX1_copyFrom 42 = .ok (.getfield 40, 3) := by decide +kernel
theorem dX1_copyFrom_45 : decode cX1_copyFrom 45 = .ok (.putfield 40, 3) := by decide +kernel
theorem dX1_copyFrom_48 : decode cX1_copyFrom 48 = .ok (.aload_n 0, 1) := by decide +kernel
theorem dX1_copyFrom_49 : decode cX1_copyFrom 49 = .ok (.aload_n 1, 1) := by decide +kernel
theorem dX1_copyFrom_50 : decode cX1_copyFrom 50 = .ok (.getfield 43, 3) := by decide +kernel
theorem dX1_copyFrom_53 : decode cX1_copyFrom 53 = .ok (.putfield 43, 3) := by decide +kernel
theorem dX1_copyFrom_56 : decode cX1_copyFrom 56 = .ok (.aload_n 0, 1) := by decide +kernel
theorem dX1_copyFrom_57 : decode cX1_copyFrom 57 = .ok (.aload_n 1, 1) := by decide +kernel
theorem dX1_copyFrom_58 : decode cX1_copyFrom 58 = .ok (.getfield 18, 3) := by decide +kernel
theorem dX1_copyFrom_61 : decode cX1_copyFrom 61 = .ok (.putfield 18, 3) := by decide +kernel
theorem dX1_copyFrom_64 : decode cX1_copyFrom 64 = .ok (.aload_n 0, 1) := by decide +kernel
theorem dX1_copyFrom_65 : decode cX1_copyFrom 65 = .ok (.aload_n 1, 1) := by decide +kernel
theorem dX1_copyFrom_66 : decode cX1_copyFrom 66 = .ok (.getfield 23, 3) := by decide +kernel
theorem dX1_copyFrom_69 : decode cX1_copyFrom 69 = .ok (.putfield 23, 3) := by decide +kernel
theorem dX1_copyFrom_72 : decode cX1_copyFrom 72 = .ok (.return_, 1) := by decide +kernel
theorem dX1_room_0 : decode cX1_room 0 = .ok (.bipush 10, 2) := by decide +kernel
theorem dX1_room_2 : decode cX1_room 2 = .ok (.aload_n 0, 1) := by decide +kernel
theorem dX1_room_3 : decode cX1_room 3 = .ok (.getfield 30, 3) := by decide +kernel
theorem dX1_room_6 : decode cX1_room 6 = .ok (.imul, 1) := by decide +kernel
theorem dX1_room_7 : decode cX1_room 7 = .ok (.aload_n 0, 1) := by decide +kernel
theorem dX1_room_8 : decode cX1_room 8 = .ok (.getfield 33, 3) := by decide +kernel
theorem dX1_room_11 : decode cX1_room 11 = .ok (.isub, 1) := by decide +kernel
theorem dX1_room_12 : decode cX1_room 12 = .ok (.ireturn, 1) := by decide +kernel
theorem dX1_isThere_0 : decode cX1_isThere 0 = .ok (.aload_n 0, 1) := by decide +kernel
theorem dX1_isThere_1 : decode cX1_isThere 1 = .ok (.getfield 18, 3) := by decide +kernel
theorem dX1_isThere_4 : decode cX1_isThere 4 = .ok (.iconst (-1), 1) := by decide +kernel
theorem dX1_isThere_5 : decode cX1_isThere 5 = .ok (.if_icmp .eq 15, 3) := by decide +kernel
theorem dX1_isThere_8 : decode cX1_isThere 8 = .ok (.aload_n 0, 1) := by decide +kernel
theorem dX1_isThere_9 : decode cX1_isThere 9 = .ok (.getfield 18, 3) := by decide +kernel
theorem dX1_isThere_12 : decode cX1_isThere 12 = .ok (.iconst 3, 1) := by decide +kernel
theorem dX1_isThere_13 : decode cX1_isThere 13 = .ok (.if_icmp .eq 7, 3) := by decide +kernel
theorem dX1_isThere_16 : decode cX1_isThere 16 = .ok (.iconst 1, 1) := by decide +kernel
theorem dX1_isThere_17 : decode cX1_isThere 17 = .ok (.goto 4, 3) := by decide +kernel
theorem dX1_isThere_20 : decode cX1_isThere 20 = .ok (.iconst 0, 1) := by decide +kernel
theorem dX1_isThere_21 : decode cX1_isThere 21 = .ok (.ireturn, 1) := by decide +kernel
theorem dX1_isTight_0 : decode cX1_isTight 0 = .ok (.aload_n 0, 1) := by decide +kernel
theorem dX1_isTight_1 : decode cX1_isTight 1 = .ok (.getfield 36, 3) := by decide +kernel
theorem dX1_isTight_4 : decode cX1_isTight 4 = .ok (.ifCond .eq 20, 3) := by decide +kernel
theorem dX1_isTight_7 : decode cX1_isTight 7 = .ok (.aload_n 0, 1) := by decide +kernel
theorem dX1_isTight_8 : decode cX1_isTight 8 = .ok (.getfield 40, 3) := by decide +kernel
theorem dX1_isTight_11 : decode cX1_isTight 11 = .ok (.aload_n 0, 1) := by decide +kernel
theorem dX1_isTight_12 : decode cX1_isTight 12 = .ok (.getfield 30, 3) := by decide +kernel
theorem dX1_isTight_15 : decode cX1_isTight 15 = .ok (.iconst 2, 1) := by decide +kernel
theorem dX1_isTight_16 : decode cX1_isTight 16 = .ok (.iadd, 1) := by decide +kernel
theorem dX1_isTight_17 : decode cX1_isTight 17 = .ok (.if_icmp .lt 7, 3) := by decide +kernel
theorem dX1_isTight_20 : decode cX1_isTight 20 = .ok (.iconst 1, 1) := by decide +kernel
theorem dX1_isTight_21 : decode cX1_isTight 21 = .ok (.goto 4, 3) := by decide +kernel
theorem dX1_isTight_24 : decode cX1_isTight 24 = .ok (.iconst 0, 1) := by decide +kernel
theorem dX1_isTight_25 : decode cX1_isTight 25 = .ok (.ireturn, 1) := by decide +kernel
theorem dX1_hasLabel_0 : decode cX1_hasLabel 0 = .ok (.aload_n 0, 1) := by decide +kernel
theorem dX1_hasLabel_1 : decode cX1_hasLabel 1 = .ok (.getfield 23, 3) := by decide +kernel
theorem dX1_hasLabel_4 : decode cX1_hasLabel 4 = .ok (.invokevirtual 46, 3) := by decide +kernel
theorem dX1_hasLabel_7 : decode cX1_hasLabel 7 = .ok (.ifCond .ne 7, 3) := by decide +kernel
theorem dX1_hasLabel_10 : decode cX1_hasLabel 10 = .ok (.iconst 1, 1) := by decide +kernel
theorem dX1_hasLabel_11 : decode cX1_hasLabel 11 = .ok (.goto 4, 3) := by decide +kernel
theorem dX1_hasLabel_14 : decode cX1_hasLabel 14 = .ok (.iconst 0, 1) := by decide +kernel
theorem dX1_hasLabel_15 : decode cX1_hasLabel 15 = .ok (.ireturn, 1) := by decide +kernel
theorem dX1_coins_0 : decode cX1_coins 0 = .ok (.aload_n 0, 1) := by decide +kernel
theorem dX1_coins_1 : decode cX1_coins 1 = .ok (.getfield 33, 3) := by decide +kernel
theorem dX1_coins_4 : decode cX1_coins 4 = .ok (.aload_n 0, 1) := by decide +kernel
theorem dX1_coins_5 : decode cX1_coins 5 = .ok (.getfield 15, 3) := by decide +kernel
theorem dX1_coins_8 : decode cX1_coins 8 = .ok (.iconst 1, 1) := by decide +kernel
theorem dX1_coins_9 : decode cX1_coins 9 = .ok (.iadd, 1) := by decide +kernel
theorem dX1_coins_10 : decode cX1_coins 10 = .ok (.imul, 1) := by decide +kernel
theorem dX1_coins_11 : decode cX1_coins 11 = .ok (.aload_n 0, 1) := by decide +kernel
theorem dX1_coins_12 : decode cX1_coins 12 = .ok (.getfield 33, 3) := by decide +kernel
theorem dX1_coins_15 : decode cX1_coins 15 = .ok (.aload_n 0, 1) := by decide +kernel
theorem dX1_coins_16 : decode cX1_coins 16 = .ok (.getfield 43, 3) := by decide +kernel
theorem dX1_coins_19 : decode cX1_coins 19 = .ok (.imul, 1) := by decide +kernel
theorem dX1_coins_20 : decode cX1_coins 20 = .ok (.bipush 20, 2) := by decide +kernel
theorem dX1_coins_22 : decode cX1_coins 22 = .ok (.idiv, 1) := by decide +kernel
theorem dX1_coins_23 : decode cX1_coins 23 = .ok (.isub, 1) := by decide +kernel
theorem dX1_coins_24 : decode cX1_coins 24 = .ok (.ireturn, 1) := by decide +kernel
theorem dX1_putIn_0 : decode cX1_putIn 0 = .ok (.aload_n 0, 1) := by decide +kernel
theorem dX1_putIn_1 : decode cX1_putIn 1 = .ok (.iload_n 1, 1) := by decide +kernel
theorem dX1_putIn_2 : decode cX1_putIn 2 = .ok (.putfield 9, 3) := by decide +kernel
theorem dX1_putIn_5 : decode cX1_putIn 5 = .ok (.aload_n 0, 1) := by decide +kernel
theorem dX1_putIn_6 : decode cX1_putIn 6 = .ok (.iload_n 2, 1) := by decide +kernel
theorem dX1_putIn_7 : decode cX1_putIn 7 = .ok (.putfield 15, 3) := by decide +kernel
theorem dX1_putIn_10 : decode cX1_putIn 10 = .ok (.aload_n 0, 1) := by decide +kernel
theorem dX1_putIn_11 : decode cX1_putIn 11 = .ok (.dup, 1) := by decide +kernel
theorem dX1_putIn_12 : decode cX1_putIn 12 = .ok (.getfield 33, 3) := by decide +kernel
theorem dX1_putIn_15 : decode cX1_putIn 15 = .ok (.iload_n 3, 1) := by decide +kernel
theorem dX1_putIn_16 : decode cX1_putIn 16 = .ok (.iadd, 1) := by decide +kernel
theorem dX1_putIn_17 : decode cX1_putIn 17 = .ok (.putfield 33, 3) := by decide +kernel
theorem dX1_putIn_20 : decode cX1_putIn 20 = .ok (.aload_n 0, 1) := by decide +kernel
theorem dX1_putIn_21 : decode cX1_putIn 21 = .ok (.ldc 21, 2) := by decide +kernel
theorem dX1_putIn_23 : decode cX1_putIn 23 = .ok (.putfield 23, 3) := by decide +kernel
theorem dX1_putIn_26 : decode cX1_putIn 26 = .ok (.return_, 1) := by decide +kernel
theorem dX1_takeAllOut_0 : decode cX1_takeAllOut 0 = .ok (.aload_n 0, 1) := by decide +kernel
theorem dX1_takeAllOut_1 : decode cX1_takeAllOut 1 = .ok (.iconst (-1), 1) := by decide +kernel
theorem dX1_takeAllOut_2 : decode cX1_takeAllOut 2 = .ok (.putfield 9, 3) := by decide +kernel
theorem dX1_takeAllOut_5 : decode cX1_takeAllOut 5 = .ok (.aload_n 0, 1) := by decide +kernel
theorem dX1_takeAllOut_6 : decode cX1_takeAllOut 6 = .ok (.iconst (-1), 1) := by decide +kernel
theorem dX1_takeAllOut_7 : decode cX1_takeAllOut 7 = .ok (.putfield 15, 3) := by decide +kernel
theorem dX1_takeAllOut_10 : decode cX1_takeAllOut 10 = .ok (.aload_n 0, 1) := by decide +kernel
theorem dX1_takeAllOut_11 : decode cX1_takeAllOut 11 = .ok (.iconst 0, 1) := by decide +kernel
theorem dX1_takeAllOut_12 : decode cX1_takeAllOut 12 = .ok (.putfield 33, 3) := by decide +kernel
theorem dX1_takeAllOut_15 : decode cX1_takeAllOut 15 = .ok (.aload_n 0, 1) := by decide +kernel
theorem dX1_takeAllOut_16 : decode cX1_takeAllOut 16 = .ok (.iconst 0, 1) := by decide +kernel
theorem dX1_takeAllOut_17 : decode cX1_takeAllOut 17 = .ok (.putfield 43, 3) := by decide +kernel
theorem dX1_takeAllOut_20 : decode cX1_takeAllOut 20 = .ok (.aload_n 0, 1) := by decide +kernel
theorem dX1_takeAllOut_21 : decode cX1_takeAllOut 21 = .ok (.ldc 21, 2) := by decide +kernel
theorem dX1_takeAllOut_23 : decode cX1_takeAllOut 23 = .ok (.putfield 23, 3) := by decide +kernel
theorem dX1_takeAllOut_26 : decode cX1_takeAllOut 26 = .ok (.return_, 1) := by decide +kernel
theorem dX1_writeLabel_0 : decode cX1_writeLabel 0 = .ok (.aload_n 0, 1) := by decide +kernel
theorem dX1_writeLabel_1 : decode cX1_writeLabel 1 = .ok (.getfield 15, 3) := by decide +kernel
theorem dX1_writeLabel_4 : decode cX1_writeLabel 4 = .ok (.ifCond .lt 14, 3) := by decide +kernel
theorem dX1_writeLabel_7 : decode cX1_writeLabel 7 = .ok (.aload_n 0, 1) := by decide +kernel
theorem dX1_writeLabel_8 : decode cX1_writeLabel 8 = .ok (.getfield 15, 3) := by decide +kernel
theorem dX1_writeLabel_11 : decode cX1_writeLabel 11 = .ok (.getstatic 52, 3) := by decide +kernel
theorem dX1_writeLabel_14 : decode cX1_writeLabel 14 = .ok (.arraylength, 1) := by decide +kernel
theorem dX1_writeLabel_15 : decode cX1_writeLabel 15 = .ok (.if_icmp .lt 4, 3) := by decide +kernel
theorem dX1_writeLabel_18 : decode cX1_writeLabel 18 = .ok (.return_, 1) := by decide +kernel
theorem dX1_writeLabel_19 : decode cX1_writeLabel 19 = .ok (.new 56, 3) := by decide +kernel
theorem dX1_writeLabel_22 : decode cX1_writeLabel 22 = .ok (.dup, 1) := by decide +kernel
theorem dX1_writeLabel_23 : decode cX1_writeLabel 23 = .ok (.invokespecial 58, 3) := by decide +kernel
theorem dX1_writeLabel_26 : decode cX1_writeLabel 26 = .ok (.astore_n 1, 1) := by decide +kernel
theorem dX1_writeLabel_27 : decode cX1_writeLabel 27 = .ok (.aload_n 1, 1) := by decide +kernel
theorem dX1_writeLabel_28 : decode cX1_writeLabel 28 = .ok (.aload_n 0, 1) := by decide +kernel
theorem dX1_writeLabel_29 : decode cX1_writeLabel 29 = .ok (.getfield 9, 3) := by decide +kernel
theorem dX1_writeLabel_32 : decode cX1_writeLabel 32 = .ok (.invokevirtual 59, 3) := by decide +kernel
theorem dX1_writeLabel_35 : decode cX1_writeLabel 35 = .ok (.bipush 46, 2) := by decide +kernel
theorem dX1_writeLabel_37 : decode cX1_writeLabel 37 = .ok (.invokevirtual 63, 3) := by decide +kernel
theorem dX1_writeLabel_40 : decode cX1_writeLabel 40 = .ok (.getstatic 52, 3) := by decide +kernel
theorem dX1_writeLabel_43 : decode cX1_writeLabel 43 = .ok (.aload_n 0, 1) := by decide +kernel
theorem dX1_writeLabel_44 : decode cX1_writeLabel 44 = .ok (.getfield 15, 3) := by decide +kernel
theorem dX1_writeLabel_47 : decode cX1_writeLabel 47 = .ok (.aaload, 1) := by decide +kernel
theorem dX1_writeLabel_48 : decode cX1_writeLabel 48 = .ok (.getfield 66, 3) := by decide +kernel
theorem dX1_writeLabel_51 : decode cX1_writeLabel 51 = .ok (.invokevirtual 71, 3) := by decide +kernel
theorem dX1_writeLabel_54 : decode cX1_writeLabel 54 = .ok (.bipush 32, 2) := by decide +kernel
theorem dX1_writeLabel_56 : decode cX1_writeLabel 56 = .ok (.invokevirtual 63, 3) := by decide +kernel
theorem dX1_writeLabel_59 : decode cX1_writeLabel 59 = .ok (.aload_n 0, 1) := by decide +kernel
theorem dX1_writeLabel_60 : decode cX1_writeLabel 60 = .ok (.getfield 33, 3) := by decide +kernel
theorem dX1_writeLabel_63 : decode cX1_writeLabel 63 = .ok (.invokevirtual 59, 3) := by decide +kernel
theorem dX1_writeLabel_66 : decode cX1_writeLabel 66 = .ok (.pop, 1) := by decide +kernel
theorem dX1_writeLabel_67 : decode cX1_writeLabel 67 = .ok (.aload_n 0, 1) := by decide +kernel
theorem dX1_writeLabel_68 : decode cX1_writeLabel 68 = .ok (.getfield 43, 3) := by decide +kernel
theorem dX1_writeLabel_71 : decode cX1_writeLabel 71 = .ok (.iconst 1, 1) := by decide +kernel
theorem dX1_writeLabel_72 : decode cX1_writeLabel 72 = .ok (.if_icmp .lt 10, 3) := by decide +kernel
theorem dX1_writeLabel_75 : decode cX1_writeLabel 75 = .ok (.aload_n 1, 1) := by decide +kernel
theorem dX1_writeLabel_76 : decode cX1_writeLabel 76 = .ok (.ldc 74, 2) := by decide +kernel
theorem dX1_writeLabel_78 : decode cX1_writeLabel 78 = .ok (.invokevirtual 71, 3) := by decide +kernel
theorem dX1_writeLabel_81 : decode cX1_writeLabel 81 = .ok (.pop, 1) := by decide +kernel
theorem dX1_writeLabel_82 : decode cX1_writeLabel 82 = .ok (.aload_n 0, 1) := by decide +kernel
theorem dX1_writeLabel_83 : decode cX1_writeLabel 83 = .ok (.aload_n 1, 1) := by decide +kernel
theorem dX1_writeLabel_84 : decode cX1_writeLabel 84 = .ok (.invokevirtual 76, 3) := by decide +kernel
theorem dX1_writeLabel_87 : decode cX1_writeLabel 87 = .ok (.putfield 23, 3) := by decide +kernel
theorem dX1_writeLabel_90 : decode cX1_writeLabel 90 = .ok (.return_, 1) := by decide +kernel
theorem dX1_becomeDamper_0 : decode cX1_becomeDamper 0 = .ok (.aload_n 0, 1) := by decide +kernel
theorem dX1_becomeDamper_1 : decode cX1_becomeDamper 1 = .ok (.getfield 18, 3) := by decide +kernel
theorem dX1_becomeDamper_4 : decode cX1_becomeDamper 4 = .ok (.ifCond .ne 36, 3) := by decide +kernel
theorem dX1_becomeDamper_7 : decode cX1_becomeDamper 7 = .ok (.aload_n 0, 1) := by decide +kernel
theorem dX1_becomeDamper_8 : decode cX1_becomeDamper 8 = .ok (.getfield 33, 3) := by decide +kernel
theorem dX1_becomeDamper_11 : decode cX1_becomeDamper 11 = .ok (.ifCond .le 29, 3) := by decide +kernel
theorem dX1_becomeDamper_14 : decode cX1_becomeDamper 14 = .ok (.aload_n 0, 1) := by decide +kernel
theorem dX1_becomeDamper_15 : decode cX1_becomeDamper 15 = .ok (.invokevirtual 80, 3) := by decide +kernel
theorem dX1_becomeDamper_18 : decode cX1_becomeDamper 18 = .ok (.ifCond .ne 22, 3) := by decide +kernel
theorem dX1_becomeDamper_21 : decode cX1_becomeDamper 21 = .ok (.aload_n 0, 1) := by decide +kernel
theorem dX1_becomeDamper_22 : decode cX1_becomeDamper 22 = .ok (.getfield 43, 3) := by decide +kernel
theorem dX1_becomeDamper_25 : decode cX1_becomeDamper 25 = .ok (.bipush 20, 2) := by decide +kernel
theorem dX1_becomeDamper_27 : decode cX1_becomeDamper 27 = .ok (.if_icmp .ge 13, 3) := by decide +kernel
theorem dX1_becomeDamper_30 : decode cX1_becomeDamper 30 = .ok (.aload_n 0, 1) := by decide +kernel
theorem dX1_becomeDamper_31 : decode cX1_becomeDamper 31 = .ok (.dup, 1) := by decide +kernel
theorem dX1_becomeDamper_32 : decode cX1_becomeDamper 32 = .ok (.getfield 43, 3) := by decide +kernel
theorem dX1_becomeDamper_35 : decode cX1_becomeDamper 35 = .ok (.iconst 1, 1) := by decide +kernel
theorem dX1_becomeDamper_36 : decode cX1_becomeDamper 36 = .ok (.iadd, 1) := by decide +kernel
theorem dX1_becomeDamper_37 : decode cX1_becomeDamper 37 = .ok (.putfield 43, 3) := by decide +kernel
theorem dX1_becomeDamper_40 : decode cX1_becomeDamper 40 = .ok (.return_, 1) := by decide +kernel
theorem dX1_ranksBefore_0 : decode cX1_ranksBefore 0 = .ok (.aload_n 0, 1) := by decide +kernel
theorem dX1_ranksBefore_1 : decode cX1_ranksBefore 1 = .ok (.invokevirtual 83, 3) := by decide +kernel
theorem dX1_ranksBefore_4 : decode cX1_ranksBefore 4 = .ok (.aload_n 1, 1) := by decide +kernel
theorem dX1_ranksBefore_5 : decode cX1_ranksBefore 5 = .ok (.invokevirtual 83, 3) := by decide +kernel
theorem dX1_ranksBefore_8 : decode cX1_ranksBefore 8 = .ok (.if_icmp .eq 20, 3) := by decide +kernel
theorem dX1_ranksBefore_11 : decode cX1_ranksBefore 11 = .ok (.aload_n 0, 1) := by decide +kernel
theorem dX1_ranksBefore_12 : decode cX1_ranksBefore 12 = .ok (.invokevirtual 83, 3) := by decide +kernel
theorem dX1_ranksBefore_15 : decode cX1_ranksBefore 15 = .ok (.aload_n 1, 1) := by decide +kernel
theorem dX1_ranksBefore_16 : decode cX1_ranksBefore 16 = .ok (.invokevirtual 83, 3) := by decide +kernel
theorem dX1_ranksBefore_19 : decode cX1_ranksBefore 19 = .ok (.if_icmp .le 7, 3) := by decide +kernel
theorem dX1_ranksBefore_22 : decode cX1_ranksBefore 22 = .ok (.iconst 1, 1) := by decide +kernel
theorem dX1_ranksBefore_23 : decode cX1_ranksBefore 23 = .ok (.goto 4, 3) := by decide +kernel
theorem dX1_ranksBefore_26 : decode cX1_ranksBefore 26 = .ok (.iconst 0, 1) := by decide +kernel
theorem dX1_ranksBefore_27 : decode cX1_ranksBefore 27 = .ok (.ireturn, 1) := by decide +kernel
theorem dX1_ranksBefore_28 : decode cX1_ranksBefore 28 = .ok (.aload_n 0, 1) := by decide +kernel
theorem dX1_ranksBefore_29 : decode cX1_ranksBefore 29 = .ok (.getfield 43, 3) := by decide +kernel
theorem dX1_ranksBefore_32 : decode cX1_ranksBefore 32 = .ok (.aload_n 1, 1) := by decide +kernel
theorem dX1_ranksBefore_33 : decode cX1_ranksBefore 33 = .ok (.getfield 43, 3) := by decide +kernel
theorem dX1_ranksBefore_36 : decode cX1_ranksBefore 36 = .ok (.if_icmp .eq 20, 3) := by decide +kernel
theorem dX1_ranksBefore_39 : decode cX1_ranksBefore 39 = .ok (.aload_n 0, 1) := by decide +kernel
theorem dX1_ranksBefore_40 : decode cX1_ranksBefore 40 = .ok (.getfield 43, 3) := by decide +kernel
theorem dX1_ranksBefore_43 : decode cX1_ranksBefore 43 = .ok (.aload_n 1, 1) := by decide +kernel
theorem dX1_ranksBefore_44 : decode cX1_ranksBefore 44 = .ok (.getfield 43, 3) := by decide +kernel
theorem dX1_ranksBefore_47 : decode cX1_ranksBefore 47 = .ok (.if_icmp .ge 7, 3) := by decide +kernel
theorem dX1_ranksBefore_50 : decode cX1_ranksBefore 50 = .ok (.iconst 1, 1) := by decide +kernel
theorem dX1_ranksBefore_51 : decode cX1_ranksBefore 51 = .ok (.goto 4, 3) := by decide +kernel
theorem dX1_ranksBefore_54 : decode cX1_ranksBefore 54 = .ok (.iconst 0, 1) := by decide +kernel
theorem dX1_ranksBefore_55 : decode cX1_ranksBefore 55 = .ok (.ireturn, 1) := by decide +kernel
theorem dX1_ranksBefore_56 : decode cX1_ranksBefore 56 = .ok (.aload_n 0, 1) := by decide +kernel
theorem dX1_ranksBefore_57 : decode cX1_ranksBefore 57 = .ok (.getfield 27, 3) := by decide +kernel
theorem dX1_ranksBefore_60 : decode cX1_ranksBefore 60 = .ok (.aload_n 1, 1) := by decide +kernel
theorem dX1_ranksBefore_61 : decode cX1_ranksBefore 61 = .ok (.getfield 27, 3) := by decide +kernel
theorem dX1_ranksBefore_64 : decode cX1_ranksBefore 64 = .ok (.if_icmp .ge 7, 3) := by decide +kernel
theorem dX1_ranksBefore_67 : decode cX1_ranksBefore 67 = .ok (.iconst 1, 1) := by decide +kernel
theorem dX1_ranksBefore_68 : decode cX1_ranksBefore 68 = .ok (.goto 4, 3) := by decide +kernel
theorem dX1_ranksBefore_71 : decode cX1_ranksBefore 71 = .ok (.iconst 0, 1) := by decide +kernel
theorem dX1_ranksBefore_72 : decode cX1_ranksBefore 72 = .ok (.ireturn, 1) := by decide +kernel
theorem dX2_init_0 : decode cX2_init 0 = .ok (.aload_n 0, 1) := by decide +kernel
theorem dX2_init_1 : decode cX2_init 1 = .ok (.invokespecial 3, 3) := by decide +kernel
theorem dX2_init_4 : decode cX2_init 4 = .ok (.aload_n 0, 1) := by decide +kernel
theorem dX2_init_5 : decode cX2_init 5 = .ok (.bipush 60, 2) := by decide +kernel
theorem dX2_init_7 : decode cX2_init 7 = .ok (.newarray .char, 2) := by decide +kernel
theorem dX2_init_9 : decode cX2_init 9 = .ok (.putfield 9, 3) := by decide +kernel
theorem dX2_init_12 : decode cX2_init 12 = .ok (.return_, 1) := by decide +kernel
theorem dX2_append_0 : decode cX2_append 0 = .ok (.aload_n 0, 1) := by decide +kernel
theorem dX2_append_1 : decode cX2_append 1 = .ok (.getfield 15, 3) := by decide +kernel
theorem dX2_append_4 : decode cX2_append 4 = .ok (.aload_n 0, 1) := by decide +kernel
theorem dX2_append_5 : decode cX2_append 5 = .ok (.getfield 9, 3) := by decide +kernel
theorem dX2_append_8 : decode cX2_append 8 = .ok (.arraylength, 1) := by decide +kernel
theorem dX2_append_9 : decode cX2_append 9 = .ok (.if_icmp .lt 5, 3) := by decide +kernel
theorem dX2_append_12 : decode cX2_append 12 = .ok (.iconst 0, 1) := by decide +kernel
theorem dX2_append_13 : decode cX2_append 13 = .ok (.ireturn, 1) := by decide +kernel
theorem dX2_append_14 : decode cX2_append 14 = .ok (.aload_n 0, 1) := by decide +kernel
theorem dX2_append_15 : decode cX2_append 15 = .ok (.getfield 9, 3) := by decide +kernel
theorem dX2_append_18 : decode cX2_append 18 = .ok (.aload_n 0, 1) := by decide +kernel
theorem dX2_append_19 : decode cX2_append 19 = .ok (.getfield 15, 3) := by decide +kernel
theorem dX2_append_22 : decode cX2_append 22 = .ok (.iload_n 1, 1) := by decide +kernel
theorem dX2_append_23 : decode cX2_append 23 = .ok (.castore, 1) := by decide +kernel
theorem dX2_append_24 : decode cX2_append 24 = .ok (.aload_n 0, 1) := by decide +kernel
theorem dX2_append_25 : decode cX2_append 25 = .ok (.dup, 1) := by decide +kernel
theorem dX2_append_26 : decode cX2_append 26 = .ok (.getfield 15, 3) := by decide +kernel
theorem dX2_append_29 : decode cX2_append 29 = .ok (.iconst 1, 1) := by decide +kernel
theorem dX2_append_30 : decode cX2_append 30 = .ok (.iadd, 1) := by decide +kernel
theorem dX2_append_31 : decode cX2_append 31 = .ok (.putfield 15, 3) := by decide +kernel
theorem dX2_append_34 : decode cX2_append 34 = .ok (.iconst 1, 1) := by decide +kernel
theorem dX2_append_35 : decode cX2_append 35 = .ok (.ireturn, 1) := by decide +kernel
theorem dX2_clear_0 : decode cX2_clear 0 = .ok (.aload_n 0, 1) := by decide +kernel
theorem dX2_clear_1 : decode cX2_clear 1 = .ok (.iconst 0, 1) := by decide +kernel
theorem dX2_clear_2 : decode cX2_clear 2 = .ok (.putfield 15, 3) := by decide +kernel
theorem dX2_clear_5 : decode cX2_clear 5 = .ok (.return_, 1) := by decide +kernel
theorem dX2_rewind_0 : decode cX2_rewind 0 = .ok (.aload_n 0, 1) := by decide +kernel
theorem dX2_rewind_1 : decode cX2_rewind 1 = .ok (.iconst 0, 1) := by decide +kernel
theorem dX2_rewind_2 : decode cX2_rewind 2 = .ok (.putfield 19, 3) := by decide +kernel
theorem dX2_rewind_5 : decode cX2_rewind 5 = .ok (.return_, 1) := by decide +kernel
theorem dX2_countCommands_0 : decode cX2_countCommands 0 = .ok (.aload_n 0, 1) := by decide +kernel
theorem dX2_countCommands_1 : decode cX2_countCommands 1 = .ok (.invokevirtual 22, 3) := by decide +kernel
theorem dX2_countCommands_4 : decode cX2_countCommands 4 = .ok (.iconst 1, 1) := by decide +kernel
theorem dX2_countCommands_5 : decode cX2_countCommands 5 = .ok (.istore_n 1, 1) := by decide +kernel
theorem dX2_countCommands_6 : decode cX2_countCommands 6 = .ok (.iload_n 1, 1) := by decide +kernel
theorem dX2_countCommands_7 : decode cX2_countCommands 7 = .ok (.bipush 60, 2) := by decide +kernel
theorem dX2_countCommands_9 : decode cX2_countCommands 9 = .ok (.if_icmp .gt 54, 3) := by decide +kernel
theorem dX2_countCommands_12 : decode cX2_countCommands 12 = .ok (.aload_n 0, 1) := by decide +kernel
theorem dX2_countCommands_13 : decode cX2_countCommands 13 = .ok (.invokevirtual 25, 3) := by decide +kernel
theorem dX2_countCommands_16 : decode cX2_countCommands 16 = .ok (.ifCond .ne 11, 3) := by decide +kernel
theorem dX2_countCommands_19 : decode cX2_countCommands 19 = .ok (.bipush (-100), 2) := by decide +kernel
theorem dX2_countCommands_21 : decode cX2_countCommands 21 = .ok (.aload_n 0, 1) := by decide +kernel
theorem dX2_countCommands_22 : decode cX2_countCommands 22 = .ok (.getfield 19, 3) := by decide +kernel
theorem dX2_countCommands_25 : decode cX2_countCommands 25 = .ok (.isub, 1) := by decide +kernel
theorem dX2_countCommands_26 : decode cX2_countCommands 26 = .ok (.ireturn, 1) := by decide +kernel
theorem dX2_countCommands_27 : decode cX2_countCommands 27 = .ok (.aload_n 0, 1) := by decide +kernel
theorem dX2_countCommands_28 : decode cX2_countCommands 28 = .ok (.getfield 19, 3) := by decide +kernel
theorem dX2_countCommands_31 : decode cX2_countCommands 31 = .ok (.aload_n 0, 1) := by decide +kernel
theorem dX2_countCommands_32 : decode cX2_countCommands 32 = .ok (.getfield 15, 3) := by decide +kernel
theorem dX2_countCommands_35 : decode cX2_countCommands 35 = .ok (.if_icmp .ne 5, 3) := by decide +kernel
theorem dX2_countCommands_38 : decode cX2_countCommands 38 = .ok (.iload_n 1, 1) := by decide +kernel
theorem dX2_countCommands_39 : decode cX2_countCommands 39 = .ok (.ireturn, 1) := by decide +kernel
theorem dX2_countCommands_40 : decode cX2_countCommands 40 = .ok (.aload_n 0, 1) := by decide +kernel
theorem dX2_countCommands_41 : decode cX2_countCommands 41 = .ok (.bipush 59, 2) := by decide +kernel
theorem dX2_countCommands_43 : decode cX2_countCommands 43 = .ok (.invokevirtual 29, 3) := by decide +kernel
theorem dX2_countCommands_46 : decode cX2_countCommands 46 = .ok (.ifCond .ne 11, 3) := by decide +kernel
theorem dX2_countCommands_49 : decode cX2_countCommands 49 = .ok (.bipush (-100), 2) := by decide +kernel
theorem dX2_countCommands_51 : decode cX2_countCommands 51 = .ok (.aload_n 0, 1) := by decide +kernel
theorem dX2_countCommands_52 : decode cX2_countCommands 52 = .ok (.getfield 19, 3) := by decide +kernel
theorem dX2_countCommands_55 : decode cX2_countCommands 55 = .ok (.isub, 1) := by decide +kernel
theorem dX2_countCommands_56 : decode cX2_countCommands 56 = .ok (.ireturn, 1) := by decide +kernel
theorem dX2_countCommands_57 : decode cX2_countCommands 57 = .ok (.iinc 1 1, 3) := by decide +kernel
theorem dX2_countCommands_60 : decode cX2_countCommands 60 = .ok (.goto (-54), 3) := by decide +kernel
theorem dX2_countCommands_63 : decode cX2_countCommands 63 = .ok (.bipush (-100), 2) := by decide +kernel
theorem dX2_countCommands_65 : decode cX2_countCommands 65 = .ok (.aload_n 0, 1) := by decide +kernel
theorem dX2_countCommands_66 : decode cX2_countCommands 66 = .ok (.getfield 19, 3) := by decide +kernel
theorem dX2_countCommands_69 : decode cX2_countCommands 69 = .ok (.isub, 1) := by decide +kernel
theorem dX2_countCommands_70 : decode cX2_countCommands 70 = .ok (.ireturn, 1) := by decide +kernel
theorem dX2_readCommand_0 : decode cX2_readCommand 0 = .ok (.aload_n 0, 1) := by decide +kernel
theorem dX2_readCommand_1 : decode cX2_readCommand 1 = .ok (.aload_n 0, 1) := by decide +kernel
theorem dX2_readCommand_2 : decode cX2_readCommand 2 = .ok (.invokevirtual 33, 3) := by decide +kernel
theorem dX2_readCommand_5 : decode cX2_readCommand 5 = .ok (.putfield 37, 3) := by decide +kernel
theorem dX2_readCommand_8 : decode cX2_readCommand 8 = .ok (.aload_n 0, 1) := by decide +kernel
theorem dX2_readCommand_9 : decode cX2_readCommand 9 = .ok (.getfield 37, 3) := by decide +kernel
theorem dX2_readCommand_12 : decode cX2_readCommand 12 = .ok (.ifnonnull 5, 3) := by decide +kernel
theorem dX2_readCommand_15 : decode cX2_readCommand 15 = .ok (.iconst 0, 1) := by decide +kernel
theorem dX2_readCommand_16 : decode cX2_readCommand 16 = .ok (.ireturn, 1) := by decide +kernel
theorem dX2_readCommand_17 : decode cX2_readCommand 17 = .ok (.getstatic 41, 3) := by decide +kernel
theorem dX2_readCommand_20 : decode cX2_readCommand 20 = .ok (.aload_n 0, 1) := by decide +kernel
theorem dX2_readCommand_21 : decode cX2_readCommand 21 = .ok (.getfield 37, 3) := by decide +kernel
theorem dX2_readCommand_24 : decode cX2_readCommand 24 = .ok (.invokevirtual 47, 3) := by decide +kernel
theorem dX2_readCommand_27 : decode cX2_readCommand 27 = .ok (.iaload, 1) := by decide +kernel
theorem dX2_readCommand_28 : decode cX2_readCommand 28 = .ok (.tableswitch 125 2 8 #[51, 96, 125, 125, 125, 44, 46], 44) := by decide +kernel
theorem dX2_readCommand_72 : decode cX2_readCommand 72 = .ok (.iconst 1, 1) := by decide +kernel
theorem dX2_readCommand_73 : decode cX2_readCommand 73 = .ok (.ireturn, 1) := by decide +kernel
theorem dX2_readCommand_74 : decode cX2_readCommand 74 = .ok (.aload_n 0, 1) := by decide +kernel
theorem dX2_readCommand_75 : decode cX2_readCommand 75 = .ok (.invokevirtual 53, 3) := by decide +kernel
theorem dX2_readCommand_78 : decode cX2_readCommand 78 = .ok (.ireturn, 1) := by decide +kernel
theorem dX2_readCommand_79 : decode cX2_readCommand 79 = .ok (.aload_n 0, 1) := by decide +kernel
theorem dX2_readCommand_80 : decode cX2_readCommand 80 = .ok (.invokevirtual 56, 3) := by decide +kernel
theorem dX2_readCommand_83 : decode cX2_readCommand 83 = .ok (.ifCond .eq 39, 3) := by decide +kernel
theorem dX2_readCommand_86 : decode cX2_readCommand 86 = .ok (.aload_n 0, 1) := by decide +kernel
theorem dX2_readCommand_87 : decode cX2_readCommand 87 = .ok (.bipush 32, 2) := by decide +kernel
theorem dX2_readCommand_89 : decode cX2_readCommand 89 = .ok (.invokevirtual 29, 3) := by decide +kernel
theorem dX2_readCommand_92 : decode cX2_readCommand 92 = .ok (.ifCond .eq 30, 3) := by decide +kernel
theorem dX2_readCommand_95 : decode cX2_readCommand 95 = .ok (.aload_n 0, 1) := by decide +kernel
theorem dX2_readCommand_96 : decode cX2_readCommand 96 = .ok (.invokevirtual 59, 3) := by decide +kernel
theorem dX2_readCommand_99 : decode cX2_readCommand 99 = .ok (.ifCond .eq 23, 3) := by decide +kernel
theorem dX2_readCommand_102 : decode cX2_readCommand 102 = .ok (.aload_n 0, 1) := by decide +kernel
theorem dX2_readCommand_103 : decode cX2_readCommand 103 = .ok (.bipush 32, 2) := by decide +kernel
theorem dX2_readCommand_105 : decode cX2_readCommand 105 = .ok (.invokevirtual 29, 3) := by decide +kernel
theorem dX2_readCommand_108 : decode cX2_readCommand 108 = .ok (.ifCond .eq 14, 3) := by decide +kernel
theorem dX2_readCommand_111 : decode cX2_readCommand 111 = .ok (.aload_n 0, 1) := by decide +kernel
theorem dX2_readCommand_112 : decode cX2_readCommand 112 = .ok (.invokevirtual 53, 3) := by decide +kernel
theorem dX2_readCommand_115 : decode cX2_readCommand 115 = .ok (.ifCond .eq 7, 3) := by decide +kernel
theorem dX2_readCommand_118 : decode cX2_readCommand 118 = .ok (.iconst 1, 1) := by decide +kernel
theorem dX2_readCommand_119 : decode cX2_readCommand 119 = .ok (.goto 4, 3) := by decide +kernel
theorem dX2_readCommand_122 : decode cX2_readCommand 122 = .ok (.iconst 0, 1) := by decide +kernel
theorem dX2_readCommand_123 : decode cX2_readCommand 123 = .ok (.ireturn, 1) := by decide +kernel
theorem dX2_readCommand_124 : decode cX2_readCommand 124 = .ok (.aload_n 0, 1) := by decide +kernel
theorem dX2_readCommand_125 : decode cX2_readCommand 125 = .ok (.invokevirtual 56, 3) := by decide +kernel
theorem dX2_readCommand_128 : decode cX2_readCommand 128 = .ok (.ifCond .eq 23, 3) := by decide +kernel
theorem dX2_readCommand_131 : decode cX2_readCommand 131 = .ok (.aload_n 0, 1) := by decide +kernel
theorem dX2_readCommand_132 : decode cX2_readCommand 132 = .ok (.bipush 32, 2) := by decide +kernel
theorem dX2_readCommand_134 : decode cX2_readCommand 134 = .ok (.invokevirtual 29, 3) := by decide +kernel
theorem dX2_readCommand_137 : decode cX2_readCommand 137 = .ok (.ifCond .eq 14, 3) := by decide +kernel
theorem dX2_readCommand_140 : decode cX2_readCommand 140 = .ok (.aload_n 0, 1) := by decide +kernel
theorem dX2_readCommand_141 : decode cX2_readCommand 141 = .ok (.invokevirtual 62, 3) := by decide +kernel
theorem dX2_readCommand_144 : decode cX2_readCommand 144 = .ok (.ifCond .eq 7, 3) := by decide +kernel
theorem dX2_readCommand_147 : decode cX2_readCommand 147 = .ok (.iconst 1, 1) := by decide +kernel
theorem dX2_readCommand_148 : decode cX2_readCommand 148 = .ok (.goto 4, 3) := by decide +kernel
theorem dX2_readCommand_151 : decode cX2_readCommand 151 = .ok (.iconst 0, 1) := by decide +kernel
theorem dX2_readCommand_152 : decode cX2_readCommand 152 = .ok (.ireturn, 1) := by decide +kernel
theorem dX2_readCommand_153 : decode cX2_readCommand 153 = .ok (.aload_n 0, 1) := by decide +kernel
theorem dX2_readCommand_154 : decode cX2_readCommand 154 = .ok (.invokevirtual 56, 3) := by decide +kernel
theorem dX2_readCommand_157 : decode cX2_readCommand 157 = .ok (.ireturn, 1) := by decide +kernel
theorem dX2_readSign_0 : decode cX2_readSign 0 = .ok (.aload_n 0, 1) := by decide +kernel
theorem dX2_readSign_1 : decode cX2_readSign 1 = .ok (.aload_n 0, 1) := by decide +kernel
theorem dX2_readSign_2 : decode cX2_readSign 2 = .ok (.getfield 19, 3) := by decide +kernel
theorem dX2_readSign_5 : decode cX2_readSign 5 = .ok (.invokevirtual 65, 3) := by decide +kernel
theorem dX2_readSign_8 : decode cX2_readSign 8 = .ok (.iload_n 1, 1) := by decide +kernel
theorem dX2_readSign_9 : decode cX2_readSign 9 = .ok (.if_icmp .eq 5, 3) := by decide +kernel
theorem dX2_readSign_12 : decode cX2_readSign 12 = .ok (.iconst 0, 1) := by decide +kernel
theorem dX2_readSign_13 : decode cX2_readSign 13 = .ok (.ireturn, 1) := by decide +kernel
theorem dX2_readSign_14 : decode cX2_readSign 14 = .ok (.aload_n 0, 1) := by decide +kernel
theorem dX2_readSign_15 : decode cX2_readSign 15 = .ok (.dup, 1) := by decide +kernel
theorem dX2_readSign_16 : decode cX2_readSign 16 = .ok (.getfield 19, 3) := by decide +kernel
theorem dX2_readSign_19 : decode cX2_readSign 19 = .ok (.iconst 1, 1) := by decide +kernel
theorem dX2_readSign_20 : decode cX2_readSign 20 = .ok (.iadd, 1) := by decide +kernel
theorem dX2_readSign_21 : decode cX2_readSign 21 = .ok (.putfield 19, 3) := by decide +kernel
theorem dX2_readSign_24 : decode cX2_readSign 24 = .ok (.iconst 1, 1) := by decide +kernel
theorem dX2_readSign_25 : decode cX2_readSign 25 = .ok (.ireturn, 1) := by decide +kernel
theorem dX2_signAt_0 : decode cX2_signAt 0 = .ok (.iload_n 1, 1) := by decide +kernel
theorem dX2_signAt_1 : decode cX2_signAt 1 = .ok (.ifCond .lt 29, 3) := by decide +kernel
theorem dX2_signAt_4 : decode cX2_signAt 4 = .ok (.iload_n 1, 1) := by decide +kernel
theorem dX2_signAt_5 : decode cX2_signAt 5 = .ok (.aload_n 0, 1) := by decide +kernel
theorem dX2_signAt_6 : decode cX2_signAt 6 = .ok (.getfield 15, 3) := by decide +kernel
theorem dX2_signAt_9 : decode cX2_signAt 9 = .ok (.if_icmp .ge 21, 3) := by decide +kernel
theorem dX2_signAt_12 : decode cX2_signAt 12 = .ok (.iload_n 1, 1) := by decide +kernel
theorem dX2_signAt_13 : decode cX2_signAt 13 = .ok (.aload_n 0, 1) := by decide +kernel
theorem dX2_signAt_14 : decode cX2_signAt 14 = .ok (.getfield 9, 3) := by decide +kernel
theorem dX2_signAt_17 : decode cX2_signAt 17 = .ok (.arraylength, 1) := by decide +kernel
theorem dX2_signAt_18 : decode cX2_signAt 18 = .ok (.if_icmp .ge 12, 3) := by decide +kernel
theorem dX2_signAt_21 : decode cX2_signAt 21 = .ok (.aload_n 0, 1) := by decide +kernel
theorem dX2_signAt_22 : decode cX2_signAt 22 = .ok (.getfield 9, 3) := by decide +kernel
theorem dX2_signAt_25 : decode cX2_signAt 25 = .ok (.iload_n 1, 1) := by decide +kernel
theorem dX2_signAt_26 : decode cX2_signAt 26 = .ok (.caload, 1) := by decide +kernel
theorem dX2_signAt_27 : decode cX2_signAt 27 = .ok (.goto 4, 3) := by decide +kernel
theorem dX2_signAt_30 : decode cX2_signAt 30 = .ok (.iconst (-1), 1) := by decide +kernel
theorem dX2_signAt_31 : decode cX2_signAt 31 = .ok (.ireturn, 1) := by decide +kernel
theorem dX2_readLeaf_0 : decode cX2_readLeaf 0 = .ok (.aload_n 0, 1) := by decide +kernel
theorem dX2_readLeaf_1 : decode cX2_readLeaf 1 = .ok (.aload_n 0, 1) := by decide +kernel
theorem dX2_readLeaf_2 : decode cX2_readLeaf 2 = .ok (.invokevirtual 69, 3) := by decide +kernel
theorem dX2_readLeaf_5 : decode cX2_readLeaf 5 = .ok (.putfield 72, 3) := by decide +kernel
theorem dX2_readLeaf_8 : decode cX2_readLeaf 8 = .ok (.aload_n 0, 1) := by decide +kernel
theorem dX2_readLeaf_9 : decode cX2_readLeaf 9 = .ok (.getfield 72, 3) := by decide +kernel
theorem dX2_readLeaf_12 : decode cX2_readLeaf 12 = .ok (.ifCond .lt 23, 3) := by decide +kernel
theorem dX2_readLeaf_15 : decode cX2_readLeaf 15 = .ok (.aload_n 0, 1) := by decide +kernel
theorem dX2_readLeaf_16 : decode cX2_readLeaf 16 = .ok (.bipush 46, 2) := by decide +kernel
theorem dX2_readLeaf_18 : decode cX2_readLeaf 18 = .ok (.invokevirtual 29, 3) := by decide +kernel
theorem dX2_readLeaf_21 : decode cX2_readLeaf 21 = .ok (.ifCond .eq 14, 3) := by decide +kernel
theorem dX2_readLeaf_24 : decode cX2_readLeaf 24 = .ok (.aload_n 0, 1) := by decide +kernel
theorem dX2_readLeaf_25 : decode cX2_readLeaf 25 = .ok (.invokevirtual 75, 3) := by decide +kernel
theorem dX2_readLeaf_28 : decode cX2_readLeaf 28 = .ok (.ifCond .eq 7, 3) := by decide +kernel
theorem dX2_readLeaf_31 : decode cX2_readLeaf 31 = .ok (.iconst 1, 1) := by decide +kernel
theorem dX2_readLeaf_32 : decode cX2_readLeaf 32 = .ok (.goto 4, 3) := by decide +kernel
theorem dX2_readLeaf_35 : decode cX2_readLeaf 35 = .ok (.iconst 0, 1) := by decide +kernel
theorem dX2_readLeaf_36 : decode cX2_readLeaf 36 = .ok (.ireturn, 1) := by decide +kernel
theorem dX2_readChest_0 : decode cX2_readChest 0 = .ok (.aload_n 0, 1) := by decide +kernel
theorem dX2_readChest_1 : decode cX2_readChest 1 = .ok (.aload_n 0, 1) := by decide +kernel
theorem dX2_readChest_2 : decode cX2_readChest 2 = .ok (.invokevirtual 78, 3) := by decide +kernel
theorem dX2_readChest_5 : decode cX2_readChest 5 = .ok (.putfield 81, 3) := by decide +kernel
theorem dX2_readChest_8 : decode cX2_readChest 8 = .ok (.aload_n 0, 1) := by decide +kernel
theorem dX2_readChest_9 : decode cX2_readChest 9 = .ok (.getfield 81, 3) := by decide +kernel
theorem dX2_readChest_12 : decode cX2_readChest 12 = .ok (.ifCond .lt 7, 3) := by decide +kernel
theorem dX2_readChest_15 : decode cX2_readChest 15 = .ok (.iconst 1, 1) := by decide +kernel
theorem dX2_readChest_16 : decode cX2_readChest 16 = .ok (.goto 4, 3) := by decide +kernel
theorem dX2_readChest_19 : decode cX2_readChest 19 = .ok (.iconst 0, 1) := by decide +kernel
theorem dX2_readChest_20 : decode cX2_readChest 20 = .ok (.ireturn, 1) := by decide +kernel
theorem dX2_readManyAsNumber_0 : decode cX2_readManyAsNumber 0 = .ok (.aload_n 0, 1) := by decide +kernel
theorem dX2_readManyAsNumber_1 : decode cX2_readManyAsNumber 1 = .ok (.aload_n 0, 1) := by decide +kernel
theorem dX2_readManyAsNumber_2 : decode cX2_readManyAsNumber 2 = .ok (.invokevirtual 78, 3) := by decide +kernel
theorem dX2_readManyAsNumber_5 : decode cX2_readManyAsNumber 5 = .ok (.putfield 84, 3) := by decide +kernel
theorem dX2_readManyAsNumber_8 : decode cX2_readManyAsNumber 8 = .ok (.aload_n 0, 1) := by decide +kernel
theorem dX2_readManyAsNumber_9 : decode cX2_readManyAsNumber 9 = .ok (.getfield 84, 3) := by decide +kernel
theorem dX2_readManyAsNumber_12 : decode cX2_readManyAsNumber 12 = .ok (.ifCond .lt 7, 3) := by decide +kernel
theorem dX2_readManyAsNumber_15 : decode cX2_readManyAsNumber 15 = .ok (.iconst 1, 1) := by decide +kernel
theorem dX2_readManyAsNumber_16 : decode cX2_readManyAsNumber 16 = .ok (.goto 4, 3) := by decide +kernel
theorem dX2_readManyAsNumber_19 : decode cX2_readManyAsNumber 19 = .ok (.iconst 0, 1) := by decide +kernel
theorem dX2_readManyAsNumber_20 : decode cX2_readManyAsNumber 20 = .ok (.ireturn, 1) := by decide +kernel
theorem dX2_readManyAsDigit_0 : decode cX2_readManyAsDigit 0 = .ok (.aload_n 0, 1) := by decide +kernel
theorem dX2_readManyAsDigit_1 : decode cX2_readManyAsDigit 1 = .ok (.aload_n 0, 1) := by decide +kernel
theorem dX2_readManyAsDigit_2 : decode cX2_readManyAsDigit 2 = .ok (.invokevirtual 69, 3) := by decide +kernel
theorem dX2_readManyAsDigit_5 : decode cX2_readManyAsDigit 5 = .ok (.putfield 84, 3) := by decide +kernel
theorem dX2_readManyAsDigit_8 : decode cX2_readManyAsDigit 8 = .ok (.aload_n 0, 1) := by decide +kernel
theorem dX2_readManyAsDigit_9 : decode cX2_readManyAsDigit 9 = .ok (.getfield 84, 3) := by decide +kernel
theorem dX2_readManyAsDigit_12 : decode cX2_readManyAsDigit 12 = .ok (.ifCond .lt 7, 3) := by decide +kernel
theorem dX2_readManyAsDigit_15 : decode cX2_readManyAsDigit 15 = .ok (.iconst 1, 1) := by decide +kernel
theorem dX2_readManyAsDigit_16 : decode cX2_readManyAsDigit 16 = .ok (.goto 4, 3) := by decide +kernel
theorem dX2_readManyAsDigit_19 : decode cX2_readManyAsDigit 19 = .ok (.iconst 0, 1) := by decide +kernel
theorem dX2_readManyAsDigit_20 : decode cX2_readManyAsDigit 20 = .ok (.ireturn, 1) := by decide +kernel
theorem dX2_readNumber_0 : decode cX2_readNumber 0 = .ok (.aload_n 0, 1) := by decide +kernel
theorem dX2_readNumber_1 : decode cX2_readNumber 1 = .ok (.invokevirtual 69, 3) := by decide +kernel
theorem dX2_readNumber_4 : decode cX2_readNumber 4 = .ok (.istore_n 1, 1) := by decide +kernel
theorem dX2_readNumber_5 : decode cX2_readNumber 5 = .ok (.iload_n 1, 1) := by decide +kernel
theorem dX2_readNumber_6 : decode cX2_readNumber 6 = .ok (.ifCond .ge 5, 3) := by decide +kernel
theorem dX2_readNumber_9 : decode cX2_readNumber 9 = .ok (.iconst (-1), 1) := by decide +kernel
theorem dX2_readNumber_10 : decode cX2_readNumber 10 = .ok (.ireturn, 1) := by decide +kernel
theorem dX2_readNumber_11 : decode cX2_readNumber 11 = .ok (.aload_n 0, 1) := by decide +kernel
theorem dX2_readNumber_12 : decode cX2_readNumber 12 = .ok (.invokevirtual 69, 3) := by decide +kernel
theorem dX2_readNumber_15 : decode cX2_readNumber 15 = .ok (.istore_n 2, 1) := by decide +kernel
theorem dX2_readNumber_16 : decode cX2_readNumber 16 = .ok (.iload_n 2, 1) := by decide +kernel
theorem dX2_readNumber_17 : decode cX2_readNumber 17 = .ok (.ifCond .ge 7, 3) := by decide +kernel
theorem dX2_readNumber_20 : decode cX2_readNumber 20 = .ok (.iload_n 1, 1) := by decide +kernel
theorem dX2_readNumber_21 : decode cX2_readNumber 21 = .ok (.goto 9, 3) := by decide +kernel
theorem dX2_readNumber_24 : decode cX2_readNumber 24 = .ok (.bipush 10, 2) := by decide +kernel
theorem dX2_readNumber_26 : decode cX2_readNumber 26 = .ok (.iload_n 1, 1) := by decide +kernel
theorem dX2_readNumber_27 : decode cX2_readNumber 27 = .ok (.imul, 1) := by decide +kernel
theorem dX2_readNumber_28 : decode cX2_readNumber 28 = .ok (.iload_n 2, 1) := by decide +kernel
theorem dX2_readNumber_29 : decode cX2_readNumber 29 = .ok (.iadd, 1) := by decide +kernel
theorem dX2_readNumber_30 : decode cX2_readNumber 30 = .ok (.ireturn, 1) := by decide +kernel
theorem dX2_readDigit_0 : decode cX2_readDigit 0 = .ok (.aload_n 0, 1) := by decide +kernel
theorem dX2_readDigit_1 : decode cX2_readDigit 1 = .ok (.aload_n 0, 1) := by decide +kernel
theorem dX2_readDigit_2 : decode cX2_readDigit 2 = .ok (.getfield 19, 3) := by decide +kernel
theorem dX2_readDigit_5 : decode cX2_readDigit 5 = .ok (.invokevirtual 65, 3) := by decide +kernel
theorem dX2_readDigit_8 : decode cX2_readDigit 8 = .ok (.istore_n 1, 1) := by decide +kernel
theorem dX2_readDigit_9 : decode cX2_readDigit 9 = .ok (.iload_n 1, 1) := by decide +kernel
theorem dX2_readDigit_10 : decode cX2_readDigit 10 = .ok (.bipush 48, 2) := by decide +kernel
theorem dX2_readDigit_12 : decode cX2_readDigit 12 = .ok (.if_icmp .lt 9, 3) := by decide +kernel
theorem dX2_readDigit_15 : decode cX2_readDigit 15 = .ok (.iload_n 1, 1) := by decide +kernel
theorem dX2_readDigit_16 : decode cX2_readDigit 16 = .ok (.bipush 57, 2) := by decide +kernel
theorem dX2_readDigit_18 : decode cX2_readDigit 18 = .ok (.if_icmp .le 5, 3) := by decide +kernel
theorem dX2_readDigit_21 : decode cX2_readDigit 21 = .ok (.iconst (-1), 1) := by decide +kernel
theorem dX2_readDigit_22 : decode cX2_readDigit 22 = .ok (.ireturn, 1) := by decide +kernel
theorem dX2_readDigit_23 : decode cX2_readDigit 23 = .ok (.aload_n 0, 1) := by decide +kernel
theorem dX2_readDigit_24 : decode cX2_readDigit 24 = .ok (.dup, 1) := by decide +kernel
theorem dX2_readDigit_25 : decode cX2_readDigit 25 = .ok (.getfield 19, 3) := by decide +kernel
theorem dX2_readDigit_28 : decode cX2_readDigit 28 = .ok (.iconst 1, 1) := by decide +kernel
theorem dX2_readDigit_29 : decode cX2_readDigit 29 = .ok (.iadd, 1) := by decide +kernel
theorem dX2_readDigit_30 : decode cX2_readDigit 30 = .ok (.putfield 19, 3) := by decide +kernel
theorem dX2_readDigit_33 : decode cX2_readDigit 33 = .ok (.iload_n 1, 1) := by decide +kernel
theorem dX2_readDigit_34 : decode cX2_readDigit 34 = .ok (.bipush 48, 2) := by decide +kernel
theorem dX2_readDigit_36 : decode cX2_readDigit 36 = .ok (.isub, 1) := by decide +kernel
theorem dX2_readDigit_37 : decode cX2_readDigit 37 = .ok (.ireturn, 1) := by decide +kernel
theorem dX2_readVerb_0 : decode cX2_readVerb 0 = .ok (.aload_n 0, 1) := by decide +kernel
theorem dX2_readVerb_1 : decode cX2_readVerb 1 = .ok (.aload_n 0, 1) := by decide +kernel
theorem dX2_readVerb_2 : decode cX2_readVerb 2 = .ok (.getfield 19, 3) := by decide +kernel
theorem dX2_readVerb_5 : decode cX2_readVerb 5 = .ok (.putfield 87, 3) := by decide +kernel
theorem dX2_readVerb_8 : decode cX2_readVerb 8 = .ok (.getstatic 90, 3) := by decide +kernel
theorem dX2_readVerb_11 : decode cX2_readVerb 11 = .ok (.astore_n 1, 1) := by decide +kernel
theorem dX2_readVerb_12 : decode cX2_readVerb 12 = .ok (.aload_n 1, 1) := by decide +kernel
theorem dX2_readVerb_13 : decode cX2_readVerb 13 = .ok (.arraylength, 1) := by decide +kernel
theorem dX2_readVerb_14 : decode cX2_readVerb 14 = .ok (.istore_n 2, 1) := by decide +kernel
theorem dX2_readVerb_15 : decode cX2_readVerb 15 = .ok (.iconst 0, 1) := by decide +kernel
theorem dX2_readVerb_16 : decode cX2_readVerb 16 = .ok (.istore_n 3, 1) := by decide +kernel
theorem dX2_readVerb_17 : decode cX2_readVerb 17 = .ok (.iload_n 3, 1) := by decide +kernel
theorem dX2_readVerb_18 : decode cX2_readVerb 18 = .ok (.iload_n 2, 1) := by decide +kernel
theorem dX2_readVerb_19 : decode cX2_readVerb 19 = .ok (.if_icmp .ge 29, 3) := by decide +kernel
theorem dX2_readVerb_22 : decode cX2_readVerb 22 = .ok (.aload_n 1, 1) := by decide +kernel
theorem dX2_readVerb_23 : decode cX2_readVerb 23 = .ok (.iload_n 3, 1) := by decide +kernel
theorem dX2_readVerb_24 : decode cX2_readVerb 24 = .ok (.aaload, 1) := by decide +kernel
theorem dX2_readVerb_25 : decode cX2_readVerb 25 = .ok (.astore 4, 2) := by decide +kernel
theorem dX2_readVerb_27 : decode cX2_readVerb 27 = .ok (.aload_n 0, 1) := by decide +kernel
theorem dX2_readVerb_28 : decode cX2_readVerb 28 = .ok (.aload 4, 2) := by decide +kernel
theorem dX2_readVerb_30 : decode cX2_readVerb 30 = .ok (.getfield 94, 3) := by decide +kernel
theorem dX2_readVerb_33 : decode cX2_readVerb 33 = .ok (.invokevirtual 98, 3) := by decide +kernel
theorem dX2_readVerb_36 : decode cX2_readVerb 36 = .ok (.ifCond .eq 6, 3) := by decide +kernel
theorem dX2_readVerb_39 : decode cX2_readVerb 39 = .ok (.aload 4, 2) := by decide +kernel
theorem dX2_readVerb_41 : decode cX2_readVerb 41 = .ok (.areturn, 1) := by decide +kernel
theorem dX2_readVerb_42 : decode cX2_readVerb 42 = .ok (.iinc 3 1, 3) := by decide +kernel
theorem dX2_readVerb_45 : decode cX2_readVerb 45 = .ok (.goto (-28), 3) := by decide +kernel
theorem dX2_readVerb_48 : decode cX2_readVerb 48 = .ok (.aload_n 0, 1) := by decide +kernel
theorem dX2_readVerb_49 : decode cX2_readVerb 49 = .ok (.aload_n 0, 1) := by decide +kernel
theorem dX2_readVerb_50 : decode cX2_readVerb 50 = .ok (.getfield 87, 3) := by decide +kernel
theorem dX2_readVerb_53 : decode cX2_readVerb 53 = .ok (.putfield 19, 3) := by decide +kernel
theorem dX2_readVerb_56 : decode cX2_readVerb 56 = .ok (.aconst_null, 1) := by decide +kernel
theorem dX2_readVerb_57 : decode cX2_readVerb 57 = .ok (.areturn, 1) := by decide +kernel
theorem dX2_readKind_0 : decode cX2_readKind 0 = .ok (.aload_n 0, 1) := by decide +kernel
theorem dX2_readKind_1 : decode cX2_readKind 1 = .ok (.aload_n 0, 1) := by decide +kernel
theorem dX2_readKind_2 : decode cX2_readKind 2 = .ok (.getfield 19, 3) := by decide +kernel
theorem dX2_readKind_5 : decode cX2_readKind 5 = .ok (.putfield 87, 3) := by decide +kernel
theorem dX2_readKind_8 : decode cX2_readKind 8 = .ok (.iconst 0, 1) := by decide +kernel
theorem dX2_readKind_9 : decode cX2_readKind 9 = .ok (.istore_n 1, 1) := by decide +kernel
theorem dX2_readKind_10 : decode cX2_readKind 10 = .ok (.iload_n 1, 1) := by decide +kernel
theorem dX2_readKind_11 : decode cX2_readKind 11 = .ok (.getstatic 102, 3) := by decide +kernel
theorem dX2_readKind_14 : decode cX2_readKind 14 = .ok (.arraylength, 1) := by decide +kernel
theorem dX2_readKind_15 : decode cX2_readKind 15 = .ok (.if_icmp .ge 31, 3) := by decide +kernel
theorem dX2_readKind_18 : decode cX2_readKind 18 = .ok (.aload_n 0, 1) := by decide +kernel
theorem dX2_readKind_19 : decode cX2_readKind 19 = .ok (.getstatic 102, 3) := by decide +kernel
theorem dX2_readKind_22 : decode cX2_readKind 22 = .ok (.iload_n 1, 1) := by decide +kernel
theorem dX2_readKind_23 : decode cX2_readKind 23 = .ok (.aaload, 1) := by decide +kernel
theorem dX2_readKind_24 : decode cX2_readKind 24 = .ok (.getfield 106, 3) := by decide +kernel
theorem dX2_readKind_27 : decode cX2_readKind 27 = .ok (.invokevirtual 98, 3) := by decide +kernel
theorem dX2_readKind_30 : decode cX2_readKind 30 = .ok (.ifCond .eq 10, 3) := by decide +kernel
theorem dX2_readKind_33 : decode cX2_readKind 33 = .ok (.aload_n 0, 1) := by decide +kernel
theorem dX2_readKind_34 : decode cX2_readKind 34 = .ok (.iload_n 1, 1) := by decide +kernel
theorem dX2_readKind_35 : decode cX2_readKind 35 = .ok (.putfield 109, 3) := by decide +kernel
theorem dX2_readKind_38 : decode cX2_readKind 38 = .ok (.iconst 1, 1) := by decide +kernel
theorem dX2_readKind_39 : decode cX2_readKind 39 = .ok (.ireturn, 1) := by decide +kernel
theorem dX2_readKind_40 : decode cX2_readKind 40 = .ok (.iinc 1 1, 3) := by decide +kernel
theorem dX2_readKind_43 : decode cX2_readKind 43 = .ok (.goto (-33), 3) := by decide +kernel
theorem dX2_readKind_46 : decode cX2_readKind 46 = .ok (.aload_n 0, 1) := by decide +kernel
theorem dX2_readKind_47 : decode cX2_readKind 47 = .ok (.aload_n 0, 1) := by decide +kernel
theorem dX2_readKind_48 : decode cX2_readKind 48 = .ok (.getfield 87, 3) := by decide +kernel
theorem dX2_readKind_51 : decode cX2_readKind 51 = .ok (.putfield 19, 3) := by decide +kernel
theorem dX2_readKind_54 : decode cX2_readKind 54 = .ok (.iconst 0, 1) := by decide +kernel
theorem dX2_readKind_55 : decode cX2_readKind 55 = .ok (.ireturn, 1) := by decide +kernel
theorem dX2_readWord_0 : decode cX2_readWord 0 = .ok (.iconst 0, 1) := by decide +kernel
theorem dX2_readWord_1 : decode cX2_readWord 1 = .ok (.istore_n 2, 1) := by decide +kernel
theorem dX2_readWord_2 : decode cX2_readWord 2 = .ok (.iload_n 2, 1) := by decide +kernel
theorem dX2_readWord_3 : decode cX2_readWord 3 = .ok (.aload_n 1, 1) := by decide +kernel
theorem dX2_readWord_4 : decode cX2_readWord 4 = .ok (.invokevirtual 112, 3) := by decide +kernel
theorem dX2_readWord_7 : decode cX2_readWord 7 = .ok (.if_icmp .ge 27, 3) := by decide +kernel
theorem dX2_readWord_10 : decode cX2_readWord 10 = .ok (.aload_n 0, 1) := by decide +kernel
theorem dX2_readWord_11 : decode cX2_readWord 11 = .ok (.aload_n 0, 1) := by decide +kernel
theorem dX2_readWord_12 : decode cX2_readWord 12 = .ok (.getfield 19, 3) := by decide +kernel
theorem dX2_readWord_15 : decode cX2_readWord 15 = .ok (.iload_n 2, 1) := by decide +kernel
theorem dX2_readWord_16 : decode cX2_readWord 16 = .ok (.iadd, 1) := by decide +kernel
theorem dX2_readWord_17 : decode cX2_readWord 17 = .ok (.invokevirtual 65, 3) := by decide +kernel
theorem dX2_readWord_20 : decode cX2_readWord 20 = .ok (.aload_n 1, 1) := by decide +kernel
theorem dX2_readWord_21 : decode cX2_readWord 21 = .ok (.iload_n 2, 1) := by decide +kernel
theorem dX2_readWord_22 : decode cX2_readWord 22 = .ok (.invokevirtual 116, 3) := by decide +kernel
theorem dX2_readWord_25 : decode cX2_readWord 25 = .ok (.if_icmp .ne 9, 3) := by decide +kernel
theorem dX2_readWord_28 : decode cX2_readWord 28 = .ok (.iinc 2 1, 3) := by decide +kernel
theorem dX2_readWord_31 : decode cX2_readWord 31 = .ok (.goto (-29), 3) := by decide +kernel
theorem dX2_readWord_34 : decode cX2_readWord 34 = .ok (.iload_n 2, 1) := by decide +kernel
theorem dX2_readWord_35 : decode cX2_readWord 35 = .ok (.aload_n 1, 1) := by decide +kernel
theorem dX2_readWord_36 : decode cX2_readWord 36 = .ok (.invokevirtual 112, 3) := by decide +kernel
theorem dX2_readWord_39 : decode cX2_readWord 39 = .ok (.if_icmp .ne 15, 3) := by decide +kernel
theorem dX2_readWord_42 : decode cX2_readWord 42 = .ok (.aload_n 0, 1) := by decide +kernel
theorem dX2_readWord_43 : decode cX2_readWord 43 = .ok (.dup, 1) := by decide +kernel
theorem dX2_readWord_44 : decode cX2_readWord 44 = .ok (.getfield 19, 3) := by decide +kernel
theorem dX2_readWord_47 : decode cX2_readWord 47 = .ok (.iload_n 2, 1) := by decide +kernel
theorem dX2_readWord_48 : decode cX2_readWord 48 = .ok (.iadd, 1) := by decide +kernel
theorem dX2_readWord_49 : decode cX2_readWord 49 = .ok (.putfield 19, 3) := by decide +kernel
theorem dX2_readWord_52 : decode cX2_readWord 52 = .ok (.iconst 1, 1) := by decide +kernel
theorem dX2_readWord_53 : decode cX2_readWord 53 = .ok (.ireturn, 1) := by decide +kernel
theorem dX2_readWord_54 : decode cX2_readWord 54 = .ok (.aload_n 0, 1) := by decide +kernel
theorem dX2_readWord_55 : decode cX2_readWord 55 = .ok (.aload_n 0, 1) := by decide +kernel
theorem dX2_readWord_56 : decode cX2_readWord 56 = .ok (.getfield 87, 3) := by decide +kernel
theorem dX2_readWord_59 : decode cX2_readWord 59 = .ok (.aload_n 0, 1) := by decide +kernel
theorem dX2_readWord_60 : decode cX2_readWord 60 = .ok (.getfield 19, 3) := by decide +kernel
theorem dX2_readWord_63 : decode cX2_readWord 63 = .ok (.iload_n 2, 1) := by decide +kernel
theorem dX2_readWord_64 : decode cX2_readWord 64 = .ok (.iadd, 1) := by decide +kernel
theorem dX2_readWord_65 : decode cX2_readWord 65 = .ok (.invokestatic 120, 3) := by decide +kernel
theorem dX2_readWord_68 : decode cX2_readWord 68 = .ok (.putfield 87, 3) := by decide +kernel
theorem dX2_readWord_71 : decode cX2_readWord 71 = .ok (.iconst 0, 1) := by decide +kernel
theorem dX2_readWord_72 : decode cX2_readWord 72 = .ok (.ireturn, 1) := by decide +kernel
theorem dX3_init_0 : decode cX3_init 0 = .ok (.aload_n 0, 1) := by decide +kernel
theorem dX3_init_1 : decode cX3_init 1 = .ok (.invokespecial 3, 3) := by decide +kernel
theorem dX3_init_4 : decode cX3_init 4 = .ok (.aload_n 0, 1) := by decide +kernel
theorem dX3_init_5 : decode cX3_init 5 = .ok (.bipush 9, 2) := by decide +kernel
theorem dX3_init_7 : decode cX3_init 7 = .ok (.anewarray 11, 3) := by decide +kernel
theorem dX3_init_10 : decode cX3_init 10 = .ok (.putfield 13, 3) := by decide +kernel
theorem dX3_init_13 : decode cX3_init 13 = .ok (.iconst 0, 1) := by decide +kernel
theorem dX3_init_14 : decode cX3_init 14 = .ok (.istore_n 1, 1) := by decide +kernel
theorem dX3_init_15 : decode cX3_init 15 = .ok (.iload_n 1, 1) := by decide +kernel
theorem dX3_init_16 : decode cX3_init 16 = .ok (.aload_n 0, 1) := by decide +kernel
theorem dX3_init_17 : decode cX3_init 17 = .ok (.getfield 13, 3) := by decide +kernel
theorem dX3_init_20 : decode cX3_init 20 = .ok (.arraylength, 1) := by decide +kernel
theorem dX3_init_21 : decode cX3_init 21 = .ok (.if_icmp .ge 22, 3) := by decide +kernel
theorem dX3_init_24 : decode cX3_init 24 = .ok (.aload_n 0, 1) := by decide +kernel
theorem dX3_init_25 : decode cX3_init 25 = .ok (.getfield 13, 3) := by decide +kernel
theorem dX3_init_28 : decode cX3_init 28 = .ok (.iload_n 1, 1) := by decide +kernel
theorem dX3_init_29 : decode cX3_init 29 = .ok (.new 11, 3) := by decide +kernel
theorem dX3_init_32 : decode cX3_init 32 = .ok (.dup, 1) := by decide +kernel
theorem dX3_init_33 : decode cX3_init 33 = .ok (.invokespecial 17, 3) := by decide +kernel
theorem dX3_init_36 : decode cX3_init 36 = .ok (.aastore, 1) := by decide +kernel
theorem dX3_init_37 : decode cX3_init 37 = .ok (.iinc 1 1, 3) := by decide +kernel
theorem dX3_init_40 : decode cX3_init 40 = .ok (.goto (-25), 3) := by decide +kernel
theorem dX3_init_43 : decode cX3_init 43 = .ok (.return_, 1) := by decide +kernel
theorem dX3_spareRow_0 : decode cX3_spareRow 0 = .ok (.aload_n 0, 1) := by decide +kernel
theorem dX3_spareRow_1 : decode cX3_spareRow 1 = .ok (.getfield 13, 3) := by decide +kernel
theorem dX3_spareRow_4 : decode cX3_spareRow 4 = .ok (.aload_n 0, 1) := by decide +kernel
theorem dX3_spareRow_5 : decode cX3_spareRow 5 = .ok (.getfield 18, 3) := by decide +kernel
theorem dX3_spareRow_8 : decode cX3_spareRow 8 = .ok (.bipush 9, 2) := by decide +kernel
theorem dX3_spareRow_10 : decode cX3_spareRow 10 = .ok (.invokestatic 22, 3) := by decide +kernel
theorem dX3_spareRow_13 : decode cX3_spareRow 13 = .ok (.aaload, 1) := by decide +kernel
theorem dX3_spareRow_14 : decode cX3_spareRow 14 = .ok (.areturn, 1) := by decide +kernel
theorem dX3_prepare_0 : decode cX3_prepare 0 = .ok (.aload_n 0, 1) := by decide +kernel
theorem dX3_prepare_1 : decode cX3_prepare 1 = .ok (.invokevirtual 28, 3) := by decide +kernel
theorem dX3_prepare_4 : decode cX3_prepare 4 = .ok (.aload_n 1, 1) := by decide +kernel
theorem dX3_prepare_5 : decode cX3_prepare 5 = .ok (.invokevirtual 32, 3) := by decide +kernel
theorem dX3_prepare_8 : decode cX3_prepare 8 = .ok (.return_, 1) := by decide +kernel
theorem dX3_commit_0 : decode cX3_commit 0 = .ok (.aload_n 0, 1) := by decide +kernel
theorem dX3_commit_1 : decode cX3_commit 1 = .ok (.dup, 1) := by decide +kernel
theorem dX3_commit_2 : decode cX3_commit 2 = .ok (.getfield 18, 3) := by decide +kernel
theorem dX3_commit_5 : decode cX3_commit 5 = .ok (.iconst 1, 1) := by decide +kernel
theorem dX3_commit_6 : decode cX3_commit 6 = .ok (.iadd, 1) := by decide +kernel
theorem dX3_commit_7 : decode cX3_commit 7 = .ok (.putfield 18, 3) := by decide +kernel
theorem dX3_commit_10 : decode cX3_commit 10 = .ok (.aload_n 0, 1) := by decide +kernel
theorem dX3_commit_11 : decode cX3_commit 11 = .ok (.bipush 8, 2) := by decide +kernel
theorem dX3_commit_13 : decode cX3_commit 13 = .ok (.aload_n 0, 1) := by decide +kernel
theorem dX3_commit_14 : decode cX3_commit 14 = .ok (.getfield 36, 3) := by decide +kernel
theorem dX3_commit_17 : decode cX3_commit 17 = .ok (.iconst 1, 1) := by decide +kernel
theorem dX3_commit_18 : decode cX3_commit 18 = .ok (.iadd, 1) := by decide +kernel
theorem dX3_commit_19 : decode cX3_commit 19 = .ok (.invokestatic 39, 3) := by decide +kernel
theorem dX3_commit_22 : decode cX3_commit 22 = .ok (.putfield 36, 3) := by decide +kernel
theorem dX3_commit_25 : decode cX3_commit 25 = .ok (.return_, 1) := by decide +kernel
theorem dX3_dropPrepared_0 : decode cX3_dropPrepared 0 = .ok (.aload_n 1, 1) := by decide +kernel
theorem dX3_dropPrepared_1 : decode cX3_dropPrepared 1 = .ok (.aload_n 0, 1) := by decide +kernel
theorem dX3_dropPrepared_2 : decode cX3_dropPrepared 2 = .ok (.invokevirtual 28, 3) := by decide +kernel
theorem dX3_dropPrepared_5 : decode cX3_dropPrepared 5 = .ok (.invokevirtual 32, 3) := by decide +kernel
theorem dX3_dropPrepared_8 : decode cX3_dropPrepared 8 = .ok (.return_, 1) := by decide +kernel
theorem dX3_takeBack_0 : decode cX3_takeBack 0 = .ok (.aload_n 0, 1) := by decide +kernel
theorem dX3_takeBack_1 : decode cX3_takeBack 1 = .ok (.getfield 36, 3) := by decide +kernel
theorem dX3_takeBack_4 : decode cX3_takeBack 4 = .ok (.ifCond .ne 5, 3) := by decide +kernel
theorem dX3_takeBack_7 : decode cX3_takeBack 7 = .ok (.iconst 0, 1) := by decide +kernel
theorem dX3_takeBack_8 : decode cX3_takeBack 8 = .ok (.ireturn, 1) := by decide +kernel
theorem dX3_takeBack_9 : decode cX3_takeBack 9 = .ok (.aload_n 0, 1) := by decide +kernel
theorem dX3_takeBack_10 : decode cX3_takeBack 10 = .ok (.dup, 1) := by decide +kernel
theorem dX3_takeBack_11 : decode cX3_takeBack 11 = .ok (.getfield 36, 3) := by decide +kernel
theorem dX3_takeBack_14 : decode cX3_takeBack 14 = .ok (.iconst 1, 1) := by decide +kernel
theorem dX3_takeBack_15 : decode cX3_takeBack 15 = .ok (.isub, 1) := by decide +kernel
theorem dX3_takeBack_16 : decode cX3_takeBack 16 = .ok (.putfield 36, 3) := by decide +kernel
theorem dX3_takeBack_19 : decode cX3_takeBack 19 = .ok (.aload_n 0, 1) := by decide +kernel
theorem dX3_takeBack_20 : decode cX3_takeBack 20 = .ok (.dup, 1) := by decide +kernel
theorem dX3_takeBack_21 : decode cX3_takeBack 21 = .ok (.getfield 18, 3) := by decide +kernel
theorem dX3_takeBack_24 : decode cX3_takeBack 24 = .ok (.iconst 1, 1) := by decide +kernel
theorem dX3_takeBack_25 : decode cX3_takeBack 25 = .ok (.isub, 1) := by decide +kernel
theorem dX3_takeBack_26 : decode cX3_takeBack 26 = .ok (.putfield 18, 3) := by decide +kernel
theorem dX3_takeBack_29 : decode cX3_takeBack 29 = .ok (.aload_n 1, 1) := by decide +kernel
theorem dX3_takeBack_30 : decode cX3_takeBack 30 = .ok (.aload_n 0, 1) := by decide +kernel
theorem dX3_takeBack_31 : decode cX3_takeBack 31 = .ok (.invokevirtual 28, 3) := by decide +kernel
theorem dX3_takeBack_34 : decode cX3_takeBack 34 = .ok (.invokevirtual 32, 3) := by decide +kernel
theorem dX3_takeBack_37 : decode cX3_takeBack 37 = .ok (.iconst 1, 1) := by decide +kernel
theorem dX3_takeBack_38 : decode cX3_takeBack 38 = .ok (.ireturn, 1) := by decide +kernel
theorem dX3_forget_0 : decode cX3_forget 0 = .ok (.aload_n 0, 1) := by decide +kernel
theorem dX3_forget_1 : decode cX3_forget 1 = .ok (.iconst 0, 1) := by decide +kernel
theorem dX3_forget_2 : decode cX3_forget 2 = .ok (.putfield 36, 3) := by decide +kernel
theorem dX3_forget_5 : decode cX3_forget 5 = .ok (.return_, 1) := by decide +kernel
theorem dX4_init_0 : decode cX4_init 0 = .ok (.aload_n 0, 1) := by decide +kernel
theorem dX4_init_1 : decode cX4_init 1 = .ok (.invokespecial 3, 3) := by decide +kernel
theorem dX4_init_4 : decode cX4_init 4 = .ok (.aload_n 0, 1) := by decide +kernel
theorem dX4_init_5 : decode cX4_init 5 = .ok (.bipush 6, 2) := by decide +kernel
theorem dX4_init_7 : decode cX4_init 7 = .ok (.getstatic 9, 3) := by decide +kernel
theorem dX4_init_10 : decode cX4_init 10 = .ok (.arraylength, 1) := by decide +kernel
theorem dX4_init_11 : decode cX4_init 11 = .ok (.imul, 1) := by decide +kernel
theorem dX4_init_12 : decode cX4_init 12 = .ok (.newarray .int, 2) := by decide +kernel
theorem dX4_init_14 : decode cX4_init 14 = .ok (.putfield 13, 3) := by decide +kernel
theorem dX4_init_17 : decode cX4_init 17 = .ok (.aload_n 0, 1) := by decide +kernel
theorem dX4_init_18 : decode cX4_init 18 = .ok (.bipush 20, 2) := by decide +kernel
theorem dX4_init_20 : decode cX4_init 20 = .ok (.anewarray 19, 3) := by decide +kernel
theorem dX4_init_23 : decode cX4_init 23 = .ok (.putfield 21, 3) := by decide +kernel
theorem dX4_init_26 : decode cX4_init 26 = .ok (.aload_n 0, 1) := by decide +kernel
theorem dX4_init_27 : decode cX4_init 27 = .ok (.bipush 10, 2) := by decide +kernel
theorem dX4_init_29 : decode cX4_init 29 = .ok (.putfield 25, 3) := by decide +kernel
theorem dX4_init_32 : decode cX4_init 32 = .ok (.aload_n 0, 1) := by decide +kernel
theorem dX4_init_33 : decode cX4_init 33 = .ok (.bipush 20, 2) := by decide +kernel
theorem dX4_init_35 : decode cX4_init 35 = .ok (.putfield 29, 3) := by decide +kernel
theorem dX4_init_38 : decode cX4_init 38 = .ok (.aload_n 0, 1) := by decide +kernel
theorem dX4_init_39 : decode cX4_init 39 = .ok (.iconst 4, 1) := by decide +kernel
theorem dX4_init_40 : decode cX4_init 40 = .ok (.putfield 32, 3) := by decide +kernel
theorem dX4_init_43 : decode cX4_init 43 = .ok (.iconst 0, 1) := by decide +kernel
theorem dX4_init_44 : decode cX4_init 44 = .ok (.istore_n 1, 1) := by decide +kernel
theorem dX4_init_45 : decode cX4_init 45 = .ok (.iload_n 1, 1) := by decide +kernel
theorem dX4_init_46 : decode cX4_init 46 = .ok (.aload_n 0, 1) := by decide +kernel
theorem dX4_init_47 : decode cX4_init 47 = .ok (.getfield 21, 3) := by decide +kernel
theorem dX4_init_50 : decode cX4_init 50 = .ok (.arraylength, 1) := by decide +kernel
theorem dX4_init_51 : decode cX4_init 51 = .ok (.if_icmp .ge 23, 3) := by decide +kernel
theorem dX4_init_54 : decode cX4_init 54 = .ok (.aload_n 0, 1) := by decide +kernel
theorem dX4_init_55 : decode cX4_init 55 = .ok (.getfield 21, 3) := by decide +kernel
theorem dX4_init_58 : decode cX4_init 58 = .ok (.iload_n 1, 1) := by decide +kernel
theorem dX4_init_59 : decode cX4_init 59 = .ok (.new 19, 3) := by decide +kernel
theorem dX4_init_62 : decode cX4_init 62 = .ok (.dup, 1) := by decide +kernel
theorem dX4_init_63 : decode cX4_init 63 = .ok (.iload_n 1, 1) := by decide +kernel
theorem dX4_init_64 : decode cX4_init 64 = .ok (.invokespecial 35, 3) := by decide +kernel
theorem dX4_init_67 : decode cX4_init 67 = .ok (.aastore, 1) := by decide +kernel
theorem dX4_init_68 : decode cX4_init 68 = .ok (.iinc 1 1, 3) := by decide +kernel
theorem dX4_init_71 : decode cX4_init 71 = .ok (.goto (-26), 3) := by decide +kernel
theorem dX4_init_74 : decode cX4_init 74 = .ok (.return_, 1) := by decide +kernel
theorem dX4_copyFrom_0 : decode cX4_copyFrom 0 = .ok (.aload_n 1, 1) := by decide +kernel
theorem dX4_copyFrom_1 : decode cX4_copyFrom 1 = .ok (.getfield 13, 3) := by decide +kernel
theorem dX4_copyFrom_4 : decode cX4_copyFrom 4 = .ok (.iconst 0, 1) := by decide +kernel
theorem dX4_copyFrom_5 : decode cX4_copyFrom 5 = .ok (.aload_n 0, 1) := by decide +kernel
theorem dX4_copyFrom_6 : decode cX4_copyFrom 6 = .ok (.getfield 13, 3) := by decide +kernel
theorem dX4_copyFrom_9 : decode cX4_copyFrom 9 = .ok (.iconst 0, 1) := by decide +kernel
theorem dX4_copyFrom_10 : decode cX4_copyFrom 10 = .ok (.aload_n 0, 1) := by decide +kernel
theorem dX4_copyFrom_11 : decode cX4_copyFrom 11 = .ok (.getfield 13, 3) := by decide +kernel
theorem dX4_copyFrom_14 : decode cX4_copyFrom 14 = .ok (.arraylength, 1) := by decide +kernel
theorem dX4_copyFrom_15 : decode cX4_copyFrom 15 = .ok (.invokestatic 38, 3) := by decide +kernel
theorem dX4_copyFrom_18 : decode cX4_copyFrom 18 = .ok (.iconst 0, 1) := by decide +kernel
theorem dX4_copyFrom_19 : decode cX4_copyFrom 19 = .ok (.istore_n 2, 1) := by decide +kernel
theorem dX4_copyFrom_20 : decode cX4_copyFrom 20 = .ok (.iload_n 2, 1) := by decide +kernel
theorem dX4_copyFrom_21 : decode cX4_copyFrom 21 = .ok (.aload_n 0, 1) := by decide +kernel
theorem dX4_copyFrom_22 : decode cX4_copyFrom 22 = .ok (.getfield 21, 3) := by decide +kernel
theorem dX4_copyFrom_25 : decode cX4_copyFrom 25 = .ok (.arraylength, 1) := by decide +kernel
theorem dX4_copyFrom_26 : decode cX4_copyFrom 26 = .ok (.if_icmp .ge 24, 3) := by decide +kernel
theorem dX4_copyFrom_29 : decode cX4_copyFrom 29 = .ok (.aload_n 0, 1) := by decide +kernel
theorem dX4_copyFrom_30 : decode cX4_copyFrom 30 = .ok (.getfield 21, 3) := by decide +kernel
theorem dX4_copyFrom_33 : decode cX4_copyFrom 33 = .ok (.iload_n 2, 1) := by decide +kernel
theorem dX4_copyFrom_34 : decode cX4_copyFrom 34 = .ok (.aaload, 1) := by decide +kernel
theorem dX4_copyFrom_35 : decode cX4_copyFrom 35 = .ok (.aload_n 1, 1) := by decide +kernel
theorem dX4_copyFrom_36 : decode cX4_copyFrom 36 = .ok (.getfield 21, 3) := by decide +kernel
theorem dX4_copyFrom_39 : decode cX4_copyFrom 39 = .ok (.iload_n 2, 1) := by decide +kernel
theorem dX4_copyFrom_40 : decode cX4_copyFrom 40 = .ok (.aaload, 1) := by decide +kernel
theorem dX4_copyFrom_41 : decode cX4_copyFrom 41 = .ok (.invokevirtual 44, 3) := by decide +kernel
theorem dX4_copyFrom_44 : decode cX4_copyFrom 44 = .ok (.iinc 2 1, 3) := by decide +kernel
theorem dX4_copyFrom_47 : decode cX4_copyFrom 47 = .ok (.goto (-27), 3) := by decide +kernel
theorem dX4_copyFrom_50 : decode cX4_copyFrom 50 = .ok (.aload_n 0, 1) := by decide +kernel
theorem dX4_copyFrom_51 : decode cX4_copyFrom 51 = .ok (.aload_n 1, 1) := by decide +kernel
theorem dX4_copyFrom_52 : decode cX4_copyFrom 52 = .ok (.getfield 48, 3) := by decide +kernel
theorem dX4_copyFrom_55 : decode cX4_copyFrom 55 = .ok (.putfield 48, 3) := by decide +kernel
theorem dX4_copyFrom_58 : decode cX4_copyFrom 58 = .ok (.aload_n 0, 1) := by decide +kernel
theorem dX4_copyFrom_59 : decode cX4_copyFrom 59 = .ok (.aload_n 1, 1) := by decide +kernel
theorem dX4_copyFrom_60 : decode cX4_copyFrom 60 = .ok (.getfield 25, 3) := by decide +kernel
theorem dX4_copyFrom_63 : decode cX4_copyFrom 63 = .ok (.putfield 25, 3) := by decide +kernel
theorem dX4_copyFrom_66 : decode cX4_copyFrom 66 = .ok (.aload_n 0, 1) := by decide +kernel
theorem dX4_copyFrom_67 : decode cX4_copyFrom 67 = .ok (.aload_n 1, 1) := by decide +kernel
theorem dX4_copyFrom_68 : decode cX4_copyFrom 68 = .ok (.getfield 29, 3) := by decide +kernel
theorem dX4_copyFrom_71 : decode cX4_copyFrom 71 = .ok (.putfield 29, 3) := by decide +kernel
theorem dX4_copyFrom_74 : decode cX4_copyFrom 74 = .ok (.aload_n 0, 1) := by decide +kernel
theorem dX4_copyFrom_75 : decode cX4_copyFrom 75 = .ok (.aload_n 1, 1) := by decide +kernel
theorem dX4_copyFrom_76 : decode cX4_copyFrom 76 = .ok (.getfield 51, 3) := by decide +kernel
theorem dX4_copyFrom_79 : decode cX4_copyFrom 79 = .ok (.putfield 51, 3) := by decide +kernel
theorem dX4_copyFrom_82 : decode cX4_copyFrom 82 = .ok (.aload_n 0, 1) := by decide +kernel
theorem dX4_copyFrom_83 : decode cX4_copyFrom 83 = .ok (.aload_n 1, 1) := by decide +kernel
theorem dX4_copyFrom_84 : decode cX4_copyFrom 84 = .ok (.getfield 32, 3) := by decide +kernel
theorem dX4_copyFrom_87 : decode cX4_copyFrom 87 = .ok (.putfield 32, 3) := by decide +kernel
theorem dX4_copyFrom_90 : decode cX4_copyFrom 90 = .ok (.aload_n 0, 1) := by decide +kernel
theorem dX4_copyFrom_91 : decode cX4_copyFrom 91 = .ok (.aload_n 1, 1) := by decide +kernel
theorem dX4_copyFrom_92 : decode cX4_copyFrom 92 = .ok (.getfield 54, 3) := by decide +kernel
theorem dX4_copyFrom_95 : decode cX4_copyFrom 95 = .ok (.putfield 54, 3) := by decide +kernel
theorem dX4_copyFrom_98 : decode cX4_copyFrom 98 = .ok (.aload_n 0, 1) := by decide +kernel
theorem dX4_copyFrom_99 : decode cX4_copyFrom 99 = .ok (.aload_n 1, 1) := by decide +kernel
theorem dX4_copyFrom_100 : decode cX4_copyFrom 100 = .ok (.getfield 57, 3) := by decide +kernel
theorem dX4_copyFrom_103 : decode cX4_copyFrom 103 = .ok (.putfield 57, 3) := by decide +kernel
theorem dX4_copyFrom_106 : decode cX4_copyFrom 106 = .ok (.aload_n 0, 1) := by decide +kernel
theorem dX4_copyFrom_107 : decode cX4_copyFrom 107 = .ok (.aload_n 1, 1) := by decide +kernel
theorem dX4_copyFrom_108 : decode cX4_copyFrom 108 = .ok (.getfield 60, 3) := by decide +kernel
theorem dX4_copyFrom_111 : decode cX4_copyFrom 111 = .ok (.putfield 60, 3) := by decide +kernel
theorem dX4_copyFrom_114 : decode cX4_copyFrom 114 = .ok (.aload_n 0, 1) := by decide +kernel
theorem dX4_copyFrom_115 : decode cX4_copyFrom 115 = .ok (.aload_n 1, 1) := by decide +kernel
theorem dX4_copyFrom_116 : decode cX4_copyFrom 116 = .ok (.getfield 63, 3) := by decide +kernel
theorem dX4_copyFrom_119 : decode cX4_copyFrom 119 = .ok (.putfield 63, 3) := by decide +kernel
theorem dX4_copyFrom_122 : decode cX4_copyFrom 122 = .ok (.aload_n 0, 1) := by decide +kernel
theorem dX4_copyFrom_123 : decode cX4_copyFrom 123 = .ok (.aload_n 1, 1) := by decide +kernel
theorem dX4_copyFrom_124 : decode cX4_copyFrom 124 = .ok (.getfield 66, 3) := by decide +kernel
theorem dX4_copyFrom_127 : decode cX4_copyFrom 127 = .ok (.putfield 66, 3) := by decide +kernel
theorem dX4_copyFrom_130 : decode cX4_copyFrom 130 = .ok (.return_, 1) := by decide +kernel
theorem dX4_isLeaf_0 : decode cX4_isLeaf 0 = .ok (.iload_n 0, 1) := by decide +kernel
theorem dX4_isLeaf_1 : decode cX4_isLeaf 1 = .ok (.ifCond .lt 25, 3) := by decide +kernel
theorem dX4_isLeaf_4 : decode cX4_isLeaf 4 = .ok (.iload_n 0, 1) := by decide +kernel
theorem dX4_isLeaf_5 : decode cX4_isLeaf 5 = .ok (.bipush 6, 2) := by decide +kernel
theorem dX4_isLeaf_7 : decode cX4_isLeaf 7 = .ok (.if_icmp .ge 19, 3) := by decide +kernel
theorem dX4_isLeaf_10 : decode cX4_isLeaf 10 = .ok (.iload_n 1, 1) := by decide +kernel
theorem dX4_isLeaf_11 : decode cX4_isLeaf 11 = .ok (.ifCond .lt 15, 3) := by decide +kernel
theorem dX4_isLeaf_14 : decode cX4_isLeaf 14 = .ok (.iload_n 1, 1) := by decide +kernel
theorem dX4_isLeaf_15 : decode cX4_isLeaf 15 = .ok (.getstatic 9, 3) := by decide +kernel
theorem dX4_isLeaf_18 : decode cX4_isLeaf 18 = .ok (.arraylength, 1) := by decide +kernel
theorem dX4_isLeaf_19 : decode cX4_isLeaf 19 = .ok (.if_icmp .ge 7, 3) := by decide +kernel
theorem dX4_isLeaf_22 : decode cX4_isLeaf 22 = .ok (.iconst 1, 1) := by decide +kernel
theorem dX4_isLeaf_23 : decode cX4_isLeaf 23 = .ok (.goto 4, 3) := by decide +kernel
theorem dX4_isLeaf_26 : decode cX4_isLeaf 26 = .ok (.iconst 0, 1) := by decide +kernel
theorem dX4_isLeaf_27 : decode cX4_isLeaf 27 = .ok (.ireturn, 1) := by decide +kernel
theorem dX4_stored_0 : decode cX4_stored 0 = .ok (.iload_n 1, 1) := by decide +kernel
theorem dX4_stored_1 : decode cX4_stored 1 = .ok (.iload_n 2, 1) := by decide +kernel
theorem dX4_stored_2 : decode cX4_stored 2 = .ok (.invokestatic 69, 3) := by decide +kernel
theorem dX4_stored_5 : decode cX4_stored 5 = .ok (.ifCond .eq 19, 3) := by decide +kernel
theorem dX4_stored_8 : decode cX4_stored 8 = .ok (.aload_n 0, 1) := by decide +kernel
theorem dX4_stored_9 : decode cX4_stored 9 = .ok (.getfield 13, 3) := by decide +kernel
theorem dX4_stored_12 : decode cX4_stored 12 = .ok (.iload_n 1, 1) := by decide +kernel
theorem dX4_stored_13 : decode cX4_stored 13 = .ok (.getstatic 9, 3) := by decide +kernel
theorem dX4_stored_16 : decode cX4_stored 16 = .ok (.arraylength, 1) := by decide +kernel
theorem dX4_stored_17 : decode cX4_stored 17 = .ok (.imul, 1) := by decide +kernel
theorem dX4_stored_18 : decode cX4_stored 18 = .ok (.iload_n 2, 1) := by decide +kernel
theorem dX4_stored_19 : decode cX4_stored 19 = .ok (.iadd, 1) := by decide +kernel
theorem dX4_stored_20 : decode cX4_stored 20 = .ok (.iaload, 1) := by decide +kernel
theorem dX4_stored_21 : decode cX4_stored 21 = .ok (.goto 4, 3) := by decide +kernel
theorem dX4_stored_24 : decode cX4_stored 24 = .ok (.iconst 0, 1) := by decide +kernel
theorem dX4_stored_25 : decode cX4_stored 25 = .ok (.ireturn, 1) := by decide +kernel
theorem dX4_addToStore_0 : decode cX4_addToStore 0 = .ok (.iload_n 1, 1) := by decide +kernel
theorem dX4_addToStore_1 : decode cX4_addToStore 1 = .ok (.iload_n 2, 1) := by decide +kernel
theorem dX4_addToStore_2 : decode cX4_addToStore 2 = .ok (.invokestatic 69, 3) := by decide +kernel
theorem dX4_addToStore_5 : decode cX4_addToStore 5 = .ok (.ifCond .eq 20, 3) := by decide +kernel
theorem dX4_addToStore_8 : decode cX4_addToStore 8 = .ok (.aload_n 0, 1) := by decide +kernel
theorem dX4_addToStore_9 : decode cX4_addToStore 9 = .ok (.getfield 13, 3) := by decide +kernel
theorem dX4_addToStore_12 : decode cX4_addToStore 12 = .ok (.iload_n 1, 1) := by decide +kernel
theorem dX4_addToStore_13 : decode cX4_addToStore 13 = .ok (.getstatic 9, 3) := by decide +kernel
theorem dX4_addToStore_16 : decode cX4_addToStore 16 = .ok (.arraylength, 1) := by decide +kernel
theorem dX4_addToStore_17 : decode cX4_addToStore 17 = .ok (.imul, 1) := by decide +kernel
theorem dX4_addToStore_18 : decode cX4_addToStore 18 = .ok (.iload_n 2, 1) := by decide +kernel
theorem dX4_addToStore_19 : decode cX4_addToStore 19 = .ok (.iadd, 1) := by decide +kernel
theorem dX4_addToStore_20 : decode cX4_addToStore 20 = .ok (.dup2, 1) := by decide +kernel
theorem dX4_addToStore_21 : decode cX4_addToStore 21 = .ok (.iaload, 1) := by decide +kernel
theorem dX4_addToStore_22 : decode cX4_addToStore 22 = .ok (.iload_n 3, 1) := by decide +kernel
theorem dX4_addToStore_23 : decode cX4_addToStore 23 = .ok (.iadd, 1) := by decide +kernel
theorem dX4_addToStore_24 : decode cX4_addToStore 24 = .ok (.iastore, 1) := by decide +kernel
theorem dX4_addToStore_25 : decode cX4_addToStore 25 = .ok (.return_, 1) := by decide +kernel
theorem dX4_storedOf_0 : decode cX4_storedOf 0 = .ok (.iconst 0, 1) := by decide +kernel
theorem dX4_storedOf_1 : decode cX4_storedOf 1 = .ok (.istore_n 2, 1) := by decide +kernel
theorem dX4_storedOf_2 : decode cX4_storedOf 2 = .ok (.iconst 0, 1) := by decide +kernel
theorem dX4_storedOf_3 : decode cX4_storedOf 3 = .ok (.istore_n 3, 1) := by decide +kernel
theorem dX4_storedOf_4 : decode cX4_storedOf 4 = .ok (.iload_n 3, 1) := by decide +kernel
theorem dX4_storedOf_5 : decode cX4_storedOf 5 = .ok (.getstatic 9, 3) := by decide +kernel
theorem dX4_storedOf_8 : decode cX4_storedOf 8 = .ok (.arraylength, 1) := by decide +kernel
theorem dX4_storedOf_9 : decode cX4_storedOf 9 = .ok (.if_icmp .ge 18, 3) := by decide +kernel
theorem dX4_storedOf_12 : decode cX4_storedOf 12 = .ok (.iload_n 2, 1) := by decide +kernel
theorem dX4_storedOf_13 : decode cX4_storedOf 13 = .ok (.aload_n 0, 1) := by decide +kernel
theorem dX4_storedOf_14 : decode cX4_storedOf 14 = .ok (.iload_n 1, 1) := by decide +kernel
theorem dX4_storedOf_15 : decode cX4_storedOf 15 = .ok (.iload_n 3, 1) := by decide +kernel
theorem dX4_storedOf_16 : decode cX4_storedOf 16 = .ok (.invokevirtual 73, 3) := by decide +kernel
theorem dX4_storedOf_19 : decode cX4_storedOf 19 = .ok (.iadd, 1) := by decide +kernel
theorem dX4_storedOf_20 : decode cX4_storedOf 20 = .ok (.istore_n 2, 1) := by decide +kernel
theorem dX4_storedOf_21 : decode cX4_storedOf 21 = .ok (.iinc 3 1, 3) := by decide +kernel
theorem dX4_storedOf_24 : decode cX4_storedOf 24 = .ok (.goto (-20), 3) := by decide +kernel
theorem dX4_storedOf_27 : decode cX4_storedOf 27 = .ok (.iload_n 2, 1) := by decide +kernel
theorem dX4_storedOf_28 : decode cX4_storedOf 28 = .ok (.ireturn, 1) := by decide +kernel
theorem dX4_isBetterGarden_0 : decode cX4_isBetterGarden 0 = .ok (.aload_n 0, 1) := by decide +kernel
theorem dX4_isBetterGarden_1 : decode cX4_isBetterGarden 1 = .ok (.iload_n 1, 1) := by decide +kernel
theorem dX4_isBetterGarden_2 : decode cX4_isBetterGarden 2 = .ok (.invokevirtual 77, 3) := by decide +kernel
theorem dX4_isBetterGarden_5 : decode cX4_isBetterGarden 5 = .ok (.istore_n 3, 1) := by decide +kernel
theorem dX4_isBetterGarden_6 : decode cX4_isBetterGarden 6 = .ok (.aload_n 0, 1) := by decide +kernel
theorem dX4_isBetterGarden_7 : decode cX4_isBetterGarden 7 = .ok (.iload_n 2, 1) := by decide +kernel
theorem dX4_isBetterGarden_8 : decode cX4_isBetterGarden 8 = .ok (.invokevirtual 77, 3) := by decide +kernel
theorem dX4_isBetterGarden_11 : decode cX4_isBetterGarden 11 = .ok (.istore 4, 2) := by decide +kernel
theorem dX4_isBetterGarden_13 : decode cX4_isBetterGarden 13 = .ok (.iload_n 3, 1) := by decide +kernel
theorem dX4_isBetterGarden_14 : decode cX4_isBetterGarden 14 = .ok (.iload 4, 2) := by decide +kernel
theorem dX4_isBetterGarden_16 : decode cX4_isBetterGarden 16 = .ok (.if_icmp .gt 24, 3) := by decide +kernel
theorem dX4_isBetterGarden_19 : decode cX4_isBetterGarden 19 = .ok (.iload_n 3, 1) := by decide +kernel
theorem dX4_isBetterGarden_20 : decode cX4_isBetterGarden 20 = .ok (.iload 4, 2) := by decide +kernel
theorem dX4_isBetterGarden_22 : decode cX4_isBetterGarden 22 = .ok (.if_icmp .ne 22, 3) := by decide +kernel
theorem dX4_isBetterGarden_25 : decode cX4_isBetterGarden 25 = .ok (.aload_n 0, 1) := by decide +kernel
theorem dX4_isBetterGarden_26 : decode cX4_isBetterGarden 26 = .ok (.iload_n 1, 1) := by decide +kernel
theorem dX4_isBetterGarden_27 : decode cX4_isBetterGarden 27 = .ok (.iconst 2, 1) := by decide +kernel
theorem dX4_isBetterGarden_28 : decode cX4_isBetterGarden 28 = .ok (.invokevirtual 73, 3) := by decide +kernel
theorem dX4_isBetterGarden_31 : decode cX4_isBetterGarden 31 = .ok (.aload_n 0, 1) := by decide +kernel
theorem dX4_isBetterGarden_32 : decode cX4_isBetterGarden 32 = .ok (.iload_n 2, 1) := by decide +kernel
theorem dX4_isBetterGarden_33 : decode cX4_isBetterGarden 33 = .ok (.iconst 2, 1) := by decide +kernel
theorem dX4_isBetterGarden_34 : decode cX4_isBetterGarden 34 = .ok (.invokevirtual 73, 3) := by decide +kernel
theorem dX4_isBetterGarden_37 : decode cX4_isBetterGarden 37 = .ok (.if_icmp .le 7, 3) := by decide +kernel
theorem dX4_isBetterGarden_40 : decode cX4_isBetterGarden 40 = .ok (.iconst 1, 1) := by decide +kernel
theorem dX4_isBetterGarden_41 : decode cX4_isBetterGarden 41 = .ok (.goto 4, 3) := by decide +kernel
theorem dX4_isBetterGarden_44 : decode cX4_isBetterGarden 44 = .ok (.iconst 0, 1) := by decide +kernel
theorem dX4_isBetterGarden_45 : decode cX4_isBetterGarden 45 = .ok (.ireturn, 1) := by decide +kernel
theorem dX4_poundsStored_0 : decode cX4_poundsStored 0 = .ok (.iconst 0, 1) := by decide +kernel
theorem dX4_poundsStored_1 : decode cX4_poundsStored 1 = .ok (.istore_n 1, 1) := by decide +kernel
theorem dX4_poundsStored_2 : decode cX4_poundsStored 2 = .ok (.iconst 0, 1) := by decide +kernel
theorem dX4_poundsStored_3 : decode cX4_poundsStored 3 = .ok (.istore_n 2, 1) := by decide +kernel
theorem dX4_poundsStored_4 : decode cX4_poundsStored 4 = .ok (.iload_n 2, 1) := by decide +kernel
theorem dX4_poundsStored_5 : decode cX4_poundsStored 5 = .ok (.bipush 6, 2) := by decide +kernel
theorem dX4_poundsStored_7 : decode cX4_poundsStored 7 = .ok (.if_icmp .ge 17, 3) := by decide +kernel
theorem dX4_poundsStored_10 : decode cX4_poundsStored 10 = .ok (.iload_n 1, 1) := by decide +kernel
theorem dX4_poundsStored_11 : decode cX4_poundsStored 11 = .ok (.aload_n 0, 1) := by decide +kernel
theorem dX4_poundsStored_12 : decode cX4_poundsStored 12 = .ok (.iload_n 2, 1) := by decide +kernel
theorem dX4_poundsStored_13 : decode cX4_poundsStored 13 = .ok (.invokevirtual 77, 3) := by decide +kernel
theorem dX4_poundsStored_16 : decode cX4_poundsStored 16 = .ok (.iadd, 1) := by decide +kernel
theorem dX4_poundsStored_17 : decode cX4_poundsStored 17 = .ok (.istore_n 1, 1) := by decide +kernel
theorem dX4_poundsStored_18 : decode cX4_poundsStored 18 = .ok (.iinc 2 1, 3) := by decide +kernel
theorem dX4_poundsStored_21 : decode cX4_poundsStored 21 = .ok (.goto (-17), 3) := by decide +kernel
theorem dX4_poundsStored_24 : decode cX4_poundsStored 24 = .ok (.iload_n 1, 1) := by decide +kernel
theorem dX4_poundsStored_25 : decode cX4_poundsStored 25 = .ok (.ireturn, 1) := by decide +kernel
theorem dX4_tryBring_0 : decode cX4_tryBring 0 = .ok (.aload_n 0, 1) := by decide +kernel
theorem dX4_tryBring_1 : decode cX4_tryBring 1 = .ok (.iload_n 1, 1) := by decide +kernel
theorem dX4_tryBring_2 : decode cX4_tryBring 2 = .ok (.iload_n 2, 1) := by decide +kernel
theorem dX4_tryBring_3 : decode cX4_tryBring 3 = .ok (.invokevirtual 73, 3) := by decide +kernel
theorem dX4_tryBring_6 : decode cX4_tryBring 6 = .ok (.istore 4, 2) := by decide +kernel
theorem dX4_tryBring_8 : decode cX4_tryBring 8 = .ok (.iload 4, 2) := by decide +kernel
theorem dX4_tryBring_10 : decode cX4_tryBring 10 = .ok (.iload_n 3, 1) := by decide +kernel
theorem dX4_tryBring_11 : decode cX4_tryBring 11 = .ok (.iadd, 1) := by decide +kernel
theorem dX4_tryBring_12 : decode cX4_tryBring 12 = .ok (.sipush 500, 3) := by decide +kernel
theorem dX4_tryBring_15 : decode cX4_tryBring 15 = .ok (.if_icmp .le 11, 3) := by decide +kernel
theorem dX4_tryBring_18 : decode cX4_tryBring 18 = .ok (.aload_n 0, 1) := by decide +kernel
theorem dX4_tryBring_19 : decode cX4_tryBring 19 = .ok (.iconst 2, 1) := by decide +kernel
theorem dX4_tryBring_20 : decode cX4_tryBring 20 = .ok (.iload 4, 2) := by decide +kernel
theorem dX4_tryBring_22 : decode cX4_tryBring 22 = .ok (.invokevirtual 81, 3) := by decide +kernel
theorem dX4_tryBring_25 : decode cX4_tryBring 25 = .ok (.ireturn, 1) := by decide +kernel
theorem dX4_tryBring_26 : decode cX4_tryBring 26 = .ok (.aload_n 0, 1) := by decide +kernel
theorem dX4_tryBring_27 : decode cX4_tryBring 27 = .ok (.iload_n 1, 1) := by decide +kernel
theorem dX4_tryBring_28 : decode cX4_tryBring 28 = .ok (.iload_n 2, 1) := by decide +kernel
theorem dX4_tryBring_29 : decode cX4_tryBring 29 = .ok (.iload_n 3, 1) := by decide +kernel
theorem dX4_tryBring_30 : decode cX4_tryBring 30 = .ok (.invokevirtual 84, 3) := by decide +kernel
theorem dX4_tryBring_33 : decode cX4_tryBring 33 = .ok (.aload_n 0, 1) := by decide +kernel
theorem dX4_tryBring_34 : decode cX4_tryBring 34 = .ok (.dup, 1) := by decide +kernel
theorem dX4_tryBring_35 : decode cX4_tryBring 35 = .ok (.getfield 60, 3) := by decide +kernel
theorem dX4_tryBring_38 : decode cX4_tryBring 38 = .ok (.iload_n 3, 1) := by decide +kernel
theorem dX4_tryBring_39 : decode cX4_tryBring 39 = .ok (.iadd, 1) := by decide +kernel
theorem dX4_tryBring_40 : decode cX4_tryBring 40 = .ok (.putfield 60, 3) := by decide +kernel
theorem dX4_tryBring_43 : decode cX4_tryBring 43 = .ok (.iconst 1, 1) := by decide +kernel
theorem dX4_tryBring_44 : decode cX4_tryBring 44 = .ok (.ireturn, 1) := by decide +kernel
theorem dX4_addSheets_0 : decode cX4_addSheets 0 = .ok (.aload_n 0, 1) := by decide +kernel
theorem dX4_addSheets_1 : decode cX4_addSheets 1 = .ok (.sipush 200, 3) := by decide +kernel
theorem dX4_addSheets_4 : decode cX4_addSheets 4 = .ok (.aload_n 0, 1) := by decide +kernel
theorem dX4_addSheets_5 : decode cX4_addSheets 5 = .ok (.getfield 25, 3) := by decide +kernel
theorem dX4_addSheets_8 : decode cX4_addSheets 8 = .ok (.iload_n 1, 1) := by decide +kernel
theorem dX4_addSheets_9 : decode cX4_addSheets 9 = .ok (.iadd, 1) := by decide +kernel
theorem dX4_addSheets_10 : decode cX4_addSheets 10 = .ok (.invokestatic 88, 3) := by decide +kernel
theorem dX4_addSheets_13 : decode cX4_addSheets 13 = .ok (.putfield 25, 3) := by decide +kernel
theorem dX4_addSheets_16 : decode cX4_addSheets 16 = .ok (.return_, 1) := by decide +kernel
theorem dX4_addScrews_0 : decode cX4_addScrews 0 = .ok (.aload_n 0, 1) := by decide +kernel
theorem dX4_addScrews_1 : decode cX4_addScrews 1 = .ok (.sipush 200, 3) := by decide +kernel
theorem dX4_addScrews_4 : decode cX4_addScrews 4 = .ok (.aload_n 0, 1) := by decide +kernel
theorem dX4_addScrews_5 : decode cX4_addScrews 5 = .ok (.getfield 29, 3) := by decide +kernel
theorem dX4_addScrews_8 : decode cX4_addScrews 8 = .ok (.iload_n 1, 1) := by decide +kernel
theorem dX4_addScrews_9 : decode cX4_addScrews 9 = .ok (.iadd, 1) := by decide +kernel
theorem dX4_addScrews_10 : decode cX4_addScrews 10 = .ok (.invokestatic 88, 3) := by decide +kernel
theorem dX4_addScrews_13 : decode cX4_addScrews 13 = .ok (.putfield 29, 3) := by decide +kernel
theorem dX4_addScrews_16 : decode cX4_addScrews 16 = .ok (.return_, 1) := by decide +kernel
theorem dX4_refuse_0 : decode cX4_refuse 0 = .ok (.aload_n 0, 1) := by decide +kernel
theorem dX4_refuse_1 : decode cX4_refuse 1 = .ok (.iload_n 1, 1) := by decide +kernel
theorem dX4_refuse_2 : decode cX4_refuse 2 = .ok (.putfield 93, 3) := by decide +kernel
theorem dX4_refuse_5 : decode cX4_refuse 5 = .ok (.aload_n 0, 1) := by decide +kernel
theorem dX4_refuse_6 : decode cX4_refuse 6 = .ok (.iload_n 2, 1) := by decide +kernel
theorem dX4_refuse_7 : decode cX4_refuse 7 = .ok (.putfield 96, 3) := by decide +kernel
theorem dX4_refuse_10 : decode cX4_refuse 10 = .ok (.iconst 0, 1) := by decide +kernel
theorem dX4_refuse_11 : decode cX4_refuse 11 = .ok (.ireturn, 1) := by decide +kernel
theorem dX4_isInHouse_0 : decode cX4_isInHouse 0 = .ok (.aload_n 1, 1) := by decide +kernel
theorem dX4_isInHouse_1 : decode cX4_isInHouse 1 = .ok (.getfield 99, 3) := by decide +kernel
theorem dX4_isInHouse_4 : decode cX4_isInHouse 4 = .ok (.ifCond .eq 15, 3) := by decide +kernel
theorem dX4_isInHouse_7 : decode cX4_isInHouse 7 = .ok (.aload_n 0, 1) := by decide +kernel
theorem dX4_isInHouse_8 : decode cX4_isInHouse 8 = .ok (.iconst 3, 1) := by decide +kernel
theorem dX4_isInHouse_9 : decode cX4_isInHouse 9 = .ok (.aload_n 1, 1) := by decide +kernel
theorem dX4_isInHouse_10 : decode cX4_isInHouse 10 = .ok (.getfield 99, 3) := by decide +kernel
theorem dX4_isInHouse_13 : decode cX4_isInHouse 13 = .ok (.invokevirtual 81, 3) := by decide +kernel
theorem dX4_isInHouse_16 : decode cX4_isInHouse 16 = .ok (.ifCond .eq 7, 3) := by decide +kernel
theorem dX4_isInHouse_19 : decode cX4_isInHouse 19 = .ok (.iconst 1, 1) := by decide +kernel
theorem dX4_isInHouse_20 : decode cX4_isInHouse 20 = .ok (.goto 4, 3) := by decide +kernel
theorem dX4_isInHouse_23 : decode cX4_isInHouse 23 = .ok (.iconst 0, 1) := by decide +kernel
theorem dX4_isInHouse_24 : decode cX4_isInHouse 24 = .ok (.ireturn, 1) := by decide +kernel
theorem dX4_isUnscrewed_0 : decode cX4_isUnscrewed 0 = .ok (.aload_n 1, 1) := by decide +kernel
theorem dX4_isUnscrewed_1 : decode cX4_isUnscrewed 1 = .ok (.getfield 102, 3) := by decide +kernel
theorem dX4_isUnscrewed_4 : decode cX4_isUnscrewed 4 = .ok (.ifCond .eq 15, 3) := by decide +kernel
theorem dX4_isUnscrewed_7 : decode cX4_isUnscrewed 7 = .ok (.aload_n 0, 1) := by decide +kernel
theorem dX4_isUnscrewed_8 : decode cX4_isUnscrewed 8 = .ok (.iconst 4, 1) := by decide +kernel
theorem dX4_isUnscrewed_9 : decode cX4_isUnscrewed 9 = .ok (.aload_n 1, 1) := by decide +kernel
theorem dX4_isUnscrewed_10 : decode cX4_isUnscrewed 10 = .ok (.getfield 102, 3) := by decide +kernel
theorem dX4_isUnscrewed_13 : decode cX4_isUnscrewed 13 = .ok (.invokevirtual 81, 3) := by decide +kernel
theorem dX4_isUnscrewed_16 : decode cX4_isUnscrewed 16 = .ok (.ifCond .eq 7, 3) := by decide +kernel
theorem dX4_isUnscrewed_19 : decode cX4_isUnscrewed 19 = .ok (.iconst 1, 1) := by decide +kernel
theorem dX4_isUnscrewed_20 : decode cX4_isUnscrewed 20 = .ok (.goto 4, 3) := by decide +kernel
theorem dX4_isUnscrewed_23 : decode cX4_isUnscrewed 23 = .ok (.iconst 0, 1) := by decide +kernel
theorem dX4_isUnscrewed_24 : decode cX4_isUnscrewed 24 = .ok (.ireturn, 1) := by decide +kernel
theorem dX4_isUnlined_0 : decode cX4_isUnlined 0 = .ok (.aload_n 1, 1) := by decide +kernel
theorem dX4_isUnlined_1 : decode cX4_isUnlined 1 = .ok (.getfield 103, 3) := by decide +kernel
theorem dX4_isUnlined_4 : decode cX4_isUnlined 4 = .ok (.ifCond .eq 15, 3) := by decide +kernel
theorem dX4_isUnlined_7 : decode cX4_isUnlined 7 = .ok (.aload_n 0, 1) := by decide +kernel
theorem dX4_isUnlined_8 : decode cX4_isUnlined 8 = .ok (.iconst 5, 1) := by decide +kernel
theorem dX4_isUnlined_9 : decode cX4_isUnlined 9 = .ok (.aload_n 1, 1) := by decide +kernel
theorem dX4_isUnlined_10 : decode cX4_isUnlined 10 = .ok (.getfield 107, 3) := by decide +kernel
theorem dX4_isUnlined_13 : decode cX4_isUnlined 13 = .ok (.invokevirtual 81, 3) := by decide +kernel
theorem dX4_isUnlined_16 : decode cX4_isUnlined 16 = .ok (.ifCond .eq 7, 3) := by decide +kernel
theorem dX4_isUnlined_19 : decode cX4_isUnlined 19 = .ok (.iconst 1, 1) := by decide +kernel
theorem dX4_isUnlined_20 : decode cX4_isUnlined 20 = .ok (.goto 4, 3) := by decide +kernel
theorem dX4_isUnlined_23 : decode cX4_isUnlined 23 = .ok (.iconst 0, 1) := by decide +kernel
theorem dX4_isUnlined_24 : decode cX4_isUnlined 24 = .ok (.ireturn, 1) := by decide +kernel
theorem dX4_hasSheets_0 : decode cX4_hasSheets 0 = .ok (.aload_n 0, 1) := by decide +kernel
theorem dX4_hasSheets_1 : decode cX4_hasSheets 1 = .ok (.getfield 25, 3) := by decide +kernel
theorem dX4_hasSheets_4 : decode cX4_hasSheets 4 = .ok (.iload_n 1, 1) := by decide +kernel
theorem dX4_hasSheets_5 : decode cX4_hasSheets 5 = .ok (.if_icmp .ge 16, 3) := by decide +kernel
theorem dX4_hasSheets_8 : decode cX4_hasSheets 8 = .ok (.aload_n 0, 1) := by decide +kernel
theorem dX4_hasSheets_9 : decode cX4_hasSheets 9 = .ok (.bipush 6, 2) := by decide +kernel
theorem dX4_hasSheets_11 : decode cX4_hasSheets 11 = .ok (.aload_n 0, 1) := by decide +kernel
theorem dX4_hasSheets_12 : decode cX4_hasSheets 12 = .ok (.getfield 25, 3) := by decide +kernel
theorem dX4_hasSheets_15 : decode cX4_hasSheets 15 = .ok (.invokevirtual 81, 3) := by decide +kernel
theorem dX4_hasSheets_18 : decode cX4_hasSheets 18 = .ok (.ifCond .eq 7, 3) := by decide +kernel
theorem dX4_hasSheets_21 : decode cX4_hasSheets 21 = .ok (.iconst 1, 1) := by decide +kernel
theorem dX4_hasSheets_22 : decode cX4_hasSheets 22 = .ok (.goto 4, 3) := by decide +kernel
theorem dX4_hasSheets_25 : decode cX4_hasSheets 25 = .ok (.iconst 0, 1) := by decide +kernel
theorem dX4_hasSheets_26 : decode cX4_hasSheets 26 = .ok (.ireturn, 1) := by decide +kernel
theorem dX4_hasNoOtherLeaves_0 : decode cX4_hasNoOtherLeaves 0 = .ok (.aload_n 1, 1) := by decide +kernel
theorem dX4_hasNoOtherLeaves_1 : decode cX4_hasNoOtherLeaves 1 = .ok (.getfield 110, 3) := by decide +kernel
theorem dX4_hasNoOtherLeaves_4 : decode cX4_hasNoOtherLeaves 4 = .ok (.ifCond .eq 40, 3) := by decide +kernel
theorem dX4_hasNoOtherLeaves_7 : decode cX4_hasNoOtherLeaves 7 = .ok (.aload_n 1, 1) := by decide +kernel
theorem dX4_hasNoOtherLeaves_8 : decode cX4_hasNoOtherLeaves 8 = .ok (.getfield 113, 3) := by decide +kernel
theorem dX4_hasNoOtherLeaves_11 : decode cX4_hasNoOtherLeaves 11 = .ok (.iload_n 2, 1) := by decide +kernel
theorem dX4_hasNoOtherLeaves_12 : decode cX4_hasNoOtherLeaves 12 = .ok (.if_icmp .ne 11, 3) := by decide +kernel
theorem dX4_hasNoOtherLeaves_15 : decode cX4_hasNoOtherLeaves 15 = .ok (.aload_n 1, 1) := by decide +kernel
theorem dX4_hasNoOtherLeaves_16 : decode cX4_hasNoOtherLeaves 16 = .ok (.getfield 116, 3) := by decide +kernel
theorem dX4_hasNoOtherLeaves_19 : decode cX4_hasNoOtherLeaves 19 = .ok (.iload_n 3, 1) := by decide +kernel
theorem dX4_hasNoOtherLeaves_20 : decode cX4_hasNoOtherLeaves 20 = .ok (.if_icmp .eq 24, 3) := by decide +kernel
theorem dX4_hasNoOtherLeaves_23 : decode cX4_hasNoOtherLeaves 23 = .ok (.aload_n 0, 1) := by decide +kernel
theorem dX4_hasNoOtherLeaves_24 : decode cX4_hasNoOtherLeaves 24 = .ok (.bipush 7, 2) := by decide +kernel
theorem dX4_hasNoOtherLeaves_26 : decode cX4_hasNoOtherLeaves 26 = .ok (.bipush 10, 2) := by decide +kernel
theorem dX4_hasNoOtherLeaves_28 : decode cX4_hasNoOtherLeaves 28 = .ok (.aload_n 1, 1) := by decide +kernel
theorem dX4_hasNoOtherLeaves_29 : decode cX4_hasNoOtherLeaves 29 = .ok (.getfield 113, 3) := by decide +kernel
theorem dX4_hasNoOtherLeaves_32 : decode cX4_hasNoOtherLeaves 32 = .ok (.imul, 1) := by decide +kernel
theorem dX4_hasNoOtherLeaves_33 : decode cX4_hasNoOtherLeaves 33 = .ok (.aload_n 1, 1) := by decide +kernel
theorem dX4_hasNoOtherLeaves_34 : decode cX4_hasNoOtherLeaves 34 = .ok (.getfield 116, 3) := by decide +kernel
theorem dX4_hasNoOtherLeaves_37 : decode cX4_hasNoOtherLeaves 37 = .ok (.iadd, 1) := by decide +kernel
theorem dX4_hasNoOtherLeaves_38 : decode cX4_hasNoOtherLeaves 38 = .ok (.invokevirtual 81, 3) := by decide +kernel
theorem dX4_hasNoOtherLeaves_41 : decode cX4_hasNoOtherLeaves 41 = .ok (.ifCond .eq 7, 3) := by decide +kernel
theorem dX4_hasNoOtherLeaves_44 : decode cX4_hasNoOtherLeaves 44 = .ok (.iconst 1, 1) := by decide +kernel
theorem dX4_hasNoOtherLeaves_45 : decode cX4_hasNoOtherLeaves 45 = .ok (.goto 4, 3) := by decide +kernel
theorem dX4_hasNoOtherLeaves_48 : decode cX4_hasNoOtherLeaves 48 = .ok (.iconst 0, 1) := by decide +kernel
theorem dX4_hasNoOtherLeaves_49 : decode cX4_hasNoOtherLeaves 49 = .ok (.ireturn, 1) := by decide +kernel
theorem dX4_hasRoom_0 : decode cX4_hasRoom 0 = .ok (.aload_n 1, 1) := by decide +kernel
theorem dX4_hasRoom_1 : decode cX4_hasRoom 1 = .ok (.invokevirtual 119, 3) := by decide +kernel
theorem dX4_hasRoom_4 : decode cX4_hasRoom 4 = .ok (.iload_n 2, 1) := by decide +kernel
theorem dX4_hasRoom_5 : decode cX4_hasRoom 5 = .ok (.if_icmp .ge 16, 3) := by decide +kernel
theorem dX4_hasRoom_8 : decode cX4_hasRoom 8 = .ok (.aload_n 0, 1) := by decide +kernel
theorem dX4_hasRoom_9 : decode cX4_hasRoom 9 = .ok (.bipush 8, 2) := by decide +kernel
theorem dX4_hasRoom_11 : decode cX4_hasRoom 11 = .ok (.aload_n 1, 1) := by decide +kernel
theorem dX4_hasRoom_12 : decode cX4_hasRoom 12 = .ok (.invokevirtual 119, 3) := by decide +kernel
theorem dX4_hasRoom_15 : decode cX4_hasRoom 15 = .ok (.invokevirtual 81, 3) := by decide +kernel
theorem dX4_hasRoom_18 : decode cX4_hasRoom 18 = .ok (.ifCond .eq 7, 3) := by decide +kernel
theorem dX4_hasRoom_21 : decode cX4_hasRoom 21 = .ok (.iconst 1, 1) := by decide +kernel
theorem dX4_hasRoom_22 : decode cX4_hasRoom 22 = .ok (.goto 4, 3) := by decide +kernel
theorem dX4_hasRoom_25 : decode cX4_hasRoom 25 = .ok (.iconst 0, 1) := by decide +kernel
theorem dX4_hasRoom_26 : decode cX4_hasRoom 26 = .ok (.ireturn, 1) := by decide +kernel
theorem dX4_hasPounds_0 : decode cX4_hasPounds 0 = .ok (.aload_n 0, 1) := by decide +kernel
theorem dX4_hasPounds_1 : decode cX4_hasPounds 1 = .ok (.iload_n 1, 1) := by decide +kernel
theorem dX4_hasPounds_2 : decode cX4_hasPounds 2 = .ok (.iload_n 2, 1) := by decide +kernel
theorem dX4_hasPounds_3 : decode cX4_hasPounds 3 = .ok (.invokevirtual 73, 3) := by decide +kernel
theorem dX4_hasPounds_6 : decode cX4_hasPounds 6 = .ok (.iload_n 3, 1) := by decide +kernel
theorem dX4_hasPounds_7 : decode cX4_hasPounds 7 = .ok (.if_icmp .ge 18, 3) := by decide +kernel
theorem dX4_hasPounds_10 : decode cX4_hasPounds 10 = .ok (.aload_n 0, 1) := by decide +kernel
theorem dX4_hasPounds_11 : decode cX4_hasPounds 11 = .ok (.bipush 9, 2) := by decide +kernel
theorem dX4_hasPounds_13 : decode cX4_hasPounds 13 = .ok (.aload_n 0, 1) := by decide +kernel
theorem dX4_hasPounds_14 : decode cX4_hasPounds 14 = .ok (.iload_n 1, 1) := by decide +kernel
theorem dX4_hasPounds_15 : decode cX4_hasPounds 15 = .ok (.iload_n 2, 1) := by decide +kernel
theorem dX4_hasPounds_16 : decode cX4_hasPounds 16 = .ok (.invokevirtual 73, 3) := by decide +kernel
theorem dX4_hasPounds_19 : decode cX4_hasPounds 19 = .ok (.invokevirtual 81, 3) := by decide +kernel
theorem dX4_hasPounds_22 : decode cX4_hasPounds 22 = .ok (.ifCond .eq 7, 3) := by decide +kernel
theorem dX4_hasPounds_25 : decode cX4_hasPounds 25 = .ok (.iconst 1, 1) := by decide +kernel
theorem dX4_hasPounds_26 : decode cX4_hasPounds 26 = .ok (.goto 4, 3) := by decide +kernel
theorem dX4_hasPounds_29 : decode cX4_hasPounds 29 = .ok (.iconst 0, 1) := by decide +kernel
theorem dX4_hasPounds_30 : decode cX4_hasPounds 30 = .ok (.ireturn, 1) := by decide +kernel
theorem dX4_isFilled_0 : decode cX4_isFilled 0 = .ok (.aload_n 1, 1) := by decide +kernel
theorem dX4_isFilled_1 : decode cX4_isFilled 1 = .ok (.getfield 110, 3) := by decide +kernel
theorem dX4_isFilled_4 : decode cX4_isFilled 4 = .ok (.ifCond .gt 16, 3) := by decide +kernel
theorem dX4_isFilled_7 : decode cX4_isFilled 7 = .ok (.aload_n 0, 1) := by decide +kernel
theorem dX4_isFilled_8 : decode cX4_isFilled 8 = .ok (.bipush 10, 2) := by decide +kernel
theorem dX4_isFilled_10 : decode cX4_isFilled 10 = .ok (.aload_n 1, 1) := by decide +kernel
theorem dX4_isFilled_11 : decode cX4_isFilled 11 = .ok (.getfield 123, 3) := by decide +kernel
theorem dX4_isFilled_14 : decode cX4_isFilled 14 = .ok (.invokevirtual 81, 3) := by decide +kernel
theorem dX4_isFilled_17 : decode cX4_isFilled 17 = .ok (.ifCond .eq 7, 3) := by decide +kernel
theorem dX4_isFilled_20 : decode cX4_isFilled 20 = .ok (.iconst 1, 1) := by decide +kernel
theorem dX4_isFilled_21 : decode cX4_isFilled 21 = .ok (.goto 4, 3) := by decide +kernel
theorem dX4_isFilled_24 : decode cX4_isFilled 24 = .ok (.iconst 0, 1) := by decide +kernel
theorem dX4_isFilled_25 : decode cX4_isFilled 25 = .ok (.ireturn, 1) := by decide +kernel
theorem dX4_hasScrews_0 : decode cX4_hasScrews 0 = .ok (.aload_n 0, 1) := by decide +kernel
theorem dX4_hasScrews_1 : decode cX4_hasScrews 1 = .ok (.getfield 29, 3) := by decide +kernel
theorem dX4_hasScrews_4 : decode cX4_hasScrews 4 = .ok (.iload_n 1, 1) := by decide +kernel
theorem dX4_hasScrews_5 : decode cX4_hasScrews 5 = .ok (.if_icmp .ge 16, 3) := by decide +kernel
theorem dX4_hasScrews_8 : decode cX4_hasScrews 8 = .ok (.aload_n 0, 1) := by decide +kernel
theorem dX4_hasScrews_9 : decode cX4_hasScrews 9 = .ok (.bipush 11, 2) := by decide +kernel
theorem dX4_hasScrews_11 : decode cX4_hasScrews 11 = .ok (.aload_n 0, 1) := by decide +kernel
theorem dX4_hasScrews_12 : decode cX4_hasScrews 12 = .ok (.getfield 29, 3) := by decide +kernel
theorem dX4_hasScrews_15 : decode cX4_hasScrews 15 = .ok (.invokevirtual 81, 3) := by decide +kernel
theorem dX4_hasScrews_18 : decode cX4_hasScrews 18 = .ok (.ifCond .eq 7, 3) := by decide +kernel
theorem dX4_hasScrews_21 : decode cX4_hasScrews 21 = .ok (.iconst 1, 1) := by decide +kernel
theorem dX4_hasScrews_22 : decode cX4_hasScrews 22 = .ok (.goto 4, 3) := by decide +kernel
theorem dX4_hasScrews_25 : decode cX4_hasScrews 25 = .ok (.iconst 0, 1) := by decide +kernel
theorem dX4_hasScrews_26 : decode cX4_hasScrews 26 = .ok (.ireturn, 1) := by decide +kernel
theorem dX4_takesScrews_0 : decode cX4_takesScrews 0 = .ok (.aload_n 1, 1) := by decide +kernel
theorem dX4_takesScrews_1 : decode cX4_takesScrews 1 = .ok (.getfield 102, 3) := by decide +kernel
theorem dX4_takesScrews_4 : decode cX4_takesScrews 4 = .ok (.iload_n 2, 1) := by decide +kernel
theorem dX4_takesScrews_5 : decode cX4_takesScrews 5 = .ok (.iadd, 1) := by decide +kernel
theorem dX4_takesScrews_6 : decode cX4_takesScrews 6 = .ok (.bipush 8, 2) := by decide +kernel
theorem dX4_takesScrews_8 : decode cX4_takesScrews 8 = .ok (.if_icmp .le 16, 3) := by decide +kernel
theorem dX4_takesScrews_11 : decode cX4_takesScrews 11 = .ok (.aload_n 0, 1) := by decide +kernel
theorem dX4_takesScrews_12 : decode cX4_takesScrews 12 = .ok (.bipush 12, 2) := by decide +kernel
theorem dX4_takesScrews_14 : decode cX4_takesScrews 14 = .ok (.aload_n 1, 1) := by decide +kernel
theorem dX4_takesScrews_15 : decode cX4_takesScrews 15 = .ok (.getfield 102, 3) := by decide +kernel
theorem dX4_takesScrews_18 : decode cX4_takesScrews 18 = .ok (.invokevirtual 81, 3) := by decide +kernel
theorem dX4_takesScrews_21 : decode cX4_takesScrews 21 = .ok (.ifCond .eq 7, 3) := by decide +kernel
theorem dX4_takesScrews_24 : decode cX4_takesScrews 24 = .ok (.iconst 1, 1) := by decide +kernel
theorem dX4_takesScrews_25 : decode cX4_takesScrews 25 = .ok (.goto 4, 3) := by decide +kernel
theorem dX4_takesScrews_28 : decode cX4_takesScrews 28 = .ok (.iconst 0, 1) := by decide +kernel
theorem dX4_takesScrews_29 : decode cX4_takesScrews 29 = .ok (.ireturn, 1) := by decide +kernel
theorem dX4_isReadyForQuay_0 : decode cX4_isReadyForQuay 0 = .ok (.aload_n 1, 1) := by decide +kernel
theorem dX4_isReadyForQuay_1 : decode cX4_isReadyForQuay 1 = .ok (.invokevirtual 126, 3) := by decide +kernel
theorem dX4_isReadyForQuay_4 : decode cX4_isReadyForQuay 4 = .ok (.ifCond .ne 14, 3) := by decide +kernel
theorem dX4_isReadyForQuay_7 : decode cX4_isReadyForQuay 7 = .ok (.aload_n 0, 1) := by decide +kernel
theorem dX4_isReadyForQuay_8 : decode cX4_isReadyForQuay 8 = .ok (.bipush 13, 2) := by decide +kernel
theorem dX4_isReadyForQuay_10 : decode cX4_isReadyForQuay 10 = .ok (.aload_n 1, 1) := by decide +kernel
theorem dX4_isReadyForQuay_11 : decode cX4_isReadyForQuay 11 = .ok (.getfield 123, 3) := by decide +kernel
theorem dX4_isReadyForQuay_14 : decode cX4_isReadyForQuay 14 = .ok (.invokevirtual 81, 3) := by decide +kernel
theorem dX4_isReadyForQuay_17 : decode cX4_isReadyForQuay 17 = .ok (.ireturn, 1) := by decide +kernel
theorem dX4_isReadyForQuay_18 : decode cX4_isReadyForQuay 18 = .ok (.aload_n 1, 1) := by decide +kernel
theorem dX4_isReadyForQuay_19 : decode cX4_isReadyForQuay 19 = .ok (.invokevirtual 130, 3) := by decide +kernel
theorem dX4_isReadyForQuay_22 : decode cX4_isReadyForQuay 22 = .ok (.ifCond .ne 16, 3) := by decide +kernel
theorem dX4_isReadyForQuay_25 : decode cX4_isReadyForQuay 25 = .ok (.aload_n 0, 1) := by decide +kernel
theorem dX4_isReadyForQuay_26 : decode cX4_isReadyForQuay 26 = .ok (.bipush 14, 2) := by decide +kernel
theorem dX4_isReadyForQuay_28 : decode cX4_isReadyForQuay 28 = .ok (.aload_n 1, 1) := by decide +kernel
theorem dX4_isReadyForQuay_29 : decode cX4_isReadyForQuay 29 = .ok (.getfield 123, 3) := by decide +kernel
theorem dX4_isReadyForQuay_32 : decode cX4_isReadyForQuay 32 = .ok (.invokevirtual 81, 3) := by decide +kernel
theorem dX4_isReadyForQuay_35 : decode cX4_isReadyForQuay 35 = .ok (.ifCond .eq 7, 3) := by decide +kernel
theorem dX4_isReadyForQuay_38 : decode cX4_isReadyForQuay 38 = .ok (.iconst 1, 1) := by decide +kernel
theorem dX4_isReadyForQuay_39 : decode cX4_isReadyForQuay 39 = .ok (.goto 4, 3) := by decide +kernel
theorem dX4_isReadyForQuay_42 : decode cX4_isReadyForQuay 42 = .ok (.iconst 0, 1) := by decide +kernel
theorem dX4_isReadyForQuay_43 : decode cX4_isReadyForQuay 43 = .ok (.ireturn, 1) := by decide +kernel
theorem dX4_isOnQuay_0 : decode cX4_isOnQuay 0 = .ok (.aload_n 1, 1) := by decide +kernel
theorem dX4_isOnQuay_1 : decode cX4_isOnQuay 1 = .ok (.getfield 99, 3) := by decide +kernel
theorem dX4_isOnQuay_4 : decode cX4_isOnQuay 4 = .ok (.iconst 1, 1) := by decide +kernel
theorem dX4_isOnQuay_5 : decode cX4_isOnQuay 5 = .ok (.if_icmp .eq 16, 3) := by decide +kernel
theorem dX4_isOnQuay_8 : decode cX4_isOnQuay 8 = .ok (.aload_n 0, 1) := by decide +kernel
theorem dX4_isOnQuay_9 : decode cX4_isOnQuay 9 = .ok (.bipush 15, 2) := by decide +kernel
theorem dX4_isOnQuay_11 : decode cX4_isOnQuay 11 = .ok (.aload_n 1, 1) := by decide +kernel
theorem dX4_isOnQuay_12 : decode cX4_isOnQuay 12 = .ok (.getfield 99, 3) := by decide +kernel
theorem dX4_isOnQuay_15 : decode cX4_isOnQuay 15 = .ok (.invokevirtual 81, 3) := by decide +kernel
theorem dX4_isOnQuay_18 : decode cX4_isOnQuay 18 = .ok (.ifCond .eq 7, 3) := by decide +kernel
theorem dX4_isOnQuay_21 : decode cX4_isOnQuay 21 = .ok (.iconst 1, 1) := by decide +kernel
theorem dX4_isOnQuay_22 : decode cX4_isOnQuay 22 = .ok (.goto 4, 3) := by decide +kernel
theorem dX4_isOnQuay_25 : decode cX4_isOnQuay 25 = .ok (.iconst 0, 1) := by decide +kernel
theorem dX4_isOnQuay_26 : decode cX4_isOnQuay 26 = .ok (.ireturn, 1) := by decide +kernel
theorem dX4_isShipReached_0 : decode cX4_isShipReached 0 = .ok (.aload_n 0, 1) := by decide +kernel
theorem dX4_isShipReached_1 : decode cX4_isShipReached 1 = .ok (.iconst 0, 1) := by decide +kernel
theorem dX4_isShipReached_2 : decode cX4_isShipReached 2 = .ok (.invokevirtual 133, 3) := by decide +kernel
theorem dX4_isShipReached_5 : decode cX4_isShipReached 5 = .ok (.iconst 3, 1) := by decide +kernel
theorem dX4_isShipReached_6 : decode cX4_isShipReached 6 = .ok (.if_icmp .ge 17, 3) := by decide +kernel
theorem dX4_isShipReached_9 : decode cX4_isShipReached 9 = .ok (.aload_n 0, 1) := by decide +kernel
theorem dX4_isShipReached_10 : decode cX4_isShipReached 10 = .ok (.bipush 16, 2) := by decide +kernel
theorem dX4_isShipReached_12 : decode cX4_isShipReached 12 = .ok (.aload_n 0, 1) := by decide +kernel
theorem dX4_isShipReached_13 : decode cX4_isShipReached 13 = .ok (.iconst 0, 1) := by decide +kernel
theorem dX4_isShipReached_14 : decode cX4_isShipReached 14 = .ok (.invokevirtual 133, 3) := by decide +kernel
theorem dX4_isShipReached_17 : decode cX4_isShipReached 17 = .ok (.invokevirtual 81, 3) := by decide +kernel
theorem dX4_isShipReached_20 : decode cX4_isShipReached 20 = .ok (.ifCond .eq 7, 3) := by decide +kernel
theorem dX4_isShipReached_23 : decode cX4_isShipReached 23 = .ok (.iconst 1, 1) := by decide +kernel
theorem dX4_isShipReached_24 : decode cX4_isShipReached 24 = .ok (.goto 4, 3) := by decide +kernel
theorem dX4_isShipReached_27 : decode cX4_isShipReached 27 = .ok (.iconst 0, 1) := by decide +kernel
theorem dX4_isShipReached_28 : decode cX4_isShipReached 28 = .ok (.ireturn, 1) := by decide +kernel
theorem dX4_hasShipRoom_0 : decode cX4_hasShipRoom 0 = .ok (.aload_n 0, 1) := by decide +kernel
theorem dX4_hasShipRoom_1 : decode cX4_hasShipRoom 1 = .ok (.invokevirtual 136, 3) := by decide +kernel
theorem dX4_hasShipRoom_4 : decode cX4_hasShipRoom 4 = .ok (.iload_n 1, 1) := by decide +kernel
theorem dX4_hasShipRoom_5 : decode cX4_hasShipRoom 5 = .ok (.if_icmp .ge 16, 3) := by decide +kernel
theorem dX4_hasShipRoom_8 : decode cX4_hasShipRoom 8 = .ok (.aload_n 0, 1) := by decide +kernel
theorem dX4_hasShipRoom_9 : decode cX4_hasShipRoom 9 = .ok (.bipush 17, 2) := by decide +kernel
theorem dX4_hasShipRoom_11 : decode cX4_hasShipRoom 11 = .ok (.aload_n 0, 1) := by decide +kernel
theorem dX4_hasShipRoom_12 : decode cX4_hasShipRoom 12 = .ok (.invokevirtual 136, 3) := by decide +kernel
theorem dX4_hasShipRoom_15 : decode cX4_hasShipRoom 15 = .ok (.invokevirtual 81, 3) := by decide +kernel
theorem dX4_hasShipRoom_18 : decode cX4_hasShipRoom 18 = .ok (.ifCond .eq 7, 3) := by decide +kernel
theorem dX4_hasShipRoom_21 : decode cX4_hasShipRoom 21 = .ok (.iconst 1, 1) := by decide +kernel
theorem dX4_hasShipRoom_22 : decode cX4_hasShipRoom 22 = .ok (.goto 4, 3) := by decide +kernel
theorem dX4_hasShipRoom_25 : decode cX4_hasShipRoom 25 = .ok (.iconst 0, 1) := by decide +kernel
theorem dX4_hasShipRoom_26 : decode cX4_hasShipRoom 26 = .ok (.ireturn, 1) := by decide +kernel
theorem dX4_isShipLoaded_0 : decode cX4_isShipLoaded 0 = .ok (.aload_n 0, 1) := by decide +kernel
theorem dX4_isShipLoaded_1 : decode cX4_isShipLoaded 1 = .ok (.iconst 2, 1) := by decide +kernel
theorem dX4_isShipLoaded_2 : decode cX4_isShipLoaded 2 = .ok (.invokevirtual 139, 3) := by decide +kernel
theorem dX4_isShipLoaded_5 : decode cX4_isShipLoaded 5 = .ok (.ifCond .gt 13, 3) := by decide +kernel
theorem dX4_isShipLoaded_8 : decode cX4_isShipLoaded 8 = .ok (.aload_n 0, 1) := by decide +kernel
theorem dX4_isShipLoaded_9 : decode cX4_isShipLoaded 9 = .ok (.bipush 18, 2) := by decide +kernel
theorem dX4_isShipLoaded_11 : decode cX4_isShipLoaded 11 = .ok (.iconst 0, 1) := by decide +kernel
theorem dX4_isShipLoaded_12 : decode cX4_isShipLoaded 12 = .ok (.invokevirtual 81, 3) := by decide +kernel
theorem dX4_isShipLoaded_15 : decode cX4_isShipLoaded 15 = .ok (.ifCond .eq 7, 3) := by decide +kernel
theorem dX4_isShipLoaded_18 : decode cX4_isShipLoaded 18 = .ok (.iconst 1, 1) := by decide +kernel
theorem dX4_isShipLoaded_19 : decode cX4_isShipLoaded 19 = .ok (.goto 4, 3) := by decide +kernel
theorem dX4_isShipLoaded_22 : decode cX4_isShipLoaded 22 = .ok (.iconst 0, 1) := by decide +kernel
theorem dX4_isShipLoaded_23 : decode cX4_isShipLoaded 23 = .ok (.ireturn, 1) := by decide +kernel
theorem dX4_find_0 : decode cX4_find 0 = .ok (.iload_n 1, 1) := by decide +kernel
theorem dX4_find_1 : decode cX4_find 1 = .ok (.ifCond .lt 29, 3) := by decide +kernel
theorem dX4_find_4 : decode cX4_find 4 = .ok (.iload_n 1, 1) := by decide +kernel
theorem dX4_find_5 : decode cX4_find 5 = .ok (.aload_n 0, 1) := by decide +kernel
theorem dX4_find_6 : decode cX4_find 6 = .ok (.getfield 48, 3) := by decide +kernel
theorem dX4_find_9 : decode cX4_find 9 = .ok (.if_icmp .ge 21, 3) := by decide +kernel
theorem dX4_find_12 : decode cX4_find 12 = .ok (.iload_n 1, 1) := by decide +kernel
theorem dX4_find_13 : decode cX4_find 13 = .ok (.aload_n 0, 1) := by decide +kernel
theorem dX4_find_14 : decode cX4_find 14 = .ok (.getfield 21, 3) := by decide +kernel
theorem dX4_find_17 : decode cX4_find 17 = .ok (.arraylength, 1) := by decide +kernel
theorem dX4_find_18 : decode cX4_find 18 = .ok (.if_icmp .ge 12, 3) := by decide +kernel
theorem dX4_find_21 : decode cX4_find 21 = .ok (.aload_n 0, 1) := by decide +kernel
theorem dX4_find_22 : decode cX4_find 22 = .ok (.getfield 21, 3) := by decide +kernel
theorem dX4_find_25 : decode cX4_find 25 = .ok (.iload_n 1, 1) := by decide +kernel
theorem dX4_find_26 : decode cX4_find 26 = .ok (.aaload, 1) := by decide +kernel
theorem dX4_find_27 : decode cX4_find 27 = .ok (.goto 4, 3) := by decide +kernel
theorem dX4_find_30 : decode cX4_find 30 = .ok (.aconst_null, 1) := by decide +kernel
theorem dX4_find_31 : decode cX4_find 31 = .ok (.areturn, 1) := by decide +kernel
theorem dX4_tryMake_0 : decode cX4_tryMake 0 = .ok (.aload_n 0, 1) := by decide +kernel
theorem dX4_tryMake_1 : decode cX4_tryMake 1 = .ok (.getfield 48, 3) := by decide +kernel
theorem dX4_tryMake_4 : decode cX4_tryMake 4 = .ok (.aload_n 0, 1) := by decide +kernel
theorem dX4_tryMake_5 : decode cX4_tryMake 5 = .ok (.getfield 21, 3) := by decide +kernel
theorem dX4_tryMake_8 : decode cX4_tryMake 8 = .ok (.arraylength, 1) := by decide +kernel
theorem dX4_tryMake_9 : decode cX4_tryMake 9 = .ok (.if_icmp .lt 13, 3) := by decide +kernel
theorem dX4_tryMake_12 : decode cX4_tryMake 12 = .ok (.aload_n 0, 1) := by decide +kernel
theorem dX4_tryMake_13 : decode cX4_tryMake 13 = .ok (.iconst 1, 1) := by decide +kernel
theorem dX4_tryMake_14 : decode cX4_tryMake 14 = .ok (.aload_n 0, 1) := by decide +kernel
theorem dX4_tryMake_15 : decode cX4_tryMake 15 = .ok (.getfield 48, 3) := by decide +kernel
theorem dX4_tryMake_18 : decode cX4_tryMake 18 = .ok (.invokevirtual 81, 3) := by decide +kernel
theorem dX4_tryMake_21 : decode cX4_tryMake 21 = .ok (.ireturn, 1) := by decide +kernel
theorem dX4_tryMake_22 : decode cX4_tryMake 22 = .ok (.aload_n 0, 1) := by decide +kernel
theorem dX4_tryMake_23 : decode cX4_tryMake 23 = .ok (.getfield 21, 3) := by decide +kernel
theorem dX4_tryMake_26 : decode cX4_tryMake 26 = .ok (.aload_n 0, 1) := by decide +kernel
theorem dX4_tryMake_27 : decode cX4_tryMake 27 = .ok (.getfield 48, 3) := by decide +kernel
theorem dX4_tryMake_30 : decode cX4_tryMake 30 = .ok (.aaload, 1) := by decide +kernel
theorem dX4_tryMake_31 : decode cX4_tryMake 31 = .ok (.iload_n 1, 1) := by decide +kernel
theorem dX4_tryMake_32 : decode cX4_tryMake 32 = .ok (.putfield 107, 3) := by decide +kernel
theorem dX4_tryMake_35 : decode cX4_tryMake 35 = .ok (.aload_n 0, 1) := by decide +kernel
theorem dX4_tryMake_36 : decode cX4_tryMake 36 = .ok (.getfield 21, 3) := by decide +kernel
theorem dX4_tryMake_39 : decode cX4_tryMake 39 = .ok (.aload_n 0, 1) := by decide +kernel
theorem dX4_tryMake_40 : decode cX4_tryMake 40 = .ok (.getfield 48, 3) := by decide +kernel
theorem dX4_tryMake_43 : decode cX4_tryMake 43 = .ok (.aaload, 1) := by decide +kernel
theorem dX4_tryMake_44 : decode cX4_tryMake 44 = .ok (.iconst 0, 1) := by decide +kernel
theorem dX4_tryMake_45 : decode cX4_tryMake 45 = .ok (.putfield 99, 3) := by decide +kernel
theorem dX4_tryMake_48 : decode cX4_tryMake 48 = .ok (.aload_n 0, 1) := by decide +kernel
theorem dX4_tryMake_49 : decode cX4_tryMake 49 = .ok (.dup, 1) := by decide +kernel
theorem dX4_tryMake_50 : decode cX4_tryMake 50 = .ok (.getfield 48, 3) := by decide +kernel
theorem dX4_tryMake_53 : decode cX4_tryMake 53 = .ok (.iconst 1, 1) := by decide +kernel
theorem dX4_tryMake_54 : decode cX4_tryMake 54 = .ok (.iadd, 1) := by decide +kernel
theorem dX4_tryMake_55 : decode cX4_tryMake 55 = .ok (.putfield 48, 3) := by decide +kernel
theorem dX4_tryMake_58 : decode cX4_tryMake 58 = .ok (.iconst 1, 1) := by decide +kernel
theorem dX4_tryMake_59 : decode cX4_tryMake 59 = .ok (.ireturn, 1) := by decide +kernel
theorem dX4_tryLine_0 : decode cX4_tryLine 0 = .ok (.iconst 2, 1) := by decide +kernel
theorem dX4_tryLine_1 : decode cX4_tryLine 1 = .ok (.aload_n 1, 1) := by decide +kernel
theorem dX4_tryLine_2 : decode cX4_tryLine 2 = .ok (.getfield 107, 3) := by decide +kernel
theorem dX4_tryLine_5 : decode cX4_tryLine 5 = .ok (.imul, 1) := by decide +kernel
theorem dX4_tryLine_6 : decode cX4_tryLine 6 = .ok (.istore_n 2, 1) := by decide +kernel
theorem dX4_tryLine_7 : decode cX4_tryLine 7 = .ok (.aload_n 0, 1) := by decide +kernel
theorem dX4_tryLine_8 : decode cX4_tryLine 8 = .ok (.aload_n 1, 1) := by decide +kernel
theorem dX4_tryLine_9 : decode cX4_tryLine 9 = .ok (.invokevirtual 142, 3) := by decide +kernel
theorem dX4_tryLine_12 : decode cX4_tryLine 12 = .ok (.ifCond .eq 27, 3) := by decide +kernel
theorem dX4_tryLine_15 : decode cX4_tryLine 15 = .ok (.aload_n 0, 1) := by decide +kernel
theorem dX4_tryLine_16 : decode cX4_tryLine 16 = .ok (.aload_n 1, 1) := by decide +kernel
theorem dX4_tryLine_17 : decode cX4_tryLine 17 = .ok (.invokevirtual 146, 3) := by decide +kernel
theorem dX4_tryLine_20 : decode cX4_tryLine 20 = .ok (.ifCond .eq 19, 3) := by decide +kernel
theorem dX4_tryLine_23 : decode cX4_tryLine 23 = .ok (.aload_n 0, 1) := by decide +kernel
theorem dX4_tryLine_24 : decode cX4_tryLine 24 = .ok (.aload_n 1, 1) := by decide +kernel
theorem dX4_tryLine_25 : decode cX4_tryLine 25 = .ok (.invokevirtual 149, 3) := by decide +kernel
theorem dX4_tryLine_28 : decode cX4_tryLine 28 = .ok (.ifCond .eq 11, 3) := by decide +kernel
theorem dX4_tryLine_31 : decode cX4_tryLine 31 = .ok (.aload_n 0, 1) := by decide +kernel
theorem dX4_tryLine_32 : decode cX4_tryLine 32 = .ok (.iload_n 2, 1) := by decide +kernel
theorem dX4_tryLine_33 : decode cX4_tryLine 33 = .ok (.invokevirtual 152, 3) := by decide +kernel
theorem dX4_tryLine_36 : decode cX4_tryLine 36 = .ok (.ifCond .ne 5, 3) := by decide +kernel
theorem dX4_tryLine_39 : decode cX4_tryLine 39 = .ok (.iconst 0, 1) := by decide +kernel
theorem dX4_tryLine_40 : decode cX4_tryLine 40 = .ok (.ireturn, 1) := by decide +kernel
theorem dX4_tryLine_41 : decode cX4_tryLine 41 = .ok (.aload_n 0, 1) := by decide +kernel
theorem dX4_tryLine_42 : decode cX4_tryLine 42 = .ok (.dup, 1) := by decide +kernel
theorem dX4_tryLine_43 : decode cX4_tryLine 43 = .ok (.getfield 25, 3) := by decide +kernel
theorem dX4_tryLine_46 : decode cX4_tryLine 46 = .ok (.iload_n 2, 1) := by decide +kernel
theorem dX4_tryLine_47 : decode cX4_tryLine 47 = .ok (.isub, 1) := by decide +kernel
theorem dX4_tryLine_48 : decode cX4_tryLine 48 = .ok (.putfield 25, 3) := by decide +kernel
theorem dX4_tryLine_51 : decode cX4_tryLine 51 = .ok (.aload_n 1, 1) := by decide +kernel
theorem dX4_tryLine_52 : decode cX4_tryLine 52 = .ok (.iconst 1, 1) := by decide +kernel
theorem dX4_tryLine_53 : decode cX4_tryLine 53 = .ok (.putfield 103, 3) := by decide +kernel
theorem dX4_tryLine_56 : decode cX4_tryLine 56 = .ok (.iconst 1, 1) := by decide +kernel
theorem dX4_tryLine_57 : decode cX4_tryLine 57 = .ok (.ireturn, 1) := by decide +kernel
theorem dX4_tryFill_0 : decode cX4_tryFill 0 = .ok (.aload_n 0, 1) := by decide +kernel
theorem dX4_tryFill_1 : decode cX4_tryFill 1 = .ok (.aload_n 1, 1) := by decide +kernel
theorem dX4_tryFill_2 : decode cX4_tryFill 2 = .ok (.invokevirtual 142, 3) := by decide +kernel
theorem dX4_tryFill_5 : decode cX4_tryFill 5 = .ok (.ifCond .eq 42, 3) := by decide +kernel
theorem dX4_tryFill_8 : decode cX4_tryFill 8 = .ok (.aload_n 0, 1) := by decide +kernel
theorem dX4_tryFill_9 : decode cX4_tryFill 9 = .ok (.aload_n 1, 1) := by decide +kernel
theorem dX4_tryFill_10 : decode cX4_tryFill 10 = .ok (.invokevirtual 146, 3) := by decide +kernel
theorem dX4_tryFill_13 : decode cX4_tryFill 13 = .ok (.ifCond .eq 34, 3) := by decide +kernel
theorem dX4_tryFill_16 : decode cX4_tryFill 16 = .ok (.aload_n 0, 1) := by decide +kernel
theorem dX4_tryFill_17 : decode cX4_tryFill 17 = .ok (.aload_n 1, 1) := by decide +kernel
theorem dX4_tryFill_18 : decode cX4_tryFill 18 = .ok (.iload_n 2, 1) := by decide +kernel
theorem dX4_tryFill_19 : decode cX4_tryFill 19 = .ok (.iload_n 3, 1) := by decide +kernel
theorem dX4_tryFill_20 : decode cX4_tryFill 20 = .ok (.invokevirtual 156, 3) := by decide +kernel
theorem dX4_tryFill_23 : decode cX4_tryFill 23 = .ok (.ifCond .eq 24, 3) := by decide +kernel
theorem dX4_tryFill_26 : decode cX4_tryFill 26 = .ok (.aload_n 0, 1) := by decide +kernel
theorem dX4_tryFill_27 : decode cX4_tryFill 27 = .ok (.aload_n 1, 1) := by decide +kernel
theorem dX4_tryFill_28 : decode cX4_tryFill 28 = .ok (.iload 4, 2) := by decide +kernel
theorem dX4_tryFill_30 : decode cX4_tryFill 30 = .ok (.invokevirtual 160, 3) := by decide +kernel
theorem dX4_tryFill_33 : decode cX4_tryFill 33 = .ok (.ifCond .eq 14, 3) := by decide +kernel
theorem dX4_tryFill_36 : decode cX4_tryFill 36 = .ok (.aload_n 0, 1) := by decide +kernel
theorem dX4_tryFill_37 : decode cX4_tryFill 37 = .ok (.iload_n 2, 1) := by decide +kernel
theorem dX4_tryFill_38 : decode cX4_tryFill 38 = .ok (.iload_n 3, 1) := by decide +kernel
theorem dX4_tryFill_39 : decode cX4_tryFill 39 = .ok (.iload 4, 2) := by decide +kernel
theorem dX4_tryFill_41 : decode cX4_tryFill 41 = .ok (.invokevirtual 164, 3) := by decide +kernel
theorem dX4_tryFill_44 : decode cX4_tryFill 44 = .ok (.ifCond .ne 5, 3) := by decide +kernel
theorem dX4_tryFill_47 : decode cX4_tryFill 47 = .ok (.iconst 0, 1) := by decide +kernel
theorem dX4_tryFill_48 : decode cX4_tryFill 48 = .ok (.ireturn, 1) := by decide +kernel
theorem dX4_tryFill_49 : decode cX4_tryFill 49 = .ok (.aload_n 0, 1) := by decide +kernel
theorem dX4_tryFill_50 : decode cX4_tryFill 50 = .ok (.iload_n 2, 1) := by decide +kernel
theorem dX4_tryFill_51 : decode cX4_tryFill 51 = .ok (.iload_n 3, 1) := by decide +kernel
theorem dX4_tryFill_52 : decode cX4_tryFill 52 = .ok (.iload 4, 2) := by decide +kernel
theorem dX4_tryFill_54 : decode cX4_tryFill 54 = .ok (.ineg, 1) := by decide +kernel
theorem dX4_tryFill_55 : decode cX4_tryFill 55 = .ok (.invokevirtual 84, 3) := by decide +kernel
theorem dX4_tryFill_58 : decode cX4_tryFill 58 = .ok (.aload_n 1, 1) := by decide +kernel
theorem dX4_tryFill_59 : decode cX4_tryFill 59 = .ok (.iload_n 2, 1) := by decide +kernel
theorem dX4_tryFill_60 : decode cX4_tryFill 60 = .ok (.iload_n 3, 1) := by decide +kernel
theorem dX4_tryFill_61 : decode cX4_tryFill 61 = .ok (.iload 4, 2) := by decide +kernel
theorem dX4_tryFill_63 : decode cX4_tryFill 63 = .ok (.invokevirtual 168, 3) := by decide +kernel
theorem dX4_tryFill_66 : decode cX4_tryFill 66 = .ok (.iconst 1, 1) := by decide +kernel
theorem dX4_tryFill_67 : decode cX4_tryFill 67 = .ok (.ireturn, 1) := by decide +kernel
theorem dX4_tryEmpty_0 : decode cX4_tryEmpty 0 = .ok (.aload_n 0, 1) := by decide +kernel
theorem dX4_tryEmpty_1 : decode cX4_tryEmpty 1 = .ok (.aload_n 1, 1) := by decide +kernel
theorem dX4_tryEmpty_2 : decode cX4_tryEmpty 2 = .ok (.invokevirtual 142, 3) := by decide +kernel
theorem dX4_tryEmpty_5 : decode cX4_tryEmpty 5 = .ok (.ifCond .eq 19, 3) := by decide +kernel
theorem dX4_tryEmpty_8 : decode cX4_tryEmpty 8 = .ok (.aload_n 0, 1) := by decide +kernel
theorem dX4_tryEmpty_9 : decode cX4_tryEmpty 9 = .ok (.aload_n 1, 1) := by decide +kernel
theorem dX4_tryEmpty_10 : decode cX4_tryEmpty 10 = .ok (.invokevirtual 146, 3) := by decide +kernel
theorem dX4_tryEmpty_13 : decode cX4_tryEmpty 13 = .ok (.ifCond .eq 11, 3) := by decide +kernel
theorem dX4_tryEmpty_16 : decode cX4_tryEmpty 16 = .ok (.aload_n 0, 1) := by decide +kernel
theorem dX4_tryEmpty_17 : decode cX4_tryEmpty 17 = .ok (.aload_n 1, 1) := by decide +kernel
theorem dX4_tryEmpty_18 : decode cX4_tryEmpty 18 = .ok (.invokevirtual 171, 3) := by decide +kernel
theorem dX4_tryEmpty_21 : decode cX4_tryEmpty 21 = .ok (.ifCond .ne 5, 3) := by decide +kernel
theorem dX4_tryEmpty_24 : decode cX4_tryEmpty 24 = .ok (.iconst 0, 1) := by decide +kernel
theorem dX4_tryEmpty_25 : decode cX4_tryEmpty 25 = .ok (.ireturn, 1) := by decide +kernel
theorem dX4_tryEmpty_26 : decode cX4_tryEmpty 26 = .ok (.sipush 500, 3) := by decide +kernel
theorem dX4_tryEmpty_29 : decode cX4_tryEmpty 29 = .ok (.aload_n 0, 1) := by decide +kernel
theorem dX4_tryEmpty_30 : decode cX4_tryEmpty 30 = .ok (.aload_n 1, 1) := by decide +kernel
theorem dX4_tryEmpty_31 : decode cX4_tryEmpty 31 = .ok (.getfield 113, 3) := by decide +kernel
theorem dX4_tryEmpty_34 : decode cX4_tryEmpty 34 = .ok (.aload_n 1, 1) := by decide +kernel
theorem dX4_tryEmpty_35 : decode cX4_tryEmpty 35 = .ok (.getfield 116, 3) := by decide +kernel
theorem dX4_tryEmpty_38 : decode cX4_tryEmpty 38 = .ok (.invokevirtual 73, 3) := by decide +kernel
theorem dX4_tryEmpty_41 : decode cX4_tryEmpty 41 = .ok (.isub, 1) := by decide +kernel
theorem dX4_tryEmpty_42 : decode cX4_tryEmpty 42 = .ok (.istore_n 2, 1) := by decide +kernel
theorem dX4_tryEmpty_43 : decode cX4_tryEmpty 43 = .ok (.iload_n 2, 1) := by decide +kernel
theorem dX4_tryEmpty_44 : decode cX4_tryEmpty 44 = .ok (.aload_n 1, 1) := by decide +kernel
theorem dX4_tryEmpty_45 : decode cX4_tryEmpty 45 = .ok (.getfield 110, 3) := by decide +kernel
theorem dX4_tryEmpty_48 : decode cX4_tryEmpty 48 = .ok (.invokestatic 88, 3) := by decide +kernel
theorem dX4_tryEmpty_51 : decode cX4_tryEmpty 51 = .ok (.istore_n 3, 1) := by decide +kernel
theorem dX4_tryEmpty_52 : decode cX4_tryEmpty 52 = .ok (.aload_n 0, 1) := by decide +kernel
theorem dX4_tryEmpty_53 : decode cX4_tryEmpty 53 = .ok (.aload_n 1, 1) := by decide +kernel
theorem dX4_tryEmpty_54 : decode cX4_tryEmpty 54 = .ok (.getfield 113, 3) := by decide +kernel
theorem dX4_tryEmpty_57 : decode cX4_tryEmpty 57 = .ok (.aload_n 1, 1) := by decide +kernel
theorem dX4_tryEmpty_58 : decode cX4_tryEmpty 58 = .ok (.getfield 116, 3) := by decide +kernel
theorem dX4_tryEmpty_61 : decode cX4_tryEmpty 61 = .ok (.iload_n 3, 1) := by decide +kernel
theorem dX4_tryEmpty_62 : decode cX4_tryEmpty 62 = .ok (.invokevirtual 84, 3) := by decide +kernel
theorem dX4_tryEmpty_65 : decode cX4_tryEmpty 65 = .ok (.aload_n 0, 1) := by decide +kernel
theorem dX4_tryEmpty_66 : decode cX4_tryEmpty 66 = .ok (.dup, 1) := by decide +kernel
theorem dX4_tryEmpty_67 : decode cX4_tryEmpty 67 = .ok (.getfield 66, 3) := by decide +kernel
theorem dX4_tryEmpty_70 : decode cX4_tryEmpty 70 = .ok (.aload_n 1, 1) := by decide +kernel
theorem dX4_tryEmpty_71 : decode cX4_tryEmpty 71 = .ok (.getfield 110, 3) := by decide +kernel
theorem dX4_tryEmpty_74 : decode cX4_tryEmpty 74 = .ok (.iload_n 3, 1) := by decide +kernel
theorem dX4_tryEmpty_75 : decode cX4_tryEmpty 75 = .ok (.isub, 1) := by decide +kernel
theorem dX4_tryEmpty_76 : decode cX4_tryEmpty 76 = .ok (.iadd, 1) := by decide +kernel
theorem dX4_tryEmpty_77 : decode cX4_tryEmpty 77 = .ok (.putfield 66, 3) := by decide +kernel
theorem dX4_tryEmpty_80 : decode cX4_tryEmpty 80 = .ok (.aload_n 1, 1) := by decide +kernel
theorem dX4_tryEmpty_81 : decode cX4_tryEmpty 81 = .ok (.invokevirtual 174, 3) := by decide +kernel
theorem dX4_tryEmpty_84 : decode cX4_tryEmpty 84 = .ok (.iconst 1, 1) := by decide +kernel
theorem dX4_tryEmpty_85 : decode cX4_tryEmpty 85 = .ok (.ireturn, 1) := by decide +kernel
theorem dX4_tryScrew_0 : decode cX4_tryScrew 0 = .ok (.aload_n 0, 1) := by decide +kernel
theorem dX4_tryScrew_1 : decode cX4_tryScrew 1 = .ok (.aload_n 1, 1) := by decide +kernel
theorem dX4_tryScrew_2 : decode cX4_tryScrew 2 = .ok (.invokevirtual 142, 3) := by decide +kernel
theorem dX4_tryScrew_5 : decode cX4_tryScrew 5 = .ok (.ifCond .eq 28, 3) := by decide +kernel
theorem dX4_tryScrew_8 : decode cX4_tryScrew 8 = .ok (.aload_n 0, 1) := by decide +kernel
theorem dX4_tryScrew_9 : decode cX4_tryScrew 9 = .ok (.aload_n 1, 1) := by decide +kernel
theorem dX4_tryScrew_10 : decode cX4_tryScrew 10 = .ok (.invokevirtual 171, 3) := by decide +kernel
theorem dX4_tryScrew_13 : decode cX4_tryScrew 13 = .ok (.ifCond .eq 20, 3) := by decide +kernel
theorem dX4_tryScrew_16 : decode cX4_tryScrew 16 = .ok (.aload_n 0, 1) := by decide +kernel
theorem dX4_tryScrew_17 : decode cX4_tryScrew 17 = .ok (.iload_n 2, 1) := by decide +kernel
theorem dX4_tryScrew_18 : decode cX4_tryScrew 18 = .ok (.invokevirtual 177, 3) := by decide +kernel
theorem dX4_tryScrew_21 : decode cX4_tryScrew 21 = .ok (.ifCond .eq 12, 3) := by decide +kernel
theorem dX4_tryScrew_24 : decode cX4_tryScrew 24 = .ok (.aload_n 0, 1) := by decide +kernel
theorem dX4_tryScrew_25 : decode cX4_tryScrew 25 = .ok (.aload_n 1, 1) := by decide +kernel
theorem dX4_tryScrew_26 : decode cX4_tryScrew 26 = .ok (.iload_n 2, 1) := by decide +kernel
theorem dX4_tryScrew_27 : decode cX4_tryScrew 27 = .ok (.invokevirtual 180, 3) := by decide +kernel
theorem dX4_tryScrew_30 : decode cX4_tryScrew 30 = .ok (.ifCond .ne 5, 3) := by decide +kernel
theorem dX4_tryScrew_33 : decode cX4_tryScrew 33 = .ok (.iconst 0, 1) := by decide +kernel
theorem dX4_tryScrew_34 : decode cX4_tryScrew 34 = .ok (.ireturn, 1) := by decide +kernel
theorem dX4_tryScrew_35 : decode cX4_tryScrew 35 = .ok (.aload_n 0, 1) := by decide +kernel
theorem dX4_tryScrew_36 : decode cX4_tryScrew 36 = .ok (.dup, 1) := by decide +kernel
theorem dX4_tryScrew_37 : decode cX4_tryScrew 37 = .ok (.getfield 29, 3) := by decide +kernel
theorem dX4_tryScrew_40 : decode cX4_tryScrew 40 = .ok (.iload_n 2, 1) := by decide +kernel
theorem dX4_tryScrew_41 : decode cX4_tryScrew 41 = .ok (.isub, 1) := by decide +kernel
theorem dX4_tryScrew_42 : decode cX4_tryScrew 42 = .ok (.putfield 29, 3) := by decide +kernel
theorem dX4_tryScrew_45 : decode cX4_tryScrew 45 = .ok (.aload_n 1, 1) := by decide +kernel
theorem dX4_tryScrew_46 : decode cX4_tryScrew 46 = .ok (.dup, 1) := by decide +kernel
theorem dX4_tryScrew_47 : decode cX4_tryScrew 47 = .ok (.getfield 102, 3) := by decide +kernel
theorem dX4_tryScrew_50 : decode cX4_tryScrew 50 = .ok (.iload_n 2, 1) := by decide +kernel
theorem dX4_tryScrew_51 : decode cX4_tryScrew 51 = .ok (.iadd, 1) := by decide +kernel
theorem dX4_tryScrew_52 : decode cX4_tryScrew 52 = .ok (.putfield 102, 3) := by decide +kernel
theorem dX4_tryScrew_55 : decode cX4_tryScrew 55 = .ok (.iconst 1, 1) := by decide +kernel
theorem dX4_tryScrew_56 : decode cX4_tryScrew 56 = .ok (.ireturn, 1) := by decide +kernel
theorem dX4_tryUnscrew_0 : decode cX4_tryUnscrew 0 = .ok (.aload_n 0, 1) := by decide +kernel
theorem dX4_tryUnscrew_1 : decode cX4_tryUnscrew 1 = .ok (.aload_n 1, 1) := by decide +kernel
theorem dX4_tryUnscrew_2 : decode cX4_tryUnscrew 2 = .ok (.invokevirtual 142, 3) := by decide +kernel
theorem dX4_tryUnscrew_5 : decode cX4_tryUnscrew 5 = .ok (.ifCond .ne 5, 3) := by decide +kernel
theorem dX4_tryUnscrew_8 : decode cX4_tryUnscrew 8 = .ok (.iconst 0, 1) := by decide +kernel
theorem dX4_tryUnscrew_9 : decode cX4_tryUnscrew 9 = .ok (.ireturn, 1) := by decide +kernel
theorem dX4_tryUnscrew_10 : decode cX4_tryUnscrew 10 = .ok (.aload_n 0, 1) := by decide +kernel
theorem dX4_tryUnscrew_11 : decode cX4_tryUnscrew 11 = .ok (.aload_n 1, 1) := by decide +kernel
theorem dX4_tryUnscrew_12 : decode cX4_tryUnscrew 12 = .ok (.getfield 102, 3) := by decide +kernel
theorem dX4_tryUnscrew_15 : decode cX4_tryUnscrew 15 = .ok (.invokevirtual 183, 3) := by decide +kernel
theorem dX4_tryUnscrew_18 : decode cX4_tryUnscrew 18 = .ok (.aload_n 1, 1) := by decide +kernel
theorem dX4_tryUnscrew_19 : decode cX4_tryUnscrew 19 = .ok (.iconst 0, 1) := by decide +kernel
theorem dX4_tryUnscrew_20 : decode cX4_tryUnscrew 20 = .ok (.putfield 102, 3) := by decide +kernel
theorem dX4_tryUnscrew_23 : decode cX4_tryUnscrew 23 = .ok (.iconst 1, 1) := by decide +kernel
theorem dX4_tryUnscrew_24 : decode cX4_tryUnscrew 24 = .ok (.ireturn, 1) := by decide +kernel
theorem dX4_tryLabel_0 : decode cX4_tryLabel 0 = .ok (.aload_n 0, 1) := by decide +kernel
theorem dX4_tryLabel_1 : decode cX4_tryLabel 1 = .ok (.aload_n 1, 1) := by decide +kernel
theorem dX4_tryLabel_2 : decode cX4_tryLabel 2 = .ok (.invokevirtual 142, 3) := by decide +kernel
theorem dX4_tryLabel_5 : decode cX4_tryLabel 5 = .ok (.ifCond .eq 11, 3) := by decide +kernel
theorem dX4_tryLabel_8 : decode cX4_tryLabel 8 = .ok (.aload_n 0, 1) := by decide +kernel
theorem dX4_tryLabel_9 : decode cX4_tryLabel 9 = .ok (.aload_n 1, 1) := by decide +kernel
theorem dX4_tryLabel_10 : decode cX4_tryLabel 10 = .ok (.invokevirtual 171, 3) := by decide +kernel
theorem dX4_tryLabel_13 : decode cX4_tryLabel 13 = .ok (.ifCond .ne 5, 3) := by decide +kernel
theorem dX4_tryLabel_16 : decode cX4_tryLabel 16 = .ok (.iconst 0, 1) := by decide +kernel
theorem dX4_tryLabel_17 : decode cX4_tryLabel 17 = .ok (.ireturn, 1) := by decide +kernel
theorem dX4_tryLabel_18 : decode cX4_tryLabel 18 = .ok (.aload_n 1, 1) := by decide +kernel
theorem dX4_tryLabel_19 : decode cX4_tryLabel 19 = .ok (.invokevirtual 186, 3) := by decide +kernel
theorem dX4_tryLabel_22 : decode cX4_tryLabel 22 = .ok (.iconst 1, 1) := by decide +kernel
theorem dX4_tryLabel_23 : decode cX4_tryLabel 23 = .ok (.ireturn, 1) := by decide +kernel
theorem dX4_chestAtPlace_0 : decode cX4_chestAtPlace 0 = .ok (.aload_n 0, 1) := by decide +kernel
theorem dX4_chestAtPlace_1 : decode cX4_chestAtPlace 1 = .ok (.getfield 21, 3) := by decide +kernel
theorem dX4_chestAtPlace_4 : decode cX4_chestAtPlace 4 = .ok (.astore_n 2, 1) := by decide +kernel
theorem dX4_chestAtPlace_5 : decode cX4_chestAtPlace 5 = .ok (.aload_n 2, 1) := by decide +kernel
theorem dX4_chestAtPlace_6 : decode cX4_chestAtPlace 6 = .ok (.arraylength, 1) := by decide +kernel
theorem dX4_chestAtPlace_7 : decode cX4_chestAtPlace 7 = .ok (.istore_n 3, 1) := by decide +kernel
theorem dX4_chestAtPlace_8 : decode cX4_chestAtPlace 8 = .ok (.iconst 0, 1) := by decide +kernel
theorem dX4_chestAtPlace_9 : decode cX4_chestAtPlace 9 = .ok (.istore 4, 2) := by decide +kernel
theorem dX4_chestAtPlace_11 : decode cX4_chestAtPlace 11 = .ok (.iload 4, 2) := by decide +kernel
theorem dX4_chestAtPlace_13 : decode cX4_chestAtPlace 13 = .ok (.iload_n 3, 1) := by decide +kernel
theorem dX4_chestAtPlace_14 : decode cX4_chestAtPlace 14 = .ok (.if_icmp .ge 39, 3) := by decide +kernel
theorem dX4_chestAtPlace_17 : decode cX4_chestAtPlace 17 = .ok (.aload_n 2, 1) := by decide +kernel
theorem dX4_chestAtPlace_18 : decode cX4_chestAtPlace 18 = .ok (.iload 4, 2) := by decide +kernel
theorem dX4_chestAtPlace_20 : decode cX4_chestAtPlace 20 = .ok (.aaload, 1) := by decide +kernel
theorem dX4_chestAtPlace_21 : decode cX4_chestAtPlace 21 = .ok (.astore 5, 2) := by decide +kernel
theorem dX4_chestAtPlace_23 : decode cX4_chestAtPlace 23 = .ok (.aload 5, 2) := by decide +kernel
theorem dX4_chestAtPlace_25 : decode cX4_chestAtPlace 25 = .ok (.invokevirtual 189, 3) := by decide +kernel
theorem dX4_chestAtPlace_28 : decode cX4_chestAtPlace 28 = .ok (.ifCond .eq 19, 3) := by decide +kernel
theorem dX4_chestAtPlace_31 : decode cX4_chestAtPlace 31 = .ok (.aload_n 0, 1) := by decide +kernel
theorem dX4_chestAtPlace_32 : decode cX4_chestAtPlace 32 = .ok (.aload 5, 2) := by decide +kernel
theorem dX4_chestAtPlace_34 : decode cX4_chestAtPlace 34 = .ok (.invokevirtual 192, 3) := by decide +kernel
theorem dX4_chestAtPlace_37 : decode cX4_chestAtPlace 37 = .ok (.iload_n 1, 1) := by decide +kernel
theorem dX4_chestAtPlace_38 : decode cX4_chestAtPlace 38 = .ok (.if_icmp .ne 9, 3) := by decide +kernel
theorem dX4_chestAtPlace_41 : decode cX4_chestAtPlace 41 = .ok (.aload 5, 2) := by decide +kernel
theorem dX4_chestAtPlace_43 : decode cX4_chestAtPlace 43 = .ok (.getfield 123, 3) := by decide +kernel
theorem dX4_chestAtPlace_46 : decode cX4_chestAtPlace 46 = .ok (.ireturn, 1) := by decide +kernel
theorem dX4_chestAtPlace_47 : decode cX4_chestAtPlace 47 = .ok (.iinc 4 1, 3) := by decide +kernel
theorem dX4_chestAtPlace_50 : decode cX4_chestAtPlace 50 = .ok (.goto (-39), 3) := by decide +kernel
theorem dX4_chestAtPlace_53 : decode cX4_chestAtPlace 53 = .ok (.iconst (-1), 1) := by decide +kernel
theorem dX4_chestAtPlace_54 : decode cX4_chestAtPlace 54 = .ok (.ireturn, 1) := by decide +kernel
theorem dX4_placeOf_0 : decode cX4_placeOf 0 = .ok (.iconst 0, 1) := by decide +kernel
theorem dX4_placeOf_1 : decode cX4_placeOf 1 = .ok (.istore_n 2, 1) := by decide +kernel
theorem dX4_placeOf_2 : decode cX4_placeOf 2 = .ok (.aload_n 0, 1) := by decide +kernel
theorem dX4_placeOf_3 : decode cX4_placeOf 3 = .ok (.getfield 21, 3) := by decide +kernel
theorem dX4_placeOf_6 : decode cX4_placeOf 6 = .ok (.astore_n 3, 1) := by decide +kernel
theorem dX4_placeOf_7 : decode cX4_placeOf 7 = .ok (.aload_n 3, 1) := by decide +kernel
theorem dX4_placeOf_8 : decode cX4_placeOf 8 = .ok (.arraylength, 1) := by decide +kernel
theorem dX4_placeOf_9 : decode cX4_placeOf 9 = .ok (.istore 4, 2) := by decide +kernel
theorem dX4_placeOf_11 : decode cX4_placeOf 11 = .ok (.iconst 0, 1) := by decide +kernel
theorem dX4_placeOf_12 : decode cX4_placeOf 12 = .ok (.istore 5, 2) := by decide +kernel
theorem dX4_placeOf_14 : decode cX4_placeOf 14 = .ok (.iload 5, 2) := by decide +kernel
theorem dX4_placeOf_16 : decode cX4_placeOf 16 = .ok (.iload 4, 2) := by decide +kernel
theorem dX4_placeOf_18 : decode cX4_placeOf 18 = .ok (.if_icmp .ge 35, 3) := by decide +kernel
theorem dX4_placeOf_21 : decode cX4_placeOf 21 = .ok (.aload_n 3, 1) := by decide +kernel
theorem dX4_placeOf_22 : decode cX4_placeOf 22 = .ok (.iload 5, 2) := by decide +kernel
theorem dX4_placeOf_24 : decode cX4_placeOf 24 = .ok (.aaload, 1) := by decide +kernel
theorem dX4_placeOf_25 : decode cX4_placeOf 25 = .ok (.astore 6, 2) := by decide +kernel
theorem dX4_placeOf_27 : decode cX4_placeOf 27 = .ok (.aload 6, 2) := by decide +kernel
theorem dX4_placeOf_29 : decode cX4_placeOf 29 = .ok (.invokevirtual 189, 3) := by decide +kernel
theorem dX4_placeOf_32 : decode cX4_placeOf 32 = .ok (.ifCond .eq 15, 3) := by decide +kernel
theorem dX4_placeOf_35 : decode cX4_placeOf 35 = .ok (.aload 6, 2) := by decide +kernel
theorem dX4_placeOf_37 : decode cX4_placeOf 37 = .ok (.aload_n 1, 1) := by decide +kernel
theorem dX4_placeOf_38 : decode cX4_placeOf 38 = .ok (.invokevirtual 196, 3) := by decide +kernel
theorem dX4_placeOf_41 : decode cX4_placeOf 41 = .ok (.ifCond .eq 6, 3) := by decide +kernel
theorem dX4_placeOf_44 : decode cX4_placeOf 44 = .ok (.iinc 2 1, 3) := by decide +kernel
theorem dX4_placeOf_47 : decode cX4_placeOf 47 = .ok (.iinc 5 1, 3) := by decide +kernel
theorem dX4_placeOf_50 : decode cX4_placeOf 50 = .ok (.goto (-36), 3) := by decide +kernel
theorem dX4_placeOf_53 : decode cX4_placeOf 53 = .ok (.iload_n 2, 1) := by decide +kernel
theorem dX4_placeOf_54 : decode cX4_placeOf 54 = .ok (.ireturn, 1) := by decide +kernel
theorem dX4_chestsAt_0 : decode cX4_chestsAt 0 = .ok (.iconst 0, 1) := by decide +kernel
theorem dX4_chestsAt_1 : decode cX4_chestsAt 1 = .ok (.istore_n 2, 1) := by decide +kernel
theorem dX4_chestsAt_2 : decode cX4_chestsAt 2 = .ok (.aload_n 0, 1) := by decide +kernel
theorem dX4_chestsAt_3 : decode cX4_chestsAt 3 = .ok (.getfield 21, 3) := by decide +kernel
theorem dX4_chestsAt_6 : decode cX4_chestsAt 6 = .ok (.astore_n 3, 1) := by decide +kernel
theorem dX4_chestsAt_7 : decode cX4_chestsAt 7 = .ok (.aload_n 3, 1) := by decide +kernel
theorem dX4_chestsAt_8 : decode cX4_chestsAt 8 = .ok (.arraylength, 1) := by decide +kernel
theorem dX4_chestsAt_9 : decode cX4_chestsAt 9 = .ok (.istore 4, 2) := by decide +kernel
theorem dX4_chestsAt_11 : decode cX4_chestsAt 11 = .ok (.iconst 0, 1) := by decide +kernel
theorem dX4_chestsAt_12 : decode cX4_chestsAt 12 = .ok (.istore 5, 2) := by decide +kernel
theorem dX4_chestsAt_14 : decode cX4_chestsAt 14 = .ok (.iload 5, 2) := by decide +kernel
theorem dX4_chestsAt_16 : decode cX4_chestsAt 16 = .ok (.iload 4, 2) := by decide +kernel
theorem dX4_chestsAt_18 : decode cX4_chestsAt 18 = .ok (.if_icmp .ge 27, 3) := by decide +kernel
theorem dX4_chestsAt_21 : decode cX4_chestsAt 21 = .ok (.aload_n 3, 1) := by decide +kernel
theorem dX4_chestsAt_22 : decode cX4_chestsAt 22 = .ok (.iload 5, 2) := by decide +kernel
theorem dX4_chestsAt_24 : decode cX4_chestsAt 24 = .ok (.aaload, 1) := by decide +kernel
theorem dX4_chestsAt_25 : decode cX4_chestsAt 25 = .ok (.astore 6, 2) := by decide +kernel
theorem dX4_chestsAt_27 : decode cX4_chestsAt 27 = .ok (.aload 6, 2) := by decide +kernel
theorem dX4_chestsAt_29 : decode cX4_chestsAt 29 = .ok (.getfield 99, 3) := by decide +kernel
theorem dX4_chestsAt_32 : decode cX4_chestsAt 32 = .ok (.iload_n 1, 1) := by decide +kernel
theorem dX4_chestsAt_33 : decode cX4_chestsAt 33 = .ok (.if_icmp .ne 6, 3) := by decide +kernel
theorem dX4_chestsAt_36 : decode cX4_chestsAt 36 = .ok (.iinc 2 1, 3) := by decide +kernel
theorem dX4_chestsAt_39 : decode cX4_chestsAt 39 = .ok (.iinc 5 1, 3) := by decide +kernel
theorem dX4_chestsAt_42 : decode cX4_chestsAt 42 = .ok (.goto (-28), 3) := by decide +kernel
theorem dX4_chestsAt_45 : decode cX4_chestsAt 45 = .ok (.iload_n 2, 1) := by decide +kernel
theorem dX4_chestsAt_46 : decode cX4_chestsAt 46 = .ok (.ireturn, 1) := by decide +kernel
theorem dX4_poundsInChests_0 : decode cX4_poundsInChests 0 = .ok (.iconst 0, 1) := by decide +kernel
theorem dX4_poundsInChests_1 : decode cX4_poundsInChests 1 = .ok (.istore_n 1, 1) := by decide +kernel
theorem dX4_poundsInChests_2 : decode cX4_poundsInChests 2 = .ok (.aload_n 0, 1) := by decide +kernel
theorem dX4_poundsInChests_3 : decode cX4_poundsInChests 3 = .ok (.getfield 21, 3) := by decide +kernel
theorem dX4_poundsInChests_6 : decode cX4_poundsInChests 6 = .ok (.astore_n 2, 1) := by decide +kernel
theorem dX4_poundsInChests_7 : decode cX4_poundsInChests 7 = .ok (.aload_n 2, 1) := by decide +kernel
theorem dX4_poundsInChests_8 : decode cX4_poundsInChests 8 = .ok (.arraylength, 1) := by decide +kernel
theorem dX4_poundsInChests_9 : decode cX4_poundsInChests 9 = .ok (.istore_n 3, 1) := by decide +kernel
theorem dX4_poundsInChests_10 : decode cX4_poundsInChests 10 = .ok (.iconst 0, 1) := by decide +kernel
theorem dX4_poundsInChests_11 : decode cX4_poundsInChests 11 = .ok (.istore 4, 2) := by decide +kernel
theorem dX4_poundsInChests_13 : decode cX4_poundsInChests 13 = .ok (.iload 4, 2) := by decide +kernel
theorem dX4_poundsInChests_15 : decode cX4_poundsInChests 15 = .ok (.iload_n 3, 1) := by decide +kernel
theorem dX4_poundsInChests_16 : decode cX4_poundsInChests 16 = .ok (.if_icmp .ge 31, 3) := by decide +kernel
theorem dX4_poundsInChests_19 : decode cX4_poundsInChests 19 = .ok (.aload_n 2, 1) := by decide +kernel
theorem dX4_poundsInChests_20 : decode cX4_poundsInChests 20 = .ok (.iload 4, 2) := by decide +kernel
theorem dX4_poundsInChests_22 : decode cX4_poundsInChests 22 = .ok (.aaload, 1) := by decide +kernel
theorem dX4_poundsInChests_23 : decode cX4_poundsInChests 23 = .ok (.astore 5, 2) := by decide +kernel
theorem dX4_poundsInChests_25 : decode cX4_poundsInChests 25 = .ok (.aload 5, 2) := by decide +kernel
theorem dX4_poundsInChests_27 : decode cX4_poundsInChests 27 = .ok (.invokevirtual 189, 3) := by decide +kernel
theorem dX4_poundsInChests_30 : decode cX4_poundsInChests 30 = .ok (.ifCond .eq 11, 3) := by decide +kernel
theorem dX4_poundsInChests_33 : decode cX4_poundsInChests 33 = .ok (.iload_n 1, 1) := by decide +kernel
theorem dX4_poundsInChests_34 : decode cX4_poundsInChests 34 = .ok (.aload 5, 2) := by decide +kernel
theorem dX4_poundsInChests_36 : decode cX4_poundsInChests 36 = .ok (.getfield 110, 3) := by decide +kernel
theorem dX4_poundsInChests_39 : decode cX4_poundsInChests 39 = .ok (.iadd, 1) := by decide +kernel
theorem dX4_poundsInChests_40 : decode cX4_poundsInChests 40 = .ok (.istore_n 1, 1) := by decide +kernel
theorem dX4_poundsInChests_41 : decode cX4_poundsInChests 41 = .ok (.iinc 4 1, 3) := by decide +kernel
theorem dX4_poundsInChests_44 : decode cX4_poundsInChests 44 = .ok (.goto (-31), 3) := by decide +kernel
theorem dX4_poundsInChests_47 : decode cX4_poundsInChests 47 = .ok (.iload_n 1, 1) := by decide +kernel
theorem dX4_poundsInChests_48 : decode cX4_poundsInChests 48 = .ok (.ireturn, 1) := by decide +kernel
theorem dX4_filledChests_0 : decode cX4_filledChests 0 = .ok (.iconst 0, 1) := by decide +kernel
theorem dX4_filledChests_1 : decode cX4_filledChests 1 = .ok (.istore_n 1, 1) := by decide +kernel
theorem dX4_filledChests_2 : decode cX4_filledChests 2 = .ok (.aload_n 0, 1) := by decide +kernel
theorem dX4_filledChests_3 : decode cX4_filledChests 3 = .ok (.getfield 21, 3) := by decide +kernel
theorem dX4_filledChests_6 : decode cX4_filledChests 6 = .ok (.astore_n 2, 1) := by decide +kernel
theorem dX4_filledChests_7 : decode cX4_filledChests 7 = .ok (.aload_n 2, 1) := by decide +kernel
theorem dX4_filledChests_8 : decode cX4_filledChests 8 = .ok (.arraylength, 1) := by decide +kernel
theorem dX4_filledChests_9 : decode cX4_filledChests 9 = .ok (.istore_n 3, 1) := by decide +kernel
theorem dX4_filledChests_10 : decode cX4_filledChests 10 = .ok (.iconst 0, 1) := by decide +kernel
theorem dX4_filledChests_11 : decode cX4_filledChests 11 = .ok (.istore 4, 2) := by decide +kernel
theorem dX4_filledChests_13 : decode cX4_filledChests 13 = .ok (.iload 4, 2) := by decide +kernel
theorem dX4_filledChests_15 : decode cX4_filledChests 15 = .ok (.iload_n 3, 1) := by decide +kernel
theorem dX4_filledChests_16 : decode cX4_filledChests 16 = .ok (.if_icmp .ge 34, 3) := by decide +kernel
theorem dX4_filledChests_19 : decode cX4_filledChests 19 = .ok (.aload_n 2, 1) := by decide +kernel
theorem dX4_filledChests_20 : decode cX4_filledChests 20 = .ok (.iload 4, 2) := by decide +kernel
theorem dX4_filledChests_22 : decode cX4_filledChests 22 = .ok (.aaload, 1) := by decide +kernel
theorem dX4_filledChests_23 : decode cX4_filledChests 23 = .ok (.astore 5, 2) := by decide +kernel
theorem dX4_filledChests_25 : decode cX4_filledChests 25 = .ok (.aload 5, 2) := by decide +kernel
theorem dX4_filledChests_27 : decode cX4_filledChests 27 = .ok (.invokevirtual 189, 3) := by decide +kernel
theorem dX4_filledChests_30 : decode cX4_filledChests 30 = .ok (.ifCond .eq 14, 3) := by decide +kernel
theorem dX4_filledChests_33 : decode cX4_filledChests 33 = .ok (.aload 5, 2) := by decide +kernel
theorem dX4_filledChests_35 : decode cX4_filledChests 35 = .ok (.getfield 110, 3) := by decide +kernel
theorem dX4_filledChests_38 : decode cX4_filledChests 38 = .ok (.ifCond .le 6, 3) := by decide +kernel
theorem dX4_filledChests_41 : decode cX4_filledChests 41 = .ok (.iinc 1 1, 3) := by decide +kernel
theorem dX4_filledChests_44 : decode cX4_filledChests 44 = .ok (.iinc 4 1, 3) := by decide +kernel
theorem dX4_filledChests_47 : decode cX4_filledChests 47 = .ok (.goto (-34), 3) := by decide +kernel
theorem dX4_filledChests_50 : decode cX4_filledChests 50 = .ok (.iload_n 1, 1) := by decide +kernel
theorem dX4_filledChests_51 : decode cX4_filledChests 51 = .ok (.ireturn, 1) := by decide +kernel
theorem dX4_sumOfDamp_0 : decode cX4_sumOfDamp 0 = .ok (.iconst 0, 1) := by decide +kernel
theorem dX4_sumOfDamp_1 : decode cX4_sumOfDamp 1 = .ok (.istore_n 1, 1) := by decide +kernel
theorem dX4_sumOfDamp_2 : decode cX4_sumOfDamp 2 = .ok (.aload_n 0, 1) := by decide +kernel
theorem dX4_sumOfDamp_3 : decode cX4_sumOfDamp 3 = .ok (.getfield 21, 3) := by decide +kernel
theorem dX4_sumOfDamp_6 : decode cX4_sumOfDamp 6 = .ok (.astore_n 2, 1) := by decide +kernel
theorem dX4_sumOfDamp_7 : decode cX4_sumOfDamp 7 = .ok (.aload_n 2, 1) := by decide +kernel
theorem dX4_sumOfDamp_8 : decode cX4_sumOfDamp 8 = .ok (.arraylength, 1) := by decide +kernel
theorem dX4_sumOfDamp_9 : decode cX4_sumOfDamp 9 = .ok (.istore_n 3, 1) := by decide +kernel
theorem dX4_sumOfDamp_10 : decode cX4_sumOfDamp 10 = .ok (.iconst 0, 1) := by decide +kernel
theorem dX4_sumOfDamp_11 : decode cX4_sumOfDamp 11 = .ok (.istore 4, 2) := by decide +kernel
theorem dX4_sumOfDamp_13 : decode cX4_sumOfDamp 13 = .ok (.iload 4, 2) := by decide +kernel
theorem dX4_sumOfDamp_15 : decode cX4_sumOfDamp 15 = .ok (.iload_n 3, 1) := by decide +kernel
theorem dX4_sumOfDamp_16 : decode cX4_sumOfDamp 16 = .ok (.if_icmp .ge 31, 3) := by decide +kernel
theorem dX4_sumOfDamp_19 : decode cX4_sumOfDamp 19 = .ok (.aload_n 2, 1) := by decide +kernel
theorem dX4_sumOfDamp_20 : decode cX4_sumOfDamp 20 = .ok (.iload 4, 2) := by decide +kernel
theorem dX4_sumOfDamp_22 : decode cX4_sumOfDamp 22 = .ok (.aaload, 1) := by decide +kernel
theorem dX4_sumOfDamp_23 : decode cX4_sumOfDamp 23 = .ok (.astore 5, 2) := by decide +kernel
theorem dX4_sumOfDamp_25 : decode cX4_sumOfDamp 25 = .ok (.aload 5, 2) := by decide +kernel
theorem dX4_sumOfDamp_27 : decode cX4_sumOfDamp 27 = .ok (.invokevirtual 189, 3) := by decide +kernel
theorem dX4_sumOfDamp_30 : decode cX4_sumOfDamp 30 = .ok (.ifCond .eq 11, 3) := by decide +kernel
theorem dX4_sumOfDamp_33 : decode cX4_sumOfDamp 33 = .ok (.iload_n 1, 1) := by decide +kernel
theorem dX4_sumOfDamp_34 : decode cX4_sumOfDamp 34 = .ok (.aload 5, 2) := by decide +kernel
theorem dX4_sumOfDamp_36 : decode cX4_sumOfDamp 36 = .ok (.getfield 199, 3) := by decide +kernel
theorem dX4_sumOfDamp_39 : decode cX4_sumOfDamp 39 = .ok (.iadd, 1) := by decide +kernel
theorem dX4_sumOfDamp_40 : decode cX4_sumOfDamp 40 = .ok (.istore_n 1, 1) := by decide +kernel
theorem dX4_sumOfDamp_41 : decode cX4_sumOfDamp 41 = .ok (.iinc 4 1, 3) := by decide +kernel
theorem dX4_sumOfDamp_44 : decode cX4_sumOfDamp 44 = .ok (.goto (-31), 3) := by decide +kernel
theorem dX4_sumOfDamp_47 : decode cX4_sumOfDamp 47 = .ok (.iload_n 1, 1) := by decide +kernel
theorem dX4_sumOfDamp_48 : decode cX4_sumOfDamp 48 = .ok (.ireturn, 1) := by decide +kernel
theorem dX4_tryToQuay_0 : decode cX4_tryToQuay 0 = .ok (.aload_n 0, 1) := by decide +kernel
theorem dX4_tryToQuay_1 : decode cX4_tryToQuay 1 = .ok (.aload_n 1, 1) := by decide +kernel
theorem dX4_tryToQuay_2 : decode cX4_tryToQuay 2 = .ok (.invokevirtual 142, 3) := by decide +kernel
theorem dX4_tryToQuay_5 : decode cX4_tryToQuay 5 = .ok (.ifCond .eq 19, 3) := by decide +kernel
theorem dX4_tryToQuay_8 : decode cX4_tryToQuay 8 = .ok (.aload_n 0, 1) := by decide +kernel
theorem dX4_tryToQuay_9 : decode cX4_tryToQuay 9 = .ok (.aload_n 1, 1) := by decide +kernel
theorem dX4_tryToQuay_10 : decode cX4_tryToQuay 10 = .ok (.invokevirtual 171, 3) := by decide +kernel
theorem dX4_tryToQuay_13 : decode cX4_tryToQuay 13 = .ok (.ifCond .eq 11, 3) := by decide +kernel
theorem dX4_tryToQuay_16 : decode cX4_tryToQuay 16 = .ok (.aload_n 0, 1) := by decide +kernel
theorem dX4_tryToQuay_17 : decode cX4_tryToQuay 17 = .ok (.aload_n 1, 1) := by decide +kernel
theorem dX4_tryToQuay_18 : decode cX4_tryToQuay 18 = .ok (.invokevirtual 202, 3) := by decide +kernel
theorem dX4_tryToQuay_21 : decode cX4_tryToQuay 21 = .ok (.ifCond .ne 5, 3) := by decide +kernel
theorem dX4_tryToQuay_24 : decode cX4_tryToQuay 24 = .ok (.iconst 0, 1) := by decide +kernel
theorem dX4_tryToQuay_25 : decode cX4_tryToQuay 25 = .ok (.ireturn, 1) := by decide +kernel
theorem dX4_tryToQuay_26 : decode cX4_tryToQuay 26 = .ok (.aload_n 1, 1) := by decide +kernel
theorem dX4_tryToQuay_27 : decode cX4_tryToQuay 27 = .ok (.iconst 1, 1) := by decide +kernel
theorem dX4_tryToQuay_28 : decode cX4_tryToQuay 28 = .ok (.putfield 99, 3) := by decide +kernel
theorem dX4_tryToQuay_31 : decode cX4_tryToQuay 31 = .ok (.iconst 1, 1) := by decide +kernel
theorem dX4_tryToQuay_32 : decode cX4_tryToQuay 32 = .ok (.ireturn, 1) := by decide +kernel
theorem dX4_tryLoad_0 : decode cX4_tryLoad 0 = .ok (.aload_n 0, 1) := by decide +kernel
theorem dX4_tryLoad_1 : decode cX4_tryLoad 1 = .ok (.aload_n 1, 1) := by decide +kernel
theorem dX4_tryLoad_2 : decode cX4_tryLoad 2 = .ok (.invokevirtual 205, 3) := by decide +kernel
theorem dX4_tryLoad_5 : decode cX4_tryLoad 5 = .ok (.ifCond .eq 21, 3) := by decide +kernel
theorem dX4_tryLoad_8 : decode cX4_tryLoad 8 = .ok (.aload_n 0, 1) := by decide +kernel
theorem dX4_tryLoad_9 : decode cX4_tryLoad 9 = .ok (.invokevirtual 208, 3) := by decide +kernel
theorem dX4_tryLoad_12 : decode cX4_tryLoad 12 = .ok (.ifCond .eq 14, 3) := by decide +kernel
theorem dX4_tryLoad_15 : decode cX4_tryLoad 15 = .ok (.aload_n 0, 1) := by decide +kernel
theorem dX4_tryLoad_16 : decode cX4_tryLoad 16 = .ok (.aload_n 1, 1) := by decide +kernel
theorem dX4_tryLoad_17 : decode cX4_tryLoad 17 = .ok (.getfield 107, 3) := by decide +kernel
theorem dX4_tryLoad_20 : decode cX4_tryLoad 20 = .ok (.invokevirtual 211, 3) := by decide +kernel
theorem dX4_tryLoad_23 : decode cX4_tryLoad 23 = .ok (.ifCond .ne 5, 3) := by decide +kernel
theorem dX4_tryLoad_26 : decode cX4_tryLoad 26 = .ok (.iconst 0, 1) := by decide +kernel
theorem dX4_tryLoad_27 : decode cX4_tryLoad 27 = .ok (.ireturn, 1) := by decide +kernel
theorem dX4_tryLoad_28 : decode cX4_tryLoad 28 = .ok (.aload_n 1, 1) := by decide +kernel
theorem dX4_tryLoad_29 : decode cX4_tryLoad 29 = .ok (.iconst 2, 1) := by decide +kernel
theorem dX4_tryLoad_30 : decode cX4_tryLoad 30 = .ok (.putfield 99, 3) := by decide +kernel
theorem dX4_tryLoad_33 : decode cX4_tryLoad 33 = .ok (.iconst 1, 1) := by decide +kernel
theorem dX4_tryLoad_34 : decode cX4_tryLoad 34 = .ok (.ireturn, 1) := by decide +kernel
theorem dX4_trySail_0 : decode cX4_trySail 0 = .ok (.aload_n 0, 1) := by decide +kernel
theorem dX4_trySail_1 : decode cX4_trySail 1 = .ok (.invokevirtual 208, 3) := by decide +kernel
theorem dX4_trySail_4 : decode cX4_trySail 4 = .ok (.ifCond .eq 10, 3) := by decide +kernel
theorem dX4_trySail_7 : decode cX4_trySail 7 = .ok (.aload_n 0, 1) := by decide +kernel
theorem dX4_trySail_8 : decode cX4_trySail 8 = .ok (.invokevirtual 214, 3) := by decide +kernel
theorem dX4_trySail_11 : decode cX4_trySail 11 = .ok (.ifCond .ne 5, 3) := by decide +kernel
theorem dX4_trySail_14 : decode cX4_trySail 14 = .ok (.iconst 0, 1) := by decide +kernel
theorem dX4_trySail_15 : decode cX4_trySail 15 = .ok (.ireturn, 1) := by decide +kernel
theorem dX4_trySail_16 : decode cX4_trySail 16 = .ok (.aload_n 0, 1) := by decide +kernel
theorem dX4_trySail_17 : decode cX4_trySail 17 = .ok (.dup, 1) := by decide +kernel
theorem dX4_trySail_18 : decode cX4_trySail 18 = .ok (.getfield 54, 3) := by decide +kernel
theorem dX4_trySail_21 : decode cX4_trySail 21 = .ok (.aload_n 0, 1) := by decide +kernel
theorem dX4_trySail_22 : decode cX4_trySail 22 = .ok (.invokevirtual 217, 3) := by decide +kernel
theorem dX4_trySail_25 : decode cX4_trySail 25 = .ok (.iadd, 1) := by decide +kernel
theorem dX4_trySail_26 : decode cX4_trySail 26 = .ok (.putfield 54, 3) := by decide +kernel
theorem dX4_trySail_29 : decode cX4_trySail 29 = .ok (.aload_n 0, 1) := by decide +kernel
theorem dX4_trySail_30 : decode cX4_trySail 30 = .ok (.getfield 21, 3) := by decide +kernel
theorem dX4_trySail_33 : decode cX4_trySail 33 = .ok (.astore_n 1, 1) := by decide +kernel
theorem dX4_trySail_34 : decode cX4_trySail 34 = .ok (.aload_n 1, 1) := by decide +kernel
theorem dX4_trySail_35 : decode cX4_trySail 35 = .ok (.arraylength, 1) := by decide +kernel
theorem dX4_trySail_36 : decode cX4_trySail 36 = .ok (.istore_n 2, 1) := by decide +kernel
theorem dX4_trySail_37 : decode cX4_trySail 37 = .ok (.iconst 0, 1) := by decide +kernel
theorem dX4_trySail_38 : decode cX4_trySail 38 = .ok (.istore_n 3, 1) := by decide +kernel
theorem dX4_trySail_39 : decode cX4_trySail 39 = .ok (.iload_n 3, 1) := by decide +kernel
theorem dX4_trySail_40 : decode cX4_trySail 40 = .ok (.iload_n 2, 1) := by decide +kernel
theorem dX4_trySail_41 : decode cX4_trySail 41 = .ok (.if_icmp .ge 43, 3) := by decide +kernel
theorem dX4_trySail_44 : decode cX4_trySail 44 = .ok (.aload_n 1, 1) := by decide +kernel
theorem dX4_trySail_45 : decode cX4_trySail 45 = .ok (.iload_n 3, 1) := by decide +kernel
theorem dX4_trySail_46 : decode cX4_trySail 46 = .ok (.aaload, 1) := by decide +kernel
theorem dX4_trySail_47 : decode cX4_trySail 47 = .ok (.astore 4, 2) := by decide +kernel
theorem dX4_trySail_49 : decode cX4_trySail 49 = .ok (.aload 4, 2) := by decide +kernel
theorem dX4_trySail_51 : decode cX4_trySail 51 = .ok (.getfield 99, 3) := by decide +kernel
theorem dX4_trySail_54 : decode cX4_trySail 54 = .ok (.iconst 2, 1) := by decide +kernel
theorem dX4_trySail_55 : decode cX4_trySail 55 = .ok (.if_icmp .ne 23, 3) := by decide +kernel
theorem dX4_trySail_58 : decode cX4_trySail 58 = .ok (.aload 4, 2) := by decide +kernel
theorem dX4_trySail_60 : decode cX4_trySail 60 = .ok (.iconst 3, 1) := by decide +kernel
theorem dX4_trySail_61 : decode cX4_trySail 61 = .ok (.putfield 99, 3) := by decide +kernel
theorem dX4_trySail_64 : decode cX4_trySail 64 = .ok (.aload_n 0, 1) := by decide +kernel
theorem dX4_trySail_65 : decode cX4_trySail 65 = .ok (.dup, 1) := by decide +kernel
theorem dX4_trySail_66 : decode cX4_trySail 66 = .ok (.getfield 63, 3) := by decide +kernel
theorem dX4_trySail_69 : decode cX4_trySail 69 = .ok (.aload 4, 2) := by decide +kernel
theorem dX4_trySail_71 : decode cX4_trySail 71 = .ok (.getfield 110, 3) := by decide +kernel
theorem dX4_trySail_74 : decode cX4_trySail 74 = .ok (.iadd, 1) := by decide +kernel
theorem dX4_trySail_75 : decode cX4_trySail 75 = .ok (.putfield 63, 3) := by decide +kernel
theorem dX4_trySail_78 : decode cX4_trySail 78 = .ok (.iinc 3 1, 3) := by decide +kernel
theorem dX4_trySail_81 : decode cX4_trySail 81 = .ok (.goto (-42), 3) := by decide +kernel
theorem dX4_trySail_84 : decode cX4_trySail 84 = .ok (.aload_n 0, 1) := by decide +kernel
theorem dX4_trySail_85 : decode cX4_trySail 85 = .ok (.dup, 1) := by decide +kernel
theorem dX4_trySail_86 : decode cX4_trySail 86 = .ok (.getfield 57, 3) := by decide +kernel
theorem dX4_trySail_89 : decode cX4_trySail 89 = .ok (.iconst 1, 1) := by decide +kernel
theorem dX4_trySail_90 : decode cX4_trySail 90 = .ok (.iadd, 1) := by decide +kernel
theorem dX4_trySail_91 : decode cX4_trySail 91 = .ok (.putfield 57, 3) := by decide +kernel
theorem dX4_trySail_94 : decode cX4_trySail 94 = .ok (.iconst 1, 1) := by decide +kernel
theorem dX4_trySail_95 : decode cX4_trySail 95 = .ok (.ireturn, 1) := by decide +kernel
theorem dX4_shipRoom_0 : decode cX4_shipRoom 0 = .ok (.bipush 12, 2) := by decide +kernel
theorem dX4_shipRoom_2 : decode cX4_shipRoom 2 = .ok (.istore_n 1, 1) := by decide +kernel
theorem dX4_shipRoom_3 : decode cX4_shipRoom 3 = .ok (.aload_n 0, 1) := by decide +kernel
theorem dX4_shipRoom_4 : decode cX4_shipRoom 4 = .ok (.getfield 21, 3) := by decide +kernel
theorem dX4_shipRoom_7 : decode cX4_shipRoom 7 = .ok (.astore_n 2, 1) := by decide +kernel
theorem dX4_shipRoom_8 : decode cX4_shipRoom 8 = .ok (.aload_n 2, 1) := by decide +kernel
theorem dX4_shipRoom_9 : decode cX4_shipRoom 9 = .ok (.arraylength, 1) := by decide +kernel
theorem dX4_shipRoom_10 : decode cX4_shipRoom 10 = .ok (.istore_n 3, 1) := by decide +kernel
theorem dX4_shipRoom_11 : decode cX4_shipRoom 11 = .ok (.iconst 0, 1) := by decide +kernel
theorem dX4_shipRoom_12 : decode cX4_shipRoom 12 = .ok (.istore 4, 2) := by decide +kernel
theorem dX4_shipRoom_14 : decode cX4_shipRoom 14 = .ok (.iload 4, 2) := by decide +kernel
theorem dX4_shipRoom_16 : decode cX4_shipRoom 16 = .ok (.iload_n 3, 1) := by decide +kernel
theorem dX4_shipRoom_17 : decode cX4_shipRoom 17 = .ok (.if_icmp .ge 32, 3) := by decide +kernel
theorem dX4_shipRoom_20 : decode cX4_shipRoom 20 = .ok (.aload_n 2, 1) := by decide +kernel
theorem dX4_shipRoom_21 : decode cX4_shipRoom 21 = .ok (.iload 4, 2) := by decide +kernel
theorem dX4_shipRoom_23 : decode cX4_shipRoom 23 = .ok (.aaload, 1) := by decide +kernel
theorem dX4_shipRoom_24 : decode cX4_shipRoom 24 = .ok (.astore 5, 2) := by decide +kernel
theorem dX4_shipRoom_26 : decode cX4_shipRoom 26 = .ok (.aload 5, 2) := by decide +kernel
theorem dX4_shipRoom_28 : decode cX4_shipRoom 28 = .ok (.getfield 99, 3) := by decide +kernel
theorem dX4_shipRoom_31 : decode cX4_shipRoom 31 = .ok (.iconst 2, 1) := by decide +kernel
theorem dX4_shipRoom_32 : decode cX4_shipRoom 32 = .ok (.if_icmp .ne 11, 3) := by decide +kernel
theorem dX4_shipRoom_35 : decode cX4_shipRoom 35 = .ok (.iload_n 1, 1) := by decide +kernel
theorem dX4_shipRoom_36 : decode cX4_shipRoom 36 = .ok (.aload 5, 2) := by decide +kernel
theorem dX4_shipRoom_38 : decode cX4_shipRoom 38 = .ok (.getfield 107, 3) := by decide +kernel
theorem dX4_shipRoom_41 : decode cX4_shipRoom 41 = .ok (.isub, 1) := by decide +kernel
theorem dX4_shipRoom_42 : decode cX4_shipRoom 42 = .ok (.istore_n 1, 1) := by decide +kernel
theorem dX4_shipRoom_43 : decode cX4_shipRoom 43 = .ok (.iinc 4 1, 3) := by decide +kernel
theorem dX4_shipRoom_46 : decode cX4_shipRoom 46 = .ok (.goto (-32), 3) := by decide +kernel
theorem dX4_shipRoom_49 : decode cX4_shipRoom 49 = .ok (.iload_n 1, 1) := by decide +kernel
theorem dX4_shipRoom_50 : decode cX4_shipRoom 50 = .ok (.ireturn, 1) := by decide +kernel
theorem dX4_shipCoins_0 : decode cX4_shipCoins 0 = .ok (.iconst 0, 1) := by decide +kernel
theorem dX4_shipCoins_1 : decode cX4_shipCoins 1 = .ok (.istore_n 1, 1) := by decide +kernel
theorem dX4_shipCoins_2 : decode cX4_shipCoins 2 = .ok (.aload_n 0, 1) := by decide +kernel
theorem dX4_shipCoins_3 : decode cX4_shipCoins 3 = .ok (.getfield 21, 3) := by decide +kernel
theorem dX4_shipCoins_6 : decode cX4_shipCoins 6 = .ok (.astore_n 2, 1) := by decide +kernel
theorem dX4_shipCoins_7 : decode cX4_shipCoins 7 = .ok (.aload_n 2, 1) := by decide +kernel
theorem dX4_shipCoins_8 : decode cX4_shipCoins 8 = .ok (.arraylength, 1) := by decide +kernel
theorem dX4_shipCoins_9 : decode cX4_shipCoins 9 = .ok (.istore_n 3, 1) := by decide +kernel
theorem dX4_shipCoins_10 : decode cX4_shipCoins 10 = .ok (.iconst 0, 1) := by decide +kernel
theorem dX4_shipCoins_11 : decode cX4_shipCoins 11 = .ok (.istore 4, 2) := by decide +kernel
theorem dX4_shipCoins_13 : decode cX4_shipCoins 13 = .ok (.iload 4, 2) := by decide +kernel
theorem dX4_shipCoins_15 : decode cX4_shipCoins 15 = .ok (.iload_n 3, 1) := by decide +kernel
theorem dX4_shipCoins_16 : decode cX4_shipCoins 16 = .ok (.if_icmp .ge 32, 3) := by decide +kernel
theorem dX4_shipCoins_19 : decode cX4_shipCoins 19 = .ok (.aload_n 2, 1) := by decide +kernel
theorem dX4_shipCoins_20 : decode cX4_shipCoins 20 = .ok (.iload 4, 2) := by decide +kernel
theorem dX4_shipCoins_22 : decode cX4_shipCoins 22 = .ok (.aaload, 1) := by decide +kernel
theorem dX4_shipCoins_23 : decode cX4_shipCoins 23 = .ok (.astore 5, 2) := by decide +kernel
theorem dX4_shipCoins_25 : decode cX4_shipCoins 25 = .ok (.aload 5, 2) := by decide +kernel
theorem dX4_shipCoins_27 : decode cX4_shipCoins 27 = .ok (.getfield 99, 3) := by decide +kernel
theorem dX4_shipCoins_30 : decode cX4_shipCoins 30 = .ok (.iconst 2, 1) := by decide +kernel
theorem dX4_shipCoins_31 : decode cX4_shipCoins 31 = .ok (.if_icmp .ne 11, 3) := by decide +kernel
theorem dX4_shipCoins_34 : decode cX4_shipCoins 34 = .ok (.iload_n 1, 1) := by decide +kernel
theorem dX4_shipCoins_35 : decode cX4_shipCoins 35 = .ok (.aload 5, 2) := by decide +kernel
theorem dX4_shipCoins_37 : decode cX4_shipCoins 37 = .ok (.invokevirtual 220, 3) := by decide +kernel
theorem dX4_shipCoins_40 : decode cX4_shipCoins 40 = .ok (.iadd, 1) := by decide +kernel
theorem dX4_shipCoins_41 : decode cX4_shipCoins 41 = .ok (.istore_n 1, 1) := by decide +kernel
theorem dX4_shipCoins_42 : decode cX4_shipCoins 42 = .ok (.iinc 4 1, 3) := by decide +kernel
theorem dX4_shipCoins_45 : decode cX4_shipCoins 45 = .ok (.goto (-32), 3) := by decide +kernel
theorem dX4_shipCoins_48 : decode cX4_shipCoins 48 = .ok (.iload_n 1, 1) := by decide +kernel
theorem dX4_shipCoins_49 : decode cX4_shipCoins 49 = .ok (.ireturn, 1) := by decide +kernel
theorem dX4_isOutsideInOrder_0 : decode cX4_isOutsideInOrder 0 = .ok (.aload_n 0, 1) := by decide +kernel
theorem dX4_isOutsideInOrder_1 : decode cX4_isOutsideInOrder 1 = .ok (.getfield 21, 3) := by decide +kernel
theorem dX4_isOutsideInOrder_4 : decode cX4_isOutsideInOrder 4 = .ok (.astore_n 1, 1) := by decide +kernel
theorem dX4_isOutsideInOrder_5 : decode cX4_isOutsideInOrder 5 = .ok (.aload_n 1, 1) := by decide +kernel
theorem dX4_isOutsideInOrder_6 : decode cX4_isOutsideInOrder 6 = .ok (.arraylength, 1) := by decide +kernel
theorem dX4_isOutsideInOrder_7 : decode cX4_isOutsideInOrder 7 = .ok (.istore_n 2, 1) := by decide +kernel
theorem dX4_isOutsideInOrder_8 : decode cX4_isOutsideInOrder 8 = .ok (.iconst 0, 1) := by decide +kernel
theorem dX4_isOutsideInOrder_9 : decode cX4_isOutsideInOrder 9 = .ok (.istore_n 3, 1) := by decide +kernel
theorem dX4_isOutsideInOrder_10 : decode cX4_isOutsideInOrder 10 = .ok (.iload_n 3, 1) := by decide +kernel
theorem dX4_isOutsideInOrder_11 : decode cX4_isOutsideInOrder 11 = .ok (.iload_n 2, 1) := by decide +kernel
theorem dX4_isOutsideInOrder_12 : decode cX4_isOutsideInOrder 12 = .ok (.if_icmp .ge 62, 3) := by decide +kernel
theorem dX4_isOutsideInOrder_15 : decode cX4_isOutsideInOrder 15 = .ok (.aload_n 1, 1) := by decide +kernel
theorem dX4_isOutsideInOrder_16 : decode cX4_isOutsideInOrder 16 = .ok (.iload_n 3, 1) := by decide +kernel
theorem dX4_isOutsideInOrder_17 : decode cX4_isOutsideInOrder 17 = .ok (.aaload, 1) := by decide +kernel
theorem dX4_isOutsideInOrder_18 : decode cX4_isOutsideInOrder 18 = .ok (.astore 4, 2) := by decide +kernel
theorem dX4_isOutsideInOrder_20 : decode cX4_isOutsideInOrder 20 = .ok (.aload 4, 2) := by decide +kernel
theorem dX4_isOutsideInOrder_22 : decode cX4_isOutsideInOrder 22 = .ok (.getfield 99, 3) := by decide +kernel
theorem dX4_isOutsideInOrder_25 : decode cX4_isOutsideInOrder 25 = .ok (.iconst 1, 1) := by decide +kernel
theorem dX4_isOutsideInOrder_26 : decode cX4_isOutsideInOrder 26 = .ok (.if_icmp .eq 12, 3) := by decide +kernel
theorem dX4_isOutsideInOrder_29 : decode cX4_isOutsideInOrder 29 = .ok (.aload 4, 2) := by decide +kernel
theorem dX4_isOutsideInOrder_31 : decode cX4_isOutsideInOrder 31 = .ok (.getfield 99, 3) := by decide +kernel
theorem dX4_isOutsideInOrder_34 : decode cX4_isOutsideInOrder 34 = .ok (.iconst 2, 1) := by decide +kernel
theorem dX4_isOutsideInOrder_35 : decode cX4_isOutsideInOrder 35 = .ok (.if_icmp .ne 7, 3) := by decide +kernel
theorem dX4_isOutsideInOrder_38 : decode cX4_isOutsideInOrder 38 = .ok (.iconst 1, 1) := by decide +kernel
theorem dX4_isOutsideInOrder_39 : decode cX4_isOutsideInOrder 39 = .ok (.goto 4, 3) := by decide +kernel
theorem dX4_isOutsideInOrder_42 : decode cX4_isOutsideInOrder 42 = .ok (.iconst 0, 1) := by decide +kernel
theorem dX4_isOutsideInOrder_43 : decode cX4_isOutsideInOrder 43 = .ok (.istore 5, 2) := by decide +kernel
theorem dX4_isOutsideInOrder_45 : decode cX4_isOutsideInOrder 45 = .ok (.iload 5, 2) := by decide +kernel
theorem dX4_isOutsideInOrder_47 : decode cX4_isOutsideInOrder 47 = .ok (.ifCond .eq 21, 3) := by decide +kernel
theorem dX4_isOutsideInOrder_50 : decode cX4_isOutsideInOrder 50 = .ok (.aload 4, 2) := by decide +kernel
theorem dX4_isOutsideInOrder_52 : decode cX4_isOutsideInOrder 52 = .ok (.invokevirtual 126, 3) := by decide +kernel
theorem dX4_isOutsideInOrder_55 : decode cX4_isOutsideInOrder 55 = .ok (.ifCond .eq 11, 3) := by decide +kernel
theorem dX4_isOutsideInOrder_58 : decode cX4_isOutsideInOrder 58 = .ok (.aload 4, 2) := by decide +kernel
theorem dX4_isOutsideInOrder_60 : decode cX4_isOutsideInOrder 60 = .ok (.invokevirtual 130, 3) := by decide +kernel
theorem dX4_isOutsideInOrder_63 : decode cX4_isOutsideInOrder 63 = .ok (.ifCond .ne 5, 3) := by decide +kernel
theorem dX4_isOutsideInOrder_66 : decode cX4_isOutsideInOrder 66 = .ok (.iconst 0, 1) := by decide +kernel
theorem dX4_isOutsideInOrder_67 : decode cX4_isOutsideInOrder 67 = .ok (.ireturn, 1) := by decide +kernel
theorem dX4_isOutsideInOrder_68 : decode cX4_isOutsideInOrder 68 = .ok (.iinc 3 1, 3) := by decide +kernel
theorem dX4_isOutsideInOrder_71 : decode cX4_isOutsideInOrder 71 = .ok (.goto (-61), 3) := by decide +kernel
theorem dX4_isOutsideInOrder_74 : decode cX4_isOutsideInOrder 74 = .ok (.iconst 1, 1) := by decide +kernel
theorem dX4_isOutsideInOrder_75 : decode cX4_isOutsideInOrder 75 = .ok (.ireturn, 1) := by decide +kernel
theorem dX4_heightIn_0 : decode cX4_heightIn 0 = .ok (.bipush 6, 2) := by decide +kernel
theorem dX4_heightIn_2 : decode cX4_heightIn 2 = .ok (.aload_n 0, 1) := by decide +kernel
theorem dX4_heightIn_3 : decode cX4_heightIn 3 = .ok (.getfield 51, 3) := by decide +kernel
theorem dX4_heightIn_6 : decode cX4_heightIn 6 = .ok (.iload_n 1, 1) := by decide +kernel
theorem dX4_heightIn_7 : decode cX4_heightIn 7 = .ok (.iadd, 1) := by decide +kernel
theorem dX4_heightIn_8 : decode cX4_heightIn 8 = .ok (.bipush 12, 2) := by decide +kernel
theorem dX4_heightIn_10 : decode cX4_heightIn 10 = .ok (.irem, 1) := by decide +kernel
theorem dX4_heightIn_11 : decode cX4_heightIn 11 = .ok (.isub, 1) := by decide +kernel
theorem dX4_heightIn_12 : decode cX4_heightIn 12 = .ok (.invokestatic 222, 3) := by decide +kernel
theorem dX4_heightIn_15 : decode cX4_heightIn 15 = .ok (.ireturn, 1) := by decide +kernel
theorem dX4_letPass_0 : decode cX4_letPass 0 = .ok (.iconst 0, 1) := by decide +kernel
theorem dX4_letPass_1 : decode cX4_letPass 1 = .ok (.istore_n 2, 1) := by decide +kernel
theorem dX4_letPass_2 : decode cX4_letPass 2 = .ok (.iload_n 2, 1) := by decide +kernel
theorem dX4_letPass_3 : decode cX4_letPass 3 = .ok (.iload_n 1, 1) := by decide +kernel
theorem dX4_letPass_4 : decode cX4_letPass 4 = .ok (.if_icmp .ge 31, 3) := by decide +kernel
theorem dX4_letPass_7 : decode cX4_letPass 7 = .ok (.aload_n 0, 1) := by decide +kernel
theorem dX4_letPass_8 : decode cX4_letPass 8 = .ok (.dup, 1) := by decide +kernel
theorem dX4_letPass_9 : decode cX4_letPass 9 = .ok (.getfield 51, 3) := by decide +kernel
theorem dX4_letPass_12 : decode cX4_letPass 12 = .ok (.iconst 1, 1) := by decide +kernel
theorem dX4_letPass_13 : decode cX4_letPass 13 = .ok (.iadd, 1) := by decide +kernel
theorem dX4_letPass_14 : decode cX4_letPass 14 = .ok (.putfield 51, 3) := by decide +kernel
theorem dX4_letPass_17 : decode cX4_letPass 17 = .ok (.aload_n 0, 1) := by decide +kernel
theorem dX4_letPass_18 : decode cX4_letPass 18 = .ok (.getfield 32, 3) := by decide +kernel
theorem dX4_letPass_21 : decode cX4_letPass 21 = .ok (.iconst 5, 1) := by decide +kernel
theorem dX4_letPass_22 : decode cX4_letPass 22 = .ok (.if_icmp .lt 7, 3) := by decide +kernel
theorem dX4_letPass_25 : decode cX4_letPass 25 = .ok (.aload_n 0, 1) := by decide +kernel
theorem dX4_letPass_26 : decode cX4_letPass 26 = .ok (.invokevirtual 225, 3) := by decide +kernel
theorem dX4_letPass_29 : decode cX4_letPass 29 = .ok (.iinc 2 1, 3) := by decide +kernel
theorem dX4_letPass_32 : decode cX4_letPass 32 = .ok (.goto (-30), 3) := by decide +kernel
theorem dX4_letPass_35 : decode cX4_letPass 35 = .ok (.iconst 1, 1) := by decide +kernel
theorem dX4_letPass_36 : decode cX4_letPass 36 = .ok (.ireturn, 1) := by decide +kernel
theorem dX4_letDampIn_0 : decode cX4_letDampIn 0 = .ok (.aload_n 0, 1) := by decide +kernel
theorem dX4_letDampIn_1 : decode cX4_letDampIn 1 = .ok (.getfield 21, 3) := by decide +kernel
theorem dX4_letDampIn_4 : decode cX4_letDampIn 4 = .ok (.astore_n 1, 1) := by decide +kernel
theorem dX4_letDampIn_5 : decode cX4_letDampIn 5 = .ok (.aload_n 1, 1) := by decide +kernel
theorem dX4_letDampIn_6 : decode cX4_letDampIn 6 = .ok (.arraylength, 1) := by decide +kernel
theorem dX4_letDampIn_7 : decode cX4_letDampIn 7 = .ok (.istore_n 2, 1) := by decide +kernel
theorem dX4_letDampIn_8 : decode cX4_letDampIn 8 = .ok (.iconst 0, 1) := by decide +kernel
theorem dX4_letDampIn_9 : decode cX4_letDampIn 9 = .ok (.istore_n 3, 1) := by decide +kernel
theorem dX4_letDampIn_10 : decode cX4_letDampIn 10 = .ok (.iload_n 3, 1) := by decide +kernel
theorem dX4_letDampIn_11 : decode cX4_letDampIn 11 = .ok (.iload_n 2, 1) := by decide +kernel
theorem dX4_letDampIn_12 : decode cX4_letDampIn 12 = .ok (.if_icmp .ge 19, 3) := by decide +kernel
theorem dX4_letDampIn_15 : decode cX4_letDampIn 15 = .ok (.aload_n 1, 1) := by decide +kernel
theorem dX4_letDampIn_16 : decode cX4_letDampIn 16 = .ok (.iload_n 3, 1) := by decide +kernel
theorem dX4_letDampIn_17 : decode cX4_letDampIn 17 = .ok (.aaload, 1) := by decide +kernel
theorem dX4_letDampIn_18 : decode cX4_letDampIn 18 = .ok (.astore 4, 2) := by decide +kernel
theorem dX4_letDampIn_20 : decode cX4_letDampIn 20 = .ok (.aload 4, 2) := by decide +kernel
theorem dX4_letDampIn_22 : decode cX4_letDampIn 22 = .ok (.invokevirtual 228, 3) := by decide +kernel
theorem dX4_letDampIn_25 : decode cX4_letDampIn 25 = .ok (.iinc 3 1, 3) := by decide +kernel
theorem dX4_letDampIn_28 : decode cX4_letDampIn 28 = .ok (.goto (-18), 3) := by decide +kernel
theorem dX4_letDampIn_31 : decode cX4_letDampIn 31 = .ok (.return_, 1) := by decide +kernel
theorem dX7_init_0 : decode cX7_init 0 = .ok (.aload_n 0, 1) := by decide +kernel
theorem dX7_init_1 : decode cX7_init 1 = .ok (.invokespecial 1, 3) := by decide +kernel
theorem dX7_init_4 : decode cX7_init 4 = .ok (.aload_n 0, 1) := by decide +kernel
theorem dX7_init_5 : decode cX7_init 5 = .ok (.new 7, 3) := by decide +kernel
theorem dX7_init_8 : decode cX7_init 8 = .ok (.dup, 1) := by decide +kernel
theorem dX7_init_9 : decode cX7_init 9 = .ok (.invokespecial 9, 3) := by decide +kernel
theorem dX7_init_12 : decode cX7_init 12 = .ok (.putfield 10, 3) := by decide +kernel
theorem dX7_init_15 : decode cX7_init 15 = .ok (.aload_n 0, 1) := by decide +kernel
theorem dX7_init_16 : decode cX7_init 16 = .ok (.new 7, 3) := by decide +kernel
theorem dX7_init_19 : decode cX7_init 19 = .ok (.dup, 1) := by decide +kernel
theorem dX7_init_20 : decode cX7_init 20 = .ok (.invokespecial 9, 3) := by decide +kernel
theorem dX7_init_23 : decode cX7_init 23 = .ok (.putfield 16, 3) := by decide +kernel
theorem dX7_init_26 : decode cX7_init 26 = .ok (.aload_n 0, 1) := by decide +kernel
theorem dX7_init_27 : decode cX7_init 27 = .ok (.iconst 0, 1) := by decide +kernel
theorem dX7_init_28 : decode cX7_init 28 = .ok (.putfield 19, 3) := by decide +kernel
theorem dX7_init_31 : decode cX7_init 31 = .ok (.aload_n 0, 1) := by decide +kernel
theorem dX7_init_32 : decode cX7_init 32 = .ok (.new 23, 3) := by decide +kernel
theorem dX7_init_35 : decode cX7_init 35 = .ok (.dup, 1) := by decide +kernel
theorem dX7_init_36 : decode cX7_init 36 = .ok (.invokespecial 25, 3) := by decide +kernel
theorem dX7_init_39 : decode cX7_init 39 = .ok (.putfield 26, 3) := by decide +kernel
theorem dX7_init_42 : decode cX7_init 42 = .ok (.aload_n 0, 1) := by decide +kernel
theorem dX7_init_43 : decode cX7_init 43 = .ok (.new 30, 3) := by decide +kernel
theorem dX7_init_46 : decode cX7_init 46 = .ok (.dup, 1) := by decide +kernel
theorem dX7_init_47 : decode cX7_init 47 = .ok (.invokespecial 32, 3) := by decide +kernel
theorem dX7_init_50 : decode cX7_init 50 = .ok (.putfield 33, 3) := by decide +kernel
theorem dX7_init_53 : decode cX7_init 53 = .ok (.return_, 1) := by decide +kernel
theorem dX7_bring_0 : decode cX7_bring 0 = .ok (.iload_n 1, 1) := by decide +kernel
theorem dX7_bring_1 : decode cX7_bring 1 = .ok (.iload_n 2, 1) := by decide +kernel
theorem dX7_bring_2 : decode cX7_bring 2 = .ok (.invokestatic 37, 3) := by decide +kernel
theorem dX7_bring_5 : decode cX7_bring 5 = .ok (.iload_n 3, 1) := by decide +kernel
theorem dX7_bring_6 : decode cX7_bring 6 = .ok (.iconst 1, 1) := by decide +kernel
theorem dX7_bring_7 : decode cX7_bring 7 = .ok (.sipush 500, 3) := by decide +kernel
theorem dX7_bring_10 : decode cX7_bring 10 = .ok (.invokestatic 41, 3) := by decide +kernel
theorem dX7_bring_13 : decode cX7_bring 13 = .ok (.aload_n 0, 1) := by decide +kernel
theorem dX7_bring_14 : decode cX7_bring 14 = .ok (.getfield 26, 3) := by decide +kernel
theorem dX7_bring_17 : decode cX7_bring 17 = .ok (.aload_n 0, 1) := by decide +kernel
theorem dX7_bring_18 : decode cX7_bring 18 = .ok (.getfield 10, 3) := by decide +kernel
theorem dX7_bring_21 : decode cX7_bring 21 = .ok (.invokevirtual 45, 3) := by decide +kernel
theorem dX7_bring_24 : decode cX7_bring 24 = .ok (.aload_n 0, 1) := by decide +kernel
theorem dX7_bring_25 : decode cX7_bring 25 = .ok (.aload_n 0, 1) := by decide +kernel
theorem dX7_bring_26 : decode cX7_bring 26 = .ok (.getfield 10, 3) := by decide +kernel
theorem dX7_bring_29 : decode cX7_bring 29 = .ok (.iload_n 1, 1) := by decide +kernel
theorem dX7_bring_30 : decode cX7_bring 30 = .ok (.iload_n 2, 1) := by decide +kernel
theorem dX7_bring_31 : decode cX7_bring 31 = .ok (.iload_n 3, 1) := by decide +kernel
theorem dX7_bring_32 : decode cX7_bring 32 = .ok (.invokevirtual 49, 3) := by decide +kernel
theorem dX7_bring_35 : decode cX7_bring 35 = .ok (.invokevirtual 53, 3) := by decide +kernel
theorem dX7_bring_38 : decode cX7_bring 38 = .ok (.aload_n 0, 1) := by decide +kernel
theorem dX7_bring_39 : decode cX7_bring 39 = .ok (.getfield 10, 3) := by decide +kernel
theorem dX7_bring_42 : decode cX7_bring 42 = .ok (.iload_n 1, 1) := by decide +kernel
theorem dX7_bring_43 : decode cX7_bring 43 = .ok (.iload_n 2, 1) := by decide +kernel
theorem dX7_bring_44 : decode cX7_bring 44 = .ok (.invokevirtual 57, 3) := by decide +kernel
theorem dX7_bring_47 : decode cX7_bring 47 = .ok (.ireturn, 1) := by decide +kernel
theorem dX7_leaves_0 : decode cX7_leaves 0 = .ok (.iload_n 1, 1) := by decide +kernel
theorem dX7_leaves_1 : decode cX7_leaves 1 = .ok (.iload_n 2, 1) := by decide +kernel
theorem dX7_leaves_2 : decode cX7_leaves 2 = .ok (.invokestatic 37, 3) := by decide +kernel
theorem dX7_leaves_5 : decode cX7_leaves 5 = .ok (.aload_n 0, 1) := by decide +kernel
theorem dX7_leaves_6 : decode cX7_leaves 6 = .ok (.getfield 10, 3) := by decide +kernel
theorem dX7_leaves_9 : decode cX7_leaves 9 = .ok (.iload_n 1, 1) := by decide +kernel
theorem dX7_leaves_10 : decode cX7_leaves 10 = .ok (.iload_n 2, 1) := by decide +kernel
theorem dX7_leaves_11 : decode cX7_leaves 11 = .ok (.invokevirtual 57, 3) := by decide +kernel
theorem dX7_leaves_14 : decode cX7_leaves 14 = .ok (.ireturn, 1) := by decide +kernel
theorem dX7_bestGarden_0 : decode cX7_bestGarden 0 = .ok (.iconst 0, 1) := by decide +kernel
theorem dX7_bestGarden_1 : decode cX7_bestGarden 1 = .ok (.istore_n 1, 1) := by decide +kernel
theorem dX7_bestGarden_2 : decode cX7_bestGarden 2 = .ok (.iconst 1, 1) := by decide +kernel
theorem dX7_bestGarden_3 : decode cX7_bestGarden 3 = .ok (.istore_n 2, 1) := by decide +kernel
theorem dX7_bestGarden_4 : decode cX7_bestGarden 4 = .ok (.iload_n 2, 1) := by decide +kernel
theorem dX7_bestGarden_5 : decode cX7_bestGarden 5 = .ok (.bipush 6, 2) := by decide +kernel
theorem dX7_bestGarden_7 : decode cX7_bestGarden 7 = .ok (.if_icmp .ge 23, 3) := by decide +kernel
theorem dX7_bestGarden_10 : decode cX7_bestGarden 10 = .ok (.aload_n 0, 1) := by decide +kernel
theorem dX7_bestGarden_11 : decode cX7_bestGarden 11 = .ok (.getfield 10, 3) := by decide +kernel
theorem dX7_bestGarden_14 : decode cX7_bestGarden 14 = .ok (.iload_n 2, 1) := by decide +kernel
theorem dX7_bestGarden_15 : decode cX7_bestGarden 15 = .ok (.iload_n 1, 1) := by decide +kernel
theorem dX7_bestGarden_16 : decode cX7_bestGarden 16 = .ok (.invokevirtual 61, 3) := by decide +kernel
theorem dX7_bestGarden_19 : decode cX7_bestGarden 19 = .ok (.ifCond .eq 5, 3) := by decide +kernel
theorem dX7_bestGarden_22 : decode cX7_bestGarden 22 = .ok (.iload_n 2, 1) := by decide +kernel
theorem dX7_bestGarden_23 : decode cX7_bestGarden 23 = .ok (.istore_n 1, 1) := by decide +kernel
theorem dX7_bestGarden_24 : decode cX7_bestGarden 24 = .ok (.iinc 2 1, 3) := by decide +kernel
theorem dX7_bestGarden_27 : decode cX7_bestGarden 27 = .ok (.goto (-23), 3) := by decide +kernel
theorem dX7_bestGarden_30 : decode cX7_bestGarden 30 = .ok (.iload_n 1, 1) := by decide +kernel
theorem dX7_bestGarden_31 : decode cX7_bestGarden 31 = .ok (.ireturn, 1) := by decide +kernel
theorem dX7_buy_0 : decode cX7_buy 0 = .ok (.iload_n 2, 1) := by decide +kernel
theorem dX7_buy_1 : decode cX7_buy 1 = .ok (.iconst 1, 1) := by decide +kernel
theorem dX7_buy_2 : decode cX7_buy 2 = .ok (.bipush 99, 2) := by decide +kernel
theorem dX7_buy_4 : decode cX7_buy 4 = .ok (.invokestatic 41, 3) := by decide +kernel
theorem dX7_buy_7 : decode cX7_buy 7 = .ok (.aload_n 0, 1) := by decide +kernel
theorem dX7_buy_8 : decode cX7_buy 8 = .ok (.invokevirtual 65, 3) := by decide +kernel
theorem dX7_buy_11 : decode cX7_buy 11 = .ok (.iload_n 1, 1) := by decide +kernel
theorem dX7_buy_12 : decode cX7_buy 12 = .ok (.ifCond .eq 19, 3) := by decide +kernel
theorem dX7_buy_15 : decode cX7_buy 15 = .ok (.aload_n 0, 1) := by decide +kernel
theorem dX7_buy_16 : decode cX7_buy 16 = .ok (.getfield 10, 3) := by decide +kernel
theorem dX7_buy_19 : decode cX7_buy 19 = .ok (.iload_n 2, 1) := by decide +kernel
theorem dX7_buy_20 : decode cX7_buy 20 = .ok (.invokevirtual 68, 3) := by decide +kernel
theorem dX7_buy_23 : decode cX7_buy 23 = .ok (.aload_n 0, 1) := by decide +kernel
theorem dX7_buy_24 : decode cX7_buy 24 = .ok (.getfield 10, 3) := by decide +kernel
theorem dX7_buy_27 : decode cX7_buy 27 = .ok (.getfield 72, 3) := by decide +kernel
theorem dX7_buy_30 : decode cX7_buy 30 = .ok (.ireturn, 1) := by decide +kernel
theorem dX7_buy_31 : decode cX7_buy 31 = .ok (.aload_n 0, 1) := by decide +kernel
theorem dX7_buy_32 : decode cX7_buy 32 = .ok (.getfield 10, 3) := by decide +kernel
theorem dX7_buy_35 : decode cX7_buy 35 = .ok (.iload_n 2, 1) := by decide +kernel
theorem dX7_buy_36 : decode cX7_buy 36 = .ok (.invokevirtual 76, 3) := by decide +kernel
theorem dX7_buy_39 : decode cX7_buy 39 = .ok (.aload_n 0, 1) := by decide +kernel
theorem dX7_buy_40 : decode cX7_buy 40 = .ok (.getfield 10, 3) := by decide +kernel
theorem dX7_buy_43 : decode cX7_buy 43 = .ok (.getfield 79, 3) := by decide +kernel
theorem dX7_buy_46 : decode cX7_buy 46 = .ok (.ireturn, 1) := by decide +kernel
theorem dX7_make_0 : decode cX7_make 0 = .ok (.iload_n 1, 1) := by decide +kernel
theorem dX7_make_1 : decode cX7_make 1 = .ok (.iconst 1, 1) := by decide +kernel
theorem dX7_make_2 : decode cX7_make 2 = .ok (.iconst 5, 1) := by decide +kernel
theorem dX7_make_3 : decode cX7_make 3 = .ok (.invokestatic 41, 3) := by decide +kernel
theorem dX7_make_6 : decode cX7_make 6 = .ok (.aload_n 0, 1) := by decide +kernel
theorem dX7_make_7 : decode cX7_make 7 = .ok (.getfield 26, 3) := by decide +kernel
theorem dX7_make_10 : decode cX7_make 10 = .ok (.aload_n 0, 1) := by decide +kernel
theorem dX7_make_11 : decode cX7_make 11 = .ok (.getfield 10, 3) := by decide +kernel
theorem dX7_make_14 : decode cX7_make 14 = .ok (.invokevirtual 45, 3) := by decide +kernel
theorem dX7_make_17 : decode cX7_make 17 = .ok (.aload_n 0, 1) := by decide +kernel
theorem dX7_make_18 : decode cX7_make 18 = .ok (.aload_n 0, 1) := by decide +kernel
theorem dX7_make_19 : decode cX7_make 19 = .ok (.getfield 10, 3) := by decide +kernel
theorem dX7_make_22 : decode cX7_make 22 = .ok (.iload_n 1, 1) := by decide +kernel
theorem dX7_make_23 : decode cX7_make 23 = .ok (.invokevirtual 82, 3) := by decide +kernel
theorem dX7_make_26 : decode cX7_make 26 = .ok (.invokevirtual 53, 3) := by decide +kernel
theorem dX7_make_29 : decode cX7_make 29 = .ok (.aload_n 0, 1) := by decide +kernel
theorem dX7_make_30 : decode cX7_make 30 = .ok (.getfield 10, 3) := by decide +kernel
theorem dX7_make_33 : decode cX7_make 33 = .ok (.getfield 86, 3) := by decide +kernel
theorem dX7_make_36 : decode cX7_make 36 = .ok (.iconst 1, 1) := by decide +kernel
theorem dX7_make_37 : decode cX7_make 37 = .ok (.isub, 1) := by decide +kernel
theorem dX7_make_38 : decode cX7_make 38 = .ok (.ireturn, 1) := by decide +kernel
theorem dX7_line_0 : decode cX7_line 0 = .ok (.aload_n 0, 1) := by decide +kernel
theorem dX7_line_1 : decode cX7_line 1 = .ok (.iload_n 1, 1) := by decide +kernel
theorem dX7_line_2 : decode cX7_line 2 = .ok (.invokevirtual 89, 3) := by decide +kernel
theorem dX7_line_5 : decode cX7_line 5 = .ok (.astore_n 2, 1) := by decide +kernel
theorem dX7_line_6 : decode cX7_line 6 = .ok (.aload_n 0, 1) := by decide +kernel
theorem dX7_line_7 : decode cX7_line 7 = .ok (.getfield 26, 3) := by decide +kernel
theorem dX7_line_10 : decode cX7_line 10 = .ok (.aload_n 0, 1) := by decide +kernel
theorem dX7_line_11 : decode cX7_line 11 = .ok (.getfield 10, 3) := by decide +kernel
theorem dX7_line_14 : decode cX7_line 14 = .ok (.invokevirtual 45, 3) := by decide +kernel
theorem dX7_line_17 : decode cX7_line 17 = .ok (.aload_n 0, 1) := by decide +kernel
theorem dX7_line_18 : decode cX7_line 18 = .ok (.aload_n 0, 1) := by decide +kernel
theorem dX7_line_19 : decode cX7_line 19 = .ok (.getfield 10, 3) := by decide +kernel
theorem dX7_line_22 : decode cX7_line 22 = .ok (.aload_n 2, 1) := by decide +kernel
theorem dX7_line_23 : decode cX7_line 23 = .ok (.invokevirtual 93, 3) := by decide +kernel
theorem dX7_line_26 : decode cX7_line 26 = .ok (.invokevirtual 53, 3) := by decide +kernel
theorem dX7_line_29 : decode cX7_line 29 = .ok (.aload_n 0, 1) := by decide +kernel
theorem dX7_line_30 : decode cX7_line 30 = .ok (.getfield 10, 3) := by decide +kernel
theorem dX7_line_33 : decode cX7_line 33 = .ok (.getfield 79, 3) := by decide +kernel
theorem dX7_line_36 : decode cX7_line 36 = .ok (.ireturn, 1) := by decide +kernel
theorem dX7_fill_0 : decode cX7_fill 0 = .ok (.aload_n 0, 1) := by decide +kernel
theorem dX7_fill_1 : decode cX7_fill 1 = .ok (.iload_n 1, 1) := by decide +kernel
theorem dX7_fill_2 : decode cX7_fill 2 = .ok (.invokevirtual 89, 3) := by decide +kernel
theorem dX7_fill_5 : decode cX7_fill 5 = .ok (.astore 5, 2) := by decide +kernel
theorem dX7_fill_7 : decode cX7_fill 7 = .ok (.iload_n 2, 1) := by decide +kernel
theorem dX7_fill_8 : decode cX7_fill 8 = .ok (.iload_n 3, 1) := by decide +kernel
theorem dX7_fill_9 : decode cX7_fill 9 = .ok (.invokestatic 37, 3) := by decide +kernel
theorem dX7_fill_12 : decode cX7_fill 12 = .ok (.iload 4, 2) := by decide +kernel
theorem dX7_fill_14 : decode cX7_fill 14 = .ok (.iconst 1, 1) := by decide +kernel
theorem dX7_fill_15 : decode cX7_fill 15 = .ok (.bipush 50, 2) := by decide +kernel
theorem dX7_fill_17 : decode cX7_fill 17 = .ok (.invokestatic 41, 3) := by decide +kernel
theorem dX7_fill_20 : decode cX7_fill 20 = .ok (.aload_n 0, 1) := by decide +kernel
theorem dX7_fill_21 : decode cX7_fill 21 = .ok (.getfield 26, 3) := by decide +kernel
theorem dX7_fill_24 : decode cX7_fill 24 = .ok (.aload_n 0, 1) := by decide +kernel
theorem dX7_fill_25 : decode cX7_fill 25 = .ok (.getfield 10, 3) := by decide +kernel
theorem dX7_fill_28 : decode cX7_fill 28 = .ok (.invokevirtual 45, 3) := by decide +kernel
theorem dX7_fill_31 : decode cX7_fill 31 = .ok (.aload_n 0, 1) := by decide +kernel
theorem dX7_fill_32 : decode cX7_fill 32 = .ok (.aload_n 0, 1) := by decide +kernel
theorem dX7_fill_33 : decode cX7_fill 33 = .ok (.getfield 10, 3) := by decide +kernel
theorem dX7_fill_36 : decode cX7_fill 36 = .ok (.aload 5, 2) := by decide +kernel
theorem dX7_fill_38 : decode cX7_fill 38 = .ok (.iload_n 2, 1) := by decide +kernel
theorem dX7_fill_39 : decode cX7_fill 39 = .ok (.iload_n 3, 1) := by decide +kernel
theorem dX7_fill_40 : decode cX7_fill 40 = .ok (.iload 4, 2) := by decide +kernel
theorem dX7_fill_42 : decode cX7_fill 42 = .ok (.invokevirtual 97, 3) := by decide +kernel
theorem dX7_fill_45 : decode cX7_fill 45 = .ok (.invokevirtual 53, 3) := by decide +kernel
theorem dX7_fill_48 : decode cX7_fill 48 = .ok (.aload 5, 2) := by decide +kernel
theorem dX7_fill_50 : decode cX7_fill 50 = .ok (.invokevirtual 101, 3) := by decide +kernel
theorem dX7_fill_53 : decode cX7_fill 53 = .ok (.ireturn, 1) := by decide +kernel
theorem dX7_empty_0 : decode cX7_empty 0 = .ok (.aload_n 0, 1) := by decide +kernel
theorem dX7_empty_1 : decode cX7_empty 1 = .ok (.iload_n 1, 1) := by decide +kernel
theorem dX7_empty_2 : decode cX7_empty 2 = .ok (.invokevirtual 89, 3) := by decide +kernel
theorem dX7_empty_5 : decode cX7_empty 5 = .ok (.astore_n 2, 1) := by decide +kernel
theorem dX7_empty_6 : decode cX7_empty 6 = .ok (.aload_n 2, 1) := by decide +kernel
theorem dX7_empty_7 : decode cX7_empty 7 = .ok (.getfield 107, 3) := by decide +kernel
theorem dX7_empty_10 : decode cX7_empty 10 = .ok (.istore_n 3, 1) := by decide +kernel
theorem dX7_empty_11 : decode cX7_empty 11 = .ok (.aload_n 0, 1) := by decide +kernel
theorem dX7_empty_12 : decode cX7_empty 12 = .ok (.getfield 26, 3) := by decide +kernel
theorem dX7_empty_15 : decode cX7_empty 15 = .ok (.aload_n 0, 1) := by decide +kernel
theorem dX7_empty_16 : decode cX7_empty 16 = .ok (.getfield 10, 3) := by decide +kernel
theorem dX7_empty_19 : decode cX7_empty 19 = .ok (.invokevirtual 45, 3) := by decide +kernel
theorem dX7_empty_22 : decode cX7_empty 22 = .ok (.aload_n 0, 1) := by decide +kernel
theorem dX7_empty_23 : decode cX7_empty 23 = .ok (.aload_n 0, 1) := by decide +kernel
theorem dX7_empty_24 : decode cX7_empty 24 = .ok (.getfield 10, 3) := by decide +kernel
theorem dX7_empty_27 : decode cX7_empty 27 = .ok (.aload_n 2, 1) := by decide +kernel
theorem dX7_empty_28 : decode cX7_empty 28 = .ok (.invokevirtual 110, 3) := by decide +kernel
theorem dX7_empty_31 : decode cX7_empty 31 = .ok (.invokevirtual 53, 3) := by decide +kernel
theorem dX7_empty_34 : decode cX7_empty 34 = .ok (.iload_n 3, 1) := by decide +kernel
theorem dX7_empty_35 : decode cX7_empty 35 = .ok (.ireturn, 1) := by decide +kernel
theorem dX7_screw_0 : decode cX7_screw 0 = .ok (.aload_n 0, 1) := by decide +kernel
theorem dX7_screw_1 : decode cX7_screw 1 = .ok (.iload_n 1, 1) := by decide +kernel
theorem dX7_screw_2 : decode cX7_screw 2 = .ok (.invokevirtual 89, 3) := by decide +kernel
theorem dX7_screw_5 : decode cX7_screw 5 = .ok (.astore_n 3, 1) := by decide +kernel
theorem dX7_screw_6 : decode cX7_screw 6 = .ok (.iload_n 2, 1) := by decide +kernel
theorem dX7_screw_7 : decode cX7_screw 7 = .ok (.iconst 1, 1) := by decide +kernel
theorem dX7_screw_8 : decode cX7_screw 8 = .ok (.bipush 8, 2) := by decide +kernel
theorem dX7_screw_10 : decode cX7_screw 10 = .ok (.invokestatic 41, 3) := by decide +kernel
theorem dX7_screw_13 : decode cX7_screw 13 = .ok (.aload_n 0, 1) := by decide +kernel
theorem dX7_screw_14 : decode cX7_screw 14 = .ok (.getfield 26, 3) := by decide +kernel
theorem dX7_screw_17 : decode cX7_screw 17 = .ok (.aload_n 0, 1) := by decide +kernel
theorem dX7_screw_18 : decode cX7_screw 18 = .ok (.getfield 10, 3) := by decide +kernel
theorem dX7_screw_21 : decode cX7_screw 21 = .ok (.invokevirtual 45, 3) := by decide +kernel
theorem dX7_screw_24 : decode cX7_screw 24 = .ok (.aload_n 0, 1) := by decide +kernel
theorem dX7_screw_25 : decode cX7_screw 25 = .ok (.aload_n 0, 1) := by decide +kernel
theorem dX7_screw_26 : decode cX7_screw 26 = .ok (.getfield 10, 3) := by decide +kernel
theorem dX7_screw_29 : decode cX7_screw 29 = .ok (.aload_n 3, 1) := by decide +kernel
theorem dX7_screw_30 : decode cX7_screw 30 = .ok (.iload_n 2, 1) := by decide +kernel
theorem dX7_screw_31 : decode cX7_screw 31 = .ok (.invokevirtual 113, 3) := by decide +kernel
theorem dX7_screw_34 : decode cX7_screw 34 = .ok (.invokevirtual 53, 3) := by decide +kernel
theorem dX7_screw_37 : decode cX7_screw 37 = .ok (.aload_n 3, 1) := by decide +kernel
theorem dX7_screw_38 : decode cX7_screw 38 = .ok (.invokevirtual 117, 3) := by decide +kernel
theorem dX7_screw_41 : decode cX7_screw 41 = .ok (.ireturn, 1) := by decide +kernel
theorem dX7_unscrew_0 : decode cX7_unscrew 0 = .ok (.aload_n 0, 1) := by decide +kernel
theorem dX7_unscrew_1 : decode cX7_unscrew 1 = .ok (.iload_n 1, 1) := by decide +kernel
theorem dX7_unscrew_2 : decode cX7_unscrew 2 = .ok (.invokevirtual 89, 3) := by decide +kernel
theorem dX7_unscrew_5 : decode cX7_unscrew 5 = .ok (.astore_n 2, 1) := by decide +kernel
theorem dX7_unscrew_6 : decode cX7_unscrew 6 = .ok (.aload_n 2, 1) := by decide +kernel
theorem dX7_unscrew_7 : decode cX7_unscrew 7 = .ok (.getfield 121, 3) := by decide +kernel
theorem dX7_unscrew_10 : decode cX7_unscrew 10 = .ok (.istore_n 3, 1) := by decide +kernel
theorem dX7_unscrew_11 : decode cX7_unscrew 11 = .ok (.aload_n 0, 1) := by decide +kernel
theorem dX7_unscrew_12 : decode cX7_unscrew 12 = .ok (.getfield 26, 3) := by decide +kernel
theorem dX7_unscrew_15 : decode cX7_unscrew 15 = .ok (.aload_n 0, 1) := by decide +kernel
theorem dX7_unscrew_16 : decode cX7_unscrew 16 = .ok (.getfield 10, 3) := by decide +kernel
theorem dX7_unscrew_19 : decode cX7_unscrew 19 = .ok (.invokevirtual 45, 3) := by decide +kernel
theorem dX7_unscrew_22 : decode cX7_unscrew 22 = .ok (.aload_n 0, 1) := by decide +kernel
theorem dX7_unscrew_23 : decode cX7_unscrew 23 = .ok (.aload_n 0, 1) := by decide +kernel
theorem dX7_unscrew_24 : decode cX7_unscrew 24 = .ok (.getfield 10, 3) := by decide +kernel
theorem dX7_unscrew_27 : decode cX7_unscrew 27 = .ok (.aload_n 2, 1) := by decide +kernel
theorem dX7_unscrew_28 : decode cX7_unscrew 28 = .ok (.invokevirtual 122, 3) := by decide +kernel
theorem dX7_unscrew_31 : decode cX7_unscrew 31 = .ok (.invokevirtual 53, 3) := by decide +kernel
theorem dX7_unscrew_34 : decode cX7_unscrew 34 = .ok (.iload_n 3, 1) := by decide +kernel
theorem dX7_unscrew_35 : decode cX7_unscrew 35 = .ok (.ireturn, 1) := by decide +kernel
theorem dX7_label_0 : decode cX7_label 0 = .ok (.aload_n 0, 1) := by decide +kernel
theorem dX7_label_1 : decode cX7_label 1 = .ok (.iload_n 1, 1) := by decide +kernel
theorem dX7_label_2 : decode cX7_label 2 = .ok (.invokevirtual 89, 3) := by decide +kernel
theorem dX7_label_5 : decode cX7_label 5 = .ok (.astore_n 2, 1) := by decide +kernel
theorem dX7_label_6 : decode cX7_label 6 = .ok (.aload_n 0, 1) := by decide +kernel
theorem dX7_label_7 : decode cX7_label 7 = .ok (.getfield 26, 3) := by decide +kernel
theorem dX7_label_10 : decode cX7_label 10 = .ok (.aload_n 0, 1) := by decide +kernel
theorem dX7_label_11 : decode cX7_label 11 = .ok (.getfield 10, 3) := by decide +kernel
theorem dX7_label_14 : decode cX7_label 14 = .ok (.invokevirtual 45, 3) := by decide +kernel
theorem dX7_label_17 : decode cX7_label 17 = .ok (.aload_n 0, 1) := by decide +kernel
theorem dX7_label_18 : decode cX7_label 18 = .ok (.aload_n 0, 1) := by decide +kernel
theorem dX7_label_19 : decode cX7_label 19 = .ok (.getfield 10, 3) := by decide +kernel
theorem dX7_label_22 : decode cX7_label 22 = .ok (.aload_n 2, 1) := by decide +kernel
theorem dX7_label_23 : decode cX7_label 23 = .ok (.invokevirtual 125, 3) := by decide +kernel
theorem dX7_label_26 : decode cX7_label 26 = .ok (.invokevirtual 53, 3) := by decide +kernel
theorem dX7_label_29 : decode cX7_label 29 = .ok (.aload_n 2, 1) := by decide +kernel
theorem dX7_label_30 : decode cX7_label 30 = .ok (.getfield 128, 3) := by decide +kernel
theorem dX7_label_33 : decode cX7_label 33 = .ok (.invokevirtual 132, 3) := by decide +kernel
theorem dX7_label_36 : decode cX7_label 36 = .ok (.ireturn, 1) := by decide +kernel
theorem dX7_labelled_0 : decode cX7_labelled 0 = .ok (.aload_n 0, 1) := by decide +kernel
theorem dX7_labelled_1 : decode cX7_labelled 1 = .ok (.iload_n 1, 1) := by decide +kernel
theorem dX7_labelled_2 : decode cX7_labelled 2 = .ok (.invokevirtual 89, 3) := by decide +kernel
theorem dX7_labelled_5 : decode cX7_labelled 5 = .ok (.getfield 128, 3) := by decide +kernel
theorem dX7_labelled_8 : decode cX7_labelled 8 = .ok (.astore_n 3, 1) := by decide +kernel
theorem dX7_labelled_9 : decode cX7_labelled 9 = .ok (.iload_n 2, 1) := by decide +kernel
theorem dX7_labelled_10 : decode cX7_labelled 10 = .ok (.ifCond .lt 11, 3) := by decide +kernel
theorem dX7_labelled_13 : decode cX7_labelled 13 = .ok (.iload_n 2, 1) := by decide +kernel
theorem dX7_labelled_14 : decode cX7_labelled 14 = .ok (.aload_n 3, 1) := by decide +kernel
theorem dX7_labelled_15 : decode cX7_labelled 15 = .ok (.invokevirtual 132, 3) := by decide +kernel
theorem dX7_labelled_18 : decode cX7_labelled 18 = .ok (.if_icmp .lt 13, 3) := by decide +kernel
theorem dX7_labelled_21 : decode cX7_labelled 21 = .ok (.new 137, 3) := by decide +kernel
theorem dX7_labelled_24 : decode cX7_labelled 24 = .ok (.dup, 1) := by decide +kernel
theorem dX7_labelled_25 : decode cX7_labelled 25 = .ok (.ldc 139, 2) := by decide +kernel
theorem dX7_labelled_27 : decode cX7_labelled 27 = .ok (.invokespecial 141, 3) := by decide +kernel
theorem dX7_labelled_30 : decode cX7_labelled 30 = .ok (.athrow, 1) := by decide +kernel
theorem dX7_labelled_31 : decode cX7_labelled 31 = .ok (.aload_n 3, 1) := by decide +kernel
theorem dX7_labelled_32 : decode cX7_labelled 32 = .ok (.iload_n 2, 1) := by decide +kernel
theorem dX7_labelled_33 : decode cX7_labelled 33 = .ok (.invokevirtual 144, 3) := by decide +kernel
theorem dX7_labelled_36 : decode cX7_labelled 36 = .ok (.ireturn, 1) := by decide +kernel
theorem dX7_chest_0 : decode cX7_chest 0 = .ok (.aload_n 0, 1) := by decide +kernel
theorem dX7_chest_1 : decode cX7_chest 1 = .ok (.iload_n 1, 1) := by decide +kernel
theorem dX7_chest_2 : decode cX7_chest 2 = .ok (.invokevirtual 89, 3) := by decide +kernel
theorem dX7_chest_5 : decode cX7_chest 5 = .ok (.astore_n 3, 1) := by decide +kernel
theorem dX7_chest_6 : decode cX7_chest 6 = .ok (.iload_n 2, 1) := by decide +kernel
theorem dX7_chest_7 : decode cX7_chest 7 = .ok (.tableswitch 122 0 9 #[53, 58, 63, 68, 73, 86, 91, 96, 109, 114], 53) := by decide +kernel
theorem dX7_chest_60 : decode cX7_chest 60 = .ok (.aload_n 3, 1) := by decide +kernel
theorem dX7_chest_61 : decode cX7_chest 61 = .ok (.getfield 148, 3) := by decide +kernel
theorem dX7_chest_64 : decode cX7_chest 64 = .ok (.ireturn, 1) := by decide +kernel
theorem dX7_chest_65 : decode cX7_chest 65 = .ok (.aload_n 3, 1) := by decide +kernel
theorem dX7_chest_66 : decode cX7_chest 66 = .ok (.getfield 151, 3) := by decide +kernel
theorem dX7_chest_69 : decode cX7_chest 69 = .ok (.ireturn, 1) := by decide +kernel
theorem dX7_chest_70 : decode cX7_chest 70 = .ok (.aload_n 3, 1) := by decide +kernel
theorem dX7_chest_71 : decode cX7_chest 71 = .ok (.getfield 154, 3) := by decide +kernel
theorem dX7_chest_74 : decode cX7_chest 74 = .ok (.ireturn, 1) := by decide +kernel
theorem dX7_chest_75 : decode cX7_chest 75 = .ok (.aload_n 3, 1) := by decide +kernel
theorem dX7_chest_76 : decode cX7_chest 76 = .ok (.getfield 107, 3) := by decide +kernel
theorem dX7_chest_79 : decode cX7_chest 79 = .ok (.ireturn, 1) := by decide +kernel
theorem dX7_chest_80 : decode cX7_chest 80 = .ok (.aload_n 3, 1) := by decide +kernel
theorem dX7_chest_81 : decode cX7_chest 81 = .ok (.getfield 157, 3) := by decide +kernel
theorem dX7_chest_84 : decode cX7_chest 84 = .ok (.ifCond .eq 7, 3) := by decide +kernel
theorem dX7_chest_87 : decode cX7_chest 87 = .ok (.iconst 1, 1) := by decide +kernel
theorem dX7_chest_88 : decode cX7_chest 88 = .ok (.goto 4, 3) := by decide +kernel
theorem dX7_chest_91 : decode cX7_chest 91 = .ok (.iconst 0, 1) := by decide +kernel
theorem dX7_chest_92 : decode cX7_chest 92 = .ok (.ireturn, 1) := by decide +kernel
theorem dX7_chest_93 : decode cX7_chest 93 = .ok (.aload_n 3, 1) := by decide +kernel
theorem dX7_chest_94 : decode cX7_chest 94 = .ok (.getfield 121, 3) := by decide +kernel
theorem dX7_chest_97 : decode cX7_chest 97 = .ok (.ireturn, 1) := by decide +kernel
theorem dX7_chest_98 : decode cX7_chest 98 = .ok (.aload_n 3, 1) := by decide +kernel
theorem dX7_chest_99 : decode cX7_chest 99 = .ok (.getfield 160, 3) := by decide +kernel
theorem dX7_chest_102 : decode cX7_chest 102 = .ok (.ireturn, 1) := by decide +kernel
theorem dX7_chest_103 : decode cX7_chest 103 = .ok (.aload_n 3, 1) := by decide +kernel
theorem dX7_chest_104 : decode cX7_chest 104 = .ok (.invokevirtual 117, 3) := by decide +kernel
theorem dX7_chest_107 : decode cX7_chest 107 = .ok (.ifCond .eq 7, 3) := by decide +kernel
theorem dX7_chest_110 : decode cX7_chest 110 = .ok (.iconst 1, 1) := by decide +kernel
theorem dX7_chest_111 : decode cX7_chest 111 = .ok (.goto 4, 3) := by decide +kernel
theorem dX7_chest_114 : decode cX7_chest 114 = .ok (.iconst 0, 1) := by decide +kernel
theorem dX7_chest_115 : decode cX7_chest 115 = .ok (.ireturn, 1) := by decide +kernel
theorem dX7_chest_116 : decode cX7_chest 116 = .ok (.aload_n 3, 1) := by decide +kernel
theorem dX7_chest_117 : decode cX7_chest 117 = .ok (.getfield 163, 3) := by decide +kernel
theorem dX7_chest_120 : decode cX7_chest 120 = .ok (.ireturn, 1) := by decide +kernel
theorem dX7_chest_121 : decode cX7_chest 121 = .ok (.aload_n 3, 1) := by decide +kernel
theorem dX7_chest_122 : decode cX7_chest 122 = .ok (.getfield 128, 3) := by decide +kernel
theorem dX7_chest_125 : decode cX7_chest 125 = .ok (.invokevirtual 132, 3) := by decide +kernel
theorem dX7_chest_128 : decode cX7_chest 128 = .ok (.ireturn, 1) := by decide +kernel
theorem dX7_chest_129 : decode cX7_chest 129 = .ok (.new 166, 3) := by decide +kernel
theorem dX7_chest_132 : decode cX7_chest 132 = .ok (.dup, 1) := by decide +kernel
theorem dX7_chest_133 : decode cX7_chest 133 = .ok (.ldc 168, 2) := by decide +kernel
theorem dX7_chest_135 : decode cX7_chest 135 = .ok (.invokespecial 170, 3) := by decide +kernel
theorem dX7_chest_138 : decode cX7_chest 138 = .ok (.athrow, 1) := by decide +kernel
theorem dX7_worth_0 : decode cX7_worth 0 = .ok (.aload_n 0, 1) := by decide +kernel
theorem dX7_worth_1 : decode cX7_worth 1 = .ok (.iload_n 1, 1) := by decide +kernel
theorem dX7_worth_2 : decode cX7_worth 2 = .ok (.invokevirtual 89, 3) := by decide +kernel
theorem dX7_worth_5 : decode cX7_worth 5 = .ok (.invokevirtual 171, 3) := by decide +kernel
theorem dX7_worth_8 : decode cX7_worth 8 = .ok (.ireturn, 1) := by decide +kernel
theorem dX7_ranked_0 : decode cX7_ranked 0 = .ok (.aload_n 0, 1) := by decide +kernel
theorem dX7_ranked_1 : decode cX7_ranked 1 = .ok (.getfield 10, 3) := by decide +kernel
theorem dX7_ranked_4 : decode cX7_ranked 4 = .ok (.iload_n 1, 1) := by decide +kernel
theorem dX7_ranked_5 : decode cX7_ranked 5 = .ok (.invokevirtual 174, 3) := by decide +kernel
theorem dX7_ranked_8 : decode cX7_ranked 8 = .ok (.istore_n 2, 1) := by decide +kernel
theorem dX7_ranked_9 : decode cX7_ranked 9 = .ok (.iload_n 2, 1) := by decide +kernel
theorem dX7_ranked_10 : decode cX7_ranked 10 = .ok (.ifCond .ge 13, 3) := by decide +kernel
theorem dX7_ranked_13 : decode cX7_ranked 13 = .ok (.new 137, 3) := by decide +kernel
theorem dX7_ranked_16 : decode cX7_ranked 16 = .ok (.dup, 1) := by decide +kernel
theorem dX7_ranked_17 : decode cX7_ranked 17 = .ok (.ldc 178, 2) := by decide +kernel
theorem dX7_ranked_19 : decode cX7_ranked 19 = .ok (.invokespecial 141, 3) := by decide +kernel
theorem dX7_ranked_22 : decode cX7_ranked 22 = .ok (.athrow, 1) := by decide +kernel
theorem dX7_ranked_23 : decode cX7_ranked 23 = .ok (.iload_n 2, 1) := by decide +kernel
theorem dX7_ranked_24 : decode cX7_ranked 24 = .ok (.ireturn, 1) := by decide +kernel
theorem dX7_toQuay_0 : decode cX7_toQuay 0 = .ok (.aload_n 0, 1) := by decide +kernel
theorem dX7_toQuay_1 : decode cX7_toQuay 1 = .ok (.iload_n 1, 1) := by decide +kernel
theorem dX7_toQuay_2 : decode cX7_toQuay 2 = .ok (.invokevirtual 89, 3) := by decide +kernel
theorem dX7_toQuay_5 : decode cX7_toQuay 5 = .ok (.astore_n 2, 1) := by decide +kernel
theorem dX7_toQuay_6 : decode cX7_toQuay 6 = .ok (.aload_n 0, 1) := by decide +kernel
theorem dX7_toQuay_7 : decode cX7_toQuay 7 = .ok (.getfield 26, 3) := by decide +kernel
theorem dX7_toQuay_10 : decode cX7_toQuay 10 = .ok (.aload_n 0, 1) := by decide +kernel
theorem dX7_toQuay_11 : decode cX7_toQuay 11 = .ok (.getfield 10, 3) := by decide +kernel
theorem dX7_toQuay_14 : decode cX7_toQuay 14 = .ok (.invokevirtual 45, 3) := by decide +kernel
theorem dX7_toQuay_17 : decode cX7_toQuay 17 = .ok (.aload_n 0, 1) := by decide +kernel
theorem dX7_toQuay_18 : decode cX7_toQuay 18 = .ok (.aload_n 0, 1) := by decide +kernel
theorem dX7_toQuay_19 : decode cX7_toQuay 19 = .ok (.getfield 10, 3) := by decide +kernel
theorem dX7_toQuay_22 : decode cX7_toQuay 22 = .ok (.aload_n 2, 1) := by decide +kernel
theorem dX7_toQuay_23 : decode cX7_toQuay 23 = .ok (.invokevirtual 180, 3) := by decide +kernel
theorem dX7_toQuay_26 : decode cX7_toQuay 26 = .ok (.invokevirtual 53, 3) := by decide +kernel
theorem dX7_toQuay_29 : decode cX7_toQuay 29 = .ok (.aload_n 0, 1) := by decide +kernel
theorem dX7_toQuay_30 : decode cX7_toQuay 30 = .ok (.getfield 10, 3) := by decide +kernel
theorem dX7_toQuay_33 : decode cX7_toQuay 33 = .ok (.iconst 1, 1) := by decide +kernel
theorem dX7_toQuay_34 : decode cX7_toQuay 34 = .ok (.invokevirtual 183, 3) := by decide +kernel
theorem dX7_toQuay_37 : decode cX7_toQuay 37 = .ok (.ireturn, 1) := by decide +kernel
theorem dX7_load_0 : decode cX7_load 0 = .ok (.aload_n 0, 1) := by decide +kernel
theorem dX7_load_1 : decode cX7_load 1 = .ok (.iload_n 1, 1) := by decide +kernel
theorem dX7_load_2 : decode cX7_load 2 = .ok (.invokevirtual 89, 3) := by decide +kernel
theorem dX7_load_5 : decode cX7_load 5 = .ok (.astore_n 2, 1) := by decide +kernel
theorem dX7_load_6 : decode cX7_load 6 = .ok (.aload_n 0, 1) := by decide +kernel
theorem dX7_load_7 : decode cX7_load 7 = .ok (.getfield 26, 3) := by decide +kernel
theorem dX7_load_10 : decode cX7_load 10 = .ok (.aload_n 0, 1) := by decide +kernel
theorem dX7_load_11 : decode cX7_load 11 = .ok (.getfield 10, 3) := by decide +kernel
theorem dX7_load_14 : decode cX7_load 14 = .ok (.invokevirtual 45, 3) := by decide +kernel
theorem dX7_load_17 : decode cX7_load 17 = .ok (.aload_n 0, 1) := by decide +kernel
theorem dX7_load_18 : decode cX7_load 18 = .ok (.aload_n 0, 1) := by decide +kernel
theorem dX7_load_19 : decode cX7_load 19 = .ok (.getfield 10, 3) := by decide +kernel
theorem dX7_load_22 : decode cX7_load 22 = .ok (.aload_n 2, 1) := by decide +kernel
theorem dX7_load_23 : decode cX7_load 23 = .ok (.invokevirtual 186, 3) := by decide +kernel
theorem dX7_load_26 : decode cX7_load 26 = .ok (.invokevirtual 53, 3) := by decide +kernel
theorem dX7_load_29 : decode cX7_load 29 = .ok (.aload_n 0, 1) := by decide +kernel
theorem dX7_load_30 : decode cX7_load 30 = .ok (.getfield 10, 3) := by decide +kernel
theorem dX7_load_33 : decode cX7_load 33 = .ok (.invokevirtual 189, 3) := by decide +kernel
theorem dX7_load_36 : decode cX7_load 36 = .ok (.ireturn, 1) := by decide +kernel
theorem dX7_sail_0 : decode cX7_sail 0 = .ok (.aload_n 0, 1) := by decide +kernel
theorem dX7_sail_1 : decode cX7_sail 1 = .ok (.getfield 10, 3) := by decide +kernel
theorem dX7_sail_4 : decode cX7_sail 4 = .ok (.invokevirtual 192, 3) := by decide +kernel
theorem dX7_sail_7 : decode cX7_sail 7 = .ok (.istore_n 1, 1) := by decide +kernel
theorem dX7_sail_8 : decode cX7_sail 8 = .ok (.aload_n 0, 1) := by decide +kernel
theorem dX7_sail_9 : decode cX7_sail 9 = .ok (.getfield 26, 3) := by decide +kernel
theorem dX7_sail_12 : decode cX7_sail 12 = .ok (.aload_n 0, 1) := by decide +kernel
theorem dX7_sail_13 : decode cX7_sail 13 = .ok (.getfield 10, 3) := by decide +kernel
theorem dX7_sail_16 : decode cX7_sail 16 = .ok (.invokevirtual 45, 3) := by decide +kernel
theorem dX7_sail_19 : decode cX7_sail 19 = .ok (.aload_n 0, 1) := by decide +kernel
theorem dX7_sail_20 : decode cX7_sail 20 = .ok (.aload_n 0, 1) := by decide +kernel
theorem dX7_sail_21 : decode cX7_sail 21 = .ok (.getfield 10, 3) := by decide +kernel
theorem dX7_sail_24 : decode cX7_sail 24 = .ok (.invokevirtual 195, 3) := by decide +kernel
theorem dX7_sail_27 : decode cX7_sail 27 = .ok (.invokevirtual 53, 3) := by decide +kernel
theorem dX7_sail_30 : decode cX7_sail 30 = .ok (.iload_n 1, 1) := by decide +kernel
theorem dX7_sail_31 : decode cX7_sail 31 = .ok (.ireturn, 1) := by decide +kernel
theorem dX7_cargo_0 : decode cX7_cargo 0 = .ok (.aload_n 0, 1) := by decide +kernel
theorem dX7_cargo_1 : decode cX7_cargo 1 = .ok (.getfield 10, 3) := by decide +kernel
theorem dX7_cargo_4 : decode cX7_cargo 4 = .ok (.invokevirtual 192, 3) := by decide +kernel
theorem dX7_cargo_7 : decode cX7_cargo 7 = .ok (.ireturn, 1) := by decide +kernel
theorem dX7_height_0 : decode cX7_height 0 = .ok (.iload_n 1, 1) := by decide +kernel
theorem dX7_height_1 : decode cX7_height 1 = .ok (.iconst 0, 1) := by decide +kernel
theorem dX7_height_2 : decode cX7_height 2 = .ok (.bipush 99, 2) := by decide +kernel
theorem dX7_height_4 : decode cX7_height 4 = .ok (.invokestatic 41, 3) := by decide +kernel
theorem dX7_height_7 : decode cX7_height 7 = .ok (.aload_n 0, 1) := by decide +kernel
theorem dX7_height_8 : decode cX7_height 8 = .ok (.getfield 10, 3) := by decide +kernel
theorem dX7_height_11 : decode cX7_height 11 = .ok (.iload_n 1, 1) := by decide +kernel
theorem dX7_height_12 : decode cX7_height 12 = .ok (.invokevirtual 198, 3) := by decide +kernel
theorem dX7_height_15 : decode cX7_height 15 = .ok (.ireturn, 1) := by decide +kernel
theorem dX7_heightAgain_0 : decode cX7_heightAgain 0 = .ok (.iload_n 1, 1) := by decide +kernel
theorem dX7_heightAgain_1 : decode cX7_heightAgain 1 = .ok (.iconst 0, 1) := by decide +kernel
theorem dX7_heightAgain_2 : decode cX7_heightAgain 2 = .ok (.bipush 99, 2) := by decide +kernel
theorem dX7_heightAgain_4 : decode cX7_heightAgain 4 = .ok (.invokestatic 41, 3) := by decide +kernel
theorem dX7_heightAgain_7 : decode cX7_heightAgain 7 = .ok (.aload_n 0, 1) := by decide +kernel
theorem dX7_heightAgain_8 : decode cX7_heightAgain 8 = .ok (.getfield 10, 3) := by decide +kernel
theorem dX7_heightAgain_11 : decode cX7_heightAgain 11 = .ok (.getfield 201, 3) := by decide +kernel
theorem dX7_heightAgain_14 : decode cX7_heightAgain 14 = .ok (.iload_n 1, 1) := by decide +kernel
theorem dX7_heightAgain_15 : decode cX7_heightAgain 15 = .ok (.iadd, 1) := by decide +kernel
theorem dX7_heightAgain_16 : decode cX7_heightAgain 16 = .ok (.istore_n 2, 1) := by decide +kernel
theorem dX7_heightAgain_17 : decode cX7_heightAgain 17 = .ok (.bipush 6, 2) := by decide +kernel
theorem dX7_heightAgain_19 : decode cX7_heightAgain 19 = .ok (.istore_n 3, 1) := by decide +kernel
theorem dX7_heightAgain_20 : decode cX7_heightAgain 20 = .ok (.iconst (-1), 1) := by decide +kernel
theorem dX7_heightAgain_21 : decode cX7_heightAgain 21 = .ok (.istore 4, 2) := by decide +kernel
theorem dX7_heightAgain_23 : decode cX7_heightAgain 23 = .ok (.iconst 0, 1) := by decide +kernel
theorem dX7_heightAgain_24 : decode cX7_heightAgain 24 = .ok (.istore 5, 2) := by decide +kernel
theorem dX7_heightAgain_26 : decode cX7_heightAgain 26 = .ok (.iload 5, 2) := by decide +kernel
theorem dX7_heightAgain_28 : decode cX7_heightAgain 28 = .ok (.iload_n 2, 1) := by decide +kernel
theorem dX7_heightAgain_29 : decode cX7_heightAgain 29 = .ok (.if_icmp .ge 33, 3) := by decide +kernel
theorem dX7_heightAgain_32 : decode cX7_heightAgain 32 = .ok (.iload_n 3, 1) := by decide +kernel
theorem dX7_heightAgain_33 : decode cX7_heightAgain 33 = .ok (.ifCond .ne 9, 3) := by decide +kernel
theorem dX7_heightAgain_36 : decode cX7_heightAgain 36 = .ok (.iconst 1, 1) := by decide +kernel
theorem dX7_heightAgain_37 : decode cX7_heightAgain 37 = .ok (.istore 4, 2) := by decide +kernel
theorem dX7_heightAgain_39 : decode cX7_heightAgain 39 = .ok (.goto 12, 3) := by decide +kernel
theorem dX7_heightAgain_42 : decode cX7_heightAgain 42 = .ok (.iload_n 3, 1) := by decide +kernel
theorem dX7_heightAgain_43 : decode cX7_heightAgain 43 = .ok (.bipush 6, 2) := by decide +kernel
theorem dX7_heightAgain_45 : decode cX7_heightAgain 45 = .ok (.if_icmp .ne 6, 3) := by decide +kernel
theorem dX7_heightAgain_48 : decode cX7_heightAgain 48 = .ok (.iconst (-1), 1) := by decide +kernel
theorem dX7_heightAgain_49 : decode cX7_heightAgain 49 = .ok (.istore 4, 2) := by decide +kernel
theorem dX7_heightAgain_51 : decode cX7_heightAgain 51 = .ok (.iload_n 3, 1) := by decide +kernel
theorem dX7_heightAgain_52 : decode cX7_heightAgain 52 = .ok (.iload 4, 2) := by decide +kernel
theorem dX7_heightAgain_54 : decode cX7_heightAgain 54 = .ok (.iadd, 1) := by decide +kernel
theorem dX7_heightAgain_55 : decode cX7_heightAgain 55 = .ok (.istore_n 3, 1) := by decide +kernel
theorem dX7_heightAgain_56 : decode cX7_heightAgain 56 = .ok (.iinc 5 1, 3) := by decide +kernel
theorem dX7_heightAgain_59 : decode cX7_heightAgain 59 = .ok (.goto (-33), 3) := by decide +kernel
theorem dX7_heightAgain_62 : decode cX7_heightAgain 62 = .ok (.iload_n 3, 1) := by decide +kernel
theorem dX7_heightAgain_63 : decode cX7_heightAgain 63 = .ok (.ireturn, 1) := by decide +kernel
theorem dX7_reachedIn_0 : decode cX7_reachedIn 0 = .ok (.iconst 0, 1) := by decide +kernel
theorem dX7_reachedIn_1 : decode cX7_reachedIn 1 = .ok (.istore_n 1, 1) := by decide +kernel
theorem dX7_reachedIn_2 : decode cX7_reachedIn 2 = .ok (.iload_n 1, 1) := by decide +kernel
theorem dX7_reachedIn_3 : decode cX7_reachedIn 3 = .ok (.bipush 12, 2) := by decide +kernel
theorem dX7_reachedIn_5 : decode cX7_reachedIn 5 = .ok (.if_icmp .ge 21, 3) := by decide +kernel
theorem dX7_reachedIn_8 : decode cX7_reachedIn 8 = .ok (.aload_n 0, 1) := by decide +kernel
theorem dX7_reachedIn_9 : decode cX7_reachedIn 9 = .ok (.getfield 10, 3) := by decide +kernel
theorem dX7_reachedIn_12 : decode cX7_reachedIn 12 = .ok (.iload_n 1, 1) := by decide +kernel
theorem dX7_reachedIn_13 : decode cX7_reachedIn 13 = .ok (.invokevirtual 198, 3) := by decide +kernel
theorem dX7_reachedIn_16 : decode cX7_reachedIn 16 = .ok (.iconst 3, 1) := by decide +kernel
theorem dX7_reachedIn_17 : decode cX7_reachedIn 17 = .ok (.if_icmp .ge 9, 3) := by decide +kernel
theorem dX7_reachedIn_20 : decode cX7_reachedIn 20 = .ok (.iinc 1 1, 3) := by decide +kernel
theorem dX7_reachedIn_23 : decode cX7_reachedIn 23 = .ok (.goto (-21), 3) := by decide +kernel
theorem dX7_reachedIn_26 : decode cX7_reachedIn 26 = .ok (.iload_n 1, 1) := by decide +kernel
theorem dX7_reachedIn_27 : decode cX7_reachedIn 27 = .ok (.ireturn, 1) := by decide +kernel
theorem dX7_setHumidity_0 : decode cX7_setHumidity 0 = .ok (.iload_n 1, 1) := by decide +kernel
theorem dX7_setHumidity_1 : decode cX7_setHumidity 1 = .ok (.iconst 0, 1) := by decide +kernel
theorem dX7_setHumidity_2 : decode cX7_setHumidity 2 = .ok (.bipush 9, 2) := by decide +kernel
theorem dX7_setHumidity_4 : decode cX7_setHumidity 4 = .ok (.invokestatic 41, 3) := by decide +kernel
theorem dX7_setHumidity_7 : decode cX7_setHumidity 7 = .ok (.aload_n 0, 1) := by decide +kernel
theorem dX7_setHumidity_8 : decode cX7_setHumidity 8 = .ok (.getfield 10, 3) := by decide +kernel
theorem dX7_setHumidity_11 : decode cX7_setHumidity 11 = .ok (.getfield 204, 3) := by decide +kernel
theorem dX7_setHumidity_14 : decode cX7_setHumidity 14 = .ok (.istore_n 2, 1) := by decide +kernel
theorem dX7_setHumidity_15 : decode cX7_setHumidity 15 = .ok (.aload_n 0, 1) := by decide +kernel
theorem dX7_setHumidity_16 : decode cX7_setHumidity 16 = .ok (.invokevirtual 65, 3) := by decide +kernel
theorem dX7_setHumidity_19 : decode cX7_setHumidity 19 = .ok (.aload_n 0, 1) := by decide +kernel
theorem dX7_setHumidity_20 : decode cX7_setHumidity 20 = .ok (.getfield 10, 3) := by decide +kernel
theorem dX7_setHumidity_23 : decode cX7_setHumidity 23 = .ok (.iload_n 1, 1) := by decide +kernel
theorem dX7_setHumidity_24 : decode cX7_setHumidity 24 = .ok (.putfield 204, 3) := by decide +kernel
theorem dX7_setHumidity_27 : decode cX7_setHumidity 27 = .ok (.iload_n 2, 1) := by decide +kernel
theorem dX7_setHumidity_28 : decode cX7_setHumidity 28 = .ok (.ireturn, 1) := by decide +kernel
theorem dX7_pass_0 : decode cX7_pass 0 = .ok (.iload_n 1, 1) := by decide +kernel
theorem dX7_pass_1 : decode cX7_pass 1 = .ok (.iconst 1, 1) := by decide +kernel
theorem dX7_pass_2 : decode cX7_pass 2 = .ok (.bipush 72, 2) := by decide +kernel
theorem dX7_pass_4 : decode cX7_pass 4 = .ok (.invokestatic 41, 3) := by decide +kernel
theorem dX7_pass_7 : decode cX7_pass 7 = .ok (.aload_n 0, 1) := by decide +kernel
theorem dX7_pass_8 : decode cX7_pass 8 = .ok (.invokevirtual 65, 3) := by decide +kernel
theorem dX7_pass_11 : decode cX7_pass 11 = .ok (.aload_n 0, 1) := by decide +kernel
theorem dX7_pass_12 : decode cX7_pass 12 = .ok (.getfield 10, 3) := by decide +kernel
theorem dX7_pass_15 : decode cX7_pass 15 = .ok (.iload_n 1, 1) := by decide +kernel
theorem dX7_pass_16 : decode cX7_pass 16 = .ok (.invokevirtual 207, 3) := by decide +kernel
theorem dX7_pass_19 : decode cX7_pass 19 = .ok (.pop, 1) := by decide +kernel
theorem dX7_pass_20 : decode cX7_pass 20 = .ok (.aload_n 0, 1) := by decide +kernel
theorem dX7_pass_21 : decode cX7_pass 21 = .ok (.getfield 10, 3) := by decide +kernel
theorem dX7_pass_24 : decode cX7_pass 24 = .ok (.iconst 0, 1) := by decide +kernel
theorem dX7_pass_25 : decode cX7_pass 25 = .ok (.invokevirtual 198, 3) := by decide +kernel
theorem dX7_pass_28 : decode cX7_pass 28 = .ok (.ireturn, 1) := by decide +kernel
theorem dX7_isWell_0 : decode cX7_isWell 0 = .ok (.aload_n 0, 1) := by decide +kernel
theorem dX7_isWell_1 : decode cX7_isWell 1 = .ok (.getfield 10, 3) := by decide +kernel
theorem dX7_isWell_4 : decode cX7_isWell 4 = .ok (.invokevirtual 210, 3) := by decide +kernel
theorem dX7_isWell_7 : decode cX7_isWell 7 = .ok (.aload_n 0, 1) := by decide +kernel
theorem dX7_isWell_8 : decode cX7_isWell 8 = .ok (.getfield 10, 3) := by decide +kernel
theorem dX7_isWell_11 : decode cX7_isWell 11 = .ok (.invokevirtual 213, 3) := by decide +kernel
theorem dX7_isWell_14 : decode cX7_isWell 14 = .ok (.iadd, 1) := by decide +kernel
theorem dX7_isWell_15 : decode cX7_isWell 15 = .ok (.aload_n 0, 1) := by decide +kernel
theorem dX7_isWell_16 : decode cX7_isWell 16 = .ok (.getfield 10, 3) := by decide +kernel
theorem dX7_isWell_19 : decode cX7_isWell 19 = .ok (.getfield 216, 3) := by decide +kernel
theorem dX7_isWell_22 : decode cX7_isWell 22 = .ok (.iadd, 1) := by decide +kernel
theorem dX7_isWell_23 : decode cX7_isWell 23 = .ok (.aload_n 0, 1) := by decide +kernel
theorem dX7_isWell_24 : decode cX7_isWell 24 = .ok (.getfield 10, 3) := by decide +kernel
theorem dX7_isWell_27 : decode cX7_isWell 27 = .ok (.getfield 219, 3) := by decide +kernel
theorem dX7_isWell_30 : decode cX7_isWell 30 = .ok (.iadd, 1) := by decide +kernel
theorem dX7_isWell_31 : decode cX7_isWell 31 = .ok (.istore_n 1, 1) := by decide +kernel
theorem dX7_isWell_32 : decode cX7_isWell 32 = .ok (.iload_n 1, 1) := by decide +kernel
theorem dX7_isWell_33 : decode cX7_isWell 33 = .ok (.aload_n 0, 1) := by decide +kernel
theorem dX7_isWell_34 : decode cX7_isWell 34 = .ok (.getfield 10, 3) := by decide +kernel
theorem dX7_isWell_37 : decode cX7_isWell 37 = .ok (.getfield 222, 3) := by decide +kernel
theorem dX7_isWell_40 : decode cX7_isWell 40 = .ok (.if_icmp .ne 17, 3) := by decide +kernel
theorem dX7_isWell_43 : decode cX7_isWell 43 = .ok (.aload_n 0, 1) := by decide +kernel
theorem dX7_isWell_44 : decode cX7_isWell 44 = .ok (.getfield 10, 3) := by decide +kernel
theorem dX7_isWell_47 : decode cX7_isWell 47 = .ok (.invokevirtual 225, 3) := by decide +kernel
theorem dX7_isWell_50 : decode cX7_isWell 50 = .ok (.ifCond .eq 7, 3) := by decide +kernel
theorem dX7_isWell_53 : decode cX7_isWell 53 = .ok (.iconst 1, 1) := by decide +kernel
theorem dX7_isWell_54 : decode cX7_isWell 54 = .ok (.goto 4, 3) := by decide +kernel
theorem dX7_isWell_57 : decode cX7_isWell 57 = .ok (.iconst 0, 1) := by decide +kernel
theorem dX7_isWell_58 : decode cX7_isWell 58 = .ok (.ireturn, 1) := by decide +kernel
theorem dX7_meanDamp_0 : decode cX7_meanDamp 0 = .ok (.aload_n 0, 1) := by decide +kernel
theorem dX7_meanDamp_1 : decode cX7_meanDamp 1 = .ok (.getfield 10, 3) := by decide +kernel
theorem dX7_meanDamp_4 : decode cX7_meanDamp 4 = .ok (.invokevirtual 228, 3) := by decide +kernel
theorem dX7_meanDamp_7 : decode cX7_meanDamp 7 = .ok (.istore_n 1, 1) := by decide +kernel
theorem dX7_meanDamp_8 : decode cX7_meanDamp 8 = .ok (.iload_n 1, 1) := by decide +kernel
theorem dX7_meanDamp_9 : decode cX7_meanDamp 9 = .ok (.ifCond .ne 13, 3) := by decide +kernel
theorem dX7_meanDamp_12 : decode cX7_meanDamp 12 = .ok (.new 231, 3) := by decide +kernel
theorem dX7_meanDamp_15 : decode cX7_meanDamp 15 = .ok (.dup, 1) := by decide +kernel
theorem dX7_meanDamp_16 : decode cX7_meanDamp 16 = .ok (.ldc 233, 2) := by decide +kernel
theorem dX7_meanDamp_18 : decode cX7_meanDamp 18 = .ok (.invokespecial 235, 3) := by decide +kernel
theorem dX7_meanDamp_21 : decode cX7_meanDamp 21 = .ok (.athrow, 1) := by decide +kernel
theorem dX7_meanDamp_22 : decode cX7_meanDamp 22 = .ok (.aload_n 0, 1) := by decide +kernel
theorem dX7_meanDamp_23 : decode cX7_meanDamp 23 = .ok (.getfield 10, 3) := by decide +kernel
theorem dX7_meanDamp_26 : decode cX7_meanDamp 26 = .ok (.invokevirtual 236, 3) := by decide +kernel
theorem dX7_meanDamp_29 : decode cX7_meanDamp 29 = .ok (.i2d, 1) := by decide +kernel
theorem dX7_meanDamp_30 : decode cX7_meanDamp 30 = .ok (.iload_n 1, 1) := by decide +kernel
theorem dX7_meanDamp_31 : decode cX7_meanDamp 31 = .ok (.i2d, 1) := by decide +kernel
theorem dX7_meanDamp_32 : decode cX7_meanDamp 32 = .ok (.ddiv, 1) := by decide +kernel
theorem dX7_meanDamp_33 : decode cX7_meanDamp 33 = .ok (.dreturn, 1) := by decide +kernel
theorem dX7_sailedShare_0 : decode cX7_sailedShare 0 = .ok (.aload_n 0, 1) := by decide +kernel
theorem dX7_sailedShare_1 : decode cX7_sailedShare 1 = .ok (.getfield 10, 3) := by decide +kernel
theorem dX7_sailedShare_4 : decode cX7_sailedShare 4 = .ok (.getfield 222, 3) := by decide +kernel
theorem dX7_sailedShare_7 : decode cX7_sailedShare 7 = .ok (.ifCond .ne 13, 3) := by decide +kernel
theorem dX7_sailedShare_10 : decode cX7_sailedShare 10 = .ok (.new 231, 3) := by decide +kernel
theorem dX7_sailedShare_13 : decode cX7_sailedShare 13 = .ok (.dup, 1) := by decide +kernel
theorem dX7_sailedShare_14 : decode cX7_sailedShare 14 = .ok (.ldc 239, 2) := by decide +kernel
theorem dX7_sailedShare_16 : decode cX7_sailedShare 16 = .ok (.invokespecial 235, 3) := by decide +kernel
theorem dX7_sailedShare_19 : decode cX7_sailedShare 19 = .ok (.athrow, 1) := by decide +kernel
theorem dX7_sailedShare_20 : decode cX7_sailedShare 20 = .ok (.aload_n 0, 1) := by decide +kernel
theorem dX7_sailedShare_21 : decode cX7_sailedShare 21 = .ok (.getfield 10, 3) := by decide +kernel
theorem dX7_sailedShare_24 : decode cX7_sailedShare 24 = .ok (.getfield 216, 3) := by decide +kernel
theorem dX7_sailedShare_27 : decode cX7_sailedShare 27 = .ok (.i2f, 1) := by decide +kernel
theorem dX7_sailedShare_28 : decode cX7_sailedShare 28 = .ok (.aload_n 0, 1) := by decide +kernel
theorem dX7_sailedShare_29 : decode cX7_sailedShare 29 = .ok (.getfield 10, 3) := by decide +kernel
theorem dX7_sailedShare_32 : decode cX7_sailedShare 32 = .ok (.getfield 222, 3) := by decide +kernel
theorem dX7_sailedShare_35 : decode cX7_sailedShare 35 = .ok (.i2f, 1) := by decide +kernel
theorem dX7_sailedShare_36 : decode cX7_sailedShare 36 = .ok (.fdiv, 1) := by decide +kernel
theorem dX7_sailedShare_37 : decode cX7_sailedShare 37 = .ok (.freturn, 1) := by decide +kernel
theorem dX7_reason_0 : decode cX7_reason 0 = .ok (.aload_n 0, 1) := by decide +kernel
theorem dX7_reason_1 : decode cX7_reason 1 = .ok (.getfield 10, 3) := by decide +kernel
theorem dX7_reason_4 : decode cX7_reason 4 = .ok (.getfield 241, 3) := by decide +kernel
theorem dX7_reason_7 : decode cX7_reason 7 = .ok (.ifCond .ne 13, 3) := by decide +kernel
theorem dX7_reason_10 : decode cX7_reason 10 = .ok (.new 137, 3) := by decide +kernel
theorem dX7_reason_13 : decode cX7_reason 13 = .ok (.dup, 1) := by decide +kernel
theorem dX7_reason_14 : decode cX7_reason 14 = .ok (.ldc 244, 2) := by decide +kernel
theorem dX7_reason_16 : decode cX7_reason 16 = .ok (.invokespecial 141, 3) := by decide +kernel
theorem dX7_reason_19 : decode cX7_reason 19 = .ok (.athrow, 1) := by decide +kernel
theorem dX7_reason_20 : decode cX7_reason 20 = .ok (.iload_n 1, 1) := by decide +kernel
theorem dX7_reason_21 : decode cX7_reason 21 = .ok (.ifCond .eq 13, 3) := by decide +kernel
theorem dX7_reason_24 : decode cX7_reason 24 = .ok (.aload_n 0, 1) := by decide +kernel
theorem dX7_reason_25 : decode cX7_reason 25 = .ok (.getfield 10, 3) := by decide +kernel
theorem dX7_reason_28 : decode cX7_reason 28 = .ok (.getfield 246, 3) := by decide +kernel
theorem dX7_reason_31 : decode cX7_reason 31 = .ok (.goto 10, 3) := by decide +kernel
theorem dX7_reason_34 : decode cX7_reason 34 = .ok (.aload_n 0, 1) := by decide +kernel
theorem dX7_reason_35 : decode cX7_reason 35 = .ok (.getfield 10, 3) := by decide +kernel
theorem dX7_reason_38 : decode cX7_reason 38 = .ok (.getfield 241, 3) := by decide +kernel
theorem dX7_reason_41 : decode cX7_reason 41 = .ok (.ireturn, 1) := by decide +kernel
theorem dX7_account_0 : decode cX7_account 0 = .ok (.iload_n 1, 1) := by decide +kernel
theorem dX7_account_1 : decode cX7_account 1 = .ok (.tableswitch 234 0 17 #[87, 95, 103, 111, 119, 127, 135, 143, 151, 159, 168, 177, 186, 194, 202, 210, 218, 226], 87) := by decide +kernel
theorem dX7_account_88 : decode cX7_account 88 = .ok (.aload_n 0, 1) := by decide +kernel
theorem dX7_account_89 : decode cX7_account 89 = .ok (.getfield 10, 3) := by decide +kernel
theorem dX7_account_92 : decode cX7_account 92 = .ok (.getfield 201, 3) := by decide +kernel
theorem dX7_account_95 : decode cX7_account 95 = .ok (.ireturn, 1) := by decide +kernel
theorem dX7_account_96 : decode cX7_account 96 = .ok (.aload_n 0, 1) := by decide +kernel
theorem dX7_account_97 : decode cX7_account 97 = .ok (.getfield 10, 3) := by decide +kernel
theorem dX7_account_100 : decode cX7_account 100 = .ok (.invokevirtual 210, 3) := by decide +kernel
theorem dX7_account_103 : decode cX7_account 103 = .ok (.ireturn, 1) := by decide +kernel
theorem dX7_account_104 : decode cX7_account 104 = .ok (.aload_n 0, 1) := by decide +kernel
theorem dX7_account_105 : decode cX7_account 105 = .ok (.getfield 10, 3) := by decide +kernel
theorem dX7_account_108 : decode cX7_account 108 = .ok (.invokevirtual 213, 3) := by decide +kernel
theorem dX7_account_111 : decode cX7_account 111 = .ok (.ireturn, 1) := by decide +kernel
theorem dX7_account_112 : decode cX7_account 112 = .ok (.aload_n 0, 1) := by decide +kernel
theorem dX7_account_113 : decode cX7_account 113 = .ok (.getfield 10, 3) := by decide +kernel
theorem dX7_account_116 : decode cX7_account 116 = .ok (.getfield 216, 3) := by decide +kernel
theorem dX7_account_119 : decode cX7_account 119 = .ok (.ireturn, 1) := by decide +kernel
theorem dX7_account_120 : decode cX7_account 120 = .ok (.aload_n 0, 1) := by decide +kernel
theorem dX7_account_121 : decode cX7_account 121 = .ok (.getfield 10, 3) := by decide +kernel
theorem dX7_account_124 : decode cX7_account 124 = .ok (.getfield 219, 3) := by decide +kernel
theorem dX7_account_127 : decode cX7_account 127 = .ok (.ireturn, 1) := by decide +kernel
theorem dX7_account_128 : decode cX7_account 128 = .ok (.aload_n 0, 1) := by decide +kernel
theorem dX7_account_129 : decode cX7_account 129 = .ok (.getfield 10, 3) := by decide +kernel
theorem dX7_account_132 : decode cX7_account 132 = .ok (.getfield 222, 3) := by decide +kernel
theorem dX7_account_135 : decode cX7_account 135 = .ok (.ireturn, 1) := by decide +kernel
theorem dX7_account_136 : decode cX7_account 136 = .ok (.aload_n 0, 1) := by decide +kernel
theorem dX7_account_137 : decode cX7_account 137 = .ok (.getfield 10, 3) := by decide +kernel
theorem dX7_account_140 : decode cX7_account 140 = .ok (.getfield 79, 3) := by decide +kernel
theorem dX7_account_143 : decode cX7_account 143 = .ok (.ireturn, 1) := by decide +kernel
theorem dX7_account_144 : decode cX7_account 144 = .ok (.aload_n 0, 1) := by decide +kernel
theorem dX7_account_145 : decode cX7_account 145 = .ok (.getfield 10, 3) := by decide +kernel
theorem dX7_account_148 : decode cX7_account 148 = .ok (.getfield 72, 3) := by decide +kernel
theorem dX7_account_151 : decode cX7_account 151 = .ok (.ireturn, 1) := by decide +kernel
theorem dX7_account_152 : decode cX7_account 152 = .ok (.aload_n 0, 1) := by decide +kernel
theorem dX7_account_153 : decode cX7_account 153 = .ok (.getfield 10, 3) := by decide +kernel
theorem dX7_account_156 : decode cX7_account 156 = .ok (.getfield 86, 3) := by decide +kernel
theorem dX7_account_159 : decode cX7_account 159 = .ok (.ireturn, 1) := by decide +kernel
theorem dX7_account_160 : decode cX7_account 160 = .ok (.aload_n 0, 1) := by decide +kernel
theorem dX7_account_161 : decode cX7_account 161 = .ok (.getfield 10, 3) := by decide +kernel
theorem dX7_account_164 : decode cX7_account 164 = .ok (.iconst 0, 1) := by decide +kernel
theorem dX7_account_165 : decode cX7_account 165 = .ok (.invokevirtual 183, 3) := by decide +kernel
theorem dX7_account_168 : decode cX7_account 168 = .ok (.ireturn, 1) := by decide +kernel
theorem dX7_account_169 : decode cX7_account 169 = .ok (.aload_n 0, 1) := by decide +kernel
theorem dX7_account_170 : decode cX7_account 170 = .ok (.getfield 10, 3) := by decide +kernel
theorem dX7_account_173 : decode cX7_account 173 = .ok (.iconst 1, 1) := by decide +kernel
theorem dX7_account_174 : decode cX7_account 174 = .ok (.invokevirtual 183, 3) := by decide +kernel
theorem dX7_account_177 : decode cX7_account 177 = .ok (.ireturn, 1) := by decide +kernel
theorem dX7_account_178 : decode cX7_account 178 = .ok (.aload_n 0, 1) := by decide +kernel
theorem dX7_account_179 : decode cX7_account 179 = .ok (.getfield 10, 3) := by decide +kernel
theorem dX7_account_182 : decode cX7_account 182 = .ok (.iconst 2, 1) := by decide +kernel
theorem dX7_account_183 : decode cX7_account 183 = .ok (.invokevirtual 183, 3) := by decide +kernel
theorem dX7_account_186 : decode cX7_account 186 = .ok (.ireturn, 1) := by decide +kernel
theorem dX7_account_187 : decode cX7_account 187 = .ok (.aload_n 0, 1) := by decide +kernel
theorem dX7_account_188 : decode cX7_account 188 = .ok (.getfield 10, 3) := by decide +kernel
theorem dX7_account_191 : decode cX7_account 191 = .ok (.invokevirtual 189, 3) := by decide +kernel
theorem dX7_account_194 : decode cX7_account 194 = .ok (.ireturn, 1) := by decide +kernel
theorem dX7_account_195 : decode cX7_account 195 = .ok (.aload_n 0, 1) := by decide +kernel
theorem dX7_account_196 : decode cX7_account 196 = .ok (.getfield 10, 3) := by decide +kernel
theorem dX7_account_199 : decode cX7_account 199 = .ok (.getfield 249, 3) := by decide +kernel
theorem dX7_account_202 : decode cX7_account 202 = .ok (.ireturn, 1) := by decide +kernel
theorem dX7_account_203 : decode cX7_account 203 = .ok (.aload_n 0, 1) := by decide +kernel
theorem dX7_account_204 : decode cX7_account 204 = .ok (.getfield 10, 3) := by decide +kernel
theorem dX7_account_207 : decode cX7_account 207 = .ok (.getfield 252, 3) := by decide +kernel
theorem dX7_account_210 : decode cX7_account 210 = .ok (.ireturn, 1) := by decide +kernel
theorem dX7_account_211 : decode cX7_account 211 = .ok (.aload_n 0, 1) := by decide +kernel
theorem dX7_account_212 : decode cX7_account 212 = .ok (.getfield 10, 3) := by decide +kernel
theorem dX7_account_215 : decode cX7_account 215 = .ok (.getfield 204, 3) := by decide +kernel
theorem dX7_account_218 : decode cX7_account 218 = .ok (.ireturn, 1) := by decide +kernel
theorem dX7_account_219 : decode cX7_account 219 = .ok (.aload_n 0, 1) := by decide +kernel
theorem dX7_account_220 : decode cX7_account 220 = .ok (.getfield 33, 3) := by decide +kernel
theorem dX7_account_223 : decode cX7_account 223 = .ok (.getfield 254, 3) := by decide +kernel
theorem dX7_account_226 : decode cX7_account 226 = .ok (.ireturn, 1) := by decide +kernel
theorem dX7_account_227 : decode cX7_account 227 = .ok (.aload_n 0, 1) := by decide +kernel
theorem dX7_account_228 : decode cX7_account 228 = .ok (.getfield 26, 3) := by decide +kernel
theorem dX7_account_231 : decode cX7_account 231 = .ok (.getfield 256, 3) := by decide +kernel
theorem dX7_account_234 : decode cX7_account 234 = .ok (.ireturn, 1) := by decide +kernel
theorem dX7_account_235 : decode cX7_account 235 = .ok (.new 166, 3) := by decide +kernel
theorem dX7_account_238 : decode cX7_account 238 = .ok (.dup, 1) := by decide +kernel
theorem dX7_account_239 : decode cX7_account 239 = .ok (.ldc_w 259, 3) := by decide +kernel
theorem dX7_account_242 : decode cX7_account 242 = .ok (.invokespecial 170, 3) := by decide +kernel
theorem dX7_account_245 : decode cX7_account 245 = .ok (.athrow, 1) := by decide +kernel
theorem dX7_feed_0 : decode cX7_feed 0 = .ok (.aload_n 0, 1) := by decide +kernel
theorem dX7_feed_1 : decode cX7_feed 1 = .ok (.getfield 33, 3) := by decide +kernel
theorem dX7_feed_4 : decode cX7_feed 4 = .ok (.iload_n 1, 1) := by decide +kernel
theorem dX7_feed_5 : decode cX7_feed 5 = .ok (.invokevirtual 261, 3) := by decide +kernel
theorem dX7_feed_8 : decode cX7_feed 8 = .ok (.ifCond .ne 14, 3) := by decide +kernel
theorem dX7_feed_11 : decode cX7_feed 11 = .ok (.new 265, 3) := by decide +kernel
theorem dX7_feed_14 : decode cX7_feed 14 = .ok (.dup, 1) := by decide +kernel
theorem dX7_feed_15 : decode cX7_feed 15 = .ok (.ldc_w 267, 3) := by decide +kernel
theorem dX7_feed_18 : decode cX7_feed 18 = .ok (.invokespecial 269, 3) := by decide +kernel
theorem dX7_feed_21 : decode cX7_feed 21 = .ok (.athrow, 1) := by decide +kernel
theorem dX7_feed_22 : decode cX7_feed 22 = .ok (.aload_n 0, 1) := by decide +kernel
theorem dX7_feed_23 : decode cX7_feed 23 = .ok (.getfield 33, 3) := by decide +kernel
theorem dX7_feed_26 : decode cX7_feed 26 = .ok (.getfield 254, 3) := by decide +kernel
theorem dX7_feed_29 : decode cX7_feed 29 = .ok (.ireturn, 1) := by decide +kernel
theorem dX7_perform_0 : decode cX7_perform 0 = .ok (.aload_n 0, 1) := by decide +kernel
theorem dX7_perform_1 : decode cX7_perform 1 = .ok (.getfield 33, 3) := by decide +kernel
theorem dX7_perform_4 : decode cX7_perform 4 = .ok (.invokevirtual 270, 3) := by decide +kernel
theorem dX7_perform_7 : decode cX7_perform 7 = .ok (.istore_n 1, 1) := by decide +kernel
theorem dX7_perform_8 : decode cX7_perform 8 = .ok (.iload_n 1, 1) := by decide +kernel
theorem dX7_perform_9 : decode cX7_perform 9 = .ok (.ifCond .ge 12, 3) := by decide +kernel
theorem dX7_perform_12 : decode cX7_perform 12 = .ok (.aload_n 0, 1) := by decide +kernel
theorem dX7_perform_13 : decode cX7_perform 13 = .ok (.getfield 33, 3) := by decide +kernel
theorem dX7_perform_16 : decode cX7_perform 16 = .ok (.invokevirtual 273, 3) := by decide +kernel
theorem dX7_perform_19 : decode cX7_perform 19 = .ok (.iload_n 1, 1) := by decide +kernel
theorem dX7_perform_20 : decode cX7_perform 20 = .ok (.ireturn, 1) := by decide +kernel
theorem dX7_perform_21 : decode cX7_perform 21 = .ok (.aload_n 0, 1) := by decide +kernel
theorem dX7_perform_22 : decode cX7_perform 22 = .ok (.getfield 26, 3) := by decide +kernel
theorem dX7_perform_25 : decode cX7_perform 25 = .ok (.aload_n 0, 1) := by decide +kernel
theorem dX7_perform_26 : decode cX7_perform 26 = .ok (.getfield 10, 3) := by decide +kernel
theorem dX7_perform_29 : decode cX7_perform 29 = .ok (.invokevirtual 45, 3) := by decide +kernel
theorem dX7_perform_32 : decode cX7_perform 32 = .ok (.aload_n 0, 1) := by decide +kernel
theorem dX7_perform_33 : decode cX7_perform 33 = .ok (.iload_n 1, 1) := by decide +kernel
theorem dX7_perform_34 : decode cX7_perform 34 = .ok (.invokevirtual 276, 3) := by decide +kernel
theorem dX7_perform_37 : decode cX7_perform 37 = .ok (.istore_n 2, 1) := by decide +kernel
theorem dX7_perform_38 : decode cX7_perform 38 = .ok (.aload_n 0, 1) := by decide +kernel
theorem dX7_perform_39 : decode cX7_perform 39 = .ok (.getfield 33, 3) := by decide +kernel
theorem dX7_perform_42 : decode cX7_perform 42 = .ok (.invokevirtual 273, 3) := by decide +kernel
theorem dX7_perform_45 : decode cX7_perform 45 = .ok (.iload_n 2, 1) := by decide +kernel
theorem dX7_perform_46 : decode cX7_perform 46 = .ok (.iload_n 1, 1) := by decide +kernel
theorem dX7_perform_47 : decode cX7_perform 47 = .ok (.if_icmp .ge 25, 3) := by decide +kernel
theorem dX7_perform_50 : decode cX7_perform 50 = .ok (.aload_n 0, 1) := by decide +kernel
theorem dX7_perform_51 : decode cX7_perform 51 = .ok (.getfield 26, 3) := by decide +kernel
theorem dX7_perform_54 : decode cX7_perform 54 = .ok (.aload_n 0, 1) := by decide +kernel
theorem dX7_perform_55 : decode cX7_perform 55 = .ok (.getfield 10, 3) := by decide +kernel
theorem dX7_perform_58 : decode cX7_perform 58 = .ok (.invokevirtual 279, 3) := by decide +kernel
theorem dX7_perform_61 : decode cX7_perform 61 = .ok (.aload_n 0, 1) := by decide +kernel
theorem dX7_perform_62 : decode cX7_perform 62 = .ok (.getfield 10, 3) := by decide +kernel
theorem dX7_perform_65 : decode cX7_perform 65 = .ok (.bipush 19, 2) := by decide +kernel
theorem dX7_perform_67 : decode cX7_perform 67 = .ok (.iload_n 2, 1) := by decide +kernel
theorem dX7_perform_68 : decode cX7_perform 68 = .ok (.invokevirtual 282, 3) := by decide +kernel
theorem dX7_perform_71 : decode cX7_perform 71 = .ok (.pop, 1) := by decide +kernel
theorem dX7_perform_72 : decode cX7_perform 72 = .ok (.aload_n 0, 1) := by decide +kernel
theorem dX7_perform_73 : decode cX7_perform 73 = .ok (.iload_n 2, 1) := by decide +kernel
theorem dX7_perform_74 : decode cX7_perform 74 = .ok (.iload_n 1, 1) := by decide +kernel
theorem dX7_perform_75 : decode cX7_perform 75 = .ok (.if_icmp .ne 7, 3) := by decide +kernel
theorem dX7_perform_78 : decode cX7_perform 78 = .ok (.iconst 1, 1) := by decide +kernel
theorem dX7_perform_79 : decode cX7_perform 79 = .ok (.goto 4, 3) := by decide +kernel
theorem dX7_perform_82 : decode cX7_perform 82 = .ok (.iconst 0, 1) := by decide +kernel
theorem dX7_perform_83 : decode cX7_perform 83 = .ok (.invokevirtual 53, 3) := by decide +kernel
theorem dX7_perform_86 : decode cX7_perform 86 = .ok (.iload_n 1, 1) := by decide +kernel
theorem dX7_perform_87 : decode cX7_perform 87 = .ok (.ireturn, 1) := by decide +kernel
theorem dX7_undo_0 : decode cX7_undo 0 = .ok (.aload_n 0, 1) := by decide +kernel
theorem dX7_undo_1 : decode cX7_undo 1 = .ok (.getfield 26, 3) := by decide +kernel
theorem dX7_undo_4 : decode cX7_undo 4 = .ok (.aload_n 0, 1) := by decide +kernel
theorem dX7_undo_5 : decode cX7_undo 5 = .ok (.getfield 10, 3) := by decide +kernel
theorem dX7_undo_8 : decode cX7_undo 8 = .ok (.invokevirtual 285, 3) := by decide +kernel
theorem dX7_undo_11 : decode cX7_undo 11 = .ok (.ifCond .ne 14, 3) := by decide +kernel
theorem dX7_undo_14 : decode cX7_undo 14 = .ok (.new 265, 3) := by decide +kernel
theorem dX7_undo_17 : decode cX7_undo 17 = .ok (.dup, 1) := by decide +kernel
theorem dX7_undo_18 : decode cX7_undo 18 = .ok (.ldc_w 289, 3) := by decide +kernel
theorem dX7_undo_21 : decode cX7_undo 21 = .ok (.invokespecial 269, 3) := by decide +kernel
theorem dX7_undo_24 : decode cX7_undo 24 = .ok (.athrow, 1) := by decide +kernel
theorem dX7_undo_25 : decode cX7_undo 25 = .ok (.aload_n 0, 1) := by decide +kernel
theorem dX7_undo_26 : decode cX7_undo 26 = .ok (.getfield 26, 3) := by decide +kernel
theorem dX7_undo_29 : decode cX7_undo 29 = .ok (.getfield 256, 3) := by decide +kernel
theorem dX7_undo_32 : decode cX7_undo 32 = .ok (.ireturn, 1) := by decide +kernel
theorem dX7_save_0 : decode cX7_save 0 = .ok (.aload_n 0, 1) := by decide +kernel
theorem dX7_save_1 : decode cX7_save 1 = .ok (.getfield 16, 3) := by decide +kernel
theorem dX7_save_4 : decode cX7_save 4 = .ok (.aload_n 0, 1) := by decide +kernel
theorem dX7_save_5 : decode cX7_save 5 = .ok (.getfield 10, 3) := by decide +kernel
theorem dX7_save_8 : decode cX7_save 8 = .ok (.invokevirtual 291, 3) := by decide +kernel
theorem dX7_save_11 : decode cX7_save 11 = .ok (.aload_n 0, 1) := by decide +kernel
theorem dX7_save_12 : decode cX7_save 12 = .ok (.iconst 1, 1) := by decide +kernel
theorem dX7_save_13 : decode cX7_save 13 = .ok (.putfield 19, 3) := by decide +kernel
theorem dX7_save_16 : decode cX7_save 16 = .ok (.aload_n 0, 1) := by decide +kernel
theorem dX7_save_17 : decode cX7_save 17 = .ok (.getfield 10, 3) := by decide +kernel
theorem dX7_save_20 : decode cX7_save 20 = .ok (.getfield 201, 3) := by decide +kernel
theorem dX7_save_23 : decode cX7_save 23 = .ok (.ireturn, 1) := by decide +kernel
theorem dX7_restore_0 : decode cX7_restore 0 = .ok (.aload_n 0, 1) := by decide +kernel
theorem dX7_restore_1 : decode cX7_restore 1 = .ok (.getfield 19, 3) := by decide +kernel
theorem dX7_restore_4 : decode cX7_restore 4 = .ok (.ifCond .ne 14, 3) := by decide +kernel
theorem dX7_restore_7 : decode cX7_restore 7 = .ok (.new 265, 3) := by decide +kernel
theorem dX7_restore_10 : decode cX7_restore 10 = .ok (.dup, 1) := by decide +kernel
theorem dX7_restore_11 : decode cX7_restore 11 = .ok (.ldc_w 294, 3) := by decide +kernel
theorem dX7_restore_14 : decode cX7_restore 14 = .ok (.invokespecial 269, 3) := by decide +kernel
theorem dX7_restore_17 : decode cX7_restore 17 = .ok (.athrow, 1) := by decide +kernel
theorem dX7_restore_18 : decode cX7_restore 18 = .ok (.aload_n 0, 1) := by decide +kernel
theorem dX7_restore_19 : decode cX7_restore 19 = .ok (.getfield 10, 3) := by decide +kernel
theorem dX7_restore_22 : decode cX7_restore 22 = .ok (.aload_n 0, 1) := by decide +kernel
theorem dX7_restore_23 : decode cX7_restore 23 = .ok (.getfield 16, 3) := by decide +kernel
theorem dX7_restore_26 : decode cX7_restore 26 = .ok (.invokevirtual 291, 3) := by decide +kernel
theorem dX7_restore_29 : decode cX7_restore 29 = .ok (.aload_n 0, 1) := by decide +kernel
theorem dX7_restore_30 : decode cX7_restore 30 = .ok (.getfield 26, 3) := by decide +kernel
theorem dX7_restore_33 : decode cX7_restore 33 = .ok (.invokevirtual 296, 3) := by decide +kernel
theorem dX7_restore_36 : decode cX7_restore 36 = .ok (.aload_n 0, 1) := by decide +kernel
theorem dX7_restore_37 : decode cX7_restore 37 = .ok (.getfield 10, 3) := by decide +kernel
theorem dX7_restore_40 : decode cX7_restore 40 = .ok (.getfield 201, 3) := by decide +kernel
theorem dX7_restore_43 : decode cX7_restore 43 = .ok (.ireturn, 1) := by decide +kernel
theorem dX7_isWithin_0 : decode cX7_isWithin 0 = .ok (.iload_n 0, 1) := by decide +kernel
theorem dX7_isWithin_1 : decode cX7_isWithin 1 = .ok (.iload_n 1, 1) := by decide +kernel
theorem dX7_isWithin_2 : decode cX7_isWithin 2 = .ok (.if_icmp .lt 12, 3) := by decide +kernel
theorem dX7_isWithin_5 : decode cX7_isWithin 5 = .ok (.iload_n 0, 1) := by decide +kernel
theorem dX7_isWithin_6 : decode cX7_isWithin 6 = .ok (.iload_n 2, 1) := by decide +kernel
theorem dX7_isWithin_7 : decode cX7_isWithin 7 = .ok (.if_icmp .gt 7, 3) := by decide +kernel
theorem dX7_isWithin_10 : decode cX7_isWithin 10 = .ok (.iconst 1, 1) := by decide +kernel
theorem dX7_isWithin_11 : decode cX7_isWithin 11 = .ok (.goto 4, 3) := by decide +kernel
theorem dX7_isWithin_14 : decode cX7_isWithin 14 = .ok (.iconst 0, 1) := by decide +kernel
theorem dX7_isWithin_15 : decode cX7_isWithin 15 = .ok (.ireturn, 1) := by decide +kernel
theorem dX7_needRange_0 : decode cX7_needRange 0 = .ok (.iload_n 0, 1) := by decide +kernel
theorem dX7_needRange_1 : decode cX7_needRange 1 = .ok (.iload_n 1, 1) := by decide +kernel
theorem dX7_needRange_2 : decode cX7_needRange 2 = .ok (.iload_n 2, 1) := by decide +kernel
theorem dX7_needRange_3 : decode cX7_needRange 3 = .ok (.invokestatic 299, 3) := by decide +kernel
theorem dX7_needRange_6 : decode cX7_needRange 6 = .ok (.ifCond .ne 14, 3) := by decide +kernel
theorem dX7_needRange_9 : decode cX7_needRange 9 = .ok (.new 166, 3) := by decide +kernel
theorem dX7_needRange_12 : decode cX7_needRange 12 = .ok (.dup, 1) := by decide +kernel
theorem dX7_needRange_13 : decode cX7_needRange 13 = .ok (.ldc_w 302, 3) := by decide +kernel
theorem dX7_needRange_16 : decode cX7_needRange 16 = .ok (.invokespecial 170, 3) := by decide +kernel
theorem dX7_needRange_19 : decode cX7_needRange 19 = .ok (.athrow, 1) := by decide +kernel
theorem dX7_needRange_20 : decode cX7_needRange 20 = .ok (.return_, 1) := by decide +kernel
theorem dX7_needLeaf_0 : decode cX7_needLeaf 0 = .ok (.iload_n 0, 1) := by decide +kernel
theorem dX7_needLeaf_1 : decode cX7_needLeaf 1 = .ok (.iload_n 1, 1) := by decide +kernel
theorem dX7_needLeaf_2 : decode cX7_needLeaf 2 = .ok (.invokestatic 304, 3) := by decide +kernel
theorem dX7_needLeaf_5 : decode cX7_needLeaf 5 = .ok (.ifCond .ne 14, 3) := by decide +kernel
theorem dX7_needLeaf_8 : decode cX7_needLeaf 8 = .ok (.new 307, 3) := by decide +kernel
theorem dX7_needLeaf_11 : decode cX7_needLeaf 11 = .ok (.dup, 1) := by decide +kernel
theorem dX7_needLeaf_12 : decode cX7_needLeaf 12 = .ok (.ldc_w 309, 3) := by decide +kernel
theorem dX7_needLeaf_15 : decode cX7_needLeaf 15 = .ok (.invokespecial 311, 3) := by decide +kernel
theorem dX7_needLeaf_18 : decode cX7_needLeaf 18 = .ok (.athrow, 1) := by decide +kernel
theorem dX7_needLeaf_19 : decode cX7_needLeaf 19 = .ok (.return_, 1) := by decide +kernel
theorem dX7_needChest_0 : decode cX7_needChest 0 = .ok (.aload_n 0, 1) := by decide +kernel
theorem dX7_needChest_1 : decode cX7_needChest 1 = .ok (.getfield 10, 3) := by decide +kernel
theorem dX7_needChest_4 : decode cX7_needChest 4 = .ok (.iload_n 1, 1) := by decide +kernel
theorem dX7_needChest_5 : decode cX7_needChest 5 = .ok (.invokevirtual 312, 3) := by decide +kernel
theorem dX7_needChest_8 : decode cX7_needChest 8 = .ok (.astore_n 2, 1) := by decide +kernel
theorem dX7_needChest_9 : decode cX7_needChest 9 = .ok (.aload_n 2, 1) := by decide +kernel
theorem dX7_needChest_10 : decode cX7_needChest 10 = .ok (.ifnonnull 14, 3) := by decide +kernel
theorem dX7_needChest_13 : decode cX7_needChest 13 = .ok (.new 307, 3) := by decide +kernel
theorem dX7_needChest_16 : decode cX7_needChest 16 = .ok (.dup, 1) := by decide +kernel
theorem dX7_needChest_17 : decode cX7_needChest 17 = .ok (.ldc_w 315, 3) := by decide +kernel
theorem dX7_needChest_20 : decode cX7_needChest 20 = .ok (.invokespecial 311, 3) := by decide +kernel
theorem dX7_needChest_23 : decode cX7_needChest 23 = .ok (.athrow, 1) := by decide +kernel
theorem dX7_needChest_24 : decode cX7_needChest 24 = .ok (.aload_n 2, 1) := by decide +kernel
theorem dX7_needChest_25 : decode cX7_needChest 25 = .ok (.areturn, 1) := by decide +kernel
theorem dX7_keepChange_0 : decode cX7_keepChange 0 = .ok (.aload_n 0, 1) := by decide +kernel
theorem dX7_keepChange_1 : decode cX7_keepChange 1 = .ok (.getfield 26, 3) := by decide +kernel
theorem dX7_keepChange_4 : decode cX7_keepChange 4 = .ok (.aload_n 0, 1) := by decide +kernel
theorem dX7_keepChange_5 : decode cX7_keepChange 5 = .ok (.getfield 10, 3) := by decide +kernel
theorem dX7_keepChange_8 : decode cX7_keepChange 8 = .ok (.invokevirtual 45, 3) := by decide +kernel
theorem dX7_keepChange_11 : decode cX7_keepChange 11 = .ok (.aload_n 0, 1) := by decide +kernel
theorem dX7_keepChange_12 : decode cX7_keepChange 12 = .ok (.getfield 26, 3) := by decide +kernel
theorem dX7_keepChange_15 : decode cX7_keepChange 15 = .ok (.invokevirtual 317, 3) := by decide +kernel
theorem dX7_keepChange_18 : decode cX7_keepChange 18 = .ok (.return_, 1) := by decide +kernel
theorem dX7_conclude_0 : decode cX7_conclude 0 = .ok (.iload_n 1, 1) := by decide +kernel
theorem dX7_conclude_1 : decode cX7_conclude 1 = .ok (.ifCond .ne 14, 3) := by decide +kernel
theorem dX7_conclude_4 : decode cX7_conclude 4 = .ok (.new 320, 3) := by decide +kernel
theorem dX7_conclude_7 : decode cX7_conclude 7 = .ok (.dup, 1) := by decide +kernel
theorem dX7_conclude_8 : decode cX7_conclude 8 = .ok (.ldc_w 322, 3) := by decide +kernel
theorem dX7_conclude_11 : decode cX7_conclude 11 = .ok (.invokespecial 324, 3) := by decide +kernel
theorem dX7_conclude_14 : decode cX7_conclude 14 = .ok (.athrow, 1) := by decide +kernel
theorem dX7_conclude_15 : decode cX7_conclude 15 = .ok (.aload_n 0, 1) := by decide +kernel
theorem dX7_conclude_16 : decode cX7_conclude 16 = .ok (.getfield 26, 3) := by decide +kernel
theorem dX7_conclude_19 : decode cX7_conclude 19 = .ok (.invokevirtual 317, 3) := by decide +kernel
theorem dX7_conclude_22 : decode cX7_conclude 22 = .ok (.return_, 1) := by decide +kernel
theorem dX7_carryOutAll_0 : decode cX7_carryOutAll 0 = .ok (.aload_n 0, 1) := by decide +kernel
theorem dX7_carryOutAll_1 : decode cX7_carryOutAll 1 = .ok (.getfield 33, 3) := by decide +kernel
theorem dX7_carryOutAll_4 : decode cX7_carryOutAll 4 = .ok (.invokevirtual 325, 3) := by decide +kernel
theorem dX7_carryOutAll_7 : decode cX7_carryOutAll 7 = .ok (.iconst 0, 1) := by decide +kernel
theorem dX7_carryOutAll_8 : decode cX7_carryOutAll 8 = .ok (.istore_n 2, 1) := by decide +kernel
theorem dX7_carryOutAll_9 : decode cX7_carryOutAll 9 = .ok (.iload_n 2, 1) := by decide +kernel
theorem dX7_carryOutAll_10 : decode cX7_carryOutAll 10 = .ok (.iload_n 1, 1) := by decide +kernel
theorem dX7_carryOutAll_11 : decode cX7_carryOutAll 11 = .ok (.if_icmp .ge 38, 3) := by decide +kernel
theorem dX7_carryOutAll_14 : decode cX7_carryOutAll 14 = .ok (.aload_n 0, 1) := by decide +kernel
theorem dX7_carryOutAll_15 : decode cX7_carryOutAll 15 = .ok (.getfield 33, 3) := by decide +kernel
theorem dX7_carryOutAll_18 : decode cX7_carryOutAll 18 = .ok (.invokevirtual 328, 3) := by decide +kernel
theorem dX7_carryOutAll_21 : decode cX7_carryOutAll 21 = .ok (.ifCond .eq 10, 3) := by decide +kernel
theorem dX7_carryOutAll_24 : decode cX7_carryOutAll 24 = .ok (.aload_n 0, 1) := by decide +kernel
theorem dX7_carryOutAll_25 : decode cX7_carryOutAll 25 = .ok (.invokevirtual 331, 3) := by decide +kernel
theorem dX7_carryOutAll_28 : decode cX7_carryOutAll 28 = .ok (.ifCond .ne 5, 3) := by decide +kernel
theorem dX7_carryOutAll_31 : decode cX7_carryOutAll 31 = .ok (.iload_n 2, 1) := by decide +kernel
theorem dX7_carryOutAll_32 : decode cX7_carryOutAll 32 = .ok (.ireturn, 1) := by decide +kernel
theorem dX7_carryOutAll_33 : decode cX7_carryOutAll 33 = .ok (.aload_n 0, 1) := by decide +kernel
theorem dX7_carryOutAll_34 : decode cX7_carryOutAll 34 = .ok (.getfield 33, 3) := by decide +kernel
theorem dX7_carryOutAll_37 : decode cX7_carryOutAll 37 = .ok (.bipush 59, 2) := by decide +kernel
theorem dX7_carryOutAll_39 : decode cX7_carryOutAll 39 = .ok (.invokevirtual 334, 3) := by decide +kernel
theorem dX7_carryOutAll_42 : decode cX7_carryOutAll 42 = .ok (.pop, 1) := by decide +kernel
theorem dX7_carryOutAll_43 : decode cX7_carryOutAll 43 = .ok (.iinc 2 1, 3) := by decide +kernel
theorem dX7_carryOutAll_46 : decode cX7_carryOutAll 46 = .ok (.goto (-37), 3) := by decide +kernel
theorem dX7_carryOutAll_49 : decode cX7_carryOutAll 49 = .ok (.iload_n 1, 1) := by decide +kernel
theorem dX7_carryOutAll_50 : decode cX7_carryOutAll 50 = .ok (.ireturn, 1) := by decide +kernel
theorem dX7_carryOutRead_0 : decode cX7_carryOutRead 0 = .ok (.aload_n 0, 1) := by decide +kernel
theorem dX7_carryOutRead_1 : decode cX7_carryOutRead 1 = .ok (.getfield 33, 3) := by decide +kernel
theorem dX7_carryOutRead_4 : decode cX7_carryOutRead 4 = .ok (.getfield 337, 3) := by decide +kernel
theorem dX7_carryOutRead_7 : decode cX7_carryOutRead 7 = .ok (.astore_n 1, 1) := by decide +kernel
theorem dX7_carryOutRead_8 : decode cX7_carryOutRead 8 = .ok (.aload_n 1, 1) := by decide +kernel
theorem dX7_carryOutRead_9 : decode cX7_carryOutRead 9 = .ok (.getstatic 341, 3) := by decide +kernel
theorem dX7_carryOutRead_12 : decode cX7_carryOutRead 12 = .ok (.if_acmp .ne 11, 3) := by decide +kernel
theorem dX7_carryOutRead_15 : decode cX7_carryOutRead 15 = .ok (.aload_n 0, 1) := by decide +kernel
theorem dX7_carryOutRead_16 : decode cX7_carryOutRead 16 = .ok (.getfield 10, 3) := by decide +kernel
theorem dX7_carryOutRead_19 : decode cX7_carryOutRead 19 = .ok (.invokevirtual 195, 3) := by decide +kernel
theorem dX7_carryOutRead_22 : decode cX7_carryOutRead 22 = .ok (.ireturn, 1) := by decide +kernel
theorem dX7_carryOutRead_23 : decode cX7_carryOutRead 23 = .ok (.aload_n 1, 1) := by decide +kernel
theorem dX7_carryOutRead_24 : decode cX7_carryOutRead 24 = .ok (.getstatic 346, 3) := by decide +kernel
theorem dX7_carryOutRead_27 : decode cX7_carryOutRead 27 = .ok (.if_acmp .ne 42, 3) := by decide +kernel
theorem dX7_carryOutRead_30 : decode cX7_carryOutRead 30 = .ok (.aload_n 0, 1) := by decide +kernel
theorem dX7_carryOutRead_31 : decode cX7_carryOutRead 31 = .ok (.getfield 33, 3) := by decide +kernel
theorem dX7_carryOutRead_34 : decode cX7_carryOutRead 34 = .ok (.getfield 349, 3) := by decide +kernel
theorem dX7_carryOutRead_37 : decode cX7_carryOutRead 37 = .ok (.iconst 1, 1) := by decide +kernel
theorem dX7_carryOutRead_38 : decode cX7_carryOutRead 38 = .ok (.bipush 72, 2) := by decide +kernel
theorem dX7_carryOutRead_40 : decode cX7_carryOutRead 40 = .ok (.invokestatic 299, 3) := by decide +kernel
theorem dX7_carryOutRead_43 : decode cX7_carryOutRead 43 = .ok (.ifCond .eq 24, 3) := by decide +kernel
theorem dX7_carryOutRead_46 : decode cX7_carryOutRead 46 = .ok (.aload_n 0, 1) := by decide +kernel
theorem dX7_carryOutRead_47 : decode cX7_carryOutRead 47 = .ok (.getfield 10, 3) := by decide +kernel
theorem dX7_carryOutRead_50 : decode cX7_carryOutRead 50 = .ok (.aload_n 0, 1) := by decide +kernel
theorem dX7_carryOutRead_51 : decode cX7_carryOutRead 51 = .ok (.getfield 33, 3) := by decide +kernel
theorem dX7_carryOutRead_54 : decode cX7_carryOutRead 54 = .ok (.getfield 349, 3) := by decide +kernel
theorem dX7_carryOutRead_57 : decode cX7_carryOutRead 57 = .ok (.invokevirtual 207, 3) := by decide +kernel
theorem dX7_carryOutRead_60 : decode cX7_carryOutRead 60 = .ok (.ifCond .eq 7, 3) := by decide +kernel
theorem dX7_carryOutRead_63 : decode cX7_carryOutRead 63 = .ok (.iconst 1, 1) := by decide +kernel
theorem dX7_carryOutRead_64 : decode cX7_carryOutRead 64 = .ok (.goto 4, 3) := by decide +kernel
theorem dX7_carryOutRead_67 : decode cX7_carryOutRead 67 = .ok (.iconst 0, 1) := by decide +kernel
theorem dX7_carryOutRead_68 : decode cX7_carryOutRead 68 = .ok (.ireturn, 1) := by decide +kernel
theorem dX7_carryOutRead_69 : decode cX7_carryOutRead 69 = .ok (.aload_n 0, 1) := by decide +kernel
theorem dX7_carryOutRead_70 : decode cX7_carryOutRead 70 = .ok (.getfield 10, 3) := by decide +kernel
theorem dX7_carryOutRead_73 : decode cX7_carryOutRead 73 = .ok (.aload_n 0, 1) := by decide +kernel
theorem dX7_carryOutRead_74 : decode cX7_carryOutRead 74 = .ok (.getfield 33, 3) := by decide +kernel
theorem dX7_carryOutRead_77 : decode cX7_carryOutRead 77 = .ok (.getfield 352, 3) := by decide +kernel
theorem dX7_carryOutRead_80 : decode cX7_carryOutRead 80 = .ok (.invokevirtual 312, 3) := by decide +kernel
theorem dX7_carryOutRead_83 : decode cX7_carryOutRead 83 = .ok (.astore_n 2, 1) := by decide +kernel
theorem dX7_carryOutRead_84 : decode cX7_carryOutRead 84 = .ok (.aload_n 1, 1) := by decide +kernel
theorem dX7_carryOutRead_85 : decode cX7_carryOutRead 85 = .ok (.ifnull 7, 3) := by decide +kernel
theorem dX7_carryOutRead_88 : decode cX7_carryOutRead 88 = .ok (.aload_n 2, 1) := by decide +kernel
theorem dX7_carryOutRead_89 : decode cX7_carryOutRead 89 = .ok (.ifnonnull 5, 3) := by decide +kernel
theorem dX7_carryOutRead_92 : decode cX7_carryOutRead 92 = .ok (.iconst 0, 1) := by decide +kernel
theorem dX7_carryOutRead_93 : decode cX7_carryOutRead 93 = .ok (.ireturn, 1) := by decide +kernel
theorem dX7_carryOutRead_94 : decode cX7_carryOutRead 94 = .ok (.getstatic 355, 3) := by decide +kernel
theorem dX7_carryOutRead_97 : decode cX7_carryOutRead 97 = .ok (.aload_n 1, 1) := by decide +kernel
theorem dX7_carryOutRead_98 : decode cX7_carryOutRead 98 = .ok (.invokevirtual 361, 3) := by decide +kernel
theorem dX7_carryOutRead_101 : decode cX7_carryOutRead 101 = .ok (.iaload, 1) := by decide +kernel
theorem dX7_carryOutRead_102 : decode cX7_carryOutRead 102 = .ok (.tableswitch 188 1 6 #[38, 47, 121, 161, 170, 179], 38) := by decide +kernel
theorem dX7_carryOutRead_140 : decode cX7_carryOutRead 140 = .ok (.aload_n 0, 1) := by decide +kernel
theorem dX7_carryOutRead_141 : decode cX7_carryOutRead 141 = .ok (.getfield 10, 3) := by decide +kernel
theorem dX7_carryOutRead_144 : decode cX7_carryOutRead 144 = .ok (.aload_n 2, 1) := by decide +kernel
theorem dX7_carryOutRead_145 : decode cX7_carryOutRead 145 = .ok (.invokevirtual 93, 3) := by decide +kernel
theorem dX7_carryOutRead_148 : decode cX7_carryOutRead 148 = .ok (.ireturn, 1) := by decide +kernel
theorem dX7_carryOutRead_149 : decode cX7_carryOutRead 149 = .ok (.aload_n 0, 1) := by decide +kernel
theorem dX7_carryOutRead_150 : decode cX7_carryOutRead 150 = .ok (.getfield 33, 3) := by decide +kernel
theorem dX7_carryOutRead_153 : decode cX7_carryOutRead 153 = .ok (.getfield 364, 3) := by decide +kernel
theorem dX7_carryOutRead_156 : decode cX7_carryOutRead 156 = .ok (.aload_n 0, 1) := by decide +kernel
theorem dX7_carryOutRead_157 : decode cX7_carryOutRead 157 = .ok (.getfield 33, 3) := by decide +kernel
theorem dX7_carryOutRead_160 : decode cX7_carryOutRead 160 = .ok (.getfield 365, 3) := by decide +kernel
theorem dX7_carryOutRead_163 : decode cX7_carryOutRead 163 = .ok (.invokestatic 304, 3) := by decide +kernel
theorem dX7_carryOutRead_166 : decode cX7_carryOutRead 166 = .ok (.ifCond .eq 55, 3) := by decide +kernel
theorem dX7_carryOutRead_169 : decode cX7_carryOutRead 169 = .ok (.aload_n 0, 1) := by decide +kernel
theorem dX7_carryOutRead_170 : decode cX7_carryOutRead 170 = .ok (.getfield 33, 3) := by decide +kernel
theorem dX7_carryOutRead_173 : decode cX7_carryOutRead 173 = .ok (.getfield 349, 3) := by decide +kernel
theorem dX7_carryOutRead_176 : decode cX7_carryOutRead 176 = .ok (.iconst 1, 1) := by decide +kernel
theorem dX7_carryOutRead_177 : decode cX7_carryOutRead 177 = .ok (.bipush 50, 2) := by decide +kernel
theorem dX7_carryOutRead_179 : decode cX7_carryOutRead 179 = .ok (.invokestatic 299, 3) := by decide +kernel
theorem dX7_carryOutRead_182 : decode cX7_carryOutRead 182 = .ok (.ifCond .eq 39, 3) := by decide +kernel
theorem dX7_carryOutRead_185 : decode cX7_carryOutRead 185 = .ok (.aload_n 0, 1) := by decide +kernel
theorem dX7_carryOutRead_186 : decode cX7_carryOutRead 186 = .ok (.getfield 10, 3) := by decide +kernel
theorem dX7_carryOutRead_189 : decode cX7_carryOutRead 189 = .ok (.aload_n 2, 1) := by decide +kernel
theorem dX7_carryOutRead_190 : decode cX7_carryOutRead 190 = .ok (.aload_n 0, 1) := by decide +kernel
theorem dX7_carryOutRead_191 : decode cX7_carryOutRead 191 = .ok (.getfield 33, 3) := by decide +kernel
theorem dX7_carryOutRead_194 : decode cX7_carryOutRead 194 = .ok (.getfield 364, 3) := by decide +kernel
theorem dX7_carryOutRead_197 : decode cX7_carryOutRead 197 = .ok (.aload_n 0, 1) := by decide +kernel
theorem dX7_carryOutRead_198 : decode cX7_carryOutRead 198 = .ok (.getfield 33, 3) := by decide +kernel
theorem dX7_carryOutRead_201 : decode cX7_carryOutRead 201 = .ok (.getfield 365, 3) := by decide +kernel
theorem dX7_carryOutRead_204 : decode cX7_carryOutRead 204 = .ok (.aload_n 0, 1) := by decide +kernel
theorem dX7_carryOutRead_205 : decode cX7_carryOutRead 205 = .ok (.getfield 33, 3) := by decide +kernel
theorem dX7_carryOutRead_208 : decode cX7_carryOutRead 208 = .ok (.getfield 349, 3) := by decide +kernel
theorem dX7_carryOutRead_211 : decode cX7_carryOutRead 211 = .ok (.invokevirtual 97, 3) := by decide +kernel
theorem dX7_carryOutRead_214 : decode cX7_carryOutRead 214 = .ok (.ifCond .eq 7, 3) := by decide +kernel
theorem dX7_carryOutRead_217 : decode cX7_carryOutRead 217 = .ok (.iconst 1, 1) := by decide +kernel
theorem dX7_carryOutRead_218 : decode cX7_carryOutRead 218 = .ok (.goto 4, 3) := by decide +kernel
theorem dX7_carryOutRead_221 : decode cX7_carryOutRead 221 = .ok (.iconst 0, 1) := by decide +kernel
theorem dX7_carryOutRead_222 : decode cX7_carryOutRead 222 = .ok (.ireturn, 1) := by decide +kernel
theorem dX7_carryOutRead_223 : decode cX7_carryOutRead 223 = .ok (.aload_n 0, 1) := by decide +kernel
theorem dX7_carryOutRead_224 : decode cX7_carryOutRead 224 = .ok (.getfield 33, 3) := by decide +kernel
theorem dX7_carryOutRead_227 : decode cX7_carryOutRead 227 = .ok (.getfield 349, 3) := by decide +kernel
theorem dX7_carryOutRead_230 : decode cX7_carryOutRead 230 = .ok (.iconst 1, 1) := by decide +kernel
theorem dX7_carryOutRead_231 : decode cX7_carryOutRead 231 = .ok (.bipush 8, 2) := by decide +kernel
theorem dX7_carryOutRead_233 : decode cX7_carryOutRead 233 = .ok (.invokestatic 299, 3) := by decide +kernel
theorem dX7_carryOutRead_236 : decode cX7_carryOutRead 236 = .ok (.ifCond .eq 25, 3) := by decide +kernel
theorem dX7_carryOutRead_239 : decode cX7_carryOutRead 239 = .ok (.aload_n 0, 1) := by decide +kernel
theorem dX7_carryOutRead_240 : decode cX7_carryOutRead 240 = .ok (.getfield 10, 3) := by decide +kernel
theorem dX7_carryOutRead_243 : decode cX7_carryOutRead 243 = .ok (.aload_n 2, 1) := by decide +kernel
theorem dX7_carryOutRead_244 : decode cX7_carryOutRead 244 = .ok (.aload_n 0, 1) := by decide +kernel
theorem dX7_carryOutRead_245 : decode cX7_carryOutRead 245 = .ok (.getfield 33, 3) := by decide +kernel
theorem dX7_carryOutRead_248 : decode cX7_carryOutRead 248 = .ok (.getfield 349, 3) := by decide +kernel
theorem dX7_carryOutRead_251 : decode cX7_carryOutRead 251 = .ok (.invokevirtual 113, 3) := by decide +kernel
theorem dX7_carryOutRead_254 : decode cX7_carryOutRead 254 = .ok (.ifCond .eq 7, 3) := by decide +kernel
theorem dX7_carryOutRead_257 : decode cX7_carryOutRead 257 = .ok (.iconst 1, 1) := by decide +kernel
theorem dX7_carryOutRead_258 : decode cX7_carryOutRead 258 = .ok (.goto 4, 3) := by decide +kernel
theorem dX7_carryOutRead_261 : decode cX7_carryOutRead 261 = .ok (.iconst 0, 1) := by decide +kernel
theorem dX7_carryOutRead_262 : decode cX7_carryOutRead 262 = .ok (.ireturn, 1) := by decide +kernel
theorem dX7_carryOutRead_263 : decode cX7_carryOutRead 263 = .ok (.aload_n 0, 1) := by decide +kernel
theorem dX7_carryOutRead_264 : decode cX7_carryOutRead 264 = .ok (.getfield 10, 3) := by decide +kernel
theorem dX7_carryOutRead_267 : decode cX7_carryOutRead 267 = .ok (.aload_n 2, 1) := by decide +kernel
theorem dX7_carryOutRead_268 : decode cX7_carryOutRead 268 = .ok (.invokevirtual 125, 3) := by decide +kernel
theorem dX7_carryOutRead_271 : decode cX7_carryOutRead 271 = .ok (.ireturn, 1) := by decide +kernel
theorem dX7_carryOutRead_272 : decode cX7_carryOutRead 272 = .ok (.aload_n 0, 1) := by decide +kernel
theorem dX7_carryOutRead_273 : decode cX7_carryOutRead 273 = .ok (.getfield 10, 3) := by decide +kernel
theorem dX7_carryOutRead_276 : decode cX7_carryOutRead 276 = .ok (.aload_n 2, 1) := by decide +kernel
theorem dX7_carryOutRead_277 : decode cX7_carryOutRead 277 = .ok (.invokevirtual 180, 3) := by decide +kernel
theorem dX7_carryOutRead_280 : decode cX7_carryOutRead 280 = .ok (.ireturn, 1) := by decide +kernel
theorem dX7_carryOutRead_281 : decode cX7_carryOutRead 281 = .ok (.aload_n 0, 1) := by decide +kernel
theorem dX7_carryOutRead_282 : decode cX7_carryOutRead 282 = .ok (.getfield 10, 3) := by decide +kernel
theorem dX7_carryOutRead_285 : decode cX7_carryOutRead 285 = .ok (.aload_n 2, 1) := by decide +kernel
theorem dX7_carryOutRead_286 : decode cX7_carryOutRead 286 = .ok (.invokevirtual 186, 3) := by decide +kernel
theorem dX7_carryOutRead_289 : decode cX7_carryOutRead 289 = .ok (.ireturn, 1) := by decide +kernel
theorem dX7_carryOutRead_290 : decode cX7_carryOutRead 290 = .ok (.iconst 0, 1) := by decide +kernel
theorem dX7_carryOutRead_291 : decode cX7_carryOutRead 291 = .ok (.ireturn, 1) := by decide +kernel
end
