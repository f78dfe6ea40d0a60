-- begun from the claim's printed names and the skeleton's PART A (starting texts)
-- ===== PART A: goes FIRST, ahead of the names: the tables' words, and 'selects' of the private methods out of them =====
/-- a private method of a class that the tables say can be made, by its rows of tables_1 -/
def lw_okq (q : MethodName × Nat) : Prop := (q.1.cls ≠ "java/lang/invoke/MethodHandle" ∧ q.1.cls ≠ "java/lang/invoke/VarHandle") ∧ Cond.instantiable q.1.cls q.2 ∈ tables_1 ∧ Cond.privateMethod q.1 ∈ tables_1 ∧ Cond.instanceMethod q.1 ∈ tables_1
theorem lw_p0 : lw_okq (⟨"BurdenHouse", "isTold", "(III)Z"⟩, 9) := ⟨⟨by decide +kernel, by decide +kernel⟩, List.mem_of_getElem? (i := 21) (by decide +kernel), List.mem_of_getElem? (i := 1075) (by decide +kernel), List.mem_of_getElem? (i := 1076) (by decide +kernel)⟩
theorem lw_p1 : lw_okq (⟨"BurdenHouseModel", "binAt", "(I)I"⟩, 36) := ⟨⟨by decide +kernel, by decide +kernel⟩, List.mem_of_getElem? (i := 1115) (by decide +kernel), List.mem_of_getElem? (i := 1241) (by decide +kernel), List.mem_of_getElem? (i := 1242) (by decide +kernel)⟩
theorem lw_p2 : lw_okq (⟨"BurdenHouseModel", "isBin", "(I)Z"⟩, 36) := ⟨⟨by decide +kernel, by decide +kernel⟩, List.mem_of_getElem? (i := 1115) (by decide +kernel), List.mem_of_getElem? (i := 1249) (by decide +kernel), List.mem_of_getElem? (i := 1250) (by decide +kernel)⟩
theorem lw_p3 : lw_okq (⟨"BurdenHouseModel", "brings", "(III)I"⟩, 36) := ⟨⟨by decide +kernel, by decide +kernel⟩, List.mem_of_getElem? (i := 1115) (by decide +kernel), List.mem_of_getElem? (i := 1265) (by decide +kernel), List.mem_of_getElem? (i := 1266) (by decide +kernel)⟩
theorem lw_p4 : lw_okq (⟨"BurdenHouseModel", "becomes", "(II)I"⟩, 36) := ⟨⟨by decide +kernel, by decide +kernel⟩, List.mem_of_getElem? (i := 1115) (by decide +kernel), List.mem_of_getElem? (i := 1295) (by decide +kernel), List.mem_of_getElem? (i := 1296) (by decide +kernel)⟩
theorem lw_p5 : lw_okq (⟨"BurdenHouseModel", "comes", "(II)V"⟩, 36) := ⟨⟨by decide +kernel, by decide +kernel⟩, List.mem_of_getElem? (i := 1115) (by decide +kernel), List.mem_of_getElem? (i := 1313) (by decide +kernel), List.mem_of_getElem? (i := 1314) (by decide +kernel)⟩
theorem lw_p6 : lw_okq (⟨"BurdenHouseModel", "layerAt", "(I)I"⟩, 36) := ⟨⟨by decide +kernel, by decide +kernel⟩, List.mem_of_getElem? (i := 1115) (by decide +kernel), List.mem_of_getElem? (i := 1317) (by decide +kernel), List.mem_of_getElem? (i := 1318) (by decide +kernel)⟩
theorem lw_p7 : lw_okq (⟨"BurdenHouseModel", "part", "(I)V"⟩, 36) := ⟨⟨by decide +kernel, by decide +kernel⟩, List.mem_of_getElem? (i := 1115) (by decide +kernel), List.mem_of_getElem? (i := 1321) (by decide +kernel), List.mem_of_getElem? (i := 1322) (by decide +kernel)⟩
theorem lw_p8 : lw_okq (⟨"BurdenHouseModel", "slide", "(I)V"⟩, 36) := ⟨⟨by decide +kernel, by decide +kernel⟩, List.mem_of_getElem? (i := 1115) (by decide +kernel), List.mem_of_getElem? (i := 1326) (by decide +kernel), List.mem_of_getElem? (i := 1327) (by decide +kernel)⟩
theorem lw_p9 : lw_okq (⟨"BurdenHouseModel", "bulkIn", "(I)I"⟩, 36) := ⟨⟨by decide +kernel, by decide +kernel⟩, List.mem_of_getElem? (i := 1115) (by decide +kernel), List.mem_of_getElem? (i := 1330) (by decide +kernel), List.mem_of_getElem? (i := 1331) (by decide +kernel)⟩
theorem lw_p10 : lw_okq (⟨"BurdenHouseModel", "bulkOfLayer", "(I)I"⟩, 36) := ⟨⟨by decide +kernel, by decide +kernel⟩, List.mem_of_getElem? (i := 1115) (by decide +kernel), List.mem_of_getElem? (i := 1342) (by decide +kernel), List.mem_of_getElem? (i := 1343) (by decide +kernel)⟩
theorem lw_p11 : lw_okq (⟨"BurdenHouseModel", "topOf", "(I)I"⟩, 36) := ⟨⟨by decide +kernel, by decide +kernel⟩, List.mem_of_getElem? (i := 1115) (by decide +kernel), List.mem_of_getElem? (i := 1351) (by decide +kernel), List.mem_of_getElem? (i := 1352) (by decide +kernel)⟩
theorem lw_p12 : lw_okq (⟨"BurdenHouseModel", "resistance", "(I)I"⟩, 36) := ⟨⟨by decide +kernel, by decide +kernel⟩, List.mem_of_getElem? (i := 1115) (by decide +kernel), List.mem_of_getElem? (i := 1355) (by decide +kernel), List.mem_of_getElem? (i := 1356) (by decide +kernel)⟩
theorem lw_p13 : lw_okq (⟨"BurdenHouseModel", "partGas", "()V"⟩, 36) := ⟨⟨by decide +kernel, by decide +kernel⟩, List.mem_of_getElem? (i := 1115) (by decide +kernel), List.mem_of_getElem? (i := 1359) (by decide +kernel), List.mem_of_getElem? (i := 1360) (by decide +kernel)⟩
theorem lw_p14 : lw_okq (⟨"BurdenHouseModel", "gasNow", "()I"⟩, 36) := ⟨⟨by decide +kernel, by decide +kernel⟩, List.mem_of_getElem? (i := 1115) (by decide +kernel), List.mem_of_getElem? (i := 1363) (by decide +kernel), List.mem_of_getElem? (i := 1364) (by decide +kernel)⟩
theorem lw_p15 : lw_okq (⟨"BurdenHouseModel", "counts", "(I)I"⟩, 36) := ⟨⟨by decide +kernel, by decide +kernel⟩, List.mem_of_getElem? (i := 1115) (by decide +kernel), List.mem_of_getElem? (i := 1367) (by decide +kernel), List.mem_of_getElem? (i := 1368) (by decide +kernel)⟩
def lw_privs_1 : List (MethodName × Nat) := [(⟨"BurdenHouse", "isTold", "(III)Z"⟩, 9), (⟨"BurdenHouseModel", "binAt", "(I)I"⟩, 36), (⟨"BurdenHouseModel", "isBin", "(I)Z"⟩, 36), (⟨"BurdenHouseModel", "brings", "(III)I"⟩, 36), (⟨"BurdenHouseModel", "becomes", "(II)I"⟩, 36), (⟨"BurdenHouseModel", "comes", "(II)V"⟩, 36), (⟨"BurdenHouseModel", "layerAt", "(I)I"⟩, 36), (⟨"BurdenHouseModel", "part", "(I)V"⟩, 36), (⟨"BurdenHouseModel", "slide", "(I)V"⟩, 36), (⟨"BurdenHouseModel", "bulkIn", "(I)I"⟩, 36), (⟨"BurdenHouseModel", "bulkOfLayer", "(I)I"⟩, 36), (⟨"BurdenHouseModel", "topOf", "(I)I"⟩, 36), (⟨"BurdenHouseModel", "resistance", "(I)I"⟩, 36), (⟨"BurdenHouseModel", "partGas", "()V"⟩, 36), (⟨"BurdenHouseModel", "gasNow", "()I"⟩, 36), (⟨"BurdenHouseModel", "counts", "(I)I"⟩, 36)]
theorem lw_r1 : ∀ q ∈ lw_privs_1, lw_okq q := List.forall_mem_cons.mpr ⟨lw_p0, List.forall_mem_cons.mpr ⟨lw_p1, List.forall_mem_cons.mpr ⟨lw_p2, List.forall_mem_cons.mpr ⟨lw_p3, List.forall_mem_cons.mpr ⟨lw_p4, List.forall_mem_cons.mpr ⟨lw_p5, List.forall_mem_cons.mpr ⟨lw_p6, List.forall_mem_cons.mpr ⟨lw_p7, List.forall_mem_cons.mpr ⟨lw_p8, List.forall_mem_cons.mpr ⟨lw_p9, List.forall_mem_cons.mpr ⟨lw_p10, List.forall_mem_cons.mpr ⟨lw_p11, List.forall_mem_cons.mpr ⟨lw_p12, List.forall_mem_cons.mpr ⟨lw_p13, List.forall_mem_cons.mpr ⟨lw_p14, List.forall_mem_cons.mpr ⟨lw_p15, fun _ h => absurd h List.not_mem_nil⟩⟩⟩⟩⟩⟩⟩⟩⟩⟩⟩⟩⟩⟩⟩⟩
theorem lw_p16 : lw_okq (⟨"BurdenHouseModel", "textAt", "(I)I"⟩, 36) := ⟨⟨by decide +kernel, by decide +kernel⟩, List.mem_of_getElem? (i := 1115) (by decide +kernel), List.mem_of_getElem? (i := 1371) (by decide +kernel), List.mem_of_getElem? (i := 1372) (by decide +kernel)⟩
theorem lw_p17 : lw_okq (⟨"BurdenHouseModel", "greatestTop", "()I"⟩, 36) := ⟨⟨by decide +kernel, by decide +kernel⟩, List.mem_of_getElem? (i := 1115) (by decide +kernel), List.mem_of_getElem? (i := 1375) (by decide +kernel), List.mem_of_getElem? (i := 1376) (by decide +kernel)⟩
theorem lw_p18 : lw_okq (⟨"BurdenHouseModel", "worked", "(I)I"⟩, 36) := ⟨⟨by decide +kernel, by decide +kernel⟩, List.mem_of_getElem? (i := 1115) (by decide +kernel), List.mem_of_getElem? (i := 1379) (by decide +kernel), List.mem_of_getElem? (i := 1380) (by decide +kernel)⟩
theorem lw_p19 : lw_okq (⟨"BurdenHouseModel", "oneHour", "()V"⟩, 36) := ⟨⟨by decide +kernel, by decide +kernel⟩, List.mem_of_getElem? (i := 1115) (by decide +kernel), List.mem_of_getElem? (i := 1395) (by decide +kernel), List.mem_of_getElem? (i := 1396) (by decide +kernel)⟩
theorem lw_p20 : lw_okq (⟨"BurdenHouseModel", "goes", "(III)V"⟩, 36) := ⟨⟨by decide +kernel, by decide +kernel⟩, List.mem_of_getElem? (i := 1115) (by decide +kernel), List.mem_of_getElem? (i := 1402) (by decide +kernel), List.mem_of_getElem? (i := 1403) (by decide +kernel)⟩
theorem lw_p21 : lw_okq (⟨"BurdenHouseModel", "basic", "()I"⟩, 36) := ⟨⟨by decide +kernel, by decide +kernel⟩, List.mem_of_getElem? (i := 1115) (by decide +kernel), List.mem_of_getElem? (i := 1410) (by decide +kernel), List.mem_of_getElem? (i := 1411) (by decide +kernel)⟩
theorem lw_p22 : lw_okq (⟨"BurdenHouseModel", "castOut", "(I)V"⟩, 36) := ⟨⟨by decide +kernel, by decide +kernel⟩, List.mem_of_getElem? (i := 1115) (by decide +kernel), List.mem_of_getElem? (i := 1423) (by decide +kernel), List.mem_of_getElem? (i := 1424) (by decide +kernel)⟩
theorem lw_p23 : lw_okq (⟨"BurdenHouseModel", "setAside", "([I[I)V"⟩, 36) := ⟨⟨by decide +kernel, by decide +kernel⟩, List.mem_of_getElem? (i := 1115) (by decide +kernel), List.mem_of_getElem? (i := 1431) (by decide +kernel), List.mem_of_getElem? (i := 1432) (by decide +kernel)⟩
theorem lw_p24 : lw_okq (⟨"BurdenHouseModel", "parse", "()I"⟩, 36) := ⟨⟨by decide +kernel, by decide +kernel⟩, List.mem_of_getElem? (i := 1115) (by decide +kernel), List.mem_of_getElem? (i := 1451) (by decide +kernel), List.mem_of_getElem? (i := 1452) (by decide +kernel)⟩
theorem lw_p25 : lw_okq (⟨"BurdenHouseModel", "next", "()V"⟩, 36) := ⟨⟨by decide +kernel, by decide +kernel⟩, List.mem_of_getElem? (i := 1115) (by decide +kernel), List.mem_of_getElem? (i := 1455) (by decide +kernel), List.mem_of_getElem? (i := 1456) (by decide +kernel)⟩
theorem lw_p26 : lw_okq (⟨"BurdenHouseModel", "isLetter", "(I)Z"⟩, 36) := ⟨⟨by decide +kernel, by decide +kernel⟩, List.mem_of_getElem? (i := 1115) (by decide +kernel), List.mem_of_getElem? (i := 1459) (by decide +kernel), List.mem_of_getElem? (i := 1460) (by decide +kernel)⟩
theorem lw_p27 : lw_okq (⟨"BurdenHouseModel", "isDigit", "(I)Z"⟩, 36) := ⟨⟨by decide +kernel, by decide +kernel⟩, List.mem_of_getElem? (i := 1115) (by decide +kernel), List.mem_of_getElem? (i := 1465) (by decide +kernel), List.mem_of_getElem? (i := 1466) (by decide +kernel)⟩
theorem lw_p28 : lw_okq (⟨"BurdenHouseModel", "key", "()I"⟩, 36) := ⟨⟨by decide +kernel, by decide +kernel⟩, List.mem_of_getElem? (i := 1115) (by decide +kernel), List.mem_of_getElem? (i := 1471) (by decide +kernel), List.mem_of_getElem? (i := 1472) (by decide +kernel)⟩
theorem lw_p29 : lw_okq (⟨"BurdenHouseModel", "isWordAt", "(IIII)Z"⟩, 36) := ⟨⟨by decide +kernel, by decide +kernel⟩, List.mem_of_getElem? (i := 1115) (by decide +kernel), List.mem_of_getElem? (i := 1475) (by decide +kernel), List.mem_of_getElem? (i := 1476) (by decide +kernel)⟩
theorem lw_p30 : lw_okq (⟨"BurdenHouseModel", "either", "(I)Z"⟩, 36) := ⟨⟨by decide +kernel, by decide +kernel⟩, List.mem_of_getElem? (i := 1115) (by decide +kernel), List.mem_of_getElem? (i := 1479) (by decide +kernel), List.mem_of_getElem? (i := 1480) (by decide +kernel)⟩
theorem lw_p31 : lw_okq (⟨"BurdenHouseModel", "both", "(I)Z"⟩, 36) := ⟨⟨by decide +kernel, by decide +kernel⟩, List.mem_of_getElem? (i := 1115) (by decide +kernel), List.mem_of_getElem? (i := 1483) (by decide +kernel), List.mem_of_getElem? (i := 1484) (by decide +kernel)⟩
def lw_privs_2 : List (MethodName × Nat) := [(⟨"BurdenHouseModel", "textAt", "(I)I"⟩, 36), (⟨"BurdenHouseModel", "greatestTop", "()I"⟩, 36), (⟨"BurdenHouseModel", "worked", "(I)I"⟩, 36), (⟨"BurdenHouseModel", "oneHour", "()V"⟩, 36), (⟨"BurdenHouseModel", "goes", "(III)V"⟩, 36), (⟨"BurdenHouseModel", "basic", "()I"⟩, 36), (⟨"BurdenHouseModel", "castOut", "(I)V"⟩, 36), (⟨"BurdenHouseModel", "setAside", "([I[I)V"⟩, 36), (⟨"BurdenHouseModel", "parse", "()I"⟩, 36), (⟨"BurdenHouseModel", "next", "()V"⟩, 36), (⟨"BurdenHouseModel", "isLetter", "(I)Z"⟩, 36), (⟨"BurdenHouseModel", "isDigit", "(I)Z"⟩, 36), (⟨"BurdenHouseModel", "key", "()I"⟩, 36), (⟨"BurdenHouseModel", "isWordAt", "(IIII)Z"⟩, 36), (⟨"BurdenHouseModel", "either", "(I)Z"⟩, 36), (⟨"BurdenHouseModel", "both", "(I)Z"⟩, 36)]
theorem lw_r2 : ∀ q ∈ lw_privs_2, lw_okq q := List.forall_mem_cons.mpr ⟨lw_p16, List.forall_mem_cons.mpr ⟨lw_p17, List.forall_mem_cons.mpr ⟨lw_p18, List.forall_mem_cons.mpr ⟨lw_p19, List.forall_mem_cons.mpr ⟨lw_p20, List.forall_mem_cons.mpr ⟨lw_p21, List.forall_mem_cons.mpr ⟨lw_p22, List.forall_mem_cons.mpr ⟨lw_p23, List.forall_mem_cons.mpr ⟨lw_p24, List.forall_mem_cons.mpr ⟨lw_p25, List.forall_mem_cons.mpr ⟨lw_p26, List.forall_mem_cons.mpr ⟨lw_p27, List.forall_mem_cons.mpr ⟨lw_p28, List.forall_mem_cons.mpr ⟨lw_p29, List.forall_mem_cons.mpr ⟨lw_p30, List.forall_mem_cons.mpr ⟨lw_p31, fun _ h => absurd h List.not_mem_nil⟩⟩⟩⟩⟩⟩⟩⟩⟩⟩⟩⟩⟩⟩⟩⟩
theorem lw_p32 : lw_okq (⟨"BurdenHouseModel", "test", "(I)Z"⟩, 36) := ⟨⟨by decide +kernel, by decide +kernel⟩, List.mem_of_getElem? (i := 1115) (by decide +kernel), List.mem_of_getElem? (i := 1487) (by decide +kernel), List.mem_of_getElem? (i := 1488) (by decide +kernel)⟩
theorem lw_p33 : lw_okq (⟨"BurdenHouseModel", "sum", "(I)Z"⟩, 36) := ⟨⟨by decide +kernel, by decide +kernel⟩, List.mem_of_getElem? (i := 1115) (by decide +kernel), List.mem_of_getElem? (i := 1491) (by decide +kernel), List.mem_of_getElem? (i := 1492) (by decide +kernel)⟩
theorem lw_p34 : lw_okq (⟨"BurdenHouseModel", "term", "(I)Z"⟩, 36) := ⟨⟨by decide +kernel, by decide +kernel⟩, List.mem_of_getElem? (i := 1115) (by decide +kernel), List.mem_of_getElem? (i := 1495) (by decide +kernel), List.mem_of_getElem? (i := 1496) (by decide +kernel)⟩
theorem lw_p35 : lw_okq (⟨"BurdenHouseModel", "part0", "(I)Z"⟩, 36) := ⟨⟨by decide +kernel, by decide +kernel⟩, List.mem_of_getElem? (i := 1115) (by decide +kernel), List.mem_of_getElem? (i := 1499) (by decide +kernel), List.mem_of_getElem? (i := 1500) (by decide +kernel)⟩
theorem lw_p36 : lw_okq (⟨"BurdenHouseModel", "step", "(II)V"⟩, 36) := ⟨⟨by decide +kernel, by decide +kernel⟩, List.mem_of_getElem? (i := 1115) (by decide +kernel), List.mem_of_getElem? (i := 1503) (by decide +kernel), List.mem_of_getElem? (i := 1504) (by decide +kernel)⟩
theorem lw_p37 : lw_okq (⟨"BurdenHouseModel", "isSign", "(I)Z"⟩, 36) := ⟨⟨by decide +kernel, by decide +kernel⟩, List.mem_of_getElem? (i := 1115) (by decide +kernel), List.mem_of_getElem? (i := 1510) (by decide +kernel), List.mem_of_getElem? (i := 1511) (by decide +kernel)⟩
theorem lw_p38 : lw_okq (⟨"BurdenHouseModel", "isText", "(I)Z"⟩, 36) := ⟨⟨by decide +kernel, by decide +kernel⟩, List.mem_of_getElem? (i := 1115) (by decide +kernel), List.mem_of_getElem? (i := 1518) (by decide +kernel), List.mem_of_getElem? (i := 1519) (by decide +kernel)⟩
theorem lw_p39 : lw_okq (⟨"BurdenHouseModel", "ofBurden", "(II)I"⟩, 36) := ⟨⟨by decide +kernel, by decide +kernel⟩, List.mem_of_getElem? (i := 1115) (by decide +kernel), List.mem_of_getElem? (i := 1539) (by decide +kernel), List.mem_of_getElem? (i := 1540) (by decide +kernel)⟩
theorem lw_p40 : lw_okq (⟨"BurdenHouseModel", "ladleAt", "(I)I"⟩, 36) := ⟨⟨by decide +kernel, by decide +kernel⟩, List.mem_of_getElem? (i := 1115) (by decide +kernel), List.mem_of_getElem? (i := 1547) (by decide +kernel), List.mem_of_getElem? (i := 1548) (by decide +kernel)⟩
theorem lw_p41 : lw_okq (⟨"BurdenHouseModel", "allBulk", "()I"⟩, 36) := ⟨⟨by decide +kernel, by decide +kernel⟩, List.mem_of_getElem? (i := 1115) (by decide +kernel), List.mem_of_getElem? (i := 1615) (by decide +kernel), List.mem_of_getElem? (i := 1616) (by decide +kernel)⟩
def lw_privs_3 : List (MethodName × Nat) := [(⟨"BurdenHouseModel", "test", "(I)Z"⟩, 36), (⟨"BurdenHouseModel", "sum", "(I)Z"⟩, 36), (⟨"BurdenHouseModel", "term", "(I)Z"⟩, 36), (⟨"BurdenHouseModel", "part0", "(I)Z"⟩, 36), (⟨"BurdenHouseModel", "step", "(II)V"⟩, 36), (⟨"BurdenHouseModel", "isSign", "(I)Z"⟩, 36), (⟨"BurdenHouseModel", "isText", "(I)Z"⟩, 36), (⟨"BurdenHouseModel", "ofBurden", "(II)I"⟩, 36), (⟨"BurdenHouseModel", "ladleAt", "(I)I"⟩, 36), (⟨"BurdenHouseModel", "allBulk", "()I"⟩, 36)]
theorem lw_r3 : ∀ q ∈ lw_privs_3, lw_okq q := List.forall_mem_cons.mpr ⟨lw_p32, List.forall_mem_cons.mpr ⟨lw_p33, List.forall_mem_cons.mpr ⟨lw_p34, List.forall_mem_cons.mpr ⟨lw_p35, List.forall_mem_cons.mpr ⟨lw_p36, List.forall_mem_cons.mpr ⟨lw_p37, List.forall_mem_cons.mpr ⟨lw_p38, List.forall_mem_cons.mpr ⟨lw_p39, List.forall_mem_cons.mpr ⟨lw_p40, List.forall_mem_cons.mpr ⟨lw_p41, fun _ h => absurd h List.not_mem_nil⟩⟩⟩⟩⟩⟩⟩⟩⟩⟩
def lw_privs : List (MethodName × Nat) := lw_privs_1 ++ (lw_privs_2 ++ (lw_privs_3))
def lw_tbl : List Cond := k2_sels lw_privs ++ tables_1
theorem lw_privs_ok : ∀ q ∈ lw_privs, lw_okq q := by
  show ∀ q ∈ lw_privs_1 ++ (lw_privs_2 ++ (lw_privs_3)), lw_okq q
  exact List.forall_mem_append.mpr ⟨lw_r1, List.forall_mem_append.mpr ⟨lw_r2, lw_r3⟩⟩

theorem goodIn_r {big : List Cond} (ws : List Cond) (ps : List Nat) (hp : ws = ps.filterMap (fun i => big[i]?)) (h : ws.all goodWord = true) : GoodIn big ws := by
  intro w hw
  have h1 := List.all_eq_true.mp h w hw
  rw [hp] at hw
  obtain ⟨i, -, hi⟩ := List.mem_filterMap.mp hw
  have hm : w ∈ big := by first | exact List.mem_of_getElem? hi | exact List.getElem?_mem hi
  exact ⟨hm, good_of_word h1⟩
def RX0 : String := "BurdenHouse$Bins"
def TX0 : u_T := fun k => match k with
  | 0 => ("BurdenHouse$Bins", "kind", "[I", true)
  | 1 => ("BurdenHouse$Bins", "share", "[I", true)
  | 2 => ("BurdenHouse$Bins", "price", "[I", true)
  | 3 => ("BurdenHouse$Bins", "tons", "[I", true)
  | 4 => ("BurdenHouse$Bins", "turns", "[I", true)
  | 5 => ("BurdenHouse$Bins", "count", "I", false)
  | 6 => ("BurdenHouse$Bins", "told", "[I", true)
  | _ => ("BurdenHouse$Bins", "tolds", "I", false)
def tyX0 : Nat → FieldType := fun k => match k with
  | 0 => .array .int
  | 1 => .array .int
  | 2 => .array .int
  | 3 => .array .int
  | 4 => .array .int
  | 5 => .int
  | 6 => .array .int
  | _ => .int
abbrev wsX00 : List Cond := u_ws RX0 TX0 8
theorem nmX0 : ∀ a, a < 8 → ∀ b, b < 8 → a ≠ b → (TX0 a).2.1 ≠ (TX0 b).2.1 := by decide +kernel
theorem tyX0_ok : ∀ k, k < 8 → parseFieldDescriptor (TX0 k).2.2.1 = some (tyX0 k) := by decide +kernel
abbrev cX0_init : ByteArray := prog_2_method_1_code
def yX0_init : MethodName := ⟨RX0, "<init>", "()V"⟩
abbrev cX0_become : ByteArray := prog_2_method_2_code
def yX0_become : MethodName := ⟨RX0, "become", "(LBurdenHouse$Bins;)V"⟩
abbrev cX0_has : ByteArray := prog_2_method_3_code
def yX0_has : MethodName := ⟨RX0, "has", "(I)Z"⟩
abbrev cX0_add : ByteArray := prog_2_method_4_code
def yX0_add : MethodName := ⟨RX0, "add", "(III)I"⟩
abbrev cX0_isTold : ByteArray := prog_2_method_5_code
def yX0_isTold : MethodName := ⟨RX0, "isTold", "(I)Z"⟩
abbrev cX0_addTold : ByteArray := prog_2_method_6_code
def yX0_addTold : MethodName := ⟨RX0, "addTold", "(I)I"⟩
abbrev cX0_cheapestMix : ByteArray := prog_2_method_7_code
def yX0_cheapestMix : MethodName := ⟨RX0, "cheapestMix", "(III)I"⟩
abbrev cX0_suits : ByteArray := prog_2_method_8_code
def yX0_suits : MethodName := ⟨RX0, "suits", "(IIII)Z"⟩
abbrev cX0_tensIn : ByteArray := prog_2_method_9_code
def yX0_tensIn : MethodName := ⟨RX0, "tensIn", "(II)I"⟩
abbrev cX0_sumIn : ByteArray := prog_2_method_10_code
def yX0_sumIn : MethodName := ⟨RX0, "sumIn", "(II)I"⟩
abbrev cX0_priceIn : ByteArray := prog_2_method_11_code
def yX0_priceIn : MethodName := ⟨RX0, "priceIn", "(I)I"⟩
def RX1 : String := "BurdenHouse$Furnace"
def TX1 : u_T := fun k => match k with
  | 0 => ("BurdenHouse$Furnace", "hour", "I", false)
  | 1 => ("BurdenHouse$Furnace", "iron", "I", false)
  | 2 => ("BurdenHouse$Furnace", "acid", "I", false)
  | 3 => ("BurdenHouse$Furnace", "lime", "I", false)
  | 4 => ("BurdenHouse$Furnace", "layers", "[LBurdenHouse$Layer;", true)
  | 5 => ("BurdenHouse$Furnace", "count", "I", false)
  | 6 => ("BurdenHouse$Furnace", "bulk", "[I", true)
  | 7 => ("BurdenHouse$Furnace", "weights", "[I", true)
  | 8 => ("BurdenHouse$Furnace", "rests", "[J", true)
  | _ => ("BurdenHouse$Furnace", "parts", "[I", true)
def tyX1 : Nat → FieldType := fun k => match k with
  | 0 => .int
  | 1 => .int
  | 2 => .int
  | 3 => .int
  | 4 => .array (.object "BurdenHouse$Layer")
  | 5 => .int
  | 6 => .array .int
  | 7 => .array .int
  | 8 => .array .long
  | _ => .array .int
abbrev wsX10 : List Cond := u_ws RX1 TX1 10
theorem nmX1 : ∀ a, a < 10 → ∀ b, b < 10 → a ≠ b → (TX1 a).2.1 ≠ (TX1 b).2.1 := by decide +kernel
theorem tyX1_ok : ∀ k, k < 10 → parseFieldDescriptor (TX1 k).2.2.1 = some (tyX1 k) := by decide +kernel
abbrev cX1_init : ByteArray := prog_3_method_1_code
def yX1_init : MethodName := ⟨RX1, "<init>", "()V"⟩
abbrev cX1_become : ByteArray := prog_3_method_2_code
def yX1_become : MethodName := ⟨RX1, "become", "(LBurdenHouse$Furnace;)V"⟩
abbrev cX1_has : ByteArray := prog_3_method_3_code
def yX1_has : MethodName := ⟨RX1, "has", "(I)Z"⟩
abbrev cX1_hasRoom : ByteArray := prog_3_method_4_code
def yX1_hasRoom : MethodName := ⟨RX1, "hasRoom", "()Z"⟩
abbrev cX1_topOf : ByteArray := prog_3_method_5_code
def yX1_topOf : MethodName := ⟨RX1, "topOf", "(I)I"⟩
abbrev cX1_greatestTop : ByteArray := prog_3_method_6_code
def yX1_greatestTop : MethodName := ⟨RX1, "greatestTop", "()I"⟩
abbrev cX1_allBulk : ByteArray := prog_3_method_7_code
def yX1_allBulk : MethodName := ⟨RX1, "allBulk", "()I"⟩
abbrev cX1_basic : ByteArray := prog_3_method_8_code
def yX1_basic : MethodName := ⟨RX1, "basic", "()I"⟩
abbrev cX1_resistanceOf : ByteArray := prog_3_method_9_code
def yX1_resistanceOf : MethodName := ⟨RX1, "resistanceOf", "(I)I"⟩
abbrev cX1_partByWeights : ByteArray := prog_3_method_10_code
def yX1_partByWeights : MethodName := ⟨RX1, "partByWeights", "(I)V"⟩
abbrev cX1_greatestRest : ByteArray := prog_3_method_11_code
def yX1_greatestRest : MethodName := ⟨RX1, "greatestRest", "()I"⟩
abbrev cX1_layOn : ByteArray := prog_3_method_12_code
def yX1_layOn : MethodName := ⟨RX1, "layOn", "(LBurdenHouse$Bins;II)V"⟩
abbrev cX1_slide : ByteArray := prog_3_method_13_code
def yX1_slide : MethodName := ⟨RX1, "slide", "(I)V"⟩
abbrev cX1_slidesOnce : ByteArray := prog_3_method_14_code
def yX1_slidesOnce : MethodName := ⟨RX1, "slidesOnce", "(LBurdenHouse$Layer;I)Z"⟩
abbrev cX1_partGas : ByteArray := prog_3_method_15_code
def yX1_partGas : MethodName := ⟨RX1, "partGas", "(I)V"⟩
abbrev cX1_eatenOf : ByteArray := prog_3_method_16_code
def yX1_eatenOf : MethodName := ⟨RX1, "eatenOf", "(I)I"⟩
abbrev cX1_passHour : ByteArray := prog_3_method_17_code
def yX1_passHour : MethodName := ⟨RX1, "passHour", "(I)V"⟩
abbrev cX1_eat : ByteArray := prog_3_method_18_code
def yX1_eat : MethodName := ⟨RX1, "eat", "(II)V"⟩
abbrev cX1_bring : ByteArray := prog_3_method_19_code
def yX1_bring : MethodName := ⟨RX1, "bring", "(LBurdenHouse$Layer;I)V"⟩
abbrev cX1_dropEmptyLayers : ByteArray := prog_3_method_20_code
def yX1_dropEmptyLayers : MethodName := ⟨RX1, "dropEmptyLayers", "()V"⟩
abbrev cX1_takeOut : ByteArray := prog_3_method_21_code
def yX1_takeOut : MethodName := ⟨RX1, "takeOut", "(I)V"⟩
def RX2 : String := "BurdenHouse$House"
def TX2 : u_T := fun k => match k with
  | 0 => ("BurdenHouse$House", "bins", "LBurdenHouse$Bins;", true)
  | 1 => ("BurdenHouse$House", "furnace", "LBurdenHouse$Furnace;", true)
  | 2 => ("BurdenHouse$House", "texts", "LBurdenHouse$Texts;", true)
  | 3 => ("BurdenHouse$House", "ladles", "LBurdenHouse$Ladles;", true)
  | _ => ("BurdenHouse$House", "rules", "[I", true)
def tyX2 : Nat → FieldType := fun k => match k with
  | 0 => .object "BurdenHouse$Bins"
  | 1 => .object "BurdenHouse$Furnace"
  | 2 => .object "BurdenHouse$Texts"
  | 3 => .object "BurdenHouse$Ladles"
  | _ => .array .int
abbrev wsX20 : List Cond := u_ws RX2 TX2 5
theorem nmX2 : ∀ a, a < 5 → ∀ b, b < 5 → a ≠ b → (TX2 a).2.1 ≠ (TX2 b).2.1 := by decide +kernel
theorem tyX2_ok : ∀ k, k < 5 → parseFieldDescriptor (TX2 k).2.2.1 = some (tyX2 k) := by decide +kernel
abbrev cX2_init : ByteArray := prog_4_method_1_code
def yX2_init : MethodName := ⟨RX2, "<init>", "()V"⟩
abbrev cX2_become : ByteArray := prog_4_method_2_code
def yX2_become : MethodName := ⟨RX2, "become", "(LBurdenHouse$House;)V"⟩
abbrev cX2_passHour : ByteArray := prog_4_method_3_code
def yX2_passHour : MethodName := ⟨RX2, "passHour", "(LBurdenHouse$Furnace;)V"⟩
abbrev cX2_gasFor : ByteArray := prog_4_method_4_code
def yX2_gasFor : MethodName := ⟨RX2, "gasFor", "(LBurdenHouse$Furnace;)I"⟩
abbrev cX2_playRound : ByteArray := prog_4_method_5_code
def yX2_playRound : MethodName := ⟨RX2, "playRound", "()I"⟩
abbrev cX2_drawFor : ByteArray := prog_4_method_6_code
def yX2_drawFor : MethodName := ⟨RX2, "drawFor", "(I)I"⟩
abbrev cX2_chargeOut : ByteArray := prog_4_method_7_code
def yX2_chargeOut : MethodName := ⟨RX2, "chargeOut", "(II)V"⟩
abbrev cX2_pourOut : ByteArray := prog_4_method_8_code
def yX2_pourOut : MethodName := ⟨RX2, "pourOut", "(II)I"⟩
abbrev cX2_lateFor : ByteArray := prog_4_method_9_code
def yX2_lateFor : MethodName := ⟨RX2, "lateFor", "(I)I"⟩
def RX3 : String := "BurdenHouse$Ladles"
def TX3 : u_T := fun k => match k with
  | 0 => ("BurdenHouse$Ladles", "cap", "[I", true)
  | 1 => ("BurdenHouse$Ladles", "ready", "[I", true)
  | 2 => ("BurdenHouse$Ladles", "count", "I", false)
  | _ => ("BurdenHouse$Ladles", "fillings", "I", false)
def tyX3 : Nat → FieldType := fun k => match k with
  | 0 => .array .int
  | 1 => .array .int
  | 2 => .int
  | _ => .int
abbrev wsX30 : List Cond := u_ws RX3 TX3 4
theorem nmX3 : ∀ a, a < 4 → ∀ b, b < 4 → a ≠ b → (TX3 a).2.1 ≠ (TX3 b).2.1 := by decide +kernel
theorem tyX3_ok : ∀ k, k < 4 → parseFieldDescriptor (TX3 k).2.2.1 = some (tyX3 k) := by decide +kernel
abbrev cX3_init : ByteArray := prog_5_method_1_code
def yX3_init : MethodName := ⟨RX3, "<init>", "()V"⟩
abbrev cX3_become : ByteArray := prog_5_method_2_code
def yX3_become : MethodName := ⟨RX3, "become", "(LBurdenHouse$Ladles;)V"⟩
abbrev cX3_has : ByteArray := prog_5_method_3_code
def yX3_has : MethodName := ⟨RX3, "has", "(I)Z"⟩
abbrev cX3_add : ByteArray := prog_5_method_4_code
def yX3_add : MethodName := ⟨RX3, "add", "(I)I"⟩
abbrev cX3_firstReady : ByteArray := prog_5_method_5_code
def yX3_firstReady : MethodName := ⟨RX3, "firstReady", "()I"⟩
abbrev cX3_takeIn : ByteArray := prog_5_method_6_code
def yX3_takeIn : MethodName := ⟨RX3, "takeIn", "(III)I"⟩
def RX4 : String := "BurdenHouse$Layer"
def TX4 : u_T := fun k => match k with
  | 0 => ("BurdenHouse$Layer", "bin", "I", false)
  | 1 => ("BurdenHouse$Layer", "hour", "I", false)
  | 2 => ("BurdenHouse$Layer", "tons", "I", false)
  | 3 => ("BurdenHouse$Layer", "holds", "I", false)
  | 4 => ("BurdenHouse$Layer", "iron", "I", false)
  | 5 => ("BurdenHouse$Layer", "acid", "I", false)
  | 6 => ("BurdenHouse$Layer", "lime", "I", false)
  | 7 => ("BurdenHouse$Layer", "whole", "I", false)
  | 8 => ("BurdenHouse$Layer", "left", "I", false)
  | _ => ("BurdenHouse$Layer", "inRing", "[I", true)
def tyX4 : Nat → FieldType := fun k => match k with
  | 0 => .int
  | 1 => .int
  | 2 => .int
  | 3 => .int
  | 4 => .int
  | 5 => .int
  | 6 => .int
  | 7 => .int
  | 8 => .int
  | _ => .array .int
abbrev wsX40 : List Cond := u_ws RX4 TX4 10
theorem nmX4 : ∀ a, a < 10 → ∀ b, b < 10 → a ≠ b → (TX4 a).2.1 ≠ (TX4 b).2.1 := by decide +kernel
theorem tyX4_ok : ∀ k, k < 10 → parseFieldDescriptor (TX4 k).2.2.1 = some (tyX4 k) := by decide +kernel
abbrev cX4_init : ByteArray := prog_6_method_1_code
def yX4_init : MethodName := ⟨RX4, "<init>", "()V"⟩
abbrev cX4_become : ByteArray := prog_6_method_2_code
def yX4_become : MethodName := ⟨RX4, "become", "(LBurdenHouse$Layer;)V"⟩
abbrev cX4_broughtBetween : ByteArray := prog_6_method_3_code
def yX4_broughtBetween : MethodName := ⟨RX4, "broughtBetween", "(III)I"⟩
def RX5 : String := "BurdenHouse$Sheet"
def TX5 : u_T := fun k => match k with
  | 0 => ("BurdenHouse$Sheet", "sort", "I", false)
  | 1 => ("BurdenHouse$Sheet", "count", "I", false)
  | 2 => ("BurdenHouse$Sheet", "values", "[I", true)
  | _ => ("BurdenHouse$Sheet", "lost", "[Z", true)
def tyX5 : Nat → FieldType := fun k => match k with
  | 0 => .int
  | 1 => .int
  | 2 => .array .int
  | _ => .array .boolean
abbrev wsX50 : List Cond := u_ws RX5 TX5 4
theorem nmX5 : ∀ a, a < 4 → ∀ b, b < 4 → a ≠ b → (TX5 a).2.1 ≠ (TX5 b).2.1 := by decide +kernel
theorem tyX5_ok : ∀ k, k < 4 → parseFieldDescriptor (TX5 k).2.2.1 = some (tyX5 k) := by decide +kernel
abbrev cX5_init : ByteArray := prog_7_method_1_code
def yX5_init : MethodName := ⟨RX5, "<init>", "()V"⟩
abbrev cX5_become : ByteArray := prog_7_method_2_code
def yX5_become : MethodName := ⟨RX5, "become", "(LBurdenHouse$Sheet;)V"⟩
abbrev cX5_makeNew : ByteArray := prog_7_method_3_code
def yX5_makeNew : MethodName := ⟨RX5, "makeNew", "(II)V"⟩
abbrev cX5_has : ByteArray := prog_7_method_4_code
def yX5_has : MethodName := ⟨RX5, "has", "(I)Z"⟩
abbrev cX5_hasRow : ByteArray := prog_7_method_5_code
def yX5_hasRow : MethodName := ⟨RX5, "hasRow", "(II)Z"⟩
abbrev cX5_put : ByteArray := prog_7_method_6_code
def yX5_put : MethodName := ⟨RX5, "put", "(II)V"⟩
abbrev cX5_lose : ByteArray := prog_7_method_7_code
def yX5_lose : MethodName := ⟨RX5, "lose", "(I)V"⟩
abbrev cX5_knownAhead : ByteArray := prog_7_method_8_code
def yX5_knownAhead : MethodName := ⟨RX5, "knownAhead", "(I)I"⟩
abbrev cX5_hangs : ByteArray := prog_7_method_9_code
def yX5_hangs : MethodName := ⟨RX5, "hangs", "()I"⟩
abbrev cX5_slips : ByteArray := prog_7_method_10_code
def yX5_slips : MethodName := ⟨RX5, "slips", "(I)I"⟩
def RX6 : String := "BurdenHouse$Slot"
def TX6 : u_T := fun k => match k with
  | 0 => ("BurdenHouse$Slot", "thing", "I", false)
  | 1 => ("BurdenHouse$Slot", "kind", "I", false)
  | 2 => ("BurdenHouse$Slot", "share", "I", false)
  | 3 => ("BurdenHouse$Slot", "number", "I", false)
  | _ => ("BurdenHouse$Slot", "sheet", "LBurdenHouse$Sheet;", true)
def tyX6 : Nat → FieldType := fun k => match k with
  | 0 => .int
  | 1 => .int
  | 2 => .int
  | 3 => .int
  | _ => .object "BurdenHouse$Sheet"
abbrev wsX60 : List Cond := u_ws RX6 TX6 5
theorem nmX6 : ∀ a, a < 5 → ∀ b, b < 5 → a ≠ b → (TX6 a).2.1 ≠ (TX6 b).2.1 := by decide +kernel
theorem tyX6_ok : ∀ k, k < 5 → parseFieldDescriptor (TX6 k).2.2.1 = some (tyX6 k) := by decide +kernel
abbrev cX6_init : ByteArray := prog_8_method_1_code
def yX6_init : MethodName := ⟨RX6, "<init>", "()V"⟩
def RX7 : String := "BurdenHouse$Stuff"
def TX7 : u_T := fun k => match k with
  | _ => ("", "", "", false)
def tyX7 : Nat → FieldType := fun k => match k with
  | _ => .int
abbrev wsX70 : List Cond := u_ws RX7 TX7 0
theorem nmX7 : ∀ a, a < 0 → ∀ b, b < 0 → a ≠ b → (TX7 a).2.1 ≠ (TX7 b).2.1 := by decide +kernel
theorem tyX7_ok : ∀ k, k < 0 → parseFieldDescriptor (TX7 k).2.2.1 = some (tyX7 k) := by decide +kernel
abbrev cX7_isOf : ByteArray := prog_9_method_2_code
def yX7_isOf : MethodName := ⟨RX7, "isOf", "(II)Z"⟩
abbrev cX7_amountOf : ByteArray := prog_9_method_3_code
def yX7_amountOf : MethodName := ⟨RX7, "amountOf", "(IIII)I"⟩
abbrev cX7_bulkOf : ByteArray := prog_9_method_4_code
def yX7_bulkOf : MethodName := ⟨RX7, "bulkOf", "(II)I"⟩
abbrev cX7_ironOf : ByteArray := prog_9_method_5_code
def yX7_ironOf : MethodName := ⟨RX7, "ironOf", "(III)I"⟩
abbrev cX7_acidOf : ByteArray := prog_9_method_6_code
def yX7_acidOf : MethodName := ⟨RX7, "acidOf", "(III)I"⟩
abbrev cX7_limeOf : ByteArray := prog_9_method_7_code
def yX7_limeOf : MethodName := ⟨RX7, "limeOf", "(III)I"⟩
abbrev cX7_holdsOf : ByteArray := prog_9_method_8_code
def yX7_holdsOf : MethodName := ⟨RX7, "holdsOf", "(I)I"⟩
def RX8 : String := "BurdenHouse$Tape"
def TX8 : u_T := fun k => match k with
  | 0 => ("BurdenHouse$Tape", "bytes", "[I", true)
  | 1 => ("BurdenHouse$Tape", "length", "I", false)
  | 2 => ("BurdenHouse$Tape", "at", "I", false)
  | 3 => ("BurdenHouse$Tape", "end", "I", false)
  | 4 => ("BurdenHouse$Tape", "sort", "I", false)
  | 5 => ("BurdenHouse$Tape", "close", "Z", false)
  | 6 => ("BurdenHouse$Tape", "key", "I", false)
  | 7 => ("BurdenHouse$Tape", "bin", "I", false)
  | 8 => ("BurdenHouse$Tape", "pieces", "I", false)
  | 9 => ("BurdenHouse$Tape", "code", "[I", true)
  | 10 => ("BurdenHouse$Tape", "codes", "I", false)
  | 11 => ("BurdenHouse$Tape", "signs", "[I", true)
  | 12 => ("BurdenHouse$Tape", "held", "I", false)
  | 13 => ("BurdenHouse$Tape", "openBrackets", "I", false)
  | 14 => ("BurdenHouse$Tape", "openNots", "I", false)
  | _ => ("BurdenHouse$Tape", "wantsPiece", "Z", false)
def tyX8 : Nat → FieldType := fun k => match k with
  | 0 => .array .int
  | 1 => .int
  | 2 => .int
  | 3 => .int
  | 4 => .int
  | 5 => .boolean
  | 6 => .int
  | 7 => .int
  | 8 => .int
  | 9 => .array .int
  | 10 => .int
  | 11 => .array .int
  | 12 => .int
  | 13 => .int
  | 14 => .int
  | _ => .boolean
abbrev wsX80 : List Cond := u_ws RX8 TX8 16
theorem nmX8 : ∀ a, a < 16 → ∀ b, b < 16 → a ≠ b → (TX8 a).2.1 ≠ (TX8 b).2.1 := by decide +kernel
theorem tyX8_ok : ∀ k, k < 16 → parseFieldDescriptor (TX8 k).2.2.1 = some (tyX8 k) := by decide +kernel
abbrev cX8_init : ByteArray := prog_10_method_1_code
def yX8_init : MethodName := ⟨RX8, "<init>", "()V"⟩
abbrev cX8_addNumber : ByteArray := prog_10_method_2_code
def yX8_addNumber : MethodName := ⟨RX8, "addNumber", "(I)V"⟩
abbrev cX8_readText : ByteArray := prog_10_method_3_code
def yX8_readText : MethodName := ⟨RX8, "readText", "()I"⟩
abbrev cX8_beginReading : ByteArray := prog_10_method_4_code
def yX8_beginReading : MethodName := ⟨RX8, "beginReading", "()V"⟩
abbrev cX8_step : ByteArray := prog_10_method_5_code
def yX8_step : MethodName := ⟨RX8, "step", "()V"⟩
abbrev cX8_sortAt : ByteArray := prog_10_method_6_code
def yX8_sortAt : MethodName := ⟨RX8, "sortAt", "(I)I"⟩
abbrev cX8_takesHead : ByteArray := prog_10_method_7_code
def yX8_takesHead : MethodName := ⟨RX8, "takesHead", "()Z"⟩
abbrev cX8_keyThere : ByteArray := prog_10_method_8_code
def yX8_keyThere : MethodName := ⟨RX8, "keyThere", "()I"⟩
abbrev cX8_isThere : ByteArray := prog_10_method_9_code
def yX8_isThere : MethodName := ⟨RX8, "isThere", "(Ljava/lang/String;)Z"⟩
abbrev cX8_numberThere : ByteArray := prog_10_method_10_code
def yX8_numberThere : MethodName := ⟨RX8, "numberThere", "()I"⟩
abbrev cX8_takesPiece : ByteArray := prog_10_method_11_code
def yX8_takesPiece : MethodName := ⟨RX8, "takesPiece", "()Z"⟩
abbrev cX8_nameThere : ByteArray := prog_10_method_12_code
def yX8_nameThere : MethodName := ⟨RX8, "nameThere", "()I"⟩
abbrev cX8_takesOpening : ByteArray := prog_10_method_13_code
def yX8_takesOpening : MethodName := ⟨RX8, "takesOpening", "()Z"⟩
abbrev cX8_takesSign : ByteArray := prog_10_method_14_code
def yX8_takesSign : MethodName := ⟨RX8, "takesSign", "()Z"⟩
abbrev cX8_takesClosing : ByteArray := prog_10_method_15_code
def yX8_takesClosing : MethodName := ⟨RX8, "takesClosing", "()Z"⟩
abbrev cX8_endPiece : ByteArray := prog_10_method_16_code
def yX8_endPiece : MethodName := ⟨RX8, "endPiece", "()V"⟩
abbrev cX8_writeHeldFrom : ByteArray := prog_10_method_17_code
def yX8_writeHeldFrom : MethodName := ⟨RX8, "writeHeldFrom", "(IZ)V"⟩
abbrev cX8_heldRank : ByteArray := prog_10_method_18_code
def yX8_heldRank : MethodName := ⟨RX8, "heldRank", "()I"⟩
abbrev cX8_rankOf : ByteArray := prog_10_method_19_code
def yX8_rankOf : MethodName := ⟨RX8, "rankOf", "(I)I"⟩
abbrev cX8_hold : ByteArray := prog_10_method_20_code
def yX8_hold : MethodName := ⟨RX8, "hold", "(I)V"⟩
abbrev cX8_write : ByteArray := prog_10_method_21_code
def yX8_write : MethodName := ⟨RX8, "write", "(I)V"⟩
def RX9 : String := "BurdenHouse$Texts"
def TX9 : u_T := fun k => match k with
  | 0 => ("BurdenHouse$Texts", "key", "[I", true)
  | 1 => ("BurdenHouse$Texts", "bin", "[I", true)
  | 2 => ("BurdenHouse$Texts", "pieces", "[I", true)
  | 3 => ("BurdenHouse$Texts", "code", "[[I", true)
  | 4 => ("BurdenHouse$Texts", "codes", "[I", true)
  | 5 => ("BurdenHouse$Texts", "count", "I", false)
  | 6 => ("BurdenHouse$Texts", "named", "[I", true)
  | _ => ("BurdenHouse$Texts", "stack", "[I", true)
def tyX9 : Nat → FieldType := fun k => match k with
  | 0 => .array .int
  | 1 => .array .int
  | 2 => .array .int
  | 3 => .array (.array .int)
  | 4 => .array .int
  | 5 => .int
  | 6 => .array .int
  | _ => .array .int
abbrev wsX90 : List Cond := u_ws RX9 TX9 8
theorem nmX9 : ∀ a, a < 8 → ∀ b, b < 8 → a ≠ b → (TX9 a).2.1 ≠ (TX9 b).2.1 := by decide +kernel
theorem tyX9_ok : ∀ k, k < 8 → parseFieldDescriptor (TX9 k).2.2.1 = some (tyX9 k) := by decide +kernel
abbrev cX9_init : ByteArray := prog_11_method_1_code
def yX9_init : MethodName := ⟨RX9, "<init>", "()V"⟩
abbrev cX9_become : ByteArray := prog_11_method_2_code
def yX9_become : MethodName := ⟨RX9, "become", "(LBurdenHouse$Texts;)V"⟩
abbrev cX9_has : ByteArray := prog_11_method_3_code
def yX9_has : MethodName := ⟨RX9, "has", "(I)Z"⟩
abbrev cX9_add : ByteArray := prog_11_method_4_code
def yX9_add : MethodName := ⟨RX9, "add", "(LBurdenHouse$Tape;)I"⟩
abbrev cX9_lastOf : ByteArray := prog_11_method_5_code
def yX9_lastOf : MethodName := ⟨RX9, "lastOf", "(II)I"⟩
abbrev cX9_name : ByteArray := prog_11_method_6_code
def yX9_name : MethodName := ⟨RX9, "name", "(CI)V"⟩
abbrev cX9_worth : ByteArray := prog_11_method_7_code
def yX9_worth : MethodName := ⟨RX9, "worth", "(I)I"⟩
abbrev cX9_valueOf : ByteArray := prog_11_method_8_code
def yX9_valueOf : MethodName := ⟨RX9, "valueOf", "(I)I"⟩
abbrev cX9_joined : ByteArray := prog_11_method_9_code
def yX9_joined : MethodName := ⟨RX9, "joined", "(III)I"⟩
def RX10 : String := "BurdenHouse"
def TX10 : u_T := fun k => match k with
  | 0 => ("BurdenHouse", "house", "LBurdenHouse$House;", true)
  | 1 => ("BurdenHouse", "image", "LBurdenHouse$House;", true)
  | 2 => ("BurdenHouse", "imageKept", "Z", false)
  | 3 => ("BurdenHouse", "trial", "LBurdenHouse$Furnace;", true)
  | 4 => ("BurdenHouse", "tape", "LBurdenHouse$Tape;", true)
  | 5 => ("BurdenHouse", "sheets", "[LBurdenHouse$Sheet;", true)
  | 6 => ("BurdenHouse", "slots", "[LBurdenHouse$Slot;", true)
  | 7 => ("BurdenHouse", "waiting", "[I", true)
  | _ => ("BurdenHouse", "waits", "I", false)
def tyX10 : Nat → FieldType := fun k => match k with
  | 0 => .object "BurdenHouse$House"
  | 1 => .object "BurdenHouse$House"
  | 2 => .boolean
  | 3 => .object "BurdenHouse$Furnace"
  | 4 => .object "BurdenHouse$Tape"
  | 5 => .array (.object "BurdenHouse$Sheet")
  | 6 => .array (.object "BurdenHouse$Slot")
  | 7 => .array .int
  | _ => .int
abbrev wsX100 : List Cond := u_ws RX10 TX10 9
theorem nmX10 : ∀ a, a < 9 → ∀ b, b < 9 → a ≠ b → (TX10 a).2.1 ≠ (TX10 b).2.1 := by decide +kernel
theorem tyX10_ok : ∀ k, k < 9 → parseFieldDescriptor (TX10 k).2.2.1 = some (tyX10 k) := by decide +kernel
abbrev cX10_init : ByteArray := prog_1_method_1_code
def yX10_init : MethodName := ⟨RX10, "<init>", "()V"⟩
abbrev cX10_bin : ByteArray := prog_1_method_2_code
def yX10_bin : MethodName := ⟨RX10, "bin", "(III)I"⟩
abbrev cX10_told : ByteArray := prog_1_method_3_code
def yX10_told : MethodName := ⟨RX10, "told", "(II)I"⟩
abbrev cX10_of : ByteArray := prog_1_method_4_code
def yX10_of : MethodName := ⟨RX10, "of", "(III)I"⟩
abbrev cX10_as : ByteArray := prog_1_method_5_code
def yX10_as : MethodName := ⟨RX10, "as", "(II)I"⟩
abbrev cX10_fill : ByteArray := prog_1_method_6_code
def yX10_fill : MethodName := ⟨RX10, "fill", "(II)I"⟩
abbrev cX10_turns : ByteArray := prog_1_method_7_code
def yX10_turns : MethodName := ⟨RX10, "turns", "(II)I"⟩
abbrev cX10_rule : ByteArray := prog_1_method_8_code
def yX10_rule : MethodName := ⟨RX10, "rule", "(II)I"⟩
abbrev cX10_empty : ByteArray := prog_1_method_9_code
def yX10_empty : MethodName := ⟨RX10, "empty", "(II)I"⟩
abbrev cX10_charge : ByteArray := prog_1_method_10_code
def yX10_charge : MethodName := ⟨RX10, "charge", "(II)I"⟩
abbrev cX10_layer : ByteArray := prog_1_method_11_code
def yX10_layer : MethodName := ⟨RX10, "layer", "(II)I"⟩
abbrev cX10_ring : ByteArray := prog_1_method_12_code
def yX10_ring : MethodName := ⟨RX10, "ring", "(II)I"⟩
abbrev cX10_run : ByteArray := prog_1_method_13_code
def yX10_run : MethodName := ⟨RX10, "run", "(I)I"⟩
abbrev cX10_round : ByteArray := prog_1_method_14_code
def yX10_round : MethodName := ⟨RX10, "round", "()I"⟩
abbrev cX10_hearth : ByteArray := prog_1_method_15_code
def yX10_hearth : MethodName := ⟨RX10, "hearth", "(I)I"⟩
abbrev cX10_cast : ByteArray := prog_1_method_16_code
def yX10_cast : MethodName := ⟨RX10, "cast", "(I)I"⟩
abbrev cX10_down : ByteArray := prog_1_method_17_code
def yX10_down : MethodName := ⟨RX10, "down", "(I)I"⟩
abbrev cX10_feed : ByteArray := prog_1_method_18_code
def yX10_feed : MethodName := ⟨RX10, "feed", "(III)I"⟩
abbrev cX10_trim : ByteArray := prog_1_method_19_code
def yX10_trim : MethodName := ⟨RX10, "trim", "(I)I"⟩
abbrev cX10_text : ByteArray := prog_1_method_20_code
def yX10_text : MethodName := ⟨RX10, "text", "()I"⟩
abbrev cX10_textTold : ByteArray := prog_1_method_21_code
def yX10_textTold : MethodName := ⟨RX10, "textTold", "(II)I"⟩
abbrev cX10_why : ByteArray := prog_1_method_22_code
def yX10_why : MethodName := ⟨RX10, "why", "(II)I"⟩
abbrev cX10_choose : ByteArray := prog_1_method_23_code
def yX10_choose : MethodName := ⟨RX10, "choose", "(I)I"⟩
abbrev cX10_clear : ByteArray := prog_1_method_24_code
def yX10_clear : MethodName := ⟨RX10, "clear", "()I"⟩
abbrev cX10_burden : ByteArray := prog_1_method_25_code
def yX10_burden : MethodName := ⟨RX10, "burden", "(III)I"⟩
abbrev cX10_ladle : ByteArray := prog_1_method_26_code
def yX10_ladle : MethodName := ⟨RX10, "ladle", "(I)I"⟩
abbrev cX10_backAt : ByteArray := prog_1_method_27_code
def yX10_backAt : MethodName := ⟨RX10, "backAt", "(I)I"⟩
abbrev cX10_pour : ByteArray := prog_1_method_28_code
def yX10_pour : MethodName := ⟨RX10, "pour", "(II)I"⟩
abbrev cX10_sheet : ByteArray := prog_1_method_29_code
def yX10_sheet : MethodName := ⟨RX10, "sheet", "(III)I"⟩
abbrev cX10_mark : ByteArray := prog_1_method_30_code
def yX10_mark : MethodName := ⟨RX10, "mark", "(III)I"⟩
abbrev cX10_sound : ByteArray := prog_1_method_31_code
def yX10_sound : MethodName := ⟨RX10, "sound", "(III)I"⟩
abbrev cX10_tops : ByteArray := prog_1_method_32_code
def yX10_tops : MethodName := ⟨RX10, "tops", "(II)I"⟩
abbrev cX10_copy : ByteArray := prog_1_method_33_code
def yX10_copy : MethodName := ⟨RX10, "copy", "(IIIII)I"⟩
abbrev cX10_lay : ByteArray := prog_1_method_34_code
def yX10_lay : MethodName := ⟨RX10, "lay", "(III)I"⟩
abbrev cX10_ask : ByteArray := prog_1_method_35_code
def yX10_ask : MethodName := ⟨RX10, "ask", "(II)I"⟩
abbrev cX10_item : ByteArray := prog_1_method_36_code
def yX10_item : MethodName := ⟨RX10, "item", "(II)I"⟩
abbrev cX10_rest : ByteArray := prog_1_method_37_code
def yX10_rest : MethodName := ⟨RX10, "rest", "(II)I"⟩
abbrev cX10_tell : ByteArray := prog_1_method_38_code
def yX10_tell : MethodName := ⟨RX10, "tell", "(I)I"⟩
abbrev cX10_check : ByteArray := prog_1_method_39_code
def yX10_check : MethodName := ⟨RX10, "check", "(I)I"⟩
abbrev cX10_keep : ByteArray := prog_1_method_40_code
def yX10_keep : MethodName := ⟨RX10, "keep", "()I"⟩
abbrev cX10_back : ByteArray := prog_1_method_41_code
def yX10_back : MethodName := ⟨RX10, "back", "()I"⟩
abbrev cX10_count : ByteArray := prog_1_method_42_code
def yX10_count : MethodName := ⟨RX10, "count", "(I)I"⟩
abbrev cX10_isTold : ByteArray := prog_1_method_43_code
def yX10_isTold : MethodName := ⟨RX10, "isTold", "(III)Z"⟩
abbrev cX10_isWithin : ByteArray := prog_1_method_44_code
def yX10_isWithin : MethodName := ⟨RX10, "isWithin", "(III)Z"⟩
abbrev cX10_isKind : ByteArray := prog_1_method_45_code
def yX10_isKind : MethodName := ⟨RX10, "isKind", "(I)Z"⟩
abbrev cX10_isSheet : ByteArray := prog_1_method_46_code
def yX10_isSheet : MethodName := ⟨RX10, "isSheet", "(I)Z"⟩
abbrev cX10_isSlot : ByteArray := prog_1_method_47_code
def yX10_isSlot : MethodName := ⟨RX10, "isSlot", "(I)Z"⟩
abbrev cX10_heldWithin999 : ByteArray := prog_1_method_48_code
def yX10_heldWithin999 : MethodName := ⟨RX10, "heldWithin999", "(I)I"⟩
abbrev cX10_basicOf : ByteArray := prog_1_method_49_code
def yX10_basicOf : MethodName := ⟨RX10, "basicOf", "(II)I"⟩
def RX11 : String := "BurdenHouseModel"
def TX11 : u_T := fun k => match k with
  | 0 => ("BurdenHouseModel", "s", "[I", true)
  | 1 => ("BurdenHouseModel", "image", "[I", true)
  | 2 => ("BurdenHouseModel", "aside", "[I", true)
  | 3 => ("BurdenHouseModel", "hasImage", "Z", false)
  | 4 => ("BurdenHouseModel", "tSort", "[I", true)
  | 5 => ("BurdenHouseModel", "tSize", "[I", true)
  | 6 => ("BurdenHouseModel", "tNumber", "[I", true)
  | 7 => ("BurdenHouseModel", "held", "[I", true)
  | 8 => ("BurdenHouseModel", "heldNumber", "[I", true)
  | 9 => ("BurdenHouseModel", "heldShare", "[I", true)
  | 10 => ("BurdenHouseModel", "heldSize", "[I", true)
  | 11 => ("BurdenHouseModel", "heldRow", "[I", true)
  | 12 => ("BurdenHouseModel", "weights", "[J", true)
  | 13 => ("BurdenHouseModel", "parts", "[I", true)
  | 14 => ("BurdenHouseModel", "rests", "[J", true)
  | 15 => ("BurdenHouseModel", "tops", "[I", true)
  | 16 => ("BurdenHouseModel", "inRing", "[I", true)
  | 17 => ("BurdenHouseModel", "followed", "I", false)
  | 18 => ("BurdenHouseModel", "tape", "[I", true)
  | 19 => ("BurdenHouseModel", "taped", "I", false)
  | 20 => ("BurdenHouseModel", "begin", "I", false)
  | 21 => ("BurdenHouseModel", "behind", "I", false)
  | 22 => ("BurdenHouseModel", "token", "I", false)
  | 23 => ("BurdenHouseModel", "number", "I", false)
  | 24 => ("BurdenHouseModel", "letter", "I", false)
  | 25 => ("BurdenHouseModel", "deep", "I", false)
  | 26 => ("BurdenHouseModel", "turned", "I", false)
  | 27 => ("BurdenHouseModel", "laid", "I", false)
  | 28 => ("BurdenHouseModel", "laidAt", "I", false)
  | 29 => ("BurdenHouseModel", "said", "I", false)
  | 30 => ("BurdenHouseModel", "named", "[I", true)
  | 31 => ("BurdenHouseModel", "pile", "[I", true)
  | 32 => ("BurdenHouseModel", "carried", "[I", true)
  | 33 => ("BurdenHouseModel", "waits", "[I", true)
  | 34 => ("BurdenHouseModel", "waiting", "I", false)
  | _ => ("BurdenHouseModel", "row", "[I", true)
def tyX11 : Nat → FieldType := fun k => match k with
  | 0 => .array .int
  | 1 => .array .int
  | 2 => .array .int
  | 3 => .boolean
  | 4 => .array .int
  | 5 => .array .int
  | 6 => .array .int
  | 7 => .array .int
  | 8 => .array .int
  | 9 => .array .int
  | 10 => .array .int
  | 11 => .array .int
  | 12 => .array .long
  | 13 => .array .int
  | 14 => .array .long
  | 15 => .array .int
  | 16 => .array .int
  | 17 => .int
  | 18 => .array .int
  | 19 => .int
  | 20 => .int
  | 21 => .int
  | 22 => .int
  | 23 => .int
  | 24 => .int
  | 25 => .int
  | 26 => .int
  | 27 => .int
  | 28 => .int
  | 29 => .int
  | 30 => .array .int
  | 31 => .array .int
  | 32 => .array .int
  | 33 => .array .int
  | 34 => .int
  | _ => .array .int
abbrev wsX110 : List Cond := u_ws RX11 TX11 36
theorem nmX11 : ∀ a, a < 36 → ∀ b, b < 36 → a ≠ b → (TX11 a).2.1 ≠ (TX11 b).2.1 := by decide +kernel
theorem tyX11_ok : ∀ k, k < 36 → parseFieldDescriptor (TX11 k).2.2.1 = some (tyX11 k) := by decide +kernel
abbrev cX11_init : ByteArray := prog_13_method_1_code
def yX11_init : MethodName := ⟨RX11, "<init>", "()V"⟩
abbrev cX11_isIn : ByteArray := prog_13_method_2_code
def yX11_isIn : MethodName := ⟨RX11, "isIn", "(JJJ)Z"⟩
abbrev cX11_orNone : ByteArray := prog_13_method_3_code
def yX11_orNone : MethodName := ⟨RX11, "orNone", "(I)I"⟩
abbrev cX11_least : ByteArray := prog_13_method_4_code
def yX11_least : MethodName := ⟨RX11, "least", "(II)I"⟩
abbrev cX11_heldIn : ByteArray := prog_13_method_5_code
def yX11_heldIn : MethodName := ⟨RX11, "heldIn", "(II)I"⟩
abbrev cX11_becomes : ByteArray := prog_13_method_6_code
def yX11_becomes : MethodName := ⟨RX11, "becomes", "(II)I"⟩
abbrev cX11_binAt : ByteArray := prog_13_method_7_code
def yX11_binAt : MethodName := ⟨RX11, "binAt", "(I)I"⟩
abbrev cX11_layerAt : ByteArray := prog_13_method_8_code
def yX11_layerAt : MethodName := ⟨RX11, "layerAt", "(I)I"⟩
abbrev cX11_ladleAt : ByteArray := prog_13_method_9_code
def yX11_ladleAt : MethodName := ⟨RX11, "ladleAt", "(I)I"⟩
abbrev cX11_textAt : ByteArray := prog_13_method_10_code
def yX11_textAt : MethodName := ⟨RX11, "textAt", "(I)I"⟩
abbrev cX11_isBin : ByteArray := prog_13_method_11_code
def yX11_isBin : MethodName := ⟨RX11, "isBin", "(I)Z"⟩
abbrev cX11_isText : ByteArray := prog_13_method_12_code
def yX11_isText : MethodName := ⟨RX11, "isText", "(I)Z"⟩
abbrev cX11_bulkOf : ByteArray := prog_13_method_13_code
def yX11_bulkOf : MethodName := ⟨RX11, "bulkOf", "(II)I"⟩
abbrev cX11_ironOf : ByteArray := prog_13_method_14_code
def yX11_ironOf : MethodName := ⟨RX11, "ironOf", "(III)I"⟩
abbrev cX11_acidOf : ByteArray := prog_13_method_15_code
def yX11_acidOf : MethodName := ⟨RX11, "acidOf", "(III)I"⟩
abbrev cX11_limeOf : ByteArray := prog_13_method_16_code
def yX11_limeOf : MethodName := ⟨RX11, "limeOf", "(III)I"⟩
abbrev cX11_holdsOf : ByteArray := prog_13_method_17_code
def yX11_holdsOf : MethodName := ⟨RX11, "holdsOf", "(I)I"⟩
abbrev cX11_brings : ByteArray := prog_13_method_18_code
def yX11_brings : MethodName := ⟨RX11, "brings", "(III)I"⟩
abbrev cX11_bin : ByteArray := prog_13_method_19_code
def yX11_bin : MethodName := ⟨RX11, "bin", "(III)I"⟩
abbrev cX11_told : ByteArray := prog_13_method_20_code
def yX11_told : MethodName := ⟨RX11, "told", "(II)I"⟩
abbrev cX11_of : ByteArray := prog_13_method_21_code
def yX11_of : MethodName := ⟨RX11, "of", "(III)I"⟩
abbrev cX11_isOf : ByteArray := prog_13_method_22_code
def yX11_isOf : MethodName := ⟨RX11, "isOf", "(II)Z"⟩
abbrev cX11_as : ByteArray := prog_13_method_23_code
def yX11_as : MethodName := ⟨RX11, "as", "(II)I"⟩
abbrev cX11_fill : ByteArray := prog_13_method_24_code
def yX11_fill : MethodName := ⟨RX11, "fill", "(II)I"⟩
abbrev cX11_turns : ByteArray := prog_13_method_25_code
def yX11_turns : MethodName := ⟨RX11, "turns", "(II)I"⟩
abbrev cX11_rule : ByteArray := prog_13_method_26_code
def yX11_rule : MethodName := ⟨RX11, "rule", "(II)I"⟩
abbrev cX11_empty : ByteArray := prog_13_method_27_code
def yX11_empty : MethodName := ⟨RX11, "empty", "(II)I"⟩
abbrev cX11_part : ByteArray := prog_13_method_28_code
def yX11_part : MethodName := ⟨RX11, "part", "(I)V"⟩
abbrev cX11_areaOf : ByteArray := prog_13_method_29_code
def yX11_areaOf : MethodName := ⟨RX11, "areaOf", "(I)I"⟩
abbrev cX11_bulkIn : ByteArray := prog_13_method_30_code
def yX11_bulkIn : MethodName := ⟨RX11, "bulkIn", "(I)I"⟩
abbrev cX11_topOf : ByteArray := prog_13_method_31_code
def yX11_topOf : MethodName := ⟨RX11, "topOf", "(I)I"⟩
abbrev cX11_greatestTop : ByteArray := prog_13_method_32_code
def yX11_greatestTop : MethodName := ⟨RX11, "greatestTop", "()I"⟩
abbrev cX11_allBulk : ByteArray := prog_13_method_33_code
def yX11_allBulk : MethodName := ⟨RX11, "allBulk", "()I"⟩
abbrev cX11_resistance : ByteArray := prog_13_method_34_code
def yX11_resistance : MethodName := ⟨RX11, "resistance", "(I)I"⟩
abbrev cX11_slide : ByteArray := prog_13_method_35_code
def yX11_slide : MethodName := ⟨RX11, "slide", "(I)V"⟩
abbrev cX11_comes : ByteArray := prog_13_method_36_code
def yX11_comes : MethodName := ⟨RX11, "comes", "(II)V"⟩
abbrev cX11_charge : ByteArray := prog_13_method_37_code
def yX11_charge : MethodName := ⟨RX11, "charge", "(II)I"⟩
abbrev cX11_bulkOfLayer : ByteArray := prog_13_method_38_code
def yX11_bulkOfLayer : MethodName := ⟨RX11, "bulkOfLayer", "(I)I"⟩
abbrev cX11_layer : ByteArray := prog_13_method_39_code
def yX11_layer : MethodName := ⟨RX11, "layer", "(II)I"⟩
abbrev cX11_basic : ByteArray := prog_13_method_40_code
def yX11_basic : MethodName := ⟨RX11, "basic", "()I"⟩
abbrev cX11_gasNow : ByteArray := prog_13_method_41_code
def yX11_gasNow : MethodName := ⟨RX11, "gasNow", "()I"⟩
abbrev cX11_partGas : ByteArray := prog_13_method_42_code
def yX11_partGas : MethodName := ⟨RX11, "partGas", "()V"⟩
abbrev cX11_ring : ByteArray := prog_13_method_43_code
def yX11_ring : MethodName := ⟨RX11, "ring", "(II)I"⟩
abbrev cX11_goes : ByteArray := prog_13_method_44_code
def yX11_goes : MethodName := ⟨RX11, "goes", "(III)V"⟩
abbrev cX11_oneHour : ByteArray := prog_13_method_45_code
def yX11_oneHour : MethodName := ⟨RX11, "oneHour", "()V"⟩
abbrev cX11_run : ByteArray := prog_13_method_46_code
def yX11_run : MethodName := ⟨RX11, "run", "(I)I"⟩
abbrev cX11_round : ByteArray := prog_13_method_47_code
def yX11_round : MethodName := ⟨RX11, "round", "()I"⟩
abbrev cX11_hearth : ByteArray := prog_13_method_48_code
def yX11_hearth : MethodName := ⟨RX11, "hearth", "(I)I"⟩
abbrev cX11_castOut : ByteArray := prog_13_method_49_code
def yX11_castOut : MethodName := ⟨RX11, "castOut", "(I)V"⟩
abbrev cX11_cast : ByteArray := prog_13_method_50_code
def yX11_cast : MethodName := ⟨RX11, "cast", "(I)I"⟩
abbrev cX11_setAside : ByteArray := prog_13_method_51_code
def yX11_setAside : MethodName := ⟨RX11, "setAside", "([I[I)V"⟩
abbrev cX11_down : ByteArray := prog_13_method_52_code
def yX11_down : MethodName := ⟨RX11, "down", "(I)I"⟩
abbrev cX11_feed : ByteArray := prog_13_method_53_code
def yX11_feed : MethodName := ⟨RX11, "feed", "(III)I"⟩
abbrev cX11_trim : ByteArray := prog_13_method_54_code
def yX11_trim : MethodName := ⟨RX11, "trim", "(I)I"⟩
abbrev cX11_isLetter : ByteArray := prog_13_method_55_code
def yX11_isLetter : MethodName := ⟨RX11, "isLetter", "(I)Z"⟩
abbrev cX11_isDigit : ByteArray := prog_13_method_56_code
def yX11_isDigit : MethodName := ⟨RX11, "isDigit", "(I)Z"⟩
abbrev cX11_next : ByteArray := prog_13_method_57_code
def yX11_next : MethodName := ⟨RX11, "next", "()V"⟩
abbrev cX11_isSign : ByteArray := prog_13_method_58_code
def yX11_isSign : MethodName := ⟨RX11, "isSign", "(I)Z"⟩
abbrev cX11_isWordAt : ByteArray := prog_13_method_59_code
def yX11_isWordAt : MethodName := ⟨RX11, "isWordAt", "(IIII)Z"⟩
abbrev cX11_key : ByteArray := prog_13_method_60_code
def yX11_key : MethodName := ⟨RX11, "key", "()I"⟩
abbrev cX11_isName : ByteArray := prog_13_method_61_code
def yX11_isName : MethodName := ⟨RX11, "isName", "(II)Z"⟩
abbrev cX11_step : ByteArray := prog_13_method_62_code
def yX11_step : MethodName := ⟨RX11, "step", "(II)V"⟩
abbrev cX11_either : ByteArray := prog_13_method_63_code
def yX11_either : MethodName := ⟨RX11, "either", "(I)Z"⟩
abbrev cX11_both : ByteArray := prog_13_method_64_code
def yX11_both : MethodName := ⟨RX11, "both", "(I)Z"⟩
abbrev cX11_test : ByteArray := prog_13_method_65_code
def yX11_test : MethodName := ⟨RX11, "test", "(I)Z"⟩
abbrev cX11_sum : ByteArray := prog_13_method_66_code
def yX11_sum : MethodName := ⟨RX11, "sum", "(I)Z"⟩
abbrev cX11_term : ByteArray := prog_13_method_67_code
def yX11_term : MethodName := ⟨RX11, "term", "(I)Z"⟩
abbrev cX11_part0 : ByteArray := prog_13_method_68_code
def yX11_part0 : MethodName := ⟨RX11, "part0", "(I)Z"⟩
abbrev cX11_parse : ByteArray := prog_13_method_69_code
def yX11_parse : MethodName := ⟨RX11, "parse", "()I"⟩
abbrev cX11_text : ByteArray := prog_13_method_70_code
def yX11_text : MethodName := ⟨RX11, "text", "()I"⟩
abbrev cX11_textTold : ByteArray := prog_13_method_71_code
def yX11_textTold : MethodName := ⟨RX11, "textTold", "(II)I"⟩
abbrev cX11_counts : ByteArray := prog_13_method_72_code
def yX11_counts : MethodName := ⟨RX11, "counts", "(I)I"⟩
abbrev cX11_why : ByteArray := prog_13_method_73_code
def yX11_why : MethodName := ⟨RX11, "why", "(II)I"⟩
abbrev cX11_joined : ByteArray := prog_13_method_74_code
def yX11_joined : MethodName := ⟨RX11, "joined", "(III)I"⟩
abbrev cX11_worked : ByteArray := prog_13_method_75_code
def yX11_worked : MethodName := ⟨RX11, "worked", "(I)I"⟩
abbrev cX11_choose : ByteArray := prog_13_method_76_code
def yX11_choose : MethodName := ⟨RX11, "choose", "(I)I"⟩
abbrev cX11_clear : ByteArray := prog_13_method_77_code
def yX11_clear : MethodName := ⟨RX11, "clear", "()I"⟩
abbrev cX11_ofBurden : ByteArray := prog_13_method_78_code
def yX11_ofBurden : MethodName := ⟨RX11, "ofBurden", "(II)I"⟩
abbrev cX11_burden : ByteArray := prog_13_method_79_code
def yX11_burden : MethodName := ⟨RX11, "burden", "(III)I"⟩
abbrev cX11_ladle : ByteArray := prog_13_method_80_code
def yX11_ladle : MethodName := ⟨RX11, "ladle", "(I)I"⟩
abbrev cX11_backAt : ByteArray := prog_13_method_81_code
def yX11_backAt : MethodName := ⟨RX11, "backAt", "(I)I"⟩
abbrev cX11_pour : ByteArray := prog_13_method_82_code
def yX11_pour : MethodName := ⟨RX11, "pour", "(II)I"⟩
abbrev cX11_isSheet : ByteArray := prog_13_method_83_code
def yX11_isSheet : MethodName := ⟨RX11, "isSheet", "(I)Z"⟩
abbrev cX11_sheet : ByteArray := prog_13_method_84_code
def yX11_sheet : MethodName := ⟨RX11, "sheet", "(III)I"⟩
abbrev cX11_mark : ByteArray := prog_13_method_85_code
def yX11_mark : MethodName := ⟨RX11, "mark", "(III)I"⟩
abbrev cX11_sound : ByteArray := prog_13_method_86_code
def yX11_sound : MethodName := ⟨RX11, "sound", "(III)I"⟩
abbrev cX11_tops : ByteArray := prog_13_method_87_code
def yX11_tops : MethodName := ⟨RX11, "tops", "(II)I"⟩
abbrev cX11_copy : ByteArray := prog_13_method_88_code
def yX11_copy : MethodName := ⟨RX11, "copy", "(IIIII)I"⟩
abbrev cX11_isSlot : ByteArray := prog_13_method_89_code
def yX11_isSlot : MethodName := ⟨RX11, "isSlot", "(I)Z"⟩
abbrev cX11_lay : ByteArray := prog_13_method_90_code
def yX11_lay : MethodName := ⟨RX11, "lay", "(III)I"⟩
abbrev cX11_ask : ByteArray := prog_13_method_91_code
def yX11_ask : MethodName := ⟨RX11, "ask", "(II)I"⟩
abbrev cX11_item : ByteArray := prog_13_method_92_code
def yX11_item : MethodName := ⟨RX11, "item", "(II)I"⟩
abbrev cX11_rest : ByteArray := prog_13_method_93_code
def yX11_rest : MethodName := ⟨RX11, "rest", "(II)I"⟩
abbrev cX11_tell : ByteArray := prog_13_method_94_code
def yX11_tell : MethodName := ⟨RX11, "tell", "(I)I"⟩
abbrev cX11_check : ByteArray := prog_13_method_95_code
def yX11_check : MethodName := ⟨RX11, "check", "(I)I"⟩
abbrev cX11_keep : ByteArray := prog_13_method_96_code
def yX11_keep : MethodName := ⟨RX11, "keep", "()I"⟩
abbrev cX11_back : ByteArray := prog_13_method_97_code
def yX11_back : MethodName := ⟨RX11, "back", "()I"⟩
abbrev cX11_count : ByteArray := prog_13_method_98_code
def yX11_count : MethodName := ⟨RX11, "count", "(I)I"⟩
def RJ11 : String := "java/lang/Character"
def TJ11 : u_T := fun k => match k with
  | _ => ("", "", "", false)
def tyJ11 : Nat → FieldType := fun k => match k with
  | _ => .int
abbrev wsJ110 : List Cond := u_ws RJ11 TJ11 0
theorem nmJ11 : ∀ a, a < 0 → ∀ b, b < 0 → a ≠ b → (TJ11 a).2.1 ≠ (TJ11 b).2.1 := by decide +kernel
theorem tyJ11_ok : ∀ k, k < 0 → parseFieldDescriptor (TJ11 k).2.2.1 = some (tyJ11 k) := by decide +kernel
abbrev cJ11_isValidCodePoint_9a6ad : ByteArray := prog_14_method_11_code
def yJ11_isValidCodePoint_9a6ad : MethodName := ⟨RJ11, "isValidCodePoint", "(I)Z"⟩
abbrev cJ11_highSurrogate_5068e : ByteArray := prog_14_method_28_code
def yJ11_highSurrogate_5068e : MethodName := ⟨RJ11, "highSurrogate", "(I)C"⟩
abbrev cJ11_lowSurrogate_5068e : ByteArray := prog_14_method_29_code
def yJ11_lowSurrogate_5068e : MethodName := ⟨RJ11, "lowSurrogate", "(I)C"⟩
def RJ9 : String := "java/lang/Math"
def TJ9 : u_T := fun k => match k with
  | _ => ("", "", "", false)
def tyJ9 : Nat → FieldType := fun k => match k with
  | _ => .int
abbrev wsJ90 : List Cond := u_ws RJ9 TJ9 0
theorem nmJ9 : ∀ a, a < 0 → ∀ b, b < 0 → a ≠ b → (TJ9 a).2.1 ≠ (TJ9 b).2.1 := by decide +kernel
theorem tyJ9_ok : ∀ k, k < 0 → parseFieldDescriptor (TJ9 k).2.2.1 = some (tyJ9 k) := by decide +kernel
abbrev cJ9_abs_0f7a4 : ByteArray := prog_15_method_59_code
def yJ9_abs_0f7a4 : MethodName := ⟨RJ9, "abs", "(I)I"⟩
abbrev cJ9_max_7cf53 : ByteArray := prog_15_method_65_code
def yJ9_max_7cf53 : MethodName := ⟨RJ9, "max", "(II)I"⟩
abbrev cJ9_min_7cf53 : ByteArray := prog_15_method_69_code
def yJ9_min_7cf53 : MethodName := ⟨RJ9, "min", "(II)I"⟩
def RJ0 : String := "java/lang/String"
def TJ0 : u_T := fun k => match k with
  | _ => ("", "", "", false)
def tyJ0 : Nat → FieldType := fun k => match k with
  | _ => .int
abbrev wsJ00 : List Cond := u_ws RJ0 TJ0 0
theorem nmJ0 : ∀ a, a < 0 → ∀ b, b < 0 → a ≠ b → (TJ0 a).2.1 ≠ (TJ0 b).2.1 := by decide +kernel
theorem tyJ0_ok : ∀ k, k < 0 → parseFieldDescriptor (TJ0 k).2.2.1 = some (tyJ0 k) := by decide +kernel
abbrev cJ0_length_8abf5 : ByteArray := prog_16_method_54_code
def yJ0_length_8abf5 : MethodName := ⟨RJ0, "length", "()I"⟩
abbrev cJ0_charAt_5068e : ByteArray := prog_16_method_56_code
def yJ0_charAt_5068e : MethodName := ⟨RJ0, "charAt", "(I)C"⟩
abbrev cJ0_indexOf_0f7a4 : ByteArray := prog_16_method_79_code
def yJ0_indexOf_0f7a4 : MethodName := ⟨RJ0, "indexOf", "(I)I"⟩
abbrev cJ0_indexOf_7cf53 : ByteArray := prog_16_method_80_code
def yJ0_indexOf_7cf53 : MethodName := ⟨RJ0, "indexOf", "(II)I"⟩
abbrev cJ0_coder_7d493 : ByteArray := prog_16_method_152_code
def yJ0_coder_7d493 : MethodName := ⟨RJ0, "coder", "()B"⟩
abbrev cJ0_isLatin1_aae02 : ByteArray := prog_16_method_154_code
def yJ0_isLatin1_aae02 : MethodName := ⟨RJ0, "isLatin1", "()Z"⟩
abbrev cJ0_checkIndex_df160 : ByteArray := prog_16_method_155_code
def yJ0_checkIndex_df160 : MethodName := ⟨RJ0, "checkIndex", "(II)V"⟩
abbrev cJ0_checkBoundsBeginEnd_23922 : ByteArray := prog_16_method_158_code
def yJ0_checkBoundsBeginEnd_23922 : MethodName := ⟨RJ0, "checkBoundsBeginEnd", "(III)V"⟩
def RJ1 : String := "java/lang/StringLatin1"
def TJ1 : u_T := fun k => match k with
  | _ => ("", "", "", false)
def tyJ1 : Nat → FieldType := fun k => match k with
  | _ => .int
abbrev wsJ10 : List Cond := u_ws RJ1 TJ1 0
theorem nmJ1 : ∀ a, a < 0 → ∀ b, b < 0 → a ≠ b → (TJ1 a).2.1 ≠ (TJ1 b).2.1 := by decide +kernel
theorem tyJ1_ok : ∀ k, k < 0 → parseFieldDescriptor (TJ1 k).2.2.1 = some (tyJ1 k) := by decide +kernel
abbrev cJ1_charAt_3b067 : ByteArray := prog_17_method_2_code
def yJ1_charAt_3b067 : MethodName := ⟨RJ1, "charAt", "([BI)C"⟩
abbrev cJ1_canEncode_9a6ad : ByteArray := prog_17_method_4_code
def yJ1_canEncode_9a6ad : MethodName := ⟨RJ1, "canEncode", "(I)Z"⟩
abbrev cJ1_indexOf_4cfef : ByteArray := prog_17_method_22_code
def yJ1_indexOf_4cfef : MethodName := ⟨RJ1, "indexOf", "([BIII)I"⟩
abbrev cJ1_indexOfChar_4cfef : ByteArray := prog_17_method_23_code
def yJ1_indexOfChar_4cfef : MethodName := ⟨RJ1, "indexOfChar", "([BIII)I"⟩
def RJ2 : String := "java/lang/StringUTF16"
def TJ2 : u_T := fun k => match k with
  | _ => ("", "", "", false)
def tyJ2 : Nat → FieldType := fun k => match k with
  | _ => .int
abbrev wsJ20 : List Cond := u_ws RJ2 TJ2 0
theorem nmJ2 : ∀ a, a < 0 → ∀ b, b < 0 → a ≠ b → (TJ2 a).2.1 ≠ (TJ2 b).2.1 := by decide +kernel
theorem tyJ2_ok : ∀ k, k < 0 → parseFieldDescriptor (TJ2 k).2.2.1 = some (tyJ2 k) := by decide +kernel
abbrev cJ2_getChar_3b067 : ByteArray := prog_18_method_5_code
def yJ2_getChar_3b067 : MethodName := ⟨RJ2, "getChar", "([BI)C"⟩
abbrev cJ2_length_9d52b : ByteArray := prog_18_method_6_code
def yJ2_length_9d52b : MethodName := ⟨RJ2, "length", "([B)I"⟩
abbrev cJ2_indexOf_4cfef : ByteArray := prog_18_method_40_code
def yJ2_indexOf_4cfef : MethodName := ⟨RJ2, "indexOf", "([BIII)I"⟩
abbrev cJ2_indexOfChar_4cfef : ByteArray := prog_18_method_47_code
def yJ2_indexOfChar_4cfef : MethodName := ⟨RJ2, "indexOfChar", "([BIII)I"⟩
abbrev cJ2_indexOfCharUnsafe_4cfef : ByteArray := prog_18_method_48_code
def yJ2_indexOfCharUnsafe_4cfef : MethodName := ⟨RJ2, "indexOfCharUnsafe", "([BIII)I"⟩
abbrev cJ2_indexOfSupplementary_4cfef : ByteArray := prog_18_method_49_code
def yJ2_indexOfSupplementary_4cfef : MethodName := ⟨RJ2, "indexOfSupplementary", "([BIII)I"⟩
abbrev cJ2_charAt_3b067 : ByteArray := prog_18_method_83_code
def yJ2_charAt_3b067 : MethodName := ⟨RJ2, "charAt", "([BI)C"⟩
abbrev cJ2_checkIndex_2214a : ByteArray := prog_18_method_91_code
def yJ2_checkIndex_2214a : MethodName := ⟨RJ2, "checkIndex", "(I[B)V"⟩
abbrev cJ2_checkBoundsBeginEnd_d044e : ByteArray := prog_18_method_93_code
def yJ2_checkBoundsBeginEnd_d044e : MethodName := ⟨RJ2, "checkBoundsBeginEnd", "(II[B)V"⟩
def RJ10 : String := "java/lang/System"
def TJ10 : u_T := fun k => match k with
  | _ => ("", "", "", false)
def tyJ10 : Nat → FieldType := fun k => match k with
  | _ => .int
abbrev wsJ100 : List Cond := u_ws RJ10 TJ10 0
theorem nmJ10 : ∀ a, a < 0 → ∀ b, b < 0 → a ≠ b → (TJ10 a).2.1 ≠ (TJ10 b).2.1 := by decide +kernel
theorem tyJ10_ok : ∀ k, k < 0 → parseFieldDescriptor (TJ10 k).2.2.1 = some (tyJ10 k) := by decide +kernel
def RJ3 : String := "jdk/internal/util/Preconditions"
def TJ3 : u_T := fun k => match k with
  | _ => ("", "", "", false)
def tyJ3 : Nat → FieldType := fun k => match k with
  | _ => .int
abbrev wsJ30 : List Cond := u_ws RJ3 TJ3 0
theorem nmJ3 : ∀ a, a < 0 → ∀ b, b < 0 → a ≠ b → (TJ3 a).2.1 ≠ (TJ3 b).2.1 := by decide +kernel
theorem tyJ3_ok : ∀ k, k < 0 → parseFieldDescriptor (TJ3 k).2.2.1 = some (tyJ3 k) := by decide +kernel
abbrev cJ3_checkIndex_8e157 : ByteArray := prog_20_method_11_code
def yJ3_checkIndex_8e157 : MethodName := ⟨RJ3, "checkIndex", "(IILjava/util/function/BiFunction;)I"⟩
abbrev cJ3_checkFromToIndex_8c36e : ByteArray := prog_20_method_12_code
def yJ3_checkFromToIndex_8c36e : MethodName := ⟨RJ3, "checkFromToIndex", "(IIILjava/util/function/BiFunction;)I"⟩
def RL : String := "BurdenHouseLaw"
abbrev cL_law : ByteArray := code
def yL_law : MethodName := ⟨RL, "law", "([I)Z"⟩
abbrev vwCl : List vw_C := [(RX0, TX0, 8), (RX1, TX1, 10), (RX2, TX2, 5), (RX3, TX3, 4), (RX4, TX4, 10), (RX5, TX5, 4), (RX6, TX6, 5), (RX8, TX8, 16), (RX9, TX9, 8), (RX10, TX10, 9), (RX11, TX11, 36)]

/-- the good words of the tables -/
def GW : List Cond := lw_tbl.filter goodWord
theorem gw_of {w : Cond} (h : w ∈ lw_tbl) (hg : goodWord w = true) : w ∈ GW := List.mem_filter.mpr ⟨h, hg⟩
theorem gw_good : ∀ w ∈ GW, w ∈ lw_tbl ∧ ((w.onTables && w.keeps) = true ∨ ∃ ty, w = .arrayClass ty) := fun w h => ⟨(List.mem_filter.mp h).1, good_of_word (List.mem_filter.mp h).2⟩
theorem tb_in {w : Cond} (h : w ∈ tables_1) : w ∈ lw_tbl := List.mem_append_right _ h
theorem gw_0 {w : Cond} (h : w ∈ k2_sels lw_privs) (hg : goodWord w = true) : w ∈ GW := gw_of (List.mem_append_left _ h) hg
theorem gw_1 {w : Cond} (h : w ∈ tables_1_1) (hg : goodWord w = true) : w ∈ GW := gw_of (tb_in (List.mem_append_left _ h)) hg
theorem gw_2 {w : Cond} (h : w ∈ tables_1_2) (hg : goodWord w = true) : w ∈ GW := gw_of (tb_in (List.mem_append_right _ (List.mem_append_left _ h))) hg
theorem gw_3 {w : Cond} (h : w ∈ tables_1_3) (hg : goodWord w = true) : w ∈ GW := gw_of (tb_in (List.mem_append_right _ (List.mem_append_right _ (List.mem_append_left _ h)))) hg
theorem gw_4 {w : Cond} (h : w ∈ tables_1_4) (hg : goodWord w = true) : w ∈ GW := gw_of (tb_in (List.mem_append_right _ (List.mem_append_right _ (List.mem_append_right _ (List.mem_append_left _ h))))) hg
theorem gw_5 {w : Cond} (h : w ∈ tables_1_5) (hg : goodWord w = true) : w ∈ GW := gw_of (tb_in (List.mem_append_right _ (List.mem_append_right _ (List.mem_append_right _ (List.mem_append_right _ (List.mem_append_left _ h)))))) hg
theorem gw_6 {w : Cond} (h : w ∈ tables_1_6) (hg : goodWord w = true) : w ∈ GW := gw_of (tb_in (List.mem_append_right _ (List.mem_append_right _ (List.mem_append_right _ (List.mem_append_right _ (List.mem_append_right _ (List.mem_append_left _ h))))))) hg
theorem gw_7 {w : Cond} (h : w ∈ tables_1_7) (hg : goodWord w = true) : w ∈ GW := gw_of (tb_in (List.mem_append_right _ (List.mem_append_right _ (List.mem_append_right _ (List.mem_append_right _ (List.mem_append_right _ (List.mem_append_right _ h))))))) hg
