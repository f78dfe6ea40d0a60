section
-- begun from the claim's printed names and the skeleton's PART A (starting texts)
-- ===== PART A: goes FIRST, ahead of the names: the tables' words, and 'selects' of the private methods out of them =====
/-- a private method of a class that the tables say can be made, by its rows of tables_1 -/
def lw_okq (q : MethodName × Nat) : Prop := (q.1.cls ≠ "java/lang/invoke/MethodHandle" ∧ q.1.cls ≠ "java/lang/invoke/VarHandle") ∧ Cond.instantiable q.1.cls q.2 ∈ tables_1 ∧ Cond.privateMethod q.1 ∈ tables_1 ∧ Cond.instanceMethod q.1 ∈ tables_1
theorem lw_p0 : lw_okq (⟨"BurdenHouse", "isTold", "(III)Z"⟩, 9) := ⟨⟨by decide +kernel, by decide +kernel⟩, List.mem_of_getElem? (i := 21) (by decide +kernel), List.mem_of_getElem? (i := 1075) (by decide +kernel), List.mem_of_getElem? (i := 1076) (by decide +kernel)⟩
theorem lw_p1 : lw_okq (⟨"BurdenHouseModel", "binAt", "(I)I"⟩, 36) := ⟨⟨by decide +kernel, by decide +kernel⟩, List.mem_of_getElem? (i := 1115) (by decide +kernel), List.mem_of_getElem? (i := 1241) (by decide +kernel), List.mem_of_getElem? (i := 1242) (by decide +kernel)⟩
theorem lw_p2 : lw_okq (⟨"BurdenHouseModel", "isBin", "(I)Z"⟩, 36) := ⟨⟨by decide +kernel, by decide +kernel⟩, List.mem_of_getElem? (i := 1115) (by decide +kernel), List.mem_of_getElem? (i := 1249) (by decide +kernel), List.mem_of_getElem? (i := 1250) (by decide +kernel)⟩
theorem lw_p3 : lw_okq (⟨"BurdenHouseModel", "brings", "(III)I"⟩, 36) := ⟨⟨by decide +kernel, by decide +kernel⟩, List.mem_of_getElem? (i := 1115) (by decide +kernel), List.mem_of_getElem? (i := 1265) (by decide +kernel), List.mem_of_getElem? (i := 1266) (by decide +kernel)⟩
theorem lw_p4 : lw_okq (⟨"BurdenHouseModel", "becomes", "(II)I"⟩, 36) := ⟨⟨by decide +kernel, by decide +kernel⟩, List.mem_of_getElem? (i := 1115) (by decide +kernel), List.mem_of_getElem? (i := 1295) (by decide +kernel), List.mem_of_getElem? (i := 1296) (by decide +kernel)⟩
theorem lw_p5 : lw_okq (⟨"BurdenHouseModel", "comes", "(II)V"⟩, 36) := ⟨⟨by decide +kernel, by decide +kernel⟩, List.mem_of_getElem? (i := 1115) (by decide +kernel), List.mem_of_getElem? (i := 1313) (by decide +kernel), List.mem_of_getElem? (i := 1314) (by decide +kernel)⟩
theorem lw_p6 : lw_okq (⟨"BurdenHouseModel", "layerAt", "(I)I"⟩, 36) := ⟨⟨by decide +kernel, by decide +kernel⟩, List.mem_of_getElem? (i := 1115) (by decide +kernel), List.mem_of_getElem? (i := 1317) (by decide +kernel), List.mem_of_getElem? (i := 1318) (by decide +kernel)⟩
theorem lw_p7 : lw_okq (⟨"BurdenHouseModel", "part", "(I)V"⟩, 36) := ⟨⟨by decide +kernel, by decide +kernel⟩, List.mem_of_getElem? (i := 1115) (by decide +kernel), List.mem_of_getElem? (i := 1321) (by decide +kernel), List.mem_of_getElem? (i := 1322) (by decide +kernel)⟩
theorem lw_p8 : lw_okq (⟨"BurdenHouseModel", "slide", "(I)V"⟩, 36) := ⟨⟨by decide +kernel, by decide +kernel⟩, List.mem_of_getElem? (i := 1115) (by decide +kernel), List.mem_of_getElem? (i := 1326) (by decide +kernel), List.mem_of_getElem? (i := 1327) (by decide +kernel)⟩
theorem lw_p9 : lw_okq (⟨"BurdenHouseModel", "bulkIn", "(I)I"⟩, 36) := ⟨⟨by decide +kernel, by decide +kernel⟩, List.mem_of_getElem? (i := 1115) (by decide +kernel), List.mem_of_getElem? (i := 1330) (by decide +kernel), List.mem_of_getElem? (i := 1331) (by decide +kernel)⟩
theorem lw_p10 : lw_okq (⟨"BurdenHouseModel", "bulkOfLayer", "(I)I"⟩, 36) := ⟨⟨by decide +kernel, by decide +kernel⟩, List.mem_of_getElem? (i := 1115) (by decide +kernel), List.mem_of_getElem? (i := 1342) (by decide +kernel), List.mem_of_getElem? (i := 1343) (by decide +kernel)⟩
theorem lw_p11 : lw_okq (⟨"BurdenHouseModel", "topOf", "(I)I"⟩, 36) := ⟨⟨by decide +kernel, by decide +kernel⟩, List.mem_of_getElem? (i := 1115) (by decide +kernel), List.mem_of_getElem? (i := 1351) (by decide +kernel), List.mem_of_getElem? (i := 1352) (by decide +kernel)⟩
theorem lw_p12 : lw_okq (⟨"BurdenHouseModel", "resistance", "(I)I"⟩, 36) := ⟨⟨by decide +kernel, by decide +kernel⟩, List.mem_of_getElem? (i := 1115) (by decide +kernel), List.mem_of_getElem? (i := 1355) (by decide +kernel), List.mem_of_getElem? (i := 1356) (by decide +kernel)⟩
theorem lw_p13 : lw_okq (⟨"BurdenHouseModel", "partGas", "()V"⟩, 36) := ⟨⟨by decide +kernel, by decide +kernel⟩, List.mem_of_getElem? (i := 1115) (by decide +kernel), List.mem_of_getElem? (i := 1359) (by decide +kernel), List.mem_of_getElem? (i := 1360) (by decide +kernel)⟩
theorem lw_p14 : lw_okq (⟨"BurdenHouseModel", "gasNow", "()I"⟩, 36) := ⟨⟨by decide +kernel, by decide +kernel⟩, List.mem_of_getElem? (i := 1115) (by decide +kernel), List.mem_of_getElem? (i := 1363) (by decide +kernel), List.mem_of_getElem? (i := 1364) (by decide +kernel)⟩
theorem lw_p15 : lw_okq (⟨"BurdenHouseModel", "counts", "(I)I"⟩, 36) := ⟨⟨by decide +kernel, by decide +kernel⟩, List.mem_of_getElem? (i := 1115) (by decide +kernel), List.mem_of_getElem? (i := 1367) (by decide +kernel), List.mem_of_getElem? (i := 1368) (by decide +kernel)⟩
def lw_privs_1 : List (MethodName × Nat) := [(⟨"BurdenHouse", "isTold", "(III)Z"⟩, 9), (⟨"BurdenHouseModel", "binAt", "(I)I"⟩, 36), (⟨"BurdenHouseModel", "isBin", "(I)Z"⟩, 36), (⟨"BurdenHouseModel", "brings", "(III)I"⟩, 36), (⟨"BurdenHouseModel", "becomes", "(II)I"⟩, 36), (⟨"BurdenHouseModel", "comes", "(II)V"⟩, 36), (⟨"BurdenHouseModel", "layerAt", "(I)I"⟩, 36), (⟨"BurdenHouseModel", "part", "(I)V"⟩, 36), (⟨"BurdenHouseModel", "slide", "(I)V"⟩, 36), (⟨"BurdenHouseModel", "bulkIn", "(I)I"⟩, 36), (⟨"BurdenHouseModel", "bulkOfLayer", "(I)I"⟩, 36), (⟨"BurdenHouseModel", "topOf", "(I)I"⟩, 36), (⟨"BurdenHouseModel", "resistance", "(I)I"⟩, 36), (⟨"BurdenHouseModel", "partGas", "()V"⟩, 36), (⟨"BurdenHouseModel", "gasNow", "()I"⟩, 36), (⟨"BurdenHouseModel", "counts", "(I)I"⟩, 36)]
theorem lw_r1 : ∀ q ∈ lw_privs_1, lw_okq q := List.forall_mem_cons.mpr ⟨lw_p0, List.forall_mem_cons.mpr ⟨lw_p1, List.forall_mem_cons.mpr ⟨lw_p2, List.forall_mem_cons.mpr ⟨lw_p3, List.forall_mem_cons.mpr ⟨lw_p4, List.forall_mem_cons.mpr ⟨lw_p5, List.forall_mem_cons.mpr ⟨lw_p6, List.forall_mem_cons.mpr ⟨lw_p7, List.forall_mem_cons.mpr ⟨lw_p8, List.forall_mem_cons.mpr ⟨lw_p9, List.forall_mem_cons.mpr ⟨lw_p10, List.forall_mem_cons.mpr ⟨lw_p11, List.forall_mem_cons.mpr ⟨lw_p12, List.forall_mem_cons.mpr ⟨lw_p13, List.forall_mem_cons.mpr ⟨lw_p14, List.forall_mem_cons.mpr ⟨lw_p15, fun _ h => absurd h List.not_mem_nil⟩⟩⟩⟩⟩⟩⟩⟩⟩⟩⟩⟩⟩⟩⟩⟩
theorem lw_p16 : lw_okq (⟨"BurdenHouseModel", "textAt", "(I)I"⟩, 36) := ⟨⟨by decide +kernel, by decide +kernel⟩, List.mem_of_getElem? (i := 1115) (by decide +kernel), List.mem_of_getElem? (i := 1371) (by decide +kernel), List.mem_of_getElem? (i := 1372) (by decide +kernel)⟩
theorem lw_p17 : lw_okq (⟨"BurdenHouseModel", "greatestTop", "()I"⟩, 36) := ⟨⟨by decide +kernel, by decide +kernel⟩, List.mem_of_getElem? (i := 1115) (by decide +kernel), List.mem_of_getElem? (i := 1375) (by decide +kernel), List.mem_of_getElem? (i := 1376) (by decide +kernel)⟩
theorem lw_p18 : lw_okq (⟨"BurdenHouseModel", "worked", "(I)I"⟩, 36) := ⟨⟨by decide +kernel, by decide +kernel⟩, List.mem_of_getElem? (i := 1115) (by decide +kernel), List.mem_of_getElem? (i := 1379) (by decide +kernel), List.mem_of_getElem? (i := 1380) (by decide +kernel)⟩
theorem lw_p19 : lw_okq (⟨"BurdenHouseModel", "oneHour", "()V"⟩, 36) := ⟨⟨by decide +kernel, by decide +kernel⟩, List.mem_of_getElem? (i := 1115) (by decide +kernel), List.mem_of_getElem? (i := 1395) (by decide +kernel), List.mem_of_getElem? (i := 1396) (by decide +kernel)⟩
theorem lw_p20 : lw_okq (⟨"BurdenHouseModel", "goes", "(III)V"⟩, 36) := ⟨⟨by decide +kernel, by decide +kernel⟩, List.mem_of_getElem? (i := 1115) (by decide +kernel), List.mem_of_getElem? (i := 1402) (by decide +kernel), List.mem_of_getElem? (i := 1403) (by decide +kernel)⟩
theorem lw_p21 : lw_okq (⟨"BurdenHouseModel", "basic", "()I"⟩, 36) := ⟨⟨by decide +kernel, by decide +kernel⟩, List.mem_of_getElem? (i := 1115) (by decide +kernel), List.mem_of_getElem? (i := 1410) (by decide +kernel), List.mem_of_getElem? (i := 1411) (by decide +kernel)⟩
theorem lw_p22 : lw_okq (⟨"BurdenHouseModel", "castOut", "(I)V"⟩, 36) := ⟨⟨by decide +kernel, by decide +kernel⟩, List.mem_of_getElem? (i := 1115) (by decide +kernel), List.mem_of_getElem? (i := 1423) (by decide +kernel), List.mem_of_getElem? (i := 1424) (by decide +kernel)⟩
theorem lw_p23 : lw_okq (⟨"BurdenHouseModel", "setAside", "([I[I)V"⟩, 36) := ⟨⟨by decide +kernel, by decide +kernel⟩, List.mem_of_getElem? (i := 1115) (by decide +kernel), List.mem_of_getElem? (i := 1431) (by decide +kernel), List.mem_of_getElem? (i := 1432) (by decide +kernel)⟩
theorem lw_p24 : lw_okq (⟨"BurdenHouseModel", "parse", "()I"⟩, 36) := ⟨⟨by decide +kernel, by decide +kernel⟩, List.mem_of_getElem? (i := 1115) (by decide +kernel), List.mem_of_getElem? (i := 1451) (by decide +kernel), List.mem_of_getElem? (i := 1452) (by decide +kernel)⟩
theorem lw_p25 : lw_okq (⟨"BurdenHouseModel", "next", "()V"⟩, 36) := ⟨⟨by decide +kernel, by decide +kernel⟩, List.mem_of_getElem? (i := 1115) (by decide +kernel), List.mem_of_getElem? (i := 1455) (by decide +kernel), List.mem_of_getElem? (i := 1456) (by decide +kernel)⟩
theorem lw_p26 : lw_okq (⟨"BurdenHouseModel", "isLetter", "(I)Z"⟩, 36) := ⟨⟨by decide +kernel, by decide +kernel⟩, List.mem_of_getElem? (i := 1115) (by decide +kernel), List.mem_of_getElem? (i := 1459) (by decide +kernel), List.mem_of_getElem? (i := 1460) (by decide +kernel)⟩
theorem lw_p27 : lw_okq (⟨"BurdenHouseModel", "isDigit", "(I)Z"⟩, 36) := ⟨⟨by decide +kernel, by decide +kernel⟩, List.mem_of_getElem? (i := 1115) (by decide +kernel), List.mem_of_getElem? (i := 1465) (by decide +kernel), List.mem_of_getElem? (i := 1466) (by decide +kernel)⟩
theorem lw_p28 : lw_okq (⟨"BurdenHouseModel", "key", "()I"⟩, 36) := ⟨⟨by decide +kernel, by decide +kernel⟩, List.mem_of_getElem? (i := 1115) (by decide +kernel), List.mem_of_getElem? (i := 1471) (by decide +kernel), List.mem_of_getElem? (i := 1472) (by decide +kernel)⟩
theorem lw_p29 : lw_okq (⟨"BurdenHouseModel", "isWordAt", "(IIII)Z"⟩, 36) := ⟨⟨by decide +kernel, by decide +kernel⟩, List.mem_of_getElem? (i := 1115) (by decide +kernel), List.mem_of_getElem? (i := 1475) (by decide +kernel), List.mem_of_getElem? (i := 1476) (by decide +kernel)⟩
theorem lw_p30 : lw_okq (⟨"BurdenHouseModel", "either", "(I)Z"⟩, 36) := ⟨⟨by decide +kernel, by decide +kernel⟩, List.mem_of_getElem? (i := 1115) (by decide +kernel), List.mem_of_getElem? (i := 1479) (by decide +kernel), List.mem_of_getElem? (i := 1480) (by decide +kernel)⟩
theorem lw_p31 : lw_okq (⟨"BurdenHouseModel", "both", "(I)Z"⟩, 36) := ⟨⟨by decide +kernel, by decide +kernel⟩, List.mem_of_getElem? (i := 1115) (by decide +kernel), List.mem_of_getElem? (i := 1483) (by decide +kernel), List.mem_of_getElem? (i := 1484) (by decide +kernel)⟩
def lw_privs_2 : List (MethodName × Nat) := [(⟨"BurdenHouseModel", "textAt", "(I)I"⟩, 36), (⟨"BurdenHouseModel", "greatestTop", "()I"⟩, 36), (⟨"BurdenHouseModel", "worked", "(I)I"⟩, 36), (⟨"BurdenHouseModel", "oneHour", "()V"⟩, 36), (⟨"BurdenHouseModel", "goes", "(III)V"⟩, 36), (⟨"BurdenHouseModel", "basic", "()I"⟩, 36), (⟨"BurdenHouseModel", "castOut", "(I)V"⟩, 36), (⟨"BurdenHouseModel", "setAside", "([I[I)V"⟩, 36), (⟨"BurdenHouseModel", "parse", "()I"⟩, 36), (⟨"BurdenHouseModel", "next", "()V"⟩, 36), (⟨"BurdenHouseModel", "isLetter", "(I)Z"⟩, 36), (⟨"BurdenHouseModel", "isDigit", "(I)Z"⟩, 36), (⟨"BurdenHouseModel", "key", "()I"⟩, 36), (⟨"BurdenHouseModel", "isWordAt", "(IIII)Z"⟩, 36), (⟨"BurdenHouseModel", "either", "(I)Z"⟩, 36), (⟨"BurdenHouseModel", "both", "(I)Z"⟩, 36)]
theorem lw_r2 : ∀ q ∈ lw_privs_2, lw_okq q := List.forall_mem_cons.mpr ⟨lw_p16, List.forall_mem_cons.mpr ⟨lw_p17, List.forall_mem_cons.mpr ⟨lw_p18, List.forall_mem_cons.mpr ⟨lw_p19, List.forall_mem_cons.mpr ⟨lw_p20, List.forall_mem_cons.mpr ⟨lw_p21, List.forall_mem_cons.mpr ⟨lw_p22, List.forall_mem_cons.mpr ⟨lw_p23, List.forall_mem_cons.mpr ⟨lw_p24, List.forall_mem_cons.mpr ⟨lw_p25, List.forall_mem_cons.mpr ⟨lw_p26, List.forall_mem_cons.mpr ⟨lw_p27, List.forall_mem_cons.mpr ⟨lw_p28, List.forall_mem_cons.mpr ⟨lw_p29, List.forall_mem_cons.mpr ⟨lw_p30, List.forall_mem_cons.mpr ⟨lw_p31, fun _ h => absurd h List.not_mem_nil⟩⟩⟩⟩⟩⟩⟩⟩⟩⟩⟩⟩⟩⟩⟩⟩
theorem lw_p32 : lw_okq (⟨"BurdenHouseModel", "test", "(I)Z"⟩, 36) := ⟨⟨by decide +kernel, by decide +kernel⟩, List.mem_of_getElem? (i := 1115) (by decide +kernel), List.mem_of_getElem? (i := 1487) (by decide +kernel), List.mem_of_getElem? (i := 1488) (by decide +kernel)⟩
theorem lw_p33 : lw_okq (⟨"BurdenHouseModel", "sum", "(I)Z"⟩, 36) := ⟨⟨by decide +kernel, by decide +kernel⟩, List.mem_of_getElem? (i := 1115) (by decide +kernel), List.mem_of_getElem? (i := 1491) (by decide +kernel), List.mem_of_getElem? (i := 1492) (by decide +kernel)⟩
theorem lw_p34 : lw_okq (⟨"BurdenHouseModel", "term", "(I)Z"⟩, 36) := ⟨⟨by decide +kernel, by decide +kernel⟩, List.mem_of_getElem? (i := 1115) (by decide +kernel), List.mem_of_getElem? (i := 1495) (by decide +kernel), List.mem_of_getElem? (i := 1496) (by decide +kernel)⟩
theorem lw_p35 : lw_okq (⟨"BurdenHouseModel", "part0", "(I)Z"⟩, 36) := ⟨⟨by decide +kernel, by decide +kernel⟩, List.mem_of_getElem? (i := 1115) (by decide +kernel), List.mem_of_getElem? (i := 1499) (by decide +kernel), List.mem_of_getElem? (i := 1500) (by decide +kernel)⟩
theorem lw_p36 : lw_okq (⟨"BurdenHouseModel", "step", "(II)V"⟩, 36) := ⟨⟨by decide +kernel, by decide +kernel⟩, List.mem_of_getElem? (i := 1115) (by decide +kernel), List.mem_of_getElem? (i := 1503) (by decide +kernel), List.mem_of_getElem? (i := 1504) (by decide +kernel)⟩
theorem lw_p37 : lw_okq (⟨"BurdenHouseModel", "isSign", "(I)Z"⟩, 36) := ⟨⟨by decide +kernel, by decide +kernel⟩, List.mem_of_getElem? (i := 1115) (by decide +kernel), List.mem_of_getElem? (i := 1510) (by decide +kernel), List.mem_of_getElem? (i := 1511) (by decide +kernel)⟩
theorem lw_p38 : lw_okq (⟨"BurdenHouseModel", "isText", "(I)Z"⟩, 36) := ⟨⟨by decide +kernel, by decide +kernel⟩, List.mem_of_getElem? (i := 1115) (by decide +kernel), List.mem_of_getElem? (i := 1518) (by decide +kernel), List.mem_of_getElem? (i := 1519) (by decide +kernel)⟩
theorem lw_p39 : lw_okq (⟨"BurdenHouseModel", "ofBurden", "(II)I"⟩, 36) := ⟨⟨by decide +kernel, by decide +kernel⟩, List.mem_of_getElem? (i := 1115) (by decide +kernel), List.mem_of_getElem? (i := 1539) (by decide +kernel), List.mem_of_getElem? (i := 1540) (by decide +kernel)⟩
theorem lw_p40 : lw_okq (⟨"BurdenHouseModel", "ladleAt", "(I)I"⟩, 36) := ⟨⟨by decide +kernel, by decide +kernel⟩, List.mem_of_getElem? (i := 1115) (by decide +kernel), List.mem_of_getElem? (i := 1547) (by decide +kernel), List.mem_of_getElem? (i := 1548) (by decide +kernel)⟩
theorem lw_p41 : lw_okq (⟨"BurdenHouseModel", "allBulk", "()I"⟩, 36) := ⟨⟨by decide +kernel, by decide +kernel⟩, List.mem_of_getElem? (i := 1115) (by decide +kernel), List.mem_of_getElem? (i := 1615) (by decide +kernel), List.mem_of_getElem? (i := 1616) (by decide +kernel)⟩
def lw_privs_3 : List (MethodName × Nat) := [(⟨"BurdenHouseModel", "test", "(I)Z"⟩, 36), (⟨"BurdenHouseModel", "sum", "(I)Z"⟩, 36), (⟨"BurdenHouseModel", "term", "(I)Z"⟩, 36), (⟨"BurdenHouseModel", "part0", "(I)Z"⟩, 36), (⟨"BurdenHouseModel", "step", "(II)V"⟩, 36), (⟨"BurdenHouseModel", "isSign", "(I)Z"⟩, 36), (⟨"BurdenHouseModel", "isText", "(I)Z"⟩, 36), (⟨"BurdenHouseModel", "ofBurden", "(II)I"⟩, 36), (⟨"BurdenHouseModel", "ladleAt", "(I)I"⟩, 36), (⟨"BurdenHouseModel", "allBulk", "()I"⟩, 36)]
theorem lw_r3 : ∀ q ∈ lw_privs_3, lw_okq q := List.forall_mem_cons.mpr ⟨lw_p32, List.forall_mem_cons.mpr ⟨lw_p33, List.forall_mem_cons.mpr ⟨lw_p34, List.forall_mem_cons.mpr ⟨lw_p35, List.forall_mem_cons.mpr ⟨lw_p36, List.forall_mem_cons.mpr ⟨lw_p37, List.forall_mem_cons.mpr ⟨lw_p38, List.forall_mem_cons.mpr ⟨lw_p39, List.forall_mem_cons.mpr ⟨lw_p40, List.forall_mem_cons.mpr ⟨lw_p41, fun _ h => absurd h List.not_mem_nil⟩⟩⟩⟩⟩⟩⟩⟩⟩⟩
def lw_privs : List (MethodName × Nat) := lw_privs_1 ++ (lw_privs_2 ++ (lw_privs_3))
def lw_tbl : List Cond := k2_sels lw_privs ++ tables_1
theorem lw_privs_ok : ∀ q ∈ lw_privs, lw_okq q := by
  show ∀ q ∈ lw_privs_1 ++ (lw_privs_2 ++ (lw_privs_3)), lw_okq q
  exact List.forall_mem_append.mpr ⟨lw_r1, List.forall_mem_append.mpr ⟨lw_r2, lw_r3⟩⟩

theorem goodIn_r {big : List Cond} (ws : List Cond) (ps : List Nat) (hp : ws = ps.filterMap (fun i => big[i]?)) (h : ws.all goodWord = true) : GoodIn big ws := by
  intro w hw
  have h1 := List.all_eq_true.mp h w hw
  rw [hp] at hw
  obtain ⟨i, -, hi⟩ := List.mem_filterMap.mp hw
  have hm : w ∈ big := by first | exact List.mem_of_getElem? hi | exact List.getElem?_mem hi
  exact ⟨hm, good_of_word h1⟩
def RX0 : String := "BurdenHouse$Bins"
def TX0 : u_T := fun k => match k with
  | 0 => ("BurdenHouse$Bins", "kind", "[I", true)
  | 1 => ("BurdenHouse$Bins", "share", "[I", true)
  | 2 => ("BurdenHouse$Bins", "price", "[I", true)
  | 3 => ("BurdenHouse$Bins", "tons", "[I", true)
  | 4 => ("BurdenHouse$Bins", "turns", "[I", true)
  | 5 => ("BurdenHouse$Bins", "count", "I", false)
  | 6 => ("BurdenHouse$Bins", "told", "[I", true)
  | _ => ("BurdenHouse$Bins", "tolds", "I", false)
def tyX0 : Nat → FieldType := fun k => match k with
  | 0 => .array .int
  | 1 => .array .int
  | 2 => .array .int
  | 3 => .array .int
  | 4 => .array .int
  | 5 => .int
  | 6 => .array .int
  | _ => .int
abbrev wsX00 : List Cond := u_ws RX0 TX0 8
theorem nmX0 : ∀ a, a < 8 → ∀ b, b < 8 → a ≠ b → (TX0 a).2.1 ≠ (TX0 b).2.1 := by decide +kernel
theorem tyX0_ok : ∀ k, k < 8 → parseFieldDescriptor (TX0 k).2.2.1 = some (tyX0 k) := by decide +kernel
abbrev cX0_init : ByteArray := prog_2_method_1_code
def yX0_init : MethodName := ⟨RX0, "<init>", "()V"⟩
abbrev cX0_become : ByteArray := prog_2_method_2_code
def yX0_become : MethodName := ⟨RX0, "become", "(LBurdenHouse$Bins;)V"⟩
abbrev cX0_has : ByteArray := prog_2_method_3_code
def yX0_has : MethodName := ⟨RX0, "has", "(I)Z"⟩
abbrev cX0_add : ByteArray := prog_2_method_4_code
def yX0_add : MethodName := ⟨RX0, "add", "(III)I"⟩
abbrev cX0_isTold : ByteArray := prog_2_method_5_code
def yX0_isTold : MethodName := ⟨RX0, "isTold", "(I)Z"⟩
abbrev cX0_addTold : ByteArray := prog_2_method_6_code
def yX0_addTold : MethodName := ⟨RX0, "addTold", "(I)I"⟩
abbrev cX0_cheapestMix : ByteArray := prog_2_method_7_code
def yX0_cheapestMix : MethodName := ⟨RX0, "cheapestMix", "(III)I"⟩
abbrev cX0_suits : ByteArray := prog_2_method_8_code
def yX0_suits : MethodName := ⟨RX0, "suits", "(IIII)Z"⟩
abbrev cX0_tensIn : ByteArray := prog_2_method_9_code
def yX0_tensIn : MethodName := ⟨RX0, "tensIn", "(II)I"⟩
abbrev cX0_sumIn : ByteArray := prog_2_method_10_code
def yX0_sumIn : MethodName := ⟨RX0, "sumIn", "(II)I"⟩
abbrev cX0_priceIn : ByteArray := prog_2_method_11_code
def yX0_priceIn : MethodName := ⟨RX0, "priceIn", "(I)I"⟩
def RX1 : String := "BurdenHouse$Furnace"
def TX1 : u_T := fun k => match k with
  | 0 => ("BurdenHouse$Furnace", "hour", "I", false)
  | 1 => ("BurdenHouse$Furnace", "iron", "I", false)
  | 2 => ("BurdenHouse$Furnace", "acid", "I", false)
  | 3 => ("BurdenHouse$Furnace", "lime", "I", false)
  | 4 => ("BurdenHouse$Furnace", "layers", "[LBurdenHouse$Layer;", true)
  | 5 => ("BurdenHouse$Furnace", "count", "I", false)
  | 6 => ("BurdenHouse$Furnace", "bulk", "[I", true)
  | 7 => ("BurdenHouse$Furnace", "weights", "[I", true)
  | 8 => ("BurdenHouse$Furnace", "rests", "[J", true)
  | _ => ("BurdenHouse$Furnace", "parts", "[I", true)
def tyX1 : Nat → FieldType := fun k => match k with
  | 0 => .int
  | 1 => .int
  | 2 => .int
  | 3 => .int
  | 4 => .array (.object "BurdenHouse$Layer")
  | 5 => .int
  | 6 => .array .int
  | 7 => .array .int
  | 8 => .array .long
  | _ => .array .int
abbrev wsX10 : List Cond := u_ws RX1 TX1 10
theorem nmX1 : ∀ a, a < 10 → ∀ b, b < 10 → a ≠ b → (TX1 a).2.1 ≠ (TX1 b).2.1 := by decide +kernel
theorem tyX1_ok : ∀ k, k < 10 → parseFieldDescriptor (TX1 k).2.2.1 = some (tyX1 k) := by decide +kernel
abbrev cX1_init : ByteArray := prog_3_method_1_code
def yX1_init : MethodName := ⟨RX1, "<init>", "()V"⟩
abbrev cX1_become : ByteArray := prog_3_method_2_code
def yX1_become : MethodName := ⟨RX1, "become", "(LBurdenHouse$Furnace;)V"⟩
abbrev cX1_has : ByteArray := prog_3_method_3_code
def yX1_has : MethodName := ⟨RX1, "has", "(I)Z"⟩
abbrev cX1_hasRoom : ByteArray := prog_3_method_4_code
def yX1_hasRoom : MethodName := ⟨RX1, "hasRoom", "()Z"⟩
abbrev cX1_topOf : ByteArray := prog_3_method_5_code
def yX1_topOf : MethodName := ⟨RX1, "topOf", "(I)I"⟩
abbrev cX1_greatestTop : ByteArray := prog_3_method_6_code
def yX1_greatestTop : MethodName := ⟨RX1, "greatestTop", "()I"⟩
abbrev cX1_allBulk : ByteArray := prog_3_method_7_code
def yX1_allBulk : MethodName := ⟨RX1, "allBulk", "()I"⟩
abbrev cX1_basic : ByteArray := prog_3_method_8_code
def yX1_basic : MethodName := ⟨RX1, "basic", "()I"⟩
abbrev cX1_resistanceOf : ByteArray := prog_3_method_9_code
def yX1_resistanceOf : MethodName := ⟨RX1, "resistanceOf", "(I)I"⟩
abbrev cX1_partByWeights : ByteArray := prog_3_method_10_code
def yX1_partByWeights : MethodName := ⟨RX1, "partByWeights", "(I)V"⟩
abbrev cX1_greatestRest : ByteArray := prog_3_method_11_code
def yX1_greatestRest : MethodName := ⟨RX1, "greatestRest", "()I"⟩
abbrev cX1_layOn : ByteArray := prog_3_method_12_code
def yX1_layOn : MethodName := ⟨RX1, "layOn", "(LBurdenHouse$Bins;II)V"⟩
abbrev cX1_slide : ByteArray := prog_3_method_13_code
def yX1_slide : MethodName := ⟨RX1, "slide", "(I)V"⟩
abbrev cX1_slidesOnce : ByteArray := prog_3_method_14_code
def yX1_slidesOnce : MethodName := ⟨RX1, "slidesOnce", "(LBurdenHouse$Layer;I)Z"⟩
abbrev cX1_partGas : ByteArray := prog_3_method_15_code
def yX1_partGas : MethodName := ⟨RX1, "partGas", "(I)V"⟩
abbrev cX1_eatenOf : ByteArray := prog_3_method_16_code
def yX1_eatenOf : MethodName := ⟨RX1, "eatenOf", "(I)I"⟩
abbrev cX1_passHour : ByteArray := prog_3_method_17_code
def yX1_passHour : MethodName := ⟨RX1, "passHour", "(I)V"⟩
abbrev cX1_eat : ByteArray := prog_3_method_18_code
def yX1_eat : MethodName := ⟨RX1, "eat", "(II)V"⟩
abbrev cX1_bring : ByteArray := prog_3_method_19_code
def yX1_bring : MethodName := ⟨RX1, "bring", "(LBurdenHouse$Layer;I)V"⟩
abbrev cX1_dropEmptyLayers : ByteArray := prog_3_method_20_code
def yX1_dropEmptyLayers : MethodName := ⟨RX1, "dropEmptyLayers", "()V"⟩
abbrev cX1_takeOut : ByteArray := prog_3_method_21_code
def yX1_takeOut : MethodName := ⟨RX1, "takeOut", "(I)V"⟩
def RX2 : String := "BurdenHouse$House"
def TX2 : u_T := fun k => match k with
  | 0 => ("BurdenHouse$House", "bins", "LBurdenHouse$Bins;", true)
  | 1 => ("BurdenHouse$House", "furnace", "LBurdenHouse$Furnace;", true)
  | 2 => ("BurdenHouse$House", "texts", "LBurdenHouse$Texts;", true)
  | 3 => ("BurdenHouse$House", "ladles", "LBurdenHouse$Ladles;", true)
  | _ => ("BurdenHouse$House", "rules", "[I", true)
def tyX2 : Nat → FieldType := fun k => match k with
  | 0 => .object "BurdenHouse$Bins"
  | 1 => .object "BurdenHouse$Furnace"
  | 2 => .object "BurdenHouse$Texts"
  | 3 => .object "BurdenHouse$Ladles"
  | _ => .array .int
abbrev wsX20 : List Cond := u_ws RX2 TX2 5
theorem nmX2 : ∀ a, a < 5 → ∀ b, b < 5 → a ≠ b → (TX2 a).2.1 ≠ (TX2 b).2.1 := by decide +kernel
theorem tyX2_ok : ∀ k, k < 5 → parseFieldDescriptor (TX2 k).2.2.1 = some (tyX2 k) := by decide +kernel
abbrev cX2_init : ByteArray := prog_4_method_1_code
def yX2_init : MethodName := ⟨RX2, "<init>", "()V"⟩
abbrev cX2_become : ByteArray := prog_4_method_2_code
def yX2_become : MethodName := ⟨RX2, "become", "(LBurdenHouse$House;)V"⟩
abbrev cX2_passHour : ByteArray := prog_4_method_3_code
def yX2_passHour : MethodName := ⟨RX2, "passHour", "(LBurdenHouse$Furnace;)V"⟩
abbrev cX2_gasFor : ByteArray := prog_4_method_4_code
def yX2_gasFor : MethodName := ⟨RX2, "gasFor", "(LBurdenHouse$Furnace;)I"⟩
abbrev cX2_playRound : ByteArray := prog_4_method_5_code
def yX2_playRound : MethodName := ⟨RX2, "playRound", "()I"⟩
abbrev cX2_drawFor : ByteArray := prog_4_method_6_code
def yX2_drawFor : MethodName := ⟨RX2, "drawFor", "(I)I"⟩
abbrev cX2_chargeOut : ByteArray := prog_4_method_7_code
def yX2_chargeOut : MethodName := ⟨RX2, "chargeOut", "(II)V"⟩
abbrev cX2_pourOut : ByteArray := prog_4_method_8_code
def yX2_pourOut : MethodName := ⟨RX2, "pourOut", "(II)I"⟩
abbrev cX2_lateFor : ByteArray := prog_4_method_9_code
def yX2_lateFor : MethodName := ⟨RX2, "lateFor", "(I)I"⟩
def RX3 : String := "BurdenHouse$Ladles"
def TX3 : u_T := fun k => match k with
  | 0 => ("BurdenHouse$Ladles", "cap", "[I", true)
  | 1 => ("BurdenHouse$Ladles", "ready", "[I", true)
  | 2 => ("BurdenHouse$Ladles", "count", "I", false)
  | _ => ("BurdenHouse$Ladles", "fillings", "I", false)
def tyX3 : Nat → FieldType := fun k => match k with
  | 0 => .array .int
  | 1 => .array .int
  | 2 => .int
  | _ => .int
abbrev wsX30 : List Cond := u_ws RX3 TX3 4
theorem nmX3 : ∀ a, a < 4 → ∀ b, b < 4 → a ≠ b → (TX3 a).2.1 ≠ (TX3 b).2.1 := by decide +kernel
theorem tyX3_ok : ∀ k, k < 4 → parseFieldDescriptor (TX3 k).2.2.1 = some (tyX3 k) := by decide +kernel
abbrev cX3_init : ByteArray := prog_5_method_1_code
def yX3_init : MethodName := ⟨RX3, "<init>", "()V"⟩
abbrev cX3_become : ByteArray := prog_5_method_2_code
def yX3_become : MethodName := ⟨RX3, "become", "(LBurdenHouse$Ladles;)V"⟩
abbrev cX3_has : ByteArray := prog_5_method_3_code
def yX3_has : MethodName := ⟨RX3, "has", "(I)Z"⟩
abbrev cX3_add : ByteArray := prog_5_method_4_code
def yX3_add : MethodName := ⟨RX3, "add", "(I)I"⟩
abbrev cX3_firstReady : ByteArray := prog_5_method_5_code
def yX3_firstReady : MethodName := ⟨RX3, "firstReady", "()I"⟩
abbrev cX3_takeIn : ByteArray := prog_5_method_6_code
def yX3_takeIn : MethodName := ⟨RX3, "takeIn", "(III)I"⟩
def RX4 : String := "BurdenHouse$Layer"
def TX4 : u_T := fun k => match k with
  | 0 => ("BurdenHouse$Layer", "bin", "I", false)
  | 1 => ("BurdenHouse$Layer", "hour", "I", false)
  | 2 => ("BurdenHouse$Layer", "tons", "I", false)
  | 3 => ("BurdenHouse$Layer", "holds", "I", false)
  | 4 => ("BurdenHouse$Layer", "iron", "I", false)
  | 5 => ("BurdenHouse$Layer", "acid", "I", false)
  | 6 => ("BurdenHouse$Layer", "lime", "I", false)
  | 7 => ("BurdenHouse$Layer", "whole", "I", false)
  | 8 => ("BurdenHouse$Layer", "left", "I", false)
  | _ => ("BurdenHouse$Layer", "inRing", "[I", true)
def tyX4 : Nat → FieldType := fun k => match k with
  | 0 => .int
  | 1 => .int
  | 2 => .int
  | 3 => .int
  | 4 => .int
  | 5 => .int
  | 6 => .int
  | 7 => .int
  | 8 => .int
  | _ => .array .int
abbrev wsX40 : List Cond := u_ws RX4 TX4 10
theorem nmX4 : ∀ a, a < 10 → ∀ b, b < 10 → a ≠ b → (TX4 a).2.1 ≠ (TX4 b).2.1 := by decide +kernel
theorem tyX4_ok : ∀ k, k < 10 → parseFieldDescriptor (TX4 k).2.2.1 = some (tyX4 k) := by decide +kernel
abbrev cX4_init : ByteArray := prog_6_method_1_code
def yX4_init : MethodName := ⟨RX4, "<init>", "()V"⟩
abbrev cX4_become : ByteArray := prog_6_method_2_code
def yX4_become : MethodName := ⟨RX4, "become", "(LBurdenHouse$Layer;)V"⟩
abbrev cX4_broughtBetween : ByteArray := prog_6_method_3_code
def yX4_broughtBetween : MethodName := ⟨RX4, "broughtBetween", "(III)I"⟩
def RX5 : String := "BurdenHouse$Sheet"
def TX5 : u_T := fun k => match k with
  | 0 => ("BurdenHouse$Sheet", "sort", "I", false)
  | 1 => ("BurdenHouse$Sheet", "count", "I", false)
  | 2 => ("BurdenHouse$Sheet", "values", "[I", true)
  | _ => ("BurdenHouse$Sheet", "lost", "[Z", true)
def tyX5 : Nat → FieldType := fun k => match k with
  | 0 => .int
  | 1 => .int
  | 2 => .array .int
  | _ => .array .boolean
abbrev wsX50 : List Cond := u_ws RX5 TX5 4
theorem nmX5 : ∀ a, a < 4 → ∀ b, b < 4 → a ≠ b → (TX5 a).2.1 ≠ (TX5 b).2.1 := by decide +kernel
theorem tyX5_ok : ∀ k, k < 4 → parseFieldDescriptor (TX5 k).2.2.1 = some (tyX5 k) := by decide +kernel
abbrev cX5_init : ByteArray := prog_7_method_1_code
def yX5_init : MethodName := ⟨RX5, "<init>", "()V"⟩
abbrev cX5_become : ByteArray := prog_7_method_2_code
def yX5_become : MethodName := ⟨RX5, "become", "(LBurdenHouse$Sheet;)V"⟩
abbrev cX5_makeNew : ByteArray := prog_7_method_3_code
def yX5_makeNew : MethodName := ⟨RX5, "makeNew", "(II)V"⟩
abbrev cX5_has : ByteArray := prog_7_method_4_code
def yX5_has : MethodName := ⟨RX5, "has", "(I)Z"⟩
abbrev cX5_hasRow : ByteArray := prog_7_method_5_code
def yX5_hasRow : MethodName := ⟨RX5, "hasRow", "(II)Z"⟩
abbrev cX5_put : ByteArray := prog_7_method_6_code
def yX5_put : MethodName := ⟨RX5, "put", "(II)V"⟩
abbrev cX5_lose : ByteArray := prog_7_method_7_code
def yX5_lose : MethodName := ⟨RX5, "lose", "(I)V"⟩
abbrev cX5_knownAhead : ByteArray := prog_7_method_8_code
def yX5_knownAhead : MethodName := ⟨RX5, "knownAhead", "(I)I"⟩
abbrev cX5_hangs : ByteArray := prog_7_method_9_code
def yX5_hangs : MethodName := ⟨RX5, "hangs", "()I"⟩
abbrev cX5_slips : ByteArray := prog_7_method_10_code
def yX5_slips : MethodName := ⟨RX5, "slips", "(I)I"⟩
def RX6 : String := "BurdenHouse$Slot"
def TX6 : u_T := fun k => match k with
  | 0 => ("BurdenHouse$Slot", "thing", "I", false)
  | 1 => ("BurdenHouse$Slot", "kind", "I", false)
  | 2 => ("BurdenHouse$Slot", "share", "I", false)
  | 3 => ("BurdenHouse$Slot", "number", "I", false)
  | _ => ("BurdenHouse$Slot", "sheet", "LBurdenHouse$Sheet;", true)
def tyX6 : Nat → FieldType := fun k => match k with
  | 0 => .int
  | 1 => .int
  | 2 => .int
  | 3 => .int
  | _ => .object "BurdenHouse$Sheet"
abbrev wsX60 : List Cond := u_ws RX6 TX6 5
theorem nmX6 : ∀ a, a < 5 → ∀ b, b < 5 → a ≠ b → (TX6 a).2.1 ≠ (TX6 b).2.1 := by decide +kernel
theorem tyX6_ok : ∀ k, k < 5 → parseFieldDescriptor (TX6 k).2.2.1 = some (tyX6 k) := by decide +kernel
abbrev cX6_init : ByteArray := prog_8_method_1_code
def yX6_init : MethodName := ⟨RX6, "<init>", "()V"⟩
def RX7 : String := "BurdenHouse$Stuff"
def TX7 : u_T := fun k => match k with
  | _ => ("", "", "", false)
def tyX7 : Nat → FieldType := fun k => match k with
  | _ => .int
abbrev wsX70 : List Cond := u_ws RX7 TX7 0
theorem nmX7 : ∀ a, a < 0 → ∀ b, b < 0 → a ≠ b → (TX7 a).2.1 ≠ (TX7 b).2.1 := by decide +kernel
theorem tyX7_ok : ∀ k, k < 0 → parseFieldDescriptor (TX7 k).2.2.1 = some (tyX7 k) := by decide +kernel
abbrev cX7_isOf : ByteArray := prog_9_method_2_code
def yX7_isOf : MethodName := ⟨RX7, "isOf", "(II)Z"⟩
abbrev cX7_amountOf : ByteArray := prog_9_method_3_code
def yX7_amountOf : MethodName := ⟨RX7, "amountOf", "(IIII)I"⟩
abbrev cX7_bulkOf : ByteArray := prog_9_method_4_code
def yX7_bulkOf : MethodName := ⟨RX7, "bulkOf", "(II)I"⟩
abbrev cX7_ironOf : ByteArray := prog_9_method_5_code
def yX7_ironOf : MethodName := ⟨RX7, "ironOf", "(III)I"⟩
abbrev cX7_acidOf : ByteArray := prog_9_method_6_code
def yX7_acidOf : MethodName := ⟨RX7, "acidOf", "(III)I"⟩
abbrev cX7_limeOf : ByteArray := prog_9_method_7_code
def yX7_limeOf : MethodName := ⟨RX7, "limeOf", "(III)I"⟩
abbrev cX7_holdsOf : ByteArray := prog_9_method_8_code
def yX7_holdsOf : MethodName := ⟨RX7, "holdsOf", "(I)I"⟩
def RX8 : String := "BurdenHouse$Tape"
def TX8 : u_T := fun k => match k with
  | 0 => ("BurdenHouse$Tape", "bytes", "[I", true)
  | 1 => ("BurdenHouse$Tape", "length", "I", false)
  | 2 => ("BurdenHouse$Tape", "at", "I", false)
  | 3 => ("BurdenHouse$Tape", "end", "I", false)
  | 4 => ("BurdenHouse$Tape", "sort", "I", false)
  | 5 => ("BurdenHouse$Tape", "close", "Z", false)
  | 6 => ("BurdenHouse$Tape", "key", "I", false)
  | 7 => ("BurdenHouse$Tape", "bin", "I", false)
  | 8 => ("BurdenHouse$Tape", "pieces", "I", false)
  | 9 => ("BurdenHouse$Tape", "code", "[I", true)
  | 10 => ("BurdenHouse$Tape", "codes", "I", false)
  | 11 => ("BurdenHouse$Tape", "signs", "[I", true)
  | 12 => ("BurdenHouse$Tape", "held", "I", false)
  | 13 => ("BurdenHouse$Tape", "openBrackets", "I", false)
  | 14 => ("BurdenHouse$Tape", "openNots", "I", false)
  | _ => ("BurdenHouse$Tape", "wantsPiece", "Z", false)
def tyX8 : Nat → FieldType := fun k => match k with
  | 0 => .array .int
  | 1 => .int
  | 2 => .int
  | 3 => .int
  | 4 => .int
  | 5 => .boolean
  | 6 => .int
  | 7 => .int
  | 8 => .int
  | 9 => .array .int
  | 10 => .int
  | 11 => .array .int
  | 12 => .int
  | 13 => .int
  | 14 => .int
  | _ => .boolean
abbrev wsX80 : List Cond := u_ws RX8 TX8 16
theorem nmX8 : ∀ a, a < 16 → ∀ b, b < 16 → a ≠ b → (TX8 a).2.1 ≠ (TX8 b).2.1 := by decide +kernel
theorem tyX8_ok : ∀ k, k < 16 → parseFieldDescriptor (TX8 k).2.2.1 = some (tyX8 k) := by decide +kernel
abbrev cX8_init : ByteArray := prog_10_method_1_code
def yX8_init : MethodName := ⟨RX8, "<init>", "()V"⟩
abbrev cX8_addNumber : ByteArray := prog_10_method_2_code
def yX8_addNumber : MethodName := ⟨RX8, "addNumber", "(I)V"⟩
abbrev cX8_readText : ByteArray := prog_10_method_3_code
def yX8_readText : MethodName := ⟨RX8, "readText", "()I"⟩
abbrev cX8_beginReading : ByteArray := prog_10_method_4_code
def yX8_beginReading : MethodName := ⟨RX8, "beginReading", "()V"⟩
abbrev cX8_step : ByteArray := prog_10_method_5_code
def yX8_step : MethodName := ⟨RX8, "step", "()V"⟩
abbrev cX8_sortAt : ByteArray := prog_10_method_6_code
def yX8_sortAt : MethodName := ⟨RX8, "sortAt", "(I)I"⟩
abbrev cX8_takesHead : ByteArray := prog_10_method_7_code
def yX8_takesHead : MethodName := ⟨RX8, "takesHead", "()Z"⟩
abbrev cX8_keyThere : ByteArray := prog_10_method_8_code
def yX8_keyThere : MethodName := ⟨RX8, "keyThere", "()I"⟩
abbrev cX8_isThere : ByteArray := prog_10_method_9_code
def yX8_isThere : MethodName := ⟨RX8, "isThere", "(Ljava/lang/String;)Z"⟩
abbrev cX8_numberThere : ByteArray := prog_10_method_10_code
def yX8_numberThere : MethodName := ⟨RX8, "numberThere", "()I"⟩
abbrev cX8_takesPiece : ByteArray := prog_10_method_11_code
def yX8_takesPiece : MethodName := ⟨RX8, "takesPiece", "()Z"⟩
abbrev cX8_nameThere : ByteArray := prog_10_method_12_code
def yX8_nameThere : MethodName := ⟨RX8, "nameThere", "()I"⟩
abbrev cX8_takesOpening : ByteArray := prog_10_method_13_code
def yX8_takesOpening : MethodName := ⟨RX8, "takesOpening", "()Z"⟩
abbrev cX8_takesSign : ByteArray := prog_10_method_14_code
def yX8_takesSign : MethodName := ⟨RX8, "takesSign", "()Z"⟩
abbrev cX8_takesClosing : ByteArray := prog_10_method_15_code
def yX8_takesClosing : MethodName := ⟨RX8, "takesClosing", "()Z"⟩
abbrev cX8_endPiece : ByteArray := prog_10_method_16_code
def yX8_endPiece : MethodName := ⟨RX8, "endPiece", "()V"⟩
abbrev cX8_writeHeldFrom : ByteArray := prog_10_method_17_code
def yX8_writeHeldFrom : MethodName := ⟨RX8, "writeHeldFrom", "(IZ)V"⟩
abbrev cX8_heldRank : ByteArray := prog_10_method_18_code
def yX8_heldRank : MethodName := ⟨RX8, "heldRank", "()I"⟩
abbrev cX8_rankOf : ByteArray := prog_10_method_19_code
def yX8_rankOf : MethodName := ⟨RX8, "rankOf", "(I)I"⟩
abbrev cX8_hold : ByteArray := prog_10_method_20_code
def yX8_hold : MethodName := ⟨RX8, "hold", "(I)V"⟩
abbrev cX8_write : ByteArray := prog_10_method_21_code
def yX8_write : MethodName := ⟨RX8, "write", "(I)V"⟩
def RX9 : String := "BurdenHouse$Texts"
def TX9 : u_T := fun k => match k with
  | 0 => ("BurdenHouse$Texts", "key", "[I", true)
  | 1 => ("BurdenHouse$Texts", "bin", "[I", true)
  | 2 => ("BurdenHouse$Texts", "pieces", "[I", true)
  | 3 => ("BurdenHouse$Texts", "code", "[[I", true)
  | 4 => ("BurdenHouse$Texts", "codes", "[I", true)
  | 5 => ("BurdenHouse$Texts", "count", "I", false)
  | 6 => ("BurdenHouse$Texts", "named", "[I", true)
  | _ => ("BurdenHouse$Texts", "stack", "[I", true)
def tyX9 : Nat → FieldType := fun k => match k with
  | 0 => .array .int
  | 1 => .array .int
  | 2 => .array .int
  | 3 => .array (.array .int)
  | 4 => .array .int
  | 5 => .int
  | 6 => .array .int
  | _ => .array .int
abbrev wsX90 : List Cond := u_ws RX9 TX9 8
theorem nmX9 : ∀ a, a < 8 → ∀ b, b < 8 → a ≠ b → (TX9 a).2.1 ≠ (TX9 b).2.1 := by decide +kernel
theorem tyX9_ok : ∀ k, k < 8 → parseFieldDescriptor (TX9 k).2.2.1 = some (tyX9 k) := by decide +kernel
abbrev cX9_init : ByteArray := prog_11_method_1_code
def yX9_init : MethodName := ⟨RX9, "<init>", "()V"⟩
abbrev cX9_become : ByteArray := prog_11_method_2_code
def yX9_become : MethodName := ⟨RX9, "become", "(LBurdenHouse$Texts;)V"⟩
abbrev cX9_has : ByteArray := prog_11_method_3_code
def yX9_has : MethodName := ⟨RX9, "has", "(I)Z"⟩
abbrev cX9_add : ByteArray := prog_11_method_4_code
def yX9_add : MethodName := ⟨RX9, "add", "(LBurdenHouse$Tape;)I"⟩
abbrev cX9_lastOf : ByteArray := prog_11_method_5_code
def yX9_lastOf : MethodName := ⟨RX9, "lastOf", "(II)I"⟩
abbrev cX9_name : ByteArray := prog_11_method_6_code
def yX9_name : MethodName := ⟨RX9, "name", "(CI)V"⟩
abbrev cX9_worth : ByteArray := prog_11_method_7_code
def yX9_worth : MethodName := ⟨RX9, "worth", "(I)I"⟩
abbrev cX9_valueOf : ByteArray := prog_11_method_8_code
def yX9_valueOf : MethodName := ⟨RX9, "valueOf", "(I)I"⟩
abbrev cX9_joined : ByteArray := prog_11_method_9_code
def yX9_joined : MethodName := ⟨RX9, "joined", "(III)I"⟩
def RX10 : String := "BurdenHouse"
def TX10 : u_T := fun k => match k with
  | 0 => ("BurdenHouse", "house", "LBurdenHouse$House;", true)
  | 1 => ("BurdenHouse", "image", "LBurdenHouse$House;", true)
  | 2 => ("BurdenHouse", "imageKept", "Z", false)
  | 3 => ("BurdenHouse", "trial", "LBurdenHouse$Furnace;", true)
  | 4 => ("BurdenHouse", "tape", "LBurdenHouse$Tape;", true)
  | 5 => ("BurdenHouse", "sheets", "[LBurdenHouse$Sheet;", true)
  | 6 => ("BurdenHouse", "slots", "[LBurdenHouse$Slot;", true)
  | 7 => ("BurdenHouse", "waiting", "[I", true)
  | _ => ("BurdenHouse", "waits", "I", false)
def tyX10 : Nat → FieldType := fun k => match k with
  | 0 => .object "BurdenHouse$House"
  | 1 => .object "BurdenHouse$House"
  | 2 => .boolean
  | 3 => .object "BurdenHouse$Furnace"
  | 4 => .object "BurdenHouse$Tape"
  | 5 => .array (.object "BurdenHouse$Sheet")
  | 6 => .array (.object "BurdenHouse$Slot")
  | 7 => .array .int
  | _ => .int
abbrev wsX100 : List Cond := u_ws RX10 TX10 9
theorem nmX10 : ∀ a, a < 9 → ∀ b, b < 9 → a ≠ b → (TX10 a).2.1 ≠ (TX10 b).2.1 := by decide +kernel
theorem tyX10_ok : ∀ k, k < 9 → parseFieldDescriptor (TX10 k).2.2.1 = some (tyX10 k) := by decide +kernel
abbrev cX10_init : ByteArray := prog_1_method_1_code
def yX10_init : MethodName := ⟨RX10, "<init>", "()V"⟩
abbrev cX10_bin : ByteArray := prog_1_method_2_code
def yX10_bin : MethodName := ⟨RX10, "bin", "(III)I"⟩
abbrev cX10_told : ByteArray := prog_1_method_3_code
def yX10_told : MethodName := ⟨RX10, "told", "(II)I"⟩
abbrev cX10_of : ByteArray := prog_1_method_4_code
def yX10_of : MethodName := ⟨RX10, "of", "(III)I"⟩
abbrev cX10_as : ByteArray := prog_1_method_5_code
def yX10_as : MethodName := ⟨RX10, "as", "(II)I"⟩
abbrev cX10_fill : ByteArray := prog_1_method_6_code
def yX10_fill : MethodName := ⟨RX10, "fill", "(II)I"⟩
abbrev cX10_turns : ByteArray := prog_1_method_7_code
def yX10_turns : MethodName := ⟨RX10, "turns", "(II)I"⟩
abbrev cX10_rule : ByteArray := prog_1_method_8_code
def yX10_rule : MethodName := ⟨RX10, "rule", "(II)I"⟩
abbrev cX10_empty : ByteArray := prog_1_method_9_code
def yX10_empty : MethodName := ⟨RX10, "empty", "(II)I"⟩
abbrev cX10_charge : ByteArray := prog_1_method_10_code
def yX10_charge : MethodName := ⟨RX10, "charge", "(II)I"⟩
abbrev cX10_layer : ByteArray := prog_1_method_11_code
def yX10_layer : MethodName := ⟨RX10, "layer", "(II)I"⟩
abbrev cX10_ring : ByteArray := prog_1_method_12_code
def yX10_ring : MethodName := ⟨RX10, "ring", "(II)I"⟩
abbrev cX10_run : ByteArray := prog_1_method_13_code
def yX10_run : MethodName := ⟨RX10, "run", "(I)I"⟩
abbrev cX10_round : ByteArray := prog_1_method_14_code
def yX10_round : MethodName := ⟨RX10, "round", "()I"⟩
abbrev cX10_hearth : ByteArray := prog_1_method_15_code
def yX10_hearth : MethodName := ⟨RX10, "hearth", "(I)I"⟩
abbrev cX10_cast : ByteArray := prog_1_method_16_code
def yX10_cast : MethodName := ⟨RX10, "cast", "(I)I"⟩
abbrev cX10_down : ByteArray := prog_1_method_17_code
def yX10_down : MethodName := ⟨RX10, "down", "(I)I"⟩
abbrev cX10_feed : ByteArray := prog_1_method_18_code
def yX10_feed : MethodName := ⟨RX10, "feed", "(III)I"⟩
abbrev cX10_trim : ByteArray := prog_1_method_19_code
def yX10_trim : MethodName := ⟨RX10, "trim", "(I)I"⟩
abbrev cX10_text : ByteArray := prog_1_method_20_code
def yX10_text : MethodName := ⟨RX10, "text", "()I"⟩
abbrev cX10_textTold : ByteArray := prog_1_method_21_code
def yX10_textTold : MethodName := ⟨RX10, "textTold", "(II)I"⟩
abbrev cX10_why : ByteArray := prog_1_method_22_code
def yX10_why : MethodName := ⟨RX10, "why", "(II)I"⟩
abbrev cX10_choose : ByteArray := prog_1_method_23_code
def yX10_choose : MethodName := ⟨RX10, "choose", "(I)I"⟩
abbrev cX10_clear : ByteArray := prog_1_method_24_code
def yX10_clear : MethodName := ⟨RX10, "clear", "()I"⟩
abbrev cX10_burden : ByteArray := prog_1_method_25_code
def yX10_burden : MethodName := ⟨RX10, "burden", "(III)I"⟩
abbrev cX10_ladle : ByteArray := prog_1_method_26_code
def yX10_ladle : MethodName := ⟨RX10, "ladle", "(I)I"⟩
abbrev cX10_backAt : ByteArray := prog_1_method_27_code
def yX10_backAt : MethodName := ⟨RX10, "backAt", "(I)I"⟩
abbrev cX10_pour : ByteArray := prog_1_method_28_code
def yX10_pour : MethodName := ⟨RX10, "pour", "(II)I"⟩
abbrev cX10_sheet : ByteArray := prog_1_method_29_code
def yX10_sheet : MethodName := ⟨RX10, "sheet", "(III)I"⟩
abbrev cX10_mark : ByteArray := prog_1_method_30_code
def yX10_mark : MethodName := ⟨RX10, "mark", "(III)I"⟩
abbrev cX10_sound : ByteArray := prog_1_method_31_code
def yX10_sound : MethodName := ⟨RX10, "sound", "(III)I"⟩
abbrev cX10_tops : ByteArray := prog_1_method_32_code
def yX10_tops : MethodName := ⟨RX10, "tops", "(II)I"⟩
abbrev cX10_copy : ByteArray := prog_1_method_33_code
def yX10_copy : MethodName := ⟨RX10, "copy", "(IIIII)I"⟩
abbrev cX10_lay : ByteArray := prog_1_method_34_code
def yX10_lay : MethodName := ⟨RX10, "lay", "(III)I"⟩
abbrev cX10_ask : ByteArray := prog_1_method_35_code
def yX10_ask : MethodName := ⟨RX10, "ask", "(II)I"⟩
abbrev cX10_item : ByteArray := prog_1_method_36_code
def yX10_item : MethodName := ⟨RX10, "item", "(II)I"⟩
abbrev cX10_rest : ByteArray := prog_1_method_37_code
def yX10_rest : MethodName := ⟨RX10, "rest", "(II)I"⟩
abbrev cX10_tell : ByteArray := prog_1_method_38_code
def yX10_tell : MethodName := ⟨RX10, "tell", "(I)I"⟩
abbrev cX10_check : ByteArray := prog_1_method_39_code
def yX10_check : MethodName := ⟨RX10, "check", "(I)I"⟩
abbrev cX10_keep : ByteArray := prog_1_method_40_code
def yX10_keep : MethodName := ⟨RX10, "keep", "()I"⟩
abbrev cX10_back : ByteArray := prog_1_method_41_code
def yX10_back : MethodName := ⟨RX10, "back", "()I"⟩
abbrev cX10_count : ByteArray := prog_1_method_42_code
def yX10_count : MethodName := ⟨RX10, "count", "(I)I"⟩
abbrev cX10_isTold : ByteArray := prog_1_method_43_code
def yX10_isTold : MethodName := ⟨RX10, "isTold", "(III)Z"⟩
abbrev cX10_isWithin : ByteArray := prog_1_method_44_code
def yX10_isWithin : MethodName := ⟨RX10, "isWithin", "(III)Z"⟩
abbrev cX10_isKind : ByteArray := prog_1_method_45_code
def yX10_isKind : MethodName := ⟨RX10, "isKind", "(I)Z"⟩
abbrev cX10_isSheet : ByteArray := prog_1_method_46_code
def yX10_isSheet : MethodName := ⟨RX10, "isSheet", "(I)Z"⟩
abbrev cX10_isSlot : ByteArray := prog_1_method_47_code
def yX10_isSlot : MethodName := ⟨RX10, "isSlot", "(I)Z"⟩
abbrev cX10_heldWithin999 : ByteArray := prog_1_method_48_code
def yX10_heldWithin999 : MethodName := ⟨RX10, "heldWithin999", "(I)I"⟩
abbrev cX10_basicOf : ByteArray := prog_1_method_49_code
def yX10_basicOf : MethodName := ⟨RX10, "basicOf", "(II)I"⟩
def RX11 : String := "BurdenHouseModel"
def TX11 : u_T := fun k => match k with
  | 0 => ("BurdenHouseModel", "s", "[I", true)
  | 1 => ("BurdenHouseModel", "image", "[I", true)
  | 2 => ("BurdenHouseModel", "aside", "[I", true)
  | 3 => ("BurdenHouseModel", "hasImage", "Z", false)
  | 4 => ("BurdenHouseModel", "tSort", "[I", true)
  | 5 => ("BurdenHouseModel", "tSize", "[I", true)
  | 6 => ("BurdenHouseModel", "tNumber", "[I", true)
  | 7 => ("BurdenHouseModel", "held", "[I", true)
  | 8 => ("BurdenHouseModel", "heldNumber", "[I", true)
  | 9 => ("BurdenHouseModel", "heldShare", "[I", true)
  | 10 => ("BurdenHouseModel", "heldSize", "[I", true)
  | 11 => ("BurdenHouseModel", "heldRow", "[I", true)
  | 12 => ("BurdenHouseModel", "weights", "[J", true)
  | 13 => ("BurdenHouseModel", "parts", "[I", true)
  | 14 => ("BurdenHouseModel", "rests", "[J", true)
  | 15 => ("BurdenHouseModel", "tops", "[I", true)
  | 16 => ("BurdenHouseModel", "inRing", "[I", true)
  | 17 => ("BurdenHouseModel", "followed", "I", false)
  | 18 => ("BurdenHouseModel", "tape", "[I", true)
  | 19 => ("BurdenHouseModel", "taped", "I", false)
  | 20 => ("BurdenHouseModel", "begin", "I", false)
  | 21 => ("BurdenHouseModel", "behind", "I", false)
  | 22 => ("BurdenHouseModel", "token", "I", false)
  | 23 => ("BurdenHouseModel", "number", "I", false)
  | 24 => ("BurdenHouseModel", "letter", "I", false)
  | 25 => ("BurdenHouseModel", "deep", "I", false)
  | 26 => ("BurdenHouseModel", "turned", "I", false)
  | 27 => ("BurdenHouseModel", "laid", "I", false)
  | 28 => ("BurdenHouseModel", "laidAt", "I", false)
  | 29 => ("BurdenHouseModel", "said", "I", false)
  | 30 => ("BurdenHouseModel", "named", "[I", true)
  | 31 => ("BurdenHouseModel", "pile", "[I", true)
  | 32 => ("BurdenHouseModel", "carried", "[I", true)
  | 33 => ("BurdenHouseModel", "waits", "[I", true)
  | 34 => ("BurdenHouseModel", "waiting", "I", false)
  | _ => ("BurdenHouseModel", "row", "[I", true)
def tyX11 : Nat → FieldType := fun k => match k with
  | 0 => .array .int
  | 1 => .array .int
  | 2 => .array .int
  | 3 => .boolean
  | 4 => .array .int
  | 5 => .array .int
  | 6 => .array .int
  | 7 => .array .int
  | 8 => .array .int
  | 9 => .array .int
  | 10 => .array .int
  | 11 => .array .int
  | 12 => .array .long
  | 13 => .array .int
  | 14 => .array .long
  | 15 => .array .int
  | 16 => .array .int
  | 17 => .int
  | 18 => .array .int
  | 19 => .int
  | 20 => .int
  | 21 => .int
  | 22 => .int
  | 23 => .int
  | 24 => .int
  | 25 => .int
  | 26 => .int
  | 27 => .int
  | 28 => .int
  | 29 => .int
  | 30 => .array .int
  | 31 => .array .int
  | 32 => .array .int
  | 33 => .array .int
  | 34 => .int
  | _ => .array .int
abbrev wsX110 : List Cond := u_ws RX11 TX11 36
theorem nmX11 : ∀ a, a < 36 → ∀ b, b < 36 → a ≠ b → (TX11 a).2.1 ≠ (TX11 b).2.1 := by decide +kernel
theorem tyX11_ok : ∀ k, k < 36 → parseFieldDescriptor (TX11 k).2.2.1 = some (tyX11 k) := by decide +kernel
abbrev cX11_init : ByteArray := prog_13_method_1_code
def yX11_init : MethodName := ⟨RX11, "<init>", "()V"⟩
abbrev cX11_isIn : ByteArray := prog_13_method_2_code
def yX11_isIn : MethodName := ⟨RX11, "isIn", "(JJJ)Z"⟩
abbrev cX11_orNone : ByteArray := prog_13_method_3_code
def yX11_orNone : MethodName := ⟨RX11, "orNone", "(I)I"⟩
abbrev cX11_least : ByteArray := prog_13_method_4_code
def yX11_least : MethodName := ⟨RX11, "least", "(II)I"⟩
abbrev cX11_heldIn : ByteArray := prog_13_method_5_code
def yX11_heldIn : MethodName := ⟨RX11, "heldIn", "(II)I"⟩
abbrev cX11_becomes : ByteArray := prog_13_method_6_code
def yX11_becomes : MethodName := ⟨RX11, "becomes", "(II)I"⟩
abbrev cX11_binAt : ByteArray := prog_13_method_7_code
def yX11_binAt : MethodName := ⟨RX11, "binAt", "(I)I"⟩
abbrev cX11_layerAt : ByteArray := prog_13_method_8_code
def yX11_layerAt : MethodName := ⟨RX11, "layerAt", "(I)I"⟩
abbrev cX11_ladleAt : ByteArray := prog_13_method_9_code
def yX11_ladleAt : MethodName := ⟨RX11, "ladleAt", "(I)I"⟩
abbrev cX11_textAt : ByteArray := prog_13_method_10_code
def yX11_textAt : MethodName := ⟨RX11, "textAt", "(I)I"⟩
abbrev cX11_isBin : ByteArray := prog_13_method_11_code
def yX11_isBin : MethodName := ⟨RX11, "isBin", "(I)Z"⟩
abbrev cX11_isText : ByteArray := prog_13_method_12_code
def yX11_isText : MethodName := ⟨RX11, "isText", "(I)Z"⟩
abbrev cX11_bulkOf : ByteArray := prog_13_method_13_code
def yX11_bulkOf : MethodName := ⟨RX11, "bulkOf", "(II)I"⟩
abbrev cX11_ironOf : ByteArray := prog_13_method_14_code
def yX11_ironOf : MethodName := ⟨RX11, "ironOf", "(III)I"⟩
abbrev cX11_acidOf : ByteArray := prog_13_method_15_code
def yX11_acidOf : MethodName := ⟨RX11, "acidOf", "(III)I"⟩
abbrev cX11_limeOf : ByteArray := prog_13_method_16_code
def yX11_limeOf : MethodName := ⟨RX11, "limeOf", "(III)I"⟩
abbrev cX11_holdsOf : ByteArray := prog_13_method_17_code
def yX11_holdsOf : MethodName := ⟨RX11, "holdsOf", "(I)I"⟩
abbrev cX11_brings : ByteArray := prog_13_method_18_code
def yX11_brings : MethodName := ⟨RX11, "brings", "(III)I"⟩
abbrev cX11_bin : ByteArray := prog_13_method_19_code
def yX11_bin : MethodName := ⟨RX11, "bin", "(III)I"⟩
abbrev cX11_told : ByteArray := prog_13_method_20_code
def yX11_told : MethodName := ⟨RX11, "told", "(II)I"⟩
abbrev cX11_of : ByteArray := prog_13_method_21_code
def yX11_of : MethodName := ⟨RX11, "of", "(III)I"⟩
abbrev cX11_isOf : ByteArray := prog_13_method_22_code
def yX11_isOf : MethodName := ⟨RX11, "isOf", "(II)Z"⟩
abbrev cX11_as : ByteArray := prog_13_method_23_code
def yX11_as : MethodName := ⟨RX11, "as", "(II)I"⟩
abbrev cX11_fill : ByteArray := prog_13_method_24_code
def yX11_fill : MethodName := ⟨RX11, "fill", "(II)I"⟩
abbrev cX11_turns : ByteArray := prog_13_method_25_code
def yX11_turns : MethodName := ⟨RX11, "turns", "(II)I"⟩
abbrev cX11_rule : ByteArray := prog_13_method_26_code
def yX11_rule : MethodName := ⟨RX11, "rule", "(II)I"⟩
abbrev cX11_empty : ByteArray := prog_13_method_27_code
def yX11_empty : MethodName := ⟨RX11, "empty", "(II)I"⟩
abbrev cX11_part : ByteArray := prog_13_method_28_code
def yX11_part : MethodName := ⟨RX11, "part", "(I)V"⟩
abbrev cX11_areaOf : ByteArray := prog_13_method_29_code
def yX11_areaOf : MethodName := ⟨RX11, "areaOf", "(I)I"⟩
abbrev cX11_bulkIn : ByteArray := prog_13_method_30_code
def yX11_bulkIn : MethodName := ⟨RX11, "bulkIn", "(I)I"⟩
abbrev cX11_topOf : ByteArray := prog_13_method_31_code
def yX11_topOf : MethodName := ⟨RX11, "topOf", "(I)I"⟩
abbrev cX11_greatestTop : ByteArray := prog_13_method_32_code
def yX11_greatestTop : MethodName := ⟨RX11, "greatestTop", "()I"⟩
abbrev cX11_allBulk : ByteArray := prog_13_method_33_code
def yX11_allBulk : MethodName := ⟨RX11, "allBulk", "()I"⟩
abbrev cX11_resistance : ByteArray := prog_13_method_34_code
def yX11_resistance : MethodName := ⟨RX11, "resistance", "(I)I"⟩
abbrev cX11_slide : ByteArray := prog_13_method_35_code
def yX11_slide : MethodName := ⟨RX11, "slide", "(I)V"⟩
abbrev cX11_comes : ByteArray := prog_13_method_36_code
def yX11_comes : MethodName := ⟨RX11, "comes", "(II)V"⟩
abbrev cX11_charge : ByteArray := prog_13_method_37_code
def yX11_charge : MethodName := ⟨RX11, "charge", "(II)I"⟩
abbrev cX11_bulkOfLayer : ByteArray := prog_13_method_38_code
def yX11_bulkOfLayer : MethodName := ⟨RX11, "bulkOfLayer", "(I)I"⟩
abbrev cX11_layer : ByteArray := prog_13_method_39_code
def yX11_layer : MethodName := ⟨RX11, "layer", "(II)I"⟩
abbrev cX11_basic : ByteArray := prog_13_method_40_code
def yX11_basic : MethodName := ⟨RX11, "basic", "()I"⟩
abbrev cX11_gasNow : ByteArray := prog_13_method_41_code
def yX11_gasNow : MethodName := ⟨RX11, "gasNow", "()I"⟩
abbrev cX11_partGas : ByteArray := prog_13_method_42_code
def yX11_partGas : MethodName := ⟨RX11, "partGas", "()V"⟩
abbrev cX11_ring : ByteArray := prog_13_method_43_code
def yX11_ring : MethodName := ⟨RX11, "ring", "(II)I"⟩
abbrev cX11_goes : ByteArray := prog_13_method_44_code
def yX11_goes : MethodName := ⟨RX11, "goes", "(III)V"⟩
abbrev cX11_oneHour : ByteArray := prog_13_method_45_code
def yX11_oneHour : MethodName := ⟨RX11, "oneHour", "()V"⟩
abbrev cX11_run : ByteArray := prog_13_method_46_code
def yX11_run : MethodName := ⟨RX11, "run", "(I)I"⟩
abbrev cX11_round : ByteArray := prog_13_method_47_code
def yX11_round : MethodName := ⟨RX11, "round", "()I"⟩
abbrev cX11_hearth : ByteArray := prog_13_method_48_code
def yX11_hearth : MethodName := ⟨RX11, "hearth", "(I)I"⟩
abbrev cX11_castOut : ByteArray := prog_13_method_49_code
def yX11_castOut : MethodName := ⟨RX11, "castOut", "(I)V"⟩
abbrev cX11_cast : ByteArray := prog_13_method_50_code
def yX11_cast : MethodName := ⟨RX11, "cast", "(I)I"⟩
abbrev cX11_setAside : ByteArray := prog_13_method_51_code
def yX11_setAside : MethodName := ⟨RX11, "setAside", "([I[I)V"⟩
abbrev cX11_down : ByteArray := prog_13_method_52_code
def yX11_down : MethodName := ⟨RX11, "down", "(I)I"⟩
abbrev cX11_feed : ByteArray := prog_13_method_53_code
def yX11_feed : MethodName := ⟨RX11, "feed", "(III)I"⟩
abbrev cX11_trim : ByteArray := prog_13_method_54_code
def yX11_trim : MethodName := ⟨RX11, "trim", "(I)I"⟩
abbrev cX11_isLetter : ByteArray := prog_13_method_55_code
def yX11_isLetter : MethodName := ⟨RX11, "isLetter", "(I)Z"⟩
abbrev cX11_isDigit : ByteArray := prog_13_method_56_code
def yX11_isDigit : MethodName := ⟨RX11, "isDigit", "(I)Z"⟩
abbrev cX11_next : ByteArray := prog_13_method_57_code
def yX11_next : MethodName := ⟨RX11, "next", "()V"⟩
abbrev cX11_isSign : ByteArray := prog_13_method_58_code
def yX11_isSign : MethodName := ⟨RX11, "isSign", "(I)Z"⟩
abbrev cX11_isWordAt : ByteArray := prog_13_method_59_code
def yX11_isWordAt : MethodName := ⟨RX11, "isWordAt", "(IIII)Z"⟩
abbrev cX11_key : ByteArray := prog_13_method_60_code
def yX11_key : MethodName := ⟨RX11, "key", "()I"⟩
abbrev cX11_isName : ByteArray := prog_13_method_61_code
def yX11_isName : MethodName := ⟨RX11, "isName", "(II)Z"⟩
abbrev cX11_step : ByteArray := prog_13_method_62_code
def yX11_step : MethodName := ⟨RX11, "step", "(II)V"⟩
abbrev cX11_either : ByteArray := prog_13_method_63_code
def yX11_either : MethodName := ⟨RX11, "either", "(I)Z"⟩
abbrev cX11_both : ByteArray := prog_13_method_64_code
def yX11_both : MethodName := ⟨RX11, "both", "(I)Z"⟩
abbrev cX11_test : ByteArray := prog_13_method_65_code
def yX11_test : MethodName := ⟨RX11, "test", "(I)Z"⟩
abbrev cX11_sum : ByteArray := prog_13_method_66_code
def yX11_sum : MethodName := ⟨RX11, "sum", "(I)Z"⟩
abbrev cX11_term : ByteArray := prog_13_method_67_code
def yX11_term : MethodName := ⟨RX11, "term", "(I)Z"⟩
abbrev cX11_part0 : ByteArray := prog_13_method_68_code
def yX11_part0 : MethodName := ⟨RX11, "part0", "(I)Z"⟩
abbrev cX11_parse : ByteArray := prog_13_method_69_code
def yX11_parse : MethodName := ⟨RX11, "parse", "()I"⟩
abbrev cX11_text : ByteArray := prog_13_method_70_code
def yX11_text : MethodName := ⟨RX11, "text", "()I"⟩
abbrev cX11_textTold : ByteArray := prog_13_method_71_code
def yX11_textTold : MethodName := ⟨RX11, "textTold", "(II)I"⟩
abbrev cX11_counts : ByteArray := prog_13_method_72_code
def yX11_counts : MethodName := ⟨RX11, "counts", "(I)I"⟩
abbrev cX11_why : ByteArray := prog_13_method_73_code
def yX11_why : MethodName := ⟨RX11, "why", "(II)I"⟩
abbrev cX11_joined : ByteArray := prog_13_method_74_code
def yX11_joined : MethodName := ⟨RX11, "joined", "(III)I"⟩
abbrev cX11_worked : ByteArray := prog_13_method_75_code
def yX11_worked : MethodName := ⟨RX11, "worked", "(I)I"⟩
abbrev cX11_choose : ByteArray := prog_13_method_76_code
def yX11_choose : MethodName := ⟨RX11, "choose", "(I)I"⟩
abbrev cX11_clear : ByteArray := prog_13_method_77_code
def yX11_clear : MethodName := ⟨RX11, "clear", "()I"⟩
abbrev cX11_ofBurden : ByteArray := prog_13_method_78_code
def yX11_ofBurden : MethodName := ⟨RX11, "ofBurden", "(II)I"⟩
abbrev cX11_burden : ByteArray := prog_13_method_79_code
def yX11_burden : MethodName := ⟨RX11, "burden", "(III)I"⟩
abbrev cX11_ladle : ByteArray := prog_13_method_80_code
def yX11_ladle : MethodName := ⟨RX11, "ladle", "(I)I"⟩
abbrev cX11_backAt : ByteArray := prog_13_method_81_code
def yX11_backAt : MethodName := ⟨RX11, "backAt", "(I)I"⟩
abbrev cX11_pour : ByteArray := prog_13_method_82_code
def yX11_pour : MethodName := ⟨RX11, "pour", "(II)I"⟩
abbrev cX11_isSheet : ByteArray := prog_13_method_83_code
def yX11_isSheet : MethodName := ⟨RX11, "isSheet", "(I)Z"⟩
abbrev cX11_sheet : ByteArray := prog_13_method_84_code
def yX11_sheet : MethodName := ⟨RX11, "sheet", "(III)I"⟩
abbrev cX11_mark : ByteArray := prog_13_method_85_code
def yX11_mark : MethodName := ⟨RX11, "mark", "(III)I"⟩
abbrev cX11_sound : ByteArray := prog_13_method_86_code
def yX11_sound : MethodName := ⟨RX11, "sound", "(III)I"⟩
abbrev cX11_tops : ByteArray := prog_13_method_87_code
def yX11_tops : MethodName := ⟨RX11, "tops", "(II)I"⟩
abbrev cX11_copy : ByteArray := prog_13_method_88_code
def yX11_copy : MethodName := ⟨RX11, "copy", "(IIIII)I"⟩
abbrev cX11_isSlot : ByteArray := prog_13_method_89_code
def yX11_isSlot : MethodName := ⟨RX11, "isSlot", "(I)Z"⟩
abbrev cX11_lay : ByteArray := prog_13_method_90_code
def yX11_lay : MethodName := ⟨RX11, "lay", "(III)I"⟩
abbrev cX11_ask : ByteArray := prog_13_method_91_code
def yX11_ask : MethodName := ⟨RX11, "ask", "(II)I"⟩
abbrev cX11_item : ByteArray := prog_13_method_92_code
def yX11_item : MethodName := ⟨RX11, "item", "(II)I"⟩
abbrev cX11_rest : ByteArray := prog_13_method_93_code
def yX11_rest : MethodName := ⟨RX11, "rest", "(II)I"⟩
abbrev cX11_tell : ByteArray := prog_13_method_94_code
def yX11_tell : MethodName := ⟨RX11, "tell", "(I)I"⟩
abbrev cX11_check : ByteArray := prog_13_method_95_code
def yX11_check : MethodName := ⟨RX11, "check", "(I)I"⟩
abbrev cX11_keep : ByteArray := prog_13_method_96_code
def yX11_keep : MethodName := ⟨RX11, "keep", "()I"⟩
abbrev cX11_back : ByteArray := prog_13_method_97_code
def yX11_back : MethodName := ⟨RX11, "back", "()I"⟩
abbrev cX11_count : ByteArray := prog_13_method_98_code
def yX11_count : MethodName := ⟨RX11, "count", "(I)I"⟩
def RJ11 : String := "java/lang/Character"
def TJ11 : u_T := fun k => match k with
  | _ => ("", "", "", false)
def tyJ11 : Nat → FieldType := fun k => match k with
  | _ => .int
abbrev wsJ110 : List Cond := u_ws RJ11 TJ11 0
theorem nmJ11 : ∀ a, a < 0 → ∀ b, b < 0 → a ≠ b → (TJ11 a).2.1 ≠ (TJ11 b).2.1 := by decide +kernel
theorem tyJ11_ok : ∀ k, k < 0 → parseFieldDescriptor (TJ11 k).2.2.1 = some (tyJ11 k) := by decide +kernel
abbrev cJ11_isValidCodePoint_9a6ad : ByteArray := prog_14_method_11_code
def yJ11_isValidCodePoint_9a6ad : MethodName := ⟨RJ11, "isValidCodePoint", "(I)Z"⟩
abbrev cJ11_highSurrogate_5068e : ByteArray := prog_14_method_28_code
def yJ11_highSurrogate_5068e : MethodName := ⟨RJ11, "highSurrogate", "(I)C"⟩
abbrev cJ11_lowSurrogate_5068e : ByteArray := prog_14_method_29_code
def yJ11_lowSurrogate_5068e : MethodName := ⟨RJ11, "lowSurrogate", "(I)C"⟩
def RJ9 : String := "java/lang/Math"
def TJ9 : u_T := fun k => match k with
  | _ => ("", "", "", false)
def tyJ9 : Nat → FieldType := fun k => match k with
  | _ => .int
abbrev wsJ90 : List Cond := u_ws RJ9 TJ9 0
theorem nmJ9 : ∀ a, a < 0 → ∀ b, b < 0 → a ≠ b → (TJ9 a).2.1 ≠ (TJ9 b).2.1 := by decide +kernel
theorem tyJ9_ok : ∀ k, k < 0 → parseFieldDescriptor (TJ9 k).2.2.1 = some (tyJ9 k) := by decide +kernel
abbrev cJ9_abs_0f7a4 : ByteArray := prog_15_method_59_code
def yJ9_abs_0f7a4 : MethodName := ⟨RJ9, "abs", "(I)I"⟩
abbrev cJ9_max_7cf53 : ByteArray := prog_15_method_65_code
def yJ9_max_7cf53 : MethodName := ⟨RJ9, "max", "(II)I"⟩
abbrev cJ9_min_7cf53 : ByteArray := prog_15_method_69_code
def yJ9_min_7cf53 : MethodName := ⟨RJ9, "min", "(II)I"⟩
def RJ0 : String := "java/lang/String"
def TJ0 : u_T := fun k => match k with
  | _ => ("", "", "", false)
def tyJ0 : Nat → FieldType := fun k => match k with
  | _ => .int
abbrev wsJ00 : List Cond := u_ws RJ0 TJ0 0
theorem nmJ0 : ∀ a, a < 0 → ∀ b, b < 0 → a ≠ b → (TJ0 a).2.1 ≠ (TJ0 b).2.1 := by decide +kernel
theorem tyJ0_ok : ∀ k, k < 0 → parseFieldDescriptor (TJ0 k).2.2.1 = some (tyJ0 k) := by decide +kernel
abbrev cJ0_length_8abf5 : ByteArray := prog_16_method_54_code
def yJ0_length_8abf5 : MethodName := ⟨RJ0, "length", "()I"⟩
abbrev cJ0_charAt_5068e : ByteArray := prog_16_method_56_code
def yJ0_charAt_5068e : MethodName := ⟨RJ0, "charAt", "(I)C"⟩
abbrev cJ0_indexOf_0f7a4 : ByteArray := prog_16_method_79_code
def yJ0_indexOf_0f7a4 : MethodName := ⟨RJ0, "indexOf", "(I)I"⟩
abbrev cJ0_indexOf_7cf53 : ByteArray := prog_16_method_80_code
def yJ0_indexOf_7cf53 : MethodName := ⟨RJ0, "indexOf", "(II)I"⟩
abbrev cJ0_coder_7d493 : ByteArray := prog_16_method_152_code
def yJ0_coder_7d493 : MethodName := ⟨RJ0, "coder", "()B"⟩
abbrev cJ0_isLatin1_aae02 : ByteArray := prog_16_method_154_code
def yJ0_isLatin1_aae02 : MethodName := ⟨RJ0, "isLatin1", "()Z"⟩
abbrev cJ0_checkIndex_df160 : ByteArray := prog_16_method_155_code
def yJ0_checkIndex_df160 : MethodName := ⟨RJ0, "checkIndex", "(II)V"⟩
abbrev cJ0_checkBoundsBeginEnd_23922 : ByteArray := prog_16_method_158_code
def yJ0_checkBoundsBeginEnd_23922 : MethodName := ⟨RJ0, "checkBoundsBeginEnd", "(III)V"⟩
def RJ1 : String := "java/lang/StringLatin1"
def TJ1 : u_T := fun k => match k with
  | _ => ("", "", "", false)
def tyJ1 : Nat → FieldType := fun k => match k with
  | _ => .int
abbrev wsJ10 : List Cond := u_ws RJ1 TJ1 0
theorem nmJ1 : ∀ a, a < 0 → ∀ b, b < 0 → a ≠ b → (TJ1 a).2.1 ≠ (TJ1 b).2.1 := by decide +kernel
theorem tyJ1_ok : ∀ k, k < 0 → parseFieldDescriptor (TJ1 k).2.2.1 = some (tyJ1 k) := by decide +kernel
abbrev cJ1_charAt_3b067 : ByteArray := prog_17_method_2_code
def yJ1_charAt_3b067 : MethodName := ⟨RJ1, "charAt", "([BI)C"⟩
abbrev cJ1_canEncode_9a6ad : ByteArray := prog_17_method_4_code
def yJ1_canEncode_9a6ad : MethodName := ⟨RJ1, "canEncode", "(I)Z"⟩
abbrev cJ1_indexOf_4cfef : ByteArray := prog_17_method_22_code
def yJ1_indexOf_4cfef : MethodName := ⟨RJ1, "indexOf", "([BIII)I"⟩
abbrev cJ1_indexOfChar_4cfef : ByteArray := prog_17_method_23_code
def yJ1_indexOfChar_4cfef : MethodName := ⟨RJ1, "indexOfChar", "([BIII)I"⟩
def RJ2 : String := "java/lang/StringUTF16"
def TJ2 : u_T := fun k => match k with
  | _ => ("", "", "", false)
def tyJ2 : Nat → FieldType := fun k => match k with
  | _ => .int
abbrev wsJ20 : List Cond := u_ws RJ2 TJ2 0
theorem nmJ2 : ∀ a, a < 0 → ∀ b, b < 0 → a ≠ b → (TJ2 a).2.1 ≠ (TJ2 b).2.1 := by decide +kernel
theorem tyJ2_ok : ∀ k, k < 0 → parseFieldDescriptor (TJ2 k).2.2.1 = some (tyJ2 k) := by decide +kernel
abbrev cJ2_getChar_3b067 : ByteArray := prog_18_method_5_code
def yJ2_getChar_3b067 : MethodName := ⟨RJ2, "getChar", "([BI)C"⟩
abbrev cJ2_length_9d52b : ByteArray := prog_18_method_6_code
def yJ2_length_9d52b : MethodName := ⟨RJ2, "length", "([B)I"⟩
abbrev cJ2_indexOf_4cfef : ByteArray := prog_18_method_40_code
def yJ2_indexOf_4cfef : MethodName := ⟨RJ2, "indexOf", "([BIII)I"⟩
abbrev cJ2_indexOfChar_4cfef : ByteArray := prog_18_method_47_code
def yJ2_indexOfChar_4cfef : MethodName := ⟨RJ2, "indexOfChar", "([BIII)I"⟩
abbrev cJ2_indexOfCharUnsafe_4cfef : ByteArray := prog_18_method_48_code
def yJ2_indexOfCharUnsafe_4cfef : MethodName := ⟨RJ2, "indexOfCharUnsafe", "([BIII)I"⟩
abbrev cJ2_indexOfSupplementary_4cfef : ByteArray := prog_18_method_49_code
def yJ2_indexOfSupplementary_4cfef : MethodName := ⟨RJ2, "indexOfSupplementary", "([BIII)I"⟩
abbrev cJ2_charAt_3b067 : ByteArray := prog_18_method_83_code
def yJ2_charAt_3b067 : MethodName := ⟨RJ2, "charAt", "([BI)C"⟩
abbrev cJ2_checkIndex_2214a : ByteArray := prog_18_method_91_code
def yJ2_checkIndex_2214a : MethodName := ⟨RJ2, "checkIndex", "(I[B)V"⟩
abbrev cJ2_checkBoundsBeginEnd_d044e : ByteArray := prog_18_method_93_code
def yJ2_checkBoundsBeginEnd_d044e : MethodName := ⟨RJ2, "checkBoundsBeginEnd", "(II[B)V"⟩
def RJ10 : String := "java/lang/System"
def TJ10 : u_T := fun k => match k with
  | _ => ("", "", "", false)
def tyJ10 : Nat → FieldType := fun k => match k with
  | _ => .int
abbrev wsJ100 : List Cond := u_ws RJ10 TJ10 0
theorem nmJ10 : ∀ a, a < 0 → ∀ b, b < 0 → a ≠ b → (TJ10 a).2.1 ≠ (TJ10 b).2.1 := by decide +kernel
theorem tyJ10_ok : ∀ k, k < 0 → parseFieldDescriptor (TJ10 k).2.2.1 = some (tyJ10 k) := by decide +kernel
def RJ3 : String := "jdk/internal/util/Preconditions"
def TJ3 : u_T := fun k => match k with
  | _ => ("", "", "", false)
def tyJ3 : Nat → FieldType := fun k => match k with
  | _ => .int
abbrev wsJ30 : List Cond := u_ws RJ3 TJ3 0
theorem nmJ3 : ∀ a, a < 0 → ∀ b, b < 0 → a ≠ b → (TJ3 a).2.1 ≠ (TJ3 b).2.1 := by decide +kernel
theorem tyJ3_ok : ∀ k, k < 0 → parseFieldDescriptor (TJ3 k).2.2.1 = some (tyJ3 k) := by decide +kernel
abbrev cJ3_checkIndex_8e157 : ByteArray := prog_20_method_11_code
def yJ3_checkIndex_8e157 : MethodName := ⟨RJ3, "checkIndex", "(IILjava/util/function/BiFunction;)I"⟩
abbrev cJ3_checkFromToIndex_8c36e : ByteArray := prog_20_method_12_code
def yJ3_checkFromToIndex_8c36e : MethodName := ⟨RJ3, "checkFromToIndex", "(IIILjava/util/function/BiFunction;)I"⟩
def RL : String := "BurdenHouseLaw"
abbrev cL_law : ByteArray := code
def yL_law : MethodName := ⟨RL, "law", "([I)Z"⟩
abbrev vwCl : List vw_C := [(RX0, TX0, 8), (RX1, TX1, 10), (RX2, TX2, 5), (RX3, TX3, 4), (RX4, TX4, 10), (RX5, TX5, 4), (RX6, TX6, 5), (RX8, TX8, 16), (RX9, TX9, 8), (RX10, TX10, 9), (RX11, TX11, 36)]

/-- the good words of the tables -/
def GW : List Cond := lw_tbl.filter goodWord
theorem gw_of {w : Cond} (h : w ∈ lw_tbl) (hg : goodWord w = true) : w ∈ GW := List.mem_filter.mpr ⟨h, hg⟩
theorem gw_good : ∀ w ∈ GW, w ∈ lw_tbl ∧ ((w.onTables && w.keeps) = true ∨ ∃ ty, w = .arrayClass ty) := fun w h => ⟨(List.mem_filter.mp h).1, good_of_word (List.mem_filter.mp h).2⟩
theorem tb_in {w : Cond} (h : w ∈ tables_1) : w ∈ lw_tbl := List.mem_append_right _ h
theorem gw_0 {w : Cond} (h : w ∈ k2_sels lw_privs) (hg : goodWord w = true) : w ∈ GW := gw_of (List.mem_append_left _ h) hg
theorem gw_1 {w : Cond} (h : w ∈ tables_1_1) (hg : goodWord w = true) : w ∈ GW := gw_of (tb_in (List.mem_append_left _ h)) hg
theorem gw_2 {w : Cond} (h : w ∈ tables_1_2) (hg : goodWord w = true) : w ∈ GW := gw_of (tb_in (List.mem_append_right _ (List.mem_append_left _ h))) hg
theorem gw_3 {w : Cond} (h : w ∈ tables_1_3) (hg : goodWord w = true) : w ∈ GW := gw_of (tb_in (List.mem_append_right _ (List.mem_append_right _ (List.mem_append_left _ h)))) hg
theorem gw_4 {w : Cond} (h : w ∈ tables_1_4) (hg : goodWord w = true) : w ∈ GW := gw_of (tb_in (List.mem_append_right _ (List.mem_append_right _ (List.mem_append_right _ (List.mem_append_left _ h))))) hg
theorem gw_5 {w : Cond} (h : w ∈ tables_1_5) (hg : goodWord w = true) : w ∈ GW := gw_of (tb_in (List.mem_append_right _ (List.mem_append_right _ (List.mem_append_right _ (List.mem_append_right _ (List.mem_append_left _ h)))))) hg
theorem gw_6 {w : Cond} (h : w ∈ tables_1_6) (hg : goodWord w = true) : w ∈ GW := gw_of (tb_in (List.mem_append_right _ (List.mem_append_right _ (List.mem_append_right _ (List.mem_append_right _ (List.mem_append_right _ (List.mem_append_left _ h))))))) hg
theorem gw_7 {w : Cond} (h : w ∈ tables_1_7) (hg : goodWord w = true) : w ∈ GW := gw_of (tb_in (List.mem_append_right _ (List.mem_append_right _ (List.mem_append_right _ (List.mem_append_right _ (List.mem_append_right _ (List.mem_append_right _ h))))))) hg
end
section
/-! the world: Sh = next free address, kind of each address, length of each array, reference fields and rows that stay; Mm = ints, longs, the rows of layers -/
abbrev Sh : Type := Nat × (Nat → Nat) × (Nat → Nat) × (Nat → Nat → Option Nat)
abbrev Mm : Type := (Nat → Nat → Int32) × (Nat → Nat → Int64) × (Nat → Nat → Option Nat)
def xz (X : Sh) : Nat := X.1
def xK (X : Sh) : Nat → Nat := X.2.1
def xN (X : Sh) : Nat → Nat := X.2.2.1
def xF (X : Sh) : Nat → Nat → Option Nat := X.2.2.2
def mI (M : Mm) : Nat → Nat → Int32 := M.1
def mJ (M : Mm) : Nat → Nat → Int64 := M.2.1
def mR (M : Mm) : Nat → Nat → Option Nat := M.2.2
def up2 {α : Type} (f : Nat → Nat → α) (a k : Nat) (v : α) : Nat → Nat → α := fun b j => if b = a ∧ j = k then v else f b j
def sI (M : Mm) (a k : Nat) (v : Int32) : Mm := (up2 (mI M) a k v, mJ M, mR M)
def sJ (M : Mm) (a k : Nat) (v : Int64) : Mm := (mI M, up2 (mJ M) a k v, mR M)
def sR (M : Mm) (a k : Nat) (v : Option Nat) : Mm := (mI M, mJ M, up2 (mR M) a k v)
theorem mI_sI (M : Mm) (a k : Nat) (v : Int32) : mI (sI M a k v) = up2 (mI M) a k v := rfl
theorem mJ_sI (M : Mm) (a k : Nat) (v : Int32) : mJ (sI M a k v) = mJ M := rfl
theorem mR_sI (M : Mm) (a k : Nat) (v : Int32) : mR (sI M a k v) = mR M := rfl
theorem mI_sJ (M : Mm) (a k : Nat) (v : Int64) : mI (sJ M a k v) = mI M := rfl
theorem mJ_sJ (M : Mm) (a k : Nat) (v : Int64) : mJ (sJ M a k v) = up2 (mJ M) a k v := rfl
theorem mR_sJ (M : Mm) (a k : Nat) (v : Int64) : mR (sJ M a k v) = mR M := rfl
theorem mI_sR (M : Mm) (a k : Nat) (v : Option Nat) : mI (sR M a k v) = mI M := rfl
theorem mJ_sR (M : Mm) (a k : Nat) (v : Option Nat) : mJ (sR M a k v) = mJ M := rfl
theorem mR_sR (M : Mm) (a k : Nat) (v : Option Nat) : mR (sR M a k v) = up2 (mR M) a k v := rfl
theorem up2_same {α : Type} (f : Nat → Nat → α) (a k : Nat) (v : α) : up2 f a k v a k = v := by simp [up2]
theorem up2_k {α : Type} (f : Nat → Nat → α) {a k j : Nat} (v : α) (b : Nat) (h : j ≠ k) : up2 f a k v b j = f b j := by simp [up2, h]
theorem up2_a {α : Type} (f : Nat → Nat → α) {a b : Nat} (k j : Nat) (v : α) (h : b ≠ a) : up2 f a k v b j = f b j := by simp [up2, h]
theorem up2_row (f : Nat → Nat → Int32) (a k : Nat) (v : Int32) : up2 f a k v a = upd (f a) k v := by funext j; simp [up2, upd]
theorem up2_rowL (f : Nat → Nat → Int64) (a k : Nat) (v : Int64) : up2 f a k v a = vp_updL (f a) k v := by funext j; simp [up2, vp_updL]
theorem up2_rowR (f : Nat → Nat → Option Nat) (a k : Nat) (v : Option Nat) : up2 f a k v a = va_up (f a) k v := by funext j; simp [up2, va_up]
theorem up2_off {α : Type} (f : Nat → Nat → α) {a b : Nat} (k : Nat) (v : α) (h : b ≠ a) : up2 f a k v b = f b := by funext j; simp [up2, h]
/-- the places of the reference fields of each class, and how many fields it has -/
def fRf : Nat → List Nat
  | 0 => [0, 1, 2, 3, 4, 6]
  | 1 => [4, 6, 7, 8, 9]
  | 2 => [0, 1, 2, 3, 4]
  | 3 => [0, 1]
  | 4 => [9]
  | 5 => [2, 3]
  | 6 => [4]
  | 7 => [0, 9, 11]
  | 8 => [0, 1, 2, 3, 4, 6, 7]
  | 9 => [0, 1, 3, 4, 5, 6, 7]
  | 10 => [0, 1, 2, 4, 5, 6, 7, 8, 9, 10, 11, 12, 13, 14, 15, 16, 18, 30, 31, 32, 33, 35]
  | _ => []
def nFd : Nat → Nat
  | 0 => 8
  | 1 => 10
  | 2 => 5
  | 3 => 4
  | 4 => 10
  | 5 => 4
  | 6 => 5
  | 7 => 16
  | 8 => 8
  | 9 => 9
  | 10 => 36
  | _ => 0
def fRef (ci k : Nat) : Bool := (fRf ci).contains k
abbrev Gl : Type := va_G × (Nat → Nat)
def AA (G : Gl) : Nat → Prop := fun q => G.2 7 ≤ q
def fVal (X : Sh) (M : Mm) (ci a k : Nat) : Value := if fRef ci k = true then va_rf (xF X a k) else .int (mI M a k)
def eObj (X : Sh) (M : Mm) (ci a : Nat) : va_E := .inr (ci, (List.range (nFd ci)).map (fVal X M ci a))
def ent (G : Gl) (X : Sh) (M : Mm) (a : Nat) : va_E :=
  if xK X a < 11 then eObj X M (xK X a) a
  else if xK X a = 11 then .inl (G.2 0, xN X a, .inl (mI M a))
  else if xK X a = 12 then .inl (G.2 1, xN X a, .inr (.inl (mJ M a)))
  else if xK X a = 13 then .inl (G.2 2, xN X a, .inl (fun i => vp_nar .boolean (mI M a i)))
  else if xK X a = 14 then .inl (G.2 3, xN X a, .inr (.inr (.inr (.inr (mR M a)))))
  else .inl (G.2 (xK X a - 11), xN X a, .inr (.inr (.inr (.inr (xF X a)))))
def LL (G : Gl) (X : Sh) : List Nat := ((List.range (xz X - G.2 7)).map (fun i => G.2 7 + i)).filter (fun a => xK X a != 99)
theorem LL_mem {G : Gl} {X : Sh} {a : Nat} : a ∈ LL G X ↔ (G.2 7 ≤ a ∧ a < xz X) ∧ xK X a ≠ 99 := by
  unfold LL
  rw [List.mem_filter, List.mem_map]
  constructor
  · rintro ⟨⟨i, hi, rfl⟩, h⟩
    have := List.mem_range.mp hi
    exact ⟨⟨by omega, by omega⟩, by simpa using h⟩
  · rintro ⟨⟨h1, h2⟩, h⟩
    exact ⟨⟨a - G.2 7, List.mem_range.mpr (by omega), by omega⟩, by simpa using h⟩
theorem LL_nodup (G : Gl) (X : Sh) : (LL G X).Nodup := by
  unfold LL
  refine List.Pairwise.filter _ (List.pairwise_map.mpr ?_)
  exact List.Pairwise.imp (fun h => by omega) List.pairwise_lt_range
theorem LL_D (G : Gl) (X : Sh) (f : Nat → va_E) : va_D (AA G) ([] ++ va_pl (LL G X) f) := by
  have hn := LL_nodup G X
  refine ⟨fun i j p q hi hj hpq => ?_, fun k q hk => ?_⟩
  · simp only [List.nil_append, va_pl, List.getElem?_map] at hi hj
    cases hi1 : (LL G X)[i]? with
    | none => rw [hi1] at hi; cases hi
    | some a =>
      cases hj1 : (LL G X)[j]? with
      | none => rw [hj1] at hj; cases hj
      | some b =>
        rw [hi1] at hi
        rw [hj1] at hj
        cases hi
        cases hj
        have hab : a = b := hpq
        subst hab
        exact (List.getElem?_inj (List.getElem?_eq_some_iff.mp hi1).1 hn).mp (hi1.trans hj1.symm)
  · simp only [List.nil_append, va_pl, List.getElem?_map] at hk
    cases hk1 : (LL G X)[k]? with
    | none => rw [hk1] at hk; cases hk
    | some a =>
      rw [hk1] at hk
      cases hk
      exact (LL_mem.mp (List.mem_of_getElem? hk1)).1.1
/-- the heap holds the world -/
def Rel (G : Gl) (X : Sh) (M : Mm) (H : Heap) : Prop := G.2 7 ≤ xz X ∧ (∀ a, xK X a ≠ 99 ↔ G.2 7 ≤ a ∧ a < xz X) ∧ va_P G.1 vwCl ([] ++ va_pl (LL G X) (ent G X M)) H
theorem Rel.at {G : Gl} {X : Sh} {M : Mm} {H : Heap} (h : Rel G X M H) {a : Nat} (ha : xK X a ≠ 99) : ∃ k : Nat, ([] ++ va_pl (LL G X) (ent G X M))[k]? = some (a, ent G X M a) := va_pl_get (LL_mem.mpr ⟨(h.2.1 a).mp ha, ha⟩)
/-- behind a write at a: the world with the entry changed -/
theorem Rel.set {G : Gl} {X : Sh} {M M' : Mm} {H H1 : Heap} (h : Rel G X M H) {a k : Nat} {e : va_E} (ha : xK X a ≠ 99) (hk : ([] ++ va_pl (LL G X) (ent G X M))[k]? = some (a, ent G X M a)) (hP : va_P G.1 vwCl (([] ++ va_pl (LL G X) (ent G X M)).set k (a, e)) H1) (he : ∀ b, va_up (ent G X M) a e b = ent G X M' b) : Rel G X M' H1 := by
  refine ⟨h.1, h.2.1, ?_⟩
  rw [va_pl_set (LL_D G X _) (LL_mem.mpr ⟨(h.2.1 a).mp ha, ha⟩) hk, va_pl_congr he] at hP
  exact hP
theorem ent_obj {G : Gl} {X : Sh} {M : Mm} {a ci : Nat} (ha : xK X a = ci) (hc : ci < 11) : ent G X M a = eObj X M ci a := by
  unfold ent
  rw [ha, if_pos hc]
theorem ent_i {G : Gl} {X : Sh} {M : Mm} {a : Nat} (ha : xK X a = 11) : ent G X M a = .inl (G.2 0, xN X a, .inl (mI M a)) := by
  unfold ent
  rw [ha]
  rfl
theorem ent_j {G : Gl} {X : Sh} {M : Mm} {a : Nat} (ha : xK X a = 12) : ent G X M a = .inl (G.2 1, xN X a, .inr (.inl (mJ M a))) := by
  unfold ent
  rw [ha]
  rfl
theorem ent_z {G : Gl} {X : Sh} {M : Mm} {a : Nat} (ha : xK X a = 13) : ent G X M a = .inl (G.2 2, xN X a, .inl (fun i => vp_nar .boolean (mI M a i))) := by
  unfold ent
  rw [ha]
  rfl
theorem ent_r {G : Gl} {X : Sh} {M : Mm} {a : Nat} (ha : xK X a = 14) : ent G X M a = .inl (G.2 3, xN X a, .inr (.inr (.inr (.inr (mR M a))))) := by
  unfold ent
  rw [ha]
  rfl
theorem ent_f {G : Gl} {X : Sh} {M : Mm} {a t : Nat} (ha : xK X a = t) (h : 14 < t) : ent G X M a = .inl (G.2 (t - 11), xN X a, .inr (.inr (.inr (.inr (xF X a))))) := by
  unfold ent
  rw [ha, if_neg (by omega), if_neg (by omega), if_neg (by omega), if_neg (by omega), if_neg (by omega)]
theorem fVal_I {X : Sh} {M : Mm} {ci a k : Nat} (h : fRef ci k = false) : fVal X M ci a k = .int (mI M a k) := by
  unfold fVal
  rw [h]
  rfl
theorem fVal_R {X : Sh} {M : Mm} {ci a k : Nat} (h : fRef ci k = true) : fVal X M ci a k = va_rf (xF X a k) := by
  unfold fVal
  rw [h]
  rfl
theorem rng_get {α : Type} (f : Nat → α) {n k : Nat} (h : k < n) : ((List.range n).map f)[k]? = some (f k) := by
  rw [List.getElem?_map, List.getElem?_range h]
  rfl
theorem rng_set {α : Type} (f g : Nat → α) {n k : Nat} (v : α) (hk : g k = v) (h : ∀ j, j ≠ k → g j = f j) : ((List.range n).map f).set k v = (List.range n).map g := by
  apply List.ext_getElem?
  intro j
  rw [List.getElem?_set, List.getElem?_map, List.getElem?_map]
  by_cases hj : k = j
  · subst hj
    rw [if_pos rfl]
    by_cases hl : k < n
    · rw [if_pos (by simpa using hl), List.getElem?_range hl, Option.map_some, hk]
    · rw [if_neg (by simpa using hl), List.getElem?_eq_none (by simpa using hl)]
      rfl
  · rw [if_neg hj]
    cases h2 : (List.range n)[j]? with
    | none => rfl
    | some b =>
      have hb : b = j := by
        have h3 := List.getElem?_eq_some_iff.mp h2
        have h4 := h3.2
        rw [List.getElem_range] at h4
        exact h4.symm
      subst hb
      rw [Option.map_some, Option.map_some, h b (fun q => hj q.symm)]
theorem ent_up {G : Gl} {X : Sh} {M M' : Mm} {a : Nat} {e : va_E} (h1 : ent G X M' a = e) (h2 : ∀ b, b ≠ a → ent G X M' b = ent G X M b) : ∀ b, va_up (ent G X M) a e b = ent G X M' b := by
  intro b
  by_cases hb : b = a
  · subst hb
    rw [va_up_self, h1]
  · rw [va_up_ne _ _ hb, h2 b hb]
theorem ent_off {G : Gl} {X : Sh} {M M' : Mm} {b : Nat} (h1 : mI M' b = mI M b) (h2 : mJ M' b = mJ M b) (h3 : mR M' b = mR M b) : ent G X M' b = ent G X M b := by
  unfold ent eObj
  have h4 : fVal X M' (xK X b) b = fVal X M (xK X b) b := by
    funext k
    unfold fVal
    rw [h1]
  rw [h1, h2, h3, h4]
/-- the texts of the String constants, in the order of their addresses -/
def kTx : List String := ["draw", "gas", "late", "htbs", "hti", "hc"]
def kIx : List Nat := [94, 100, 102, 125, 127, 129]
def kBy : List (List Int32) := [[100, 114, 97, 119], [103, 97, 115], [108, 97, 116, 101], [104, 116, 98, 115], [104, 116, 105], [104, 99]]
def areaV (j : Nat) : Int32 := [1, 3, 5, 7, 9].getD j 0
def aboveV (j : Nat) : Int32 := [-1, 0, 0, 1, 2, 0].getD j 0
/-- what was there before the law began and nobody writes: two static rows, six texts -/
def SE (G : Gl) (U : State) (H : Heap) : Prop :=
  va_Z "BurdenHouse$Furnace" "AREAS" "[I" (.ref (G.2 8)) (AA G) U H ∧ va_T .int (G.2 8) 5 (fun j => .int (areaV j)) (AA G) U H ∧
  va_Z "BurdenHouse$Stuff" "ABOVE" "[I" (.ref (G.2 9)) (AA G) U H ∧ va_T .int (G.2 9) 6 (fun j => .int (aboveV j)) (AA G) U H ∧
  vk_S 6 [4, 3, 4, 4, 3, 2] kBy (fun i => G.2 (10 + i)) (fun i => G.2 (16 + i)) (AA G) U H
def NW1 : List (String × Nat × MethodName) := [("BurdenHouse$House", 93, ⟨"BurdenHouse", "heldWithin999", "(I)I"⟩), ("BurdenHouse$Furnace", 71, ⟨"BurdenHouse", "basicOf", "(II)I"⟩), ("BurdenHouse$Bins", 56, ⟨"BurdenHouse", "basicOf", "(II)I"⟩), ("BurdenHouse$Bins", 59, ⟨"BurdenHouse", "isWithin", "(III)Z"⟩)]
abbrev tysA (G : Gl) : List (ClassId × FieldType) := [(G.2 0, .int), (G.2 1, .long), (G.2 2, .boolean), (G.2 3, .object RX4), (G.2 4, .object RX5), (G.2 5, .object RX6), (G.2 6, .array .int)]
/-- what the machine's tables say, in every state of the run -/
def KU (G : Gl) (U : State) : Prop := va_K G.1 vwCl (tysA G) U ∧ (∀ q ∈ NW1, va_Nw (.methodLinkNest q.1 q.2.1 q.2.2 "BurdenHouse") U) ∧ (∀ i, i < 6 → vk_R "BurdenHouse$Tape" (kIx.getD i 0) (kTx.getD i "") (G.2 (10 + i)) U)
theorem KU.warm {G : Gl} {s U : State} (hW : s.WarmedH U.vm) (h : KU G s) : KU G U := ⟨va_K.moved hW.alike h.1, fun q hq => (h.2.1 q hq).warmM hW, fun i hi => (h.2.2 i hi).warm hW⟩
theorem KU.same {G : Gl} {u U : State} (hv : u.vm = U.vm) (h : KU G u) : KU G U := ⟨va_K.moved (by rw [hv]; exact Vm.Alike.refl _) h.1, fun q hq => va_Nw.same rfl hv (h.2.1 q hq), fun i hi => vk_R.same hv.symm (h.2.2 i hi)⟩
theorem SE.moved {G : Gl} {u U : State} {H : Heap} (hvm : u.vm.Alike U.vm) (h : SE G u H) : SE G U H := ⟨va_Z.moved hvm h.1, va_T.moved hvm h.2.1, va_Z.moved hvm h.2.2.1, va_T.moved hvm h.2.2.2.1, vk_S.moved hvm h.2.2.2.2⟩
theorem SE.kept {G : Gl} {U : State} {H H1 : Heap} (h : SE G U H) (hq : ∀ a : Nat, a < H.size → ¬ AA G a → H1[a]? = H[a]?) : SE G U H1 := ⟨va_Z.kept h.1 hq, va_T.kept h.2.1 hq, va_Z.kept h.2.2.1 hq, va_T.kept h.2.2.2.1 hq, vk_S.kept h.2.2.2.2 hq⟩
/-- a method: its name, its code, its locals, what it answers -/
abbrev Md : Type := MethodName × ByteArray × Nat × Option FieldType
def rmd (d mc ms : Nat) : Room := { frames := d, cells := mc, slots := ms, locals := 40 * d }
def wsm (y : Md) : List Cond := .code y.1 y.2.1 y.2.2.1 y.2.2.2 :: GW
/-- what holds in a frame of y, whatever it does -/
def Cx (G : Gl) (y : Md) (p : Program) (s : State) (m : MethodId) (args : Array Value) (meth : Method) (c : Code) : Prop :=
  p.tables.exec = Jvm.exec ∧ c.code = y.2.1 ∧ c.maxLocals = y.2.2.1 ∧ meth.sig.returnType = y.2.2.2 ∧ meth.locks = false ∧ s.vm.findClass y.1.cls = some m.cls ∧ (∀ w ∈ GW, w.before args s = true) ∧ KU G s ∧ SE G s s.heap ∧ meth.name = y.1.name ∧ G.2 7 ≤ s.heap.size
/-- a method's end -/
def Qm (G : Gl) (Q : Sh → Mm → Option Value → Prop) : Array Value → State → Outcome → State → Prop := fun _ st oc t => (∃ (v : Option Value) (X : Sh) (M : Mm), oc = .returned v ∧ Q X M v ∧ Rel G X M t.heap ∧ t.heap.size = xz X) ∧ va_F (AA G) st t
/-- from this place of y's code the method comes to its end, and there Q -/
def Wp (G : Gl) (y : Md) (d mc ms ce sl pc : Nat) (lo : List (Nat × Value)) (st : List Value) (X : Sh) (M : Mm) (Q : Sh → Mm → Option Value → Prop) : Prop :=
  ∀ (p : Program) (l : Launch) (e : Env) (s : State) (m : MethodId) (args : Array Value) (below : List Frame) (meth : Method) (c : Code) (H : Heap) (locs : List Loc) (ls : Array Slot),
    Cx G y p s m args meth c → Rel G X M H → xz X = s.heap.size + ce → va_S (AA G) s.heap H locs → lv_has ls y.2.2.1 lo →
    W p l e (rmd d mc ms) s m args below meth c H locs ce sl (MQ below (Qm G Q) args s mc ms (AA G)) (F0 m pc ls st)
/-- y, called with these arguments in this world, comes to its end, and there Q -/
def Cl (G : Gl) (y : Md) (d mc ms : Nat) (as : List Value) (X : Sh) (M : Mm) (Q : Sh → Mm → Option Value → Prop) : Prop :=
  ∀ l : Launch, Met l y.1 (wsm y) (rmd d mc ms) (va_Pc as (fun U => KU G U ∧ SE G U U.heap ∧ Rel G X M U.heap ∧ U.heap.size = xz X)) (Qm G Q) mc ms (AA G)
theorem Cl.of {G : Gl} {y : Md} {d mc ms : Nat} {as : List Value} {X : Sh} {M : Mm} {Q : Sh → Mm → Option Value → Prop} (hy : plainName y.1.cls = true) (hn : (lg_sl as).length ≤ y.2.2.1) (h : Wp G y d mc ms 0 0 0 (lv_args 0 as) [] X M Q) : Cl G y d mc ms as X M Q := by
  intro l
  refine Met.ofW (cc := y.2.1) (maxL := y.2.2.1) (ret := y.2.2.2) hy rfl ?_
  intro p e s m args below meth c s₁ B hml hv
  obtain ⟨rfl, hK, hSE, hR, hz⟩ := hv
  have hts := atoms_spec (ws := wsm y) B.pre
  rw [lg_entry_eq]
  exact h p l e s m as.toArray below meth c s.heap [] _ ⟨B.exec, B.bytes, hml, B.returns, B.notSynchronized, findClass_of_methodNamed B.named, fun w hw => hts w (List.mem_cons_of_mem _ hw), hK, hSE, (name_of_methodNamed B.named B.method).1, by rw [hz]; exact hR.1⟩ hR hz.symm va_S.rf (lv_entry as hn)
theorem Wp.sub {G : Gl} {y : Md} {d mc ms ce sl pc : Nat} {lo lo' : List (Nat × Value)} {st : List Value} {X : Sh} {M : Mm} {Q : Sh → Mm → Option Value → Prop} (is : List Nat) (hs : lv_pick lo is = lo') (h : Wp G y d mc ms ce sl pc lo' st X M Q) : Wp G y d mc ms ce sl pc lo st X M Q :=
  fun p l e s m args below meth c H locs ls hC hR hz hS hl => h p l e s m args below meth c H locs ls hC hR hz hS (lv_sub hl is hs)
theorem W.sized {p : Program} {l : Launch} {e : Env} {R : Room} {s : State} {m : MethodId} {args : Array Value} {below : List Frame} {meth : Method} {c : Code} {H : Heap} {locs : List Loc} {cells slots : Nat} {Z : State → Prop} {g : JFrame} (k : H.size ≤ s.heap.size + cells → W p l e R s m args below meth c H locs cells slots Z g) : W p l e R s m args below meth c H locs cells slots Z g := by
  intro T hT X
  have h := X.same.2.2.1
  have h2 : (T.setVm s.vm).heap = H := hT
  rw [h2] at h
  exact k h T hT X
theorem Rel.size {G : Gl} {X : Sh} {M : Mm} {H : Heap} {s : State} {locs : List Loc} {ce : Nat} (hR : Rel G X M H) (hz : xz X = s.heap.size + ce) (hb : G.2 7 ≤ s.heap.size) (hS : va_S (AA G) s.heap H locs) (h : H.size ≤ s.heap.size + ce) : H.size = xz X := by
  have h0 := hS.1
  rcases Nat.eq_zero_or_pos ce with h1 | h1
  · omega
  · obtain ⟨k, hk⟩ := hR.at (a := xz X - 1) ((hR.2.1 _).mpr ⟨by omega, by omega⟩)
    have h2 := (hR.2.2 k _ hk).lt
    have h3 : xz X - 1 < H.size := h2
    omega
section ROWS
variable {G : Gl} {y : Md} {d mc ms ce sl pc : Nat} {lo : List (Nat × Value)} {st : List Value} {X : Sh} {M : Mm} {Q : Sh → Mm → Option Value → Prop}
theorem wp_iconst {n : Int} {v : Int32} (hd : decode y.2.1 pc = .ok (.iconst n, 1)) (hv : Int32.ofInt n = v) (k : Wp G y d mc ms ce sl (pc + 1) lo (.int v :: st) X M Q) : Wp G y d mc ms ce sl pc lo (st) X M Q := by
  intro p l e s m args below meth c H locs ls hC hR hz hS hl
  exact lv_iconst hC.1 hC.2.1 hd hv (k p l e s m args below meth c H locs ls hC hR hz hS hl)
theorem wp_bipush {n : Int} {v : Int32} (hd : decode y.2.1 pc = .ok (.bipush n, 2)) (hv : (Int8.ofInt n).toInt32 = v) (k : Wp G y d mc ms ce sl (pc + 2) lo (.int v :: st) X M Q) : Wp G y d mc ms ce sl pc lo (st) X M Q := by
  intro p l e s m args below meth c H locs ls hC hR hz hS hl
  exact lv_bipush hC.1 hC.2.1 hd hv (k p l e s m args below meth c H locs ls hC hR hz hS hl)
theorem wp_sipush {n : Int} {v : Int32} (hd : decode y.2.1 pc = .ok (.sipush n, 3)) (hv : (Int16.ofInt n).toInt32 = v) (k : Wp G y d mc ms ce sl (pc + 3) lo (.int v :: st) X M Q) : Wp G y d mc ms ce sl pc lo (st) X M Q := by
  intro p l e s m args below meth c H locs ls hC hR hz hS hl
  exact lv_sipush hC.1 hC.2.1 hd hv (k p l e s m args below meth c H locs ls hC hR hz hS hl)
theorem wp_lconst {n : Fin 2} {v : Int64} (hd : decode y.2.1 pc = .ok (.lconst n, 1)) (hv : Int64.ofNat (n : Nat) = v) (k : Wp G y d mc ms ce sl (pc + 1) lo (.long v :: st) X M Q) : Wp G y d mc ms ce sl pc lo (st) X M Q := by
  intro p l e s m args below meth c H locs ls hC hR hz hS hl
  exact lv_lconst hC.1 hC.2.1 hd hv (k p l e s m args below meth c H locs ls hC hR hz hS hl)
theorem wp_iload_n {j : Fin 4} {i : Nat} {x : Int32} (q : Nat) (hd : decode y.2.1 pc = .ok (.iload_n j, 1)) (hi : (j : Nat) = i) (hq : lo[q]? = some (i, .int x)) (k : Wp G y d mc ms ce sl (pc + 1) lo (.int x :: st) X M Q) : Wp G y d mc ms ce sl pc lo (st) X M Q := by
  intro p l e s m args below meth c H locs ls hC hR hz hS hl
  exact lv_iload_n hC.1 hC.2.1 hd hi (lv_at hl q hq) (k p l e s m args below meth c H locs ls hC hR hz hS hl)
theorem wp_iload {i : Nat} {x : Int32} (q : Nat) (hd : decode y.2.1 pc = .ok (.iload i, 2)) (hq : lo[q]? = some (i, .int x)) (k : Wp G y d mc ms ce sl (pc + 2) lo (.int x :: st) X M Q) : Wp G y d mc ms ce sl pc lo (st) X M Q := by
  intro p l e s m args below meth c H locs ls hC hR hz hS hl
  exact lv_iload hC.1 hC.2.1 hd (lv_at hl q hq) (k p l e s m args below meth c H locs ls hC hR hz hS hl)
theorem wp_lload_n {j : Fin 4} {i : Nat} {x : Int64} (q : Nat) (hd : decode y.2.1 pc = .ok (.lload_n j, 1)) (hi : (j : Nat) = i) (hq : lo[q]? = some (i, .long x)) (k : Wp G y d mc ms ce sl (pc + 1) lo (.long x :: st) X M Q) : Wp G y d mc ms ce sl pc lo (st) X M Q := by
  intro p l e s m args below meth c H locs ls hC hR hz hS hl
  exact lv_lload_n hC.1 hC.2.1 hd hi (lv_at hl q hq) (k p l e s m args below meth c H locs ls hC hR hz hS hl)
theorem wp_lload {i : Nat} {x : Int64} (q : Nat) (hd : decode y.2.1 pc = .ok (.lload i, 2)) (hq : lo[q]? = some (i, .long x)) (k : Wp G y d mc ms ce sl (pc + 2) lo (.long x :: st) X M Q) : Wp G y d mc ms ce sl pc lo (st) X M Q := by
  intro p l e s m args below meth c H locs ls hC hR hz hS hl
  exact lv_lload hC.1 hC.2.1 hd (lv_at hl q hq) (k p l e s m args below meth c H locs ls hC hR hz hS hl)
theorem wp_aload_n {j : Fin 4} {i : Nat} {x : Nat} (q : Nat) (hd : decode y.2.1 pc = .ok (.aload_n j, 1)) (hi : (j : Nat) = i) (hq : lo[q]? = some (i, .ref x)) (k : Wp G y d mc ms ce sl (pc + 1) lo (.ref x :: st) X M Q) : Wp G y d mc ms ce sl pc lo (st) X M Q := by
  intro p l e s m args below meth c H locs ls hC hR hz hS hl
  exact lv_aload_n hC.1 hC.2.1 hd hi (lv_at hl q hq) (k p l e s m args below meth c H locs ls hC hR hz hS hl)
theorem wp_aload {i : Nat} {x : Nat} (q : Nat) (hd : decode y.2.1 pc = .ok (.aload i, 2)) (hq : lo[q]? = some (i, .ref x)) (k : Wp G y d mc ms ce sl (pc + 2) lo (.ref x :: st) X M Q) : Wp G y d mc ms ce sl pc lo (st) X M Q := by
  intro p l e s m args below meth c H locs ls hC hR hz hS hl
  exact lv_aload hC.1 hC.2.1 hd (lv_at hl q hq) (k p l e s m args below meth c H locs ls hC hR hz hS hl)
theorem wp_iadd {x y2 : Int32} (hd : decode y.2.1 pc = .ok (.iadd, 1)) (k : Wp G y d mc ms ce sl (pc + 1) lo (.int (x + y2) :: st) X M Q) : Wp G y d mc ms ce sl pc lo (.int y2 :: .int x :: st) X M Q := by
  intro p l e s m args below meth c H locs ls hC hR hz hS hl
  exact lv_iadd hC.1 hC.2.1 hd (k p l e s m args below meth c H locs ls hC hR hz hS hl)
theorem wp_isub {x y2 : Int32} (hd : decode y.2.1 pc = .ok (.isub, 1)) (k : Wp G y d mc ms ce sl (pc + 1) lo (.int (x - y2) :: st) X M Q) : Wp G y d mc ms ce sl pc lo (.int y2 :: .int x :: st) X M Q := by
  intro p l e s m args below meth c H locs ls hC hR hz hS hl
  exact lv_isub hC.1 hC.2.1 hd (k p l e s m args below meth c H locs ls hC hR hz hS hl)
theorem wp_imul {x y2 : Int32} (hd : decode y.2.1 pc = .ok (.imul, 1)) (k : Wp G y d mc ms ce sl (pc + 1) lo (.int (x * y2) :: st) X M Q) : Wp G y d mc ms ce sl pc lo (.int y2 :: .int x :: st) X M Q := by
  intro p l e s m args below meth c H locs ls hC hR hz hS hl
  exact lv_imul hC.1 hC.2.1 hd (k p l e s m args below meth c H locs ls hC hR hz hS hl)
theorem wp_iand {x y2 : Int32} (hd : decode y.2.1 pc = .ok (.iand, 1)) (k : Wp G y d mc ms ce sl (pc + 1) lo (.int (x &&& y2) :: st) X M Q) : Wp G y d mc ms ce sl pc lo (.int y2 :: .int x :: st) X M Q := by
  intro p l e s m args below meth c H locs ls hC hR hz hS hl
  exact lv_iand hC.1 hC.2.1 hd (k p l e s m args below meth c H locs ls hC hR hz hS hl)
theorem wp_ineg {x : Int32} (hd : decode y.2.1 pc = .ok (.ineg, 1)) (k : Wp G y d mc ms ce sl (pc + 1) lo (.int (-x) :: st) X M Q) : Wp G y d mc ms ce sl pc lo (.int x :: st) X M Q := by
  intro p l e s m args below meth c H locs ls hC hR hz hS hl
  exact lv_ineg hC.1 hC.2.1 hd (k p l e s m args below meth c H locs ls hC hR hz hS hl)
theorem wp_idiv {x y2 : Int32} (hd : decode y.2.1 pc = .ok (.idiv, 1)) (hne : ¬ y2 = 0) (k : Wp G y d mc ms ce sl (pc + 1) lo (.int (x / y2) :: st) X M Q) : Wp G y d mc ms ce sl pc lo (.int y2 :: .int x :: st) X M Q := by
  intro p l e s m args below meth c H locs ls hC hR hz hS hl
  exact lv_idiv hC.1 hC.2.1 hd hne (k p l e s m args below meth c H locs ls hC hR hz hS hl)
theorem wp_irem {x y2 : Int32} (hd : decode y.2.1 pc = .ok (.irem, 1)) (hne : ¬ y2 = 0) (k : Wp G y d mc ms ce sl (pc + 1) lo (.int (x - x / y2 * y2) :: st) X M Q) : Wp G y d mc ms ce sl pc lo (.int y2 :: .int x :: st) X M Q := by
  intro p l e s m args below meth c H locs ls hC hR hz hS hl
  exact lv_irem hC.1 hC.2.1 hd hne (k p l e s m args below meth c H locs ls hC hR hz hS hl)
theorem wp_ladd {x y2 : Int64} (hd : decode y.2.1 pc = .ok (.ladd, 1)) (k : Wp G y d mc ms ce sl (pc + 1) lo (.long (x + y2) :: st) X M Q) : Wp G y d mc ms ce sl pc lo (.long y2 :: .long x :: st) X M Q := by
  intro p l e s m args below meth c H locs ls hC hR hz hS hl
  exact lv_ladd hC.1 hC.2.1 hd (k p l e s m args below meth c H locs ls hC hR hz hS hl)
theorem wp_lsub {x y2 : Int64} (hd : decode y.2.1 pc = .ok (.lsub, 1)) (k : Wp G y d mc ms ce sl (pc + 1) lo (.long (x - y2) :: st) X M Q) : Wp G y d mc ms ce sl pc lo (.long y2 :: .long x :: st) X M Q := by
  intro p l e s m args below meth c H locs ls hC hR hz hS hl
  exact lv_lsub hC.1 hC.2.1 hd (k p l e s m args below meth c H locs ls hC hR hz hS hl)
theorem wp_lmul {x y2 : Int64} (hd : decode y.2.1 pc = .ok (.lmul, 1)) (k : Wp G y d mc ms ce sl (pc + 1) lo (.long (x * y2) :: st) X M Q) : Wp G y d mc ms ce sl pc lo (.long y2 :: .long x :: st) X M Q := by
  intro p l e s m args below meth c H locs ls hC hR hz hS hl
  exact lv_lmul hC.1 hC.2.1 hd (k p l e s m args below meth c H locs ls hC hR hz hS hl)
theorem wp_ldiv {x y2 : Int64} (hd : decode y.2.1 pc = .ok (.ldiv, 1)) (hne : ¬ y2 = 0) (k : Wp G y d mc ms ce sl (pc + 1) lo (.long (x / y2) :: st) X M Q) : Wp G y d mc ms ce sl pc lo (.long y2 :: .long x :: st) X M Q := by
  intro p l e s m args below meth c H locs ls hC hR hz hS hl
  exact lv_ldiv hC.1 hC.2.1 hd hne (k p l e s m args below meth c H locs ls hC hR hz hS hl)
theorem wp_lrem {x y2 : Int64} (hd : decode y.2.1 pc = .ok (.lrem, 1)) (hne : ¬ y2 = 0) (k : Wp G y d mc ms ce sl (pc + 1) lo (.long (x - x / y2 * y2) :: st) X M Q) : Wp G y d mc ms ce sl pc lo (.long y2 :: .long x :: st) X M Q := by
  intro p l e s m args below meth c H locs ls hC hR hz hS hl
  exact lv_lrem hC.1 hC.2.1 hd hne (k p l e s m args below meth c H locs ls hC hR hz hS hl)
theorem wp_ishl {x y2 : Int32} (hd : decode y.2.1 pc = .ok (.ishl, 1)) (k : Wp G y d mc ms ce sl (pc + 1) lo (.int (x <<< (y2 &&& 31)) :: st) X M Q) : Wp G y d mc ms ce sl pc lo (.int y2 :: .int x :: st) X M Q := by
  intro p l e s m args below meth c H locs ls hC hR hz hS hl
  exact lv_ishl hC.1 hC.2.1 hd (k p l e s m args below meth c H locs ls hC hR hz hS hl)
theorem wp_ishr {x y2 : Int32} (hd : decode y.2.1 pc = .ok (.ishr, 1)) (k : Wp G y d mc ms ce sl (pc + 1) lo (.int (x >>> (y2 &&& 31)) :: st) X M Q) : Wp G y d mc ms ce sl pc lo (.int y2 :: .int x :: st) X M Q := by
  intro p l e s m args below meth c H locs ls hC hR hz hS hl
  exact lv_ishr hC.1 hC.2.1 hd (k p l e s m args below meth c H locs ls hC hR hz hS hl)
theorem wp_iushr {x y2 : Int32} (hd : decode y.2.1 pc = .ok (.iushr, 1)) (k : Wp G y d mc ms ce sl (pc + 1) lo (.int ((x.toUInt32 >>> (y2.toUInt32 &&& Int32.toUInt32 31)).toInt32) :: st) X M Q) : Wp G y d mc ms ce sl pc lo (.int y2 :: .int x :: st) X M Q := by
  intro p l e s m args below meth c H locs ls hC hR hz hS hl
  exact lv_iushr hC.1 hC.2.1 hd rfl (k p l e s m args below meth c H locs ls hC hR hz hS hl)
theorem wp_i2l {x : Int32} (hd : decode y.2.1 pc = .ok (.i2l, 1)) (k : Wp G y d mc ms ce sl (pc + 1) lo (.long x.toInt64 :: st) X M Q) : Wp G y d mc ms ce sl pc lo (.int x :: st) X M Q := by
  intro p l e s m args below meth c H locs ls hC hR hz hS hl
  exact lv_i2l hC.1 hC.2.1 hd rfl (k p l e s m args below meth c H locs ls hC hR hz hS hl)
theorem wp_l2i {x : Int64} (hd : decode y.2.1 pc = .ok (.l2i, 1)) (k : Wp G y d mc ms ce sl (pc + 1) lo (.int x.toInt32 :: st) X M Q) : Wp G y d mc ms ce sl pc lo (.long x :: st) X M Q := by
  intro p l e s m args below meth c H locs ls hC hR hz hS hl
  exact lv_l2i hC.1 hC.2.1 hd rfl (k p l e s m args below meth c H locs ls hC hR hz hS hl)
theorem wp_i2s {x : Int32} (hd : decode y.2.1 pc = .ok (.i2s, 1)) (k : Wp G y d mc ms ce sl (pc + 1) lo (.int x.toInt16.toInt32 :: st) X M Q) : Wp G y d mc ms ce sl pc lo (.int x :: st) X M Q := by
  intro p l e s m args below meth c H locs ls hC hR hz hS hl
  exact lv_i2s hC.1 hC.2.1 hd rfl (k p l e s m args below meth c H locs ls hC hR hz hS hl)
theorem wp_i2c {x : Int32} (hd : decode y.2.1 pc = .ok (.i2c, 1)) (k : Wp G y d mc ms ce sl (pc + 1) lo (.int ((x.toUInt32 % 65536).toInt32) :: st) X M Q) : Wp G y d mc ms ce sl pc lo (.int x :: st) X M Q := by
  intro p l e s m args below meth c H locs ls hC hR hz hS hl
  exact lv_i2c hC.1 hC.2.1 hd rfl (k p l e s m args below meth c H locs ls hC hR hz hS hl)
theorem wp_dup {v : Value} (hd : decode y.2.1 pc = .ok (.dup, 1)) (hv : v.category = 1) (k : Wp G y d mc ms ce sl (pc + 1) lo (v :: v :: st) X M Q) : Wp G y d mc ms ce sl pc lo (v :: st) X M Q := by
  intro p l e s m args below meth c H locs ls hC hR hz hS hl
  exact lv_dup hC.1 hC.2.1 hd hv (k p l e s m args below meth c H locs ls hC hR hz hS hl)
theorem wp_pop {v : Value} (hd : decode y.2.1 pc = .ok (.pop, 1)) (hv : v.category = 1) (k : Wp G y d mc ms ce sl (pc + 1) lo (st) X M Q) : Wp G y d mc ms ce sl pc lo (v :: st) X M Q := by
  intro p l e s m args below meth c H locs ls hC hR hz hS hl
  exact lv_pop hC.1 hC.2.1 hd hv (k p l e s m args below meth c H locs ls hC hR hz hS hl)
theorem wp_dup2_11 {v u : Value} (hd : decode y.2.1 pc = .ok (.dup2, 1)) (hv : v.category = 1) (hu : u.category = 1) (k : Wp G y d mc ms ce sl (pc + 1) lo (v :: u :: v :: u :: st) X M Q) : Wp G y d mc ms ce sl pc lo (v :: u :: st) X M Q := by
  intro p l e s m args below meth c H locs ls hC hR hz hS hl
  exact lv_dup2_11 hC.1 hC.2.1 hd hv hu (k p l e s m args below meth c H locs ls hC hR hz hS hl)
theorem wp_lcmp {x y2 : Int64} (hd : decode y.2.1 pc = .ok (.lcmp, 1)) (k : Wp G y d mc ms ce sl (pc + 1) lo (.int (lg_cmp x y2) :: st) X M Q) : Wp G y d mc ms ce sl pc lo (.long y2 :: .long x :: st) X M Q := by
  intro p l e s m args below meth c H locs ls hC hR hz hS hl
  exact W.lcmp hC.1 hC.2.1 hd (k p l e s m args below meth c H locs ls hC hR hz hS hl)
theorem wp_goto {off : Int} {tgt : Nat} (hd : decode y.2.1 pc = .ok (.goto off, 3)) (ht : (pc : Int) + off = (tgt : Int)) (k : Wp G y d mc ms ce sl tgt lo st X M Q) : Wp G y d mc ms ce sl pc lo st X M Q := by
  intro p l e s m args below meth c H locs ls hC hR hz hS hl
  exact lv_goto hC.1 hC.2.1 hd ht (k p l e s m args below meth c H locs ls hC hR hz hS hl)
theorem wp_if_eq {x : Int32} {off : Int} {tgt : Nat} (hd : decode y.2.1 pc = .ok (.ifCond .eq off, 3)) (ht : (pc : Int) + off = (tgt : Int)) (kt : x = 0 → Wp G y d mc ms ce sl tgt lo st X M Q) (kf : ¬ x = 0 → Wp G y d mc ms ce sl (pc + 3) lo st X M Q) : Wp G y d mc ms ce sl pc lo (.int x :: st) X M Q := by
  intro p l e s m args below meth c H locs ls hC hR hz hS hl
  exact lv_if_eq hC.1 hC.2.1 hd ht (fun h => kt h p l e s m args below meth c H locs ls hC hR hz hS hl) (fun h => kf h p l e s m args below meth c H locs ls hC hR hz hS hl)
theorem wp_icmp_eq {x y2 : Int32} {off : Int} {tgt : Nat} (hd : decode y.2.1 pc = .ok (.if_icmp .eq off, 3)) (ht : (pc : Int) + off = (tgt : Int)) (kt : x = y2 → Wp G y d mc ms ce sl tgt lo st X M Q) (kf : ¬ x = y2 → Wp G y d mc ms ce sl (pc + 3) lo st X M Q) : Wp G y d mc ms ce sl pc lo (.int y2 :: .int x :: st) X M Q := by
  intro p l e s m args below meth c H locs ls hC hR hz hS hl
  exact lv_icmp_eq hC.1 hC.2.1 hd ht (fun h => kt h p l e s m args below meth c H locs ls hC hR hz hS hl) (fun h => kf h p l e s m args below meth c H locs ls hC hR hz hS hl)
theorem wp_if_ne {x : Int32} {off : Int} {tgt : Nat} (hd : decode y.2.1 pc = .ok (.ifCond .ne off, 3)) (ht : (pc : Int) + off = (tgt : Int)) (kt : ¬ x = 0 → Wp G y d mc ms ce sl tgt lo st X M Q) (kf : x = 0 → Wp G y d mc ms ce sl (pc + 3) lo st X M Q) : Wp G y d mc ms ce sl pc lo (.int x :: st) X M Q := by
  intro p l e s m args below meth c H locs ls hC hR hz hS hl
  exact lv_if_ne hC.1 hC.2.1 hd ht (fun h => kt h p l e s m args below meth c H locs ls hC hR hz hS hl) (fun h => kf h p l e s m args below meth c H locs ls hC hR hz hS hl)
theorem wp_icmp_ne {x y2 : Int32} {off : Int} {tgt : Nat} (hd : decode y.2.1 pc = .ok (.if_icmp .ne off, 3)) (ht : (pc : Int) + off = (tgt : Int)) (kt : ¬ x = y2 → Wp G y d mc ms ce sl tgt lo st X M Q) (kf : x = y2 → Wp G y d mc ms ce sl (pc + 3) lo st X M Q) : Wp G y d mc ms ce sl pc lo (.int y2 :: .int x :: st) X M Q := by
  intro p l e s m args below meth c H locs ls hC hR hz hS hl
  exact lv_icmp_ne hC.1 hC.2.1 hd ht (fun h => kt h p l e s m args below meth c H locs ls hC hR hz hS hl) (fun h => kf h p l e s m args below meth c H locs ls hC hR hz hS hl)
theorem wp_if_lt {x : Int32} {off : Int} {tgt : Nat} (hd : decode y.2.1 pc = .ok (.ifCond .lt off, 3)) (ht : (pc : Int) + off = (tgt : Int)) (kt : x < 0 → Wp G y d mc ms ce sl tgt lo st X M Q) (kf : ¬ x < 0 → Wp G y d mc ms ce sl (pc + 3) lo st X M Q) : Wp G y d mc ms ce sl pc lo (.int x :: st) X M Q := by
  intro p l e s m args below meth c H locs ls hC hR hz hS hl
  exact lv_if_lt hC.1 hC.2.1 hd ht (fun h => kt h p l e s m args below meth c H locs ls hC hR hz hS hl) (fun h => kf h p l e s m args below meth c H locs ls hC hR hz hS hl)
theorem wp_icmp_lt {x y2 : Int32} {off : Int} {tgt : Nat} (hd : decode y.2.1 pc = .ok (.if_icmp .lt off, 3)) (ht : (pc : Int) + off = (tgt : Int)) (kt : x < y2 → Wp G y d mc ms ce sl tgt lo st X M Q) (kf : ¬ x < y2 → Wp G y d mc ms ce sl (pc + 3) lo st X M Q) : Wp G y d mc ms ce sl pc lo (.int y2 :: .int x :: st) X M Q := by
  intro p l e s m args below meth c H locs ls hC hR hz hS hl
  exact lv_icmp_lt hC.1 hC.2.1 hd ht (fun h => kt h p l e s m args below meth c H locs ls hC hR hz hS hl) (fun h => kf h p l e s m args below meth c H locs ls hC hR hz hS hl)
theorem wp_if_ge {x : Int32} {off : Int} {tgt : Nat} (hd : decode y.2.1 pc = .ok (.ifCond .ge off, 3)) (ht : (pc : Int) + off = (tgt : Int)) (kt : 0 ≤ x → Wp G y d mc ms ce sl tgt lo st X M Q) (kf : ¬ 0 ≤ x → Wp G y d mc ms ce sl (pc + 3) lo st X M Q) : Wp G y d mc ms ce sl pc lo (.int x :: st) X M Q := by
  intro p l e s m args below meth c H locs ls hC hR hz hS hl
  exact lv_if_ge hC.1 hC.2.1 hd ht (fun h => kt h p l e s m args below meth c H locs ls hC hR hz hS hl) (fun h => kf h p l e s m args below meth c H locs ls hC hR hz hS hl)
theorem wp_icmp_ge {x y2 : Int32} {off : Int} {tgt : Nat} (hd : decode y.2.1 pc = .ok (.if_icmp .ge off, 3)) (ht : (pc : Int) + off = (tgt : Int)) (kt : y2 ≤ x → Wp G y d mc ms ce sl tgt lo st X M Q) (kf : ¬ y2 ≤ x → Wp G y d mc ms ce sl (pc + 3) lo st X M Q) : Wp G y d mc ms ce sl pc lo (.int y2 :: .int x :: st) X M Q := by
  intro p l e s m args below meth c H locs ls hC hR hz hS hl
  exact lv_icmp_ge hC.1 hC.2.1 hd ht (fun h => kt h p l e s m args below meth c H locs ls hC hR hz hS hl) (fun h => kf h p l e s m args below meth c H locs ls hC hR hz hS hl)
theorem wp_if_gt {x : Int32} {off : Int} {tgt : Nat} (hd : decode y.2.1 pc = .ok (.ifCond .gt off, 3)) (ht : (pc : Int) + off = (tgt : Int)) (kt : 0 < x → Wp G y d mc ms ce sl tgt lo st X M Q) (kf : ¬ 0 < x → Wp G y d mc ms ce sl (pc + 3) lo st X M Q) : Wp G y d mc ms ce sl pc lo (.int x :: st) X M Q := by
  intro p l e s m args below meth c H locs ls hC hR hz hS hl
  exact lv_if_gt hC.1 hC.2.1 hd ht (fun h => kt h p l e s m args below meth c H locs ls hC hR hz hS hl) (fun h => kf h p l e s m args below meth c H locs ls hC hR hz hS hl)
theorem wp_icmp_gt {x y2 : Int32} {off : Int} {tgt : Nat} (hd : decode y.2.1 pc = .ok (.if_icmp .gt off, 3)) (ht : (pc : Int) + off = (tgt : Int)) (kt : y2 < x → Wp G y d mc ms ce sl tgt lo st X M Q) (kf : ¬ y2 < x → Wp G y d mc ms ce sl (pc + 3) lo st X M Q) : Wp G y d mc ms ce sl pc lo (.int y2 :: .int x :: st) X M Q := by
  intro p l e s m args below meth c H locs ls hC hR hz hS hl
  exact lv_icmp_gt hC.1 hC.2.1 hd ht (fun h => kt h p l e s m args below meth c H locs ls hC hR hz hS hl) (fun h => kf h p l e s m args below meth c H locs ls hC hR hz hS hl)
theorem wp_if_le {x : Int32} {off : Int} {tgt : Nat} (hd : decode y.2.1 pc = .ok (.ifCond .le off, 3)) (ht : (pc : Int) + off = (tgt : Int)) (kt : x ≤ 0 → Wp G y d mc ms ce sl tgt lo st X M Q) (kf : ¬ x ≤ 0 → Wp G y d mc ms ce sl (pc + 3) lo st X M Q) : Wp G y d mc ms ce sl pc lo (.int x :: st) X M Q := by
  intro p l e s m args below meth c H locs ls hC hR hz hS hl
  exact lv_if_le hC.1 hC.2.1 hd ht (fun h => kt h p l e s m args below meth c H locs ls hC hR hz hS hl) (fun h => kf h p l e s m args below meth c H locs ls hC hR hz hS hl)
theorem wp_icmp_le {x y2 : Int32} {off : Int} {tgt : Nat} (hd : decode y.2.1 pc = .ok (.if_icmp .le off, 3)) (ht : (pc : Int) + off = (tgt : Int)) (kt : x ≤ y2 → Wp G y d mc ms ce sl tgt lo st X M Q) (kf : ¬ x ≤ y2 → Wp G y d mc ms ce sl (pc + 3) lo st X M Q) : Wp G y d mc ms ce sl pc lo (.int y2 :: .int x :: st) X M Q := by
  intro p l e s m args below meth c H locs ls hC hR hz hS hl
  exact lv_icmp_le hC.1 hC.2.1 hd ht (fun h => kt h p l e s m args below meth c H locs ls hC hR hz hS hl) (fun h => kf h p l e s m args below meth c H locs ls hC hR hz hS hl)
theorem wp_ifB_eq {b : Prop} (hb : Decidable b) {off : Int} {tgt : Nat} (hd : decode y.2.1 pc = .ok (.ifCond .eq off, 3)) (ht : (pc : Int) + off = (tgt : Int)) (kt : ¬ b → Wp G y d mc ms ce sl tgt lo st X M Q) (kf : b → Wp G y d mc ms ce sl (pc + 3) lo st X M Q) : Wp G y d mc ms ce sl pc lo (.int (if b then 1 else 0) :: st) X M Q := by
  refine wp_if_eq hd ht (fun h => kt (fun q => ?_)) (fun h => kf (Decidable.byContradiction fun q => ?_))
  · rw [if_pos q] at h
    exact absurd h (by decide)
  · rw [if_neg q] at h
    exact h rfl
theorem wp_ifB_ne {b : Prop} (hb : Decidable b) {off : Int} {tgt : Nat} (hd : decode y.2.1 pc = .ok (.ifCond .ne off, 3)) (ht : (pc : Int) + off = (tgt : Int)) (kt : b → Wp G y d mc ms ce sl tgt lo st X M Q) (kf : ¬ b → Wp G y d mc ms ce sl (pc + 3) lo st X M Q) : Wp G y d mc ms ce sl pc lo (.int (if b then 1 else 0) :: st) X M Q := by
  refine wp_if_ne hd ht (fun h => kt (Decidable.byContradiction fun q => ?_)) (fun h => kf (fun q => ?_))
  · rw [if_neg q] at h
    exact h rfl
  · rw [if_pos q] at h
    exact absurd h (by decide)
theorem wp_istore_n {j : Fin 4} {i : Nat} {x : Int32} {lo2 : List (Nat × Value)} (hd : decode y.2.1 pc = .ok (.istore_n j, 1)) (hi : (j : Nat) = i) (hn : i < y.2.2.1) (hlo : (i, Value.int x) :: lo.filter (fun q => !(q.1 == i) && !(q.1 + 1 == i && q.2.category == 2)) = lo2) (k : Wp G y d mc ms ce sl (pc + 1) lo2 st X M Q) : Wp G y d mc ms ce sl pc lo (.int x :: st) X M Q := by
  intro p l e s m args below meth c H locs ls hC hR hz hS hl
  exact lv_istore_n hC.1 hC.2.1 hd hi hl hn hlo (fun ls2 hl2 => k p l e s m args below meth c H locs ls2 hC hR hz hS hl2)
theorem wp_istore {i : Nat} {x : Int32} {lo2 : List (Nat × Value)} (hd : decode y.2.1 pc = .ok (.istore i, 2)) (hn : i < y.2.2.1) (hlo : (i, Value.int x) :: lo.filter (fun q => !(q.1 == i) && !(q.1 + 1 == i && q.2.category == 2)) = lo2) (k : Wp G y d mc ms ce sl (pc + 2) lo2 st X M Q) : Wp G y d mc ms ce sl pc lo (.int x :: st) X M Q := by
  intro p l e s m args below meth c H locs ls hC hR hz hS hl
  exact lv_istore hC.1 hC.2.1 hd hl hn hlo (fun ls2 hl2 => k p l e s m args below meth c H locs ls2 hC hR hz hS hl2)
theorem wp_astore_n {j : Fin 4} {i : Nat} {x : Nat} {lo2 : List (Nat × Value)} (hd : decode y.2.1 pc = .ok (.astore_n j, 1)) (hi : (j : Nat) = i) (hn : i < y.2.2.1) (hlo : (i, Value.ref x) :: lo.filter (fun q => !(q.1 == i) && !(q.1 + 1 == i && q.2.category == 2)) = lo2) (k : Wp G y d mc ms ce sl (pc + 1) lo2 st X M Q) : Wp G y d mc ms ce sl pc lo (.ref x :: st) X M Q := by
  intro p l e s m args below meth c H locs ls hC hR hz hS hl
  exact lv_astore_n hC.1 hC.2.1 hd hi hl hn hlo (fun ls2 hl2 => k p l e s m args below meth c H locs ls2 hC hR hz hS hl2)
theorem wp_astore {i : Nat} {x : Nat} {lo2 : List (Nat × Value)} (hd : decode y.2.1 pc = .ok (.astore i, 2)) (hn : i < y.2.2.1) (hlo : (i, Value.ref x) :: lo.filter (fun q => !(q.1 == i) && !(q.1 + 1 == i && q.2.category == 2)) = lo2) (k : Wp G y d mc ms ce sl (pc + 2) lo2 st X M Q) : Wp G y d mc ms ce sl pc lo (.ref x :: st) X M Q := by
  intro p l e s m args below meth c H locs ls hC hR hz hS hl
  exact lv_astore hC.1 hC.2.1 hd hl hn hlo (fun ls2 hl2 => k p l e s m args below meth c H locs ls2 hC hR hz hS hl2)
theorem wp_lstore_n {j : Fin 4} {i : Nat} {x : Int64} {lo2 : List (Nat × Value)} (hd : decode y.2.1 pc = .ok (.lstore_n j, 1)) (hi : (j : Nat) = i) (hn : i + 1 < y.2.2.1) (hlo : (i, Value.long x) :: lo.filter (fun q => !(q.1 == i) && (!(q.1 == i + 1) && !(q.1 + 1 == i && q.2.category == 2))) = lo2) (k : Wp G y d mc ms ce sl (pc + 1) lo2 st X M Q) : Wp G y d mc ms ce sl pc lo (.long x :: st) X M Q := by
  intro p l e s m args below meth c H locs ls hC hR hz hS hl
  exact lv_lstore_n hC.1 hC.2.1 hd hi hl hn hlo (fun ls2 hl2 => k p l e s m args below meth c H locs ls2 hC hR hz hS hl2)
theorem wp_lstore {i : Nat} {x : Int64} {lo2 : List (Nat × Value)} (hd : decode y.2.1 pc = .ok (.lstore i, 2)) (hn : i + 1 < y.2.2.1) (hlo : (i, Value.long x) :: lo.filter (fun q => !(q.1 == i) && (!(q.1 == i + 1) && !(q.1 + 1 == i && q.2.category == 2))) = lo2) (k : Wp G y d mc ms ce sl (pc + 2) lo2 st X M Q) : Wp G y d mc ms ce sl pc lo (.long x :: st) X M Q := by
  intro p l e s m args below meth c H locs ls hC hR hz hS hl
  exact lv_lstore hC.1 hC.2.1 hd hl hn hlo (fun ls2 hl2 => k p l e s m args below meth c H locs ls2 hC hR hz hS hl2)
theorem wp_iinc {i q : Nat} {n : Int} {x v : Int32} {lo2 : List (Nat × Value)} (hd : decode y.2.1 pc = .ok (.iinc i n, 3)) (hq : lo[q]? = some (i, .int x)) (hv : x + Int32.ofInt n = v) (hn : i < y.2.2.1) (hlo : (i, Value.int v) :: lo.filter (fun q => !(q.1 == i) && !(q.1 + 1 == i && q.2.category == 2)) = lo2) (k : Wp G y d mc ms ce sl (pc + 3) lo2 st X M Q) : Wp G y d mc ms ce sl pc lo st X M Q := by
  intro p l e s m args below meth c H locs ls hC hR hz hS hl
  exact lv_iinc hC.1 hC.2.1 hd hl hq hv hn hlo (fun ls2 hl2 => k p l e s m args below meth c H locs ls2 hC hR hz hS hl2)
/-- the pool's entry idx of the class own is the field k of class ci -/
def FLk (own : String) (idx ci k : Nat) : Prop := ci < 11 ∧ k < nFd ci ∧ ∃ (C : String) (T : u_T), vwCl[ci]? = some (C, T, nFd ci) ∧ (∀ w ∈ u_ws C T (nFd ci), w ∈ GW) ∧ Cond.fieldLink own idx (T k).1 (T k).2.1 (T k).2.2.1 ∈ GW
/-- ... and the field's type is ty, and how the fields are named and typed -/
def FLt (own : String) (idx ci k : Nat) (fin : Bool) (ty : FieldType) : Prop := ci < 11 ∧ k < nFd ci ∧ ∃ (C : String) (T : u_T) (ty0 : Nat → FieldType), vwCl[ci]? = some (C, T, nFd ci) ∧ (∀ w ∈ u_ws C T (nFd ci), w ∈ GW) ∧ Cond.fieldLink own idx (T k).1 (T k).2.1 (T k).2.2.1 ∈ GW ∧ (T k).1 = own ∧ (T k).2.2.2 = fin ∧ parseFieldDescriptor (T k).2.2.1 = some ty ∧ (∀ k, k < nFd ci → parseFieldDescriptor (T k).2.2.1 = some (ty0 k)) ∧ (∀ a, a < nFd ci → ∀ b, b < nFd ci → a ≠ b → (T a).2.1 ≠ (T b).2.1)
/-- ... of another class's field -/
def FLu (own : String) (idx ci k : Nat) (ty : FieldType) : Prop := ci < 11 ∧ k < nFd ci ∧ ∃ (C : String) (T : u_T) (ty0 : Nat → FieldType), vwCl[ci]? = some (C, T, nFd ci) ∧ (∀ w ∈ u_ws C T (nFd ci), w ∈ GW) ∧ Cond.fieldLink own idx (T k).1 (T k).2.1 (T k).2.2.1 ∈ GW ∧ (T k).2.2.2 = false ∧ parseFieldDescriptor (T k).2.2.1 = some ty ∧ (∀ k, k < nFd ci → parseFieldDescriptor (T k).2.2.1 = some (ty0 k)) ∧ (∀ a, a < nFd ci → ∀ b, b < nFd ci → a ≠ b → (T a).2.1 ≠ (T b).2.1)
theorem wp_get {a ci k idx : Nat} (hd : decode y.2.1 pc = .ok (.getfield idx, 3)) (hf : FLk y.1.cls idx ci k) (ha : xK X a = ci) (kk : Wp G y d mc ms ce sl (pc + 3) lo (fVal X M ci a k :: st) X M Q) : Wp G y d mc ms ce sl pc lo (.ref a :: st) X M Q := by
  intro p l e s m args below meth c H locs ls hC hR hz hS hl
  obtain ⟨hci, hk, C, T, hcl, hin, hlink⟩ := hf
  obtain ⟨q0, hq⟩ := hR.at (a := a) (by omega)
  rw [ent_obj ha hci] at hq
  exact va_get hC.1 hC.2.1 hC.2.2.2.2.2.2.1 hin hC.2.2.2.2.2.1 hC.2.2.2.2.2.2.2.1.1 hR.2.2 q0 hq hcl k hk (hC.2.2.2.2.2.2.1 _ hlink) (fun _ h => h) (rng_get _ hk) hd (kk p l e s m args below meth c H locs ls hC hR hz hS hl)
theorem wp_getI {a ci k idx : Nat} (hd : decode y.2.1 pc = .ok (.getfield idx, 3)) (hf : FLk y.1.cls idx ci k) (hr : fRef ci k = false) (ha : xK X a = ci) (kk : Wp G y d mc ms ce sl (pc + 3) lo (.int (mI M a k) :: st) X M Q) : Wp G y d mc ms ce sl pc lo (.ref a :: st) X M Q :=
  wp_get hd hf ha (by rw [fVal_I hr]; exact kk)
theorem wp_getR {a ci k idx t : Nat} (hd : decode y.2.1 pc = .ok (.getfield idx, 3)) (hf : FLk y.1.cls idx ci k) (hr : fRef ci k = true) (ha : xK X a = ci) (ht : xF X a k = some t) (kk : Wp G y d mc ms ce sl (pc + 3) lo (.ref t :: st) X M Q) : Wp G y d mc ms ce sl pc lo (.ref a :: st) X M Q :=
  wp_get hd hf ha (by rw [fVal_R hr, ht]; exact kk)
theorem ent_putI {a ci k : Nat} {v : Int32} (ha : xK X a = ci) (hci : ci < 11) (hr : fRef ci k = false) : ∀ b, va_up (ent G X M) a (.inr (ci, ((List.range (nFd ci)).map (fVal X M ci a)).set k (.int v))) b = ent G X (sI M a k v) b := by
  refine ent_up ?_ (fun b hb => ent_off (up2_off _ _ _ hb) rfl rfl)
  rw [ent_obj ha hci]
  unfold eObj
  rw [rng_set (fVal X M ci a) (fVal X (sI M a k v) ci a) (.int v)]
  · rw [fVal_I hr, mI_sI, up2_same]
  · intro j hj
    unfold fVal
    rw [mI_sI, up2_k _ _ _ hj]
theorem Rel.obj {a ci : Nat} {H : Heap} (hR : Rel G X M H) (ha : xK X a = ci) (hci : ci < 11) {C : String} {T : u_T} (hcl : vwCl[ci]? = some (C, T, nFd ci)) :
    ∃ (k : Nat) (cell : Cell), ([] ++ va_pl (LL G X) (ent G X M))[k]? = some (a, ent G X M a) ∧ H[a]? = some cell ∧ cell.cls = G.1.1 ci ∧ cell.vm = .none ∧ ∀ k, k < nFd ci → cell.slots[G.1.2 ci k]? = some (fVal X M ci a k) := by
  obtain ⟨q0, hq⟩ := hR.at (a := a) (by omega)
  have h1 := hR.2.2 q0 _ hq
  rw [ent_obj ha hci] at h1
  obtain ⟨r, h2, cell, h3, h4, h5, h6⟩ := h1
  have hr : r = (C, T, nFd ci) := Option.some.inj (h2.symm.trans hcl)
  subst hr
  refine ⟨q0, cell, hq, h3, h4, h5, fun k hk => ?_⟩
  have h7 := h6 k hk
  have h8 : vp_V ((List.range (nFd ci)).map (fVal X M ci a)) k = fVal X M ci a k := by
    unfold vp_V
    rw [List.getD_eq_getElem?_getD, rng_get _ hk]
    rfl
  rw [← h8]
  exact h7
/-- a heap in which the cell at a alone is another, and holds what the new world says -/
theorem Rel.putObj {a ci k : Nat} {H H1 : Heap} {v : Value} {X' : Sh} {M' : Mm} (hR : Rel G X M H) (ha : xK X a = ci) (hci : ci < 11) {C : String} {T : u_T} (hcl : vwCl[ci]? = some (C, T, nFd ci)) (hk : k < nFd ci) {cell : Cell} (hcell : cell.cls = G.1.1 ci) (hvm : cell.vm = .none) (hs : ∀ k, k < nFd ci → cell.slots[G.1.2 ci k]? = some (fVal X M ci a k))
    (hap : ∀ a b, a < nFd ci → b < nFd ci → a ≠ b → G.1.2 ci a ≠ G.1.2 ci b) (e1 : H1[a]? = some (cell.setSlot (G.1.2 ci k) v)) (e3 : ∀ q, q ≠ a → H1[q]? = H[q]?) (hz : xz X' = xz X) (hKd : xK X' = xK X) (he1 : fVal X' M' ci a k = v) (he2 : ∀ j, j ≠ k → fVal X' M' ci a j = fVal X M ci a j) (he3 : ∀ b, b ≠ a → ent G X' M' b = ent G X M b) : Rel G X' M' H1 := by
  refine ⟨by rw [hz]; exact hR.1, by rw [hz, hKd]; exact hR.2.1, ?_⟩
  have hL : LL G X' = LL G X := by
    unfold LL
    rw [hz, hKd]
  rw [hL]
  intro q0 q hq
  simp only [List.nil_append, va_pl, List.getElem?_map] at hq
  cases hb : (LL G X)[q0]? with
  | none => rw [hb] at hq; cases hq
  | some b =>
    rw [hb] at hq
    cases hq
    have h0 : ([] ++ va_pl (LL G X) (ent G X M))[q0]? = some (b, ent G X M b) := by
      simp only [List.nil_append, va_pl, List.getElem?_map, hb]
      rfl
    show va_at G.1 vwCl (b, ent G X' M' b) H1
    by_cases hba : b = a
    · subst hba
      rw [ent_obj (X := X') (by rw [hKd]; exact ha) hci]
      refine ⟨_, hcl, t_OB.to (V := updV (fVal X M ci b) k v) ⟨_, e1, hcell, hvm, t_set hs hap hk v⟩ (fun j hj => ?_)⟩
      unfold vp_V
      rw [List.getD_eq_getElem?_getD, rng_get _ hj]
      by_cases hjk : j = k
      · subst hjk
        simp [updV, he1]
      · simp [updV, hjk, he2 j hjk]
    · rw [he3 b hba]
      exact (hR.2.2 q0 _ h0).kept (e3 b hba)
/-- a field of ints (of booleans: 0 or 1) is written -/
theorem wp_put {a ci k idx : Nat} {v : Int32} {ty : FieldType} (hd : decode y.2.1 pc = .ok (.putfield idx, 3)) (hf : FLu y.1.cls idx ci k ty) (hr : fRef ci k = false) (ha : xK X a = ci) (hn : narrow ty (.int v) = .int v) (hfit : fits ty (.int v) = true) (kk : Wp G y d mc ms ce sl (pc + 3) lo st X (sI M a k v) Q) : Wp G y d mc ms ce sl pc lo (.int v :: .ref a :: st) X M Q := by
  intro p l e s m args below meth c H locs ls hC hR hz hS hl
  obtain ⟨hci, hk, C, T, ty0, hcl, hin, hlink, hfin, hty, hty0, hnm⟩ := hf
  have hts := hC.2.2.2.2.2.2.1
  have hK := hC.2.2.2.2.2.2.2.1.1
  obtain ⟨q0, cell, hq, h3, h4, h5, h6⟩ := hR.obj ha hci hcl
  have hap := va_apart (own := y.1.cls) hts hin ty0 hty0 hnm hK hcl
  obtain ⟨hSl, hfc, kC, hkC, hkind⟩ := hK.1 ci _ hcl
  obtain ⟨cf, kf, fi, f, hi, hsl⟩ := hSl k hk
  have hlay := hts _ (hin _ (u_in_lay hk))
  unfold u_lay at hlay
  rw [if_neg (by rw [hfin]; decide)] at hlay
  have hst := (u_facts hfc hkC (u_lays hts hin hk) hi).1
  have hsd := u_store hfc hkC hkind hlay hi hty hn hfit
  refine W.putK hC.1 hC.2.1 (f := f) ⟨hC.2.2.2.2.2.1, hts _ hlink, ⟨_, _, _, hi⟩, hst⟩ (by rw [h4]; exact hsd) h3 h5 (by rw [hsl]; exact k2_hasslot (h6 k hk)) rfl rfl hd fun H1 e1 e2 e3 => ?_
  rw [hsl] at e1 ⊢
  have hR1 : Rel G X (sI M a k v) H1 := hR.putObj ha hci hcl hk h4 h5 h6 hap e1 e3 rfl rfl (by rw [fVal_I hr, mI_sI, up2_same]) (fun j hj => by unfold fVal; rw [mI_sI, up2_k _ _ _ hj]) (fun b hb => ent_off (up2_off _ _ _ hb) rfl rfl)
  exact kk p l e s m args below meth c H1 _ ls hC hR1 hz (hS.put e2 e3 ((hR.2.1 a).mp (by omega)).1) hl
theorem wp_putI {a ci k idx : Nat} {v : Int32} (hd : decode y.2.1 pc = .ok (.putfield idx, 3)) (hf : FLu y.1.cls idx ci k .int) (hr : fRef ci k = false) (ha : xK X a = ci) (kk : Wp G y d mc ms ce sl (pc + 3) lo st X (sI M a k v) Q) : Wp G y d mc ms ce sl pc lo (.int v :: .ref a :: st) X M Q :=
  wp_put hd hf hr ha rfl rfl kk
theorem wp_putZ {a ci k idx : Nat} {v : Int32} (hd : decode y.2.1 pc = .ok (.putfield idx, 3)) (hf : FLu y.1.cls idx ci k .boolean) (hr : fRef ci k = false) (ha : xK X a = ci) (hv : v = 0 ∨ v = 1) (kk : Wp G y d mc ms ce sl (pc + 3) lo st X (sI M a k v) Q) : Wp G y d mc ms ce sl pc lo (.int v :: .ref a :: st) X M Q := by
  refine wp_put hd hf hr ha ?_ ?_ kk
  · rcases hv with rfl | rfl <;> rfl
  · rcases hv with rfl | rfl <;> rfl
theorem ix_in {i : Int32} {j n : Nat} (hj : i = nI j) (hlt : j < n) (hn : n < 2147483648) : vp_in i n ∧ i.toNatClampNeg = j := by
  subst hj
  exact ⟨vp_in_nI hlt hn, nI_clamp (by omega)⟩
theorem wp_iald {a n j : Nat} {i : Int32} (hd : decode y.2.1 pc = .ok (.iaload, 1)) (ha : xK X a = 11) (hn : xN X a = n) (hb : n < 2147483648) (hj : i = nI j) (hlt : j < n) (kk : Wp G y d mc ms ce sl (pc + 1) lo (.int (mI M a j) :: st) X M Q) : Wp G y d mc ms ce sl pc lo (.int i :: .ref a :: st) X M Q := by
  intro p l e s m args below meth c H locs ls hC hR hz hS hl
  obtain ⟨q0, hq⟩ := hR.at (a := a) (by omega)
  rw [ent_i ha, hn] at hq
  obtain ⟨h1, h2⟩ := ix_in hj hlt hb
  refine va_iald hC.1 hC.2.1 hC.2.2.2.2.2.2.2.1.1 hR.2.2 q0 0 hq rfl h1 hd ?_
  rw [h2]
  exact kk p l e s m args below meth c H locs ls hC hR hz hS hl
theorem wp_lald {a n j : Nat} {i : Int32} (hd : decode y.2.1 pc = .ok (.laload, 1)) (ha : xK X a = 12) (hn : xN X a = n) (hb : n < 2147483648) (hj : i = nI j) (hlt : j < n) (kk : Wp G y d mc ms ce sl (pc + 1) lo (.long (mJ M a j) :: st) X M Q) : Wp G y d mc ms ce sl pc lo (.int i :: .ref a :: st) X M Q := by
  intro p l e s m args below meth c H locs ls hC hR hz hS hl
  obtain ⟨q0, hq⟩ := hR.at (a := a) (by omega)
  rw [ent_j ha, hn] at hq
  obtain ⟨h1, h2⟩ := ix_in hj hlt hb
  refine va_lald hC.1 hC.2.1 hC.2.2.2.2.2.2.2.1.1 hR.2.2 q0 1 hq rfl h1 hd ?_
  rw [h2]
  exact kk p l e s m args below meth c H locs ls hC hR hz hS hl
theorem wp_zald {a n j : Nat} {i : Int32} (hd : decode y.2.1 pc = .ok (.baload, 1)) (ha : xK X a = 13) (hn : xN X a = n) (hb : n < 2147483648) (hj : i = nI j) (hlt : j < n) (kk : Wp G y d mc ms ce sl (pc + 1) lo (.int (mI M a j &&& 1) :: st) X M Q) : Wp G y d mc ms ce sl pc lo (.int i :: .ref a :: st) X M Q := by
  intro p l e s m args below meth c H locs ls hC hR hz hS hl
  obtain ⟨q0, hq⟩ := hR.at (a := a) (by omega)
  rw [ent_z ha, hn] at hq
  obtain ⟨h1, h2⟩ := ix_in hj hlt hb
  refine va_zald hC.1 hC.2.1 hC.2.2.2.2.2.2.2.1.1 hR.2.2 q0 2 hq rfl h1 hd ?_
  rw [h2]
  exact kk p l e s m args below meth c H locs ls hC hR hz hS hl
theorem wp_rald {a n j t : Nat} {i : Int32} (hd : decode y.2.1 pc = .ok (.aaload, 1)) (ha : xK X a = 14) (hn : xN X a = n) (hb : n < 2147483648) (hj : i = nI j) (hlt : j < n) (ht : mR M a j = some t) (kk : Wp G y d mc ms ce sl (pc + 1) lo (.ref t :: st) X M Q) : Wp G y d mc ms ce sl pc lo (.int i :: .ref a :: st) X M Q := by
  intro p l e s m args below meth c H locs ls hC hR hz hS hl
  obtain ⟨q0, hq⟩ := hR.at (a := a) (by omega)
  rw [ent_r ha, hn] at hq
  obtain ⟨h1, h2⟩ := ix_in hj hlt hb
  refine va_aldq hC.1 hC.2.1 hC.2.2.2.2.2.2.2.1.1 hR.2.2 q0 3 hq rfl h1 hd ?_
  rw [h2, ht]
  exact kk p l e s m args below meth c H locs ls hC hR hz hS hl
/-- rows of references that stay: of sheets (15), of slots (16), of rows of ints (17) -/
theorem wp_fald {a n j t : Nat} {i : Int32} (hd : decode y.2.1 pc = .ok (.aaload, 1)) (ha : xK X a = 15 ∨ xK X a = 16 ∨ xK X a = 17) (hn : xN X a = n) (hb : n < 2147483648) (hj : i = nI j) (hlt : j < n) (ht : xF X a j = some t) (kk : Wp G y d mc ms ce sl (pc + 1) lo (.ref t :: st) X M Q) : Wp G y d mc ms ce sl pc lo (.int i :: .ref a :: st) X M Q := by
  intro p l e s m args below meth c H locs ls hC hR hz hS hl
  obtain ⟨q0, hq⟩ := hR.at (a := a) (by omega)
  obtain ⟨h1, h2⟩ := ix_in hj hlt hb
  have hv : ∀ (cA : ClassId) (f : Nat → Option Nat), f = xF X a → (vp_cell cA (n, .inr (.inr (.inr (.inr f))))).slots[i.toNatClampNeg]? = some (.ref t) := by
    intro cA f hf
    show (arrV _ _ _).slots[_]? = _
    rw [h2, arrV_read _ _ hlt, hf, ht]
    rfl
  have hin : ∀ (cA : ClassId) (f : Nat → Option Nat), ¬ (i < 0 ∨ (vp_cell cA (n, .inr (.inr (.inr (.inr f))))).slots.size ≤ i.toNatClampNeg) := by
    intro cA f
    show ¬ (i < 0 ∨ (arrV _ _ _).slots.size ≤ _)
    rw [arrV_size]
    exact h1
  rcases ha with ha | ha | ha
  · rw [ent_f ha (by omega), hn] at hq
    exact W.aald hC.1 hC.2.1 (hR.2.2 q0 _ hq) ((hC.2.2.2.2.2.2.2.1.1.2 4 _ rfl).1 n (fun j => va_rf (xF X a j))) rfl (fun q => by cases q) (hin _ _) (hv _ _ rfl) rfl rfl hd (kk p l e s m args below meth c H locs ls hC hR hz hS hl)
  · rw [ent_f ha (by omega), hn] at hq
    exact W.aald hC.1 hC.2.1 (hR.2.2 q0 _ hq) ((hC.2.2.2.2.2.2.2.1.1.2 5 _ rfl).1 n (fun j => va_rf (xF X a j))) rfl (fun q => by cases q) (hin _ _) (hv _ _ rfl) rfl rfl hd (kk p l e s m args below meth c H locs ls hC hR hz hS hl)
  · rw [ent_f ha (by omega), hn] at hq
    exact W.aald hC.1 hC.2.1 (hR.2.2 q0 _ hq) ((hC.2.2.2.2.2.2.2.1.1.2 6 _ rfl).1 n (fun j => va_rf (xF X a j))) rfl (fun q => by cases q) (hin _ _) (hv _ _ rfl) rfl rfl hd (kk p l e s m args below meth c H locs ls hC hR hz hS hl)
theorem wp_alen {a n : Nat} {v : Int32} (hd : decode y.2.1 pc = .ok (.arraylength, 1)) (ha : xK X a = 11) (hn : xN X a = n) (hv : Int32.ofNat n = v) (kk : Wp G y d mc ms ce sl (pc + 1) lo (.int v :: st) X M Q) : Wp G y d mc ms ce sl pc lo (.ref a :: st) X M Q := by
  intro p l e s m args below meth c H locs ls hC hR hz hS hl
  obtain ⟨q0, hq⟩ := hR.at (a := a) (by omega)
  rw [ent_i ha, hn] at hq
  exact va_alen hC.1 hC.2.1 hC.2.2.2.2.2.2.2.1.1 hR.2.2 q0 0 hq rfl hv hd (kk p l e s m args below meth c H locs ls hC hR hz hS hl)
theorem wp_iast {a n j : Nat} {i v : Int32} (hd : decode y.2.1 pc = .ok (.iastore, 1)) (ha : xK X a = 11) (hn : xN X a = n) (hb : n < 2147483648) (hj : i = nI j) (hlt : j < n) (kk : Wp G y d mc ms ce sl (pc + 1) lo st X (sI M a j v) Q) : Wp G y d mc ms ce sl pc lo (.int v :: .int i :: .ref a :: st) X M Q := by
  intro p l e s m args below meth c H locs ls hC hR hz hS hl
  obtain ⟨q0, hq⟩ := hR.at (a := a) (by omega)
  have hq2 := hq
  rw [ent_i ha, hn] at hq2
  obtain ⟨h1, h2⟩ := ix_in hj hlt hb
  refine va_iast hC.1 hC.2.1 hC.2.2.2.2.2.2.2.1.1 hR.2.2 (LL_D G X _) hS q0 0 hq2 rfl h1 hd (fun H1 locs1 hP1 _ hS1 => ?_)
  rw [h2] at hP1
  exact kk p l e s m args below meth c H1 locs1 ls hC (hR.set (by omega) hq hP1 (ent_up (by rw [ent_i ha, hn, mI_sI, up2_row]) (fun b hb => ent_off (up2_off _ _ _ hb) rfl rfl))) hz hS1 hl
theorem wp_last {a n j : Nat} {i : Int32} {v : Int64} (hd : decode y.2.1 pc = .ok (.lastore, 1)) (ha : xK X a = 12) (hn : xN X a = n) (hb : n < 2147483648) (hj : i = nI j) (hlt : j < n) (kk : Wp G y d mc ms ce sl (pc + 1) lo st X (sJ M a j v) Q) : Wp G y d mc ms ce sl pc lo (.long v :: .int i :: .ref a :: st) X M Q := by
  intro p l e s m args below meth c H locs ls hC hR hz hS hl
  obtain ⟨q0, hq⟩ := hR.at (a := a) (by omega)
  have hq2 := hq
  rw [ent_j ha, hn] at hq2
  obtain ⟨h1, h2⟩ := ix_in hj hlt hb
  refine va_last hC.1 hC.2.1 hC.2.2.2.2.2.2.2.1.1 hR.2.2 (LL_D G X _) hS q0 1 hq2 rfl h1 hd (fun H1 locs1 hP1 _ hS1 => ?_)
  rw [h2] at hP1
  exact kk p l e s m args below meth c H1 locs1 ls hC (hR.set (by omega) hq hP1 (ent_up (by rw [ent_j ha, hn, mJ_sJ, up2_rowL]) (fun b hb => ent_off rfl (up2_off _ _ _ hb) rfl))) hz hS1 hl
theorem wp_zast {a n j : Nat} {i v : Int32} (hd : decode y.2.1 pc = .ok (.bastore, 1)) (ha : xK X a = 13) (hn : xN X a = n) (hb : n < 2147483648) (hj : i = nI j) (hlt : j < n) (kk : Wp G y d mc ms ce sl (pc + 1) lo st X (sI M a j v) Q) : Wp G y d mc ms ce sl pc lo (.int v :: .int i :: .ref a :: st) X M Q := by
  intro p l e s m args below meth c H locs ls hC hR hz hS hl
  obtain ⟨q0, hq⟩ := hR.at (a := a) (by omega)
  have hq2 := hq
  rw [ent_z ha, hn] at hq2
  obtain ⟨h1, h2⟩ := ix_in hj hlt hb
  refine va_zast hC.1 hC.2.1 hC.2.2.2.2.2.2.2.1.1 hR.2.2 (LL_D G X _) hS q0 2 hq2 rfl h1 hd (fun H1 locs1 hP1 _ hS1 => ?_)
  rw [h2] at hP1
  have hrow : (fun k => vp_nar .boolean (mI (sI M a j v) a k)) = upd (fun k => vp_nar .boolean (mI M a k)) j (vp_nar .boolean v) := by
    funext k
    rw [mI_sI, up2_row]
    unfold upd
    by_cases h : k = j <;> simp [h]
  exact kk p l e s m args below meth c H1 locs1 ls hC (hR.set (by omega) hq hP1 (ent_up (by rw [ent_z ha, hn, hrow]) (fun b hb => ent_off (up2_off _ _ _ hb) rfl rfl))) hz hS1 hl
theorem wp_rast {a n j t : Nat} {i : Int32} (hd : decode y.2.1 pc = .ok (.aastore, 1)) (ha : xK X a = 14) (hn : xN X a = n) (hb : n < 2147483648) (hj : i = nI j) (hlt : j < n) (ht : xK X t = 4) (kk : Wp G y d mc ms ce sl (pc + 1) lo st X (sR M a j (some t)) Q) : Wp G y d mc ms ce sl pc lo (.ref t :: .int i :: .ref a :: st) X M Q := by
  intro p l e s m args below meth c H locs ls hC hR hz hS hl
  obtain ⟨q0, hq⟩ := hR.at (a := a) (by omega)
  obtain ⟨q1, hq1⟩ := hR.at (a := t) (by omega)
  have hq2 := hq
  rw [ent_r ha, hn] at hq2
  rw [ent_obj ht (by decide)] at hq1
  obtain ⟨h1, h2⟩ := ix_in hj hlt hb
  refine va_astq (r := (RX4, TX4, 10)) hC.1 hC.2.1 hC.2.2.2.2.2.2.2.1.1 hR.2.2 (LL_D G X _) hS q0 3 q1 4 hq2 rfl hq1 rfl h1 hd (fun H1 locs1 hP1 _ hS1 => ?_)
  rw [h2] at hP1
  exact kk p l e s m args below meth c H1 locs1 ls hC (hR.set (by omega) hq hP1 (ent_up (by rw [ent_r ha, hn, mR_sR, up2_rowR]) (fun b hb => ent_off rfl rfl (up2_off _ _ _ hb)))) hz hS1 hl
theorem wp_ldc {idx : Nat} {v : Int32} (hd : decode y.2.1 pc = .ok (.ldc idx, 2)) (hw : Cond.constant y.1.cls idx v ∈ GW) (kk : Wp G y d mc ms ce sl (pc + 2) lo (.int v :: st) X M Q) : Wp G y d mc ms ce sl pc lo st X M Q :=
  fun p l e s m args below meth c H locs ls hC hR hz hS hl => lv_ldc hC.1 hC.2.1 hC.2.2.2.2.2.1 (hC.2.2.2.2.2.2.1 _ hw) hd (kk p l e s m args below meth c H locs ls hC hR hz hS hl)
theorem wp_ldcw {idx : Nat} {v : Int32} (hd : decode y.2.1 pc = .ok (.ldc_w idx, 3)) (hw : Cond.constant y.1.cls idx v ∈ GW) (kk : Wp G y d mc ms ce sl (pc + 3) lo (.int v :: st) X M Q) : Wp G y d mc ms ce sl pc lo st X M Q :=
  fun p l e s m args below meth c H locs ls hC hR hz hS hl => lv_ldcw hC.1 hC.2.1 hC.2.2.2.2.2.1 (hC.2.2.2.2.2.2.1 _ hw) hd (kk p l e s m args below meth c H locs ls hC hR hz hS hl)
theorem wp_ldc2 {idx : Nat} {v : Int64} (hd : decode y.2.1 pc = .ok (.ldc2_w idx, 3)) (hw : Cond.constantLong y.1.cls idx v ∈ GW) (kk : Wp G y d mc ms ce sl (pc + 3) lo (.long v :: st) X M Q) : Wp G y d mc ms ce sl pc lo st X M Q :=
  fun p l e s m args below meth c H locs ls hC hR hz hS hl => lv_ldc2 hC.1 hC.2.1 hC.2.2.2.2.2.1 (hC.2.2.2.2.2.2.1 _ hw) hd (kk p l e s m args below meth c H locs ls hC hR hz hS hl)
theorem wp_tblIn {dflt tl th : Int} {offs : Array Int} {len : Nat} {x : Int32} {off : Int} {tgt : Nat} (hd : decode y.2.1 pc = .ok (.tableswitch dflt tl th offs, len)) (h1 : ¬ x.toInt < tl) (h2 : ¬ th < x.toInt) (ho : offs[(x.toInt - tl).toNat]? = some off) (ht : (pc : Int) + off = (tgt : Int)) (kk : Wp G y d mc ms ce sl tgt lo st X M Q) : Wp G y d mc ms ce sl pc lo (.int x :: st) X M Q :=
  fun p l e s m args below meth c H locs ls hC hR hz hS hl => lv_tableIn hC.1 hC.2.1 hd h1 h2 ho ht (kk p l e s m args below meth c H locs ls hC hR hz hS hl)
theorem wp_tblOut {dflt tl th : Int} {offs : Array Int} {len : Nat} {x : Int32} {tgt : Nat} (hd : decode y.2.1 pc = .ok (.tableswitch dflt tl th offs, len)) (h : x.toInt < tl ∨ th < x.toInt) (ht : (pc : Int) + dflt = (tgt : Int)) (kk : Wp G y d mc ms ce sl tgt lo st X M Q) : Wp G y d mc ms ce sl pc lo (.int x :: st) X M Q :=
  fun p l e s m args below meth c H locs ls hC hR hz hS hl => lv_tableOut hC.1 hC.2.1 hd h ht (kk p l e s m args below meth c H locs ls hC hR hz hS hl)
theorem wp_lkup {dflt : Int} {ps : Array (Int × Int)} {len : Nat} {x : Int32} {off : Int} {tgt : Nat} (hd : decode y.2.1 pc = .ok (.lookupswitch dflt ps, len)) (hp : (ps.toList.zip (ps.toList.drop 1)).all (fun (a, next) => a.1 < next.1) = true) (ho : Op.lookupswitch.offset ps.toList dflt x.toInt = off) (ht : (pc : Int) + off = (tgt : Int)) (kk : Wp G y d mc ms ce sl tgt lo st X M Q) : Wp G y d mc ms ce sl pc lo (.int x :: st) X M Q :=
  fun p l e s m args below meth c H locs ls hC hR hz hS hl => lv_lookup hC.1 hC.2.1 hd hp ho ht (kk p l e s m args below meth c H locs ls hC hR hz hS hl)
theorem wp_iret {v : Int32} (hd : decode y.2.1 pc = .ok (.ireturn, 1)) (hr : y.2.2.2 = some .int) (h1 : ce = mc) (h2 : sl ≤ ms) (hq : Q X M (some (.int v))) : Wp G y d mc ms ce sl pc lo [.int v] X M Q := by
  intro p l e s m args below meth c H locs ls hC hR hz hS hl
  subst h1
  refine W.sized (fun hsz => ?_)
  have hsz2 := hR.size hz hC.2.2.2.2.2.2.2.2.2.2 hS hsz
  refine W.widen (Nat.le_refl _) h2 ?_
  exact W.iret hC.1 hC.2.1 (hC.2.2.2.1.trans hr) (fun t ht hw => ⟨⟨_, X, M, rfl, hq, by rw [ht]; exact hR, by rw [ht]; exact hsz2⟩, hS.F ht⟩) hS.2.2 hd hC.2.2.2.2.1
theorem wp_zret {v : Int32} (hd : decode y.2.1 pc = .ok (.ireturn, 1)) (hr : y.2.2.2 = some .boolean) (h1 : ce = mc) (h2 : sl ≤ ms) (hv : v = 0 ∨ v = 1) (hq : Q X M (some (.int v))) : Wp G y d mc ms ce sl pc lo [.int v] X M Q := by
  intro p l e s m args below meth c H locs ls hC hR hz hS hl
  subst h1
  refine W.sized (fun hsz => ?_)
  have hsz2 := hR.size hz hC.2.2.2.2.2.2.2.2.2.2 hS hsz
  refine W.widen (Nat.le_refl _) h2 ?_
  exact W.zret hC.1 hC.2.1 (hC.2.2.2.1.trans hr) (by rcases hv with rfl | rfl <;> rfl) (fun t ht hw => ⟨⟨_, X, M, rfl, hq, by rw [ht]; exact hR, by rw [ht]; exact hsz2⟩, hS.F ht⟩) hS.2.2 hd hC.2.2.2.2.1
theorem wp_vret (hd : decode y.2.1 pc = .ok (.return_, 1)) (hr : y.2.2.2 = none) (h1 : ce = mc) (h2 : sl ≤ ms) (hq : Q X M none) : Wp G y d mc ms ce sl pc lo [] X M Q := by
  intro p l e s m args below meth c H locs ls hC hR hz hS hl
  subst h1
  refine W.sized (fun hsz => ?_)
  have hsz2 := hR.size hz hC.2.2.2.2.2.2.2.2.2.2 hS hsz
  refine W.widen (Nat.le_refl _) h2 ?_
  exact W.vret hC.1 hC.2.1 (hC.2.2.2.1.trans hr) (fun t ht hw => ⟨⟨_, X, M, rfl, hq, by rw [ht]; exact hR, by rw [ht]; exact hsz2⟩, hS.F ht⟩) hS.2.2 hd hC.2.2.2.2.1
/-- the words of a call: the pool's entry idx of the class own is the method y2, of n arguments -/
def CK0 (y2 : Md) (n : Nat) : Prop := Cond.initialized y2.1.cls ∈ GW ∧ Cond.code y2.1 y2.2.1 y2.2.2.1 y2.2.2.2 ∈ GW ∧ (y2.1.cls ≠ "java/lang/invoke/MethodHandle" ∧ y2.1.cls ≠ "java/lang/invoke/VarHandle" ∧ (parseMethodDescriptor y2.1.desc).map (fun d => d.parameters.length) = some n) ∧ y2.2.2.1 ≤ 21
def CKs (own : String) (idx : Nat) (y2 : Md) (n : Nat) : Prop := CK0 y2 n ∧ Cond.methodLink own idx y2.1 ∈ GW ∧ Cond.static y2.1 ∈ GW
def CKv (own : String) (idx : Nat) (y2 : Md) (n ci : Nat) : Prop := CK0 y2 n ∧ Cond.methodLink own idx y2.1 ∈ GW ∧ Cond.instanceMethod y2.1 ∈ GW ∧ Cond.selects y2.1.cls y2.1 y2.1 ∈ GW ∧ ci < 11 ∧ ∃ T : u_T, vwCl[ci]? = some (y2.1.cls, T, nFd ci)
def CKi (own : String) (idx : Nat) (y2 : Md) (n : Nat) : Prop := CK0 y2 n ∧ Cond.methodLink own idx y2.1 ∈ GW ∧ Cond.instanceMethod y2.1 ∈ GW ∧ y2.1.name = "<init>" ∧ y2.2.2.2 = none
def CKn (own : String) (idx : Nat) (y2 : Md) (n : Nat) : Prop := CK0 y2 n ∧ (own, idx, y2.1) ∈ NW1 ∧ Cond.static y2.1 ∈ GW
theorem gw_wsm {y2 : Md} (h : Cond.code y2.1 y2.2.1 y2.2.2.1 y2.2.2.2 ∈ GW) : GoodIn GW (wsm y2) := by
  intro w hw
  rcases List.mem_cons.mp hw with rfl | hw
  · exact ⟨h, (gw_good _ h).2⟩
  · exact ⟨hw, (gw_good _ hw).2⟩
theorem rmd_fit {d mc2 ms2 maxL : Nat} (h : maxL ≤ 21) : (rmd d mc2 ms2).frames + 1 ≤ (rmd (d + 1) mc ms).frames ∧ 8 + (maxL + 11) + (rmd d mc2 ms2).locals ≤ (rmd (d + 1) mc ms).locals := by
  constructor
  · exact Nat.le_refl _
  · show 8 + (maxL + 11) + 40 * d ≤ 40 * (d + 1)
    omega
theorem Pc_blind {as : List Value} : FrameBlind (va_Pc as (fun U => KU G U ∧ SE G U U.heap ∧ Rel G X M U.heap ∧ U.heap.size = xz X)) := by
  rintro a U g mk ⟨h1, h2, h3, h4, h5⟩
  exact ⟨h1, KU.same (u := U) rfl h2, SE.moved (u := U) (Vm.Alike.refl U.vm) h3, h4, h5⟩
theorem Pc_of {s : State} {H : Heap} {locs : List Loc} {as : List Value} (hK : KU G s) (hE : SE G s s.heap) (hS : va_S (AA G) s.heap H locs) (hR : Rel G X M H) (hsz : H.size = xz X) (U : State) (hU : U.heap = H) (hW : s.WarmedH U.vm) : va_Pc as (fun U => KU G U ∧ SE G U U.heap ∧ Rel G X M U.heap ∧ U.heap.size = xz X) as.toArray U :=
  ⟨rfl, hK.warm hW, (by rw [hU]; exact (hE.moved hW.alike).kept hS.2.1), by rw [hU]; exact hR, by rw [hU]; exact hsz⟩
/-- behind a call -/
theorem wp_back {p : Program} {l : Launch} {e : Env} {s : State} {m : MethodId} {args : Array Value} {below : List Frame} {meth : Method} {c : Code} {H : Heap} {locs : List Loc} {ls : Array Slot} {a : Array Value} {rest st0 : List Value} {mc2 ms2 : Nat} {Q1 : Sh → Mm → Option Value → Prop}
    (hC : Cx G y p s m args meth c) (hz : xz X = s.heap.size + ce) (hS : va_S (AA G) s.heap H locs) (hl : lv_has ls y.2.2.1 lo)
    (hr : va_Run p l e (rmd d mc ms) s m args below meth c H locs ce sl mc2 ms2 (F0 m pc ls st0) rest (Qm G Q1 a) (AA G)) (hzz : ∀ X' M' v, Q1 X' M' v → xz X' = xz X + mc2)
    (kk : ∀ X' M' v, Q1 X' M' v → Wp G y d mc ms (ce + mc2) (sl + ms2) (pc + 3) lo (v.toList ++ rest) X' M' Q) : W p l e (rmd d mc ms) s m args below meth c H locs ce sl (MQ below (Qm G Q) args s mc ms (AA G)) (F0 m pc ls st0) := by
  intro T hT X0
  obtain ⟨v, st₀, t, T', L, h0, X', hL, e1, e2, ⟨⟨v1, X1, M1, hv, hq, hR1, hs1⟩, hF⟩, hst⟩ := hr T hT X0
  cases hv
  obtain ⟨hF1, hF2⟩ := hF
  rw [h0] at hF1 hF2
  have hS1 : va_S (AA G) s.heap T'.heap (locs ++ L) := ⟨Nat.le_trans hS.1 (by rw [e1]; exact hF1), fun q h1 h2 => by rw [e1, hF2 q (Nat.lt_of_lt_of_le h1 hS.1) h2]; exact hS.2.1 q h1 h2, fun q hq => by
    rcases List.mem_append.mp hq with h | h
    · exact hS.2.2 q h
    · exact hL q h⟩
  obtain ⟨t2, a1, b1⟩ := kk X1 M1 v hq p l e s m args below meth c T'.heap (locs ++ L) ls hC (by rw [e1]; exact hR1) (by rw [hzz X1 M1 v hq, hz, Nat.add_assoc]) hS1 hl T' rfl X'
  exact ⟨t2, hst t2 a1, b1⟩
theorem wp_callS {y2 : Md} {n idx mc2 ms2 : Nat} {as rest : List Value} {Q1 : Sh → Mm → Option Value → Prop} (hd : decode y.2.1 pc = .ok (.invokestatic idx, 3)) (hw : CKs y.1.cls idx y2 n) (hn : as.length = n) (hst : st = as.reverse ++ rest) (hc8 : (rest.map fun v => v.category).sum ≤ 8) (h1 : ce + mc2 ≤ mc) (h2 : sl + ms2 ≤ ms) (hM : Cl G y2 d mc2 ms2 as X M Q1) (hzz : ∀ X' M' v, Q1 X' M' v → xz X' = xz X + mc2)
    (kk : ∀ X' M' v, Q1 X' M' v → Wp G y (d + 1) mc ms (ce + mc2) (sl + ms2) (pc + 3) lo (v.toList ++ rest) X' M' Q) : Wp G y (d + 1) mc ms ce sl pc lo st X M Q := by
  intro p l e s m args below meth c H locs ls hC hR hz hS hl
  subst hst
  have hts := hC.2.2.2.2.2.2.1
  obtain ⟨⟨hi, hcd, hdd, h21⟩, hl1, hst⟩ := hw
  refine W.sized (fun hsz => ?_)
  have hsz2 := hR.size hz hC.2.2.2.2.2.2.2.2.2.2 hS hsz
  refine wp_back hC hz hS hl (va_runS (bytes := y2.2.1) (maxL := y2.2.2.1) (ret := y2.2.2.2) (n := n) (nL := y.2.2.1) (Ts := GW) ⟨hC.1, hC.2.1, hC.2.2.1, hC.2.2.2.2.2.1, hts⟩ (hM l) ⟨callB_of n hts (gw_wsm hcd) rfl rfl rfl (hts _ hi) (hts _ hl1) hdd (rmd_fit h21), hts _ hst⟩ ⟨Pc_blind, Pc_of hC.2.2.2.2.2.2.2.1 hC.2.2.2.2.2.2.2.2.1 hS hR hsz2⟩ rfl hn hl.1 rfl (lv_room hc8) hd ⟨h1, h2⟩) hzz kk
theorem wp_callN {y2 : Md} {n idx mc2 ms2 : Nat} {as rest : List Value} {Q1 : Sh → Mm → Option Value → Prop} (hd : decode y.2.1 pc = .ok (.invokestatic idx, 3)) (hw : CKn y.1.cls idx y2 n) (hn : as.length = n) (hst : st = as.reverse ++ rest) (hc8 : (rest.map fun v => v.category).sum ≤ 8) (h1 : ce + mc2 ≤ mc) (h2 : sl + ms2 ≤ ms) (hM : Cl G y2 d mc2 ms2 as X M Q1) (hzz : ∀ X' M' v, Q1 X' M' v → xz X' = xz X + mc2)
    (kk : ∀ X' M' v, Q1 X' M' v → Wp G y (d + 1) mc ms (ce + mc2) (sl + ms2) (pc + 3) lo (v.toList ++ rest) X' M' Q) : Wp G y (d + 1) mc ms ce sl pc lo st X M Q := by
  intro p l e s m args below meth c H locs ls hC hR hz hS hl
  subst hst
  have hts := hC.2.2.2.2.2.2.1
  obtain ⟨⟨hi, hcd, hdd, h21⟩, hnw, hst⟩ := hw
  refine W.sized (fun hsz => ?_)
  have hsz2 := hR.size hz hC.2.2.2.2.2.2.2.2.2.2 hS hsz
  have hnl : va_Nw (.methodLinkNest y.1.cls idx y2.1 "BurdenHouse") s := hC.2.2.2.2.2.2.2.1.2.1 _ hnw
  refine wp_back hC hz hS hl (va_runSN (host := "BurdenHouse") (bytes := y2.2.1) (maxL := y2.2.2.1) (ret := y2.2.2.2) (n := n) (nL := y.2.2.1) (Ts := GW) ⟨hC.1, hC.2.1, hC.2.2.1, hC.2.2.2.2.2.1, hts⟩ (hM l) ⟨va_cnB n hts (gw_wsm hcd) rfl rfl rfl hnl (hts _ hi) hdd (rmd_fit h21), hts _ hst, trivial⟩ ⟨Pc_blind, Pc_of hC.2.2.2.2.2.2.2.1 hC.2.2.2.2.2.2.2.2.1 hS hR hsz2⟩ rfl hn hl.1 rfl (lv_room hc8) hd ⟨h1, h2⟩) hzz kk
theorem wp_callI {y2 : Md} {n idx mc2 ms2 b : Nat} {as rest : List Value} {Q1 : Sh → Mm → Option Value → Prop} (hd : decode y.2.1 pc = .ok (.invokespecial idx, 3)) (hw : CKi y.1.cls idx y2 n) (hn : as.length = n) (hst : st = as.reverse ++ .ref b :: rest) (hc8 : (rest.map fun v => v.category).sum ≤ 8) (h1 : ce + mc2 ≤ mc) (h2 : sl + ms2 ≤ ms) (hM : Cl G y2 d mc2 ms2 (.ref b :: as) X M Q1) (hzz : ∀ X' M' v, Q1 X' M' v → xz X' = xz X + mc2)
    (kk : ∀ X' M' v, Q1 X' M' v → Wp G y (d + 1) mc ms (ce + mc2) (sl + ms2) (pc + 3) lo (v.toList ++ rest) X' M' Q) : Wp G y (d + 1) mc ms ce sl pc lo st X M Q := by
  intro p l e s m args below meth c H locs ls hC hR hz hS hl
  subst hst
  have hts := hC.2.2.2.2.2.2.1
  obtain ⟨⟨hi, hcd, hdd, h21⟩, hl1, hins, hnm, hret⟩ := hw
  refine W.sized (fun hsz => ?_)
  have hsz2 := hR.size hz hC.2.2.2.2.2.2.2.2.2.2 hS hsz
  have hg := gw_wsm hcd
  have hfit := rmd_fit (mc := mc) (ms := ms) (d := d) (mc2 := mc2) (ms2 := ms2) h21
  rw [hret] at hcd
  refine wp_back hC hz hS hl (va_runI (bytes := y2.2.1) (maxL := y2.2.2.1) (n := n) (nL := y.2.2.1) (Ts := GW) ⟨hC.1, hC.2.1, hC.2.2.1, hC.2.2.2.2.2.1, hts⟩ (hM l) ⟨callB_of n hts hg (by rw [wsm, hret]) rfl rfl (hts _ hi) (hts _ hl1) hdd hfit, hnm, hts _ hins⟩ ⟨Pc_blind, Pc_of hC.2.2.2.2.2.2.2.1 hC.2.2.2.2.2.2.2.2.1 hS hR hsz2⟩ rfl hn hl.1 rfl (lv_room hc8) hd ⟨h1, h2⟩) hzz kk
theorem wp_callV {y2 : Md} {n ci idx mc2 ms2 b : Nat} {as rest : List Value} {Q1 : Sh → Mm → Option Value → Prop} (hd : decode y.2.1 pc = .ok (.invokevirtual idx, 3)) (hw : CKv y.1.cls idx y2 n ci) (hb : xK X b = ci) (hn : as.length = n) (hst : st = as.reverse ++ .ref b :: rest) (hc8 : (rest.map fun v => v.category).sum ≤ 8) (h1 : ce + mc2 ≤ mc) (h2 : sl + ms2 ≤ ms) (hM : Cl G y2 d mc2 ms2 (.ref b :: as) X M Q1) (hzz : ∀ X' M' v, Q1 X' M' v → xz X' = xz X + mc2)
    (kk : ∀ X' M' v, Q1 X' M' v → Wp G y (d + 1) mc ms (ce + mc2) (sl + ms2) (pc + 3) lo (v.toList ++ rest) X' M' Q) : Wp G y (d + 1) mc ms ce sl pc lo st X M Q := by
  intro p l e s m args below meth c H locs ls hC hR hz hS hl
  subst hst
  have hts := hC.2.2.2.2.2.2.1
  obtain ⟨⟨hi, hcd, hdd, h21⟩, hl1, hins, hsel, hci, T, hcl⟩ := hw
  refine W.sized (fun hsz => ?_)
  have hsz2 := hR.size hz hC.2.2.2.2.2.2.2.2.2.2 hS hsz
  obtain ⟨q0, cell, hq, h3, h4, h5, h6⟩ := hR.obj hb hci hcl
  obtain ⟨hSl, hfc, kC, hkC, hkind⟩ := hC.2.2.2.2.2.2.2.1.1.1 ci _ hcl
  refine wp_back hC hz hS hl (va_runV (bytes := y2.2.1) (maxL := y2.2.2.1) (ret := y2.2.2.2) (n := n) (nL := y.2.2.1) (Ts := GW) (C := y2.1.cls) ⟨hC.1, hC.2.1, hC.2.2.1, hC.2.2.2.2.2.1, hts⟩ (hM l) ⟨callB_of n hts (gw_wsm hcd) rfl rfl rfl (hts _ hi) (hts _ hl1) hdd (rmd_fit h21), hts _ hins, hts _ hsel⟩ ⟨Pc_blind, ⟨cell, h3, by rw [h5]; rfl, by rw [h4]; exact hfc⟩, Pc_of hC.2.2.2.2.2.2.2.1 hC.2.2.2.2.2.2.2.2.1 hS hR hsz2⟩ rfl hn hl.1 rfl (lv_room hc8) hd ⟨h1, h2⟩) hzz kk
theorem wp_objInit {idx b : Nat} {rest : List Value} (hd : decode y.2.1 pc = .ok (.invokespecial idx, 3)) (hw : Cond.methodLink y.1.cls idx Lib.objectInit ∈ GW) (hw2 : Cond.instanceMethod Lib.objectInit ∈ GW) (hw3 : Cond.code Lib.objectInit ⟨#[0xb1]⟩ 1 none ∈ GW) (hc8 : (rest.map fun v => v.category).sum ≤ 8) (kk : Wp G y (d + 1) mc ms ce sl (pc + 3) lo rest X M Q) : Wp G y (d + 1) mc ms ce sl pc lo (.ref b :: rest) X M Q := by
  intro p l e s m args below meth c H locs ls hC hR hz hS hl
  have hts := hC.2.2.2.2.2.2.1
  refine W.objInit hC.1 hC.2.1 hC.2.2.2.2.2.1 (hts _ hw) (hts _ hw2) (hts _ hw3) rfl (hl.1.trans hC.2.2.1.symm) rfl hd ?_ ?_ (kk p l e s m args below meth c H locs ls hC hR hz hS hl)
  · show 1 ≤ d + 1
    omega
  · have := lv_room (m := m) (pc := pc) (ls := ls) (rest := .ref b :: rest) hc8
    show _ ≤ 40 * (d + 1)
    omega
theorem rmd_1 : 1 ≤ (rmd (d + 1) mc ms).frames := by
  show 1 ≤ d + 1
  omega
theorem rmd_l {k : Nat} (h : k ≤ 40) : k ≤ (rmd (d + 1) mc ms).locals := by
  show k ≤ 40 * (d + 1)
  omega
theorem wp_mmax {idx : Nat} {x1 y1 : Int32} {rest : List Value} (hd : decode y.2.1 pc = .ok (.invokestatic idx, 3)) (hw : Cond.methodLink y.1.cls idx Lib.Math.max.name ∈ GW) (hw2 : Cond.static Lib.Math.max.name ∈ GW) (hw3 : Cond.initialized "java/lang/Math" ∈ GW) (hw4 : Cond.code Lib.Math.max.name Lib.Math.max.code 2 (some .int) ∈ GW) (hc8 : (rest.map fun v => v.category).sum ≤ 8) (h1 : ce ≤ mc) (h2 : sl ≤ ms) (kk : Wp G y (d + 1) mc ms ce sl (pc + 3) lo (.int (if x1 < y1 then y1 else x1) :: rest) X M Q) : Wp G y (d + 1) mc ms ce sl pc lo (.int y1 :: .int x1 :: rest) X M Q := by
  intro p l e s m args below meth c H locs ls hC hR hz hS hl
  have hts := hC.2.2.2.2.2.2.1
  exact va_mmax hC.1 hC.2.1 (hC.2.2.1.trans hl.1.symm) hC.2.2.2.2.2.1 (hts _ hw) (hts _ hw2) (hts _ hw3) (hts _ hw4) rmd_1 (rmd_l (by omega)) h1 h2 hd (kk p l e s m args below meth c H locs ls hC hR hz hS hl)
theorem wp_mmin {idx : Nat} {x1 y1 : Int32} {rest : List Value} (hd : decode y.2.1 pc = .ok (.invokestatic idx, 3)) (hw : Cond.methodLink y.1.cls idx Lib.Math.min.name ∈ GW) (hw2 : Cond.static Lib.Math.min.name ∈ GW) (hw3 : Cond.initialized "java/lang/Math" ∈ GW) (hw4 : Cond.code Lib.Math.min.name Lib.Math.min.code 2 (some .int) ∈ GW) (hc8 : (rest.map fun v => v.category).sum ≤ 8) (h1 : ce ≤ mc) (h2 : sl ≤ ms) (kk : Wp G y (d + 1) mc ms ce sl (pc + 3) lo (.int (if y1 < x1 then y1 else x1) :: rest) X M Q) : Wp G y (d + 1) mc ms ce sl pc lo (.int y1 :: .int x1 :: rest) X M Q := by
  intro p l e s m args below meth c H locs ls hC hR hz hS hl
  have hts := hC.2.2.2.2.2.2.1
  exact va_mmin hC.1 hC.2.1 (hC.2.2.1.trans hl.1.symm) hC.2.2.2.2.2.1 (hts _ hw) (hts _ hw2) (hts _ hw3) (hts _ hw4) rmd_1 (rmd_l (by omega)) h1 h2 hd (kk p l e s m args below meth c H locs ls hC hR hz hS hl)
theorem wp_mabs {idx : Nat} {x1 : Int32} {rest : List Value} (hd : decode y.2.1 pc = .ok (.invokestatic idx, 3)) (hw : Cond.methodLink y.1.cls idx Lib.Math.abs.name ∈ GW) (hw2 : Cond.static Lib.Math.abs.name ∈ GW) (hw3 : Cond.initialized "java/lang/Math" ∈ GW) (hw4 : Cond.code Lib.Math.abs.name Lib.Math.abs.code 1 (some .int) ∈ GW) (hc8 : (rest.map fun v => v.category).sum ≤ 8) (h1 : ce ≤ mc) (h2 : sl ≤ ms) (kk : Wp G y (d + 1) mc ms ce sl (pc + 3) lo (.int (if 0 ≤ x1 then x1 else 0 - x1) :: rest) X M Q) : Wp G y (d + 1) mc ms ce sl pc lo (.int x1 :: rest) X M Q := by
  intro p l e s m args below meth c H locs ls hC hR hz hS hl
  have hts := hC.2.2.2.2.2.2.1
  exact va_mabs hC.1 hC.2.1 (hC.2.2.1.trans hl.1.symm) hC.2.2.2.2.2.1 (hts _ hw) (hts _ hw2) (hts _ hw3) (hts _ hw4) rmd_1 (rmd_l (by omega)) h1 h2 hd (kk p l e s m args below meth c H locs ls hC hR hz hS hl)
/-- many places of one row of ints come to another (or the same), as they were -/
def sC (M : Mm) (a0 sp a dp n : Nat) : Mm := (fun b => if b = a then va_cpy (mI M a0) (mI M a) sp dp n else mI M b, mJ M, mR M)
theorem sC_row (M : Mm) (a0 sp a dp n : Nat) : mI (sC M a0 sp a dp n) a = va_cpy (mI M a0) (mI M a) sp dp n := by simp [sC, mI]
theorem sC_off (M : Mm) (a0 sp a dp n : Nat) {b : Nat} (h : b ≠ a) : mI (sC M a0 sp a dp n) b = mI M b := by simp [sC, mI, h]
theorem mJ_sC (M : Mm) (a0 sp a dp n : Nat) : mJ (sC M a0 sp a dp n) = mJ M := rfl
theorem mR_sC (M : Mm) (a0 sp a dp n : Nat) : mR (sC M a0 sp a dp n) = mR M := rfl
def CKc (own : String) (idx : Nat) : Prop := Cond.methodLink own idx arraycopyName ∈ GW ∧ Cond.native arraycopyName ∈ GW ∧ Cond.static arraycopyName ∈ GW ∧ Cond.initialized "java/lang/System" ∈ GW
theorem wp_copy {idx a a0 n0 n1 i k j : Nat} {sp dp n : Int32} {rest : List Value} (hd : decode y.2.1 pc = .ok (.invokestatic idx, 3)) (hw : CKc y.1.cls idx) (ha0 : xK X a0 = 11) (ha : xK X a = 11) (hn0 : xN X a0 = n0) (hn1 : xN X a = n1) (hb0 : n0 < 2147483648) (hb1 : n1 < 2147483648) (hsp : sp = nI i) (hdp : dp = nI k) (hn : n = nI j) (h4 : i + j ≤ n0) (h5 : k + j ≤ n1) (hc8 : (rest.map fun v => v.category).sum ≤ 8)
    (kk : Wp G y (d + 1) mc ms ce sl (pc + 3) lo rest X (sC M a0 i a k j) Q) : Wp G y (d + 1) mc ms ce sl pc lo (.int n :: .int dp :: .ref a :: .int sp :: .ref a0 :: rest) X M Q := by
  intro p l e s m args below meth c H locs ls hC hR hz hS hl
  have hts := hC.2.2.2.2.2.2.1
  obtain ⟨q0, hq0⟩ := hR.at (a := a0) (by omega)
  obtain ⟨q1, hq1⟩ := hR.at (a := a) (by omega)
  have hq2 := hq1
  rw [ent_i ha0, hn0] at hq0
  rw [ent_i ha, hn1] at hq2
  subst hsp
  subst hdp
  subst hn
  have c1 : (nI i).toNatClampNeg = i := nI_clamp (by omega)
  have c2 : (nI k).toNatClampNeg = k := nI_clamp (by omega)
  have c3 : (nI j).toNatClampNeg = j := nI_clamp (by omega)
  refine va_copyi (ty := .int) hC.1 hC.2.1 (hC.2.2.1.trans hl.1.symm) hC.2.2.2.2.2.1 (hts _ hw.1) (hts _ hw.2.1) (hts _ hw.2.2.1) (hts _ hw.2.2.2) hC.2.2.2.2.2.2.2.1.1 hR.2.2 (LL_D G X _) hS q0 q1 0 0 hq0 hq2 rfl rfl rfl (nI_pos (by omega)) (nI_pos (by omega)) (nI_pos (by omega)) (by rw [c1, c3]; exact h4) (by rw [c2, c3]; exact h5) (fun _ _ => rfl) rmd_1 (rmd_l ?_) hd (fun H1 locs1 hP1 _ hS1 => ?_)
  · have : nativeFrameWords "java/lang/System" "arraycopy" 5 = 7 := by decide +kernel
    omega
  · rw [c1, c2, c3] at hP1
    exact kk p l e s m args below meth c H1 locs1 ls hC (hR.set (by omega) hq1 hP1 (ent_up (by rw [ent_i ha, hn1, sC_row]) (fun b hb => ent_off (sC_off _ _ _ _ _ _ hb) rfl rfl))) hz hS1 hl
theorem z1_fit (x : Int32) : fits .boolean (.int (vp_nar .boolean x)) = true := by
  have h : vp_nar .boolean x = x &&& 1 := rfl
  rw [h]
  obtain ⟨j, hj, e⟩ := pk_andE x (m := 1) 1 (by decide)
  rw [e]
  match j, hj with
  | 0, _ => rfl
  | 1, _ => rfl
theorem wp_copyZ {idx a a0 n0 n1 i k j : Nat} {sp dp n : Int32} {rest : List Value} (hd : decode y.2.1 pc = .ok (.invokestatic idx, 3)) (hw : CKc y.1.cls idx) (ha0 : xK X a0 = 13) (ha : xK X a = 13) (hn0 : xN X a0 = n0) (hn1 : xN X a = n1) (hb0 : n0 < 2147483648) (hb1 : n1 < 2147483648) (hsp : sp = nI i) (hdp : dp = nI k) (hn : n = nI j) (h4 : i + j ≤ n0) (h5 : k + j ≤ n1) (hc8 : (rest.map fun v => v.category).sum ≤ 8)
    (kk : Wp G y (d + 1) mc ms ce sl (pc + 3) lo rest X (sC M a0 i a k j) Q) : Wp G y (d + 1) mc ms ce sl pc lo (.int n :: .int dp :: .ref a :: .int sp :: .ref a0 :: rest) X M Q := by
  intro p l e s m args below meth c H locs ls hC hR hz hS hl
  have hts := hC.2.2.2.2.2.2.1
  obtain ⟨q0, hq0⟩ := hR.at (a := a0) (by omega)
  obtain ⟨q1, hq1⟩ := hR.at (a := a) (by omega)
  have hq2 := hq1
  rw [ent_z ha0, hn0] at hq0
  rw [ent_z ha, hn1] at hq2
  subst hsp
  subst hdp
  subst hn
  have c1 : (nI i).toNatClampNeg = i := nI_clamp (by omega)
  have c2 : (nI k).toNatClampNeg = k := nI_clamp (by omega)
  have c3 : (nI j).toNatClampNeg = j := nI_clamp (by omega)
  refine va_copyi (ty := .boolean) hC.1 hC.2.1 (hC.2.2.1.trans hl.1.symm) hC.2.2.2.2.2.1 (hts _ hw.1) (hts _ hw.2.1) (hts _ hw.2.2.1) (hts _ hw.2.2.2) hC.2.2.2.2.2.2.2.1.1 hR.2.2 (LL_D G X _) hS q0 q1 2 2 hq0 hq2 rfl rfl rfl (nI_pos (by omega)) (nI_pos (by omega)) (nI_pos (by omega)) (by rw [c1, c3]; exact h4) (by rw [c2, c3]; exact h5) (fun _ _ => z1_fit _) rmd_1 (rmd_l ?_) hd (fun H1 locs1 hP1 _ hS1 => ?_)
  · have : nativeFrameWords "java/lang/System" "arraycopy" 5 = 7 := by decide +kernel
    omega
  · rw [c1, c2, c3] at hP1
    have hrow : (fun q => vp_nar .boolean (mI (sC M a0 i a k j) a q)) = va_cpy (fun q => vp_nar .boolean (mI M a0 q)) (fun q => vp_nar .boolean (mI M a q)) i k j := by
      funext q
      rw [sC_row]
      unfold va_cpy
      by_cases h : k ≤ q ∧ q < k + j <;> simp [h]
    exact kk p l e s m args below meth c H1 locs1 ls hC (hR.set (by omega) hq1 hP1 (ent_up (by rw [ent_z ha, hn1, hrow]) (fun b hb => ent_off (sC_off _ _ _ _ _ _ hb) rfl rfl))) hz hS1 hl
/-- the two static rows -/
theorem wp_areas {idx : Nat} (hd : decode y.2.1 pc = .ok (.getstatic idx, 3)) (hw : Cond.fieldLink y.1.cls idx "BurdenHouse$Furnace" "AREAS" "[I" ∈ GW) (kk : Wp G y d mc ms ce sl (pc + 3) lo (.ref (G.2 8) :: st) X M Q) : Wp G y d mc ms ce sl pc lo st X M Q := by
  intro p l e s m args below meth c H locs ls hC hR hz hS hl
  exact va_gets hC.1 hC.2.1 hC.2.2.2.2.2.2.2.2.1.1 hS hC.2.2.2.2.2.1 (hC.2.2.2.2.2.2.1 _ hw) (fun _ h => h) hd (kk p l e s m args below meth c H locs ls hC hR hz hS hl)
theorem wp_areaAt {j : Nat} {i : Int32} (hd : decode y.2.1 pc = .ok (.iaload, 1)) (hj : i = nI j) (hlt : j < 5) (kk : Wp G y d mc ms ce sl (pc + 1) lo (.int (areaV j) :: st) X M Q) : Wp G y d mc ms ce sl pc lo (.int i :: .ref (G.2 8) :: st) X M Q := by
  intro p l e s m args below meth c H locs ls hC hR hz hS hl
  obtain ⟨h1, h2⟩ := ix_in hj hlt (by omega)
  refine va_ti hC.1 hC.2.1 hC.2.2.2.2.2.2.2.2.1.2.1 hS h1 (v := .int (areaV j)) (by rw [h2]) hd (kk p l e s m args below meth c H locs ls hC hR hz hS hl)
theorem wp_above {idx : Nat} (hd : decode y.2.1 pc = .ok (.getstatic idx, 3)) (hw : Cond.fieldLink y.1.cls idx "BurdenHouse$Stuff" "ABOVE" "[I" ∈ GW) (kk : Wp G y d mc ms ce sl (pc + 3) lo (.ref (G.2 9) :: st) X M Q) : Wp G y d mc ms ce sl pc lo st X M Q := by
  intro p l e s m args below meth c H locs ls hC hR hz hS hl
  exact va_gets hC.1 hC.2.1 hC.2.2.2.2.2.2.2.2.1.2.2.1 hS hC.2.2.2.2.2.1 (hC.2.2.2.2.2.2.1 _ hw) (fun _ h => h) hd (kk p l e s m args below meth c H locs ls hC hR hz hS hl)
theorem wp_aboveAt {j : Nat} {i : Int32} (hd : decode y.2.1 pc = .ok (.iaload, 1)) (hj : i = nI j) (hlt : j < 6) (kk : Wp G y d mc ms ce sl (pc + 1) lo (.int (aboveV j) :: st) X M Q) : Wp G y d mc ms ce sl pc lo (.int i :: .ref (G.2 9) :: st) X M Q := by
  intro p l e s m args below meth c H locs ls hC hR hz hS hl
  obtain ⟨h1, h2⟩ := ix_in hj hlt (by omega)
  refine va_ti hC.1 hC.2.1 hC.2.2.2.2.2.2.2.2.1.2.2.2.1 hS h1 (v := .int (aboveV j)) (by rw [h2]) hd (kk p l e s m args below meth c H locs ls hC hR hz hS hl)
end ROWS
end
section
/-! the shape of each class's objects: where their rows and parts lie -/
def Sh0 (X : Sh) (a : Nat) : Prop := (xK X a = 0) ∧ (xF X a 0 = some (a + 1)) ∧ (xK X (a + 1) = 11) ∧ (xN X (a + 1) = 6) ∧ (xF X a 1 = some (a + 2)) ∧ (xK X (a + 2) = 11) ∧ (xN X (a + 2) = 6) ∧ (xF X a 2 = some (a + 3)) ∧ (xK X (a + 3) = 11) ∧ (xN X (a + 3) = 6) ∧ (xF X a 3 = some (a + 4)) ∧ (xK X (a + 4) = 11) ∧ (xN X (a + 4) = 6) ∧ (xF X a 4 = some (a + 5)) ∧ (xK X (a + 5) = 11) ∧ (xN X (a + 5) = 6) ∧ (xF X a 6 = some (a + 6)) ∧ (xK X (a + 6) = 11) ∧ (xN X (a + 6) = 3)
theorem sh0_K {X : Sh} {a : Nat} (h : Sh0 X a) : xK X a = 0 := h.1
theorem sh0_F_kind {X : Sh} {a : Nat} (h : Sh0 X a) : xF X a 0 = some (a + 1) := h.2.1
theorem sh0_K_kind {X : Sh} {a : Nat} (h : Sh0 X a) : xK X (a + 1) = 11 := h.2.2.1
theorem sh0_N_kind {X : Sh} {a : Nat} (h : Sh0 X a) : xN X (a + 1) = 6 := h.2.2.2.1
theorem sh0_F_share {X : Sh} {a : Nat} (h : Sh0 X a) : xF X a 1 = some (a + 2) := h.2.2.2.2.1
theorem sh0_K_share {X : Sh} {a : Nat} (h : Sh0 X a) : xK X (a + 2) = 11 := h.2.2.2.2.2.1
theorem sh0_N_share {X : Sh} {a : Nat} (h : Sh0 X a) : xN X (a + 2) = 6 := h.2.2.2.2.2.2.1
theorem sh0_F_price {X : Sh} {a : Nat} (h : Sh0 X a) : xF X a 2 = some (a + 3) := h.2.2.2.2.2.2.2.1
theorem sh0_K_price {X : Sh} {a : Nat} (h : Sh0 X a) : xK X (a + 3) = 11 := h.2.2.2.2.2.2.2.2.1
theorem sh0_N_price {X : Sh} {a : Nat} (h : Sh0 X a) : xN X (a + 3) = 6 := h.2.2.2.2.2.2.2.2.2.1
theorem sh0_F_tons {X : Sh} {a : Nat} (h : Sh0 X a) : xF X a 3 = some (a + 4) := h.2.2.2.2.2.2.2.2.2.2.1
theorem sh0_K_tons {X : Sh} {a : Nat} (h : Sh0 X a) : xK X (a + 4) = 11 := h.2.2.2.2.2.2.2.2.2.2.2.1
theorem sh0_N_tons {X : Sh} {a : Nat} (h : Sh0 X a) : xN X (a + 4) = 6 := h.2.2.2.2.2.2.2.2.2.2.2.2.1
theorem sh0_F_turns {X : Sh} {a : Nat} (h : Sh0 X a) : xF X a 4 = some (a + 5) := h.2.2.2.2.2.2.2.2.2.2.2.2.2.1
theorem sh0_K_turns {X : Sh} {a : Nat} (h : Sh0 X a) : xK X (a + 5) = 11 := h.2.2.2.2.2.2.2.2.2.2.2.2.2.2.1
theorem sh0_N_turns {X : Sh} {a : Nat} (h : Sh0 X a) : xN X (a + 5) = 6 := h.2.2.2.2.2.2.2.2.2.2.2.2.2.2.2.1
theorem sh0_F_told {X : Sh} {a : Nat} (h : Sh0 X a) : xF X a 6 = some (a + 6) := h.2.2.2.2.2.2.2.2.2.2.2.2.2.2.2.2.1
theorem sh0_K_told {X : Sh} {a : Nat} (h : Sh0 X a) : xK X (a + 6) = 11 := h.2.2.2.2.2.2.2.2.2.2.2.2.2.2.2.2.2.1
theorem sh0_N_told {X : Sh} {a : Nat} (h : Sh0 X a) : xN X (a + 6) = 3 := h.2.2.2.2.2.2.2.2.2.2.2.2.2.2.2.2.2.2
def Sh4 (X : Sh) (a : Nat) : Prop := (xK X a = 4) ∧ (xF X a 9 = some (a + 1)) ∧ (xK X (a + 1) = 11) ∧ (xN X (a + 1) = 5)
theorem sh4_K {X : Sh} {a : Nat} (h : Sh4 X a) : xK X a = 4 := h.1
theorem sh4_F_inRing {X : Sh} {a : Nat} (h : Sh4 X a) : xF X a 9 = some (a + 1) := h.2.1
theorem sh4_K_inRing {X : Sh} {a : Nat} (h : Sh4 X a) : xK X (a + 1) = 11 := h.2.2.1
theorem sh4_N_inRing {X : Sh} {a : Nat} (h : Sh4 X a) : xN X (a + 1) = 5 := h.2.2.2
def Sh3 (X : Sh) (a : Nat) : Prop := (xK X a = 3) ∧ (xF X a 0 = some (a + 1)) ∧ (xK X (a + 1) = 11) ∧ (xN X (a + 1) = 6) ∧ (xF X a 1 = some (a + 2)) ∧ (xK X (a + 2) = 11) ∧ (xN X (a + 2) = 6)
theorem sh3_K {X : Sh} {a : Nat} (h : Sh3 X a) : xK X a = 3 := h.1
theorem sh3_F_cap {X : Sh} {a : Nat} (h : Sh3 X a) : xF X a 0 = some (a + 1) := h.2.1
theorem sh3_K_cap {X : Sh} {a : Nat} (h : Sh3 X a) : xK X (a + 1) = 11 := h.2.2.1
theorem sh3_N_cap {X : Sh} {a : Nat} (h : Sh3 X a) : xN X (a + 1) = 6 := h.2.2.2.1
theorem sh3_F_ready {X : Sh} {a : Nat} (h : Sh3 X a) : xF X a 1 = some (a + 2) := h.2.2.2.2.1
theorem sh3_K_ready {X : Sh} {a : Nat} (h : Sh3 X a) : xK X (a + 2) = 11 := h.2.2.2.2.2.1
theorem sh3_N_ready {X : Sh} {a : Nat} (h : Sh3 X a) : xN X (a + 2) = 6 := h.2.2.2.2.2.2
def Sh5 (X : Sh) (a : Nat) : Prop := (xK X a = 5) ∧ (xF X a 2 = some (a + 1)) ∧ (xK X (a + 1) = 11) ∧ (xN X (a + 1) = 24) ∧ (xF X a 3 = some (a + 2)) ∧ (xK X (a + 2) = 13) ∧ (xN X (a + 2) = 24)
theorem sh5_K {X : Sh} {a : Nat} (h : Sh5 X a) : xK X a = 5 := h.1
theorem sh5_F_values {X : Sh} {a : Nat} (h : Sh5 X a) : xF X a 2 = some (a + 1) := h.2.1
theorem sh5_K_values {X : Sh} {a : Nat} (h : Sh5 X a) : xK X (a + 1) = 11 := h.2.2.1
theorem sh5_N_values {X : Sh} {a : Nat} (h : Sh5 X a) : xN X (a + 1) = 24 := h.2.2.2.1
theorem sh5_F_lost {X : Sh} {a : Nat} (h : Sh5 X a) : xF X a 3 = some (a + 2) := h.2.2.2.2.1
theorem sh5_K_lost {X : Sh} {a : Nat} (h : Sh5 X a) : xK X (a + 2) = 13 := h.2.2.2.2.2.1
theorem sh5_N_lost {X : Sh} {a : Nat} (h : Sh5 X a) : xN X (a + 2) = 24 := h.2.2.2.2.2.2
def Sh7 (X : Sh) (a : Nat) : Prop := (xK X a = 7) ∧ (xF X a 0 = some (a + 1)) ∧ (xK X (a + 1) = 11) ∧ (xN X (a + 1) = 96) ∧ (xF X a 9 = some (a + 2)) ∧ (xK X (a + 2) = 11) ∧ (xN X (a + 2) = 96) ∧ (xF X a 11 = some (a + 3)) ∧ (xK X (a + 3) = 11) ∧ (xN X (a + 3) = 96)
theorem sh7_K {X : Sh} {a : Nat} (h : Sh7 X a) : xK X a = 7 := h.1
theorem sh7_F_bytes {X : Sh} {a : Nat} (h : Sh7 X a) : xF X a 0 = some (a + 1) := h.2.1
theorem sh7_K_bytes {X : Sh} {a : Nat} (h : Sh7 X a) : xK X (a + 1) = 11 := h.2.2.1
theorem sh7_N_bytes {X : Sh} {a : Nat} (h : Sh7 X a) : xN X (a + 1) = 96 := h.2.2.2.1
theorem sh7_F_code {X : Sh} {a : Nat} (h : Sh7 X a) : xF X a 9 = some (a + 2) := h.2.2.2.2.1
theorem sh7_K_code {X : Sh} {a : Nat} (h : Sh7 X a) : xK X (a + 2) = 11 := h.2.2.2.2.2.1
theorem sh7_N_code {X : Sh} {a : Nat} (h : Sh7 X a) : xN X (a + 2) = 96 := h.2.2.2.2.2.2.1
theorem sh7_F_signs {X : Sh} {a : Nat} (h : Sh7 X a) : xF X a 11 = some (a + 3) := h.2.2.2.2.2.2.2.1
theorem sh7_K_signs {X : Sh} {a : Nat} (h : Sh7 X a) : xK X (a + 3) = 11 := h.2.2.2.2.2.2.2.2.1
theorem sh7_N_signs {X : Sh} {a : Nat} (h : Sh7 X a) : xN X (a + 3) = 96 := h.2.2.2.2.2.2.2.2.2
def Sh8 (X : Sh) (a : Nat) : Prop := (xK X a = 8) ∧ (xF X a 0 = some (a + 1)) ∧ (xK X (a + 1) = 11) ∧ (xN X (a + 1) = 12) ∧ (xF X a 1 = some (a + 2)) ∧ (xK X (a + 2) = 11) ∧ (xN X (a + 2) = 12) ∧ (xF X a 2 = some (a + 3)) ∧ (xK X (a + 3) = 11) ∧ (xN X (a + 3) = 12) ∧ (xF X a 3 = some (a + 4)) ∧ (xK X (a + 4) = 17) ∧ (xN X (a + 4) = 12) ∧ (∀ i, i < 12 → xF X (a + 4) i = some (a + 5 + i)) ∧ (∀ i, i < 12 → xK X (a + 5 + i) = 11) ∧ (∀ i, i < 12 → xN X (a + 5 + i) = 96) ∧ (xF X a 4 = some (a + 17)) ∧ (xK X (a + 17) = 11) ∧ (xN X (a + 17) = 12) ∧ (xF X a 6 = some (a + 18)) ∧ (xK X (a + 18) = 11) ∧ (xN X (a + 18) = 26) ∧ (xF X a 7 = some (a + 19)) ∧ (xK X (a + 19) = 11) ∧ (xN X (a + 19) = 96)
theorem sh8_K {X : Sh} {a : Nat} (h : Sh8 X a) : xK X a = 8 := h.1
theorem sh8_F_key {X : Sh} {a : Nat} (h : Sh8 X a) : xF X a 0 = some (a + 1) := h.2.1
theorem sh8_K_key {X : Sh} {a : Nat} (h : Sh8 X a) : xK X (a + 1) = 11 := h.2.2.1
theorem sh8_N_key {X : Sh} {a : Nat} (h : Sh8 X a) : xN X (a + 1) = 12 := h.2.2.2.1
theorem sh8_F_bin {X : Sh} {a : Nat} (h : Sh8 X a) : xF X a 1 = some (a + 2) := h.2.2.2.2.1
theorem sh8_K_bin {X : Sh} {a : Nat} (h : Sh8 X a) : xK X (a + 2) = 11 := h.2.2.2.2.2.1
theorem sh8_N_bin {X : Sh} {a : Nat} (h : Sh8 X a) : xN X (a + 2) = 12 := h.2.2.2.2.2.2.1
theorem sh8_F_pieces {X : Sh} {a : Nat} (h : Sh8 X a) : xF X a 2 = some (a + 3) := h.2.2.2.2.2.2.2.1
theorem sh8_K_pieces {X : Sh} {a : Nat} (h : Sh8 X a) : xK X (a + 3) = 11 := h.2.2.2.2.2.2.2.2.1
theorem sh8_N_pieces {X : Sh} {a : Nat} (h : Sh8 X a) : xN X (a + 3) = 12 := h.2.2.2.2.2.2.2.2.2.1
theorem sh8_F_code {X : Sh} {a : Nat} (h : Sh8 X a) : xF X a 3 = some (a + 4) := h.2.2.2.2.2.2.2.2.2.2.1
theorem sh8_K_code {X : Sh} {a : Nat} (h : Sh8 X a) : xK X (a + 4) = 17 := h.2.2.2.2.2.2.2.2.2.2.2.1
theorem sh8_N_code {X : Sh} {a : Nat} (h : Sh8 X a) : xN X (a + 4) = 12 := h.2.2.2.2.2.2.2.2.2.2.2.2.1
theorem sh8_E_code {X : Sh} {a : Nat} (h : Sh8 X a) : ∀ i, i < 12 → xF X (a + 4) i = some (a + 5 + i) := h.2.2.2.2.2.2.2.2.2.2.2.2.2.1
theorem sh8_EK_code {X : Sh} {a : Nat} (h : Sh8 X a) : ∀ i, i < 12 → xK X (a + 5 + i) = 11 := h.2.2.2.2.2.2.2.2.2.2.2.2.2.2.1
theorem sh8_EN_code {X : Sh} {a : Nat} (h : Sh8 X a) : ∀ i, i < 12 → xN X (a + 5 + i) = 96 := h.2.2.2.2.2.2.2.2.2.2.2.2.2.2.2.1
theorem sh8_F_codes {X : Sh} {a : Nat} (h : Sh8 X a) : xF X a 4 = some (a + 17) := h.2.2.2.2.2.2.2.2.2.2.2.2.2.2.2.2.1
theorem sh8_K_codes {X : Sh} {a : Nat} (h : Sh8 X a) : xK X (a + 17) = 11 := h.2.2.2.2.2.2.2.2.2.2.2.2.2.2.2.2.2.1
theorem sh8_N_codes {X : Sh} {a : Nat} (h : Sh8 X a) : xN X (a + 17) = 12 := h.2.2.2.2.2.2.2.2.2.2.2.2.2.2.2.2.2.2.1
theorem sh8_F_named {X : Sh} {a : Nat} (h : Sh8 X a) : xF X a 6 = some (a + 18) := h.2.2.2.2.2.2.2.2.2.2.2.2.2.2.2.2.2.2.2.1
theorem sh8_K_named {X : Sh} {a : Nat} (h : Sh8 X a) : xK X (a + 18) = 11 := h.2.2.2.2.2.2.2.2.2.2.2.2.2.2.2.2.2.2.2.2.1
theorem sh8_N_named {X : Sh} {a : Nat} (h : Sh8 X a) : xN X (a + 18) = 26 := h.2.2.2.2.2.2.2.2.2.2.2.2.2.2.2.2.2.2.2.2.2.1
theorem sh8_F_stack {X : Sh} {a : Nat} (h : Sh8 X a) : xF X a 7 = some (a + 19) := h.2.2.2.2.2.2.2.2.2.2.2.2.2.2.2.2.2.2.2.2.2.2.1
theorem sh8_K_stack {X : Sh} {a : Nat} (h : Sh8 X a) : xK X (a + 19) = 11 := h.2.2.2.2.2.2.2.2.2.2.2.2.2.2.2.2.2.2.2.2.2.2.2.1
theorem sh8_N_stack {X : Sh} {a : Nat} (h : Sh8 X a) : xN X (a + 19) = 96 := h.2.2.2.2.2.2.2.2.2.2.2.2.2.2.2.2.2.2.2.2.2.2.2.2
def Sh1 (X : Sh) (a : Nat) : Prop := (xK X a = 1) ∧ (xF X a 4 = some (a + 1)) ∧ (xK X (a + 1) = 14) ∧ (xN X (a + 1) = 24) ∧ (xF X a 6 = some (a + 50)) ∧ (xK X (a + 50) = 11) ∧ (xN X (a + 50) = 5) ∧ (xF X a 7 = some (a + 51)) ∧ (xK X (a + 51) = 11) ∧ (xN X (a + 51) = 5) ∧ (xF X a 8 = some (a + 52)) ∧ (xK X (a + 52) = 12) ∧ (xN X (a + 52) = 5) ∧ (xF X a 9 = some (a + 53)) ∧ (xK X (a + 53) = 11) ∧ (xN X (a + 53) = 5) ∧ (∀ i, i < 24 → Sh4 X (a + 2 + 2 * i))
theorem sh1_K {X : Sh} {a : Nat} (h : Sh1 X a) : xK X a = 1 := h.1
theorem sh1_F_layers {X : Sh} {a : Nat} (h : Sh1 X a) : xF X a 4 = some (a + 1) := h.2.1
theorem sh1_K_layers {X : Sh} {a : Nat} (h : Sh1 X a) : xK X (a + 1) = 14 := h.2.2.1
theorem sh1_N_layers {X : Sh} {a : Nat} (h : Sh1 X a) : xN X (a + 1) = 24 := h.2.2.2.1
theorem sh1_F_bulk {X : Sh} {a : Nat} (h : Sh1 X a) : xF X a 6 = some (a + 50) := h.2.2.2.2.1
theorem sh1_K_bulk {X : Sh} {a : Nat} (h : Sh1 X a) : xK X (a + 50) = 11 := h.2.2.2.2.2.1
theorem sh1_N_bulk {X : Sh} {a : Nat} (h : Sh1 X a) : xN X (a + 50) = 5 := h.2.2.2.2.2.2.1
theorem sh1_F_weights {X : Sh} {a : Nat} (h : Sh1 X a) : xF X a 7 = some (a + 51) := h.2.2.2.2.2.2.2.1
theorem sh1_K_weights {X : Sh} {a : Nat} (h : Sh1 X a) : xK X (a + 51) = 11 := h.2.2.2.2.2.2.2.2.1
theorem sh1_N_weights {X : Sh} {a : Nat} (h : Sh1 X a) : xN X (a + 51) = 5 := h.2.2.2.2.2.2.2.2.2.1
theorem sh1_F_rests {X : Sh} {a : Nat} (h : Sh1 X a) : xF X a 8 = some (a + 52) := h.2.2.2.2.2.2.2.2.2.2.1
theorem sh1_K_rests {X : Sh} {a : Nat} (h : Sh1 X a) : xK X (a + 52) = 12 := h.2.2.2.2.2.2.2.2.2.2.2.1
theorem sh1_N_rests {X : Sh} {a : Nat} (h : Sh1 X a) : xN X (a + 52) = 5 := h.2.2.2.2.2.2.2.2.2.2.2.2.1
theorem sh1_F_parts {X : Sh} {a : Nat} (h : Sh1 X a) : xF X a 9 = some (a + 53) := h.2.2.2.2.2.2.2.2.2.2.2.2.2.1
theorem sh1_K_parts {X : Sh} {a : Nat} (h : Sh1 X a) : xK X (a + 53) = 11 := h.2.2.2.2.2.2.2.2.2.2.2.2.2.2.1
theorem sh1_N_parts {X : Sh} {a : Nat} (h : Sh1 X a) : xN X (a + 53) = 5 := h.2.2.2.2.2.2.2.2.2.2.2.2.2.2.2.1
theorem sh1_L_layers {X : Sh} {a : Nat} (h : Sh1 X a) : ∀ i, i < 24 → Sh4 X (a + 2 + 2 * i) := h.2.2.2.2.2.2.2.2.2.2.2.2.2.2.2.2
def Sh6 (X : Sh) (a : Nat) : Prop := (xK X a = 6) ∧ (xF X a 4 = some (a + 1)) ∧ (Sh5 X (a + 1))
theorem sh6_K {X : Sh} {a : Nat} (h : Sh6 X a) : xK X a = 6 := h.1
theorem sh6_F_sheet {X : Sh} {a : Nat} (h : Sh6 X a) : xF X a 4 = some (a + 1) := h.2.1
theorem sh6_S_sheet {X : Sh} {a : Nat} (h : Sh6 X a) : Sh5 X (a + 1) := h.2.2
def Sh2 (X : Sh) (a : Nat) : Prop := (xK X a = 2) ∧ (xF X a 0 = some (a + 1)) ∧ (Sh0 X (a + 1)) ∧ (xF X a 1 = some (a + 8)) ∧ (Sh1 X (a + 8)) ∧ (xF X a 2 = some (a + 62)) ∧ (Sh8 X (a + 62)) ∧ (xF X a 3 = some (a + 82)) ∧ (Sh3 X (a + 82)) ∧ (xF X a 4 = some (a + 85)) ∧ (xK X (a + 85) = 11) ∧ (xN X (a + 85) = 3)
theorem sh2_K {X : Sh} {a : Nat} (h : Sh2 X a) : xK X a = 2 := h.1
theorem sh2_F_bins {X : Sh} {a : Nat} (h : Sh2 X a) : xF X a 0 = some (a + 1) := h.2.1
theorem sh2_S_bins {X : Sh} {a : Nat} (h : Sh2 X a) : Sh0 X (a + 1) := h.2.2.1
theorem sh2_F_furnace {X : Sh} {a : Nat} (h : Sh2 X a) : xF X a 1 = some (a + 8) := h.2.2.2.1
theorem sh2_S_furnace {X : Sh} {a : Nat} (h : Sh2 X a) : Sh1 X (a + 8) := h.2.2.2.2.1
theorem sh2_F_texts {X : Sh} {a : Nat} (h : Sh2 X a) : xF X a 2 = some (a + 62) := h.2.2.2.2.2.1
theorem sh2_S_texts {X : Sh} {a : Nat} (h : Sh2 X a) : Sh8 X (a + 62) := h.2.2.2.2.2.2.1
theorem sh2_F_ladles {X : Sh} {a : Nat} (h : Sh2 X a) : xF X a 3 = some (a + 82) := h.2.2.2.2.2.2.2.1
theorem sh2_S_ladles {X : Sh} {a : Nat} (h : Sh2 X a) : Sh3 X (a + 82) := h.2.2.2.2.2.2.2.2.1
theorem sh2_F_rules {X : Sh} {a : Nat} (h : Sh2 X a) : xF X a 4 = some (a + 85) := h.2.2.2.2.2.2.2.2.2.1
theorem sh2_K_rules {X : Sh} {a : Nat} (h : Sh2 X a) : xK X (a + 85) = 11 := h.2.2.2.2.2.2.2.2.2.2.1
theorem sh2_N_rules {X : Sh} {a : Nat} (h : Sh2 X a) : xN X (a + 85) = 3 := h.2.2.2.2.2.2.2.2.2.2.2
def Sh9 (X : Sh) (a : Nat) : Prop := (xK X a = 9) ∧ (xF X a 0 = some (a + 1)) ∧ (Sh2 X (a + 1)) ∧ (xF X a 1 = some (a + 87)) ∧ (Sh2 X (a + 87)) ∧ (xF X a 3 = some (a + 173)) ∧ (Sh1 X (a + 173)) ∧ (xF X a 4 = some (a + 227)) ∧ (Sh7 X (a + 227)) ∧ (xF X a 5 = some (a + 231)) ∧ (xK X (a + 231) = 15) ∧ (xN X (a + 231) = 4) ∧ (∀ i, i < 4 → xF X (a + 231) i = some (a + 232 + 3 * i)) ∧ (∀ i, i < 4 → Sh5 X (a + 232 + 3 * i)) ∧ (xF X a 6 = some (a + 244)) ∧ (xK X (a + 244) = 16) ∧ (xN X (a + 244) = 5) ∧ (∀ i, i < 5 → xF X (a + 244) i = some (a + 245 + 4 * i)) ∧ (∀ i, i < 5 → Sh6 X (a + 245 + 4 * i)) ∧ (xF X a 7 = some (a + 265)) ∧ (xK X (a + 265) = 11) ∧ (xN X (a + 265) = 60)
theorem sh9_K {X : Sh} {a : Nat} (h : Sh9 X a) : xK X a = 9 := h.1
theorem sh9_F_house {X : Sh} {a : Nat} (h : Sh9 X a) : xF X a 0 = some (a + 1) := h.2.1
theorem sh9_S_house {X : Sh} {a : Nat} (h : Sh9 X a) : Sh2 X (a + 1) := h.2.2.1
theorem sh9_F_image {X : Sh} {a : Nat} (h : Sh9 X a) : xF X a 1 = some (a + 87) := h.2.2.2.1
theorem sh9_S_image {X : Sh} {a : Nat} (h : Sh9 X a) : Sh2 X (a + 87) := h.2.2.2.2.1
theorem sh9_F_trial {X : Sh} {a : Nat} (h : Sh9 X a) : xF X a 3 = some (a + 173) := h.2.2.2.2.2.1
theorem sh9_S_trial {X : Sh} {a : Nat} (h : Sh9 X a) : Sh1 X (a + 173) := h.2.2.2.2.2.2.1
theorem sh9_F_tape {X : Sh} {a : Nat} (h : Sh9 X a) : xF X a 4 = some (a + 227) := h.2.2.2.2.2.2.2.1
theorem sh9_S_tape {X : Sh} {a : Nat} (h : Sh9 X a) : Sh7 X (a + 227) := h.2.2.2.2.2.2.2.2.1
theorem sh9_F_sheets {X : Sh} {a : Nat} (h : Sh9 X a) : xF X a 5 = some (a + 231) := h.2.2.2.2.2.2.2.2.2.1
theorem sh9_K_sheets {X : Sh} {a : Nat} (h : Sh9 X a) : xK X (a + 231) = 15 := h.2.2.2.2.2.2.2.2.2.2.1
theorem sh9_N_sheets {X : Sh} {a : Nat} (h : Sh9 X a) : xN X (a + 231) = 4 := h.2.2.2.2.2.2.2.2.2.2.2.1
theorem sh9_E_sheets {X : Sh} {a : Nat} (h : Sh9 X a) : ∀ i, i < 4 → xF X (a + 231) i = some (a + 232 + 3 * i) := h.2.2.2.2.2.2.2.2.2.2.2.2.1
theorem sh9_ES_sheets {X : Sh} {a : Nat} (h : Sh9 X a) : ∀ i, i < 4 → Sh5 X (a + 232 + 3 * i) := h.2.2.2.2.2.2.2.2.2.2.2.2.2.1
theorem sh9_F_slots {X : Sh} {a : Nat} (h : Sh9 X a) : xF X a 6 = some (a + 244) := h.2.2.2.2.2.2.2.2.2.2.2.2.2.2.1
theorem sh9_K_slots {X : Sh} {a : Nat} (h : Sh9 X a) : xK X (a + 244) = 16 := h.2.2.2.2.2.2.2.2.2.2.2.2.2.2.2.1
theorem sh9_N_slots {X : Sh} {a : Nat} (h : Sh9 X a) : xN X (a + 244) = 5 := h.2.2.2.2.2.2.2.2.2.2.2.2.2.2.2.2.1
theorem sh9_E_slots {X : Sh} {a : Nat} (h : Sh9 X a) : ∀ i, i < 5 → xF X (a + 244) i = some (a + 245 + 4 * i) := h.2.2.2.2.2.2.2.2.2.2.2.2.2.2.2.2.2.1
theorem sh9_ES_slots {X : Sh} {a : Nat} (h : Sh9 X a) : ∀ i, i < 5 → Sh6 X (a + 245 + 4 * i) := h.2.2.2.2.2.2.2.2.2.2.2.2.2.2.2.2.2.2.1
theorem sh9_F_waiting {X : Sh} {a : Nat} (h : Sh9 X a) : xF X a 7 = some (a + 265) := h.2.2.2.2.2.2.2.2.2.2.2.2.2.2.2.2.2.2.2.1
theorem sh9_K_waiting {X : Sh} {a : Nat} (h : Sh9 X a) : xK X (a + 265) = 11 := h.2.2.2.2.2.2.2.2.2.2.2.2.2.2.2.2.2.2.2.2.1
theorem sh9_N_waiting {X : Sh} {a : Nat} (h : Sh9 X a) : xN X (a + 265) = 60 := h.2.2.2.2.2.2.2.2.2.2.2.2.2.2.2.2.2.2.2.2.2
def Sh10 (X : Sh) (a : Nat) : Prop := (xK X a = 10) ∧ (xF X a 0 = some (a + 1)) ∧ (xK X (a + 1) = 11) ∧ (xN X (a + 1) = 2950) ∧ (xF X a 1 = some (a + 2)) ∧ (xK X (a + 2) = 11) ∧ (xN X (a + 2) = 2950) ∧ (xF X a 2 = some (a + 3)) ∧ (xK X (a + 3) = 11) ∧ (xN X (a + 3) = 2950) ∧ (xF X a 4 = some (a + 4)) ∧ (xK X (a + 4) = 11) ∧ (xN X (a + 4) = 4) ∧ (xF X a 5 = some (a + 5)) ∧ (xK X (a + 5) = 11) ∧ (xN X (a + 5) = 4) ∧ (xF X a 6 = some (a + 6)) ∧ (xK X (a + 6) = 11) ∧ (xN X (a + 6) = 96) ∧ (xF X a 7 = some (a + 7)) ∧ (xK X (a + 7) = 11) ∧ (xN X (a + 7) = 5) ∧ (xF X a 8 = some (a + 8)) ∧ (xK X (a + 8) = 11) ∧ (xN X (a + 8) = 5) ∧ (xF X a 9 = some (a + 9)) ∧ (xK X (a + 9) = 11) ∧ (xN X (a + 9) = 5) ∧ (xF X a 10 = some (a + 10)) ∧ (xK X (a + 10) = 11) ∧ (xN X (a + 10) = 5) ∧ (xF X a 11 = some (a + 11)) ∧ (xK X (a + 11) = 11) ∧ (xN X (a + 11) = 120) ∧ (xF X a 12 = some (a + 12)) ∧ (xK X (a + 12) = 12) ∧ (xN X (a + 12) = 5) ∧ (xF X a 13 = some (a + 13)) ∧ (xK X (a + 13) = 11) ∧ (xN X (a + 13) = 5) ∧ (xF X a 14 = some (a + 14)) ∧ (xK X (a + 14) = 12) ∧ (xN X (a + 14) = 5) ∧ (xF X a 15 = some (a + 15)) ∧ (xK X (a + 15) = 11) ∧ (xN X (a + 15) = 5) ∧ (xF X a 16 = some (a + 16)) ∧ (xK X (a + 16) = 11) ∧ (xN X (a + 16) = 5) ∧ (xF X a 18 = some (a + 17)) ∧ (xK X (a + 17) = 11) ∧ (xN X (a + 17) = 96) ∧ (xF X a 30 = some (a + 18)) ∧ (xK X (a + 18) = 11) ∧ (xN X (a + 18) = 128) ∧ (xF X a 31 = some (a + 19)) ∧ (xK X (a + 19) = 11) ∧ (xN X (a + 19) = 100) ∧ (xF X a 32 = some (a + 20)) ∧ (xK X (a + 20) = 11) ∧ (xN X (a + 20) = 24) ∧ (xF X a 33 = some (a + 21)) ∧ (xK X (a + 21) = 11) ∧ (xN X (a + 21) = 60) ∧ (xF X a 35 = some (a + 22)) ∧ (xK X (a + 22) = 11) ∧ (xN X (a + 22) = 60)
theorem sh10_K {X : Sh} {a : Nat} (h : Sh10 X a) : xK X a = 10 := h.1
theorem sh10_F_s {X : Sh} {a : Nat} (h : Sh10 X a) : xF X a 0 = some (a + 1) := h.2.1
theorem sh10_K_s {X : Sh} {a : Nat} (h : Sh10 X a) : xK X (a + 1) = 11 := h.2.2.1
theorem sh10_N_s {X : Sh} {a : Nat} (h : Sh10 X a) : xN X (a + 1) = 2950 := h.2.2.2.1
theorem sh10_F_image {X : Sh} {a : Nat} (h : Sh10 X a) : xF X a 1 = some (a + 2) := h.2.2.2.2.1
theorem sh10_K_image {X : Sh} {a : Nat} (h : Sh10 X a) : xK X (a + 2) = 11 := h.2.2.2.2.2.1
theorem sh10_N_image {X : Sh} {a : Nat} (h : Sh10 X a) : xN X (a + 2) = 2950 := h.2.2.2.2.2.2.1
theorem sh10_F_aside {X : Sh} {a : Nat} (h : Sh10 X a) : xF X a 2 = some (a + 3) := h.2.2.2.2.2.2.2.1
theorem sh10_K_aside {X : Sh} {a : Nat} (h : Sh10 X a) : xK X (a + 3) = 11 := h.2.2.2.2.2.2.2.2.1
theorem sh10_N_aside {X : Sh} {a : Nat} (h : Sh10 X a) : xN X (a + 3) = 2950 := h.2.2.2.2.2.2.2.2.2.1
theorem sh10_F_tSort {X : Sh} {a : Nat} (h : Sh10 X a) : xF X a 4 = some (a + 4) := h.2.2.2.2.2.2.2.2.2.2.1
theorem sh10_K_tSort {X : Sh} {a : Nat} (h : Sh10 X a) : xK X (a + 4) = 11 := h.2.2.2.2.2.2.2.2.2.2.2.1
theorem sh10_N_tSort {X : Sh} {a : Nat} (h : Sh10 X a) : xN X (a + 4) = 4 := h.2.2.2.2.2.2.2.2.2.2.2.2.1
theorem sh10_F_tSize {X : Sh} {a : Nat} (h : Sh10 X a) : xF X a 5 = some (a + 5) := h.2.2.2.2.2.2.2.2.2.2.2.2.2.1
theorem sh10_K_tSize {X : Sh} {a : Nat} (h : Sh10 X a) : xK X (a + 5) = 11 := h.2.2.2.2.2.2.2.2.2.2.2.2.2.2.1
theorem sh10_N_tSize {X : Sh} {a : Nat} (h : Sh10 X a) : xN X (a + 5) = 4 := h.2.2.2.2.2.2.2.2.2.2.2.2.2.2.2.1
theorem sh10_F_tNumber {X : Sh} {a : Nat} (h : Sh10 X a) : xF X a 6 = some (a + 6) := h.2.2.2.2.2.2.2.2.2.2.2.2.2.2.2.2.1
theorem sh10_K_tNumber {X : Sh} {a : Nat} (h : Sh10 X a) : xK X (a + 6) = 11 := h.2.2.2.2.2.2.2.2.2.2.2.2.2.2.2.2.2.1
theorem sh10_N_tNumber {X : Sh} {a : Nat} (h : Sh10 X a) : xN X (a + 6) = 96 := h.2.2.2.2.2.2.2.2.2.2.2.2.2.2.2.2.2.2.1
theorem sh10_F_held {X : Sh} {a : Nat} (h : Sh10 X a) : xF X a 7 = some (a + 7) := h.2.2.2.2.2.2.2.2.2.2.2.2.2.2.2.2.2.2.2.1
theorem sh10_K_held {X : Sh} {a : Nat} (h : Sh10 X a) : xK X (a + 7) = 11 := h.2.2.2.2.2.2.2.2.2.2.2.2.2.2.2.2.2.2.2.2.1
theorem sh10_N_held {X : Sh} {a : Nat} (h : Sh10 X a) : xN X (a + 7) = 5 := h.2.2.2.2.2.2.2.2.2.2.2.2.2.2.2.2.2.2.2.2.2.1
theorem sh10_F_heldNumber {X : Sh} {a : Nat} (h : Sh10 X a) : xF X a 8 = some (a + 8) := h.2.2.2.2.2.2.2.2.2.2.2.2.2.2.2.2.2.2.2.2.2.2.1
theorem sh10_K_heldNumber {X : Sh} {a : Nat} (h : Sh10 X a) : xK X (a + 8) = 11 := h.2.2.2.2.2.2.2.2.2.2.2.2.2.2.2.2.2.2.2.2.2.2.2.1
theorem sh10_N_heldNumber {X : Sh} {a : Nat} (h : Sh10 X a) : xN X (a + 8) = 5 := h.2.2.2.2.2.2.2.2.2.2.2.2.2.2.2.2.2.2.2.2.2.2.2.2.1
theorem sh10_F_heldShare {X : Sh} {a : Nat} (h : Sh10 X a) : xF X a 9 = some (a + 9) := h.2.2.2.2.2.2.2.2.2.2.2.2.2.2.2.2.2.2.2.2.2.2.2.2.2.1
theorem sh10_K_heldShare {X : Sh} {a : Nat} (h : Sh10 X a) : xK X (a + 9) = 11 := h.2.2.2.2.2.2.2.2.2.2.2.2.2.2.2.2.2.2.2.2.2.2.2.2.2.2.1
theorem sh10_N_heldShare {X : Sh} {a : Nat} (h : Sh10 X a) : xN X (a + 9) = 5 := h.2.2.2.2.2.2.2.2.2.2.2.2.2.2.2.2.2.2.2.2.2.2.2.2.2.2.2.1
theorem sh10_F_heldSize {X : Sh} {a : Nat} (h : Sh10 X a) : xF X a 10 = some (a + 10) := h.2.2.2.2.2.2.2.2.2.2.2.2.2.2.2.2.2.2.2.2.2.2.2.2.2.2.2.2.1
theorem sh10_K_heldSize {X : Sh} {a : Nat} (h : Sh10 X a) : xK X (a + 10) = 11 := h.2.2.2.2.2.2.2.2.2.2.2.2.2.2.2.2.2.2.2.2.2.2.2.2.2.2.2.2.2.1
theorem sh10_N_heldSize {X : Sh} {a : Nat} (h : Sh10 X a) : xN X (a + 10) = 5 := h.2.2.2.2.2.2.2.2.2.2.2.2.2.2.2.2.2.2.2.2.2.2.2.2.2.2.2.2.2.2.1
theorem sh10_F_heldRow {X : Sh} {a : Nat} (h : Sh10 X a) : xF X a 11 = some (a + 11) := h.2.2.2.2.2.2.2.2.2.2.2.2.2.2.2.2.2.2.2.2.2.2.2.2.2.2.2.2.2.2.2.1
theorem sh10_K_heldRow {X : Sh} {a : Nat} (h : Sh10 X a) : xK X (a + 11) = 11 := h.2.2.2.2.2.2.2.2.2.2.2.2.2.2.2.2.2.2.2.2.2.2.2.2.2.2.2.2.2.2.2.2.1
theorem sh10_N_heldRow {X : Sh} {a : Nat} (h : Sh10 X a) : xN X (a + 11) = 120 := h.2.2.2.2.2.2.2.2.2.2.2.2.2.2.2.2.2.2.2.2.2.2.2.2.2.2.2.2.2.2.2.2.2.1
theorem sh10_F_weights {X : Sh} {a : Nat} (h : Sh10 X a) : xF X a 12 = some (a + 12) := h.2.2.2.2.2.2.2.2.2.2.2.2.2.2.2.2.2.2.2.2.2.2.2.2.2.2.2.2.2.2.2.2.2.2.1
theorem sh10_K_weights {X : Sh} {a : Nat} (h : Sh10 X a) : xK X (a + 12) = 12 := h.2.2.2.2.2.2.2.2.2.2.2.2.2.2.2.2.2.2.2.2.2.2.2.2.2.2.2.2.2.2.2.2.2.2.2.1
theorem sh10_N_weights {X : Sh} {a : Nat} (h : Sh10 X a) : xN X (a + 12) = 5 := h.2.2.2.2.2.2.2.2.2.2.2.2.2.2.2.2.2.2.2.2.2.2.2.2.2.2.2.2.2.2.2.2.2.2.2.2.1
theorem sh10_F_parts {X : Sh} {a : Nat} (h : Sh10 X a) : xF X a 13 = some (a + 13) := h.2.2.2.2.2.2.2.2.2.2.2.2.2.2.2.2.2.2.2.2.2.2.2.2.2.2.2.2.2.2.2.2.2.2.2.2.2.1
theorem sh10_K_parts {X : Sh} {a : Nat} (h : Sh10 X a) : xK X (a + 13) = 11 := h.2.2.2.2.2.2.2.2.2.2.2.2.2.2.2.2.2.2.2.2.2.2.2.2.2.2.2.2.2.2.2.2.2.2.2.2.2.2.1
theorem sh10_N_parts {X : Sh} {a : Nat} (h : Sh10 X a) : xN X (a + 13) = 5 := h.2.2.2.2.2.2.2.2.2.2.2.2.2.2.2.2.2.2.2.2.2.2.2.2.2.2.2.2.2.2.2.2.2.2.2.2.2.2.2.1
theorem sh10_F_rests {X : Sh} {a : Nat} (h : Sh10 X a) : xF X a 14 = some (a + 14) := h.2.2.2.2.2.2.2.2.2.2.2.2.2.2.2.2.2.2.2.2.2.2.2.2.2.2.2.2.2.2.2.2.2.2.2.2.2.2.2.2.1
theorem sh10_K_rests {X : Sh} {a : Nat} (h : Sh10 X a) : xK X (a + 14) = 12 := h.2.2.2.2.2.2.2.2.2.2.2.2.2.2.2.2.2.2.2.2.2.2.2.2.2.2.2.2.2.2.2.2.2.2.2.2.2.2.2.2.2.1
theorem sh10_N_rests {X : Sh} {a : Nat} (h : Sh10 X a) : xN X (a + 14) = 5 := h.2.2.2.2.2.2.2.2.2.2.2.2.2.2.2.2.2.2.2.2.2.2.2.2.2.2.2.2.2.2.2.2.2.2.2.2.2.2.2.2.2.2.1
theorem sh10_F_tops {X : Sh} {a : Nat} (h : Sh10 X a) : xF X a 15 = some (a + 15) := h.2.2.2.2.2.2.2.2.2.2.2.2.2.2.2.2.2.2.2.2.2.2.2.2.2.2.2.2.2.2.2.2.2.2.2.2.2.2.2.2.2.2.2.1
theorem sh10_K_tops {X : Sh} {a : Nat} (h : Sh10 X a) : xK X (a + 15) = 11 := h.2.2.2.2.2.2.2.2.2.2.2.2.2.2.2.2.2.2.2.2.2.2.2.2.2.2.2.2.2.2.2.2.2.2.2.2.2.2.2.2.2.2.2.2.1
theorem sh10_N_tops {X : Sh} {a : Nat} (h : Sh10 X a) : xN X (a + 15) = 5 := h.2.2.2.2.2.2.2.2.2.2.2.2.2.2.2.2.2.2.2.2.2.2.2.2.2.2.2.2.2.2.2.2.2.2.2.2.2.2.2.2.2.2.2.2.2.1
theorem sh10_F_inRing {X : Sh} {a : Nat} (h : Sh10 X a) : xF X a 16 = some (a + 16) := h.2.2.2.2.2.2.2.2.2.2.2.2.2.2.2.2.2.2.2.2.2.2.2.2.2.2.2.2.2.2.2.2.2.2.2.2.2.2.2.2.2.2.2.2.2.2.1
theorem sh10_K_inRing {X : Sh} {a : Nat} (h : Sh10 X a) : xK X (a + 16) = 11 := h.2.2.2.2.2.2.2.2.2.2.2.2.2.2.2.2.2.2.2.2.2.2.2.2.2.2.2.2.2.2.2.2.2.2.2.2.2.2.2.2.2.2.2.2.2.2.2.1
theorem sh10_N_inRing {X : Sh} {a : Nat} (h : Sh10 X a) : xN X (a + 16) = 5 := h.2.2.2.2.2.2.2.2.2.2.2.2.2.2.2.2.2.2.2.2.2.2.2.2.2.2.2.2.2.2.2.2.2.2.2.2.2.2.2.2.2.2.2.2.2.2.2.2.1
theorem sh10_F_tape {X : Sh} {a : Nat} (h : Sh10 X a) : xF X a 18 = some (a + 17) := h.2.2.2.2.2.2.2.2.2.2.2.2.2.2.2.2.2.2.2.2.2.2.2.2.2.2.2.2.2.2.2.2.2.2.2.2.2.2.2.2.2.2.2.2.2.2.2.2.2.1
theorem sh10_K_tape {X : Sh} {a : Nat} (h : Sh10 X a) : xK X (a + 17) = 11 := h.2.2.2.2.2.2.2.2.2.2.2.2.2.2.2.2.2.2.2.2.2.2.2.2.2.2.2.2.2.2.2.2.2.2.2.2.2.2.2.2.2.2.2.2.2.2.2.2.2.2.1
theorem sh10_N_tape {X : Sh} {a : Nat} (h : Sh10 X a) : xN X (a + 17) = 96 := h.2.2.2.2.2.2.2.2.2.2.2.2.2.2.2.2.2.2.2.2.2.2.2.2.2.2.2.2.2.2.2.2.2.2.2.2.2.2.2.2.2.2.2.2.2.2.2.2.2.2.2.1
theorem sh10_F_named {X : Sh} {a : Nat} (h : Sh10 X a) : xF X a 30 = some (a + 18) := h.2.2.2.2.2.2.2.2.2.2.2.2.2.2.2.2.2.2.2.2.2.2.2.2.2.2.2.2.2.2.2.2.2.2.2.2.2.2.2.2.2.2.2.2.2.2.2.2.2.2.2.2.1
theorem sh10_K_named {X : Sh} {a : Nat} (h : Sh10 X a) : xK X (a + 18) = 11 := h.2.2.2.2.2.2.2.2.2.2.2.2.2.2.2.2.2.2.2.2.2.2.2.2.2.2.2.2.2.2.2.2.2.2.2.2.2.2.2.2.2.2.2.2.2.2.2.2.2.2.2.2.2.1
theorem sh10_N_named {X : Sh} {a : Nat} (h : Sh10 X a) : xN X (a + 18) = 128 := h.2.2.2.2.2.2.2.2.2.2.2.2.2.2.2.2.2.2.2.2.2.2.2.2.2.2.2.2.2.2.2.2.2.2.2.2.2.2.2.2.2.2.2.2.2.2.2.2.2.2.2.2.2.2.1
theorem sh10_F_pile {X : Sh} {a : Nat} (h : Sh10 X a) : xF X a 31 = some (a + 19) := h.2.2.2.2.2.2.2.2.2.2.2.2.2.2.2.2.2.2.2.2.2.2.2.2.2.2.2.2.2.2.2.2.2.2.2.2.2.2.2.2.2.2.2.2.2.2.2.2.2.2.2.2.2.2.2.1
theorem sh10_K_pile {X : Sh} {a : Nat} (h : Sh10 X a) : xK X (a + 19) = 11 := h.2.2.2.2.2.2.2.2.2.2.2.2.2.2.2.2.2.2.2.2.2.2.2.2.2.2.2.2.2.2.2.2.2.2.2.2.2.2.2.2.2.2.2.2.2.2.2.2.2.2.2.2.2.2.2.2.1
theorem sh10_N_pile {X : Sh} {a : Nat} (h : Sh10 X a) : xN X (a + 19) = 100 := h.2.2.2.2.2.2.2.2.2.2.2.2.2.2.2.2.2.2.2.2.2.2.2.2.2.2.2.2.2.2.2.2.2.2.2.2.2.2.2.2.2.2.2.2.2.2.2.2.2.2.2.2.2.2.2.2.2.1
theorem sh10_F_carried {X : Sh} {a : Nat} (h : Sh10 X a) : xF X a 32 = some (a + 20) := h.2.2.2.2.2.2.2.2.2.2.2.2.2.2.2.2.2.2.2.2.2.2.2.2.2.2.2.2.2.2.2.2.2.2.2.2.2.2.2.2.2.2.2.2.2.2.2.2.2.2.2.2.2.2.2.2.2.2.1
theorem sh10_K_carried {X : Sh} {a : Nat} (h : Sh10 X a) : xK X (a + 20) = 11 := h.2.2.2.2.2.2.2.2.2.2.2.2.2.2.2.2.2.2.2.2.2.2.2.2.2.2.2.2.2.2.2.2.2.2.2.2.2.2.2.2.2.2.2.2.2.2.2.2.2.2.2.2.2.2.2.2.2.2.2.1
theorem sh10_N_carried {X : Sh} {a : Nat} (h : Sh10 X a) : xN X (a + 20) = 24 := h.2.2.2.2.2.2.2.2.2.2.2.2.2.2.2.2.2.2.2.2.2.2.2.2.2.2.2.2.2.2.2.2.2.2.2.2.2.2.2.2.2.2.2.2.2.2.2.2.2.2.2.2.2.2.2.2.2.2.2.2.1
theorem sh10_F_waits {X : Sh} {a : Nat} (h : Sh10 X a) : xF X a 33 = some (a + 21) := h.2.2.2.2.2.2.2.2.2.2.2.2.2.2.2.2.2.2.2.2.2.2.2.2.2.2.2.2.2.2.2.2.2.2.2.2.2.2.2.2.2.2.2.2.2.2.2.2.2.2.2.2.2.2.2.2.2.2.2.2.2.1
theorem sh10_K_waits {X : Sh} {a : Nat} (h : Sh10 X a) : xK X (a + 21) = 11 := h.2.2.2.2.2.2.2.2.2.2.2.2.2.2.2.2.2.2.2.2.2.2.2.2.2.2.2.2.2.2.2.2.2.2.2.2.2.2.2.2.2.2.2.2.2.2.2.2.2.2.2.2.2.2.2.2.2.2.2.2.2.2.1
theorem sh10_N_waits {X : Sh} {a : Nat} (h : Sh10 X a) : xN X (a + 21) = 60 := h.2.2.2.2.2.2.2.2.2.2.2.2.2.2.2.2.2.2.2.2.2.2.2.2.2.2.2.2.2.2.2.2.2.2.2.2.2.2.2.2.2.2.2.2.2.2.2.2.2.2.2.2.2.2.2.2.2.2.2.2.2.2.2.1
theorem sh10_F_row {X : Sh} {a : Nat} (h : Sh10 X a) : xF X a 35 = some (a + 22) := h.2.2.2.2.2.2.2.2.2.2.2.2.2.2.2.2.2.2.2.2.2.2.2.2.2.2.2.2.2.2.2.2.2.2.2.2.2.2.2.2.2.2.2.2.2.2.2.2.2.2.2.2.2.2.2.2.2.2.2.2.2.2.2.2.1
theorem sh10_K_row {X : Sh} {a : Nat} (h : Sh10 X a) : xK X (a + 22) = 11 := h.2.2.2.2.2.2.2.2.2.2.2.2.2.2.2.2.2.2.2.2.2.2.2.2.2.2.2.2.2.2.2.2.2.2.2.2.2.2.2.2.2.2.2.2.2.2.2.2.2.2.2.2.2.2.2.2.2.2.2.2.2.2.2.2.2.1
theorem sh10_N_row {X : Sh} {a : Nat} (h : Sh10 X a) : xN X (a + 22) = 60 := h.2.2.2.2.2.2.2.2.2.2.2.2.2.2.2.2.2.2.2.2.2.2.2.2.2.2.2.2.2.2.2.2.2.2.2.2.2.2.2.2.2.2.2.2.2.2.2.2.2.2.2.2.2.2.2.2.2.2.2.2.2.2.2.2.2.2
/-! the judgement of methods that make nothing; calls; helps for the printed blocks -/
section BASE2
abbrev Wn (G : Gl) (y : Md) (d pc : Nat) (lo : List (Nat × Value)) (st : List Value) (X : Sh) (M : Mm) (Q : Mm → Int32 → Prop) : Prop := Wp G y d 0 0 0 0 pc lo st X M (fun X2 M2 v => X2 = X ∧ ∃ x, v = some (.int x) ∧ Q M2 x)
abbrev Wv (G : Gl) (y : Md) (d pc : Nat) (lo : List (Nat × Value)) (st : List Value) (X : Sh) (M : Mm) (Q : Mm → Prop) : Prop := Wp G y d 0 0 0 0 pc lo st X M (fun X2 M2 v => X2 = X ∧ v = none ∧ Q M2)
abbrev Cn (G : Gl) (y : Md) (d : Nat) (as : List Value) (X : Sh) (M : Mm) (Q : Mm → Int32 → Prop) : Prop := Cl G y d 0 0 as X M (fun X2 M2 v => X2 = X ∧ ∃ x, v = some (.int x) ∧ Q M2 x)
abbrev Cv (G : Gl) (y : Md) (d : Nat) (as : List Value) (X : Sh) (M : Mm) (Q : Mm → Prop) : Prop := Cl G y d 0 0 as X M (fun X2 M2 v => X2 = X ∧ v = none ∧ Q M2)
theorem ne_ti {x k : Int32} {z : Int} (h : ¬ x = k) (hk : k.toInt = z) : x.toInt ≠ z := fun q => h (Int32.toInt_inj.mp (q.trans hk.symm))
theorem ite_01 (p : Prop) {hp : Decidable p} : (if p then (1 : Int32) else 0) = 0 ∨ (if p then (1 : Int32) else 0) = 1 := by
  by_cases h : p
  · rw [if_pos h]; exact Or.inr rfl
  · rw [if_neg h]; exact Or.inl rfl
variable {G : Gl} {y : Md} {d mc ms ce sl pc : Nat} {lo : List (Nat × Value)} {st : List Value} {X : Sh} {M : Mm} {Q : Sh → Mm → Option Value → Prop}
theorem wp_topi {x : Int32} (k : ∀ v : Int32, v = x → Wp G y d mc ms ce sl pc lo (.int v :: st) X M Q) : Wp G y d mc ms ce sl pc lo (.int x :: st) X M Q := k x rfl
theorem wp_topl {x : Int64} (k : ∀ v : Int64, v = x → Wp G y d mc ms ce sl pc lo (.long v :: st) X M Q) : Wp G y d mc ms ce sl pc lo (.long x :: st) X M Q := k x rfl
theorem wp_nm (k : ∀ M2 : Mm, M2 = M → Wp G y d mc ms ce sl pc lo st X M2 Q) : Wp G y d mc ms ce sl pc lo st X M Q := k M rfl
theorem wn_iret {v : Int32} {Q : Mm → Int32 → Prop} (hd : decode y.2.1 pc = .ok (.ireturn, 1)) (hr : y.2.2.2 = some .int) (h : Q M v) : Wn G y d pc lo [.int v] X M Q := wp_iret hd hr rfl (Nat.le_refl _) ⟨rfl, v, rfl, h⟩
theorem wn_zret {v : Int32} {Q : Mm → Int32 → Prop} (hd : decode y.2.1 pc = .ok (.ireturn, 1)) (hr : y.2.2.2 = some .boolean) (hv : v = 0 ∨ v = 1) (h : Q M v) : Wn G y d pc lo [.int v] X M Q := wp_zret hd hr rfl (Nat.le_refl _) hv ⟨rfl, v, rfl, h⟩
theorem wv_ret {Q : Mm → Prop} (hd : decode y.2.1 pc = .ok (.return_, 1)) (hr : y.2.2.2 = none) (h : Q M) : Wv G y d pc lo [] X M Q := wp_vret hd hr rfl (Nat.le_refl _) ⟨rfl, rfl, h⟩
theorem Cn.of {as : List Value} {Q : Mm → Int32 → Prop} (hy : plainName y.1.cls = true) (hn : (lg_sl as).length ≤ y.2.2.1) (h : Wn G y d 0 (lv_args 0 as) [] X M Q) : Cn G y d as X M Q := Cl.of hy hn h
theorem Cv.of {as : List Value} {Q : Mm → Prop} (hy : plainName y.1.cls = true) (hn : (lg_sl as).length ≤ y.2.2.1) (h : Wv G y d 0 (lv_args 0 as) [] X M Q) : Cv G y d as X M Q := Cl.of hy hn h
theorem Cn.mono {as : List Value} {Q1 Q2 : Mm → Int32 → Prop} (h : Cn G y d as X M Q1) (hq : ∀ M2 x, Q1 M2 x → Q2 M2 x) : Cn G y d as X M Q2 := by
  intro l p e a1 a2 a3 s m args below a4 a5 a6 a7
  obtain ⟨k, o, h1, h2, h3, ⟨⟨v, X2, M2, q1, ⟨q2, x, q3, q4⟩, q5⟩, q6⟩, q7⟩ := h l p e a1 a2 a3 s m args below a4 a5 a6 a7
  exact ⟨k, o, h1, h2, h3, ⟨⟨v, X2, M2, q1, ⟨q2, x, q3, hq _ _ q4⟩, q5⟩, q6⟩, q7⟩
theorem Cv.mono {as : List Value} {Q1 Q2 : Mm → Prop} (h : Cv G y d as X M Q1) (hq : ∀ M2, Q1 M2 → Q2 M2) : Cv G y d as X M Q2 := by
  intro l p e a1 a2 a3 s m args below a4 a5 a6 a7
  obtain ⟨k, o, h1, h2, h3, ⟨⟨v, X2, M2, q1, ⟨q2, q3, q4⟩, q5⟩, q6⟩, q7⟩ := h l p e a1 a2 a3 s m args below a4 a5 a6 a7
  exact ⟨k, o, h1, h2, h3, ⟨⟨v, X2, M2, q1, ⟨q2, q3, hq _ q4⟩, q5⟩, q6⟩, q7⟩
theorem wp_cvi {y2 : Md} {n ci idx b : Nat} {as rest : List Value} {Q1 : Mm → Int32 → Prop} (hd : decode y.2.1 pc = .ok (.invokevirtual idx, 3)) (hw : CKv y.1.cls idx y2 n ci) (hb : xK X b = ci) (hn : as.length = n) (hst : st = as.reverse ++ .ref b :: rest) (hc8 : (rest.map fun v => v.category).sum ≤ 8) (hM : Cn G y2 d (.ref b :: as) X M Q1)
    (kk : ∀ M2 x, Q1 M2 x → Wp G y (d + 1) 0 0 0 0 (pc + 3) lo (.int x :: rest) X M2 Q) : Wp G y (d + 1) 0 0 0 0 pc lo st X M Q :=
  wp_callV hd hw hb hn hst hc8 (Nat.le_refl _) (Nat.le_refl _) hM (fun _ _ _ h => by rw [h.1]; rfl) (fun X2 M2 v h => by obtain ⟨rfl, x, rfl, h⟩ := h; exact kk M2 x h)
theorem wp_cvv {y2 : Md} {n ci idx b : Nat} {as rest : List Value} {Q1 : Mm → Prop} (hd : decode y.2.1 pc = .ok (.invokevirtual idx, 3)) (hw : CKv y.1.cls idx y2 n ci) (hb : xK X b = ci) (hn : as.length = n) (hst : st = as.reverse ++ .ref b :: rest) (hc8 : (rest.map fun v => v.category).sum ≤ 8) (hM : Cv G y2 d (.ref b :: as) X M Q1)
    (kk : ∀ M2, Q1 M2 → Wp G y (d + 1) 0 0 0 0 (pc + 3) lo rest X M2 Q) : Wp G y (d + 1) 0 0 0 0 pc lo st X M Q :=
  wp_callV hd hw hb hn hst hc8 (Nat.le_refl _) (Nat.le_refl _) hM (fun _ _ _ h => by rw [h.1]; rfl) (fun X2 M2 v h => by obtain ⟨rfl, rfl, h⟩ := h; exact kk M2 h)
theorem wp_csi {y2 : Md} {n idx : Nat} {as rest : List Value} {Q1 : Mm → Int32 → Prop} (hd : decode y.2.1 pc = .ok (.invokestatic idx, 3)) (hw : CKs y.1.cls idx y2 n) (hown : (0 : Nat) = 0) (hn : as.length = n) (hst : st = as.reverse ++ rest) (hc8 : (rest.map fun v => v.category).sum ≤ 8) (hM : Cn G y2 d as X M Q1)
    (kk : ∀ M2 x, Q1 M2 x → Wp G y (d + 1) 0 0 0 0 (pc + 3) lo (.int x :: rest) X M2 Q) : Wp G y (d + 1) 0 0 0 0 pc lo st X M Q :=
  wp_callS hd hw hn hst hc8 (Nat.le_refl _) (Nat.le_refl _) hM (fun _ _ _ h => by rw [h.1]; rfl) (fun X2 M2 v h => by obtain ⟨rfl, x, rfl, h⟩ := h; exact kk M2 x h)
theorem wp_cni {y2 : Md} {n idx : Nat} {as rest : List Value} {Q1 : Mm → Int32 → Prop} (hd : decode y.2.1 pc = .ok (.invokestatic idx, 3)) (hw : CKn y.1.cls idx y2 n) (hn : as.length = n) (hst : st = as.reverse ++ rest) (hc8 : (rest.map fun v => v.category).sum ≤ 8) (hM : Cn G y2 d as X M Q1)
    (kk : ∀ M2 x, Q1 M2 x → Wp G y (d + 1) 0 0 0 0 (pc + 3) lo (.int x :: rest) X M2 Q) : Wp G y (d + 1) 0 0 0 0 pc lo st X M Q :=
  wp_callN hd hw hn hst hc8 (Nat.le_refl _) (Nat.le_refl _) hM (fun _ _ _ h => by rw [h.1]; rfl) (fun X2 M2 v h => by obtain ⟨rfl, x, rfl, h⟩ := h; exact kk M2 x h)
/-- a table's default, where some of its places lead there too -/
theorem tbl_def {dflt tl th : Int} {offs : Array Int} {len : Nat} {x : Int32} {tgt : Nat} (hd : decode y.2.1 pc = .ok (.tableswitch dflt tl th offs, len)) (vs : List Int) (ht : (pc : Int) + dflt = (tgt : Int)) (ho : ∀ i : Nat, (i : Int) ≤ th - tl → offs[i]? = some dflt ∨ (tl + i) ∈ vs) (hv : ∀ v ∈ vs, x.toInt ≠ v) (kk : Wp G y d mc ms ce sl tgt lo st X M Q) : Wp G y d mc ms ce sl pc lo (.int x :: st) X M Q := by
  by_cases h : x.toInt < tl ∨ th < x.toInt
  · exact wp_tblOut hd h ht kk
  · have h1 : ¬ x.toInt < tl := fun q => h (Or.inl q)
    have h2 : ¬ th < x.toInt := fun q => h (Or.inr q)
    rcases ho (x.toInt - tl).toNat (by omega) with h3 | h3
    · exact wp_tblIn hd h1 h2 h3 ht kk
    · exact absurd (by omega) (hv _ h3)
end BASE2
end
section
/-! the words of the tables, by their places -/
theorem uw0_0 : u_lay RX0 TX0 0 ∈ GW := (gw_1 (List.mem_of_getElem? (l := tables_1_1) (i := 60) (by decide +kernel)) rfl)
theorem uw0_1 : u_lay RX0 TX0 1 ∈ GW := (gw_1 (List.mem_of_getElem? (l := tables_1_1) (i := 62) (by decide +kernel)) rfl)
theorem uw0_2 : u_lay RX0 TX0 2 ∈ GW := (gw_1 (List.mem_of_getElem? (l := tables_1_1) (i := 64) (by decide +kernel)) rfl)
theorem uw0_3 : u_lay RX0 TX0 3 ∈ GW := (gw_1 (List.mem_of_getElem? (l := tables_1_1) (i := 66) (by decide +kernel)) rfl)
theorem uw0_4 : u_lay RX0 TX0 4 ∈ GW := (gw_1 (List.mem_of_getElem? (l := tables_1_1) (i := 68) (by decide +kernel)) rfl)
theorem uw0_5 : u_lay RX0 TX0 5 ∈ GW := (gw_1 (List.mem_of_getElem? (l := tables_1_1) (i := 70) (by decide +kernel)) rfl)
theorem uw0_6 : u_lay RX0 TX0 6 ∈ GW := (gw_1 (List.mem_of_getElem? (l := tables_1_1) (i := 72) (by decide +kernel)) rfl)
theorem uw0_7 : u_lay RX0 TX0 7 ∈ GW := (gw_1 (List.mem_of_getElem? (l := tables_1_1) (i := 74) (by decide +kernel)) rfl)
theorem uw0 : ∀ w ∈ u_ws RX0 TX0 8, w ∈ GW := by
  intro w hw
  obtain ⟨k, hk, rfl⟩ := List.mem_map.mp hw
  have hk := List.mem_range.mp hk
  match k, hk with
  | 0, _ => exact uw0_0
  | 1, _ => exact uw0_1
  | 2, _ => exact uw0_2
  | 3, _ => exact uw0_3
  | 4, _ => exact uw0_4
  | 5, _ => exact uw0_5
  | 6, _ => exact uw0_6
  | 7, _ => exact uw0_7
  | k + 8, h => omega
theorem uw1_0 : u_lay RX1 TX1 0 ∈ GW := (gw_1 (List.mem_of_getElem? (l := tables_1_1) (i := 156) (by decide +kernel)) rfl)
theorem uw1_1 : u_lay RX1 TX1 1 ∈ GW := (gw_1 (List.mem_of_getElem? (l := tables_1_1) (i := 158) (by decide +kernel)) rfl)
theorem uw1_2 : u_lay RX1 TX1 2 ∈ GW := (gw_1 (List.mem_of_getElem? (l := tables_1_1) (i := 160) (by decide +kernel)) rfl)
theorem uw1_3 : u_lay RX1 TX1 3 ∈ GW := (gw_1 (List.mem_of_getElem? (l := tables_1_1) (i := 162) (by decide +kernel)) rfl)
theorem uw1_4 : u_lay RX1 TX1 4 ∈ GW := (gw_1 (List.mem_of_getElem? (l := tables_1_1) (i := 164) (by decide +kernel)) rfl)
theorem uw1_5 : u_lay RX1 TX1 5 ∈ GW := (gw_1 (List.mem_of_getElem? (l := tables_1_1) (i := 166) (by decide +kernel)) rfl)
theorem uw1_6 : u_lay RX1 TX1 6 ∈ GW := (gw_1 (List.mem_of_getElem? (l := tables_1_1) (i := 168) (by decide +kernel)) rfl)
theorem uw1_7 : u_lay RX1 TX1 7 ∈ GW := (gw_1 (List.mem_of_getElem? (l := tables_1_1) (i := 170) (by decide +kernel)) rfl)
theorem uw1_8 : u_lay RX1 TX1 8 ∈ GW := (gw_1 (List.mem_of_getElem? (l := tables_1_1) (i := 172) (by decide +kernel)) rfl)
theorem uw1_9 : u_lay RX1 TX1 9 ∈ GW := (gw_1 (List.mem_of_getElem? (l := tables_1_1) (i := 174) (by decide +kernel)) rfl)
theorem uw1 : ∀ w ∈ u_ws RX1 TX1 10, w ∈ GW := by
  intro w hw
  obtain ⟨k, hk, rfl⟩ := List.mem_map.mp hw
  have hk := List.mem_range.mp hk
  match k, hk with
  | 0, _ => exact uw1_0
  | 1, _ => exact uw1_1
  | 2, _ => exact uw1_2
  | 3, _ => exact uw1_3
  | 4, _ => exact uw1_4
  | 5, _ => exact uw1_5
  | 6, _ => exact uw1_6
  | 7, _ => exact uw1_7
  | 8, _ => exact uw1_8
  | 9, _ => exact uw1_9
  | k + 10, h => omega
theorem uw2_0 : u_lay RX2 TX2 0 ∈ GW := (gw_2 (List.mem_of_getElem? (l := tables_1_2) (i := 7) (by decide +kernel)) rfl)
theorem uw2_1 : u_lay RX2 TX2 1 ∈ GW := (gw_2 (List.mem_of_getElem? (l := tables_1_2) (i := 9) (by decide +kernel)) rfl)
theorem uw2_2 : u_lay RX2 TX2 2 ∈ GW := (gw_2 (List.mem_of_getElem? (l := tables_1_2) (i := 11) (by decide +kernel)) rfl)
theorem uw2_3 : u_lay RX2 TX2 3 ∈ GW := (gw_2 (List.mem_of_getElem? (l := tables_1_2) (i := 13) (by decide +kernel)) rfl)
theorem uw2_4 : u_lay RX2 TX2 4 ∈ GW := (gw_2 (List.mem_of_getElem? (l := tables_1_2) (i := 15) (by decide +kernel)) rfl)
theorem uw2 : ∀ w ∈ u_ws RX2 TX2 5, w ∈ GW := by
  intro w hw
  obtain ⟨k, hk, rfl⟩ := List.mem_map.mp hw
  have hk := List.mem_range.mp hk
  match k, hk with
  | 0, _ => exact uw2_0
  | 1, _ => exact uw2_1
  | 2, _ => exact uw2_2
  | 3, _ => exact uw2_3
  | 4, _ => exact uw2_4
  | k + 5, h => omega
theorem uw3_0 : u_lay RX3 TX3 0 ∈ GW := (gw_1 (List.mem_of_getElem? (l := tables_1_1) (i := 228) (by decide +kernel)) rfl)
theorem uw3_1 : u_lay RX3 TX3 1 ∈ GW := (gw_1 (List.mem_of_getElem? (l := tables_1_1) (i := 230) (by decide +kernel)) rfl)
theorem uw3_2 : u_lay RX3 TX3 2 ∈ GW := (gw_1 (List.mem_of_getElem? (l := tables_1_1) (i := 232) (by decide +kernel)) rfl)
theorem uw3_3 : u_lay RX3 TX3 3 ∈ GW := (gw_1 (List.mem_of_getElem? (l := tables_1_1) (i := 234) (by decide +kernel)) rfl)
theorem uw3 : ∀ w ∈ u_ws RX3 TX3 4, w ∈ GW := by
  intro w hw
  obtain ⟨k, hk, rfl⟩ := List.mem_map.mp hw
  have hk := List.mem_range.mp hk
  match k, hk with
  | 0, _ => exact uw3_0
  | 1, _ => exact uw3_1
  | 2, _ => exact uw3_2
  | 3, _ => exact uw3_3
  | k + 4, h => omega
theorem uw4_0 : u_lay RX4 TX4 0 ∈ GW := (gw_1 (List.mem_of_getElem? (l := tables_1_1) (i := 116) (by decide +kernel)) rfl)
theorem uw4_1 : u_lay RX4 TX4 1 ∈ GW := (gw_1 (List.mem_of_getElem? (l := tables_1_1) (i := 118) (by decide +kernel)) rfl)
theorem uw4_2 : u_lay RX4 TX4 2 ∈ GW := (gw_1 (List.mem_of_getElem? (l := tables_1_1) (i := 120) (by decide +kernel)) rfl)
theorem uw4_3 : u_lay RX4 TX4 3 ∈ GW := (gw_1 (List.mem_of_getElem? (l := tables_1_1) (i := 122) (by decide +kernel)) rfl)
theorem uw4_4 : u_lay RX4 TX4 4 ∈ GW := (gw_1 (List.mem_of_getElem? (l := tables_1_1) (i := 124) (by decide +kernel)) rfl)
theorem uw4_5 : u_lay RX4 TX4 5 ∈ GW := (gw_1 (List.mem_of_getElem? (l := tables_1_1) (i := 126) (by decide +kernel)) rfl)
theorem uw4_6 : u_lay RX4 TX4 6 ∈ GW := (gw_1 (List.mem_of_getElem? (l := tables_1_1) (i := 128) (by decide +kernel)) rfl)
theorem uw4_7 : u_lay RX4 TX4 7 ∈ GW := (gw_1 (List.mem_of_getElem? (l := tables_1_1) (i := 130) (by decide +kernel)) rfl)
theorem uw4_8 : u_lay RX4 TX4 8 ∈ GW := (gw_1 (List.mem_of_getElem? (l := tables_1_1) (i := 132) (by decide +kernel)) rfl)
theorem uw4_9 : u_lay RX4 TX4 9 ∈ GW := (gw_1 (List.mem_of_getElem? (l := tables_1_1) (i := 134) (by decide +kernel)) rfl)
theorem uw4 : ∀ w ∈ u_ws RX4 TX4 10, w ∈ GW := by
  intro w hw
  obtain ⟨k, hk, rfl⟩ := List.mem_map.mp hw
  have hk := List.mem_range.mp hk
  match k, hk with
  | 0, _ => exact uw4_0
  | 1, _ => exact uw4_1
  | 2, _ => exact uw4_2
  | 3, _ => exact uw4_3
  | 4, _ => exact uw4_4
  | 5, _ => exact uw4_5
  | 6, _ => exact uw4_6
  | 7, _ => exact uw4_7
  | 8, _ => exact uw4_8
  | 9, _ => exact uw4_9
  | k + 10, h => omega
theorem uw5_0 : u_lay RX5 TX5 0 ∈ GW := (gw_2 (List.mem_of_getElem? (l := tables_1_2) (i := 96) (by decide +kernel)) rfl)
theorem uw5_1 : u_lay RX5 TX5 1 ∈ GW := (gw_2 (List.mem_of_getElem? (l := tables_1_2) (i := 98) (by decide +kernel)) rfl)
theorem uw5_2 : u_lay RX5 TX5 2 ∈ GW := (gw_2 (List.mem_of_getElem? (l := tables_1_2) (i := 100) (by decide +kernel)) rfl)
theorem uw5_3 : u_lay RX5 TX5 3 ∈ GW := (gw_2 (List.mem_of_getElem? (l := tables_1_2) (i := 102) (by decide +kernel)) rfl)
theorem uw5 : ∀ w ∈ u_ws RX5 TX5 4, w ∈ GW := by
  intro w hw
  obtain ⟨k, hk, rfl⟩ := List.mem_map.mp hw
  have hk := List.mem_range.mp hk
  match k, hk with
  | 0, _ => exact uw5_0
  | 1, _ => exact uw5_1
  | 2, _ => exact uw5_2
  | 3, _ => exact uw5_3
  | k + 4, h => omega
theorem uw6_0 : u_lay RX6 TX6 0 ∈ GW := (gw_2 (List.mem_of_getElem? (l := tables_1_2) (i := 122) (by decide +kernel)) rfl)
theorem uw6_1 : u_lay RX6 TX6 1 ∈ GW := (gw_2 (List.mem_of_getElem? (l := tables_1_2) (i := 124) (by decide +kernel)) rfl)
theorem uw6_2 : u_lay RX6 TX6 2 ∈ GW := (gw_2 (List.mem_of_getElem? (l := tables_1_2) (i := 126) (by decide +kernel)) rfl)
theorem uw6_3 : u_lay RX6 TX6 3 ∈ GW := (gw_2 (List.mem_of_getElem? (l := tables_1_2) (i := 128) (by decide +kernel)) rfl)
theorem uw6_4 : u_lay RX6 TX6 4 ∈ GW := (gw_2 (List.mem_of_getElem? (l := tables_1_2) (i := 130) (by decide +kernel)) rfl)
theorem uw6 : ∀ w ∈ u_ws RX6 TX6 5, w ∈ GW := by
  intro w hw
  obtain ⟨k, hk, rfl⟩ := List.mem_map.mp hw
  have hk := List.mem_range.mp hk
  match k, hk with
  | 0, _ => exact uw6_0
  | 1, _ => exact uw6_1
  | 2, _ => exact uw6_2
  | 3, _ => exact uw6_3
  | 4, _ => exact uw6_4
  | k + 5, h => omega
theorem uw7_0 : u_lay RX8 TX8 0 ∈ GW := (gw_2 (List.mem_of_getElem? (l := tables_1_2) (i := 48) (by decide +kernel)) rfl)
theorem uw7_1 : u_lay RX8 TX8 1 ∈ GW := (gw_2 (List.mem_of_getElem? (l := tables_1_2) (i := 50) (by decide +kernel)) rfl)
theorem uw7_2 : u_lay RX8 TX8 2 ∈ GW := (gw_2 (List.mem_of_getElem? (l := tables_1_2) (i := 52) (by decide +kernel)) rfl)
theorem uw7_3 : u_lay RX8 TX8 3 ∈ GW := (gw_2 (List.mem_of_getElem? (l := tables_1_2) (i := 54) (by decide +kernel)) rfl)
theorem uw7_4 : u_lay RX8 TX8 4 ∈ GW := (gw_2 (List.mem_of_getElem? (l := tables_1_2) (i := 56) (by decide +kernel)) rfl)
theorem uw7_5 : u_lay RX8 TX8 5 ∈ GW := (gw_2 (List.mem_of_getElem? (l := tables_1_2) (i := 58) (by decide +kernel)) rfl)
theorem uw7_6 : u_lay RX8 TX8 6 ∈ GW := (gw_2 (List.mem_of_getElem? (l := tables_1_2) (i := 60) (by decide +kernel)) rfl)
theorem uw7_7 : u_lay RX8 TX8 7 ∈ GW := (gw_2 (List.mem_of_getElem? (l := tables_1_2) (i := 62) (by decide +kernel)) rfl)
theorem uw7_8 : u_lay RX8 TX8 8 ∈ GW := (gw_2 (List.mem_of_getElem? (l := tables_1_2) (i := 64) (by decide +kernel)) rfl)
theorem uw7_9 : u_lay RX8 TX8 9 ∈ GW := (gw_2 (List.mem_of_getElem? (l := tables_1_2) (i := 66) (by decide +kernel)) rfl)
theorem uw7_10 : u_lay RX8 TX8 10 ∈ GW := (gw_2 (List.mem_of_getElem? (l := tables_1_2) (i := 68) (by decide +kernel)) rfl)
theorem uw7_11 : u_lay RX8 TX8 11 ∈ GW := (gw_2 (List.mem_of_getElem? (l := tables_1_2) (i := 70) (by decide +kernel)) rfl)
theorem uw7_12 : u_lay RX8 TX8 12 ∈ GW := (gw_2 (List.mem_of_getElem? (l := tables_1_2) (i := 72) (by decide +kernel)) rfl)
theorem uw7_13 : u_lay RX8 TX8 13 ∈ GW := (gw_2 (List.mem_of_getElem? (l := tables_1_2) (i := 74) (by decide +kernel)) rfl)
theorem uw7_14 : u_lay RX8 TX8 14 ∈ GW := (gw_2 (List.mem_of_getElem? (l := tables_1_2) (i := 76) (by decide +kernel)) rfl)
theorem uw7_15 : u_lay RX8 TX8 15 ∈ GW := (gw_2 (List.mem_of_getElem? (l := tables_1_2) (i := 78) (by decide +kernel)) rfl)
theorem uw7 : ∀ w ∈ u_ws RX8 TX8 16, w ∈ GW := by
  intro w hw
  obtain ⟨k, hk, rfl⟩ := List.mem_map.mp hw
  have hk := List.mem_range.mp hk
  match k, hk with
  | 0, _ => exact uw7_0
  | 1, _ => exact uw7_1
  | 2, _ => exact uw7_2
  | 3, _ => exact uw7_3
  | 4, _ => exact uw7_4
  | 5, _ => exact uw7_5
  | 6, _ => exact uw7_6
  | 7, _ => exact uw7_7
  | 8, _ => exact uw7_8
  | 9, _ => exact uw7_9
  | 10, _ => exact uw7_10
  | 11, _ => exact uw7_11
  | 12, _ => exact uw7_12
  | 13, _ => exact uw7_13
  | 14, _ => exact uw7_14
  | 15, _ => exact uw7_15
  | k + 16, h => omega
theorem uw8_0 : u_lay RX9 TX9 0 ∈ GW := (gw_1 (List.mem_of_getElem? (l := tables_1_1) (i := 198) (by decide +kernel)) rfl)
theorem uw8_1 : u_lay RX9 TX9 1 ∈ GW := (gw_1 (List.mem_of_getElem? (l := tables_1_1) (i := 200) (by decide +kernel)) rfl)
theorem uw8_2 : u_lay RX9 TX9 2 ∈ GW := (gw_1 (List.mem_of_getElem? (l := tables_1_1) (i := 202) (by decide +kernel)) rfl)
theorem uw8_3 : u_lay RX9 TX9 3 ∈ GW := (gw_1 (List.mem_of_getElem? (l := tables_1_1) (i := 204) (by decide +kernel)) rfl)
theorem uw8_4 : u_lay RX9 TX9 4 ∈ GW := (gw_1 (List.mem_of_getElem? (l := tables_1_1) (i := 206) (by decide +kernel)) rfl)
theorem uw8_5 : u_lay RX9 TX9 5 ∈ GW := (gw_1 (List.mem_of_getElem? (l := tables_1_1) (i := 208) (by decide +kernel)) rfl)
theorem uw8_6 : u_lay RX9 TX9 6 ∈ GW := (gw_1 (List.mem_of_getElem? (l := tables_1_1) (i := 210) (by decide +kernel)) rfl)
theorem uw8_7 : u_lay RX9 TX9 7 ∈ GW := (gw_1 (List.mem_of_getElem? (l := tables_1_1) (i := 212) (by decide +kernel)) rfl)
theorem uw8 : ∀ w ∈ u_ws RX9 TX9 8, w ∈ GW := by
  intro w hw
  obtain ⟨k, hk, rfl⟩ := List.mem_map.mp hw
  have hk := List.mem_range.mp hk
  match k, hk with
  | 0, _ => exact uw8_0
  | 1, _ => exact uw8_1
  | 2, _ => exact uw8_2
  | 3, _ => exact uw8_3
  | 4, _ => exact uw8_4
  | 5, _ => exact uw8_5
  | 6, _ => exact uw8_6
  | 7, _ => exact uw8_7
  | k + 8, h => omega
theorem uw9_0 : u_lay RX10 TX10 0 ∈ GW := (gw_2 (List.mem_of_getElem? (l := tables_1_2) (i := 142) (by decide +kernel)) rfl)
theorem uw9_1 : u_lay RX10 TX10 1 ∈ GW := (gw_2 (List.mem_of_getElem? (l := tables_1_2) (i := 144) (by decide +kernel)) rfl)
theorem uw9_2 : u_lay RX10 TX10 2 ∈ GW := (gw_2 (List.mem_of_getElem? (l := tables_1_2) (i := 146) (by decide +kernel)) rfl)
theorem uw9_3 : u_lay RX10 TX10 3 ∈ GW := (gw_2 (List.mem_of_getElem? (l := tables_1_2) (i := 148) (by decide +kernel)) rfl)
theorem uw9_4 : u_lay RX10 TX10 4 ∈ GW := (gw_2 (List.mem_of_getElem? (l := tables_1_2) (i := 150) (by decide +kernel)) rfl)
theorem uw9_5 : u_lay RX10 TX10 5 ∈ GW := (gw_2 (List.mem_of_getElem? (l := tables_1_2) (i := 152) (by decide +kernel)) rfl)
theorem uw9_6 : u_lay RX10 TX10 6 ∈ GW := (gw_2 (List.mem_of_getElem? (l := tables_1_2) (i := 154) (by decide +kernel)) rfl)
theorem uw9_7 : u_lay RX10 TX10 7 ∈ GW := (gw_2 (List.mem_of_getElem? (l := tables_1_2) (i := 156) (by decide +kernel)) rfl)
theorem uw9_8 : u_lay RX10 TX10 8 ∈ GW := (gw_2 (List.mem_of_getElem? (l := tables_1_2) (i := 158) (by decide +kernel)) rfl)
theorem uw9 : ∀ w ∈ u_ws RX10 TX10 9, w ∈ GW := by
  intro w hw
  obtain ⟨k, hk, rfl⟩ := List.mem_map.mp hw
  have hk := List.mem_range.mp hk
  match k, hk with
  | 0, _ => exact uw9_0
  | 1, _ => exact uw9_1
  | 2, _ => exact uw9_2
  | 3, _ => exact uw9_3
  | 4, _ => exact uw9_4
  | 5, _ => exact uw9_5
  | 6, _ => exact uw9_6
  | 7, _ => exact uw9_7
  | 8, _ => exact uw9_8
  | k + 9, h => omega
theorem uw10_0 : u_lay RX11 TX11 0 ∈ GW := (gw_5 (List.mem_of_getElem? (l := tables_1_5) (i := 196) (by decide +kernel)) rfl)
theorem uw10_1 : u_lay RX11 TX11 1 ∈ GW := (gw_5 (List.mem_of_getElem? (l := tables_1_5) (i := 198) (by decide +kernel)) rfl)
theorem uw10_2 : u_lay RX11 TX11 2 ∈ GW := (gw_5 (List.mem_of_getElem? (l := tables_1_5) (i := 200) (by decide +kernel)) rfl)
theorem uw10_3 : u_lay RX11 TX11 3 ∈ GW := (gw_5 (List.mem_of_getElem? (l := tables_1_5) (i := 202) (by decide +kernel)) rfl)
theorem uw10_4 : u_lay RX11 TX11 4 ∈ GW := (gw_5 (List.mem_of_getElem? (l := tables_1_5) (i := 204) (by decide +kernel)) rfl)
theorem uw10_5 : u_lay RX11 TX11 5 ∈ GW := (gw_5 (List.mem_of_getElem? (l := tables_1_5) (i := 206) (by decide +kernel)) rfl)
theorem uw10_6 : u_lay RX11 TX11 6 ∈ GW := (gw_5 (List.mem_of_getElem? (l := tables_1_5) (i := 208) (by decide +kernel)) rfl)
theorem uw10_7 : u_lay RX11 TX11 7 ∈ GW := (gw_5 (List.mem_of_getElem? (l := tables_1_5) (i := 210) (by decide +kernel)) rfl)
theorem uw10_8 : u_lay RX11 TX11 8 ∈ GW := (gw_5 (List.mem_of_getElem? (l := tables_1_5) (i := 212) (by decide +kernel)) rfl)
theorem uw10_9 : u_lay RX11 TX11 9 ∈ GW := (gw_5 (List.mem_of_getElem? (l := tables_1_5) (i := 214) (by decide +kernel)) rfl)
theorem uw10_10 : u_lay RX11 TX11 10 ∈ GW := (gw_5 (List.mem_of_getElem? (l := tables_1_5) (i := 216) (by decide +kernel)) rfl)
theorem uw10_11 : u_lay RX11 TX11 11 ∈ GW := (gw_5 (List.mem_of_getElem? (l := tables_1_5) (i := 218) (by decide +kernel)) rfl)
theorem uw10_12 : u_lay RX11 TX11 12 ∈ GW := (gw_5 (List.mem_of_getElem? (l := tables_1_5) (i := 220) (by decide +kernel)) rfl)
theorem uw10_13 : u_lay RX11 TX11 13 ∈ GW := (gw_5 (List.mem_of_getElem? (l := tables_1_5) (i := 222) (by decide +kernel)) rfl)
theorem uw10_14 : u_lay RX11 TX11 14 ∈ GW := (gw_5 (List.mem_of_getElem? (l := tables_1_5) (i := 224) (by decide +kernel)) rfl)
theorem uw10_15 : u_lay RX11 TX11 15 ∈ GW := (gw_5 (List.mem_of_getElem? (l := tables_1_5) (i := 226) (by decide +kernel)) rfl)
theorem uw10_16 : u_lay RX11 TX11 16 ∈ GW := (gw_5 (List.mem_of_getElem? (l := tables_1_5) (i := 228) (by decide +kernel)) rfl)
theorem uw10_17 : u_lay RX11 TX11 17 ∈ GW := (gw_5 (List.mem_of_getElem? (l := tables_1_5) (i := 230) (by decide +kernel)) rfl)
theorem uw10_18 : u_lay RX11 TX11 18 ∈ GW := (gw_5 (List.mem_of_getElem? (l := tables_1_5) (i := 232) (by decide +kernel)) rfl)
theorem uw10_19 : u_lay RX11 TX11 19 ∈ GW := (gw_5 (List.mem_of_getElem? (l := tables_1_5) (i := 234) (by decide +kernel)) rfl)
theorem uw10_20 : u_lay RX11 TX11 20 ∈ GW := (gw_5 (List.mem_of_getElem? (l := tables_1_5) (i := 236) (by decide +kernel)) rfl)
theorem uw10_21 : u_lay RX11 TX11 21 ∈ GW := (gw_5 (List.mem_of_getElem? (l := tables_1_5) (i := 238) (by decide +kernel)) rfl)
theorem uw10_22 : u_lay RX11 TX11 22 ∈ GW := (gw_6 (List.mem_of_getElem? (l := tables_1_6) (i := 0) (by decide +kernel)) rfl)
theorem uw10_23 : u_lay RX11 TX11 23 ∈ GW := (gw_6 (List.mem_of_getElem? (l := tables_1_6) (i := 2) (by decide +kernel)) rfl)
theorem uw10_24 : u_lay RX11 TX11 24 ∈ GW := (gw_6 (List.mem_of_getElem? (l := tables_1_6) (i := 4) (by decide +kernel)) rfl)
theorem uw10_25 : u_lay RX11 TX11 25 ∈ GW := (gw_6 (List.mem_of_getElem? (l := tables_1_6) (i := 6) (by decide +kernel)) rfl)
theorem uw10_26 : u_lay RX11 TX11 26 ∈ GW := (gw_6 (List.mem_of_getElem? (l := tables_1_6) (i := 8) (by decide +kernel)) rfl)
theorem uw10_27 : u_lay RX11 TX11 27 ∈ GW := (gw_6 (List.mem_of_getElem? (l := tables_1_6) (i := 10) (by decide +kernel)) rfl)
theorem uw10_28 : u_lay RX11 TX11 28 ∈ GW := (gw_6 (List.mem_of_getElem? (l := tables_1_6) (i := 12) (by decide +kernel)) rfl)
theorem uw10_29 : u_lay RX11 TX11 29 ∈ GW := (gw_6 (List.mem_of_getElem? (l := tables_1_6) (i := 14) (by decide +kernel)) rfl)
theorem uw10_30 : u_lay RX11 TX11 30 ∈ GW := (gw_6 (List.mem_of_getElem? (l := tables_1_6) (i := 16) (by decide +kernel)) rfl)
theorem uw10_31 : u_lay RX11 TX11 31 ∈ GW := (gw_6 (List.mem_of_getElem? (l := tables_1_6) (i := 18) (by decide +kernel)) rfl)
theorem uw10_32 : u_lay RX11 TX11 32 ∈ GW := (gw_6 (List.mem_of_getElem? (l := tables_1_6) (i := 20) (by decide +kernel)) rfl)
theorem uw10_33 : u_lay RX11 TX11 33 ∈ GW := (gw_6 (List.mem_of_getElem? (l := tables_1_6) (i := 22) (by decide +kernel)) rfl)
theorem uw10_34 : u_lay RX11 TX11 34 ∈ GW := (gw_6 (List.mem_of_getElem? (l := tables_1_6) (i := 24) (by decide +kernel)) rfl)
theorem uw10_35 : u_lay RX11 TX11 35 ∈ GW := (gw_6 (List.mem_of_getElem? (l := tables_1_6) (i := 26) (by decide +kernel)) rfl)
theorem uw10 : ∀ w ∈ u_ws RX11 TX11 36, w ∈ GW := by
  intro w hw
  obtain ⟨k, hk, rfl⟩ := List.mem_map.mp hw
  have hk := List.mem_range.mp hk
  match k, hk with
  | 0, _ => exact uw10_0
  | 1, _ => exact uw10_1
  | 2, _ => exact uw10_2
  | 3, _ => exact uw10_3
  | 4, _ => exact uw10_4
  | 5, _ => exact uw10_5
  | 6, _ => exact uw10_6
  | 7, _ => exact uw10_7
  | 8, _ => exact uw10_8
  | 9, _ => exact uw10_9
  | 10, _ => exact uw10_10
  | 11, _ => exact uw10_11
  | 12, _ => exact uw10_12
  | 13, _ => exact uw10_13
  | 14, _ => exact uw10_14
  | 15, _ => exact uw10_15
  | 16, _ => exact uw10_16
  | 17, _ => exact uw10_17
  | 18, _ => exact uw10_18
  | 19, _ => exact uw10_19
  | 20, _ => exact uw10_20
  | 21, _ => exact uw10_21
  | 22, _ => exact uw10_22
  | 23, _ => exact uw10_23
  | 24, _ => exact uw10_24
  | 25, _ => exact uw10_25
  | 26, _ => exact uw10_26
  | 27, _ => exact uw10_27
  | 28, _ => exact uw10_28
  | 29, _ => exact uw10_29
  | 30, _ => exact uw10_30
  | 31, _ => exact uw10_31
  | 32, _ => exact uw10_32
  | 33, _ => exact uw10_33
  | 34, _ => exact uw10_34
  | 35, _ => exact uw10_35
  | k + 36, h => omega
theorem fw_RX0_9 : Cond.fieldLink RX0 9 (TX0 0).1 (TX0 0).2.1 (TX0 0).2.2.1 ∈ GW := (gw_1 (List.mem_of_getElem? (l := tables_1_1) (i := 40) (by decide +kernel)) rfl)
theorem fl_RX0_9 : FLk RX0 9 0 0 := ⟨by decide, by decide, RX0, TX0, rfl, uw0, fw_RX0_9⟩
theorem fw_RX10_81 : Cond.fieldLink RX10 81 (TX0 0).1 (TX0 0).2.1 (TX0 0).2.2.1 ∈ GW := (gw_1 (List.mem_of_getElem? (l := tables_1_1) (i := 41) (by decide +kernel)) rfl)
theorem fl_RX10_81 : FLk RX10 81 0 0 := ⟨by decide, by decide, RX0, TX0, rfl, uw0, fw_RX10_81⟩
theorem fw_RX1_90 : Cond.fieldLink RX1 90 (TX0 0).1 (TX0 0).2.1 (TX0 0).2.2.1 ∈ GW := (gw_1 (List.mem_of_getElem? (l := tables_1_1) (i := 42) (by decide +kernel)) rfl)
theorem fl_RX1_90 : FLk RX1 90 0 0 := ⟨by decide, by decide, RX0, TX0, rfl, uw0, fw_RX1_90⟩
theorem fw_RX0_15 : Cond.fieldLink RX0 15 (TX0 1).1 (TX0 1).2.1 (TX0 1).2.2.1 ∈ GW := (gw_1 (List.mem_of_getElem? (l := tables_1_1) (i := 43) (by decide +kernel)) rfl)
theorem fl_RX0_15 : FLk RX0 15 0 1 := ⟨by decide, by decide, RX0, TX0, rfl, uw0, fw_RX0_15⟩
theorem fw_RX10_84 : Cond.fieldLink RX10 84 (TX0 1).1 (TX0 1).2.1 (TX0 1).2.2.1 ∈ GW := (gw_1 (List.mem_of_getElem? (l := tables_1_1) (i := 44) (by decide +kernel)) rfl)
theorem fl_RX10_84 : FLk RX10 84 0 1 := ⟨by decide, by decide, RX0, TX0, rfl, uw0, fw_RX10_84⟩
theorem fw_RX1_95 : Cond.fieldLink RX1 95 (TX0 1).1 (TX0 1).2.1 (TX0 1).2.2.1 ∈ GW := (gw_1 (List.mem_of_getElem? (l := tables_1_1) (i := 45) (by decide +kernel)) rfl)
theorem fl_RX1_95 : FLk RX1 95 0 1 := ⟨by decide, by decide, RX0, TX0, rfl, uw0, fw_RX1_95⟩
theorem fw_RX0_18 : Cond.fieldLink RX0 18 (TX0 2).1 (TX0 2).2.1 (TX0 2).2.2.1 ∈ GW := (gw_1 (List.mem_of_getElem? (l := tables_1_1) (i := 46) (by decide +kernel)) rfl)
theorem fl_RX0_18 : FLk RX0 18 0 2 := ⟨by decide, by decide, RX0, TX0, rfl, uw0, fw_RX0_18⟩
theorem fw_RX10_87 : Cond.fieldLink RX10 87 (TX0 2).1 (TX0 2).2.1 (TX0 2).2.2.1 ∈ GW := (gw_1 (List.mem_of_getElem? (l := tables_1_1) (i := 47) (by decide +kernel)) rfl)
theorem fl_RX10_87 : FLk RX10 87 0 2 := ⟨by decide, by decide, RX0, TX0, rfl, uw0, fw_RX10_87⟩
theorem fw_RX0_21 : Cond.fieldLink RX0 21 (TX0 3).1 (TX0 3).2.1 (TX0 3).2.2.1 ∈ GW := (gw_1 (List.mem_of_getElem? (l := tables_1_1) (i := 48) (by decide +kernel)) rfl)
theorem fl_RX0_21 : FLk RX0 21 0 3 := ⟨by decide, by decide, RX0, TX0, rfl, uw0, fw_RX0_21⟩
theorem fw_RX10_90 : Cond.fieldLink RX10 90 (TX0 3).1 (TX0 3).2.1 (TX0 3).2.2.1 ∈ GW := (gw_1 (List.mem_of_getElem? (l := tables_1_1) (i := 49) (by decide +kernel)) rfl)
theorem fl_RX10_90 : FLk RX10 90 0 3 := ⟨by decide, by decide, RX0, TX0, rfl, uw0, fw_RX10_90⟩
theorem fw_RX2_113 : Cond.fieldLink RX2 113 (TX0 3).1 (TX0 3).2.1 (TX0 3).2.2.1 ∈ GW := (gw_1 (List.mem_of_getElem? (l := tables_1_1) (i := 50) (by decide +kernel)) rfl)
theorem fl_RX2_113 : FLk RX2 113 0 3 := ⟨by decide, by decide, RX0, TX0, rfl, uw0, fw_RX2_113⟩
theorem fw_RX0_24 : Cond.fieldLink RX0 24 (TX0 4).1 (TX0 4).2.1 (TX0 4).2.2.1 ∈ GW := (gw_1 (List.mem_of_getElem? (l := tables_1_1) (i := 51) (by decide +kernel)) rfl)
theorem fl_RX0_24 : FLk RX0 24 0 4 := ⟨by decide, by decide, RX0, TX0, rfl, uw0, fw_RX0_24⟩
theorem fw_RX10_93 : Cond.fieldLink RX10 93 (TX0 4).1 (TX0 4).2.1 (TX0 4).2.2.1 ∈ GW := (gw_1 (List.mem_of_getElem? (l := tables_1_1) (i := 52) (by decide +kernel)) rfl)
theorem fl_RX10_93 : FLk RX10 93 0 4 := ⟨by decide, by decide, RX0, TX0, rfl, uw0, fw_RX10_93⟩
theorem fw_RX1_132 : Cond.fieldLink RX1 132 (TX0 4).1 (TX0 4).2.1 (TX0 4).2.2.1 ∈ GW := (gw_1 (List.mem_of_getElem? (l := tables_1_1) (i := 53) (by decide +kernel)) rfl)
theorem fl_RX1_132 : FLk RX1 132 0 4 := ⟨by decide, by decide, RX0, TX0, rfl, uw0, fw_RX1_132⟩
theorem fw_RX0_27 : Cond.fieldLink RX0 27 (TX0 5).1 (TX0 5).2.1 (TX0 5).2.2.1 ∈ GW := (gw_1 (List.mem_of_getElem? (l := tables_1_1) (i := 54) (by decide +kernel)) rfl)
theorem fl_RX0_27 : FLk RX0 27 0 5 := ⟨by decide, by decide, RX0, TX0, rfl, uw0, fw_RX0_27⟩
theorem fp_RX0_27 : FLu RX0 27 0 5 .int := ⟨by decide, by decide, RX0, TX0, tyX0, rfl, uw0, fw_RX0_27, rfl, tyX0_ok 5 (by decide), tyX0_ok, nmX0⟩
theorem fw_RX2_96 : Cond.fieldLink RX2 96 (TX0 5).1 (TX0 5).2.1 (TX0 5).2.2.1 ∈ GW := (gw_1 (List.mem_of_getElem? (l := tables_1_1) (i := 55) (by decide +kernel)) rfl)
theorem fl_RX2_96 : FLk RX2 96 0 5 := ⟨by decide, by decide, RX0, TX0, rfl, uw0, fw_RX2_96⟩
theorem fp_RX2_96 : FLu RX2 96 0 5 .int := ⟨by decide, by decide, RX0, TX0, tyX0, rfl, uw0, fw_RX2_96, rfl, tyX0_ok 5 (by decide), tyX0_ok, nmX0⟩
theorem fw_RX10_345 : Cond.fieldLink RX10 345 (TX0 5).1 (TX0 5).2.1 (TX0 5).2.2.1 ∈ GW := (gw_1 (List.mem_of_getElem? (l := tables_1_1) (i := 56) (by decide +kernel)) rfl)
theorem fl_RX10_345 : FLk RX10 345 0 5 := ⟨by decide, by decide, RX0, TX0, rfl, uw0, fw_RX10_345⟩
theorem fp_RX10_345 : FLu RX10 345 0 5 .int := ⟨by decide, by decide, RX0, TX0, tyX0, rfl, uw0, fw_RX10_345, rfl, tyX0_ok 5 (by decide), tyX0_ok, nmX0⟩
theorem fw_RX0_31 : Cond.fieldLink RX0 31 (TX0 6).1 (TX0 6).2.1 (TX0 6).2.2.1 ∈ GW := (gw_1 (List.mem_of_getElem? (l := tables_1_1) (i := 57) (by decide +kernel)) rfl)
theorem fl_RX0_31 : FLk RX0 31 0 6 := ⟨by decide, by decide, RX0, TX0, rfl, uw0, fw_RX0_31⟩
theorem fw_RX0_34 : Cond.fieldLink RX0 34 (TX0 7).1 (TX0 7).2.1 (TX0 7).2.2.1 ∈ GW := (gw_1 (List.mem_of_getElem? (l := tables_1_1) (i := 58) (by decide +kernel)) rfl)
theorem fl_RX0_34 : FLk RX0 34 0 7 := ⟨by decide, by decide, RX0, TX0, rfl, uw0, fw_RX0_34⟩
theorem fp_RX0_34 : FLu RX0 34 0 7 .int := ⟨by decide, by decide, RX0, TX0, tyX0, rfl, uw0, fw_RX0_34, rfl, tyX0_ok 7 (by decide), tyX0_ok, nmX0⟩
theorem fw_RX10_237 : Cond.fieldLink RX10 237 (TX0 7).1 (TX0 7).2.1 (TX0 7).2.2.1 ∈ GW := (gw_1 (List.mem_of_getElem? (l := tables_1_1) (i := 59) (by decide +kernel)) rfl)
theorem fl_RX10_237 : FLk RX10 237 0 7 := ⟨by decide, by decide, RX0, TX0, rfl, uw0, fw_RX10_237⟩
theorem fp_RX10_237 : FLu RX10 237 0 7 .int := ⟨by decide, by decide, RX0, TX0, tyX0, rfl, uw0, fw_RX10_237, rfl, tyX0_ok 7 (by decide), tyX0_ok, nmX0⟩
theorem fw_RX4_15 : Cond.fieldLink RX4 15 (TX4 0).1 (TX4 0).2.1 (TX4 0).2.2.1 ∈ GW := (gw_1 (List.mem_of_getElem? (l := tables_1_1) (i := 91) (by decide +kernel)) rfl)
theorem fl_RX4_15 : FLk RX4 15 4 0 := ⟨by decide, by decide, RX4, TX4, rfl, uw4, fw_RX4_15⟩
theorem fp_RX4_15 : FLu RX4 15 4 0 .int := ⟨by decide, by decide, RX4, TX4, tyX4, rfl, uw4, fw_RX4_15, rfl, tyX4_ok 0 (by decide), tyX4_ok, nmX4⟩
theorem fw_RX10_136 : Cond.fieldLink RX10 136 (TX4 0).1 (TX4 0).2.1 (TX4 0).2.2.1 ∈ GW := (gw_1 (List.mem_of_getElem? (l := tables_1_1) (i := 92) (by decide +kernel)) rfl)
theorem fl_RX10_136 : FLk RX10 136 4 0 := ⟨by decide, by decide, RX4, TX4, rfl, uw4, fw_RX10_136⟩
theorem fp_RX10_136 : FLu RX10 136 4 0 .int := ⟨by decide, by decide, RX4, TX4, tyX4, rfl, uw4, fw_RX10_136, rfl, tyX4_ok 0 (by decide), tyX4_ok, nmX4⟩
theorem fw_RX1_98 : Cond.fieldLink RX1 98 (TX4 0).1 (TX4 0).2.1 (TX4 0).2.2.1 ∈ GW := (gw_1 (List.mem_of_getElem? (l := tables_1_1) (i := 93) (by decide +kernel)) rfl)
theorem fl_RX1_98 : FLk RX1 98 4 0 := ⟨by decide, by decide, RX4, TX4, rfl, uw4, fw_RX1_98⟩
theorem fp_RX1_98 : FLu RX1 98 4 0 .int := ⟨by decide, by decide, RX4, TX4, tyX4, rfl, uw4, fw_RX1_98, rfl, tyX4_ok 0 (by decide), tyX4_ok, nmX4⟩
theorem fw_RX4_19 : Cond.fieldLink RX4 19 (TX4 1).1 (TX4 1).2.1 (TX4 1).2.2.1 ∈ GW := (gw_1 (List.mem_of_getElem? (l := tables_1_1) (i := 94) (by decide +kernel)) rfl)
theorem fl_RX4_19 : FLk RX4 19 4 1 := ⟨by decide, by decide, RX4, TX4, rfl, uw4, fw_RX4_19⟩
theorem fp_RX4_19 : FLu RX4 19 4 1 .int := ⟨by decide, by decide, RX4, TX4, tyX4, rfl, uw4, fw_RX4_19, rfl, tyX4_ok 1 (by decide), tyX4_ok, nmX4⟩
theorem fw_RX10_141 : Cond.fieldLink RX10 141 (TX4 1).1 (TX4 1).2.1 (TX4 1).2.2.1 ∈ GW := (gw_1 (List.mem_of_getElem? (l := tables_1_1) (i := 95) (by decide +kernel)) rfl)
theorem fl_RX10_141 : FLk RX10 141 4 1 := ⟨by decide, by decide, RX4, TX4, rfl, uw4, fw_RX10_141⟩
theorem fp_RX10_141 : FLu RX10 141 4 1 .int := ⟨by decide, by decide, RX4, TX4, tyX4, rfl, uw4, fw_RX10_141, rfl, tyX4_ok 1 (by decide), tyX4_ok, nmX4⟩
theorem fw_RX1_101 : Cond.fieldLink RX1 101 (TX4 1).1 (TX4 1).2.1 (TX4 1).2.2.1 ∈ GW := (gw_1 (List.mem_of_getElem? (l := tables_1_1) (i := 96) (by decide +kernel)) rfl)
theorem fl_RX1_101 : FLk RX1 101 4 1 := ⟨by decide, by decide, RX4, TX4, rfl, uw4, fw_RX1_101⟩
theorem fp_RX1_101 : FLu RX1 101 4 1 .int := ⟨by decide, by decide, RX4, TX4, tyX4, rfl, uw4, fw_RX1_101, rfl, tyX4_ok 1 (by decide), tyX4_ok, nmX4⟩
theorem fw_RX4_22 : Cond.fieldLink RX4 22 (TX4 2).1 (TX4 2).2.1 (TX4 2).2.2.1 ∈ GW := (gw_1 (List.mem_of_getElem? (l := tables_1_1) (i := 97) (by decide +kernel)) rfl)
theorem fl_RX4_22 : FLk RX4 22 4 2 := ⟨by decide, by decide, RX4, TX4, rfl, uw4, fw_RX4_22⟩
theorem fp_RX4_22 : FLu RX4 22 4 2 .int := ⟨by decide, by decide, RX4, TX4, tyX4, rfl, uw4, fw_RX4_22, rfl, tyX4_ok 2 (by decide), tyX4_ok, nmX4⟩
theorem fw_RX10_144 : Cond.fieldLink RX10 144 (TX4 2).1 (TX4 2).2.1 (TX4 2).2.2.1 ∈ GW := (gw_1 (List.mem_of_getElem? (l := tables_1_1) (i := 98) (by decide +kernel)) rfl)
theorem fl_RX10_144 : FLk RX10 144 4 2 := ⟨by decide, by decide, RX4, TX4, rfl, uw4, fw_RX10_144⟩
theorem fp_RX10_144 : FLu RX10 144 4 2 .int := ⟨by decide, by decide, RX4, TX4, tyX4, rfl, uw4, fw_RX10_144, rfl, tyX4_ok 2 (by decide), tyX4_ok, nmX4⟩
theorem fw_RX1_102 : Cond.fieldLink RX1 102 (TX4 2).1 (TX4 2).2.1 (TX4 2).2.2.1 ∈ GW := (gw_1 (List.mem_of_getElem? (l := tables_1_1) (i := 99) (by decide +kernel)) rfl)
theorem fl_RX1_102 : FLk RX1 102 4 2 := ⟨by decide, by decide, RX4, TX4, rfl, uw4, fw_RX1_102⟩
theorem fp_RX1_102 : FLu RX1 102 4 2 .int := ⟨by decide, by decide, RX4, TX4, tyX4, rfl, uw4, fw_RX1_102, rfl, tyX4_ok 2 (by decide), tyX4_ok, nmX4⟩
theorem fw_RX4_25 : Cond.fieldLink RX4 25 (TX4 3).1 (TX4 3).2.1 (TX4 3).2.2.1 ∈ GW := (gw_1 (List.mem_of_getElem? (l := tables_1_1) (i := 100) (by decide +kernel)) rfl)
theorem fl_RX4_25 : FLk RX4 25 4 3 := ⟨by decide, by decide, RX4, TX4, rfl, uw4, fw_RX4_25⟩
theorem fp_RX4_25 : FLu RX4 25 4 3 .int := ⟨by decide, by decide, RX4, TX4, tyX4, rfl, uw4, fw_RX4_25, rfl, tyX4_ok 3 (by decide), tyX4_ok, nmX4⟩
theorem fw_RX1_77 : Cond.fieldLink RX1 77 (TX4 3).1 (TX4 3).2.1 (TX4 3).2.2.1 ∈ GW := (gw_1 (List.mem_of_getElem? (l := tables_1_1) (i := 101) (by decide +kernel)) rfl)
theorem fl_RX1_77 : FLk RX1 77 4 3 := ⟨by decide, by decide, RX4, TX4, rfl, uw4, fw_RX1_77⟩
theorem fp_RX1_77 : FLu RX1 77 4 3 .int := ⟨by decide, by decide, RX4, TX4, tyX4, rfl, uw4, fw_RX1_77, rfl, tyX4_ok 3 (by decide), tyX4_ok, nmX4⟩
theorem fw_RX4_28 : Cond.fieldLink RX4 28 (TX4 4).1 (TX4 4).2.1 (TX4 4).2.2.1 ∈ GW := (gw_1 (List.mem_of_getElem? (l := tables_1_1) (i := 102) (by decide +kernel)) rfl)
theorem fl_RX4_28 : FLk RX4 28 4 4 := ⟨by decide, by decide, RX4, TX4, rfl, uw4, fw_RX4_28⟩
theorem fp_RX4_28 : FLu RX4 28 4 4 .int := ⟨by decide, by decide, RX4, TX4, tyX4, rfl, uw4, fw_RX4_28, rfl, tyX4_ok 4 (by decide), tyX4_ok, nmX4⟩
theorem fw_RX1_114 : Cond.fieldLink RX1 114 (TX4 4).1 (TX4 4).2.1 (TX4 4).2.2.1 ∈ GW := (gw_1 (List.mem_of_getElem? (l := tables_1_1) (i := 103) (by decide +kernel)) rfl)
theorem fl_RX1_114 : FLk RX1 114 4 4 := ⟨by decide, by decide, RX4, TX4, rfl, uw4, fw_RX1_114⟩
theorem fp_RX1_114 : FLu RX1 114 4 4 .int := ⟨by decide, by decide, RX4, TX4, tyX4, rfl, uw4, fw_RX1_114, rfl, tyX4_ok 4 (by decide), tyX4_ok, nmX4⟩
theorem fw_RX4_31 : Cond.fieldLink RX4 31 (TX4 5).1 (TX4 5).2.1 (TX4 5).2.2.1 ∈ GW := (gw_1 (List.mem_of_getElem? (l := tables_1_1) (i := 104) (by decide +kernel)) rfl)
theorem fl_RX4_31 : FLk RX4 31 4 5 := ⟨by decide, by decide, RX4, TX4, rfl, uw4, fw_RX4_31⟩
theorem fp_RX4_31 : FLu RX4 31 4 5 .int := ⟨by decide, by decide, RX4, TX4, tyX4, rfl, uw4, fw_RX4_31, rfl, tyX4_ok 5 (by decide), tyX4_ok, nmX4⟩
theorem fw_RX1_118 : Cond.fieldLink RX1 118 (TX4 5).1 (TX4 5).2.1 (TX4 5).2.2.1 ∈ GW := (gw_1 (List.mem_of_getElem? (l := tables_1_1) (i := 105) (by decide +kernel)) rfl)
theorem fl_RX1_118 : FLk RX1 118 4 5 := ⟨by decide, by decide, RX4, TX4, rfl, uw4, fw_RX1_118⟩
theorem fp_RX1_118 : FLu RX1 118 4 5 .int := ⟨by decide, by decide, RX4, TX4, tyX4, rfl, uw4, fw_RX1_118, rfl, tyX4_ok 5 (by decide), tyX4_ok, nmX4⟩
theorem fw_RX4_34 : Cond.fieldLink RX4 34 (TX4 6).1 (TX4 6).2.1 (TX4 6).2.2.1 ∈ GW := (gw_1 (List.mem_of_getElem? (l := tables_1_1) (i := 106) (by decide +kernel)) rfl)
theorem fl_RX4_34 : FLk RX4 34 4 6 := ⟨by decide, by decide, RX4, TX4, rfl, uw4, fw_RX4_34⟩
theorem fp_RX4_34 : FLu RX4 34 4 6 .int := ⟨by decide, by decide, RX4, TX4, tyX4, rfl, uw4, fw_RX4_34, rfl, tyX4_ok 6 (by decide), tyX4_ok, nmX4⟩
theorem fw_RX1_122 : Cond.fieldLink RX1 122 (TX4 6).1 (TX4 6).2.1 (TX4 6).2.2.1 ∈ GW := (gw_1 (List.mem_of_getElem? (l := tables_1_1) (i := 107) (by decide +kernel)) rfl)
theorem fl_RX1_122 : FLk RX1 122 4 6 := ⟨by decide, by decide, RX4, TX4, rfl, uw4, fw_RX1_122⟩
theorem fp_RX1_122 : FLu RX1 122 4 6 .int := ⟨by decide, by decide, RX4, TX4, tyX4, rfl, uw4, fw_RX1_122, rfl, tyX4_ok 6 (by decide), tyX4_ok, nmX4⟩
theorem fw_RX4_37 : Cond.fieldLink RX4 37 (TX4 7).1 (TX4 7).2.1 (TX4 7).2.2.1 ∈ GW := (gw_1 (List.mem_of_getElem? (l := tables_1_1) (i := 108) (by decide +kernel)) rfl)
theorem fl_RX4_37 : FLk RX4 37 4 7 := ⟨by decide, by decide, RX4, TX4, rfl, uw4, fw_RX4_37⟩
theorem fp_RX4_37 : FLu RX4 37 4 7 .int := ⟨by decide, by decide, RX4, TX4, tyX4, rfl, uw4, fw_RX4_37, rfl, tyX4_ok 7 (by decide), tyX4_ok, nmX4⟩
theorem fw_RX1_126 : Cond.fieldLink RX1 126 (TX4 7).1 (TX4 7).2.1 (TX4 7).2.2.1 ∈ GW := (gw_1 (List.mem_of_getElem? (l := tables_1_1) (i := 109) (by decide +kernel)) rfl)
theorem fl_RX1_126 : FLk RX1 126 4 7 := ⟨by decide, by decide, RX4, TX4, rfl, uw4, fw_RX1_126⟩
theorem fp_RX1_126 : FLu RX1 126 4 7 .int := ⟨by decide, by decide, RX4, TX4, tyX4, rfl, uw4, fw_RX1_126, rfl, tyX4_ok 7 (by decide), tyX4_ok, nmX4⟩
theorem fw_RX4_40 : Cond.fieldLink RX4 40 (TX4 8).1 (TX4 8).2.1 (TX4 8).2.2.1 ∈ GW := (gw_1 (List.mem_of_getElem? (l := tables_1_1) (i := 110) (by decide +kernel)) rfl)
theorem fl_RX4_40 : FLk RX4 40 4 8 := ⟨by decide, by decide, RX4, TX4, rfl, uw4, fw_RX4_40⟩
theorem fp_RX4_40 : FLu RX4 40 4 8 .int := ⟨by decide, by decide, RX4, TX4, tyX4, rfl, uw4, fw_RX4_40, rfl, tyX4_ok 8 (by decide), tyX4_ok, nmX4⟩
theorem fw_RX10_146 : Cond.fieldLink RX10 146 (TX4 8).1 (TX4 8).2.1 (TX4 8).2.2.1 ∈ GW := (gw_1 (List.mem_of_getElem? (l := tables_1_1) (i := 111) (by decide +kernel)) rfl)
theorem fl_RX10_146 : FLk RX10 146 4 8 := ⟨by decide, by decide, RX4, TX4, rfl, uw4, fw_RX10_146⟩
theorem fp_RX10_146 : FLu RX10 146 4 8 .int := ⟨by decide, by decide, RX4, TX4, tyX4, rfl, uw4, fw_RX10_146, rfl, tyX4_ok 8 (by decide), tyX4_ok, nmX4⟩
theorem fw_RX1_129 : Cond.fieldLink RX1 129 (TX4 8).1 (TX4 8).2.1 (TX4 8).2.2.1 ∈ GW := (gw_1 (List.mem_of_getElem? (l := tables_1_1) (i := 112) (by decide +kernel)) rfl)
theorem fl_RX1_129 : FLk RX1 129 4 8 := ⟨by decide, by decide, RX4, TX4, rfl, uw4, fw_RX1_129⟩
theorem fp_RX1_129 : FLu RX1 129 4 8 .int := ⟨by decide, by decide, RX4, TX4, tyX4, rfl, uw4, fw_RX1_129, rfl, tyX4_ok 8 (by decide), tyX4_ok, nmX4⟩
theorem fw_RX4_9 : Cond.fieldLink RX4 9 (TX4 9).1 (TX4 9).2.1 (TX4 9).2.2.1 ∈ GW := (gw_1 (List.mem_of_getElem? (l := tables_1_1) (i := 113) (by decide +kernel)) rfl)
theorem fl_RX4_9 : FLk RX4 9 4 9 := ⟨by decide, by decide, RX4, TX4, rfl, uw4, fw_RX4_9⟩
theorem fw_RX1_74 : Cond.fieldLink RX1 74 (TX4 9).1 (TX4 9).2.1 (TX4 9).2.2.1 ∈ GW := (gw_1 (List.mem_of_getElem? (l := tables_1_1) (i := 114) (by decide +kernel)) rfl)
theorem fl_RX1_74 : FLk RX1 74 4 9 := ⟨by decide, by decide, RX4, TX4, rfl, uw4, fw_RX1_74⟩
theorem fw_RX10_149 : Cond.fieldLink RX10 149 (TX4 9).1 (TX4 9).2.1 (TX4 9).2.2.1 ∈ GW := (gw_1 (List.mem_of_getElem? (l := tables_1_1) (i := 115) (by decide +kernel)) rfl)
theorem fl_RX10_149 : FLk RX10 149 4 9 := ⟨by decide, by decide, RX4, TX4, rfl, uw4, fw_RX10_149⟩
theorem fw_RX1_9 : Cond.fieldLink RX1 9 (TX1 0).1 (TX1 0).2.1 (TX1 0).2.2.1 ∈ GW := (gw_1 (List.mem_of_getElem? (l := tables_1_1) (i := 137) (by decide +kernel)) rfl)
theorem fl_RX1_9 : FLk RX1 9 1 0 := ⟨by decide, by decide, RX1, TX1, rfl, uw1, fw_RX1_9⟩
theorem fp_RX1_9 : FLu RX1 9 1 0 .int := ⟨by decide, by decide, RX1, TX1, tyX1, rfl, uw1, fw_RX1_9, rfl, tyX1_ok 0 (by decide), tyX1_ok, nmX1⟩
theorem fw_RX2_74 : Cond.fieldLink RX2 74 (TX1 0).1 (TX1 0).2.1 (TX1 0).2.2.1 ∈ GW := (gw_1 (List.mem_of_getElem? (l := tables_1_1) (i := 138) (by decide +kernel)) rfl)
theorem fl_RX2_74 : FLk RX2 74 1 0 := ⟨by decide, by decide, RX1, TX1, rfl, uw1, fw_RX2_74⟩
theorem fp_RX2_74 : FLu RX2 74 1 0 .int := ⟨by decide, by decide, RX1, TX1, tyX1, rfl, uw1, fw_RX2_74, rfl, tyX1_ok 0 (by decide), tyX1_ok, nmX1⟩
theorem fw_RX10_172 : Cond.fieldLink RX10 172 (TX1 0).1 (TX1 0).2.1 (TX1 0).2.2.1 ∈ GW := (gw_1 (List.mem_of_getElem? (l := tables_1_1) (i := 139) (by decide +kernel)) rfl)
theorem fl_RX10_172 : FLk RX10 172 1 0 := ⟨by decide, by decide, RX1, TX1, rfl, uw1, fw_RX10_172⟩
theorem fp_RX10_172 : FLu RX10 172 1 0 .int := ⟨by decide, by decide, RX1, TX1, tyX1, rfl, uw1, fw_RX10_172, rfl, tyX1_ok 0 (by decide), tyX1_ok, nmX1⟩
theorem fw_RX1_15 : Cond.fieldLink RX1 15 (TX1 1).1 (TX1 1).2.1 (TX1 1).2.2.1 ∈ GW := (gw_1 (List.mem_of_getElem? (l := tables_1_1) (i := 140) (by decide +kernel)) rfl)
theorem fl_RX1_15 : FLk RX1 15 1 1 := ⟨by decide, by decide, RX1, TX1, rfl, uw1, fw_RX1_15⟩
theorem fp_RX1_15 : FLu RX1 15 1 1 .int := ⟨by decide, by decide, RX1, TX1, tyX1, rfl, uw1, fw_RX1_15, rfl, tyX1_ok 1 (by decide), tyX1_ok, nmX1⟩
theorem fw_RX2_86 : Cond.fieldLink RX2 86 (TX1 1).1 (TX1 1).2.1 (TX1 1).2.2.1 ∈ GW := (gw_1 (List.mem_of_getElem? (l := tables_1_1) (i := 141) (by decide +kernel)) rfl)
theorem fl_RX2_86 : FLk RX2 86 1 1 := ⟨by decide, by decide, RX1, TX1, rfl, uw1, fw_RX2_86⟩
theorem fp_RX2_86 : FLu RX2 86 1 1 .int := ⟨by decide, by decide, RX1, TX1, tyX1, rfl, uw1, fw_RX2_86, rfl, tyX1_ok 1 (by decide), tyX1_ok, nmX1⟩
theorem fw_RX10_181 : Cond.fieldLink RX10 181 (TX1 1).1 (TX1 1).2.1 (TX1 1).2.2.1 ∈ GW := (gw_1 (List.mem_of_getElem? (l := tables_1_1) (i := 142) (by decide +kernel)) rfl)
theorem fl_RX10_181 : FLk RX10 181 1 1 := ⟨by decide, by decide, RX1, TX1, rfl, uw1, fw_RX10_181⟩
theorem fp_RX10_181 : FLu RX10 181 1 1 .int := ⟨by decide, by decide, RX1, TX1, tyX1, rfl, uw1, fw_RX10_181, rfl, tyX1_ok 1 (by decide), tyX1_ok, nmX1⟩
theorem fw_RX1_18 : Cond.fieldLink RX1 18 (TX1 2).1 (TX1 2).2.1 (TX1 2).2.2.1 ∈ GW := (gw_1 (List.mem_of_getElem? (l := tables_1_1) (i := 143) (by decide +kernel)) rfl)
theorem fl_RX1_18 : FLk RX1 18 1 2 := ⟨by decide, by decide, RX1, TX1, rfl, uw1, fw_RX1_18⟩
theorem fp_RX1_18 : FLu RX1 18 1 2 .int := ⟨by decide, by decide, RX1, TX1, tyX1, rfl, uw1, fw_RX1_18, rfl, tyX1_ok 2 (by decide), tyX1_ok, nmX1⟩
theorem fw_RX10_184 : Cond.fieldLink RX10 184 (TX1 2).1 (TX1 2).2.1 (TX1 2).2.2.1 ∈ GW := (gw_1 (List.mem_of_getElem? (l := tables_1_1) (i := 144) (by decide +kernel)) rfl)
theorem fl_RX10_184 : FLk RX10 184 1 2 := ⟨by decide, by decide, RX1, TX1, rfl, uw1, fw_RX10_184⟩
theorem fp_RX10_184 : FLu RX10 184 1 2 .int := ⟨by decide, by decide, RX1, TX1, tyX1, rfl, uw1, fw_RX10_184, rfl, tyX1_ok 2 (by decide), tyX1_ok, nmX1⟩
theorem fw_RX1_21 : Cond.fieldLink RX1 21 (TX1 3).1 (TX1 3).2.1 (TX1 3).2.2.1 ∈ GW := (gw_1 (List.mem_of_getElem? (l := tables_1_1) (i := 145) (by decide +kernel)) rfl)
theorem fl_RX1_21 : FLk RX1 21 1 3 := ⟨by decide, by decide, RX1, TX1, rfl, uw1, fw_RX1_21⟩
theorem fp_RX1_21 : FLu RX1 21 1 3 .int := ⟨by decide, by decide, RX1, TX1, tyX1, rfl, uw1, fw_RX1_21, rfl, tyX1_ok 3 (by decide), tyX1_ok, nmX1⟩
theorem fw_RX10_187 : Cond.fieldLink RX10 187 (TX1 3).1 (TX1 3).2.1 (TX1 3).2.2.1 ∈ GW := (gw_1 (List.mem_of_getElem? (l := tables_1_1) (i := 146) (by decide +kernel)) rfl)
theorem fl_RX10_187 : FLk RX10 187 1 3 := ⟨by decide, by decide, RX1, TX1, rfl, uw1, fw_RX10_187⟩
theorem fp_RX10_187 : FLu RX10 187 1 3 .int := ⟨by decide, by decide, RX1, TX1, tyX1, rfl, uw1, fw_RX10_187, rfl, tyX1_ok 3 (by decide), tyX1_ok, nmX1⟩
theorem fw_RX1_26 : Cond.fieldLink RX1 26 (TX1 4).1 (TX1 4).2.1 (TX1 4).2.2.1 ∈ GW := (gw_1 (List.mem_of_getElem? (l := tables_1_1) (i := 147) (by decide +kernel)) rfl)
theorem fl_RX1_26 : FLk RX1 26 1 4 := ⟨by decide, by decide, RX1, TX1, rfl, uw1, fw_RX1_26⟩
theorem fw_RX10_132 : Cond.fieldLink RX10 132 (TX1 4).1 (TX1 4).2.1 (TX1 4).2.2.1 ∈ GW := (gw_1 (List.mem_of_getElem? (l := tables_1_1) (i := 148) (by decide +kernel)) rfl)
theorem fl_RX10_132 : FLk RX10 132 1 4 := ⟨by decide, by decide, RX1, TX1, rfl, uw1, fw_RX10_132⟩
theorem fw_RX1_31 : Cond.fieldLink RX1 31 (TX1 5).1 (TX1 5).2.1 (TX1 5).2.2.1 ∈ GW := (gw_1 (List.mem_of_getElem? (l := tables_1_1) (i := 149) (by decide +kernel)) rfl)
theorem fl_RX1_31 : FLk RX1 31 1 5 := ⟨by decide, by decide, RX1, TX1, rfl, uw1, fw_RX1_31⟩
theorem fp_RX1_31 : FLu RX1 31 1 5 .int := ⟨by decide, by decide, RX1, TX1, tyX1, rfl, uw1, fw_RX1_31, rfl, tyX1_ok 5 (by decide), tyX1_ok, nmX1⟩
theorem fw_RX10_128 : Cond.fieldLink RX10 128 (TX1 5).1 (TX1 5).2.1 (TX1 5).2.2.1 ∈ GW := (gw_1 (List.mem_of_getElem? (l := tables_1_1) (i := 150) (by decide +kernel)) rfl)
theorem fl_RX10_128 : FLk RX10 128 1 5 := ⟨by decide, by decide, RX1, TX1, rfl, uw1, fw_RX10_128⟩
theorem fp_RX10_128 : FLu RX10 128 1 5 .int := ⟨by decide, by decide, RX1, TX1, tyX1, rfl, uw1, fw_RX10_128, rfl, tyX1_ok 5 (by decide), tyX1_ok, nmX1⟩
theorem fw_RX1_34 : Cond.fieldLink RX1 34 (TX1 6).1 (TX1 6).2.1 (TX1 6).2.2.1 ∈ GW := (gw_1 (List.mem_of_getElem? (l := tables_1_1) (i := 151) (by decide +kernel)) rfl)
theorem fl_RX1_34 : FLk RX1 34 1 6 := ⟨by decide, by decide, RX1, TX1, rfl, uw1, fw_RX1_34⟩
theorem fw_RX1_38 : Cond.fieldLink RX1 38 (TX1 7).1 (TX1 7).2.1 (TX1 7).2.2.1 ∈ GW := (gw_1 (List.mem_of_getElem? (l := tables_1_1) (i := 152) (by decide +kernel)) rfl)
theorem fl_RX1_38 : FLk RX1 38 1 7 := ⟨by decide, by decide, RX1, TX1, rfl, uw1, fw_RX1_38⟩
theorem fw_RX1_41 : Cond.fieldLink RX1 41 (TX1 8).1 (TX1 8).2.1 (TX1 8).2.2.1 ∈ GW := (gw_1 (List.mem_of_getElem? (l := tables_1_1) (i := 153) (by decide +kernel)) rfl)
theorem fl_RX1_41 : FLk RX1 41 1 8 := ⟨by decide, by decide, RX1, TX1, rfl, uw1, fw_RX1_41⟩
theorem fw_RX1_45 : Cond.fieldLink RX1 45 (TX1 9).1 (TX1 9).2.1 (TX1 9).2.2.1 ∈ GW := (gw_1 (List.mem_of_getElem? (l := tables_1_1) (i := 154) (by decide +kernel)) rfl)
theorem fl_RX1_45 : FLk RX1 45 1 9 := ⟨by decide, by decide, RX1, TX1, rfl, uw1, fw_RX1_45⟩
theorem fw_RX10_166 : Cond.fieldLink RX10 166 (TX1 9).1 (TX1 9).2.1 (TX1 9).2.2.1 ∈ GW := (gw_1 (List.mem_of_getElem? (l := tables_1_1) (i := 155) (by decide +kernel)) rfl)
theorem fl_RX10_166 : FLk RX10 166 1 9 := ⟨by decide, by decide, RX1, TX1, rfl, uw1, fw_RX10_166⟩
theorem fw_RX9_9 : Cond.fieldLink RX9 9 (TX9 0).1 (TX9 0).2.1 (TX9 0).2.2.1 ∈ GW := (gw_1 (List.mem_of_getElem? (l := tables_1_1) (i := 186) (by decide +kernel)) rfl)
theorem fl_RX9_9 : FLk RX9 9 8 0 := ⟨by decide, by decide, RX9, TX9, rfl, uw8, fw_RX9_9⟩
theorem fw_RX10_219 : Cond.fieldLink RX10 219 (TX9 0).1 (TX9 0).2.1 (TX9 0).2.2.1 ∈ GW := (gw_1 (List.mem_of_getElem? (l := tables_1_1) (i := 187) (by decide +kernel)) rfl)
theorem fl_RX10_219 : FLk RX10 219 8 0 := ⟨by decide, by decide, RX9, TX9, rfl, uw8, fw_RX10_219⟩
theorem fw_RX9_15 : Cond.fieldLink RX9 15 (TX9 1).1 (TX9 1).2.1 (TX9 1).2.2.1 ∈ GW := (gw_1 (List.mem_of_getElem? (l := tables_1_1) (i := 188) (by decide +kernel)) rfl)
theorem fl_RX9_15 : FLk RX9 15 8 1 := ⟨by decide, by decide, RX9, TX9, rfl, uw8, fw_RX9_15⟩
theorem fw_RX10_222 : Cond.fieldLink RX10 222 (TX9 1).1 (TX9 1).2.1 (TX9 1).2.2.1 ∈ GW := (gw_1 (List.mem_of_getElem? (l := tables_1_1) (i := 189) (by decide +kernel)) rfl)
theorem fl_RX10_222 : FLk RX10 222 8 1 := ⟨by decide, by decide, RX9, TX9, rfl, uw8, fw_RX10_222⟩
theorem fw_RX9_18 : Cond.fieldLink RX9 18 (TX9 2).1 (TX9 2).2.1 (TX9 2).2.2.1 ∈ GW := (gw_1 (List.mem_of_getElem? (l := tables_1_1) (i := 190) (by decide +kernel)) rfl)
theorem fl_RX9_18 : FLk RX9 18 8 2 := ⟨by decide, by decide, RX9, TX9, rfl, uw8, fw_RX9_18⟩
theorem fw_RX10_224 : Cond.fieldLink RX10 224 (TX9 2).1 (TX9 2).2.1 (TX9 2).2.2.1 ∈ GW := (gw_1 (List.mem_of_getElem? (l := tables_1_1) (i := 191) (by decide +kernel)) rfl)
theorem fl_RX10_224 : FLk RX10 224 8 2 := ⟨by decide, by decide, RX9, TX9, rfl, uw8, fw_RX10_224⟩
theorem fw_RX9_23 : Cond.fieldLink RX9 23 (TX9 3).1 (TX9 3).2.1 (TX9 3).2.2.1 ∈ GW := (gw_1 (List.mem_of_getElem? (l := tables_1_1) (i := 192) (by decide +kernel)) rfl)
theorem fl_RX9_23 : FLk RX9 23 8 3 := ⟨by decide, by decide, RX9, TX9, rfl, uw8, fw_RX9_23⟩
theorem fw_RX9_26 : Cond.fieldLink RX9 26 (TX9 4).1 (TX9 4).2.1 (TX9 4).2.2.1 ∈ GW := (gw_1 (List.mem_of_getElem? (l := tables_1_1) (i := 193) (by decide +kernel)) rfl)
theorem fl_RX9_26 : FLk RX9 26 8 4 := ⟨by decide, by decide, RX9, TX9, rfl, uw8, fw_RX9_26⟩
theorem fw_RX9_29 : Cond.fieldLink RX9 29 (TX9 5).1 (TX9 5).2.1 (TX9 5).2.2.1 ∈ GW := (gw_1 (List.mem_of_getElem? (l := tables_1_1) (i := 194) (by decide +kernel)) rfl)
theorem fl_RX9_29 : FLk RX9 29 8 5 := ⟨by decide, by decide, RX9, TX9, rfl, uw8, fw_RX9_29⟩
theorem fp_RX9_29 : FLu RX9 29 8 5 .int := ⟨by decide, by decide, RX9, TX9, tyX9, rfl, uw8, fw_RX9_29, rfl, tyX9_ok 5 (by decide), tyX9_ok, nmX9⟩
theorem fw_RX10_346 : Cond.fieldLink RX10 346 (TX9 5).1 (TX9 5).2.1 (TX9 5).2.2.1 ∈ GW := (gw_1 (List.mem_of_getElem? (l := tables_1_1) (i := 195) (by decide +kernel)) rfl)
theorem fl_RX10_346 : FLk RX10 346 8 5 := ⟨by decide, by decide, RX9, TX9, rfl, uw8, fw_RX10_346⟩
theorem fp_RX10_346 : FLu RX10 346 8 5 .int := ⟨by decide, by decide, RX9, TX9, tyX9, rfl, uw8, fw_RX10_346, rfl, tyX9_ok 5 (by decide), tyX9_ok, nmX9⟩
theorem fw_RX9_33 : Cond.fieldLink RX9 33 (TX9 6).1 (TX9 6).2.1 (TX9 6).2.2.1 ∈ GW := (gw_1 (List.mem_of_getElem? (l := tables_1_1) (i := 196) (by decide +kernel)) rfl)
theorem fl_RX9_33 : FLk RX9 33 8 6 := ⟨by decide, by decide, RX9, TX9, rfl, uw8, fw_RX9_33⟩
theorem fw_RX9_36 : Cond.fieldLink RX9 36 (TX9 7).1 (TX9 7).2.1 (TX9 7).2.2.1 ∈ GW := (gw_1 (List.mem_of_getElem? (l := tables_1_1) (i := 197) (by decide +kernel)) rfl)
theorem fl_RX9_36 : FLk RX9 36 8 7 := ⟨by decide, by decide, RX9, TX9, rfl, uw8, fw_RX9_36⟩
theorem fw_RX3_9 : Cond.fieldLink RX3 9 (TX3 0).1 (TX3 0).2.1 (TX3 0).2.2.1 ∈ GW := (gw_1 (List.mem_of_getElem? (l := tables_1_1) (i := 221) (by decide +kernel)) rfl)
theorem fl_RX3_9 : FLk RX3 9 3 0 := ⟨by decide, by decide, RX3, TX3, rfl, uw3, fw_RX3_9⟩
theorem fw_RX3_15 : Cond.fieldLink RX3 15 (TX3 1).1 (TX3 1).2.1 (TX3 1).2.2.1 ∈ GW := (gw_1 (List.mem_of_getElem? (l := tables_1_1) (i := 222) (by decide +kernel)) rfl)
theorem fl_RX3_15 : FLk RX3 15 3 1 := ⟨by decide, by decide, RX3, TX3, rfl, uw3, fw_RX3_15⟩
theorem fw_RX10_259 : Cond.fieldLink RX10 259 (TX3 1).1 (TX3 1).2.1 (TX3 1).2.2.1 ∈ GW := (gw_1 (List.mem_of_getElem? (l := tables_1_1) (i := 223) (by decide +kernel)) rfl)
theorem fl_RX10_259 : FLk RX10 259 3 1 := ⟨by decide, by decide, RX3, TX3, rfl, uw3, fw_RX10_259⟩
theorem fw_RX3_18 : Cond.fieldLink RX3 18 (TX3 2).1 (TX3 2).2.1 (TX3 2).2.2.1 ∈ GW := (gw_1 (List.mem_of_getElem? (l := tables_1_1) (i := 224) (by decide +kernel)) rfl)
theorem fl_RX3_18 : FLk RX3 18 3 2 := ⟨by decide, by decide, RX3, TX3, rfl, uw3, fw_RX3_18⟩
theorem fp_RX3_18 : FLu RX3 18 3 2 .int := ⟨by decide, by decide, RX3, TX3, tyX3, rfl, uw3, fw_RX3_18, rfl, tyX3_ok 2 (by decide), tyX3_ok, nmX3⟩
theorem fw_RX10_267 : Cond.fieldLink RX10 267 (TX3 2).1 (TX3 2).2.1 (TX3 2).2.2.1 ∈ GW := (gw_1 (List.mem_of_getElem? (l := tables_1_1) (i := 225) (by decide +kernel)) rfl)
theorem fl_RX10_267 : FLk RX10 267 3 2 := ⟨by decide, by decide, RX3, TX3, rfl, uw3, fw_RX10_267⟩
theorem fp_RX10_267 : FLu RX10 267 3 2 .int := ⟨by decide, by decide, RX3, TX3, tyX3, rfl, uw3, fw_RX10_267, rfl, tyX3_ok 2 (by decide), tyX3_ok, nmX3⟩
theorem fw_RX3_22 : Cond.fieldLink RX3 22 (TX3 3).1 (TX3 3).2.1 (TX3 3).2.2.1 ∈ GW := (gw_1 (List.mem_of_getElem? (l := tables_1_1) (i := 226) (by decide +kernel)) rfl)
theorem fl_RX3_22 : FLk RX3 22 3 3 := ⟨by decide, by decide, RX3, TX3, rfl, uw3, fw_RX3_22⟩
theorem fp_RX3_22 : FLu RX3 22 3 3 .int := ⟨by decide, by decide, RX3, TX3, tyX3, rfl, uw3, fw_RX3_22, rfl, tyX3_ok 3 (by decide), tyX3_ok, nmX3⟩
theorem fw_RX2_135 : Cond.fieldLink RX2 135 (TX3 3).1 (TX3 3).2.1 (TX3 3).2.2.1 ∈ GW := (gw_1 (List.mem_of_getElem? (l := tables_1_1) (i := 227) (by decide +kernel)) rfl)
theorem fl_RX2_135 : FLk RX2 135 3 3 := ⟨by decide, by decide, RX3, TX3, rfl, uw3, fw_RX2_135⟩
theorem fp_RX2_135 : FLu RX2 135 3 3 .int := ⟨by decide, by decide, RX3, TX3, tyX3, rfl, uw3, fw_RX2_135, rfl, tyX3_ok 3 (by decide), tyX3_ok, nmX3⟩
theorem fw_RX2_12 : Cond.fieldLink RX2 12 (TX2 0).1 (TX2 0).2.1 (TX2 0).2.2.1 ∈ GW := (gw_1 (List.mem_of_getElem? (l := tables_1_1) (i := 237) (by decide +kernel)) rfl)
theorem fl_RX2_12 : FLk RX2 12 2 0 := ⟨by decide, by decide, RX2, TX2, rfl, uw2, fw_RX2_12⟩
theorem fw_RX10_68 : Cond.fieldLink RX10 68 (TX2 0).1 (TX2 0).2.1 (TX2 0).2.2.1 ∈ GW := (gw_1 (List.mem_of_getElem? (l := tables_1_1) (i := 238) (by decide +kernel)) rfl)
theorem fl_RX10_68 : FLk RX10 68 2 0 := ⟨by decide, by decide, RX2, TX2, rfl, uw2, fw_RX10_68⟩
theorem fw_RX2_21 : Cond.fieldLink RX2 21 (TX2 1).1 (TX2 1).2.1 (TX2 1).2.2.1 ∈ GW := (gw_1 (List.mem_of_getElem? (l := tables_1_1) (i := 239) (by decide +kernel)) rfl)
theorem fl_RX2_21 : FLk RX2 21 2 1 := ⟨by decide, by decide, RX2, TX2, rfl, uw2, fw_RX2_21⟩
theorem fw_RX10_117 : Cond.fieldLink RX10 117 (TX2 1).1 (TX2 1).2.1 (TX2 1).2.2.1 ∈ GW := (gw_2 (List.mem_of_getElem? (l := tables_1_2) (i := 0) (by decide +kernel)) rfl)
theorem fl_RX10_117 : FLk RX10 117 2 1 := ⟨by decide, by decide, RX2, TX2, rfl, uw2, fw_RX10_117⟩
theorem fw_RX2_28 : Cond.fieldLink RX2 28 (TX2 2).1 (TX2 2).2.1 (TX2 2).2.2.1 ∈ GW := (gw_2 (List.mem_of_getElem? (l := tables_1_2) (i := 1) (by decide +kernel)) rfl)
theorem fl_RX2_28 : FLk RX2 28 2 2 := ⟨by decide, by decide, RX2, TX2, rfl, uw2, fw_RX2_28⟩
theorem fw_RX10_209 : Cond.fieldLink RX10 209 (TX2 2).1 (TX2 2).2.1 (TX2 2).2.2.1 ∈ GW := (gw_2 (List.mem_of_getElem? (l := tables_1_2) (i := 2) (by decide +kernel)) rfl)
theorem fl_RX10_209 : FLk RX10 209 2 2 := ⟨by decide, by decide, RX2, TX2, rfl, uw2, fw_RX10_209⟩
theorem fw_RX2_35 : Cond.fieldLink RX2 35 (TX2 3).1 (TX2 3).2.1 (TX2 3).2.2.1 ∈ GW := (gw_2 (List.mem_of_getElem? (l := tables_1_2) (i := 3) (by decide +kernel)) rfl)
theorem fl_RX2_35 : FLk RX2 35 2 3 := ⟨by decide, by decide, RX2, TX2, rfl, uw2, fw_RX2_35⟩
theorem fw_RX10_250 : Cond.fieldLink RX10 250 (TX2 3).1 (TX2 3).2.1 (TX2 3).2.2.1 ∈ GW := (gw_2 (List.mem_of_getElem? (l := tables_1_2) (i := 4) (by decide +kernel)) rfl)
theorem fl_RX10_250 : FLk RX10 250 2 3 := ⟨by decide, by decide, RX2, TX2, rfl, uw2, fw_RX10_250⟩
theorem fw_RX2_39 : Cond.fieldLink RX2 39 (TX2 4).1 (TX2 4).2.1 (TX2 4).2.2.1 ∈ GW := (gw_2 (List.mem_of_getElem? (l := tables_1_2) (i := 5) (by decide +kernel)) rfl)
theorem fl_RX2_39 : FLk RX2 39 2 4 := ⟨by decide, by decide, RX2, TX2, rfl, uw2, fw_RX2_39⟩
theorem fw_RX10_113 : Cond.fieldLink RX10 113 (TX2 4).1 (TX2 4).2.1 (TX2 4).2.2.1 ∈ GW := (gw_2 (List.mem_of_getElem? (l := tables_1_2) (i := 6) (by decide +kernel)) rfl)
theorem fl_RX10_113 : FLk RX10 113 2 4 := ⟨by decide, by decide, RX2, TX2, rfl, uw2, fw_RX10_113⟩
theorem fw_RX8_9 : Cond.fieldLink RX8 9 (TX8 0).1 (TX8 0).2.1 (TX8 0).2.2.1 ∈ GW := (gw_2 (List.mem_of_getElem? (l := tables_1_2) (i := 26) (by decide +kernel)) rfl)
theorem fl_RX8_9 : FLk RX8 9 7 0 := ⟨by decide, by decide, RX8, TX8, rfl, uw7, fw_RX8_9⟩
theorem fw_RX8_15 : Cond.fieldLink RX8 15 (TX8 1).1 (TX8 1).2.1 (TX8 1).2.2.1 ∈ GW := (gw_2 (List.mem_of_getElem? (l := tables_1_2) (i := 27) (by decide +kernel)) rfl)
theorem fl_RX8_15 : FLk RX8 15 7 1 := ⟨by decide, by decide, RX8, TX8, rfl, uw7, fw_RX8_15⟩
theorem fp_RX8_15 : FLu RX8 15 7 1 .int := ⟨by decide, by decide, RX8, TX8, tyX8, rfl, uw7, fw_RX8_15, rfl, tyX8_ok 1 (by decide), tyX8_ok, nmX8⟩
theorem fw_RX10_200 : Cond.fieldLink RX10 200 (TX8 1).1 (TX8 1).2.1 (TX8 1).2.2.1 ∈ GW := (gw_2 (List.mem_of_getElem? (l := tables_1_2) (i := 28) (by decide +kernel)) rfl)
theorem fl_RX10_200 : FLk RX10 200 7 1 := ⟨by decide, by decide, RX8, TX8, rfl, uw7, fw_RX10_200⟩
theorem fp_RX10_200 : FLu RX10 200 7 1 .int := ⟨by decide, by decide, RX8, TX8, tyX8, rfl, uw7, fw_RX10_200, rfl, tyX8_ok 1 (by decide), tyX8_ok, nmX8⟩
theorem fw_RX8_32 : Cond.fieldLink RX8 32 (TX8 2).1 (TX8 2).2.1 (TX8 2).2.2.1 ∈ GW := (gw_2 (List.mem_of_getElem? (l := tables_1_2) (i := 29) (by decide +kernel)) rfl)
theorem fl_RX8_32 : FLk RX8 32 7 2 := ⟨by decide, by decide, RX8, TX8, rfl, uw7, fw_RX8_32⟩
theorem fp_RX8_32 : FLu RX8 32 7 2 .int := ⟨by decide, by decide, RX8, TX8, tyX8, rfl, uw7, fw_RX8_32, rfl, tyX8_ok 2 (by decide), tyX8_ok, nmX8⟩
theorem fw_RX8_58 : Cond.fieldLink RX8 58 (TX8 3).1 (TX8 3).2.1 (TX8 3).2.2.1 ∈ GW := (gw_2 (List.mem_of_getElem? (l := tables_1_2) (i := 30) (by decide +kernel)) rfl)
theorem fl_RX8_58 : FLk RX8 58 7 3 := ⟨by decide, by decide, RX8, TX8, rfl, uw7, fw_RX8_58⟩
theorem fp_RX8_58 : FLu RX8 58 7 3 .int := ⟨by decide, by decide, RX8, TX8, tyX8, rfl, uw7, fw_RX8_58, rfl, tyX8_ok 3 (by decide), tyX8_ok, nmX8⟩
theorem fw_RX8_38 : Cond.fieldLink RX8 38 (TX8 4).1 (TX8 4).2.1 (TX8 4).2.2.1 ∈ GW := (gw_2 (List.mem_of_getElem? (l := tables_1_2) (i := 31) (by decide +kernel)) rfl)
theorem fl_RX8_38 : FLk RX8 38 7 4 := ⟨by decide, by decide, RX8, TX8, rfl, uw7, fw_RX8_38⟩
theorem fp_RX8_38 : FLu RX8 38 7 4 .int := ⟨by decide, by decide, RX8, TX8, tyX8, rfl, uw7, fw_RX8_38, rfl, tyX8_ok 4 (by decide), tyX8_ok, nmX8⟩
theorem fw_RX8_73 : Cond.fieldLink RX8 73 (TX8 5).1 (TX8 5).2.1 (TX8 5).2.2.1 ∈ GW := (gw_2 (List.mem_of_getElem? (l := tables_1_2) (i := 32) (by decide +kernel)) rfl)
theorem fl_RX8_73 : FLk RX8 73 7 5 := ⟨by decide, by decide, RX8, TX8, rfl, uw7, fw_RX8_73⟩
theorem fp_RX8_73 : FLu RX8 73 7 5 .boolean := ⟨by decide, by decide, RX8, TX8, tyX8, rfl, uw7, fw_RX8_73, rfl, tyX8_ok 5 (by decide), tyX8_ok, nmX8⟩
theorem fw_RX9_46 : Cond.fieldLink RX9 46 (TX8 6).1 (TX8 6).2.1 (TX8 6).2.2.1 ∈ GW := (gw_2 (List.mem_of_getElem? (l := tables_1_2) (i := 33) (by decide +kernel)) rfl)
theorem fl_RX9_46 : FLk RX9 46 7 6 := ⟨by decide, by decide, RX8, TX8, rfl, uw7, fw_RX9_46⟩
theorem fp_RX9_46 : FLu RX9 46 7 6 .int := ⟨by decide, by decide, RX8, TX8, tyX8, rfl, uw7, fw_RX9_46, rfl, tyX8_ok 6 (by decide), tyX8_ok, nmX8⟩
theorem fw_RX8_84 : Cond.fieldLink RX8 84 (TX8 6).1 (TX8 6).2.1 (TX8 6).2.2.1 ∈ GW := (gw_2 (List.mem_of_getElem? (l := tables_1_2) (i := 34) (by decide +kernel)) rfl)
theorem fl_RX8_84 : FLk RX8 84 7 6 := ⟨by decide, by decide, RX8, TX8, rfl, uw7, fw_RX8_84⟩
theorem fp_RX8_84 : FLu RX8 84 7 6 .int := ⟨by decide, by decide, RX8, TX8, tyX8, rfl, uw7, fw_RX8_84, rfl, tyX8_ok 6 (by decide), tyX8_ok, nmX8⟩
theorem fw_RX9_50 : Cond.fieldLink RX9 50 (TX8 7).1 (TX8 7).2.1 (TX8 7).2.2.1 ∈ GW := (gw_2 (List.mem_of_getElem? (l := tables_1_2) (i := 35) (by decide +kernel)) rfl)
theorem fl_RX9_50 : FLk RX9 50 7 7 := ⟨by decide, by decide, RX8, TX8, rfl, uw7, fw_RX9_50⟩
theorem fp_RX9_50 : FLu RX9 50 7 7 .int := ⟨by decide, by decide, RX8, TX8, tyX8, rfl, uw7, fw_RX9_50, rfl, tyX8_ok 7 (by decide), tyX8_ok, nmX8⟩
theorem fw_RX8_88 : Cond.fieldLink RX8 88 (TX8 7).1 (TX8 7).2.1 (TX8 7).2.2.1 ∈ GW := (gw_2 (List.mem_of_getElem? (l := tables_1_2) (i := 36) (by decide +kernel)) rfl)
theorem fl_RX8_88 : FLk RX8 88 7 7 := ⟨by decide, by decide, RX8, TX8, rfl, uw7, fw_RX8_88⟩
theorem fp_RX8_88 : FLu RX8 88 7 7 .int := ⟨by decide, by decide, RX8, TX8, tyX8, rfl, uw7, fw_RX8_88, rfl, tyX8_ok 7 (by decide), tyX8_ok, nmX8⟩
theorem fw_RX8_61 : Cond.fieldLink RX8 61 (TX8 8).1 (TX8 8).2.1 (TX8 8).2.2.1 ∈ GW := (gw_2 (List.mem_of_getElem? (l := tables_1_2) (i := 37) (by decide +kernel)) rfl)
theorem fl_RX8_61 : FLk RX8 61 7 8 := ⟨by decide, by decide, RX8, TX8, rfl, uw7, fw_RX8_61⟩
theorem fp_RX8_61 : FLu RX8 61 7 8 .int := ⟨by decide, by decide, RX8, TX8, tyX8, rfl, uw7, fw_RX8_61, rfl, tyX8_ok 8 (by decide), tyX8_ok, nmX8⟩
theorem fw_RX9_52 : Cond.fieldLink RX9 52 (TX8 8).1 (TX8 8).2.1 (TX8 8).2.2.1 ∈ GW := (gw_2 (List.mem_of_getElem? (l := tables_1_2) (i := 38) (by decide +kernel)) rfl)
theorem fl_RX9_52 : FLk RX9 52 7 8 := ⟨by decide, by decide, RX8, TX8, rfl, uw7, fw_RX9_52⟩
theorem fp_RX9_52 : FLu RX9 52 7 8 .int := ⟨by decide, by decide, RX8, TX8, tyX8, rfl, uw7, fw_RX9_52, rfl, tyX8_ok 8 (by decide), tyX8_ok, nmX8⟩
theorem fw_RX8_19 : Cond.fieldLink RX8 19 (TX8 9).1 (TX8 9).2.1 (TX8 9).2.2.1 ∈ GW := (gw_2 (List.mem_of_getElem? (l := tables_1_2) (i := 39) (by decide +kernel)) rfl)
theorem fl_RX8_19 : FLk RX8 19 7 9 := ⟨by decide, by decide, RX8, TX8, rfl, uw7, fw_RX8_19⟩
theorem fw_RX9_56 : Cond.fieldLink RX9 56 (TX8 9).1 (TX8 9).2.1 (TX8 9).2.2.1 ∈ GW := (gw_2 (List.mem_of_getElem? (l := tables_1_2) (i := 40) (by decide +kernel)) rfl)
theorem fl_RX9_56 : FLk RX9 56 7 9 := ⟨by decide, by decide, RX8, TX8, rfl, uw7, fw_RX9_56⟩
theorem fw_RX8_64 : Cond.fieldLink RX8 64 (TX8 10).1 (TX8 10).2.1 (TX8 10).2.2.1 ∈ GW := (gw_2 (List.mem_of_getElem? (l := tables_1_2) (i := 41) (by decide +kernel)) rfl)
theorem fl_RX8_64 : FLk RX8 64 7 10 := ⟨by decide, by decide, RX8, TX8, rfl, uw7, fw_RX8_64⟩
theorem fp_RX8_64 : FLu RX8 64 7 10 .int := ⟨by decide, by decide, RX8, TX8, tyX8, rfl, uw7, fw_RX8_64, rfl, tyX8_ok 10 (by decide), tyX8_ok, nmX8⟩
theorem fw_RX9_54 : Cond.fieldLink RX9 54 (TX8 10).1 (TX8 10).2.1 (TX8 10).2.2.1 ∈ GW := (gw_2 (List.mem_of_getElem? (l := tables_1_2) (i := 42) (by decide +kernel)) rfl)
theorem fl_RX9_54 : FLk RX9 54 7 10 := ⟨by decide, by decide, RX8, TX8, rfl, uw7, fw_RX9_54⟩
theorem fp_RX9_54 : FLu RX9 54 7 10 .int := ⟨by decide, by decide, RX8, TX8, tyX8, rfl, uw7, fw_RX9_54, rfl, tyX8_ok 10 (by decide), tyX8_ok, nmX8⟩
theorem fw_RX8_22 : Cond.fieldLink RX8 22 (TX8 11).1 (TX8 11).2.1 (TX8 11).2.2.1 ∈ GW := (gw_2 (List.mem_of_getElem? (l := tables_1_2) (i := 43) (by decide +kernel)) rfl)
theorem fl_RX8_22 : FLk RX8 22 7 11 := ⟨by decide, by decide, RX8, TX8, rfl, uw7, fw_RX8_22⟩
theorem fw_RX8_67 : Cond.fieldLink RX8 67 (TX8 12).1 (TX8 12).2.1 (TX8 12).2.2.1 ∈ GW := (gw_2 (List.mem_of_getElem? (l := tables_1_2) (i := 44) (by decide +kernel)) rfl)
theorem fl_RX8_67 : FLk RX8 67 7 12 := ⟨by decide, by decide, RX8, TX8, rfl, uw7, fw_RX8_67⟩
theorem fp_RX8_67 : FLu RX8 67 7 12 .int := ⟨by decide, by decide, RX8, TX8, tyX8, rfl, uw7, fw_RX8_67, rfl, tyX8_ok 12 (by decide), tyX8_ok, nmX8⟩
theorem fw_RX8_51 : Cond.fieldLink RX8 51 (TX8 13).1 (TX8 13).2.1 (TX8 13).2.2.1 ∈ GW := (gw_2 (List.mem_of_getElem? (l := tables_1_2) (i := 45) (by decide +kernel)) rfl)
theorem fl_RX8_51 : FLk RX8 51 7 13 := ⟨by decide, by decide, RX8, TX8, rfl, uw7, fw_RX8_51⟩
theorem fp_RX8_51 : FLu RX8 51 7 13 .int := ⟨by decide, by decide, RX8, TX8, tyX8, rfl, uw7, fw_RX8_51, rfl, tyX8_ok 13 (by decide), tyX8_ok, nmX8⟩
theorem fw_RX8_70 : Cond.fieldLink RX8 70 (TX8 14).1 (TX8 14).2.1 (TX8 14).2.2.1 ∈ GW := (gw_2 (List.mem_of_getElem? (l := tables_1_2) (i := 46) (by decide +kernel)) rfl)
theorem fl_RX8_70 : FLk RX8 70 7 14 := ⟨by decide, by decide, RX8, TX8, rfl, uw7, fw_RX8_70⟩
theorem fp_RX8_70 : FLu RX8 70 7 14 .int := ⟨by decide, by decide, RX8, TX8, tyX8, rfl, uw7, fw_RX8_70, rfl, tyX8_ok 14 (by decide), tyX8_ok, nmX8⟩
theorem fw_RX8_41 : Cond.fieldLink RX8 41 (TX8 15).1 (TX8 15).2.1 (TX8 15).2.2.1 ∈ GW := (gw_2 (List.mem_of_getElem? (l := tables_1_2) (i := 47) (by decide +kernel)) rfl)
theorem fl_RX8_41 : FLk RX8 41 7 15 := ⟨by decide, by decide, RX8, TX8, rfl, uw7, fw_RX8_41⟩
theorem fp_RX8_41 : FLu RX8 41 7 15 .boolean := ⟨by decide, by decide, RX8, TX8, tyX8, rfl, uw7, fw_RX8_41, rfl, tyX8_ok 15 (by decide), tyX8_ok, nmX8⟩
theorem fw_RX5_9 : Cond.fieldLink RX5 9 (TX5 0).1 (TX5 0).2.1 (TX5 0).2.2.1 ∈ GW := (gw_2 (List.mem_of_getElem? (l := tables_1_2) (i := 88) (by decide +kernel)) rfl)
theorem fl_RX5_9 : FLk RX5 9 5 0 := ⟨by decide, by decide, RX5, TX5, rfl, uw5, fw_RX5_9⟩
theorem fp_RX5_9 : FLu RX5 9 5 0 .int := ⟨by decide, by decide, RX5, TX5, tyX5, rfl, uw5, fw_RX5_9, rfl, tyX5_ok 0 (by decide), tyX5_ok, nmX5⟩
theorem fw_RX10_278 : Cond.fieldLink RX10 278 (TX5 0).1 (TX5 0).2.1 (TX5 0).2.2.1 ∈ GW := (gw_2 (List.mem_of_getElem? (l := tables_1_2) (i := 89) (by decide +kernel)) rfl)
theorem fl_RX10_278 : FLk RX10 278 5 0 := ⟨by decide, by decide, RX5, TX5, rfl, uw5, fw_RX10_278⟩
theorem fp_RX10_278 : FLu RX10 278 5 0 .int := ⟨by decide, by decide, RX5, TX5, tyX5, rfl, uw5, fw_RX10_278, rfl, tyX5_ok 0 (by decide), tyX5_ok, nmX5⟩
theorem fw_RX5_15 : Cond.fieldLink RX5 15 (TX5 1).1 (TX5 1).2.1 (TX5 1).2.2.1 ∈ GW := (gw_2 (List.mem_of_getElem? (l := tables_1_2) (i := 90) (by decide +kernel)) rfl)
theorem fl_RX5_15 : FLk RX5 15 5 1 := ⟨by decide, by decide, RX5, TX5, rfl, uw5, fw_RX5_15⟩
theorem fp_RX5_15 : FLu RX5 15 5 1 .int := ⟨by decide, by decide, RX5, TX5, tyX5, rfl, uw5, fw_RX5_15, rfl, tyX5_ok 1 (by decide), tyX5_ok, nmX5⟩
theorem fw_RX10_297 : Cond.fieldLink RX10 297 (TX5 1).1 (TX5 1).2.1 (TX5 1).2.2.1 ∈ GW := (gw_2 (List.mem_of_getElem? (l := tables_1_2) (i := 91) (by decide +kernel)) rfl)
theorem fl_RX10_297 : FLk RX10 297 5 1 := ⟨by decide, by decide, RX5, TX5, rfl, uw5, fw_RX10_297⟩
theorem fp_RX10_297 : FLu RX10 297 5 1 .int := ⟨by decide, by decide, RX5, TX5, tyX5, rfl, uw5, fw_RX10_297, rfl, tyX5_ok 1 (by decide), tyX5_ok, nmX5⟩
theorem fw_RX5_18 : Cond.fieldLink RX5 18 (TX5 2).1 (TX5 2).2.1 (TX5 2).2.2.1 ∈ GW := (gw_2 (List.mem_of_getElem? (l := tables_1_2) (i := 92) (by decide +kernel)) rfl)
theorem fl_RX5_18 : FLk RX5 18 5 2 := ⟨by decide, by decide, RX5, TX5, rfl, uw5, fw_RX5_18⟩
theorem fw_RX10_301 : Cond.fieldLink RX10 301 (TX5 2).1 (TX5 2).2.1 (TX5 2).2.2.1 ∈ GW := (gw_2 (List.mem_of_getElem? (l := tables_1_2) (i := 93) (by decide +kernel)) rfl)
theorem fl_RX10_301 : FLk RX10 301 5 2 := ⟨by decide, by decide, RX5, TX5, rfl, uw5, fw_RX10_301⟩
theorem fw_RX5_22 : Cond.fieldLink RX5 22 (TX5 3).1 (TX5 3).2.1 (TX5 3).2.2.1 ∈ GW := (gw_2 (List.mem_of_getElem? (l := tables_1_2) (i := 94) (by decide +kernel)) rfl)
theorem fl_RX5_22 : FLk RX5 22 5 3 := ⟨by decide, by decide, RX5, TX5, rfl, uw5, fw_RX5_22⟩
theorem fw_RX10_310 : Cond.fieldLink RX10 310 (TX5 3).1 (TX5 3).2.1 (TX5 3).2.2.1 ∈ GW := (gw_2 (List.mem_of_getElem? (l := tables_1_2) (i := 95) (by decide +kernel)) rfl)
theorem fl_RX10_310 : FLk RX10 310 5 3 := ⟨by decide, by decide, RX5, TX5, rfl, uw5, fw_RX10_310⟩
theorem fw_RX6_9 : Cond.fieldLink RX6 9 (TX6 0).1 (TX6 0).2.1 (TX6 0).2.2.1 ∈ GW := (gw_2 (List.mem_of_getElem? (l := tables_1_2) (i := 115) (by decide +kernel)) rfl)
theorem fl_RX6_9 : FLk RX6 9 6 0 := ⟨by decide, by decide, RX6, TX6, rfl, uw6, fw_RX6_9⟩
theorem fp_RX6_9 : FLu RX6 9 6 0 .int := ⟨by decide, by decide, RX6, TX6, tyX6, rfl, uw6, fw_RX6_9, rfl, tyX6_ok 0 (by decide), tyX6_ok, nmX6⟩
theorem fw_RX10_317 : Cond.fieldLink RX10 317 (TX6 0).1 (TX6 0).2.1 (TX6 0).2.2.1 ∈ GW := (gw_2 (List.mem_of_getElem? (l := tables_1_2) (i := 116) (by decide +kernel)) rfl)
theorem fl_RX10_317 : FLk RX10 317 6 0 := ⟨by decide, by decide, RX6, TX6, rfl, uw6, fw_RX10_317⟩
theorem fp_RX10_317 : FLu RX10 317 6 0 .int := ⟨by decide, by decide, RX6, TX6, tyX6, rfl, uw6, fw_RX10_317, rfl, tyX6_ok 0 (by decide), tyX6_ok, nmX6⟩
theorem fw_RX10_320 : Cond.fieldLink RX10 320 (TX6 1).1 (TX6 1).2.1 (TX6 1).2.2.1 ∈ GW := (gw_2 (List.mem_of_getElem? (l := tables_1_2) (i := 117) (by decide +kernel)) rfl)
theorem fl_RX10_320 : FLk RX10 320 6 1 := ⟨by decide, by decide, RX6, TX6, rfl, uw6, fw_RX10_320⟩
theorem fp_RX10_320 : FLu RX10 320 6 1 .int := ⟨by decide, by decide, RX6, TX6, tyX6, rfl, uw6, fw_RX10_320, rfl, tyX6_ok 1 (by decide), tyX6_ok, nmX6⟩
theorem fw_RX10_322 : Cond.fieldLink RX10 322 (TX6 2).1 (TX6 2).2.1 (TX6 2).2.2.1 ∈ GW := (gw_2 (List.mem_of_getElem? (l := tables_1_2) (i := 118) (by decide +kernel)) rfl)
theorem fl_RX10_322 : FLk RX10 322 6 2 := ⟨by decide, by decide, RX6, TX6, rfl, uw6, fw_RX10_322⟩
theorem fp_RX10_322 : FLu RX10 322 6 2 .int := ⟨by decide, by decide, RX6, TX6, tyX6, rfl, uw6, fw_RX10_322, rfl, tyX6_ok 2 (by decide), tyX6_ok, nmX6⟩
theorem fw_RX10_331 : Cond.fieldLink RX10 331 (TX6 3).1 (TX6 3).2.1 (TX6 3).2.2.1 ∈ GW := (gw_2 (List.mem_of_getElem? (l := tables_1_2) (i := 119) (by decide +kernel)) rfl)
theorem fl_RX10_331 : FLk RX10 331 6 3 := ⟨by decide, by decide, RX6, TX6, rfl, uw6, fw_RX10_331⟩
theorem fp_RX10_331 : FLu RX10 331 6 3 .int := ⟨by decide, by decide, RX6, TX6, tyX6, rfl, uw6, fw_RX10_331, rfl, tyX6_ok 3 (by decide), tyX6_ok, nmX6⟩
theorem fw_RX6_18 : Cond.fieldLink RX6 18 (TX6 4).1 (TX6 4).2.1 (TX6 4).2.2.1 ∈ GW := (gw_2 (List.mem_of_getElem? (l := tables_1_2) (i := 120) (by decide +kernel)) rfl)
theorem fl_RX6_18 : FLk RX6 18 6 4 := ⟨by decide, by decide, RX6, TX6, rfl, uw6, fw_RX6_18⟩
theorem fw_RX10_324 : Cond.fieldLink RX10 324 (TX6 4).1 (TX6 4).2.1 (TX6 4).2.2.1 ∈ GW := (gw_2 (List.mem_of_getElem? (l := tables_1_2) (i := 121) (by decide +kernel)) rfl)
theorem fl_RX10_324 : FLk RX10 324 6 4 := ⟨by decide, by decide, RX6, TX6, rfl, uw6, fw_RX10_324⟩
theorem fw_RX10_10 : Cond.fieldLink RX10 10 (TX10 0).1 (TX10 0).2.1 (TX10 0).2.2.1 ∈ GW := (gw_2 (List.mem_of_getElem? (l := tables_1_2) (i := 133) (by decide +kernel)) rfl)
theorem fl_RX10_10 : FLk RX10 10 9 0 := ⟨by decide, by decide, RX10, TX10, rfl, uw9, fw_RX10_10⟩
theorem fw_RX10_16 : Cond.fieldLink RX10 16 (TX10 1).1 (TX10 1).2.1 (TX10 1).2.2.1 ∈ GW := (gw_2 (List.mem_of_getElem? (l := tables_1_2) (i := 134) (by decide +kernel)) rfl)
theorem fl_RX10_16 : FLk RX10 16 9 1 := ⟨by decide, by decide, RX10, TX10, rfl, uw9, fw_RX10_16⟩
theorem fw_RX10_19 : Cond.fieldLink RX10 19 (TX10 2).1 (TX10 2).2.1 (TX10 2).2.2.1 ∈ GW := (gw_2 (List.mem_of_getElem? (l := tables_1_2) (i := 135) (by decide +kernel)) rfl)
theorem fl_RX10_19 : FLk RX10 19 9 2 := ⟨by decide, by decide, RX10, TX10, rfl, uw9, fw_RX10_19⟩
theorem fp_RX10_19 : FLu RX10 19 9 2 .boolean := ⟨by decide, by decide, RX10, TX10, tyX10, rfl, uw9, fw_RX10_19, rfl, tyX10_ok 2 (by decide), tyX10_ok, nmX10⟩
theorem fw_RX10_26 : Cond.fieldLink RX10 26 (TX10 3).1 (TX10 3).2.1 (TX10 3).2.2.1 ∈ GW := (gw_2 (List.mem_of_getElem? (l := tables_1_2) (i := 136) (by decide +kernel)) rfl)
theorem fl_RX10_26 : FLk RX10 26 9 3 := ⟨by decide, by decide, RX10, TX10, rfl, uw9, fw_RX10_26⟩
theorem fw_RX10_33 : Cond.fieldLink RX10 33 (TX10 4).1 (TX10 4).2.1 (TX10 4).2.2.1 ∈ GW := (gw_2 (List.mem_of_getElem? (l := tables_1_2) (i := 137) (by decide +kernel)) rfl)
theorem fl_RX10_33 : FLk RX10 33 9 4 := ⟨by decide, by decide, RX10, TX10, rfl, uw9, fw_RX10_33⟩
theorem fw_RX10_39 : Cond.fieldLink RX10 39 (TX10 5).1 (TX10 5).2.1 (TX10 5).2.2.1 ∈ GW := (gw_2 (List.mem_of_getElem? (l := tables_1_2) (i := 138) (by decide +kernel)) rfl)
theorem fl_RX10_39 : FLk RX10 39 9 5 := ⟨by decide, by decide, RX10, TX10, rfl, uw9, fw_RX10_39⟩
theorem fw_RX10_46 : Cond.fieldLink RX10 46 (TX10 6).1 (TX10 6).2.1 (TX10 6).2.2.1 ∈ GW := (gw_2 (List.mem_of_getElem? (l := tables_1_2) (i := 139) (by decide +kernel)) rfl)
theorem fl_RX10_46 : FLk RX10 46 9 6 := ⟨by decide, by decide, RX10, TX10, rfl, uw9, fw_RX10_46⟩
theorem fw_RX10_51 : Cond.fieldLink RX10 51 (TX10 7).1 (TX10 7).2.1 (TX10 7).2.2.1 ∈ GW := (gw_2 (List.mem_of_getElem? (l := tables_1_2) (i := 140) (by decide +kernel)) rfl)
theorem fl_RX10_51 : FLk RX10 51 9 7 := ⟨by decide, by decide, RX10, TX10, rfl, uw9, fw_RX10_51⟩
theorem fw_RX10_55 : Cond.fieldLink RX10 55 (TX10 8).1 (TX10 8).2.1 (TX10 8).2.2.1 ∈ GW := (gw_2 (List.mem_of_getElem? (l := tables_1_2) (i := 141) (by decide +kernel)) rfl)
theorem fl_RX10_55 : FLk RX10 55 9 8 := ⟨by decide, by decide, RX10, TX10, rfl, uw9, fw_RX10_55⟩
theorem fp_RX10_55 : FLu RX10 55 9 8 .int := ⟨by decide, by decide, RX10, TX10, tyX10, rfl, uw9, fw_RX10_55, rfl, tyX10_ok 8 (by decide), tyX10_ok, nmX10⟩
theorem fs_RX7_9 : Cond.fieldLink RX7 9 "BurdenHouse$Stuff" "ABOVE" "[I" ∈ GW := (gw_2 (List.mem_of_getElem? (l := tables_1_2) (i := 214) (by decide +kernel)) rfl)
theorem fs_RX1_58 : Cond.fieldLink RX1 58 "BurdenHouse$Furnace" "AREAS" "[I" ∈ GW := (gw_3 (List.mem_of_getElem? (l := tables_1_3) (i := 39) (by decide +kernel)) rfl)
theorem fw_RX11_7 : Cond.fieldLink RX11 7 (TX11 0).1 (TX11 0).2.1 (TX11 0).2.2.1 ∈ GW := (gw_5 (List.mem_of_getElem? (l := tables_1_5) (i := 160) (by decide +kernel)) rfl)
theorem fl_RX11_7 : FLk RX11 7 10 0 := ⟨by decide, by decide, RX11, TX11, rfl, uw10, fw_RX11_7⟩
theorem fw_RX11_13 : Cond.fieldLink RX11 13 (TX11 1).1 (TX11 1).2.1 (TX11 1).2.2.1 ∈ GW := (gw_5 (List.mem_of_getElem? (l := tables_1_5) (i := 161) (by decide +kernel)) rfl)
theorem fl_RX11_13 : FLk RX11 13 10 1 := ⟨by decide, by decide, RX11, TX11, rfl, uw10, fw_RX11_13⟩
theorem fw_RX11_16 : Cond.fieldLink RX11 16 (TX11 2).1 (TX11 2).2.1 (TX11 2).2.2.1 ∈ GW := (gw_5 (List.mem_of_getElem? (l := tables_1_5) (i := 162) (by decide +kernel)) rfl)
theorem fl_RX11_16 : FLk RX11 16 10 2 := ⟨by decide, by decide, RX11, TX11, rfl, uw10, fw_RX11_16⟩
theorem fw_RX11_340 : Cond.fieldLink RX11 340 (TX11 3).1 (TX11 3).2.1 (TX11 3).2.2.1 ∈ GW := (gw_5 (List.mem_of_getElem? (l := tables_1_5) (i := 163) (by decide +kernel)) rfl)
theorem fl_RX11_340 : FLk RX11 340 10 3 := ⟨by decide, by decide, RX11, TX11, rfl, uw10, fw_RX11_340⟩
theorem fp_RX11_340 : FLu RX11 340 10 3 .boolean := ⟨by decide, by decide, RX11, TX11, tyX11, rfl, uw10, fw_RX11_340, rfl, tyX11_ok 3 (by decide), tyX11_ok, nmX11⟩
theorem fw_RX11_19 : Cond.fieldLink RX11 19 (TX11 4).1 (TX11 4).2.1 (TX11 4).2.2.1 ∈ GW := (gw_5 (List.mem_of_getElem? (l := tables_1_5) (i := 164) (by decide +kernel)) rfl)
theorem fl_RX11_19 : FLk RX11 19 10 4 := ⟨by decide, by decide, RX11, TX11, rfl, uw10, fw_RX11_19⟩
theorem fw_RX11_22 : Cond.fieldLink RX11 22 (TX11 5).1 (TX11 5).2.1 (TX11 5).2.2.1 ∈ GW := (gw_5 (List.mem_of_getElem? (l := tables_1_5) (i := 165) (by decide +kernel)) rfl)
theorem fl_RX11_22 : FLk RX11 22 10 5 := ⟨by decide, by decide, RX11, TX11, rfl, uw10, fw_RX11_22⟩
theorem fw_RX11_25 : Cond.fieldLink RX11 25 (TX11 6).1 (TX11 6).2.1 (TX11 6).2.2.1 ∈ GW := (gw_5 (List.mem_of_getElem? (l := tables_1_5) (i := 166) (by decide +kernel)) rfl)
theorem fl_RX11_25 : FLk RX11 25 10 6 := ⟨by decide, by decide, RX11, TX11, rfl, uw10, fw_RX11_25⟩
theorem fw_RX11_28 : Cond.fieldLink RX11 28 (TX11 7).1 (TX11 7).2.1 (TX11 7).2.2.1 ∈ GW := (gw_5 (List.mem_of_getElem? (l := tables_1_5) (i := 167) (by decide +kernel)) rfl)
theorem fl_RX11_28 : FLk RX11 28 10 7 := ⟨by decide, by decide, RX11, TX11, rfl, uw10, fw_RX11_28⟩
theorem fw_RX11_31 : Cond.fieldLink RX11 31 (TX11 8).1 (TX11 8).2.1 (TX11 8).2.2.1 ∈ GW := (gw_5 (List.mem_of_getElem? (l := tables_1_5) (i := 168) (by decide +kernel)) rfl)
theorem fl_RX11_31 : FLk RX11 31 10 8 := ⟨by decide, by decide, RX11, TX11, rfl, uw10, fw_RX11_31⟩
theorem fw_RX11_34 : Cond.fieldLink RX11 34 (TX11 9).1 (TX11 9).2.1 (TX11 9).2.2.1 ∈ GW := (gw_5 (List.mem_of_getElem? (l := tables_1_5) (i := 169) (by decide +kernel)) rfl)
theorem fl_RX11_34 : FLk RX11 34 10 9 := ⟨by decide, by decide, RX11, TX11, rfl, uw10, fw_RX11_34⟩
theorem fw_RX11_37 : Cond.fieldLink RX11 37 (TX11 10).1 (TX11 10).2.1 (TX11 10).2.2.1 ∈ GW := (gw_5 (List.mem_of_getElem? (l := tables_1_5) (i := 170) (by decide +kernel)) rfl)
theorem fl_RX11_37 : FLk RX11 37 10 10 := ⟨by decide, by decide, RX11, TX11, rfl, uw10, fw_RX11_37⟩
theorem fw_RX11_40 : Cond.fieldLink RX11 40 (TX11 11).1 (TX11 11).2.1 (TX11 11).2.2.1 ∈ GW := (gw_5 (List.mem_of_getElem? (l := tables_1_5) (i := 171) (by decide +kernel)) rfl)
theorem fl_RX11_40 : FLk RX11 40 10 11 := ⟨by decide, by decide, RX11, TX11, rfl, uw10, fw_RX11_40⟩
theorem fw_RX11_43 : Cond.fieldLink RX11 43 (TX11 12).1 (TX11 12).2.1 (TX11 12).2.2.1 ∈ GW := (gw_5 (List.mem_of_getElem? (l := tables_1_5) (i := 172) (by decide +kernel)) rfl)
theorem fl_RX11_43 : FLk RX11 43 10 12 := ⟨by decide, by decide, RX11, TX11, rfl, uw10, fw_RX11_43⟩
theorem fw_RX11_47 : Cond.fieldLink RX11 47 (TX11 13).1 (TX11 13).2.1 (TX11 13).2.2.1 ∈ GW := (gw_5 (List.mem_of_getElem? (l := tables_1_5) (i := 173) (by decide +kernel)) rfl)
theorem fl_RX11_47 : FLk RX11 47 10 13 := ⟨by decide, by decide, RX11, TX11, rfl, uw10, fw_RX11_47⟩
theorem fw_RX11_50 : Cond.fieldLink RX11 50 (TX11 14).1 (TX11 14).2.1 (TX11 14).2.2.1 ∈ GW := (gw_5 (List.mem_of_getElem? (l := tables_1_5) (i := 174) (by decide +kernel)) rfl)
theorem fl_RX11_50 : FLk RX11 50 10 14 := ⟨by decide, by decide, RX11, TX11, rfl, uw10, fw_RX11_50⟩
theorem fw_RX11_53 : Cond.fieldLink RX11 53 (TX11 15).1 (TX11 15).2.1 (TX11 15).2.2.1 ∈ GW := (gw_5 (List.mem_of_getElem? (l := tables_1_5) (i := 175) (by decide +kernel)) rfl)
theorem fl_RX11_53 : FLk RX11 53 10 15 := ⟨by decide, by decide, RX11, TX11, rfl, uw10, fw_RX11_53⟩
theorem fw_RX11_56 : Cond.fieldLink RX11 56 (TX11 16).1 (TX11 16).2.1 (TX11 16).2.2.1 ∈ GW := (gw_5 (List.mem_of_getElem? (l := tables_1_5) (i := 176) (by decide +kernel)) rfl)
theorem fl_RX11_56 : FLk RX11 56 10 16 := ⟨by decide, by decide, RX11, TX11, rfl, uw10, fw_RX11_56⟩
theorem fw_RX11_197 : Cond.fieldLink RX11 197 (TX11 17).1 (TX11 17).2.1 (TX11 17).2.2.1 ∈ GW := (gw_5 (List.mem_of_getElem? (l := tables_1_5) (i := 177) (by decide +kernel)) rfl)
theorem fl_RX11_197 : FLk RX11 197 10 17 := ⟨by decide, by decide, RX11, TX11, rfl, uw10, fw_RX11_197⟩
theorem fp_RX11_197 : FLu RX11 197 10 17 .int := ⟨by decide, by decide, RX11, TX11, tyX11, rfl, uw10, fw_RX11_197, rfl, tyX11_ok 17 (by decide), tyX11_ok, nmX11⟩
theorem fw_RX11_59 : Cond.fieldLink RX11 59 (TX11 18).1 (TX11 18).2.1 (TX11 18).2.2.1 ∈ GW := (gw_5 (List.mem_of_getElem? (l := tables_1_5) (i := 178) (by decide +kernel)) rfl)
theorem fl_RX11_59 : FLk RX11 59 10 18 := ⟨by decide, by decide, RX11, TX11, rfl, uw10, fw_RX11_59⟩
theorem fw_RX11_219 : Cond.fieldLink RX11 219 (TX11 19).1 (TX11 19).2.1 (TX11 19).2.2.1 ∈ GW := (gw_5 (List.mem_of_getElem? (l := tables_1_5) (i := 179) (by decide +kernel)) rfl)
theorem fl_RX11_219 : FLk RX11 219 10 19 := ⟨by decide, by decide, RX11, TX11, rfl, uw10, fw_RX11_219⟩
theorem fp_RX11_219 : FLu RX11 219 10 19 .int := ⟨by decide, by decide, RX11, TX11, tyX11, rfl, uw10, fw_RX11_219, rfl, tyX11_ok 19 (by decide), tyX11_ok, nmX11⟩
theorem fw_RX11_236 : Cond.fieldLink RX11 236 (TX11 20).1 (TX11 20).2.1 (TX11 20).2.2.1 ∈ GW := (gw_5 (List.mem_of_getElem? (l := tables_1_5) (i := 180) (by decide +kernel)) rfl)
theorem fl_RX11_236 : FLk RX11 236 10 20 := ⟨by decide, by decide, RX11, TX11, rfl, uw10, fw_RX11_236⟩
theorem fp_RX11_236 : FLu RX11 236 10 20 .int := ⟨by decide, by decide, RX11, TX11, tyX11, rfl, uw10, fw_RX11_236, rfl, tyX11_ok 20 (by decide), tyX11_ok, nmX11⟩
theorem fw_RX11_230 : Cond.fieldLink RX11 230 (TX11 21).1 (TX11 21).2.1 (TX11 21).2.2.1 ∈ GW := (gw_5 (List.mem_of_getElem? (l := tables_1_5) (i := 181) (by decide +kernel)) rfl)
theorem fl_RX11_230 : FLk RX11 230 10 21 := ⟨by decide, by decide, RX11, TX11, rfl, uw10, fw_RX11_230⟩
theorem fp_RX11_230 : FLu RX11 230 10 21 .int := ⟨by decide, by decide, RX11, TX11, tyX11, rfl, uw10, fw_RX11_230, rfl, tyX11_ok 21 (by decide), tyX11_ok, nmX11⟩
theorem fw_RX11_233 : Cond.fieldLink RX11 233 (TX11 22).1 (TX11 22).2.1 (TX11 22).2.2.1 ∈ GW := (gw_5 (List.mem_of_getElem? (l := tables_1_5) (i := 182) (by decide +kernel)) rfl)
theorem fl_RX11_233 : FLk RX11 233 10 22 := ⟨by decide, by decide, RX11, TX11, rfl, uw10, fw_RX11_233⟩
theorem fp_RX11_233 : FLu RX11 233 10 22 .int := ⟨by decide, by decide, RX11, TX11, tyX11, rfl, uw10, fw_RX11_233, rfl, tyX11_ok 22 (by decide), tyX11_ok, nmX11⟩
theorem fw_RX11_248 : Cond.fieldLink RX11 248 (TX11 23).1 (TX11 23).2.1 (TX11 23).2.2.1 ∈ GW := (gw_5 (List.mem_of_getElem? (l := tables_1_5) (i := 183) (by decide +kernel)) rfl)
theorem fl_RX11_248 : FLk RX11 248 10 23 := ⟨by decide, by decide, RX11, TX11, rfl, uw10, fw_RX11_248⟩
theorem fp_RX11_248 : FLu RX11 248 10 23 .int := ⟨by decide, by decide, RX11, TX11, tyX11, rfl, uw10, fw_RX11_248, rfl, tyX11_ok 23 (by decide), tyX11_ok, nmX11⟩
theorem fw_RX11_242 : Cond.fieldLink RX11 242 (TX11 24).1 (TX11 24).2.1 (TX11 24).2.2.1 ∈ GW := (gw_5 (List.mem_of_getElem? (l := tables_1_5) (i := 184) (by decide +kernel)) rfl)
theorem fl_RX11_242 : FLk RX11 242 10 24 := ⟨by decide, by decide, RX11, TX11, rfl, uw10, fw_RX11_242⟩
theorem fp_RX11_242 : FLu RX11 242 10 24 .int := ⟨by decide, by decide, RX11, TX11, tyX11, rfl, uw10, fw_RX11_242, rfl, tyX11_ok 24 (by decide), tyX11_ok, nmX11⟩
theorem fw_RX11_294 : Cond.fieldLink RX11 294 (TX11 25).1 (TX11 25).2.1 (TX11 25).2.2.1 ∈ GW := (gw_5 (List.mem_of_getElem? (l := tables_1_5) (i := 185) (by decide +kernel)) rfl)
theorem fl_RX11_294 : FLk RX11 294 10 25 := ⟨by decide, by decide, RX11, TX11, rfl, uw10, fw_RX11_294⟩
theorem fp_RX11_294 : FLu RX11 294 10 25 .int := ⟨by decide, by decide, RX11, TX11, tyX11, rfl, uw10, fw_RX11_294, rfl, tyX11_ok 25 (by decide), tyX11_ok, nmX11⟩
theorem fw_RX11_291 : Cond.fieldLink RX11 291 (TX11 26).1 (TX11 26).2.1 (TX11 26).2.2.1 ∈ GW := (gw_5 (List.mem_of_getElem? (l := tables_1_5) (i := 186) (by decide +kernel)) rfl)
theorem fl_RX11_291 : FLk RX11 291 10 26 := ⟨by decide, by decide, RX11, TX11, rfl, uw10, fw_RX11_291⟩
theorem fp_RX11_291 : FLu RX11 291 10 26 .int := ⟨by decide, by decide, RX11, TX11, tyX11, rfl, uw10, fw_RX11_291, rfl, tyX11_ok 26 (by decide), tyX11_ok, nmX11⟩
theorem fw_RX11_261 : Cond.fieldLink RX11 261 (TX11 27).1 (TX11 27).2.1 (TX11 27).2.2.1 ∈ GW := (gw_5 (List.mem_of_getElem? (l := tables_1_5) (i := 187) (by decide +kernel)) rfl)
theorem fl_RX11_261 : FLk RX11 261 10 27 := ⟨by decide, by decide, RX11, TX11, rfl, uw10, fw_RX11_261⟩
theorem fp_RX11_261 : FLu RX11 261 10 27 .int := ⟨by decide, by decide, RX11, TX11, tyX11, rfl, uw10, fw_RX11_261, rfl, tyX11_ok 27 (by decide), tyX11_ok, nmX11⟩
theorem fw_RX11_258 : Cond.fieldLink RX11 258 (TX11 28).1 (TX11 28).2.1 (TX11 28).2.2.1 ∈ GW := (gw_5 (List.mem_of_getElem? (l := tables_1_5) (i := 188) (by decide +kernel)) rfl)
theorem fl_RX11_258 : FLk RX11 258 10 28 := ⟨by decide, by decide, RX11, TX11, rfl, uw10, fw_RX11_258⟩
theorem fp_RX11_258 : FLu RX11 258 10 28 .int := ⟨by decide, by decide, RX11, TX11, tyX11, rfl, uw10, fw_RX11_258, rfl, tyX11_ok 28 (by decide), tyX11_ok, nmX11⟩
theorem fw_RX11_285 : Cond.fieldLink RX11 285 (TX11 29).1 (TX11 29).2.1 (TX11 29).2.2.1 ∈ GW := (gw_5 (List.mem_of_getElem? (l := tables_1_5) (i := 189) (by decide +kernel)) rfl)
theorem fl_RX11_285 : FLk RX11 285 10 29 := ⟨by decide, by decide, RX11, TX11, rfl, uw10, fw_RX11_285⟩
theorem fp_RX11_285 : FLu RX11 285 10 29 .int := ⟨by decide, by decide, RX11, TX11, tyX11, rfl, uw10, fw_RX11_285, rfl, tyX11_ok 29 (by decide), tyX11_ok, nmX11⟩
theorem fw_RX11_62 : Cond.fieldLink RX11 62 (TX11 30).1 (TX11 30).2.1 (TX11 30).2.2.1 ∈ GW := (gw_5 (List.mem_of_getElem? (l := tables_1_5) (i := 190) (by decide +kernel)) rfl)
theorem fl_RX11_62 : FLk RX11 62 10 30 := ⟨by decide, by decide, RX11, TX11, rfl, uw10, fw_RX11_62⟩
theorem fw_RX11_65 : Cond.fieldLink RX11 65 (TX11 31).1 (TX11 31).2.1 (TX11 31).2.2.1 ∈ GW := (gw_5 (List.mem_of_getElem? (l := tables_1_5) (i := 191) (by decide +kernel)) rfl)
theorem fl_RX11_65 : FLk RX11 65 10 31 := ⟨by decide, by decide, RX11, TX11, rfl, uw10, fw_RX11_65⟩
theorem fw_RX11_68 : Cond.fieldLink RX11 68 (TX11 32).1 (TX11 32).2.1 (TX11 32).2.2.1 ∈ GW := (gw_5 (List.mem_of_getElem? (l := tables_1_5) (i := 192) (by decide +kernel)) rfl)
theorem fl_RX11_68 : FLk RX11 68 10 32 := ⟨by decide, by decide, RX11, TX11, rfl, uw10, fw_RX11_68⟩
theorem fw_RX11_71 : Cond.fieldLink RX11 71 (TX11 33).1 (TX11 33).2.1 (TX11 33).2.2.1 ∈ GW := (gw_5 (List.mem_of_getElem? (l := tables_1_5) (i := 193) (by decide +kernel)) rfl)
theorem fl_RX11_71 : FLk RX11 71 10 33 := ⟨by decide, by decide, RX11, TX11, rfl, uw10, fw_RX11_71⟩
theorem fw_RX11_335 : Cond.fieldLink RX11 335 (TX11 34).1 (TX11 34).2.1 (TX11 34).2.2.1 ∈ GW := (gw_5 (List.mem_of_getElem? (l := tables_1_5) (i := 194) (by decide +kernel)) rfl)
theorem fl_RX11_335 : FLk RX11 335 10 34 := ⟨by decide, by decide, RX11, TX11, rfl, uw10, fw_RX11_335⟩
theorem fp_RX11_335 : FLu RX11 335 10 34 .int := ⟨by decide, by decide, RX11, TX11, tyX11, rfl, uw10, fw_RX11_335, rfl, tyX11_ok 34 (by decide), tyX11_ok, nmX11⟩
theorem fw_RX11_74 : Cond.fieldLink RX11 74 (TX11 35).1 (TX11 35).2.1 (TX11 35).2.2.1 ∈ GW := (gw_5 (List.mem_of_getElem? (l := tables_1_5) (i := 195) (by decide +kernel)) rfl)
theorem fl_RX11_74 : FLk RX11 74 10 35 := ⟨by decide, by decide, RX11, TX11, rfl, uw10, fw_RX11_74⟩
theorem kc_RX10_67 : Cond.constant RX10 67 (-1000000001) ∈ GW := (gw_2 (List.mem_of_getElem? (l := tables_1_2) (i := 171) (by decide +kernel)) rfl)
theorem kc_RX0_43 : Cond.constant RX0 43 (-1000000003) ∈ GW := (gw_2 (List.mem_of_getElem? (l := tables_1_2) (i := 176) (by decide +kernel)) rfl)
theorem kc_RX10_110 : Cond.constant RX10 110 (-1000000012) ∈ GW := (gw_2 (List.mem_of_getElem? (l := tables_1_2) (i := 216) (by decide +kernel)) rfl)
theorem kc_RX10_111 : Cond.constant RX10 111 (-1000000003) ∈ GW := (gw_2 (List.mem_of_getElem? (l := tables_1_2) (i := 221) (by decide +kernel)) rfl)
theorem kc_RX10_112 : Cond.constant RX10 112 99999 ∈ GW := (gw_2 (List.mem_of_getElem? (l := tables_1_2) (i := 226) (by decide +kernel)) rfl)
theorem kc_RX10_116 : Cond.constant RX10 116 (-1000000002) ∈ GW := (gw_2 (List.mem_of_getElem? (l := tables_1_2) (i := 239) (by decide +kernel)) rfl)
theorem kc_RX1_84 : Cond.constantLong RX1 84 (-1) ∈ GW := (gw_3 (List.mem_of_getElem? (l := tables_1_3) (i := 26) (by decide +kernel)) rfl)
theorem kc_RX1_149 : Cond.constant RX1 149 100000 ∈ GW := (gw_3 (List.mem_of_getElem? (l := tables_1_3) (i := 103) (by decide +kernel)) rfl)
theorem kc_RX10_350 : Cond.constantLong RX10 350 100 ∈ GW := (gw_3 (List.mem_of_getElem? (l := tables_1_3) (i := 159) (by decide +kernel)) rfl)
theorem kc_RX10_199 : Cond.constant RX10 199 (-1000000005) ∈ GW := (gw_3 (List.mem_of_getElem? (l := tables_1_3) (i := 192) (by decide +kernel)) rfl)
theorem kc_RX8_87 : Cond.constant RX8 87 (-1000000005) ∈ GW := (gw_4 (List.mem_of_getElem? (l := tables_1_4) (i := 48) (by decide +kernel)) rfl)
theorem kc_RX9_45 : Cond.constant RX9 45 (-1000000003) ∈ GW := (gw_4 (List.mem_of_getElem? (l := tables_1_4) (i := 158) (by decide +kernel)) rfl)
theorem kc_RX10_240 : Cond.constant RX10 240 999999 ∈ GW := (gw_4 (List.mem_of_getElem? (l := tables_1_4) (i := 194) (by decide +kernel)) rfl)
theorem kc_RX3_31 : Cond.constant RX3 31 (-1000000003) ∈ GW := (gw_4 (List.mem_of_getElem? (l := tables_1_4) (i := 228) (by decide +kernel)) rfl)
theorem kc_RX10_277 : Cond.constant RX10 277 (-1000000014) ∈ GW := (gw_5 (List.mem_of_getElem? (l := tables_1_5) (i := 31) (by decide +kernel)) rfl)
theorem kc_RX10_281 : Cond.constant RX10 281 (-1000000011) ∈ GW := (gw_5 (List.mem_of_getElem? (l := tables_1_5) (i := 36) (by decide +kernel)) rfl)
theorem kc_RX10_283 : Cond.constant RX10 283 (-1000000013) ∈ GW := (gw_5 (List.mem_of_getElem? (l := tables_1_5) (i := 41) (by decide +kernel)) rfl)
theorem kc_RX10_287 : Cond.constant RX10 287 (-99999) ∈ GW := (gw_5 (List.mem_of_getElem? (l := tables_1_5) (i := 46) (by decide +kernel)) rfl)
theorem kc_RX11_96 : Cond.constantLong RX11 96 5 ∈ GW := (gw_6 (List.mem_of_getElem? (l := tables_1_6) (i := 33) (by decide +kernel)) rfl)
theorem kc_RX11_98 : Cond.constantLong RX11 98 9999 ∈ GW := (gw_6 (List.mem_of_getElem? (l := tables_1_6) (i := 37) (by decide +kernel)) rfl)
theorem kc_RX11_100 : Cond.constant RX11 100 (-1000000001) ∈ GW := (gw_6 (List.mem_of_getElem? (l := tables_1_6) (i := 38) (by decide +kernel)) rfl)
theorem kc_RX11_101 : Cond.constant RX11 101 (-1000000003) ∈ GW := (gw_6 (List.mem_of_getElem? (l := tables_1_6) (i := 39) (by decide +kernel)) rfl)
theorem kc_RX11_109 : Cond.constantLong RX11 109 999 ∈ GW := (gw_6 (List.mem_of_getElem? (l := tables_1_6) (i := 59) (by decide +kernel)) rfl)
theorem kc_RX11_111 : Cond.constantLong RX11 111 3 ∈ GW := (gw_6 (List.mem_of_getElem? (l := tables_1_6) (i := 60) (by decide +kernel)) rfl)
theorem kc_RX11_124 : Cond.constant RX11 124 (-1000000012) ∈ GW := (gw_6 (List.mem_of_getElem? (l := tables_1_6) (i := 84) (by decide +kernel)) rfl)
theorem kc_RX11_125 : Cond.constantLong RX11 125 99999 ∈ GW := (gw_6 (List.mem_of_getElem? (l := tables_1_6) (i := 93) (by decide +kernel)) rfl)
theorem kc_RX11_130 : Cond.constantLong RX11 130 2 ∈ GW := (gw_6 (List.mem_of_getElem? (l := tables_1_6) (i := 102) (by decide +kernel)) rfl)
theorem kc_RX11_153 : Cond.constant RX11 153 (-1000000002) ∈ GW := (gw_6 (List.mem_of_getElem? (l := tables_1_6) (i := 111) (by decide +kernel)) rfl)
theorem kc_RX11_132 : Cond.constantLong RX11 132 (-1) ∈ GW := (gw_6 (List.mem_of_getElem? (l := tables_1_6) (i := 124) (by decide +kernel)) rfl)
theorem kc_RX11_158 : Cond.constantLong RX11 158 8 ∈ GW := (gw_6 (List.mem_of_getElem? (l := tables_1_6) (i := 140) (by decide +kernel)) rfl)
theorem kc_RX11_185 : Cond.constantLong RX11 185 4 ∈ GW := (gw_6 (List.mem_of_getElem? (l := tables_1_6) (i := 149) (by decide +kernel)) rfl)
theorem kc_RX11_181 : Cond.constant RX11 181 100000 ∈ GW := (gw_6 (List.mem_of_getElem? (l := tables_1_6) (i := 188) (by decide +kernel)) rfl)
theorem kc_RX11_201 : Cond.constantLong RX11 201 60 ∈ GW := (gw_6 (List.mem_of_getElem? (l := tables_1_6) (i := 193) (by decide +kernel)) rfl)
theorem kc_RX11_163 : Cond.constantLong RX11 163 100 ∈ GW := (gw_6 (List.mem_of_getElem? (l := tables_1_6) (i := 213) (by decide +kernel)) rfl)
theorem kc_RX11_77 : Cond.constant RX11 77 (-1000000005) ∈ GW := (gw_6 (List.mem_of_getElem? (l := tables_1_6) (i := 237) (by decide +kernel)) rfl)
theorem kc_RX11_222 : Cond.constantLong RX11 222 97 ∈ GW := (gw_7 (List.mem_of_getElem? (l := tables_1_7) (i := 22) (by decide +kernel)) rfl)
theorem kc_RX11_224 : Cond.constantLong RX11 224 122 ∈ GW := (gw_7 (List.mem_of_getElem? (l := tables_1_7) (i := 23) (by decide +kernel)) rfl)
theorem kc_RX11_226 : Cond.constantLong RX11 226 48 ∈ GW := (gw_7 (List.mem_of_getElem? (l := tables_1_7) (i := 28) (by decide +kernel)) rfl)
theorem kc_RX11_228 : Cond.constantLong RX11 228 57 ∈ GW := (gw_7 (List.mem_of_getElem? (l := tables_1_7) (i := 29) (by decide +kernel)) rfl)
theorem kc_RX11_315 : Cond.constantLong RX11 315 999999 ∈ GW := (gw_7 (List.mem_of_getElem? (l := tables_1_7) (i := 97) (by decide +kernel)) rfl)
theorem kc_RX11_323 : Cond.constant RX11 323 99999 ∈ GW := (gw_7 (List.mem_of_getElem? (l := tables_1_7) (i := 114) (by decide +kernel)) rfl)
theorem kc_RX11_327 : Cond.constant RX11 327 (-1000000014) ∈ GW := (gw_7 (List.mem_of_getElem? (l := tables_1_7) (i := 126) (by decide +kernel)) rfl)
theorem kc_RX11_328 : Cond.constant RX11 328 (-1000000011) ∈ GW := (gw_7 (List.mem_of_getElem? (l := tables_1_7) (i := 131) (by decide +kernel)) rfl)
theorem kc_RX11_329 : Cond.constant RX11 329 (-1000000013) ∈ GW := (gw_7 (List.mem_of_getElem? (l := tables_1_7) (i := 132) (by decide +kernel)) rfl)
theorem kc_RX11_330 : Cond.constantLong RX11 330 (-99999) ∈ GW := (gw_7 (List.mem_of_getElem? (l := tables_1_7) (i := 133) (by decide +kernel)) rfl)
theorem kc_RX11_338 : Cond.constantLong RX11 338 30 ∈ GW := (gw_7 (List.mem_of_getElem? (l := tables_1_7) (i := 173) (by decide +kernel)) rfl)
end
section
/-! the methods -/
abbrev m_X0_init : Md := (yX0_init, cX0_init, 1, none)
abbrev m_X0_become : Md := (yX0_become, cX0_become, 2, none)
abbrev m_X0_has : Md := (yX0_has, cX0_has, 2, (some .boolean))
abbrev m_X0_add : Md := (yX0_add, cX0_add, 5, (some .int))
abbrev m_X0_isTold : Md := (yX0_isTold, cX0_isTold, 3, (some .boolean))
abbrev m_X0_addTold : Md := (yX0_addTold, cX0_addTold, 2, (some .int))
abbrev m_X0_cheapestMix : Md := (yX0_cheapestMix, cX0_cheapestMix, 9, (some .int))
abbrev m_X0_suits : Md := (yX0_suits, cX0_suits, 5, (some .boolean))
abbrev m_X0_tensIn : Md := (yX0_tensIn, cX0_tensIn, 5, (some .int))
abbrev m_X0_sumIn : Md := (yX0_sumIn, cX0_sumIn, 5, (some .int))
abbrev m_X0_priceIn : Md := (yX0_priceIn, cX0_priceIn, 4, (some .int))
abbrev m_X1_init : Md := (yX1_init, cX1_init, 2, none)
abbrev m_X1_become : Md := (yX1_become, cX1_become, 3, none)
abbrev m_X1_has : Md := (yX1_has, cX1_has, 2, (some .boolean))
abbrev m_X1_hasRoom : Md := (yX1_hasRoom, cX1_hasRoom, 1, (some .boolean))
abbrev m_X1_topOf : Md := (yX1_topOf, cX1_topOf, 2, (some .int))
abbrev m_X1_greatestTop : Md := (yX1_greatestTop, cX1_greatestTop, 3, (some .int))
abbrev m_X1_allBulk : Md := (yX1_allBulk, cX1_allBulk, 3, (some .int))
abbrev m_X1_basic : Md := (yX1_basic, cX1_basic, 1, (some .int))
abbrev m_X1_resistanceOf : Md := (yX1_resistanceOf, cX1_resistanceOf, 4, (some .int))
abbrev m_X1_partByWeights : Md := (yX1_partByWeights, cX1_partByWeights, 8, none)
abbrev m_X1_greatestRest : Md := (yX1_greatestRest, cX1_greatestRest, 3, (some .int))
abbrev m_X1_layOn : Md := (yX1_layOn, cX1_layOn, 9, none)
abbrev m_X1_slide : Md := (yX1_slide, cX1_slide, 4, none)
abbrev m_X1_slidesOnce : Md := (yX1_slidesOnce, cX1_slidesOnce, 7, (some .boolean))
abbrev m_X1_partGas : Md := (yX1_partGas, cX1_partGas, 4, none)
abbrev m_X1_eatenOf : Md := (yX1_eatenOf, cX1_eatenOf, 2, (some .int))
abbrev m_X1_passHour : Md := (yX1_passHour, cX1_passHour, 3, none)
abbrev m_X1_eat : Md := (yX1_eat, cX1_eat, 6, none)
abbrev m_X1_bring : Md := (yX1_bring, cX1_bring, 5, none)
abbrev m_X1_dropEmptyLayers : Md := (yX1_dropEmptyLayers, cX1_dropEmptyLayers, 4, none)
abbrev m_X1_takeOut : Md := (yX1_takeOut, cX1_takeOut, 2, none)
abbrev m_X2_init : Md := (yX2_init, cX2_init, 1, none)
abbrev m_X2_become : Md := (yX2_become, cX2_become, 2, none)
abbrev m_X2_passHour : Md := (yX2_passHour, cX2_passHour, 2, none)
abbrev m_X2_gasFor : Md := (yX2_gasFor, cX2_gasFor, 3, (some .int))
abbrev m_X2_playRound : Md := (yX2_playRound, cX2_playRound, 4, (some .int))
abbrev m_X2_drawFor : Md := (yX2_drawFor, cX2_drawFor, 3, (some .int))
abbrev m_X2_chargeOut : Md := (yX2_chargeOut, cX2_chargeOut, 3, none)
abbrev m_X2_pourOut : Md := (yX2_pourOut, cX2_pourOut, 4, (some .int))
abbrev m_X2_lateFor : Md := (yX2_lateFor, cX2_lateFor, 3, (some .int))
abbrev m_X3_init : Md := (yX3_init, cX3_init, 1, none)
abbrev m_X3_become : Md := (yX3_become, cX3_become, 2, none)
abbrev m_X3_has : Md := (yX3_has, cX3_has, 2, (some .boolean))
abbrev m_X3_add : Md := (yX3_add, cX3_add, 3, (some .int))
abbrev m_X3_firstReady : Md := (yX3_firstReady, cX3_firstReady, 3, (some .int))
abbrev m_X3_takeIn : Md := (yX3_takeIn, cX3_takeIn, 10, (some .int))
abbrev m_X4_init : Md := (yX4_init, cX4_init, 1, none)
abbrev m_X4_become : Md := (yX4_become, cX4_become, 2, none)
abbrev m_X4_broughtBetween : Md := (yX4_broughtBetween, cX4_broughtBetween, 4, (some .int))
abbrev m_X5_init : Md := (yX5_init, cX5_init, 1, none)
abbrev m_X5_become : Md := (yX5_become, cX5_become, 2, none)
abbrev m_X5_makeNew : Md := (yX5_makeNew, cX5_makeNew, 4, none)
abbrev m_X5_has : Md := (yX5_has, cX5_has, 2, (some .boolean))
abbrev m_X5_hasRow : Md := (yX5_hasRow, cX5_hasRow, 3, (some .boolean))
abbrev m_X5_put : Md := (yX5_put, cX5_put, 3, none)
abbrev m_X5_lose : Md := (yX5_lose, cX5_lose, 2, none)
abbrev m_X5_knownAhead : Md := (yX5_knownAhead, cX5_knownAhead, 3, (some .int))
abbrev m_X5_hangs : Md := (yX5_hangs, cX5_hangs, 5, (some .int))
abbrev m_X5_slips : Md := (yX5_slips, cX5_slips, 5, (some .int))
abbrev m_X6_init : Md := (yX6_init, cX6_init, 1, none)
abbrev m_X7_isOf : Md := (yX7_isOf, cX7_isOf, 4, (some .boolean))
abbrev m_X7_amountOf : Md := (yX7_amountOf, cX7_amountOf, 4, (some .int))
abbrev m_X7_bulkOf : Md := (yX7_bulkOf, cX7_bulkOf, 2, (some .int))
abbrev m_X7_ironOf : Md := (yX7_ironOf, cX7_ironOf, 3, (some .int))
abbrev m_X7_acidOf : Md := (yX7_acidOf, cX7_acidOf, 3, (some .int))
abbrev m_X7_limeOf : Md := (yX7_limeOf, cX7_limeOf, 3, (some .int))
abbrev m_X7_holdsOf : Md := (yX7_holdsOf, cX7_holdsOf, 1, (some .int))
abbrev m_X8_init : Md := (yX8_init, cX8_init, 1, none)
abbrev m_X8_addNumber : Md := (yX8_addNumber, cX8_addNumber, 3, none)
abbrev m_X8_readText : Md := (yX8_readText, cX8_readText, 2, (some .int))
abbrev m_X8_beginReading : Md := (yX8_beginReading, cX8_beginReading, 1, none)
abbrev m_X8_step : Md := (yX8_step, cX8_step, 2, none)
abbrev m_X8_sortAt : Md := (yX8_sortAt, cX8_sortAt, 3, (some .int))
abbrev m_X8_takesHead : Md := (yX8_takesHead, cX8_takesHead, 1, (some .boolean))
abbrev m_X8_keyThere : Md := (yX8_keyThere, cX8_keyThere, 1, (some .int))
abbrev m_X8_isThere : Md := (yX8_isThere, cX8_isThere, 3, (some .boolean))
abbrev m_X8_numberThere : Md := (yX8_numberThere, cX8_numberThere, 3, (some .int))
abbrev m_X8_takesPiece : Md := (yX8_takesPiece, cX8_takesPiece, 2, (some .boolean))
abbrev m_X8_nameThere : Md := (yX8_nameThere, cX8_nameThere, 3, (some .int))
abbrev m_X8_takesOpening : Md := (yX8_takesOpening, cX8_takesOpening, 2, (some .boolean))
abbrev m_X8_takesSign : Md := (yX8_takesSign, cX8_takesSign, 3, (some .boolean))
abbrev m_X8_takesClosing : Md := (yX8_takesClosing, cX8_takesClosing, 1, (some .boolean))
abbrev m_X8_endPiece : Md := (yX8_endPiece, cX8_endPiece, 1, none)
abbrev m_X8_writeHeldFrom : Md := (yX8_writeHeldFrom, cX8_writeHeldFrom, 3, none)
abbrev m_X8_heldRank : Md := (yX8_heldRank, cX8_heldRank, 1, (some .int))
abbrev m_X8_rankOf : Md := (yX8_rankOf, cX8_rankOf, 1, (some .int))
abbrev m_X8_hold : Md := (yX8_hold, cX8_hold, 2, none)
abbrev m_X8_write : Md := (yX8_write, cX8_write, 2, none)
abbrev m_X9_init : Md := (yX9_init, cX9_init, 1, none)
abbrev m_X9_become : Md := (yX9_become, cX9_become, 3, none)
abbrev m_X9_has : Md := (yX9_has, cX9_has, 2, (some .boolean))
abbrev m_X9_add : Md := (yX9_add, cX9_add, 3, (some .int))
abbrev m_X9_lastOf : Md := (yX9_lastOf, cX9_lastOf, 4, (some .int))
abbrev m_X9_name : Md := (yX9_name, cX9_name, 3, none)
abbrev m_X9_worth : Md := (yX9_worth, cX9_worth, 5, (some .int))
abbrev m_X9_valueOf : Md := (yX9_valueOf, cX9_valueOf, 2, (some .int))
abbrev m_X9_joined : Md := (yX9_joined, cX9_joined, 3, (some .int))
abbrev m_X10_init : Md := (yX10_init, cX10_init, 2, none)
abbrev m_X10_bin : Md := (yX10_bin, cX10_bin, 4, (some .int))
abbrev m_X10_told : Md := (yX10_told, cX10_told, 4, (some .int))
abbrev m_X10_of : Md := (yX10_of, cX10_of, 4, (some .int))
abbrev m_X10_as : Md := (yX10_as, cX10_as, 3, (some .int))
abbrev m_X10_fill : Md := (yX10_fill, cX10_fill, 3, (some .int))
abbrev m_X10_turns : Md := (yX10_turns, cX10_turns, 4, (some .int))
abbrev m_X10_rule : Md := (yX10_rule, cX10_rule, 4, (some .int))
abbrev m_X10_empty : Md := (yX10_empty, cX10_empty, 3, (some .int))
abbrev m_X10_charge : Md := (yX10_charge, cX10_charge, 3, (some .int))
abbrev m_X10_layer : Md := (yX10_layer, cX10_layer, 4, (some .int))
abbrev m_X10_ring : Md := (yX10_ring, cX10_ring, 4, (some .int))
abbrev m_X10_run : Md := (yX10_run, cX10_run, 3, (some .int))
abbrev m_X10_round : Md := (yX10_round, cX10_round, 1, (some .int))
abbrev m_X10_hearth : Md := (yX10_hearth, cX10_hearth, 2, (some .int))
abbrev m_X10_cast : Md := (yX10_cast, cX10_cast, 2, (some .int))
abbrev m_X10_down : Md := (yX10_down, cX10_down, 5, (some .int))
abbrev m_X10_feed : Md := (yX10_feed, cX10_feed, 4, (some .int))
abbrev m_X10_trim : Md := (yX10_trim, cX10_trim, 2, (some .int))
abbrev m_X10_text : Md := (yX10_text, cX10_text, 2, (some .int))
abbrev m_X10_textTold : Md := (yX10_textTold, cX10_textTold, 3, (some .int))
abbrev m_X10_why : Md := (yX10_why, cX10_why, 4, (some .int))
abbrev m_X10_choose : Md := (yX10_choose, cX10_choose, 2, (some .int))
abbrev m_X10_clear : Md := (yX10_clear, cX10_clear, 2, (some .int))
abbrev m_X10_burden : Md := (yX10_burden, cX10_burden, 5, (some .int))
abbrev m_X10_ladle : Md := (yX10_ladle, cX10_ladle, 2, (some .int))
abbrev m_X10_backAt : Md := (yX10_backAt, cX10_backAt, 2, (some .int))
abbrev m_X10_pour : Md := (yX10_pour, cX10_pour, 3, (some .int))
abbrev m_X10_sheet : Md := (yX10_sheet, cX10_sheet, 4, (some .int))
abbrev m_X10_mark : Md := (yX10_mark, cX10_mark, 5, (some .int))
abbrev m_X10_sound : Md := (yX10_sound, cX10_sound, 4, (some .int))
abbrev m_X10_tops : Md := (yX10_tops, cX10_tops, 6, (some .int))
abbrev m_X10_copy : Md := (yX10_copy, cX10_copy, 8, (some .int))
abbrev m_X10_lay : Md := (yX10_lay, cX10_lay, 6, (some .int))
abbrev m_X10_ask : Md := (yX10_ask, cX10_ask, 4, (some .int))
abbrev m_X10_item : Md := (yX10_item, cX10_item, 4, (some .int))
abbrev m_X10_rest : Md := (yX10_rest, cX10_rest, 4, (some .int))
abbrev m_X10_tell : Md := (yX10_tell, cX10_tell, 2, (some .int))
abbrev m_X10_check : Md := (yX10_check, cX10_check, 4, (some .int))
abbrev m_X10_keep : Md := (yX10_keep, cX10_keep, 1, (some .int))
abbrev m_X10_back : Md := (yX10_back, cX10_back, 1, (some .int))
abbrev m_X10_count : Md := (yX10_count, cX10_count, 2, (some .int))
abbrev m_X10_isTold : Md := (yX10_isTold, cX10_isTold, 4, (some .boolean))
abbrev m_X10_isWithin : Md := (yX10_isWithin, cX10_isWithin, 3, (some .boolean))
abbrev m_X10_isKind : Md := (yX10_isKind, cX10_isKind, 1, (some .boolean))
abbrev m_X10_isSheet : Md := (yX10_isSheet, cX10_isSheet, 1, (some .boolean))
abbrev m_X10_isSlot : Md := (yX10_isSlot, cX10_isSlot, 1, (some .boolean))
abbrev m_X10_heldWithin999 : Md := (yX10_heldWithin999, cX10_heldWithin999, 1, (some .int))
abbrev m_X10_basicOf : Md := (yX10_basicOf, cX10_basicOf, 2, (some .int))
abbrev m_X11_init : Md := (yX11_init, cX11_init, 2, none)
abbrev m_X11_isIn : Md := (yX11_isIn, cX11_isIn, 6, (some .boolean))
abbrev m_X11_orNone : Md := (yX11_orNone, cX11_orNone, 1, (some .int))
abbrev m_X11_least : Md := (yX11_least, cX11_least, 2, (some .int))
abbrev m_X11_heldIn : Md := (yX11_heldIn, cX11_heldIn, 2, (some .int))
abbrev m_X11_becomes : Md := (yX11_becomes, cX11_becomes, 4, (some .int))
abbrev m_X11_binAt : Md := (yX11_binAt, cX11_binAt, 2, (some .int))
abbrev m_X11_layerAt : Md := (yX11_layerAt, cX11_layerAt, 2, (some .int))
abbrev m_X11_ladleAt : Md := (yX11_ladleAt, cX11_ladleAt, 2, (some .int))
abbrev m_X11_textAt : Md := (yX11_textAt, cX11_textAt, 2, (some .int))
abbrev m_X11_isBin : Md := (yX11_isBin, cX11_isBin, 2, (some .boolean))
abbrev m_X11_isText : Md := (yX11_isText, cX11_isText, 2, (some .boolean))
abbrev m_X11_bulkOf : Md := (yX11_bulkOf, cX11_bulkOf, 2, (some .int))
abbrev m_X11_ironOf : Md := (yX11_ironOf, cX11_ironOf, 4, (some .int))
abbrev m_X11_acidOf : Md := (yX11_acidOf, cX11_acidOf, 3, (some .int))
abbrev m_X11_limeOf : Md := (yX11_limeOf, cX11_limeOf, 3, (some .int))
abbrev m_X11_holdsOf : Md := (yX11_holdsOf, cX11_holdsOf, 1, (some .int))
abbrev m_X11_brings : Md := (yX11_brings, cX11_brings, 6, (some .int))
abbrev m_X11_bin : Md := (yX11_bin, cX11_bin, 5, (some .int))
abbrev m_X11_told : Md := (yX11_told, cX11_told, 3, (some .int))
abbrev m_X11_of : Md := (yX11_of, cX11_of, 4, (some .int))
abbrev m_X11_isOf : Md := (yX11_isOf, cX11_isOf, 2, (some .boolean))
abbrev m_X11_as : Md := (yX11_as, cX11_as, 3, (some .int))
abbrev m_X11_fill : Md := (yX11_fill, cX11_fill, 4, (some .int))
abbrev m_X11_turns : Md := (yX11_turns, cX11_turns, 3, (some .int))
abbrev m_X11_rule : Md := (yX11_rule, cX11_rule, 3, (some .int))
abbrev m_X11_empty : Md := (yX11_empty, cX11_empty, 3, (some .int))
abbrev m_X11_part : Md := (yX11_part, cX11_part, 7, none)
abbrev m_X11_areaOf : Md := (yX11_areaOf, cX11_areaOf, 1, (some .int))
abbrev m_X11_bulkIn : Md := (yX11_bulkIn, cX11_bulkIn, 4, (some .int))
abbrev m_X11_topOf : Md := (yX11_topOf, cX11_topOf, 2, (some .int))
abbrev m_X11_greatestTop : Md := (yX11_greatestTop, cX11_greatestTop, 3, (some .int))
abbrev m_X11_allBulk : Md := (yX11_allBulk, cX11_allBulk, 3, (some .int))
abbrev m_X11_resistance : Md := (yX11_resistance, cX11_resistance, 4, (some .int))
abbrev m_X11_slide : Md := (yX11_slide, cX11_slide, 9, none)
abbrev m_X11_comes : Md := (yX11_comes, cX11_comes, 9, none)
abbrev m_X11_charge : Md := (yX11_charge, cX11_charge, 3, (some .int))
abbrev m_X11_bulkOfLayer : Md := (yX11_bulkOfLayer, cX11_bulkOfLayer, 4, (some .int))
abbrev m_X11_layer : Md := (yX11_layer, cX11_layer, 4, (some .int))
abbrev m_X11_basic : Md := (yX11_basic, cX11_basic, 1, (some .int))
abbrev m_X11_gasNow : Md := (yX11_gasNow, cX11_gasNow, 2, (some .int))
abbrev m_X11_partGas : Md := (yX11_partGas, cX11_partGas, 3, none)
abbrev m_X11_ring : Md := (yX11_ring, cX11_ring, 3, (some .int))
abbrev m_X11_goes : Md := (yX11_goes, cX11_goes, 10, none)
abbrev m_X11_oneHour : Md := (yX11_oneHour, cX11_oneHour, 5, none)
abbrev m_X11_run : Md := (yX11_run, cX11_run, 3, (some .int))
abbrev m_X11_round : Md := (yX11_round, cX11_round, 5, (some .int))
abbrev m_X11_hearth : Md := (yX11_hearth, cX11_hearth, 2, (some .int))
abbrev m_X11_castOut : Md := (yX11_castOut, cX11_castOut, 3, none)
abbrev m_X11_cast : Md := (yX11_cast, cX11_cast, 2, (some .int))
abbrev m_X11_setAside : Md := (yX11_setAside, cX11_setAside, 4, none)
abbrev m_X11_down : Md := (yX11_down, cX11_down, 5, (some .int))
abbrev m_X11_feed : Md := (yX11_feed, cX11_feed, 6, (some .int))
abbrev m_X11_trim : Md := (yX11_trim, cX11_trim, 2, (some .int))
abbrev m_X11_isLetter : Md := (yX11_isLetter, cX11_isLetter, 2, (some .boolean))
abbrev m_X11_isDigit : Md := (yX11_isDigit, cX11_isDigit, 2, (some .boolean))
abbrev m_X11_next : Md := (yX11_next, cX11_next, 3, none)
abbrev m_X11_isSign : Md := (yX11_isSign, cX11_isSign, 2, (some .boolean))
abbrev m_X11_isWordAt : Md := (yX11_isWordAt, cX11_isWordAt, 6, (some .boolean))
abbrev m_X11_key : Md := (yX11_key, cX11_key, 1, (some .int))
abbrev m_X11_isName : Md := (yX11_isName, cX11_isName, 2, (some .boolean))
abbrev m_X11_step : Md := (yX11_step, cX11_step, 3, none)
abbrev m_X11_either : Md := (yX11_either, cX11_either, 2, (some .boolean))
abbrev m_X11_both : Md := (yX11_both, cX11_both, 2, (some .boolean))
abbrev m_X11_test : Md := (yX11_test, cX11_test, 3, (some .boolean))
abbrev m_X11_sum : Md := (yX11_sum, cX11_sum, 3, (some .boolean))
abbrev m_X11_term : Md := (yX11_term, cX11_term, 3, (some .boolean))
abbrev m_X11_part0 : Md := (yX11_part0, cX11_part0, 2, (some .boolean))
abbrev m_X11_parse : Md := (yX11_parse, cX11_parse, 3, (some .int))
abbrev m_X11_text : Md := (yX11_text, cX11_text, 3, (some .int))
abbrev m_X11_textTold : Md := (yX11_textTold, cX11_textTold, 4, (some .int))
abbrev m_X11_counts : Md := (yX11_counts, cX11_counts, 4, (some .int))
abbrev m_X11_why : Md := (yX11_why, cX11_why, 3, (some .int))
abbrev m_X11_joined : Md := (yX11_joined, cX11_joined, 3, (some .int))
abbrev m_X11_worked : Md := (yX11_worked, cX11_worked, 6, (some .int))
abbrev m_X11_choose : Md := (yX11_choose, cX11_choose, 3, (some .int))
abbrev m_X11_clear : Md := (yX11_clear, cX11_clear, 1, (some .int))
abbrev m_X11_ofBurden : Md := (yX11_ofBurden, cX11_ofBurden, 8, (some .int))
abbrev m_X11_burden : Md := (yX11_burden, cX11_burden, 13, (some .int))
abbrev m_X11_ladle : Md := (yX11_ladle, cX11_ladle, 2, (some .int))
abbrev m_X11_backAt : Md := (yX11_backAt, cX11_backAt, 2, (some .int))
abbrev m_X11_pour : Md := (yX11_pour, cX11_pour, 11, (some .int))
abbrev m_X11_isSheet : Md := (yX11_isSheet, cX11_isSheet, 1, (some .boolean))
abbrev m_X11_sheet : Md := (yX11_sheet, cX11_sheet, 5, (some .int))
abbrev m_X11_mark : Md := (yX11_mark, cX11_mark, 4, (some .int))
abbrev m_X11_sound : Md := (yX11_sound, cX11_sound, 10, (some .int))
abbrev m_X11_tops : Md := (yX11_tops, cX11_tops, 6, (some .int))
abbrev m_X11_copy : Md := (yX11_copy, cX11_copy, 7, (some .int))
abbrev m_X11_isSlot : Md := (yX11_isSlot, cX11_isSlot, 1, (some .boolean))
abbrev m_X11_lay : Md := (yX11_lay, cX11_lay, 7, (some .int))
abbrev m_X11_ask : Md := (yX11_ask, cX11_ask, 3, (some .int))
abbrev m_X11_item : Md := (yX11_item, cX11_item, 4, (some .int))
abbrev m_X11_rest : Md := (yX11_rest, cX11_rest, 3, (some .int))
abbrev m_X11_tell : Md := (yX11_tell, cX11_tell, 2, (some .int))
abbrev m_X11_check : Md := (yX11_check, cX11_check, 4, (some .int))
abbrev m_X11_keep : Md := (yX11_keep, cX11_keep, 1, (some .int))
abbrev m_X11_back : Md := (yX11_back, cX11_back, 1, (some .int))
abbrev m_X11_count : Md := (yX11_count, cX11_count, 2, (some .int))
theorem k0_X2_init : CK0 m_X2_init 0 := ⟨(gw_1 (List.mem_of_getElem? (l := tables_1_1) (i := 2) (by decide +kernel)) rfl), (gw_1 (List.mem_of_getElem? (l := tables_1_1) (i := 32) (by decide +kernel)) rfl), ⟨by decide +kernel, by decide +kernel, by decide +kernel⟩, by decide⟩
theorem ck_RX10_9 : CKi RX10 9 m_X2_init 0 := ⟨k0_X2_init, (gw_1 (List.mem_of_getElem? (l := tables_1_1) (i := 30) (by decide +kernel)) rfl), (gw_1 (List.mem_of_getElem? (l := tables_1_1) (i := 31) (by decide +kernel)) rfl), rfl, rfl⟩
theorem k0_X0_init : CK0 m_X0_init 0 := ⟨(gw_1 (List.mem_of_getElem? (l := tables_1_1) (i := 3) (by decide +kernel)) rfl), (gw_1 (List.mem_of_getElem? (l := tables_1_1) (i := 38) (by decide +kernel)) rfl), ⟨by decide +kernel, by decide +kernel, by decide +kernel⟩, by decide⟩
theorem ck_RX2_11 : CKi RX2 11 m_X0_init 0 := ⟨k0_X0_init, (gw_1 (List.mem_of_getElem? (l := tables_1_1) (i := 36) (by decide +kernel)) rfl), (gw_1 (List.mem_of_getElem? (l := tables_1_1) (i := 37) (by decide +kernel)) rfl), rfl, rfl⟩
theorem k0_X1_init : CK0 m_X1_init 0 := ⟨(gw_1 (List.mem_of_getElem? (l := tables_1_1) (i := 4) (by decide +kernel)) rfl), (gw_1 (List.mem_of_getElem? (l := tables_1_1) (i := 82) (by decide +kernel)) rfl), ⟨by decide +kernel, by decide +kernel, by decide +kernel⟩, by decide⟩
theorem ck_RX2_20 : CKi RX2 20 m_X1_init 0 := ⟨k0_X1_init, (gw_1 (List.mem_of_getElem? (l := tables_1_1) (i := 80) (by decide +kernel)) rfl), (gw_1 (List.mem_of_getElem? (l := tables_1_1) (i := 81) (by decide +kernel)) rfl), rfl, rfl⟩
theorem k0_X4_init : CK0 m_X4_init 0 := ⟨(gw_1 (List.mem_of_getElem? (l := tables_1_1) (i := 5) (by decide +kernel)) rfl), (gw_1 (List.mem_of_getElem? (l := tables_1_1) (i := 89) (by decide +kernel)) rfl), ⟨by decide +kernel, by decide +kernel, by decide +kernel⟩, by decide⟩
theorem ck_RX1_30 : CKi RX1 30 m_X4_init 0 := ⟨k0_X4_init, (gw_1 (List.mem_of_getElem? (l := tables_1_1) (i := 87) (by decide +kernel)) rfl), (gw_1 (List.mem_of_getElem? (l := tables_1_1) (i := 88) (by decide +kernel)) rfl), rfl, rfl⟩
theorem k0_X9_init : CK0 m_X9_init 0 := ⟨(gw_1 (List.mem_of_getElem? (l := tables_1_1) (i := 6) (by decide +kernel)) rfl), (gw_1 (List.mem_of_getElem? (l := tables_1_1) (i := 182) (by decide +kernel)) rfl), ⟨by decide +kernel, by decide +kernel, by decide +kernel⟩, by decide⟩
theorem ck_RX2_27 : CKi RX2 27 m_X9_init 0 := ⟨k0_X9_init, (gw_1 (List.mem_of_getElem? (l := tables_1_1) (i := 180) (by decide +kernel)) rfl), (gw_1 (List.mem_of_getElem? (l := tables_1_1) (i := 181) (by decide +kernel)) rfl), rfl, rfl⟩
theorem k0_X3_init : CK0 m_X3_init 0 := ⟨(gw_1 (List.mem_of_getElem? (l := tables_1_1) (i := 7) (by decide +kernel)) rfl), (gw_1 (List.mem_of_getElem? (l := tables_1_1) (i := 219) (by decide +kernel)) rfl), ⟨by decide +kernel, by decide +kernel, by decide +kernel⟩, by decide⟩
theorem ck_RX2_34 : CKi RX2 34 m_X3_init 0 := ⟨k0_X3_init, (gw_1 (List.mem_of_getElem? (l := tables_1_1) (i := 217) (by decide +kernel)) rfl), (gw_1 (List.mem_of_getElem? (l := tables_1_1) (i := 218) (by decide +kernel)) rfl), rfl, rfl⟩
theorem ck_RX10_25 : CKi RX10 25 m_X1_init 0 := ⟨k0_X1_init, (gw_2 (List.mem_of_getElem? (l := tables_1_2) (i := 19) (by decide +kernel)) rfl), (gw_1 (List.mem_of_getElem? (l := tables_1_1) (i := 81) (by decide +kernel)) rfl), rfl, rfl⟩
theorem k0_X8_init : CK0 m_X8_init 0 := ⟨(gw_1 (List.mem_of_getElem? (l := tables_1_1) (i := 8) (by decide +kernel)) rfl), (gw_2 (List.mem_of_getElem? (l := tables_1_2) (i := 24) (by decide +kernel)) rfl), ⟨by decide +kernel, by decide +kernel, by decide +kernel⟩, by decide⟩
theorem ck_RX10_32 : CKi RX10 32 m_X8_init 0 := ⟨k0_X8_init, (gw_2 (List.mem_of_getElem? (l := tables_1_2) (i := 22) (by decide +kernel)) rfl), (gw_2 (List.mem_of_getElem? (l := tables_1_2) (i := 23) (by decide +kernel)) rfl), rfl, rfl⟩
theorem k0_X5_init : CK0 m_X5_init 0 := ⟨(gw_1 (List.mem_of_getElem? (l := tables_1_1) (i := 9) (by decide +kernel)) rfl), (gw_2 (List.mem_of_getElem? (l := tables_1_2) (i := 86) (by decide +kernel)) rfl), ⟨by decide +kernel, by decide +kernel, by decide +kernel⟩, by decide⟩
theorem ck_RX10_43 : CKi RX10 43 m_X5_init 0 := ⟨k0_X5_init, (gw_2 (List.mem_of_getElem? (l := tables_1_2) (i := 84) (by decide +kernel)) rfl), (gw_2 (List.mem_of_getElem? (l := tables_1_2) (i := 85) (by decide +kernel)) rfl), rfl, rfl⟩
theorem k0_X6_init : CK0 m_X6_init 0 := ⟨(gw_1 (List.mem_of_getElem? (l := tables_1_1) (i := 10) (by decide +kernel)) rfl), (gw_2 (List.mem_of_getElem? (l := tables_1_2) (i := 111) (by decide +kernel)) rfl), ⟨by decide +kernel, by decide +kernel, by decide +kernel⟩, by decide⟩
theorem ck_RX10_50 : CKi RX10 50 m_X6_init 0 := ⟨k0_X6_init, (gw_2 (List.mem_of_getElem? (l := tables_1_2) (i := 109) (by decide +kernel)) rfl), (gw_2 (List.mem_of_getElem? (l := tables_1_2) (i := 110) (by decide +kernel)) rfl), rfl, rfl⟩
theorem ck_RX6_17 : CKi RX6 17 m_X5_init 0 := ⟨k0_X5_init, (gw_2 (List.mem_of_getElem? (l := tables_1_2) (i := 114) (by decide +kernel)) rfl), (gw_2 (List.mem_of_getElem? (l := tables_1_2) (i := 85) (by decide +kernel)) rfl), rfl, rfl⟩
theorem k0_X10_isKind : CK0 m_X10_isKind 1 := ⟨(gw_1 (List.mem_of_getElem? (l := tables_1_1) (i := 1) (by decide +kernel)) rfl), (gw_2 (List.mem_of_getElem? (l := tables_1_2) (i := 167) (by decide +kernel)) rfl), ⟨by decide +kernel, by decide +kernel, by decide +kernel⟩, by decide⟩
theorem ck_RX10_59 : CKs RX10 59 m_X10_isKind 1 := ⟨k0_X10_isKind, (gw_2 (List.mem_of_getElem? (l := tables_1_2) (i := 165) (by decide +kernel)) rfl), (gw_2 (List.mem_of_getElem? (l := tables_1_2) (i := 166) (by decide +kernel)) rfl)⟩
theorem k0_X10_isWithin : CK0 m_X10_isWithin 3 := ⟨(gw_1 (List.mem_of_getElem? (l := tables_1_1) (i := 1) (by decide +kernel)) rfl), (gw_2 (List.mem_of_getElem? (l := tables_1_2) (i := 170) (by decide +kernel)) rfl), ⟨by decide +kernel, by decide +kernel, by decide +kernel⟩, by decide⟩
theorem ck_RX10_63 : CKs RX10 63 m_X10_isWithin 3 := ⟨k0_X10_isWithin, (gw_2 (List.mem_of_getElem? (l := tables_1_2) (i := 168) (by decide +kernel)) rfl), (gw_2 (List.mem_of_getElem? (l := tables_1_2) (i := 169) (by decide +kernel)) rfl)⟩
theorem k0_X0_add : CK0 m_X0_add 3 := ⟨(gw_1 (List.mem_of_getElem? (l := tables_1_1) (i := 3) (by decide +kernel)) rfl), (gw_2 (List.mem_of_getElem? (l := tables_1_2) (i := 175) (by decide +kernel)) rfl), ⟨by decide +kernel, by decide +kernel, by decide +kernel⟩, by decide⟩
theorem ck_RX10_72 : CKv RX10 72 m_X0_add 3 0 := ⟨k0_X0_add, (gw_2 (List.mem_of_getElem? (l := tables_1_2) (i := 172) (by decide +kernel)) rfl), (gw_2 (List.mem_of_getElem? (l := tables_1_2) (i := 173) (by decide +kernel)) rfl), (gw_2 (List.mem_of_getElem? (l := tables_1_2) (i := 174) (by decide +kernel)) rfl), by decide, TX0, rfl⟩
theorem k0_X0_has : CK0 m_X0_has 1 := ⟨(gw_1 (List.mem_of_getElem? (l := tables_1_1) (i := 3) (by decide +kernel)) rfl), (gw_2 (List.mem_of_getElem? (l := tables_1_2) (i := 184) (by decide +kernel)) rfl), ⟨by decide +kernel, by decide +kernel, by decide +kernel⟩, by decide⟩
theorem ck_RX10_78 : CKv RX10 78 m_X0_has 1 0 := ⟨k0_X0_has, (gw_2 (List.mem_of_getElem? (l := tables_1_2) (i := 181) (by decide +kernel)) rfl), (gw_2 (List.mem_of_getElem? (l := tables_1_2) (i := 182) (by decide +kernel)) rfl), (gw_2 (List.mem_of_getElem? (l := tables_1_2) (i := 183) (by decide +kernel)) rfl), by decide, TX0, rfl⟩
theorem k0_X7_holdsOf : CK0 m_X7_holdsOf 1 := ⟨(gw_1 (List.mem_of_getElem? (l := tables_1_1) (i := 12) (by decide +kernel)) rfl), (gw_2 (List.mem_of_getElem? (l := tables_1_2) (i := 187) (by decide +kernel)) rfl), ⟨by decide +kernel, by decide +kernel, by decide +kernel⟩, by decide⟩
theorem ck_RX10_96 : CKs RX10 96 m_X7_holdsOf 1 := ⟨k0_X7_holdsOf, (gw_2 (List.mem_of_getElem? (l := tables_1_2) (i := 185) (by decide +kernel)) rfl), (gw_2 (List.mem_of_getElem? (l := tables_1_2) (i := 186) (by decide +kernel)) rfl)⟩
theorem k0_X7_amountOf : CK0 m_X7_amountOf 4 := ⟨(gw_1 (List.mem_of_getElem? (l := tables_1_1) (i := 12) (by decide +kernel)) rfl), (gw_2 (List.mem_of_getElem? (l := tables_1_2) (i := 194) (by decide +kernel)) rfl), ⟨by decide +kernel, by decide +kernel, by decide +kernel⟩, by decide⟩
theorem ck_RX10_102 : CKs RX10 102 m_X7_amountOf 4 := ⟨k0_X7_amountOf, (gw_2 (List.mem_of_getElem? (l := tables_1_2) (i := 192) (by decide +kernel)) rfl), (gw_2 (List.mem_of_getElem? (l := tables_1_2) (i := 193) (by decide +kernel)) rfl)⟩
theorem k0_X7_bulkOf : CK0 m_X7_bulkOf 2 := ⟨(gw_1 (List.mem_of_getElem? (l := tables_1_1) (i := 12) (by decide +kernel)) rfl), (gw_2 (List.mem_of_getElem? (l := tables_1_2) (i := 197) (by decide +kernel)) rfl), ⟨by decide +kernel, by decide +kernel, by decide +kernel⟩, by decide⟩
theorem ck_RX7_15 : CKs RX7 15 m_X7_bulkOf 2 := ⟨k0_X7_bulkOf, (gw_2 (List.mem_of_getElem? (l := tables_1_2) (i := 195) (by decide +kernel)) rfl), (gw_2 (List.mem_of_getElem? (l := tables_1_2) (i := 196) (by decide +kernel)) rfl)⟩
theorem k0_X7_ironOf : CK0 m_X7_ironOf 3 := ⟨(gw_1 (List.mem_of_getElem? (l := tables_1_1) (i := 12) (by decide +kernel)) rfl), (gw_2 (List.mem_of_getElem? (l := tables_1_2) (i := 200) (by decide +kernel)) rfl), ⟨by decide +kernel, by decide +kernel, by decide +kernel⟩, by decide⟩
theorem ck_RX7_19 : CKs RX7 19 m_X7_ironOf 3 := ⟨k0_X7_ironOf, (gw_2 (List.mem_of_getElem? (l := tables_1_2) (i := 198) (by decide +kernel)) rfl), (gw_2 (List.mem_of_getElem? (l := tables_1_2) (i := 199) (by decide +kernel)) rfl)⟩
theorem k0_X7_acidOf : CK0 m_X7_acidOf 3 := ⟨(gw_1 (List.mem_of_getElem? (l := tables_1_1) (i := 12) (by decide +kernel)) rfl), (gw_2 (List.mem_of_getElem? (l := tables_1_2) (i := 203) (by decide +kernel)) rfl), ⟨by decide +kernel, by decide +kernel, by decide +kernel⟩, by decide⟩
theorem ck_RX7_23 : CKs RX7 23 m_X7_acidOf 3 := ⟨k0_X7_acidOf, (gw_2 (List.mem_of_getElem? (l := tables_1_2) (i := 201) (by decide +kernel)) rfl), (gw_2 (List.mem_of_getElem? (l := tables_1_2) (i := 202) (by decide +kernel)) rfl)⟩
theorem k0_X7_limeOf : CK0 m_X7_limeOf 3 := ⟨(gw_1 (List.mem_of_getElem? (l := tables_1_1) (i := 12) (by decide +kernel)) rfl), (gw_2 (List.mem_of_getElem? (l := tables_1_2) (i := 206) (by decide +kernel)) rfl), ⟨by decide +kernel, by decide +kernel, by decide +kernel⟩, by decide⟩
theorem ck_RX7_26 : CKs RX7 26 m_X7_limeOf 3 := ⟨k0_X7_limeOf, (gw_2 (List.mem_of_getElem? (l := tables_1_2) (i := 204) (by decide +kernel)) rfl), (gw_2 (List.mem_of_getElem? (l := tables_1_2) (i := 205) (by decide +kernel)) rfl)⟩
theorem k0_X7_isOf : CK0 m_X7_isOf 2 := ⟨(gw_1 (List.mem_of_getElem? (l := tables_1_1) (i := 12) (by decide +kernel)) rfl), (gw_2 (List.mem_of_getElem? (l := tables_1_2) (i := 213) (by decide +kernel)) rfl), ⟨by decide +kernel, by decide +kernel, by decide +kernel⟩, by decide⟩
theorem ck_RX10_106 : CKs RX10 106 m_X7_isOf 2 := ⟨k0_X7_isOf, (gw_2 (List.mem_of_getElem? (l := tables_1_2) (i := 211) (by decide +kernel)) rfl), (gw_2 (List.mem_of_getElem? (l := tables_1_2) (i := 212) (by decide +kernel)) rfl)⟩
theorem k0_X1_hasRoom : CK0 m_X1_hasRoom 0 := ⟨(gw_1 (List.mem_of_getElem? (l := tables_1_1) (i := 4) (by decide +kernel)) rfl), (gw_3 (List.mem_of_getElem? (l := tables_1_3) (i := 3) (by decide +kernel)) rfl), ⟨by decide +kernel, by decide +kernel, by decide +kernel⟩, by decide⟩
theorem ck_RX10_120 : CKv RX10 120 m_X1_hasRoom 0 1 := ⟨k0_X1_hasRoom, (gw_3 (List.mem_of_getElem? (l := tables_1_3) (i := 0) (by decide +kernel)) rfl), (gw_3 (List.mem_of_getElem? (l := tables_1_3) (i := 1) (by decide +kernel)) rfl), (gw_3 (List.mem_of_getElem? (l := tables_1_3) (i := 2) (by decide +kernel)) rfl), by decide, TX1, rfl⟩
theorem k0_X2_chargeOut : CK0 m_X2_chargeOut 2 := ⟨(gw_1 (List.mem_of_getElem? (l := tables_1_1) (i := 2) (by decide +kernel)) rfl), (gw_3 (List.mem_of_getElem? (l := tables_1_3) (i := 7) (by decide +kernel)) rfl), ⟨by decide +kernel, by decide +kernel, by decide +kernel⟩, by decide⟩
theorem ck_RX10_124 : CKv RX10 124 m_X2_chargeOut 2 2 := ⟨k0_X2_chargeOut, (gw_3 (List.mem_of_getElem? (l := tables_1_3) (i := 4) (by decide +kernel)) rfl), (gw_3 (List.mem_of_getElem? (l := tables_1_3) (i := 5) (by decide +kernel)) rfl), (gw_3 (List.mem_of_getElem? (l := tables_1_3) (i := 6) (by decide +kernel)) rfl), by decide, TX2, rfl⟩
theorem k0_X1_layOn : CK0 m_X1_layOn 3 := ⟨(gw_1 (List.mem_of_getElem? (l := tables_1_1) (i := 4) (by decide +kernel)) rfl), (gw_3 (List.mem_of_getElem? (l := tables_1_3) (i := 11) (by decide +kernel)) rfl), ⟨by decide +kernel, by decide +kernel, by decide +kernel⟩, by decide⟩
theorem ck_RX2_121 : CKv RX2 121 m_X1_layOn 3 1 := ⟨k0_X1_layOn, (gw_3 (List.mem_of_getElem? (l := tables_1_3) (i := 8) (by decide +kernel)) rfl), (gw_3 (List.mem_of_getElem? (l := tables_1_3) (i := 9) (by decide +kernel)) rfl), (gw_3 (List.mem_of_getElem? (l := tables_1_3) (i := 10) (by decide +kernel)) rfl), by decide, TX1, rfl⟩
theorem ck_RX1_86 : CKv RX1 86 m_X1_hasRoom 0 1 := ⟨k0_X1_hasRoom, (gw_3 (List.mem_of_getElem? (l := tables_1_3) (i := 12) (by decide +kernel)) rfl), (gw_3 (List.mem_of_getElem? (l := tables_1_3) (i := 1) (by decide +kernel)) rfl), (gw_3 (List.mem_of_getElem? (l := tables_1_3) (i := 2) (by decide +kernel)) rfl), by decide, TX1, rfl⟩
theorem ck_RX1_105 : CKs RX1 105 m_X7_holdsOf 1 := ⟨k0_X7_holdsOf, (gw_3 (List.mem_of_getElem? (l := tables_1_3) (i := 13) (by decide +kernel)) rfl), (gw_2 (List.mem_of_getElem? (l := tables_1_2) (i := 186) (by decide +kernel)) rfl)⟩
theorem ck_RX1_110 : CKs RX1 110 m_X7_ironOf 3 := ⟨k0_X7_ironOf, (gw_3 (List.mem_of_getElem? (l := tables_1_3) (i := 14) (by decide +kernel)) rfl), (gw_2 (List.mem_of_getElem? (l := tables_1_2) (i := 199) (by decide +kernel)) rfl)⟩
theorem ck_RX1_115 : CKs RX1 115 m_X7_acidOf 3 := ⟨k0_X7_acidOf, (gw_3 (List.mem_of_getElem? (l := tables_1_3) (i := 15) (by decide +kernel)) rfl), (gw_2 (List.mem_of_getElem? (l := tables_1_2) (i := 202) (by decide +kernel)) rfl)⟩
theorem ck_RX1_119 : CKs RX1 119 m_X7_limeOf 3 := ⟨k0_X7_limeOf, (gw_3 (List.mem_of_getElem? (l := tables_1_3) (i := 16) (by decide +kernel)) rfl), (gw_2 (List.mem_of_getElem? (l := tables_1_2) (i := 205) (by decide +kernel)) rfl)⟩
theorem ck_RX1_123 : CKs RX1 123 m_X7_bulkOf 2 := ⟨k0_X7_bulkOf, (gw_3 (List.mem_of_getElem? (l := tables_1_3) (i := 17) (by decide +kernel)) rfl), (gw_2 (List.mem_of_getElem? (l := tables_1_2) (i := 196) (by decide +kernel)) rfl)⟩
theorem k0_X1_partByWeights : CK0 m_X1_partByWeights 1 := ⟨(gw_1 (List.mem_of_getElem? (l := tables_1_1) (i := 4) (by decide +kernel)) rfl), (gw_3 (List.mem_of_getElem? (l := tables_1_3) (i := 21) (by decide +kernel)) rfl), ⟨by decide +kernel, by decide +kernel, by decide +kernel⟩, by decide⟩
theorem ck_RX1_135 : CKv RX1 135 m_X1_partByWeights 1 1 := ⟨k0_X1_partByWeights, (gw_3 (List.mem_of_getElem? (l := tables_1_3) (i := 18) (by decide +kernel)) rfl), (gw_3 (List.mem_of_getElem? (l := tables_1_3) (i := 19) (by decide +kernel)) rfl), (gw_3 (List.mem_of_getElem? (l := tables_1_3) (i := 20) (by decide +kernel)) rfl), by decide, TX1, rfl⟩
theorem k0_X1_greatestRest : CK0 m_X1_greatestRest 0 := ⟨(gw_1 (List.mem_of_getElem? (l := tables_1_1) (i := 4) (by decide +kernel)) rfl), (gw_3 (List.mem_of_getElem? (l := tables_1_3) (i := 25) (by decide +kernel)) rfl), ⟨by decide +kernel, by decide +kernel, by decide +kernel⟩, by decide⟩
theorem ck_RX1_80 : CKv RX1 80 m_X1_greatestRest 0 1 := ⟨k0_X1_greatestRest, (gw_3 (List.mem_of_getElem? (l := tables_1_3) (i := 22) (by decide +kernel)) rfl), (gw_3 (List.mem_of_getElem? (l := tables_1_3) (i := 23) (by decide +kernel)) rfl), (gw_3 (List.mem_of_getElem? (l := tables_1_3) (i := 24) (by decide +kernel)) rfl), by decide, TX1, rfl⟩
theorem k0_X1_slide : CK0 m_X1_slide 1 := ⟨(gw_1 (List.mem_of_getElem? (l := tables_1_1) (i := 4) (by decide +kernel)) rfl), (gw_3 (List.mem_of_getElem? (l := tables_1_3) (i := 30) (by decide +kernel)) rfl), ⟨by decide +kernel, by decide +kernel, by decide +kernel⟩, by decide⟩
theorem ck_RX2_125 : CKv RX2 125 m_X1_slide 1 1 := ⟨k0_X1_slide, (gw_3 (List.mem_of_getElem? (l := tables_1_3) (i := 27) (by decide +kernel)) rfl), (gw_3 (List.mem_of_getElem? (l := tables_1_3) (i := 28) (by decide +kernel)) rfl), (gw_3 (List.mem_of_getElem? (l := tables_1_3) (i := 29) (by decide +kernel)) rfl), by decide, TX1, rfl⟩
theorem k0_X1_slidesOnce : CK0 m_X1_slidesOnce 2 := ⟨(gw_1 (List.mem_of_getElem? (l := tables_1_1) (i := 4) (by decide +kernel)) rfl), (gw_3 (List.mem_of_getElem? (l := tables_1_3) (i := 34) (by decide +kernel)) rfl), ⟨by decide +kernel, by decide +kernel, by decide +kernel⟩, by decide⟩
theorem ck_RX1_139 : CKv RX1 139 m_X1_slidesOnce 2 1 := ⟨k0_X1_slidesOnce, (gw_3 (List.mem_of_getElem? (l := tables_1_3) (i := 31) (by decide +kernel)) rfl), (gw_3 (List.mem_of_getElem? (l := tables_1_3) (i := 32) (by decide +kernel)) rfl), (gw_3 (List.mem_of_getElem? (l := tables_1_3) (i := 33) (by decide +kernel)) rfl), by decide, TX1, rfl⟩
theorem k0_X1_topOf : CK0 m_X1_topOf 1 := ⟨(gw_1 (List.mem_of_getElem? (l := tables_1_1) (i := 4) (by decide +kernel)) rfl), (gw_3 (List.mem_of_getElem? (l := tables_1_3) (i := 38) (by decide +kernel)) rfl), ⟨by decide +kernel, by decide +kernel, by decide +kernel⟩, by decide⟩
theorem ck_RX1_61 : CKv RX1 61 m_X1_topOf 1 1 := ⟨k0_X1_topOf, (gw_3 (List.mem_of_getElem? (l := tables_1_3) (i := 35) (by decide +kernel)) rfl), (gw_3 (List.mem_of_getElem? (l := tables_1_3) (i := 36) (by decide +kernel)) rfl), (gw_3 (List.mem_of_getElem? (l := tables_1_3) (i := 37) (by decide +kernel)) rfl), by decide, TX1, rfl⟩
theorem ml_RX1_143 : Cond.methodLink RX1 143 Lib.Math.abs.name ∈ GW := (gw_3 (List.mem_of_getElem? (l := tables_1_3) (i := 41) (by decide +kernel)) rfl)
theorem ms_abs : Cond.static Lib.Math.abs.name ∈ GW := (gw_3 (List.mem_of_getElem? (l := tables_1_3) (i := 42) (by decide +kernel)) rfl)
theorem mc_abs : Cond.code Lib.Math.abs.name Lib.Math.abs.code 1 (some .int) ∈ GW := (gw_3 (List.mem_of_getElem? (l := tables_1_3) (i := 43) (by decide +kernel)) rfl)
theorem k0_X1_has : CK0 m_X1_has 1 := ⟨(gw_1 (List.mem_of_getElem? (l := tables_1_1) (i := 4) (by decide +kernel)) rfl), (gw_3 (List.mem_of_getElem? (l := tables_1_3) (i := 51) (by decide +kernel)) rfl), ⟨by decide +kernel, by decide +kernel, by decide +kernel⟩, by decide⟩
theorem ck_RX10_131 : CKv RX10 131 m_X1_has 1 1 := ⟨k0_X1_has, (gw_3 (List.mem_of_getElem? (l := tables_1_3) (i := 48) (by decide +kernel)) rfl), (gw_3 (List.mem_of_getElem? (l := tables_1_3) (i := 49) (by decide +kernel)) rfl), (gw_3 (List.mem_of_getElem? (l := tables_1_3) (i := 50) (by decide +kernel)) rfl), by decide, TX1, rfl⟩
theorem ck_RX10_152 : CKv RX10 152 m_X1_topOf 1 1 := ⟨k0_X1_topOf, (gw_3 (List.mem_of_getElem? (l := tables_1_3) (i := 56) (by decide +kernel)) rfl), (gw_3 (List.mem_of_getElem? (l := tables_1_3) (i := 36) (by decide +kernel)) rfl), (gw_3 (List.mem_of_getElem? (l := tables_1_3) (i := 37) (by decide +kernel)) rfl), by decide, TX1, rfl⟩
theorem k0_X1_resistanceOf : CK0 m_X1_resistanceOf 1 := ⟨(gw_1 (List.mem_of_getElem? (l := tables_1_1) (i := 4) (by decide +kernel)) rfl), (gw_3 (List.mem_of_getElem? (l := tables_1_3) (i := 60) (by decide +kernel)) rfl), ⟨by decide +kernel, by decide +kernel, by decide +kernel⟩, by decide⟩
theorem ck_RX10_155 : CKv RX10 155 m_X1_resistanceOf 1 1 := ⟨k0_X1_resistanceOf, (gw_3 (List.mem_of_getElem? (l := tables_1_3) (i := 57) (by decide +kernel)) rfl), (gw_3 (List.mem_of_getElem? (l := tables_1_3) (i := 58) (by decide +kernel)) rfl), (gw_3 (List.mem_of_getElem? (l := tables_1_3) (i := 59) (by decide +kernel)) rfl), by decide, TX1, rfl⟩
theorem k0_X2_gasFor : CK0 m_X2_gasFor 1 := ⟨(gw_1 (List.mem_of_getElem? (l := tables_1_1) (i := 2) (by decide +kernel)) rfl), (gw_3 (List.mem_of_getElem? (l := tables_1_3) (i := 64) (by decide +kernel)) rfl), ⟨by decide +kernel, by decide +kernel, by decide +kernel⟩, by decide⟩
theorem ck_RX10_158 : CKv RX10 158 m_X2_gasFor 1 2 := ⟨k0_X2_gasFor, (gw_3 (List.mem_of_getElem? (l := tables_1_3) (i := 61) (by decide +kernel)) rfl), (gw_3 (List.mem_of_getElem? (l := tables_1_3) (i := 62) (by decide +kernel)) rfl), (gw_3 (List.mem_of_getElem? (l := tables_1_3) (i := 63) (by decide +kernel)) rfl), by decide, TX2, rfl⟩
theorem k0_X9_lastOf : CK0 m_X9_lastOf 2 := ⟨(gw_1 (List.mem_of_getElem? (l := tables_1_1) (i := 6) (by decide +kernel)) rfl), (gw_3 (List.mem_of_getElem? (l := tables_1_3) (i := 68) (by decide +kernel)) rfl), ⟨by decide +kernel, by decide +kernel, by decide +kernel⟩, by decide⟩
theorem ck_RX2_70 : CKv RX2 70 m_X9_lastOf 2 8 := ⟨k0_X9_lastOf, (gw_3 (List.mem_of_getElem? (l := tables_1_3) (i := 65) (by decide +kernel)) rfl), (gw_3 (List.mem_of_getElem? (l := tables_1_3) (i := 66) (by decide +kernel)) rfl), (gw_3 (List.mem_of_getElem? (l := tables_1_3) (i := 67) (by decide +kernel)) rfl), by decide, TX9, rfl⟩
theorem k0_X9_name : CK0 m_X9_name 2 := ⟨(gw_1 (List.mem_of_getElem? (l := tables_1_1) (i := 6) (by decide +kernel)) rfl), (gw_3 (List.mem_of_getElem? (l := tables_1_3) (i := 72) (by decide +kernel)) rfl), ⟨by decide +kernel, by decide +kernel, by decide +kernel⟩, by decide⟩
theorem ck_RX2_78 : CKv RX2 78 m_X9_name 2 8 := ⟨k0_X9_name, (gw_3 (List.mem_of_getElem? (l := tables_1_3) (i := 69) (by decide +kernel)) rfl), (gw_3 (List.mem_of_getElem? (l := tables_1_3) (i := 70) (by decide +kernel)) rfl), (gw_3 (List.mem_of_getElem? (l := tables_1_3) (i := 71) (by decide +kernel)) rfl), by decide, TX9, rfl⟩
theorem k0_X1_greatestTop : CK0 m_X1_greatestTop 0 := ⟨(gw_1 (List.mem_of_getElem? (l := tables_1_1) (i := 4) (by decide +kernel)) rfl), (gw_3 (List.mem_of_getElem? (l := tables_1_3) (i := 76) (by decide +kernel)) rfl), ⟨by decide +kernel, by decide +kernel, by decide +kernel⟩, by decide⟩
theorem ck_RX2_82 : CKv RX2 82 m_X1_greatestTop 0 1 := ⟨k0_X1_greatestTop, (gw_3 (List.mem_of_getElem? (l := tables_1_3) (i := 73) (by decide +kernel)) rfl), (gw_3 (List.mem_of_getElem? (l := tables_1_3) (i := 74) (by decide +kernel)) rfl), (gw_3 (List.mem_of_getElem? (l := tables_1_3) (i := 75) (by decide +kernel)) rfl), by decide, TX1, rfl⟩
theorem ml_RX1_65 : Cond.methodLink RX1 65 Lib.Math.max.name ∈ GW := (gw_3 (List.mem_of_getElem? (l := tables_1_3) (i := 77) (by decide +kernel)) rfl)
theorem ms_max : Cond.static Lib.Math.max.name ∈ GW := (gw_3 (List.mem_of_getElem? (l := tables_1_3) (i := 78) (by decide +kernel)) rfl)
theorem mc_max : Cond.code Lib.Math.max.name Lib.Math.max.code 2 (some .int) ∈ GW := (gw_3 (List.mem_of_getElem? (l := tables_1_3) (i := 79) (by decide +kernel)) rfl)
theorem k0_X9_worth : CK0 m_X9_worth 1 := ⟨(gw_1 (List.mem_of_getElem? (l := tables_1_1) (i := 6) (by decide +kernel)) rfl), (gw_3 (List.mem_of_getElem? (l := tables_1_3) (i := 83) (by decide +kernel)) rfl), ⟨by decide +kernel, by decide +kernel, by decide +kernel⟩, by decide⟩
theorem ck_RX2_89 : CKv RX2 89 m_X9_worth 1 8 := ⟨k0_X9_worth, (gw_3 (List.mem_of_getElem? (l := tables_1_3) (i := 80) (by decide +kernel)) rfl), (gw_3 (List.mem_of_getElem? (l := tables_1_3) (i := 81) (by decide +kernel)) rfl), (gw_3 (List.mem_of_getElem? (l := tables_1_3) (i := 82) (by decide +kernel)) rfl), by decide, TX9, rfl⟩
theorem k0_X9_valueOf : CK0 m_X9_valueOf 1 := ⟨(gw_1 (List.mem_of_getElem? (l := tables_1_1) (i := 6) (by decide +kernel)) rfl), (gw_3 (List.mem_of_getElem? (l := tables_1_3) (i := 87) (by decide +kernel)) rfl), ⟨by decide +kernel, by decide +kernel, by decide +kernel⟩, by decide⟩
theorem ck_RX9_58 : CKv RX9 58 m_X9_valueOf 1 8 := ⟨k0_X9_valueOf, (gw_3 (List.mem_of_getElem? (l := tables_1_3) (i := 84) (by decide +kernel)) rfl), (gw_3 (List.mem_of_getElem? (l := tables_1_3) (i := 85) (by decide +kernel)) rfl), (gw_3 (List.mem_of_getElem? (l := tables_1_3) (i := 86) (by decide +kernel)) rfl), by decide, TX9, rfl⟩
theorem k0_X9_joined : CK0 m_X9_joined 3 := ⟨(gw_1 (List.mem_of_getElem? (l := tables_1_1) (i := 6) (by decide +kernel)) rfl), (gw_3 (List.mem_of_getElem? (l := tables_1_3) (i := 90) (by decide +kernel)) rfl), ⟨by decide +kernel, by decide +kernel, by decide +kernel⟩, by decide⟩
theorem ck_RX9_62 : CKs RX9 62 m_X9_joined 3 := ⟨k0_X9_joined, (gw_3 (List.mem_of_getElem? (l := tables_1_3) (i := 88) (by decide +kernel)) rfl), (gw_3 (List.mem_of_getElem? (l := tables_1_3) (i := 89) (by decide +kernel)) rfl)⟩
theorem k0_X10_heldWithin999 : CK0 m_X10_heldWithin999 1 := ⟨(gw_1 (List.mem_of_getElem? (l := tables_1_1) (i := 1) (by decide +kernel)) rfl), (gw_3 (List.mem_of_getElem? (l := tables_1_3) (i := 93) (by decide +kernel)) rfl), ⟨by decide +kernel, by decide +kernel, by decide +kernel⟩, by decide⟩
theorem ck_RX2_93 : CKn RX2 93 m_X10_heldWithin999 1 := ⟨k0_X10_heldWithin999, List.mem_of_getElem? (i := 0) (by decide +kernel), (gw_3 (List.mem_of_getElem? (l := tables_1_3) (i := 92) (by decide +kernel)) rfl)⟩
theorem ml_RX10_262 : Cond.methodLink RX10 262 Lib.Math.min.name ∈ GW := (gw_3 (List.mem_of_getElem? (l := tables_1_3) (i := 94) (by decide +kernel)) rfl)
theorem ms_min : Cond.static Lib.Math.min.name ∈ GW := (gw_3 (List.mem_of_getElem? (l := tables_1_3) (i := 95) (by decide +kernel)) rfl)
theorem mc_min : Cond.code Lib.Math.min.name Lib.Math.min.code 2 (some .int) ∈ GW := (gw_3 (List.mem_of_getElem? (l := tables_1_3) (i := 96) (by decide +kernel)) rfl)
theorem ml_RX10_347 : Cond.methodLink RX10 347 Lib.Math.max.name ∈ GW := (gw_3 (List.mem_of_getElem? (l := tables_1_3) (i := 97) (by decide +kernel)) rfl)
theorem k0_X1_partGas : CK0 m_X1_partGas 1 := ⟨(gw_1 (List.mem_of_getElem? (l := tables_1_1) (i := 4) (by decide +kernel)) rfl), (gw_3 (List.mem_of_getElem? (l := tables_1_3) (i := 101) (by decide +kernel)) rfl), ⟨by decide +kernel, by decide +kernel, by decide +kernel⟩, by decide⟩
theorem ck_RX10_162 : CKv RX10 162 m_X1_partGas 1 1 := ⟨k0_X1_partGas, (gw_3 (List.mem_of_getElem? (l := tables_1_3) (i := 98) (by decide +kernel)) rfl), (gw_3 (List.mem_of_getElem? (l := tables_1_3) (i := 99) (by decide +kernel)) rfl), (gw_3 (List.mem_of_getElem? (l := tables_1_3) (i := 100) (by decide +kernel)) rfl), by decide, TX1, rfl⟩
theorem ck_RX1_146 : CKv RX1 146 m_X1_resistanceOf 1 1 := ⟨k0_X1_resistanceOf, (gw_3 (List.mem_of_getElem? (l := tables_1_3) (i := 102) (by decide +kernel)) rfl), (gw_3 (List.mem_of_getElem? (l := tables_1_3) (i := 58) (by decide +kernel)) rfl), (gw_3 (List.mem_of_getElem? (l := tables_1_3) (i := 59) (by decide +kernel)) rfl), by decide, TX1, rfl⟩
theorem k0_X1_eatenOf : CK0 m_X1_eatenOf 1 := ⟨(gw_1 (List.mem_of_getElem? (l := tables_1_1) (i := 4) (by decide +kernel)) rfl), (gw_3 (List.mem_of_getElem? (l := tables_1_3) (i := 107) (by decide +kernel)) rfl), ⟨by decide +kernel, by decide +kernel, by decide +kernel⟩, by decide⟩
theorem ck_RX10_169 : CKv RX10 169 m_X1_eatenOf 1 1 := ⟨k0_X1_eatenOf, (gw_3 (List.mem_of_getElem? (l := tables_1_3) (i := 104) (by decide +kernel)) rfl), (gw_3 (List.mem_of_getElem? (l := tables_1_3) (i := 105) (by decide +kernel)) rfl), (gw_3 (List.mem_of_getElem? (l := tables_1_3) (i := 106) (by decide +kernel)) rfl), by decide, TX1, rfl⟩
theorem k0_X2_passHour : CK0 m_X2_passHour 1 := ⟨(gw_1 (List.mem_of_getElem? (l := tables_1_1) (i := 2) (by decide +kernel)) rfl), (gw_3 (List.mem_of_getElem? (l := tables_1_3) (i := 115) (by decide +kernel)) rfl), ⟨by decide +kernel, by decide +kernel, by decide +kernel⟩, by decide⟩
theorem ck_RX10_173 : CKv RX10 173 m_X2_passHour 1 2 := ⟨k0_X2_passHour, (gw_3 (List.mem_of_getElem? (l := tables_1_3) (i := 112) (by decide +kernel)) rfl), (gw_3 (List.mem_of_getElem? (l := tables_1_3) (i := 113) (by decide +kernel)) rfl), (gw_3 (List.mem_of_getElem? (l := tables_1_3) (i := 114) (by decide +kernel)) rfl), by decide, TX2, rfl⟩
theorem ck_RX2_62 : CKv RX2 62 m_X2_gasFor 1 2 := ⟨k0_X2_gasFor, (gw_3 (List.mem_of_getElem? (l := tables_1_3) (i := 116) (by decide +kernel)) rfl), (gw_3 (List.mem_of_getElem? (l := tables_1_3) (i := 62) (by decide +kernel)) rfl), (gw_3 (List.mem_of_getElem? (l := tables_1_3) (i := 63) (by decide +kernel)) rfl), by decide, TX2, rfl⟩
theorem k0_X1_passHour : CK0 m_X1_passHour 1 := ⟨(gw_1 (List.mem_of_getElem? (l := tables_1_1) (i := 4) (by decide +kernel)) rfl), (gw_3 (List.mem_of_getElem? (l := tables_1_3) (i := 120) (by decide +kernel)) rfl), ⟨by decide +kernel, by decide +kernel, by decide +kernel⟩, by decide⟩
theorem ck_RX2_66 : CKv RX2 66 m_X1_passHour 1 1 := ⟨k0_X1_passHour, (gw_3 (List.mem_of_getElem? (l := tables_1_3) (i := 117) (by decide +kernel)) rfl), (gw_3 (List.mem_of_getElem? (l := tables_1_3) (i := 118) (by decide +kernel)) rfl), (gw_3 (List.mem_of_getElem? (l := tables_1_3) (i := 119) (by decide +kernel)) rfl), by decide, TX1, rfl⟩
theorem ck_RX1_150 : CKv RX1 150 m_X1_partGas 1 1 := ⟨k0_X1_partGas, (gw_3 (List.mem_of_getElem? (l := tables_1_3) (i := 121) (by decide +kernel)) rfl), (gw_3 (List.mem_of_getElem? (l := tables_1_3) (i := 99) (by decide +kernel)) rfl), (gw_3 (List.mem_of_getElem? (l := tables_1_3) (i := 100) (by decide +kernel)) rfl), by decide, TX1, rfl⟩
theorem ck_RX1_153 : CKv RX1 153 m_X1_eatenOf 1 1 := ⟨k0_X1_eatenOf, (gw_3 (List.mem_of_getElem? (l := tables_1_3) (i := 122) (by decide +kernel)) rfl), (gw_3 (List.mem_of_getElem? (l := tables_1_3) (i := 105) (by decide +kernel)) rfl), (gw_3 (List.mem_of_getElem? (l := tables_1_3) (i := 106) (by decide +kernel)) rfl), by decide, TX1, rfl⟩
theorem k0_X1_eat : CK0 m_X1_eat 2 := ⟨(gw_1 (List.mem_of_getElem? (l := tables_1_1) (i := 4) (by decide +kernel)) rfl), (gw_3 (List.mem_of_getElem? (l := tables_1_3) (i := 126) (by decide +kernel)) rfl), ⟨by decide +kernel, by decide +kernel, by decide +kernel⟩, by decide⟩
theorem ck_RX1_156 : CKv RX1 156 m_X1_eat 2 1 := ⟨k0_X1_eat, (gw_3 (List.mem_of_getElem? (l := tables_1_3) (i := 123) (by decide +kernel)) rfl), (gw_3 (List.mem_of_getElem? (l := tables_1_3) (i := 124) (by decide +kernel)) rfl), (gw_3 (List.mem_of_getElem? (l := tables_1_3) (i := 125) (by decide +kernel)) rfl), by decide, TX1, rfl⟩
theorem ml_RX1_163 : Cond.methodLink RX1 163 Lib.Math.min.name ∈ GW := (gw_3 (List.mem_of_getElem? (l := tables_1_3) (i := 127) (by decide +kernel)) rfl)
theorem k0_X1_bring : CK0 m_X1_bring 2 := ⟨(gw_1 (List.mem_of_getElem? (l := tables_1_1) (i := 4) (by decide +kernel)) rfl), (gw_3 (List.mem_of_getElem? (l := tables_1_3) (i := 131) (by decide +kernel)) rfl), ⟨by decide +kernel, by decide +kernel, by decide +kernel⟩, by decide⟩
theorem ck_RX1_166 : CKv RX1 166 m_X1_bring 2 1 := ⟨k0_X1_bring, (gw_3 (List.mem_of_getElem? (l := tables_1_3) (i := 128) (by decide +kernel)) rfl), (gw_3 (List.mem_of_getElem? (l := tables_1_3) (i := 129) (by decide +kernel)) rfl), (gw_3 (List.mem_of_getElem? (l := tables_1_3) (i := 130) (by decide +kernel)) rfl), by decide, TX1, rfl⟩
theorem k0_X4_broughtBetween : CK0 m_X4_broughtBetween 3 := ⟨(gw_1 (List.mem_of_getElem? (l := tables_1_1) (i := 5) (by decide +kernel)) rfl), (gw_3 (List.mem_of_getElem? (l := tables_1_3) (i := 135) (by decide +kernel)) rfl), ⟨by decide +kernel, by decide +kernel, by decide +kernel⟩, by decide⟩
theorem ck_RX1_170 : CKv RX1 170 m_X4_broughtBetween 3 4 := ⟨k0_X4_broughtBetween, (gw_3 (List.mem_of_getElem? (l := tables_1_3) (i := 132) (by decide +kernel)) rfl), (gw_3 (List.mem_of_getElem? (l := tables_1_3) (i := 133) (by decide +kernel)) rfl), (gw_3 (List.mem_of_getElem? (l := tables_1_3) (i := 134) (by decide +kernel)) rfl), by decide, TX4, rfl⟩
theorem k0_X1_dropEmptyLayers : CK0 m_X1_dropEmptyLayers 0 := ⟨(gw_1 (List.mem_of_getElem? (l := tables_1_1) (i := 4) (by decide +kernel)) rfl), (gw_3 (List.mem_of_getElem? (l := tables_1_3) (i := 139) (by decide +kernel)) rfl), ⟨by decide +kernel, by decide +kernel, by decide +kernel⟩, by decide⟩
theorem ck_RX1_160 : CKv RX1 160 m_X1_dropEmptyLayers 0 1 := ⟨k0_X1_dropEmptyLayers, (gw_3 (List.mem_of_getElem? (l := tables_1_3) (i := 136) (by decide +kernel)) rfl), (gw_3 (List.mem_of_getElem? (l := tables_1_3) (i := 137) (by decide +kernel)) rfl), (gw_3 (List.mem_of_getElem? (l := tables_1_3) (i := 138) (by decide +kernel)) rfl), by decide, TX1, rfl⟩
theorem k0_X2_playRound : CK0 m_X2_playRound 0 := ⟨(gw_1 (List.mem_of_getElem? (l := tables_1_1) (i := 2) (by decide +kernel)) rfl), (gw_3 (List.mem_of_getElem? (l := tables_1_3) (i := 147) (by decide +kernel)) rfl), ⟨by decide +kernel, by decide +kernel, by decide +kernel⟩, by decide⟩
theorem ck_RX10_177 : CKv RX10 177 m_X2_playRound 0 2 := ⟨k0_X2_playRound, (gw_3 (List.mem_of_getElem? (l := tables_1_3) (i := 144) (by decide +kernel)) rfl), (gw_3 (List.mem_of_getElem? (l := tables_1_3) (i := 145) (by decide +kernel)) rfl), (gw_3 (List.mem_of_getElem? (l := tables_1_3) (i := 146) (by decide +kernel)) rfl), by decide, TX2, rfl⟩
theorem k0_X2_drawFor : CK0 m_X2_drawFor 1 := ⟨(gw_1 (List.mem_of_getElem? (l := tables_1_1) (i := 2) (by decide +kernel)) rfl), (gw_3 (List.mem_of_getElem? (l := tables_1_3) (i := 151) (by decide +kernel)) rfl), ⟨by decide +kernel, by decide +kernel, by decide +kernel⟩, by decide⟩
theorem ck_RX2_99 : CKv RX2 99 m_X2_drawFor 1 2 := ⟨k0_X2_drawFor, (gw_3 (List.mem_of_getElem? (l := tables_1_3) (i := 148) (by decide +kernel)) rfl), (gw_3 (List.mem_of_getElem? (l := tables_1_3) (i := 149) (by decide +kernel)) rfl), (gw_3 (List.mem_of_getElem? (l := tables_1_3) (i := 150) (by decide +kernel)) rfl), by decide, TX2, rfl⟩
theorem k0_X1_basic : CK0 m_X1_basic 0 := ⟨(gw_1 (List.mem_of_getElem? (l := tables_1_1) (i := 4) (by decide +kernel)) rfl), (gw_3 (List.mem_of_getElem? (l := tables_1_3) (i := 155) (by decide +kernel)) rfl), ⟨by decide +kernel, by decide +kernel, by decide +kernel⟩, by decide⟩
theorem ck_RX2_110 : CKv RX2 110 m_X1_basic 0 1 := ⟨k0_X1_basic, (gw_3 (List.mem_of_getElem? (l := tables_1_3) (i := 152) (by decide +kernel)) rfl), (gw_3 (List.mem_of_getElem? (l := tables_1_3) (i := 153) (by decide +kernel)) rfl), (gw_3 (List.mem_of_getElem? (l := tables_1_3) (i := 154) (by decide +kernel)) rfl), by decide, TX1, rfl⟩
theorem k0_X10_basicOf : CK0 m_X10_basicOf 2 := ⟨(gw_1 (List.mem_of_getElem? (l := tables_1_1) (i := 1) (by decide +kernel)) rfl), (gw_3 (List.mem_of_getElem? (l := tables_1_3) (i := 158) (by decide +kernel)) rfl), ⟨by decide +kernel, by decide +kernel, by decide +kernel⟩, by decide⟩
theorem ck_RX1_71 : CKn RX1 71 m_X10_basicOf 2 := ⟨k0_X10_basicOf, List.mem_of_getElem? (i := 1) (by decide +kernel), (gw_3 (List.mem_of_getElem? (l := tables_1_3) (i := 157) (by decide +kernel)) rfl)⟩
theorem ml_RX2_116 : Cond.methodLink RX2 116 Lib.Math.min.name ∈ GW := (gw_3 (List.mem_of_getElem? (l := tables_1_3) (i := 160) (by decide +kernel)) rfl)
theorem ck_RX2_102 : CKv RX2 102 m_X1_hasRoom 0 1 := ⟨k0_X1_hasRoom, (gw_3 (List.mem_of_getElem? (l := tables_1_3) (i := 161) (by decide +kernel)) rfl), (gw_3 (List.mem_of_getElem? (l := tables_1_3) (i := 1) (by decide +kernel)) rfl), (gw_3 (List.mem_of_getElem? (l := tables_1_3) (i := 2) (by decide +kernel)) rfl), by decide, TX1, rfl⟩
theorem ck_RX2_106 : CKv RX2 106 m_X2_chargeOut 2 2 := ⟨k0_X2_chargeOut, (gw_3 (List.mem_of_getElem? (l := tables_1_3) (i := 162) (by decide +kernel)) rfl), (gw_3 (List.mem_of_getElem? (l := tables_1_3) (i := 5) (by decide +kernel)) rfl), (gw_3 (List.mem_of_getElem? (l := tables_1_3) (i := 6) (by decide +kernel)) rfl), by decide, TX2, rfl⟩
theorem ck_RX10_190 : CKv RX10 190 m_X1_basic 0 1 := ⟨k0_X1_basic, (gw_3 (List.mem_of_getElem? (l := tables_1_3) (i := 167) (by decide +kernel)) rfl), (gw_3 (List.mem_of_getElem? (l := tables_1_3) (i := 153) (by decide +kernel)) rfl), (gw_3 (List.mem_of_getElem? (l := tables_1_3) (i := 154) (by decide +kernel)) rfl), by decide, TX1, rfl⟩
theorem k0_X1_takeOut : CK0 m_X1_takeOut 1 := ⟨(gw_1 (List.mem_of_getElem? (l := tables_1_1) (i := 4) (by decide +kernel)) rfl), (gw_3 (List.mem_of_getElem? (l := tables_1_3) (i := 175) (by decide +kernel)) rfl), ⟨by decide +kernel, by decide +kernel, by decide +kernel⟩, by decide⟩
theorem ck_RX10_193 : CKv RX10 193 m_X1_takeOut 1 1 := ⟨k0_X1_takeOut, (gw_3 (List.mem_of_getElem? (l := tables_1_3) (i := 172) (by decide +kernel)) rfl), (gw_3 (List.mem_of_getElem? (l := tables_1_3) (i := 173) (by decide +kernel)) rfl), (gw_3 (List.mem_of_getElem? (l := tables_1_3) (i := 174) (by decide +kernel)) rfl), by decide, TX1, rfl⟩
theorem k0_X1_become : CK0 m_X1_become 1 := ⟨(gw_1 (List.mem_of_getElem? (l := tables_1_1) (i := 4) (by decide +kernel)) rfl), (gw_3 (List.mem_of_getElem? (l := tables_1_3) (i := 183) (by decide +kernel)) rfl), ⟨by decide +kernel, by decide +kernel, by decide +kernel⟩, by decide⟩
theorem ck_RX10_196 : CKv RX10 196 m_X1_become 1 1 := ⟨k0_X1_become, (gw_3 (List.mem_of_getElem? (l := tables_1_3) (i := 180) (by decide +kernel)) rfl), (gw_3 (List.mem_of_getElem? (l := tables_1_3) (i := 181) (by decide +kernel)) rfl), (gw_3 (List.mem_of_getElem? (l := tables_1_3) (i := 182) (by decide +kernel)) rfl), by decide, TX1, rfl⟩
theorem k0_X4_become : CK0 m_X4_become 1 := ⟨(gw_1 (List.mem_of_getElem? (l := tables_1_1) (i := 5) (by decide +kernel)) rfl), (gw_3 (List.mem_of_getElem? (l := tables_1_3) (i := 187) (by decide +kernel)) rfl), ⟨by decide +kernel, by decide +kernel, by decide +kernel⟩, by decide⟩
theorem ck_RX1_48 : CKv RX1 48 m_X4_become 1 4 := ⟨k0_X4_become, (gw_3 (List.mem_of_getElem? (l := tables_1_3) (i := 184) (by decide +kernel)) rfl), (gw_3 (List.mem_of_getElem? (l := tables_1_3) (i := 185) (by decide +kernel)) rfl), (gw_3 (List.mem_of_getElem? (l := tables_1_3) (i := 186) (by decide +kernel)) rfl), by decide, TX4, rfl⟩
theorem cc_RX4_43 : CKc RX4 43 := ⟨(gw_3 (List.mem_of_getElem? (l := tables_1_3) (i := 188) (by decide +kernel)) rfl), (gw_3 (List.mem_of_getElem? (l := tables_1_3) (i := 190) (by decide +kernel)) rfl), (gw_3 (List.mem_of_getElem? (l := tables_1_3) (i := 189) (by decide +kernel)) rfl), (gw_1 (List.mem_of_getElem? (l := tables_1_1) (i := 14) (by decide +kernel)) rfl)⟩
theorem cc_RX1_52 : CKc RX1 52 := ⟨(gw_3 (List.mem_of_getElem? (l := tables_1_3) (i := 191) (by decide +kernel)) rfl), (gw_3 (List.mem_of_getElem? (l := tables_1_3) (i := 190) (by decide +kernel)) rfl), (gw_3 (List.mem_of_getElem? (l := tables_1_3) (i := 189) (by decide +kernel)) rfl), (gw_1 (List.mem_of_getElem? (l := tables_1_1) (i := 14) (by decide +kernel)) rfl)⟩
theorem k0_X8_addNumber : CK0 m_X8_addNumber 1 := ⟨(gw_1 (List.mem_of_getElem? (l := tables_1_1) (i := 8) (by decide +kernel)) rfl), (gw_3 (List.mem_of_getElem? (l := tables_1_3) (i := 200) (by decide +kernel)) rfl), ⟨by decide +kernel, by decide +kernel, by decide +kernel⟩, by decide⟩
theorem ck_RX10_203 : CKv RX10 203 m_X8_addNumber 1 7 := ⟨k0_X8_addNumber, (gw_3 (List.mem_of_getElem? (l := tables_1_3) (i := 197) (by decide +kernel)) rfl), (gw_3 (List.mem_of_getElem? (l := tables_1_3) (i := 198) (by decide +kernel)) rfl), (gw_3 (List.mem_of_getElem? (l := tables_1_3) (i := 199) (by decide +kernel)) rfl), by decide, TX8, rfl⟩
theorem k0_X8_readText : CK0 m_X8_readText 0 := ⟨(gw_1 (List.mem_of_getElem? (l := tables_1_1) (i := 8) (by decide +kernel)) rfl), (gw_3 (List.mem_of_getElem? (l := tables_1_3) (i := 212) (by decide +kernel)) rfl), ⟨by decide +kernel, by decide +kernel, by decide +kernel⟩, by decide⟩
theorem ck_RX10_206 : CKv RX10 206 m_X8_readText 0 7 := ⟨k0_X8_readText, (gw_3 (List.mem_of_getElem? (l := tables_1_3) (i := 209) (by decide +kernel)) rfl), (gw_3 (List.mem_of_getElem? (l := tables_1_3) (i := 210) (by decide +kernel)) rfl), (gw_3 (List.mem_of_getElem? (l := tables_1_3) (i := 211) (by decide +kernel)) rfl), by decide, TX8, rfl⟩
theorem k0_X8_beginReading : CK0 m_X8_beginReading 0 := ⟨(gw_1 (List.mem_of_getElem? (l := tables_1_1) (i := 8) (by decide +kernel)) rfl), (gw_3 (List.mem_of_getElem? (l := tables_1_3) (i := 216) (by decide +kernel)) rfl), ⟨by decide +kernel, by decide +kernel, by decide +kernel⟩, by decide⟩
theorem ck_RX8_25 : CKv RX8 25 m_X8_beginReading 0 7 := ⟨k0_X8_beginReading, (gw_3 (List.mem_of_getElem? (l := tables_1_3) (i := 213) (by decide +kernel)) rfl), (gw_3 (List.mem_of_getElem? (l := tables_1_3) (i := 214) (by decide +kernel)) rfl), (gw_3 (List.mem_of_getElem? (l := tables_1_3) (i := 215) (by decide +kernel)) rfl), by decide, TX8, rfl⟩
theorem k0_X8_takesHead : CK0 m_X8_takesHead 0 := ⟨(gw_1 (List.mem_of_getElem? (l := tables_1_1) (i := 8) (by decide +kernel)) rfl), (gw_3 (List.mem_of_getElem? (l := tables_1_3) (i := 220) (by decide +kernel)) rfl), ⟨by decide +kernel, by decide +kernel, by decide +kernel⟩, by decide⟩
theorem ck_RX8_28 : CKv RX8 28 m_X8_takesHead 0 7 := ⟨k0_X8_takesHead, (gw_3 (List.mem_of_getElem? (l := tables_1_3) (i := 217) (by decide +kernel)) rfl), (gw_3 (List.mem_of_getElem? (l := tables_1_3) (i := 218) (by decide +kernel)) rfl), (gw_3 (List.mem_of_getElem? (l := tables_1_3) (i := 219) (by decide +kernel)) rfl), by decide, TX8, rfl⟩
theorem k0_X8_step : CK0 m_X8_step 0 := ⟨(gw_1 (List.mem_of_getElem? (l := tables_1_1) (i := 8) (by decide +kernel)) rfl), (gw_3 (List.mem_of_getElem? (l := tables_1_3) (i := 224) (by decide +kernel)) rfl), ⟨by decide +kernel, by decide +kernel, by decide +kernel⟩, by decide⟩
theorem ck_RX8_35 : CKv RX8 35 m_X8_step 0 7 := ⟨k0_X8_step, (gw_3 (List.mem_of_getElem? (l := tables_1_3) (i := 221) (by decide +kernel)) rfl), (gw_3 (List.mem_of_getElem? (l := tables_1_3) (i := 222) (by decide +kernel)) rfl), (gw_3 (List.mem_of_getElem? (l := tables_1_3) (i := 223) (by decide +kernel)) rfl), by decide, TX8, rfl⟩
theorem k0_X8_sortAt : CK0 m_X8_sortAt 1 := ⟨(gw_1 (List.mem_of_getElem? (l := tables_1_1) (i := 8) (by decide +kernel)) rfl), (gw_3 (List.mem_of_getElem? (l := tables_1_3) (i := 228) (by decide +kernel)) rfl), ⟨by decide +kernel, by decide +kernel, by decide +kernel⟩, by decide⟩
theorem ck_RX8_76 : CKv RX8 76 m_X8_sortAt 1 7 := ⟨k0_X8_sortAt, (gw_3 (List.mem_of_getElem? (l := tables_1_3) (i := 225) (by decide +kernel)) rfl), (gw_3 (List.mem_of_getElem? (l := tables_1_3) (i := 226) (by decide +kernel)) rfl), (gw_3 (List.mem_of_getElem? (l := tables_1_3) (i := 227) (by decide +kernel)) rfl), by decide, TX8, rfl⟩
theorem k0_X8_keyThere : CK0 m_X8_keyThere 0 := ⟨(gw_1 (List.mem_of_getElem? (l := tables_1_1) (i := 8) (by decide +kernel)) rfl), (gw_3 (List.mem_of_getElem? (l := tables_1_3) (i := 232) (by decide +kernel)) rfl), ⟨by decide +kernel, by decide +kernel, by decide +kernel⟩, by decide⟩
theorem ck_RX8_80 : CKv RX8 80 m_X8_keyThere 0 7 := ⟨k0_X8_keyThere, (gw_3 (List.mem_of_getElem? (l := tables_1_3) (i := 229) (by decide +kernel)) rfl), (gw_3 (List.mem_of_getElem? (l := tables_1_3) (i := 230) (by decide +kernel)) rfl), (gw_3 (List.mem_of_getElem? (l := tables_1_3) (i := 231) (by decide +kernel)) rfl), by decide, TX8, rfl⟩
theorem k0_X8_isThere : CK0 m_X8_isThere 1 := ⟨(gw_1 (List.mem_of_getElem? (l := tables_1_1) (i := 8) (by decide +kernel)) rfl), (gw_3 (List.mem_of_getElem? (l := tables_1_3) (i := 237) (by decide +kernel)) rfl), ⟨by decide +kernel, by decide +kernel, by decide +kernel⟩, by decide⟩
theorem ck_RX8_96 : CKv RX8 96 m_X8_isThere 1 7 := ⟨k0_X8_isThere, (gw_3 (List.mem_of_getElem? (l := tables_1_3) (i := 234) (by decide +kernel)) rfl), (gw_3 (List.mem_of_getElem? (l := tables_1_3) (i := 235) (by decide +kernel)) rfl), (gw_3 (List.mem_of_getElem? (l := tables_1_3) (i := 236) (by decide +kernel)) rfl), by decide, TX8, rfl⟩
theorem k0_X8_numberThere : CK0 m_X8_numberThere 0 := ⟨(gw_1 (List.mem_of_getElem? (l := tables_1_1) (i := 8) (by decide +kernel)) rfl), (gw_4 (List.mem_of_getElem? (l := tables_1_4) (i := 52) (by decide +kernel)) rfl), ⟨by decide +kernel, by decide +kernel, by decide +kernel⟩, by decide⟩
theorem ck_RX8_91 : CKv RX8 91 m_X8_numberThere 0 7 := ⟨k0_X8_numberThere, (gw_4 (List.mem_of_getElem? (l := tables_1_4) (i := 49) (by decide +kernel)) rfl), (gw_4 (List.mem_of_getElem? (l := tables_1_4) (i := 50) (by decide +kernel)) rfl), (gw_4 (List.mem_of_getElem? (l := tables_1_4) (i := 51) (by decide +kernel)) rfl), by decide, TX8, rfl⟩
theorem k0_X8_takesPiece : CK0 m_X8_takesPiece 0 := ⟨(gw_1 (List.mem_of_getElem? (l := tables_1_1) (i := 8) (by decide +kernel)) rfl), (gw_4 (List.mem_of_getElem? (l := tables_1_4) (i := 56) (by decide +kernel)) rfl), ⟨by decide +kernel, by decide +kernel, by decide +kernel⟩, by decide⟩
theorem ck_RX8_45 : CKv RX8 45 m_X8_takesPiece 0 7 := ⟨k0_X8_takesPiece, (gw_4 (List.mem_of_getElem? (l := tables_1_4) (i := 53) (by decide +kernel)) rfl), (gw_4 (List.mem_of_getElem? (l := tables_1_4) (i := 54) (by decide +kernel)) rfl), (gw_4 (List.mem_of_getElem? (l := tables_1_4) (i := 55) (by decide +kernel)) rfl), by decide, TX8, rfl⟩
theorem k0_X8_takesOpening : CK0 m_X8_takesOpening 0 := ⟨(gw_1 (List.mem_of_getElem? (l := tables_1_1) (i := 8) (by decide +kernel)) rfl), (gw_4 (List.mem_of_getElem? (l := tables_1_4) (i := 60) (by decide +kernel)) rfl), ⟨by decide +kernel, by decide +kernel, by decide +kernel⟩, by decide⟩
theorem ck_RX8_112 : CKv RX8 112 m_X8_takesOpening 0 7 := ⟨k0_X8_takesOpening, (gw_4 (List.mem_of_getElem? (l := tables_1_4) (i := 57) (by decide +kernel)) rfl), (gw_4 (List.mem_of_getElem? (l := tables_1_4) (i := 58) (by decide +kernel)) rfl), (gw_4 (List.mem_of_getElem? (l := tables_1_4) (i := 59) (by decide +kernel)) rfl), by decide, TX8, rfl⟩
theorem k0_X8_hold : CK0 m_X8_hold 1 := ⟨(gw_1 (List.mem_of_getElem? (l := tables_1_1) (i := 8) (by decide +kernel)) rfl), (gw_4 (List.mem_of_getElem? (l := tables_1_4) (i := 64) (by decide +kernel)) rfl), ⟨by decide +kernel, by decide +kernel, by decide +kernel⟩, by decide⟩
theorem ck_RX8_136 : CKv RX8 136 m_X8_hold 1 7 := ⟨k0_X8_hold, (gw_4 (List.mem_of_getElem? (l := tables_1_4) (i := 61) (by decide +kernel)) rfl), (gw_4 (List.mem_of_getElem? (l := tables_1_4) (i := 62) (by decide +kernel)) rfl), (gw_4 (List.mem_of_getElem? (l := tables_1_4) (i := 63) (by decide +kernel)) rfl), by decide, TX8, rfl⟩
theorem k0_X8_nameThere : CK0 m_X8_nameThere 0 := ⟨(gw_1 (List.mem_of_getElem? (l := tables_1_1) (i := 8) (by decide +kernel)) rfl), (gw_4 (List.mem_of_getElem? (l := tables_1_4) (i := 68) (by decide +kernel)) rfl), ⟨by decide +kernel, by decide +kernel, by decide +kernel⟩, by decide⟩
theorem ck_RX8_115 : CKv RX8 115 m_X8_nameThere 0 7 := ⟨k0_X8_nameThere, (gw_4 (List.mem_of_getElem? (l := tables_1_4) (i := 65) (by decide +kernel)) rfl), (gw_4 (List.mem_of_getElem? (l := tables_1_4) (i := 66) (by decide +kernel)) rfl), (gw_4 (List.mem_of_getElem? (l := tables_1_4) (i := 67) (by decide +kernel)) rfl), by decide, TX8, rfl⟩
theorem k0_X8_write : CK0 m_X8_write 1 := ⟨(gw_1 (List.mem_of_getElem? (l := tables_1_1) (i := 8) (by decide +kernel)) rfl), (gw_4 (List.mem_of_getElem? (l := tables_1_4) (i := 130) (by decide +kernel)) rfl), ⟨by decide +kernel, by decide +kernel, by decide +kernel⟩, by decide⟩
theorem ck_RX8_118 : CKv RX8 118 m_X8_write 1 7 := ⟨k0_X8_write, (gw_4 (List.mem_of_getElem? (l := tables_1_4) (i := 127) (by decide +kernel)) rfl), (gw_4 (List.mem_of_getElem? (l := tables_1_4) (i := 128) (by decide +kernel)) rfl), (gw_4 (List.mem_of_getElem? (l := tables_1_4) (i := 129) (by decide +kernel)) rfl), by decide, TX8, rfl⟩
theorem k0_X8_endPiece : CK0 m_X8_endPiece 0 := ⟨(gw_1 (List.mem_of_getElem? (l := tables_1_1) (i := 8) (by decide +kernel)) rfl), (gw_4 (List.mem_of_getElem? (l := tables_1_4) (i := 134) (by decide +kernel)) rfl), ⟨by decide +kernel, by decide +kernel, by decide +kernel⟩, by decide⟩
theorem ck_RX8_122 : CKv RX8 122 m_X8_endPiece 0 7 := ⟨k0_X8_endPiece, (gw_4 (List.mem_of_getElem? (l := tables_1_4) (i := 131) (by decide +kernel)) rfl), (gw_4 (List.mem_of_getElem? (l := tables_1_4) (i := 132) (by decide +kernel)) rfl), (gw_4 (List.mem_of_getElem? (l := tables_1_4) (i := 133) (by decide +kernel)) rfl), by decide, TX8, rfl⟩
theorem k0_X8_takesSign : CK0 m_X8_takesSign 0 := ⟨(gw_1 (List.mem_of_getElem? (l := tables_1_1) (i := 8) (by decide +kernel)) rfl), (gw_4 (List.mem_of_getElem? (l := tables_1_4) (i := 138) (by decide +kernel)) rfl), ⟨by decide +kernel, by decide +kernel, by decide +kernel⟩, by decide⟩
theorem ck_RX8_48 : CKv RX8 48 m_X8_takesSign 0 7 := ⟨k0_X8_takesSign, (gw_4 (List.mem_of_getElem? (l := tables_1_4) (i := 135) (by decide +kernel)) rfl), (gw_4 (List.mem_of_getElem? (l := tables_1_4) (i := 136) (by decide +kernel)) rfl), (gw_4 (List.mem_of_getElem? (l := tables_1_4) (i := 137) (by decide +kernel)) rfl), by decide, TX8, rfl⟩
theorem k0_X8_takesClosing : CK0 m_X8_takesClosing 0 := ⟨(gw_1 (List.mem_of_getElem? (l := tables_1_1) (i := 8) (by decide +kernel)) rfl), (gw_4 (List.mem_of_getElem? (l := tables_1_4) (i := 142) (by decide +kernel)) rfl), ⟨by decide +kernel, by decide +kernel, by decide +kernel⟩, by decide⟩
theorem ck_RX8_139 : CKv RX8 139 m_X8_takesClosing 0 7 := ⟨k0_X8_takesClosing, (gw_4 (List.mem_of_getElem? (l := tables_1_4) (i := 139) (by decide +kernel)) rfl), (gw_4 (List.mem_of_getElem? (l := tables_1_4) (i := 140) (by decide +kernel)) rfl), (gw_4 (List.mem_of_getElem? (l := tables_1_4) (i := 141) (by decide +kernel)) rfl), by decide, TX8, rfl⟩
theorem k0_X8_writeHeldFrom : CK0 m_X8_writeHeldFrom 2 := ⟨(gw_1 (List.mem_of_getElem? (l := tables_1_1) (i := 8) (by decide +kernel)) rfl), (gw_4 (List.mem_of_getElem? (l := tables_1_4) (i := 146) (by decide +kernel)) rfl), ⟨by decide +kernel, by decide +kernel, by decide +kernel⟩, by decide⟩
theorem ck_RX8_54 : CKv RX8 54 m_X8_writeHeldFrom 2 7 := ⟨k0_X8_writeHeldFrom, (gw_4 (List.mem_of_getElem? (l := tables_1_4) (i := 143) (by decide +kernel)) rfl), (gw_4 (List.mem_of_getElem? (l := tables_1_4) (i := 144) (by decide +kernel)) rfl), (gw_4 (List.mem_of_getElem? (l := tables_1_4) (i := 145) (by decide +kernel)) rfl), by decide, TX8, rfl⟩
theorem k0_X8_heldRank : CK0 m_X8_heldRank 0 := ⟨(gw_1 (List.mem_of_getElem? (l := tables_1_1) (i := 8) (by decide +kernel)) rfl), (gw_4 (List.mem_of_getElem? (l := tables_1_4) (i := 150) (by decide +kernel)) rfl), ⟨by decide +kernel, by decide +kernel, by decide +kernel⟩, by decide⟩
theorem ck_RX8_145 : CKv RX8 145 m_X8_heldRank 0 7 := ⟨k0_X8_heldRank, (gw_4 (List.mem_of_getElem? (l := tables_1_4) (i := 147) (by decide +kernel)) rfl), (gw_4 (List.mem_of_getElem? (l := tables_1_4) (i := 148) (by decide +kernel)) rfl), (gw_4 (List.mem_of_getElem? (l := tables_1_4) (i := 149) (by decide +kernel)) rfl), by decide, TX8, rfl⟩
theorem k0_X8_rankOf : CK0 m_X8_rankOf 1 := ⟨(gw_1 (List.mem_of_getElem? (l := tables_1_1) (i := 8) (by decide +kernel)) rfl), (gw_4 (List.mem_of_getElem? (l := tables_1_4) (i := 153) (by decide +kernel)) rfl), ⟨by decide +kernel, by decide +kernel, by decide +kernel⟩, by decide⟩
theorem ck_RX8_142 : CKs RX8 142 m_X8_rankOf 1 := ⟨k0_X8_rankOf, (gw_4 (List.mem_of_getElem? (l := tables_1_4) (i := 151) (by decide +kernel)) rfl), (gw_4 (List.mem_of_getElem? (l := tables_1_4) (i := 152) (by decide +kernel)) rfl)⟩
theorem k0_X9_add : CK0 m_X9_add 1 := ⟨(gw_1 (List.mem_of_getElem? (l := tables_1_1) (i := 6) (by decide +kernel)) rfl), (gw_4 (List.mem_of_getElem? (l := tables_1_4) (i := 157) (by decide +kernel)) rfl), ⟨by decide +kernel, by decide +kernel, by decide +kernel⟩, by decide⟩
theorem ck_RX10_213 : CKv RX10 213 m_X9_add 1 8 := ⟨k0_X9_add, (gw_4 (List.mem_of_getElem? (l := tables_1_4) (i := 154) (by decide +kernel)) rfl), (gw_4 (List.mem_of_getElem? (l := tables_1_4) (i := 155) (by decide +kernel)) rfl), (gw_4 (List.mem_of_getElem? (l := tables_1_4) (i := 156) (by decide +kernel)) rfl), by decide, TX9, rfl⟩
theorem cc_RX9_39 : CKc RX9 39 := ⟨(gw_4 (List.mem_of_getElem? (l := tables_1_4) (i := 159) (by decide +kernel)) rfl), (gw_3 (List.mem_of_getElem? (l := tables_1_3) (i := 190) (by decide +kernel)) rfl), (gw_3 (List.mem_of_getElem? (l := tables_1_3) (i := 189) (by decide +kernel)) rfl), (gw_1 (List.mem_of_getElem? (l := tables_1_1) (i := 14) (by decide +kernel)) rfl)⟩
theorem k0_X9_has : CK0 m_X9_has 1 := ⟨(gw_1 (List.mem_of_getElem? (l := tables_1_1) (i := 6) (by decide +kernel)) rfl), (gw_4 (List.mem_of_getElem? (l := tables_1_4) (i := 168) (by decide +kernel)) rfl), ⟨by decide +kernel, by decide +kernel, by decide +kernel⟩, by decide⟩
theorem ck_RX10_218 : CKv RX10 218 m_X9_has 1 8 := ⟨k0_X9_has, (gw_4 (List.mem_of_getElem? (l := tables_1_4) (i := 165) (by decide +kernel)) rfl), (gw_4 (List.mem_of_getElem? (l := tables_1_4) (i := 166) (by decide +kernel)) rfl), (gw_4 (List.mem_of_getElem? (l := tables_1_4) (i := 167) (by decide +kernel)) rfl), by decide, TX9, rfl⟩
theorem ck_RX10_227 : CKv RX10 227 m_X9_lastOf 2 8 := ⟨k0_X9_lastOf, (gw_4 (List.mem_of_getElem? (l := tables_1_4) (i := 173) (by decide +kernel)) rfl), (gw_3 (List.mem_of_getElem? (l := tables_1_3) (i := 66) (by decide +kernel)) rfl), (gw_3 (List.mem_of_getElem? (l := tables_1_3) (i := 67) (by decide +kernel)) rfl), by decide, TX9, rfl⟩
theorem k0_X0_isTold : CK0 m_X0_isTold 1 := ⟨(gw_1 (List.mem_of_getElem? (l := tables_1_1) (i := 3) (by decide +kernel)) rfl), (gw_4 (List.mem_of_getElem? (l := tables_1_4) (i := 181) (by decide +kernel)) rfl), ⟨by decide +kernel, by decide +kernel, by decide +kernel⟩, by decide⟩
theorem ck_RX10_231 : CKv RX10 231 m_X0_isTold 1 0 := ⟨k0_X0_isTold, (gw_4 (List.mem_of_getElem? (l := tables_1_4) (i := 178) (by decide +kernel)) rfl), (gw_4 (List.mem_of_getElem? (l := tables_1_4) (i := 179) (by decide +kernel)) rfl), (gw_4 (List.mem_of_getElem? (l := tables_1_4) (i := 180) (by decide +kernel)) rfl), by decide, TX0, rfl⟩
theorem k0_X0_addTold : CK0 m_X0_addTold 1 := ⟨(gw_1 (List.mem_of_getElem? (l := tables_1_1) (i := 3) (by decide +kernel)) rfl), (gw_4 (List.mem_of_getElem? (l := tables_1_4) (i := 185) (by decide +kernel)) rfl), ⟨by decide +kernel, by decide +kernel, by decide +kernel⟩, by decide⟩
theorem ck_RX10_234 : CKv RX10 234 m_X0_addTold 1 0 := ⟨k0_X0_addTold, (gw_4 (List.mem_of_getElem? (l := tables_1_4) (i := 182) (by decide +kernel)) rfl), (gw_4 (List.mem_of_getElem? (l := tables_1_4) (i := 183) (by decide +kernel)) rfl), (gw_4 (List.mem_of_getElem? (l := tables_1_4) (i := 184) (by decide +kernel)) rfl), by decide, TX0, rfl⟩
theorem k0_X0_cheapestMix : CK0 m_X0_cheapestMix 3 := ⟨(gw_1 (List.mem_of_getElem? (l := tables_1_1) (i := 3) (by decide +kernel)) rfl), (gw_4 (List.mem_of_getElem? (l := tables_1_4) (i := 198) (by decide +kernel)) rfl), ⟨by decide +kernel, by decide +kernel, by decide +kernel⟩, by decide⟩
theorem ck_RX10_241 : CKv RX10 241 m_X0_cheapestMix 3 0 := ⟨k0_X0_cheapestMix, (gw_4 (List.mem_of_getElem? (l := tables_1_4) (i := 195) (by decide +kernel)) rfl), (gw_4 (List.mem_of_getElem? (l := tables_1_4) (i := 196) (by decide +kernel)) rfl), (gw_4 (List.mem_of_getElem? (l := tables_1_4) (i := 197) (by decide +kernel)) rfl), by decide, TX0, rfl⟩
theorem k0_X0_priceIn : CK0 m_X0_priceIn 1 := ⟨(gw_1 (List.mem_of_getElem? (l := tables_1_1) (i := 3) (by decide +kernel)) rfl), (gw_4 (List.mem_of_getElem? (l := tables_1_4) (i := 202) (by decide +kernel)) rfl), ⟨by decide +kernel, by decide +kernel, by decide +kernel⟩, by decide⟩
theorem ck_RX0_44 : CKv RX0 44 m_X0_priceIn 1 0 := ⟨k0_X0_priceIn, (gw_4 (List.mem_of_getElem? (l := tables_1_4) (i := 199) (by decide +kernel)) rfl), (gw_4 (List.mem_of_getElem? (l := tables_1_4) (i := 200) (by decide +kernel)) rfl), (gw_4 (List.mem_of_getElem? (l := tables_1_4) (i := 201) (by decide +kernel)) rfl), by decide, TX0, rfl⟩
theorem k0_X0_tensIn : CK0 m_X0_tensIn 2 := ⟨(gw_1 (List.mem_of_getElem? (l := tables_1_1) (i := 3) (by decide +kernel)) rfl), (gw_4 (List.mem_of_getElem? (l := tables_1_4) (i := 206) (by decide +kernel)) rfl), ⟨by decide +kernel, by decide +kernel, by decide +kernel⟩, by decide⟩
theorem ck_RX0_63 : CKv RX0 63 m_X0_tensIn 2 0 := ⟨k0_X0_tensIn, (gw_4 (List.mem_of_getElem? (l := tables_1_4) (i := 203) (by decide +kernel)) rfl), (gw_4 (List.mem_of_getElem? (l := tables_1_4) (i := 204) (by decide +kernel)) rfl), (gw_4 (List.mem_of_getElem? (l := tables_1_4) (i := 205) (by decide +kernel)) rfl), by decide, TX0, rfl⟩
theorem k0_X0_suits : CK0 m_X0_suits 4 := ⟨(gw_1 (List.mem_of_getElem? (l := tables_1_1) (i := 3) (by decide +kernel)) rfl), (gw_4 (List.mem_of_getElem? (l := tables_1_4) (i := 210) (by decide +kernel)) rfl), ⟨by decide +kernel, by decide +kernel, by decide +kernel⟩, by decide⟩
theorem ck_RX0_48 : CKv RX0 48 m_X0_suits 4 0 := ⟨k0_X0_suits, (gw_4 (List.mem_of_getElem? (l := tables_1_4) (i := 207) (by decide +kernel)) rfl), (gw_4 (List.mem_of_getElem? (l := tables_1_4) (i := 208) (by decide +kernel)) rfl), (gw_4 (List.mem_of_getElem? (l := tables_1_4) (i := 209) (by decide +kernel)) rfl), by decide, TX0, rfl⟩
theorem k0_X0_sumIn : CK0 m_X0_sumIn 2 := ⟨(gw_1 (List.mem_of_getElem? (l := tables_1_1) (i := 3) (by decide +kernel)) rfl), (gw_4 (List.mem_of_getElem? (l := tables_1_4) (i := 214) (by decide +kernel)) rfl), ⟨by decide +kernel, by decide +kernel, by decide +kernel⟩, by decide⟩
theorem ck_RX0_52 : CKv RX0 52 m_X0_sumIn 2 0 := ⟨k0_X0_sumIn, (gw_4 (List.mem_of_getElem? (l := tables_1_4) (i := 211) (by decide +kernel)) rfl), (gw_4 (List.mem_of_getElem? (l := tables_1_4) (i := 212) (by decide +kernel)) rfl), (gw_4 (List.mem_of_getElem? (l := tables_1_4) (i := 213) (by decide +kernel)) rfl), by decide, TX0, rfl⟩
theorem ck_RX0_66 : CKs RX0 66 m_X7_amountOf 4 := ⟨k0_X7_amountOf, (gw_4 (List.mem_of_getElem? (l := tables_1_4) (i := 215) (by decide +kernel)) rfl), (gw_2 (List.mem_of_getElem? (l := tables_1_2) (i := 193) (by decide +kernel)) rfl)⟩
theorem ck_RX0_56 : CKn RX0 56 m_X10_basicOf 2 := ⟨k0_X10_basicOf, List.mem_of_getElem? (i := 2) (by decide +kernel), (gw_3 (List.mem_of_getElem? (l := tables_1_3) (i := 157) (by decide +kernel)) rfl)⟩
theorem ck_RX0_59 : CKn RX0 59 m_X10_isWithin 3 := ⟨k0_X10_isWithin, List.mem_of_getElem? (i := 3) (by decide +kernel), (gw_2 (List.mem_of_getElem? (l := tables_1_2) (i := 169) (by decide +kernel)) rfl)⟩
theorem ck_RX10_244 : CKv RX10 244 m_X0_priceIn 1 0 := ⟨k0_X0_priceIn, (gw_4 (List.mem_of_getElem? (l := tables_1_4) (i := 218) (by decide +kernel)) rfl), (gw_4 (List.mem_of_getElem? (l := tables_1_4) (i := 200) (by decide +kernel)) rfl), (gw_4 (List.mem_of_getElem? (l := tables_1_4) (i := 201) (by decide +kernel)) rfl), by decide, TX0, rfl⟩
theorem ck_RX10_247 : CKv RX10 247 m_X0_tensIn 2 0 := ⟨k0_X0_tensIn, (gw_4 (List.mem_of_getElem? (l := tables_1_4) (i := 219) (by decide +kernel)) rfl), (gw_4 (List.mem_of_getElem? (l := tables_1_4) (i := 204) (by decide +kernel)) rfl), (gw_4 (List.mem_of_getElem? (l := tables_1_4) (i := 205) (by decide +kernel)) rfl), by decide, TX0, rfl⟩
theorem k0_X3_add : CK0 m_X3_add 1 := ⟨(gw_1 (List.mem_of_getElem? (l := tables_1_1) (i := 7) (by decide +kernel)) rfl), (gw_4 (List.mem_of_getElem? (l := tables_1_4) (i := 227) (by decide +kernel)) rfl), ⟨by decide +kernel, by decide +kernel, by decide +kernel⟩, by decide⟩
theorem ck_RX10_254 : CKv RX10 254 m_X3_add 1 3 := ⟨k0_X3_add, (gw_4 (List.mem_of_getElem? (l := tables_1_4) (i := 224) (by decide +kernel)) rfl), (gw_4 (List.mem_of_getElem? (l := tables_1_4) (i := 225) (by decide +kernel)) rfl), (gw_4 (List.mem_of_getElem? (l := tables_1_4) (i := 226) (by decide +kernel)) rfl), by decide, TX3, rfl⟩
theorem k0_X3_has : CK0 m_X3_has 1 := ⟨(gw_1 (List.mem_of_getElem? (l := tables_1_1) (i := 7) (by decide +kernel)) rfl), (gw_4 (List.mem_of_getElem? (l := tables_1_4) (i := 236) (by decide +kernel)) rfl), ⟨by decide +kernel, by decide +kernel, by decide +kernel⟩, by decide⟩
theorem ck_RX10_258 : CKv RX10 258 m_X3_has 1 3 := ⟨k0_X3_has, (gw_4 (List.mem_of_getElem? (l := tables_1_4) (i := 233) (by decide +kernel)) rfl), (gw_4 (List.mem_of_getElem? (l := tables_1_4) (i := 234) (by decide +kernel)) rfl), (gw_4 (List.mem_of_getElem? (l := tables_1_4) (i := 235) (by decide +kernel)) rfl), by decide, TX3, rfl⟩
theorem k0_X2_pourOut : CK0 m_X2_pourOut 2 := ⟨(gw_1 (List.mem_of_getElem? (l := tables_1_1) (i := 2) (by decide +kernel)) rfl), (gw_5 (List.mem_of_getElem? (l := tables_1_5) (i := 4) (by decide +kernel)) rfl), ⟨by decide +kernel, by decide +kernel, by decide +kernel⟩, by decide⟩
theorem ck_RX10_268 : CKv RX10 268 m_X2_pourOut 2 2 := ⟨k0_X2_pourOut, (gw_5 (List.mem_of_getElem? (l := tables_1_5) (i := 1) (by decide +kernel)) rfl), (gw_5 (List.mem_of_getElem? (l := tables_1_5) (i := 2) (by decide +kernel)) rfl), (gw_5 (List.mem_of_getElem? (l := tables_1_5) (i := 3) (by decide +kernel)) rfl), by decide, TX2, rfl⟩
theorem ck_RX2_128 : CKv RX2 128 m_X1_takeOut 1 1 := ⟨k0_X1_takeOut, (gw_5 (List.mem_of_getElem? (l := tables_1_5) (i := 5) (by decide +kernel)) rfl), (gw_3 (List.mem_of_getElem? (l := tables_1_3) (i := 173) (by decide +kernel)) rfl), (gw_3 (List.mem_of_getElem? (l := tables_1_3) (i := 174) (by decide +kernel)) rfl), by decide, TX1, rfl⟩
theorem k0_X3_takeIn : CK0 m_X3_takeIn 3 := ⟨(gw_1 (List.mem_of_getElem? (l := tables_1_1) (i := 7) (by decide +kernel)) rfl), (gw_5 (List.mem_of_getElem? (l := tables_1_5) (i := 9) (by decide +kernel)) rfl), ⟨by decide +kernel, by decide +kernel, by decide +kernel⟩, by decide⟩
theorem ck_RX2_131 : CKv RX2 131 m_X3_takeIn 3 3 := ⟨k0_X3_takeIn, (gw_5 (List.mem_of_getElem? (l := tables_1_5) (i := 6) (by decide +kernel)) rfl), (gw_5 (List.mem_of_getElem? (l := tables_1_5) (i := 7) (by decide +kernel)) rfl), (gw_5 (List.mem_of_getElem? (l := tables_1_5) (i := 8) (by decide +kernel)) rfl), by decide, TX3, rfl⟩
theorem k0_X3_firstReady : CK0 m_X3_firstReady 0 := ⟨(gw_1 (List.mem_of_getElem? (l := tables_1_1) (i := 7) (by decide +kernel)) rfl), (gw_5 (List.mem_of_getElem? (l := tables_1_5) (i := 13) (by decide +kernel)) rfl), ⟨by decide +kernel, by decide +kernel, by decide +kernel⟩, by decide⟩
theorem ck_RX3_32 : CKv RX3 32 m_X3_firstReady 0 3 := ⟨k0_X3_firstReady, (gw_5 (List.mem_of_getElem? (l := tables_1_5) (i := 10) (by decide +kernel)) rfl), (gw_5 (List.mem_of_getElem? (l := tables_1_5) (i := 11) (by decide +kernel)) rfl), (gw_5 (List.mem_of_getElem? (l := tables_1_5) (i := 12) (by decide +kernel)) rfl), by decide, TX3, rfl⟩
theorem ml_RX3_36 : Cond.methodLink RX3 36 Lib.Math.min.name ∈ GW := (gw_5 (List.mem_of_getElem? (l := tables_1_5) (i := 14) (by decide +kernel)) rfl)
theorem ml_RX3_42 : Cond.methodLink RX3 42 Lib.Math.max.name ∈ GW := (gw_5 (List.mem_of_getElem? (l := tables_1_5) (i := 15) (by decide +kernel)) rfl)
theorem k0_X2_lateFor : CK0 m_X2_lateFor 1 := ⟨(gw_1 (List.mem_of_getElem? (l := tables_1_1) (i := 2) (by decide +kernel)) rfl), (gw_5 (List.mem_of_getElem? (l := tables_1_5) (i := 19) (by decide +kernel)) rfl), ⟨by decide +kernel, by decide +kernel, by decide +kernel⟩, by decide⟩
theorem ck_RX2_138 : CKv RX2 138 m_X2_lateFor 1 2 := ⟨k0_X2_lateFor, (gw_5 (List.mem_of_getElem? (l := tables_1_5) (i := 16) (by decide +kernel)) rfl), (gw_5 (List.mem_of_getElem? (l := tables_1_5) (i := 17) (by decide +kernel)) rfl), (gw_5 (List.mem_of_getElem? (l := tables_1_5) (i := 18) (by decide +kernel)) rfl), by decide, TX2, rfl⟩
theorem k0_X10_isSheet : CK0 m_X10_isSheet 1 := ⟨(gw_1 (List.mem_of_getElem? (l := tables_1_1) (i := 1) (by decide +kernel)) rfl), (gw_5 (List.mem_of_getElem? (l := tables_1_5) (i := 26) (by decide +kernel)) rfl), ⟨by decide +kernel, by decide +kernel, by decide +kernel⟩, by decide⟩
theorem ck_RX10_271 : CKs RX10 271 m_X10_isSheet 1 := ⟨k0_X10_isSheet, (gw_5 (List.mem_of_getElem? (l := tables_1_5) (i := 24) (by decide +kernel)) rfl), (gw_5 (List.mem_of_getElem? (l := tables_1_5) (i := 25) (by decide +kernel)) rfl)⟩
theorem k0_X5_makeNew : CK0 m_X5_makeNew 2 := ⟨(gw_1 (List.mem_of_getElem? (l := tables_1_1) (i := 9) (by decide +kernel)) rfl), (gw_5 (List.mem_of_getElem? (l := tables_1_5) (i := 30) (by decide +kernel)) rfl), ⟨by decide +kernel, by decide +kernel, by decide +kernel⟩, by decide⟩
theorem ck_RX10_274 : CKv RX10 274 m_X5_makeNew 2 5 := ⟨k0_X5_makeNew, (gw_5 (List.mem_of_getElem? (l := tables_1_5) (i := 27) (by decide +kernel)) rfl), (gw_5 (List.mem_of_getElem? (l := tables_1_5) (i := 28) (by decide +kernel)) rfl), (gw_5 (List.mem_of_getElem? (l := tables_1_5) (i := 29) (by decide +kernel)) rfl), by decide, TX5, rfl⟩
theorem k0_X5_has : CK0 m_X5_has 1 := ⟨(gw_1 (List.mem_of_getElem? (l := tables_1_1) (i := 9) (by decide +kernel)) rfl), (gw_5 (List.mem_of_getElem? (l := tables_1_5) (i := 40) (by decide +kernel)) rfl), ⟨by decide +kernel, by decide +kernel, by decide +kernel⟩, by decide⟩
theorem ck_RX10_282 : CKv RX10 282 m_X5_has 1 5 := ⟨k0_X5_has, (gw_5 (List.mem_of_getElem? (l := tables_1_5) (i := 37) (by decide +kernel)) rfl), (gw_5 (List.mem_of_getElem? (l := tables_1_5) (i := 38) (by decide +kernel)) rfl), (gw_5 (List.mem_of_getElem? (l := tables_1_5) (i := 39) (by decide +kernel)) rfl), by decide, TX5, rfl⟩
theorem k0_X5_lose : CK0 m_X5_lose 1 := ⟨(gw_1 (List.mem_of_getElem? (l := tables_1_1) (i := 9) (by decide +kernel)) rfl), (gw_5 (List.mem_of_getElem? (l := tables_1_5) (i := 45) (by decide +kernel)) rfl), ⟨by decide +kernel, by decide +kernel, by decide +kernel⟩, by decide⟩
theorem ck_RX10_284 : CKv RX10 284 m_X5_lose 1 5 := ⟨k0_X5_lose, (gw_5 (List.mem_of_getElem? (l := tables_1_5) (i := 42) (by decide +kernel)) rfl), (gw_5 (List.mem_of_getElem? (l := tables_1_5) (i := 43) (by decide +kernel)) rfl), (gw_5 (List.mem_of_getElem? (l := tables_1_5) (i := 44) (by decide +kernel)) rfl), by decide, TX5, rfl⟩
theorem k0_X5_put : CK0 m_X5_put 2 := ⟨(gw_1 (List.mem_of_getElem? (l := tables_1_1) (i := 9) (by decide +kernel)) rfl), (gw_5 (List.mem_of_getElem? (l := tables_1_5) (i := 50) (by decide +kernel)) rfl), ⟨by decide +kernel, by decide +kernel, by decide +kernel⟩, by decide⟩
theorem ck_RX10_288 : CKv RX10 288 m_X5_put 2 5 := ⟨k0_X5_put, (gw_5 (List.mem_of_getElem? (l := tables_1_5) (i := 47) (by decide +kernel)) rfl), (gw_5 (List.mem_of_getElem? (l := tables_1_5) (i := 48) (by decide +kernel)) rfl), (gw_5 (List.mem_of_getElem? (l := tables_1_5) (i := 49) (by decide +kernel)) rfl), by decide, TX5, rfl⟩
theorem k0_X5_hangs : CK0 m_X5_hangs 0 := ⟨(gw_1 (List.mem_of_getElem? (l := tables_1_1) (i := 9) (by decide +kernel)) rfl), (gw_5 (List.mem_of_getElem? (l := tables_1_5) (i := 58) (by decide +kernel)) rfl), ⟨by decide +kernel, by decide +kernel, by decide +kernel⟩, by decide⟩
theorem ck_RX10_291 : CKv RX10 291 m_X5_hangs 0 5 := ⟨k0_X5_hangs, (gw_5 (List.mem_of_getElem? (l := tables_1_5) (i := 55) (by decide +kernel)) rfl), (gw_5 (List.mem_of_getElem? (l := tables_1_5) (i := 56) (by decide +kernel)) rfl), (gw_5 (List.mem_of_getElem? (l := tables_1_5) (i := 57) (by decide +kernel)) rfl), by decide, TX5, rfl⟩
theorem k0_X5_knownAhead : CK0 m_X5_knownAhead 1 := ⟨(gw_1 (List.mem_of_getElem? (l := tables_1_1) (i := 9) (by decide +kernel)) rfl), (gw_5 (List.mem_of_getElem? (l := tables_1_5) (i := 62) (by decide +kernel)) rfl), ⟨by decide +kernel, by decide +kernel, by decide +kernel⟩, by decide⟩
theorem ck_RX5_32 : CKv RX5 32 m_X5_knownAhead 1 5 := ⟨k0_X5_knownAhead, (gw_5 (List.mem_of_getElem? (l := tables_1_5) (i := 59) (by decide +kernel)) rfl), (gw_5 (List.mem_of_getElem? (l := tables_1_5) (i := 60) (by decide +kernel)) rfl), (gw_5 (List.mem_of_getElem? (l := tables_1_5) (i := 61) (by decide +kernel)) rfl), by decide, TX5, rfl⟩
theorem ml_RX5_36 : Cond.methodLink RX5 36 Lib.Math.max.name ∈ GW := (gw_5 (List.mem_of_getElem? (l := tables_1_5) (i := 63) (by decide +kernel)) rfl)
theorem k0_X5_slips : CK0 m_X5_slips 1 := ⟨(gw_1 (List.mem_of_getElem? (l := tables_1_1) (i := 9) (by decide +kernel)) rfl), (gw_5 (List.mem_of_getElem? (l := tables_1_5) (i := 67) (by decide +kernel)) rfl), ⟨by decide +kernel, by decide +kernel, by decide +kernel⟩, by decide⟩
theorem ck_RX10_294 : CKv RX10 294 m_X5_slips 1 5 := ⟨k0_X5_slips, (gw_5 (List.mem_of_getElem? (l := tables_1_5) (i := 64) (by decide +kernel)) rfl), (gw_5 (List.mem_of_getElem? (l := tables_1_5) (i := 65) (by decide +kernel)) rfl), (gw_5 (List.mem_of_getElem? (l := tables_1_5) (i := 66) (by decide +kernel)) rfl), by decide, TX5, rfl⟩
theorem k0_X5_hasRow : CK0 m_X5_hasRow 2 := ⟨(gw_1 (List.mem_of_getElem? (l := tables_1_1) (i := 9) (by decide +kernel)) rfl), (gw_5 (List.mem_of_getElem? (l := tables_1_5) (i := 79) (by decide +kernel)) rfl), ⟨by decide +kernel, by decide +kernel, by decide +kernel⟩, by decide⟩
theorem ck_RX10_298 : CKv RX10 298 m_X5_hasRow 2 5 := ⟨k0_X5_hasRow, (gw_5 (List.mem_of_getElem? (l := tables_1_5) (i := 76) (by decide +kernel)) rfl), (gw_5 (List.mem_of_getElem? (l := tables_1_5) (i := 77) (by decide +kernel)) rfl), (gw_5 (List.mem_of_getElem? (l := tables_1_5) (i := 78) (by decide +kernel)) rfl), by decide, TX5, rfl⟩
theorem cc_RX10_304 : CKc RX10 304 := ⟨(gw_5 (List.mem_of_getElem? (l := tables_1_5) (i := 80) (by decide +kernel)) rfl), (gw_3 (List.mem_of_getElem? (l := tables_1_3) (i := 190) (by decide +kernel)) rfl), (gw_3 (List.mem_of_getElem? (l := tables_1_3) (i := 189) (by decide +kernel)) rfl), (gw_1 (List.mem_of_getElem? (l := tables_1_1) (i := 14) (by decide +kernel)) rfl)⟩
theorem k0_X10_isSlot : CK0 m_X10_isSlot 1 := ⟨(gw_1 (List.mem_of_getElem? (l := tables_1_1) (i := 1) (by decide +kernel)) rfl), (gw_5 (List.mem_of_getElem? (l := tables_1_5) (i := 87) (by decide +kernel)) rfl), ⟨by decide +kernel, by decide +kernel, by decide +kernel⟩, by decide⟩
theorem ck_RX10_314 : CKs RX10 314 m_X10_isSlot 1 := ⟨k0_X10_isSlot, (gw_5 (List.mem_of_getElem? (l := tables_1_5) (i := 85) (by decide +kernel)) rfl), (gw_5 (List.mem_of_getElem? (l := tables_1_5) (i := 86) (by decide +kernel)) rfl)⟩
theorem k0_X5_become : CK0 m_X5_become 1 := ⟨(gw_1 (List.mem_of_getElem? (l := tables_1_1) (i := 9) (by decide +kernel)) rfl), (gw_5 (List.mem_of_getElem? (l := tables_1_5) (i := 91) (by decide +kernel)) rfl), ⟨by decide +kernel, by decide +kernel, by decide +kernel⟩, by decide⟩
theorem ck_RX10_328 : CKv RX10 328 m_X5_become 1 5 := ⟨k0_X5_become, (gw_5 (List.mem_of_getElem? (l := tables_1_5) (i := 88) (by decide +kernel)) rfl), (gw_5 (List.mem_of_getElem? (l := tables_1_5) (i := 89) (by decide +kernel)) rfl), (gw_5 (List.mem_of_getElem? (l := tables_1_5) (i := 90) (by decide +kernel)) rfl), by decide, TX5, rfl⟩
theorem cc_RX5_26 : CKc RX5 26 := ⟨(gw_5 (List.mem_of_getElem? (l := tables_1_5) (i := 92) (by decide +kernel)) rfl), (gw_3 (List.mem_of_getElem? (l := tables_1_3) (i := 190) (by decide +kernel)) rfl), (gw_3 (List.mem_of_getElem? (l := tables_1_3) (i := 189) (by decide +kernel)) rfl), (gw_1 (List.mem_of_getElem? (l := tables_1_1) (i := 14) (by decide +kernel)) rfl)⟩
theorem ck_RX10_334 : CKs RX10 334 m_X7_acidOf 3 := ⟨k0_X7_acidOf, (gw_5 (List.mem_of_getElem? (l := tables_1_5) (i := 97) (by decide +kernel)) rfl), (gw_2 (List.mem_of_getElem? (l := tables_1_2) (i := 202) (by decide +kernel)) rfl)⟩
theorem k0_X10_isTold : CK0 m_X10_isTold 3 := ⟨(gw_1 (List.mem_of_getElem? (l := tables_1_1) (i := 1) (by decide +kernel)) rfl), (gw_5 (List.mem_of_getElem? (l := tables_1_5) (i := 117) (by decide +kernel)) rfl), ⟨by decide +kernel, by decide +kernel, by decide +kernel⟩, by decide⟩
theorem ck_RX10_337 : CKv RX10 337 m_X10_isTold 3 9 := ⟨k0_X10_isTold, (gw_5 (List.mem_of_getElem? (l := tables_1_5) (i := 114) (by decide +kernel)) rfl), (gw_5 (List.mem_of_getElem? (l := tables_1_5) (i := 116) (by decide +kernel)) rfl), (gw_0 (List.mem_of_getElem? (l := k2_sels lw_privs) (i := 0) (by decide +kernel)) rfl), by decide, TX10, rfl⟩
theorem k0_X1_allBulk : CK0 m_X1_allBulk 0 := ⟨(gw_1 (List.mem_of_getElem? (l := tables_1_1) (i := 4) (by decide +kernel)) rfl), (gw_5 (List.mem_of_getElem? (l := tables_1_5) (i := 121) (by decide +kernel)) rfl), ⟨by decide +kernel, by decide +kernel, by decide +kernel⟩, by decide⟩
theorem ck_RX10_339 : CKv RX10 339 m_X1_allBulk 0 1 := ⟨k0_X1_allBulk, (gw_5 (List.mem_of_getElem? (l := tables_1_5) (i := 118) (by decide +kernel)) rfl), (gw_5 (List.mem_of_getElem? (l := tables_1_5) (i := 119) (by decide +kernel)) rfl), (gw_5 (List.mem_of_getElem? (l := tables_1_5) (i := 120) (by decide +kernel)) rfl), by decide, TX1, rfl⟩
theorem k0_X2_become : CK0 m_X2_become 1 := ⟨(gw_1 (List.mem_of_getElem? (l := tables_1_1) (i := 2) (by decide +kernel)) rfl), (gw_5 (List.mem_of_getElem? (l := tables_1_5) (i := 129) (by decide +kernel)) rfl), ⟨by decide +kernel, by decide +kernel, by decide +kernel⟩, by decide⟩
theorem ck_RX10_342 : CKv RX10 342 m_X2_become 1 2 := ⟨k0_X2_become, (gw_5 (List.mem_of_getElem? (l := tables_1_5) (i := 126) (by decide +kernel)) rfl), (gw_5 (List.mem_of_getElem? (l := tables_1_5) (i := 127) (by decide +kernel)) rfl), (gw_5 (List.mem_of_getElem? (l := tables_1_5) (i := 128) (by decide +kernel)) rfl), by decide, TX2, rfl⟩
theorem k0_X0_become : CK0 m_X0_become 1 := ⟨(gw_1 (List.mem_of_getElem? (l := tables_1_1) (i := 3) (by decide +kernel)) rfl), (gw_5 (List.mem_of_getElem? (l := tables_1_5) (i := 133) (by decide +kernel)) rfl), ⟨by decide +kernel, by decide +kernel, by decide +kernel⟩, by decide⟩
theorem ck_RX2_43 : CKv RX2 43 m_X0_become 1 0 := ⟨k0_X0_become, (gw_5 (List.mem_of_getElem? (l := tables_1_5) (i := 130) (by decide +kernel)) rfl), (gw_5 (List.mem_of_getElem? (l := tables_1_5) (i := 131) (by decide +kernel)) rfl), (gw_5 (List.mem_of_getElem? (l := tables_1_5) (i := 132) (by decide +kernel)) rfl), by decide, TX0, rfl⟩
theorem cc_RX0_37 : CKc RX0 37 := ⟨(gw_5 (List.mem_of_getElem? (l := tables_1_5) (i := 134) (by decide +kernel)) rfl), (gw_3 (List.mem_of_getElem? (l := tables_1_3) (i := 190) (by decide +kernel)) rfl), (gw_3 (List.mem_of_getElem? (l := tables_1_3) (i := 189) (by decide +kernel)) rfl), (gw_1 (List.mem_of_getElem? (l := tables_1_1) (i := 14) (by decide +kernel)) rfl)⟩
theorem ck_RX2_47 : CKv RX2 47 m_X1_become 1 1 := ⟨k0_X1_become, (gw_5 (List.mem_of_getElem? (l := tables_1_5) (i := 135) (by decide +kernel)) rfl), (gw_3 (List.mem_of_getElem? (l := tables_1_3) (i := 181) (by decide +kernel)) rfl), (gw_3 (List.mem_of_getElem? (l := tables_1_3) (i := 182) (by decide +kernel)) rfl), by decide, TX1, rfl⟩
theorem k0_X9_become : CK0 m_X9_become 1 := ⟨(gw_1 (List.mem_of_getElem? (l := tables_1_1) (i := 6) (by decide +kernel)) rfl), (gw_5 (List.mem_of_getElem? (l := tables_1_5) (i := 139) (by decide +kernel)) rfl), ⟨by decide +kernel, by decide +kernel, by decide +kernel⟩, by decide⟩
theorem ck_RX2_50 : CKv RX2 50 m_X9_become 1 8 := ⟨k0_X9_become, (gw_5 (List.mem_of_getElem? (l := tables_1_5) (i := 136) (by decide +kernel)) rfl), (gw_5 (List.mem_of_getElem? (l := tables_1_5) (i := 137) (by decide +kernel)) rfl), (gw_5 (List.mem_of_getElem? (l := tables_1_5) (i := 138) (by decide +kernel)) rfl), by decide, TX9, rfl⟩
theorem k0_X3_become : CK0 m_X3_become 1 := ⟨(gw_1 (List.mem_of_getElem? (l := tables_1_1) (i := 7) (by decide +kernel)) rfl), (gw_5 (List.mem_of_getElem? (l := tables_1_5) (i := 143) (by decide +kernel)) rfl), ⟨by decide +kernel, by decide +kernel, by decide +kernel⟩, by decide⟩
theorem ck_RX2_53 : CKv RX2 53 m_X3_become 1 3 := ⟨k0_X3_become, (gw_5 (List.mem_of_getElem? (l := tables_1_5) (i := 140) (by decide +kernel)) rfl), (gw_5 (List.mem_of_getElem? (l := tables_1_5) (i := 141) (by decide +kernel)) rfl), (gw_5 (List.mem_of_getElem? (l := tables_1_5) (i := 142) (by decide +kernel)) rfl), by decide, TX3, rfl⟩
theorem cc_RX3_25 : CKc RX3 25 := ⟨(gw_5 (List.mem_of_getElem? (l := tables_1_5) (i := 144) (by decide +kernel)) rfl), (gw_3 (List.mem_of_getElem? (l := tables_1_3) (i := 190) (by decide +kernel)) rfl), (gw_3 (List.mem_of_getElem? (l := tables_1_3) (i := 189) (by decide +kernel)) rfl), (gw_1 (List.mem_of_getElem? (l := tables_1_1) (i := 14) (by decide +kernel)) rfl)⟩
theorem cc_RX2_56 : CKc RX2 56 := ⟨(gw_5 (List.mem_of_getElem? (l := tables_1_5) (i := 145) (by decide +kernel)) rfl), (gw_3 (List.mem_of_getElem? (l := tables_1_3) (i := 190) (by decide +kernel)) rfl), (gw_3 (List.mem_of_getElem? (l := tables_1_3) (i := 189) (by decide +kernel)) rfl), (gw_1 (List.mem_of_getElem? (l := tables_1_1) (i := 14) (by decide +kernel)) rfl)⟩
theorem k0_X11_isIn : CK0 m_X11_isIn 3 := ⟨(gw_1 (List.mem_of_getElem? (l := tables_1_1) (i := 11) (by decide +kernel)) rfl), (gw_6 (List.mem_of_getElem? (l := tables_1_6) (i := 36) (by decide +kernel)) rfl), ⟨by decide +kernel, by decide +kernel, by decide +kernel⟩, by decide⟩
theorem ck_RX11_78 : CKs RX11 78 m_X11_isIn 3 := ⟨k0_X11_isIn, (gw_6 (List.mem_of_getElem? (l := tables_1_6) (i := 34) (by decide +kernel)) rfl), (gw_6 (List.mem_of_getElem? (l := tables_1_6) (i := 35) (by decide +kernel)) rfl)⟩
theorem k0_X11_binAt : CK0 m_X11_binAt 1 := ⟨(gw_1 (List.mem_of_getElem? (l := tables_1_1) (i := 11) (by decide +kernel)) rfl), (gw_6 (List.mem_of_getElem? (l := tables_1_6) (i := 43) (by decide +kernel)) rfl), ⟨by decide +kernel, by decide +kernel, by decide +kernel⟩, by decide⟩
theorem ck_RX11_86 : CKv RX11 86 m_X11_binAt 1 10 := ⟨k0_X11_binAt, (gw_6 (List.mem_of_getElem? (l := tables_1_6) (i := 40) (by decide +kernel)) rfl), (gw_6 (List.mem_of_getElem? (l := tables_1_6) (i := 42) (by decide +kernel)) rfl), (gw_0 (List.mem_of_getElem? (l := k2_sels lw_privs) (i := 1) (by decide +kernel)) rfl), by decide, TX11, rfl⟩
theorem k0_X11_isBin : CK0 m_X11_isBin 1 := ⟨(gw_1 (List.mem_of_getElem? (l := tables_1_1) (i := 11) (by decide +kernel)) rfl), (gw_6 (List.mem_of_getElem? (l := tables_1_6) (i := 51) (by decide +kernel)) rfl), ⟨by decide +kernel, by decide +kernel, by decide +kernel⟩, by decide⟩
theorem ck_RX11_102 : CKv RX11 102 m_X11_isBin 1 10 := ⟨k0_X11_isBin, (gw_6 (List.mem_of_getElem? (l := tables_1_6) (i := 48) (by decide +kernel)) rfl), (gw_6 (List.mem_of_getElem? (l := tables_1_6) (i := 50) (by decide +kernel)) rfl), (gw_0 (List.mem_of_getElem? (l := k2_sels lw_privs) (i := 2) (by decide +kernel)) rfl), by decide, TX11, rfl⟩
theorem k0_X11_holdsOf : CK0 m_X11_holdsOf 1 := ⟨(gw_1 (List.mem_of_getElem? (l := tables_1_1) (i := 11) (by decide +kernel)) rfl), (gw_6 (List.mem_of_getElem? (l := tables_1_6) (i := 54) (by decide +kernel)) rfl), ⟨by decide +kernel, by decide +kernel, by decide +kernel⟩, by decide⟩
theorem ck_RX11_106 : CKs RX11 106 m_X11_holdsOf 1 := ⟨k0_X11_holdsOf, (gw_6 (List.mem_of_getElem? (l := tables_1_6) (i := 52) (by decide +kernel)) rfl), (gw_6 (List.mem_of_getElem? (l := tables_1_6) (i := 53) (by decide +kernel)) rfl)⟩
theorem k0_X11_bulkOf : CK0 m_X11_bulkOf 2 := ⟨(gw_1 (List.mem_of_getElem? (l := tables_1_1) (i := 11) (by decide +kernel)) rfl), (gw_6 (List.mem_of_getElem? (l := tables_1_6) (i := 63) (by decide +kernel)) rfl), ⟨by decide +kernel, by decide +kernel, by decide +kernel⟩, by decide⟩
theorem ck_RX11_113 : CKs RX11 113 m_X11_bulkOf 2 := ⟨k0_X11_bulkOf, (gw_6 (List.mem_of_getElem? (l := tables_1_6) (i := 61) (by decide +kernel)) rfl), (gw_6 (List.mem_of_getElem? (l := tables_1_6) (i := 62) (by decide +kernel)) rfl)⟩
theorem k0_X11_brings : CK0 m_X11_brings 3 := ⟨(gw_1 (List.mem_of_getElem? (l := tables_1_1) (i := 11) (by decide +kernel)) rfl), (gw_6 (List.mem_of_getElem? (l := tables_1_6) (i := 67) (by decide +kernel)) rfl), ⟨by decide +kernel, by decide +kernel, by decide +kernel⟩, by decide⟩
theorem ck_RX11_117 : CKv RX11 117 m_X11_brings 3 10 := ⟨k0_X11_brings, (gw_6 (List.mem_of_getElem? (l := tables_1_6) (i := 64) (by decide +kernel)) rfl), (gw_6 (List.mem_of_getElem? (l := tables_1_6) (i := 66) (by decide +kernel)) rfl), (gw_0 (List.mem_of_getElem? (l := k2_sels lw_privs) (i := 3) (by decide +kernel)) rfl), by decide, TX11, rfl⟩
theorem k0_X11_ironOf : CK0 m_X11_ironOf 3 := ⟨(gw_1 (List.mem_of_getElem? (l := tables_1_1) (i := 11) (by decide +kernel)) rfl), (gw_6 (List.mem_of_getElem? (l := tables_1_6) (i := 70) (by decide +kernel)) rfl), ⟨by decide +kernel, by decide +kernel, by decide +kernel⟩, by decide⟩
theorem ck_RX11_82 : CKs RX11 82 m_X11_ironOf 3 := ⟨k0_X11_ironOf, (gw_6 (List.mem_of_getElem? (l := tables_1_6) (i := 68) (by decide +kernel)) rfl), (gw_6 (List.mem_of_getElem? (l := tables_1_6) (i := 69) (by decide +kernel)) rfl)⟩
theorem k0_X11_acidOf : CK0 m_X11_acidOf 3 := ⟨(gw_1 (List.mem_of_getElem? (l := tables_1_1) (i := 11) (by decide +kernel)) rfl), (gw_6 (List.mem_of_getElem? (l := tables_1_6) (i := 73) (by decide +kernel)) rfl), ⟨by decide +kernel, by decide +kernel, by decide +kernel⟩, by decide⟩
theorem ck_RX11_90 : CKs RX11 90 m_X11_acidOf 3 := ⟨k0_X11_acidOf, (gw_6 (List.mem_of_getElem? (l := tables_1_6) (i := 71) (by decide +kernel)) rfl), (gw_6 (List.mem_of_getElem? (l := tables_1_6) (i := 72) (by decide +kernel)) rfl)⟩
theorem k0_X11_limeOf : CK0 m_X11_limeOf 3 := ⟨(gw_1 (List.mem_of_getElem? (l := tables_1_1) (i := 11) (by decide +kernel)) rfl), (gw_6 (List.mem_of_getElem? (l := tables_1_6) (i := 76) (by decide +kernel)) rfl), ⟨by decide +kernel, by decide +kernel, by decide +kernel⟩, by decide⟩
theorem ck_RX11_93 : CKs RX11 93 m_X11_limeOf 3 := ⟨k0_X11_limeOf, (gw_6 (List.mem_of_getElem? (l := tables_1_6) (i := 74) (by decide +kernel)) rfl), (gw_6 (List.mem_of_getElem? (l := tables_1_6) (i := 75) (by decide +kernel)) rfl)⟩
theorem k0_X11_isOf : CK0 m_X11_isOf 2 := ⟨(gw_1 (List.mem_of_getElem? (l := tables_1_1) (i := 11) (by decide +kernel)) rfl), (gw_6 (List.mem_of_getElem? (l := tables_1_6) (i := 83) (by decide +kernel)) rfl), ⟨by decide +kernel, by decide +kernel, by decide +kernel⟩, by decide⟩
theorem ck_RX11_120 : CKs RX11 120 m_X11_isOf 2 := ⟨k0_X11_isOf, (gw_6 (List.mem_of_getElem? (l := tables_1_6) (i := 81) (by decide +kernel)) rfl), (gw_6 (List.mem_of_getElem? (l := tables_1_6) (i := 82) (by decide +kernel)) rfl)⟩
theorem k0_X11_becomes : CK0 m_X11_becomes 2 := ⟨(gw_1 (List.mem_of_getElem? (l := tables_1_1) (i := 11) (by decide +kernel)) rfl), (gw_6 (List.mem_of_getElem? (l := tables_1_6) (i := 97) (by decide +kernel)) rfl), ⟨by decide +kernel, by decide +kernel, by decide +kernel⟩, by decide⟩
theorem ck_RX11_127 : CKv RX11 127 m_X11_becomes 2 10 := ⟨k0_X11_becomes, (gw_6 (List.mem_of_getElem? (l := tables_1_6) (i := 94) (by decide +kernel)) rfl), (gw_6 (List.mem_of_getElem? (l := tables_1_6) (i := 96) (by decide +kernel)) rfl), (gw_0 (List.mem_of_getElem? (l := k2_sels lw_privs) (i := 4) (by decide +kernel)) rfl), by decide, TX11, rfl⟩
theorem k0_X11_comes : CK0 m_X11_comes 2 := ⟨(gw_1 (List.mem_of_getElem? (l := tables_1_1) (i := 11) (by decide +kernel)) rfl), (gw_6 (List.mem_of_getElem? (l := tables_1_6) (i := 115) (by decide +kernel)) rfl), ⟨by decide +kernel, by decide +kernel, by decide +kernel⟩, by decide⟩
theorem ck_RX11_154 : CKv RX11 154 m_X11_comes 2 10 := ⟨k0_X11_comes, (gw_6 (List.mem_of_getElem? (l := tables_1_6) (i := 112) (by decide +kernel)) rfl), (gw_6 (List.mem_of_getElem? (l := tables_1_6) (i := 114) (by decide +kernel)) rfl), (gw_0 (List.mem_of_getElem? (l := k2_sels lw_privs) (i := 5) (by decide +kernel)) rfl), by decide, TX11, rfl⟩
theorem k0_X11_layerAt : CK0 m_X11_layerAt 1 := ⟨(gw_1 (List.mem_of_getElem? (l := tables_1_1) (i := 11) (by decide +kernel)) rfl), (gw_6 (List.mem_of_getElem? (l := tables_1_6) (i := 119) (by decide +kernel)) rfl), ⟨by decide +kernel, by decide +kernel, by decide +kernel⟩, by decide⟩
theorem ck_RX11_134 : CKv RX11 134 m_X11_layerAt 1 10 := ⟨k0_X11_layerAt, (gw_6 (List.mem_of_getElem? (l := tables_1_6) (i := 116) (by decide +kernel)) rfl), (gw_6 (List.mem_of_getElem? (l := tables_1_6) (i := 118) (by decide +kernel)) rfl), (gw_0 (List.mem_of_getElem? (l := k2_sels lw_privs) (i := 6) (by decide +kernel)) rfl), by decide, TX11, rfl⟩
theorem k0_X11_part : CK0 m_X11_part 1 := ⟨(gw_1 (List.mem_of_getElem? (l := tables_1_1) (i := 11) (by decide +kernel)) rfl), (gw_6 (List.mem_of_getElem? (l := tables_1_6) (i := 123) (by decide +kernel)) rfl), ⟨by decide +kernel, by decide +kernel, by decide +kernel⟩, by decide⟩
theorem ck_RX11_146 : CKv RX11 146 m_X11_part 1 10 := ⟨k0_X11_part, (gw_6 (List.mem_of_getElem? (l := tables_1_6) (i := 120) (by decide +kernel)) rfl), (gw_6 (List.mem_of_getElem? (l := tables_1_6) (i := 122) (by decide +kernel)) rfl), (gw_0 (List.mem_of_getElem? (l := k2_sels lw_privs) (i := 7) (by decide +kernel)) rfl), by decide, TX11, rfl⟩
theorem k0_X11_slide : CK0 m_X11_slide 1 := ⟨(gw_1 (List.mem_of_getElem? (l := tables_1_1) (i := 11) (by decide +kernel)) rfl), (gw_6 (List.mem_of_getElem? (l := tables_1_6) (i := 128) (by decide +kernel)) rfl), ⟨by decide +kernel, by decide +kernel, by decide +kernel⟩, by decide⟩
theorem ck_RX11_150 : CKv RX11 150 m_X11_slide 1 10 := ⟨k0_X11_slide, (gw_6 (List.mem_of_getElem? (l := tables_1_6) (i := 125) (by decide +kernel)) rfl), (gw_6 (List.mem_of_getElem? (l := tables_1_6) (i := 127) (by decide +kernel)) rfl), (gw_0 (List.mem_of_getElem? (l := k2_sels lw_privs) (i := 8) (by decide +kernel)) rfl), by decide, TX11, rfl⟩
theorem k0_X11_bulkIn : CK0 m_X11_bulkIn 1 := ⟨(gw_1 (List.mem_of_getElem? (l := tables_1_1) (i := 11) (by decide +kernel)) rfl), (gw_6 (List.mem_of_getElem? (l := tables_1_6) (i := 132) (by decide +kernel)) rfl), ⟨by decide +kernel, by decide +kernel, by decide +kernel⟩, by decide⟩
theorem ck_RX11_137 : CKv RX11 137 m_X11_bulkIn 1 10 := ⟨k0_X11_bulkIn, (gw_6 (List.mem_of_getElem? (l := tables_1_6) (i := 129) (by decide +kernel)) rfl), (gw_6 (List.mem_of_getElem? (l := tables_1_6) (i := 131) (by decide +kernel)) rfl), (gw_0 (List.mem_of_getElem? (l := k2_sels lw_privs) (i := 9) (by decide +kernel)) rfl), by decide, TX11, rfl⟩
theorem k0_X11_areaOf : CK0 m_X11_areaOf 1 := ⟨(gw_1 (List.mem_of_getElem? (l := tables_1_1) (i := 11) (by decide +kernel)) rfl), (gw_6 (List.mem_of_getElem? (l := tables_1_6) (i := 135) (by decide +kernel)) rfl), ⟨by decide +kernel, by decide +kernel, by decide +kernel⟩, by decide⟩
theorem ck_RX11_140 : CKs RX11 140 m_X11_areaOf 1 := ⟨k0_X11_areaOf, (gw_6 (List.mem_of_getElem? (l := tables_1_6) (i := 133) (by decide +kernel)) rfl), (gw_6 (List.mem_of_getElem? (l := tables_1_6) (i := 134) (by decide +kernel)) rfl)⟩
theorem k0_X11_bulkOfLayer : CK0 m_X11_bulkOfLayer 1 := ⟨(gw_1 (List.mem_of_getElem? (l := tables_1_1) (i := 11) (by decide +kernel)) rfl), (gw_6 (List.mem_of_getElem? (l := tables_1_6) (i := 144) (by decide +kernel)) rfl), ⟨by decide +kernel, by decide +kernel, by decide +kernel⟩, by decide⟩
theorem ck_RX11_160 : CKv RX11 160 m_X11_bulkOfLayer 1 10 := ⟨k0_X11_bulkOfLayer, (gw_6 (List.mem_of_getElem? (l := tables_1_6) (i := 141) (by decide +kernel)) rfl), (gw_6 (List.mem_of_getElem? (l := tables_1_6) (i := 143) (by decide +kernel)) rfl), (gw_0 (List.mem_of_getElem? (l := k2_sels lw_privs) (i := 10) (by decide +kernel)) rfl), by decide, TX11, rfl⟩
theorem k0_X11_topOf : CK0 m_X11_topOf 1 := ⟨(gw_1 (List.mem_of_getElem? (l := tables_1_1) (i := 11) (by decide +kernel)) rfl), (gw_6 (List.mem_of_getElem? (l := tables_1_6) (i := 153) (by decide +kernel)) rfl), ⟨by decide +kernel, by decide +kernel, by decide +kernel⟩, by decide⟩
theorem ck_RX11_143 : CKv RX11 143 m_X11_topOf 1 10 := ⟨k0_X11_topOf, (gw_6 (List.mem_of_getElem? (l := tables_1_6) (i := 150) (by decide +kernel)) rfl), (gw_6 (List.mem_of_getElem? (l := tables_1_6) (i := 152) (by decide +kernel)) rfl), (gw_0 (List.mem_of_getElem? (l := k2_sels lw_privs) (i := 11) (by decide +kernel)) rfl), by decide, TX11, rfl⟩
theorem k0_X11_resistance : CK0 m_X11_resistance 1 := ⟨(gw_1 (List.mem_of_getElem? (l := tables_1_1) (i := 11) (by decide +kernel)) rfl), (gw_6 (List.mem_of_getElem? (l := tables_1_6) (i := 157) (by decide +kernel)) rfl), ⟨by decide +kernel, by decide +kernel, by decide +kernel⟩, by decide⟩
theorem ck_RX11_182 : CKv RX11 182 m_X11_resistance 1 10 := ⟨k0_X11_resistance, (gw_6 (List.mem_of_getElem? (l := tables_1_6) (i := 154) (by decide +kernel)) rfl), (gw_6 (List.mem_of_getElem? (l := tables_1_6) (i := 156) (by decide +kernel)) rfl), (gw_0 (List.mem_of_getElem? (l := k2_sels lw_privs) (i := 12) (by decide +kernel)) rfl), by decide, TX11, rfl⟩
theorem k0_X11_partGas : CK0 m_X11_partGas 0 := ⟨(gw_1 (List.mem_of_getElem? (l := tables_1_1) (i := 11) (by decide +kernel)) rfl), (gw_6 (List.mem_of_getElem? (l := tables_1_6) (i := 161) (by decide +kernel)) rfl), ⟨by decide +kernel, by decide +kernel, by decide +kernel⟩, by decide⟩
theorem ck_RX11_187 : CKv RX11 187 m_X11_partGas 0 10 := ⟨k0_X11_partGas, (gw_6 (List.mem_of_getElem? (l := tables_1_6) (i := 158) (by decide +kernel)) rfl), (gw_6 (List.mem_of_getElem? (l := tables_1_6) (i := 160) (by decide +kernel)) rfl), (gw_0 (List.mem_of_getElem? (l := k2_sels lw_privs) (i := 13) (by decide +kernel)) rfl), by decide, TX11, rfl⟩
theorem k0_X11_gasNow : CK0 m_X11_gasNow 0 := ⟨(gw_1 (List.mem_of_getElem? (l := tables_1_1) (i := 11) (by decide +kernel)) rfl), (gw_6 (List.mem_of_getElem? (l := tables_1_6) (i := 165) (by decide +kernel)) rfl), ⟨by decide +kernel, by decide +kernel, by decide +kernel⟩, by decide⟩
theorem ck_RX11_178 : CKv RX11 178 m_X11_gasNow 0 10 := ⟨k0_X11_gasNow, (gw_6 (List.mem_of_getElem? (l := tables_1_6) (i := 162) (by decide +kernel)) rfl), (gw_6 (List.mem_of_getElem? (l := tables_1_6) (i := 164) (by decide +kernel)) rfl), (gw_0 (List.mem_of_getElem? (l := k2_sels lw_privs) (i := 14) (by decide +kernel)) rfl), by decide, TX11, rfl⟩
theorem k0_X11_counts : CK0 m_X11_counts 1 := ⟨(gw_1 (List.mem_of_getElem? (l := tables_1_1) (i := 11) (by decide +kernel)) rfl), (gw_6 (List.mem_of_getElem? (l := tables_1_6) (i := 169) (by decide +kernel)) rfl), ⟨by decide +kernel, by decide +kernel, by decide +kernel⟩, by decide⟩
theorem ck_RX11_165 : CKv RX11 165 m_X11_counts 1 10 := ⟨k0_X11_counts, (gw_6 (List.mem_of_getElem? (l := tables_1_6) (i := 166) (by decide +kernel)) rfl), (gw_6 (List.mem_of_getElem? (l := tables_1_6) (i := 168) (by decide +kernel)) rfl), (gw_0 (List.mem_of_getElem? (l := k2_sels lw_privs) (i := 15) (by decide +kernel)) rfl), by decide, TX11, rfl⟩
theorem k0_X11_textAt : CK0 m_X11_textAt 1 := ⟨(gw_1 (List.mem_of_getElem? (l := tables_1_1) (i := 11) (by decide +kernel)) rfl), (gw_6 (List.mem_of_getElem? (l := tables_1_6) (i := 173) (by decide +kernel)) rfl), ⟨by decide +kernel, by decide +kernel, by decide +kernel⟩, by decide⟩
theorem ck_RX11_300 : CKv RX11 300 m_X11_textAt 1 10 := ⟨k0_X11_textAt, (gw_6 (List.mem_of_getElem? (l := tables_1_6) (i := 170) (by decide +kernel)) rfl), (gw_6 (List.mem_of_getElem? (l := tables_1_6) (i := 172) (by decide +kernel)) rfl), (gw_0 (List.mem_of_getElem? (l := k2_sels lw_privs) (i := 16) (by decide +kernel)) rfl), by decide, TX11, rfl⟩
theorem k0_X11_greatestTop : CK0 m_X11_greatestTop 0 := ⟨(gw_1 (List.mem_of_getElem? (l := tables_1_1) (i := 11) (by decide +kernel)) rfl), (gw_6 (List.mem_of_getElem? (l := tables_1_6) (i := 177) (by decide +kernel)) rfl), ⟨by decide +kernel, by decide +kernel, by decide +kernel⟩, by decide⟩
theorem ck_RX11_168 : CKv RX11 168 m_X11_greatestTop 0 10 := ⟨k0_X11_greatestTop, (gw_6 (List.mem_of_getElem? (l := tables_1_6) (i := 174) (by decide +kernel)) rfl), (gw_6 (List.mem_of_getElem? (l := tables_1_6) (i := 176) (by decide +kernel)) rfl), (gw_0 (List.mem_of_getElem? (l := k2_sels lw_privs) (i := 17) (by decide +kernel)) rfl), by decide, TX11, rfl⟩
theorem k0_X11_worked : CK0 m_X11_worked 1 := ⟨(gw_1 (List.mem_of_getElem? (l := tables_1_1) (i := 11) (by decide +kernel)) rfl), (gw_6 (List.mem_of_getElem? (l := tables_1_6) (i := 181) (by decide +kernel)) rfl), ⟨by decide +kernel, by decide +kernel, by decide +kernel⟩, by decide⟩
theorem ck_RX11_172 : CKv RX11 172 m_X11_worked 1 10 := ⟨k0_X11_worked, (gw_6 (List.mem_of_getElem? (l := tables_1_6) (i := 178) (by decide +kernel)) rfl), (gw_6 (List.mem_of_getElem? (l := tables_1_6) (i := 180) (by decide +kernel)) rfl), (gw_0 (List.mem_of_getElem? (l := k2_sels lw_privs) (i := 18) (by decide +kernel)) rfl), by decide, TX11, rfl⟩
theorem k0_X11_joined : CK0 m_X11_joined 3 := ⟨(gw_1 (List.mem_of_getElem? (l := tables_1_1) (i := 11) (by decide +kernel)) rfl), (gw_6 (List.mem_of_getElem? (l := tables_1_6) (i := 184) (by decide +kernel)) rfl), ⟨by decide +kernel, by decide +kernel, by decide +kernel⟩, by decide⟩
theorem ck_RX11_312 : CKs RX11 312 m_X11_joined 3 := ⟨k0_X11_joined, (gw_6 (List.mem_of_getElem? (l := tables_1_6) (i := 182) (by decide +kernel)) rfl), (gw_6 (List.mem_of_getElem? (l := tables_1_6) (i := 183) (by decide +kernel)) rfl)⟩
theorem k0_X11_heldIn : CK0 m_X11_heldIn 2 := ⟨(gw_1 (List.mem_of_getElem? (l := tables_1_1) (i := 11) (by decide +kernel)) rfl), (gw_6 (List.mem_of_getElem? (l := tables_1_6) (i := 187) (by decide +kernel)) rfl), ⟨by decide +kernel, by decide +kernel, by decide +kernel⟩, by decide⟩
theorem ck_RX11_175 : CKs RX11 175 m_X11_heldIn 2 := ⟨k0_X11_heldIn, (gw_6 (List.mem_of_getElem? (l := tables_1_6) (i := 185) (by decide +kernel)) rfl), (gw_6 (List.mem_of_getElem? (l := tables_1_6) (i := 186) (by decide +kernel)) rfl)⟩
theorem k0_X11_oneHour : CK0 m_X11_oneHour 0 := ⟨(gw_1 (List.mem_of_getElem? (l := tables_1_1) (i := 11) (by decide +kernel)) rfl), (gw_6 (List.mem_of_getElem? (l := tables_1_6) (i := 197) (by decide +kernel)) rfl), ⟨by decide +kernel, by decide +kernel, by decide +kernel⟩, by decide⟩
theorem ck_RX11_203 : CKv RX11 203 m_X11_oneHour 0 10 := ⟨k0_X11_oneHour, (gw_6 (List.mem_of_getElem? (l := tables_1_6) (i := 194) (by decide +kernel)) rfl), (gw_6 (List.mem_of_getElem? (l := tables_1_6) (i := 196) (by decide +kernel)) rfl), (gw_0 (List.mem_of_getElem? (l := k2_sels lw_privs) (i := 19) (by decide +kernel)) rfl), by decide, TX11, rfl⟩
theorem k0_X11_least : CK0 m_X11_least 2 := ⟨(gw_1 (List.mem_of_getElem? (l := tables_1_1) (i := 11) (by decide +kernel)) rfl), (gw_6 (List.mem_of_getElem? (l := tables_1_6) (i := 200) (by decide +kernel)) rfl), ⟨by decide +kernel, by decide +kernel, by decide +kernel⟩, by decide⟩
theorem ck_RX11_190 : CKs RX11 190 m_X11_least 2 := ⟨k0_X11_least, (gw_6 (List.mem_of_getElem? (l := tables_1_6) (i := 198) (by decide +kernel)) rfl), (gw_6 (List.mem_of_getElem? (l := tables_1_6) (i := 199) (by decide +kernel)) rfl)⟩
theorem k0_X11_goes : CK0 m_X11_goes 3 := ⟨(gw_1 (List.mem_of_getElem? (l := tables_1_1) (i := 11) (by decide +kernel)) rfl), (gw_6 (List.mem_of_getElem? (l := tables_1_6) (i := 204) (by decide +kernel)) rfl), ⟨by decide +kernel, by decide +kernel, by decide +kernel⟩, by decide⟩
theorem ck_RX11_193 : CKv RX11 193 m_X11_goes 3 10 := ⟨k0_X11_goes, (gw_6 (List.mem_of_getElem? (l := tables_1_6) (i := 201) (by decide +kernel)) rfl), (gw_6 (List.mem_of_getElem? (l := tables_1_6) (i := 203) (by decide +kernel)) rfl), (gw_0 (List.mem_of_getElem? (l := k2_sels lw_privs) (i := 20) (by decide +kernel)) rfl), by decide, TX11, rfl⟩
theorem k0_X11_basic : CK0 m_X11_basic 0 := ⟨(gw_1 (List.mem_of_getElem? (l := tables_1_1) (i := 11) (by decide +kernel)) rfl), (gw_6 (List.mem_of_getElem? (l := tables_1_6) (i := 212) (by decide +kernel)) rfl), ⟨by decide +kernel, by decide +kernel, by decide +kernel⟩, by decide⟩
theorem ck_RX11_206 : CKv RX11 206 m_X11_basic 0 10 := ⟨k0_X11_basic, (gw_6 (List.mem_of_getElem? (l := tables_1_6) (i := 209) (by decide +kernel)) rfl), (gw_6 (List.mem_of_getElem? (l := tables_1_6) (i := 211) (by decide +kernel)) rfl), (gw_0 (List.mem_of_getElem? (l := k2_sels lw_privs) (i := 21) (by decide +kernel)) rfl), by decide, TX11, rfl⟩
theorem k0_X11_castOut : CK0 m_X11_castOut 1 := ⟨(gw_1 (List.mem_of_getElem? (l := tables_1_1) (i := 11) (by decide +kernel)) rfl), (gw_6 (List.mem_of_getElem? (l := tables_1_6) (i := 225) (by decide +kernel)) rfl), ⟨by decide +kernel, by decide +kernel, by decide +kernel⟩, by decide⟩
theorem ck_RX11_209 : CKv RX11 209 m_X11_castOut 1 10 := ⟨k0_X11_castOut, (gw_6 (List.mem_of_getElem? (l := tables_1_6) (i := 222) (by decide +kernel)) rfl), (gw_6 (List.mem_of_getElem? (l := tables_1_6) (i := 224) (by decide +kernel)) rfl), (gw_0 (List.mem_of_getElem? (l := k2_sels lw_privs) (i := 22) (by decide +kernel)) rfl), by decide, TX11, rfl⟩
theorem k0_X11_setAside : CK0 m_X11_setAside 2 := ⟨(gw_1 (List.mem_of_getElem? (l := tables_1_1) (i := 11) (by decide +kernel)) rfl), (gw_6 (List.mem_of_getElem? (l := tables_1_6) (i := 233) (by decide +kernel)) rfl), ⟨by decide +kernel, by decide +kernel, by decide +kernel⟩, by decide⟩
theorem ck_RX11_212 : CKv RX11 212 m_X11_setAside 2 10 := ⟨k0_X11_setAside, (gw_6 (List.mem_of_getElem? (l := tables_1_6) (i := 230) (by decide +kernel)) rfl), (gw_6 (List.mem_of_getElem? (l := tables_1_6) (i := 232) (by decide +kernel)) rfl), (gw_0 (List.mem_of_getElem? (l := k2_sels lw_privs) (i := 23) (by decide +kernel)) rfl), by decide, TX11, rfl⟩
theorem k0_X11_orNone : CK0 m_X11_orNone 1 := ⟨(gw_1 (List.mem_of_getElem? (l := tables_1_1) (i := 11) (by decide +kernel)) rfl), (gw_6 (List.mem_of_getElem? (l := tables_1_6) (i := 236) (by decide +kernel)) rfl), ⟨by decide +kernel, by decide +kernel, by decide +kernel⟩, by decide⟩
theorem ck_RX11_216 : CKs RX11 216 m_X11_orNone 1 := ⟨k0_X11_orNone, (gw_6 (List.mem_of_getElem? (l := tables_1_6) (i := 234) (by decide +kernel)) rfl), (gw_6 (List.mem_of_getElem? (l := tables_1_6) (i := 235) (by decide +kernel)) rfl)⟩
theorem k0_X11_parse : CK0 m_X11_parse 0 := ⟨(gw_1 (List.mem_of_getElem? (l := tables_1_1) (i := 11) (by decide +kernel)) rfl), (gw_7 (List.mem_of_getElem? (l := tables_1_7) (i := 13) (by decide +kernel)) rfl), ⟨by decide +kernel, by decide +kernel, by decide +kernel⟩, by decide⟩
theorem ck_RX11_306 : CKv RX11 306 m_X11_parse 0 10 := ⟨k0_X11_parse, (gw_7 (List.mem_of_getElem? (l := tables_1_7) (i := 10) (by decide +kernel)) rfl), (gw_7 (List.mem_of_getElem? (l := tables_1_7) (i := 12) (by decide +kernel)) rfl), (gw_0 (List.mem_of_getElem? (l := k2_sels lw_privs) (i := 24) (by decide +kernel)) rfl), by decide, TX11, rfl⟩
theorem k0_X11_next : CK0 m_X11_next 0 := ⟨(gw_1 (List.mem_of_getElem? (l := tables_1_1) (i := 11) (by decide +kernel)) rfl), (gw_7 (List.mem_of_getElem? (l := tables_1_7) (i := 17) (by decide +kernel)) rfl), ⟨by decide +kernel, by decide +kernel, by decide +kernel⟩, by decide⟩
theorem ck_RX11_255 : CKv RX11 255 m_X11_next 0 10 := ⟨k0_X11_next, (gw_7 (List.mem_of_getElem? (l := tables_1_7) (i := 14) (by decide +kernel)) rfl), (gw_7 (List.mem_of_getElem? (l := tables_1_7) (i := 16) (by decide +kernel)) rfl), (gw_0 (List.mem_of_getElem? (l := k2_sels lw_privs) (i := 25) (by decide +kernel)) rfl), by decide, TX11, rfl⟩
theorem k0_X11_isLetter : CK0 m_X11_isLetter 1 := ⟨(gw_1 (List.mem_of_getElem? (l := tables_1_1) (i := 11) (by decide +kernel)) rfl), (gw_7 (List.mem_of_getElem? (l := tables_1_7) (i := 21) (by decide +kernel)) rfl), ⟨by decide +kernel, by decide +kernel, by decide +kernel⟩, by decide⟩
theorem ck_RX11_239 : CKv RX11 239 m_X11_isLetter 1 10 := ⟨k0_X11_isLetter, (gw_7 (List.mem_of_getElem? (l := tables_1_7) (i := 18) (by decide +kernel)) rfl), (gw_7 (List.mem_of_getElem? (l := tables_1_7) (i := 20) (by decide +kernel)) rfl), (gw_0 (List.mem_of_getElem? (l := k2_sels lw_privs) (i := 26) (by decide +kernel)) rfl), by decide, TX11, rfl⟩
theorem k0_X11_isDigit : CK0 m_X11_isDigit 1 := ⟨(gw_1 (List.mem_of_getElem? (l := tables_1_1) (i := 11) (by decide +kernel)) rfl), (gw_7 (List.mem_of_getElem? (l := tables_1_7) (i := 27) (by decide +kernel)) rfl), ⟨by decide +kernel, by decide +kernel, by decide +kernel⟩, by decide⟩
theorem ck_RX11_245 : CKv RX11 245 m_X11_isDigit 1 10 := ⟨k0_X11_isDigit, (gw_7 (List.mem_of_getElem? (l := tables_1_7) (i := 24) (by decide +kernel)) rfl), (gw_7 (List.mem_of_getElem? (l := tables_1_7) (i := 26) (by decide +kernel)) rfl), (gw_0 (List.mem_of_getElem? (l := k2_sels lw_privs) (i := 27) (by decide +kernel)) rfl), by decide, TX11, rfl⟩
theorem k0_X11_key : CK0 m_X11_key 0 := ⟨(gw_1 (List.mem_of_getElem? (l := tables_1_1) (i := 11) (by decide +kernel)) rfl), (gw_7 (List.mem_of_getElem? (l := tables_1_7) (i := 33) (by decide +kernel)) rfl), ⟨by decide +kernel, by decide +kernel, by decide +kernel⟩, by decide⟩
theorem ck_RX11_303 : CKv RX11 303 m_X11_key 0 10 := ⟨k0_X11_key, (gw_7 (List.mem_of_getElem? (l := tables_1_7) (i := 30) (by decide +kernel)) rfl), (gw_7 (List.mem_of_getElem? (l := tables_1_7) (i := 32) (by decide +kernel)) rfl), (gw_0 (List.mem_of_getElem? (l := k2_sels lw_privs) (i := 28) (by decide +kernel)) rfl), by decide, TX11, rfl⟩
theorem k0_X11_isWordAt : CK0 m_X11_isWordAt 4 := ⟨(gw_1 (List.mem_of_getElem? (l := tables_1_1) (i := 11) (by decide +kernel)) rfl), (gw_7 (List.mem_of_getElem? (l := tables_1_7) (i := 37) (by decide +kernel)) rfl), ⟨by decide +kernel, by decide +kernel, by decide +kernel⟩, by decide⟩
theorem ck_RX11_251 : CKv RX11 251 m_X11_isWordAt 4 10 := ⟨k0_X11_isWordAt, (gw_7 (List.mem_of_getElem? (l := tables_1_7) (i := 34) (by decide +kernel)) rfl), (gw_7 (List.mem_of_getElem? (l := tables_1_7) (i := 36) (by decide +kernel)) rfl), (gw_0 (List.mem_of_getElem? (l := k2_sels lw_privs) (i := 29) (by decide +kernel)) rfl), by decide, TX11, rfl⟩
theorem k0_X11_either : CK0 m_X11_either 1 := ⟨(gw_1 (List.mem_of_getElem? (l := tables_1_1) (i := 11) (by decide +kernel)) rfl), (gw_7 (List.mem_of_getElem? (l := tables_1_7) (i := 41) (by decide +kernel)) rfl), ⟨by decide +kernel, by decide +kernel, by decide +kernel⟩, by decide⟩
theorem ck_RX11_297 : CKv RX11 297 m_X11_either 1 10 := ⟨k0_X11_either, (gw_7 (List.mem_of_getElem? (l := tables_1_7) (i := 38) (by decide +kernel)) rfl), (gw_7 (List.mem_of_getElem? (l := tables_1_7) (i := 40) (by decide +kernel)) rfl), (gw_0 (List.mem_of_getElem? (l := k2_sels lw_privs) (i := 30) (by decide +kernel)) rfl), by decide, TX11, rfl⟩
theorem k0_X11_both : CK0 m_X11_both 1 := ⟨(gw_1 (List.mem_of_getElem? (l := tables_1_1) (i := 11) (by decide +kernel)) rfl), (gw_7 (List.mem_of_getElem? (l := tables_1_7) (i := 45) (by decide +kernel)) rfl), ⟨by decide +kernel, by decide +kernel, by decide +kernel⟩, by decide⟩
theorem ck_RX11_264 : CKv RX11 264 m_X11_both 1 10 := ⟨k0_X11_both, (gw_7 (List.mem_of_getElem? (l := tables_1_7) (i := 42) (by decide +kernel)) rfl), (gw_7 (List.mem_of_getElem? (l := tables_1_7) (i := 44) (by decide +kernel)) rfl), (gw_0 (List.mem_of_getElem? (l := k2_sels lw_privs) (i := 31) (by decide +kernel)) rfl), by decide, TX11, rfl⟩
theorem k0_X11_test : CK0 m_X11_test 1 := ⟨(gw_1 (List.mem_of_getElem? (l := tables_1_1) (i := 11) (by decide +kernel)) rfl), (gw_7 (List.mem_of_getElem? (l := tables_1_7) (i := 49) (by decide +kernel)) rfl), ⟨by decide +kernel, by decide +kernel, by decide +kernel⟩, by decide⟩
theorem ck_RX11_273 : CKv RX11 273 m_X11_test 1 10 := ⟨k0_X11_test, (gw_7 (List.mem_of_getElem? (l := tables_1_7) (i := 46) (by decide +kernel)) rfl), (gw_7 (List.mem_of_getElem? (l := tables_1_7) (i := 48) (by decide +kernel)) rfl), (gw_0 (List.mem_of_getElem? (l := k2_sels lw_privs) (i := 32) (by decide +kernel)) rfl), by decide, TX11, rfl⟩
theorem k0_X11_sum : CK0 m_X11_sum 1 := ⟨(gw_1 (List.mem_of_getElem? (l := tables_1_1) (i := 11) (by decide +kernel)) rfl), (gw_7 (List.mem_of_getElem? (l := tables_1_7) (i := 53) (by decide +kernel)) rfl), ⟨by decide +kernel, by decide +kernel, by decide +kernel⟩, by decide⟩
theorem ck_RX11_276 : CKv RX11 276 m_X11_sum 1 10 := ⟨k0_X11_sum, (gw_7 (List.mem_of_getElem? (l := tables_1_7) (i := 50) (by decide +kernel)) rfl), (gw_7 (List.mem_of_getElem? (l := tables_1_7) (i := 52) (by decide +kernel)) rfl), (gw_0 (List.mem_of_getElem? (l := k2_sels lw_privs) (i := 33) (by decide +kernel)) rfl), by decide, TX11, rfl⟩
theorem k0_X11_term : CK0 m_X11_term 1 := ⟨(gw_1 (List.mem_of_getElem? (l := tables_1_1) (i := 11) (by decide +kernel)) rfl), (gw_7 (List.mem_of_getElem? (l := tables_1_7) (i := 57) (by decide +kernel)) rfl), ⟨by decide +kernel, by decide +kernel, by decide +kernel⟩, by decide⟩
theorem ck_RX11_279 : CKv RX11 279 m_X11_term 1 10 := ⟨k0_X11_term, (gw_7 (List.mem_of_getElem? (l := tables_1_7) (i := 54) (by decide +kernel)) rfl), (gw_7 (List.mem_of_getElem? (l := tables_1_7) (i := 56) (by decide +kernel)) rfl), (gw_0 (List.mem_of_getElem? (l := k2_sels lw_privs) (i := 34) (by decide +kernel)) rfl), by decide, TX11, rfl⟩
theorem k0_X11_part0 : CK0 m_X11_part0 1 := ⟨(gw_1 (List.mem_of_getElem? (l := tables_1_1) (i := 11) (by decide +kernel)) rfl), (gw_7 (List.mem_of_getElem? (l := tables_1_7) (i := 61) (by decide +kernel)) rfl), ⟨by decide +kernel, by decide +kernel, by decide +kernel⟩, by decide⟩
theorem ck_RX11_282 : CKv RX11 282 m_X11_part0 1 10 := ⟨k0_X11_part0, (gw_7 (List.mem_of_getElem? (l := tables_1_7) (i := 58) (by decide +kernel)) rfl), (gw_7 (List.mem_of_getElem? (l := tables_1_7) (i := 60) (by decide +kernel)) rfl), (gw_0 (List.mem_of_getElem? (l := k2_sels lw_privs) (i := 35) (by decide +kernel)) rfl), by decide, TX11, rfl⟩
theorem k0_X11_step : CK0 m_X11_step 2 := ⟨(gw_1 (List.mem_of_getElem? (l := tables_1_1) (i := 11) (by decide +kernel)) rfl), (gw_7 (List.mem_of_getElem? (l := tables_1_7) (i := 65) (by decide +kernel)) rfl), ⟨by decide +kernel, by decide +kernel, by decide +kernel⟩, by decide⟩
theorem ck_RX11_270 : CKv RX11 270 m_X11_step 2 10 := ⟨k0_X11_step, (gw_7 (List.mem_of_getElem? (l := tables_1_7) (i := 62) (by decide +kernel)) rfl), (gw_7 (List.mem_of_getElem? (l := tables_1_7) (i := 64) (by decide +kernel)) rfl), (gw_0 (List.mem_of_getElem? (l := k2_sels lw_privs) (i := 36) (by decide +kernel)) rfl), by decide, TX11, rfl⟩
theorem k0_X11_isName : CK0 m_X11_isName 2 := ⟨(gw_1 (List.mem_of_getElem? (l := tables_1_1) (i := 11) (by decide +kernel)) rfl), (gw_7 (List.mem_of_getElem? (l := tables_1_7) (i := 68) (by decide +kernel)) rfl), ⟨by decide +kernel, by decide +kernel, by decide +kernel⟩, by decide⟩
theorem ck_RX11_288 : CKs RX11 288 m_X11_isName 2 := ⟨k0_X11_isName, (gw_7 (List.mem_of_getElem? (l := tables_1_7) (i := 66) (by decide +kernel)) rfl), (gw_7 (List.mem_of_getElem? (l := tables_1_7) (i := 67) (by decide +kernel)) rfl)⟩
theorem k0_X11_isSign : CK0 m_X11_isSign 1 := ⟨(gw_1 (List.mem_of_getElem? (l := tables_1_1) (i := 11) (by decide +kernel)) rfl), (gw_7 (List.mem_of_getElem? (l := tables_1_7) (i := 72) (by decide +kernel)) rfl), ⟨by decide +kernel, by decide +kernel, by decide +kernel⟩, by decide⟩
theorem ck_RX11_267 : CKv RX11 267 m_X11_isSign 1 10 := ⟨k0_X11_isSign, (gw_7 (List.mem_of_getElem? (l := tables_1_7) (i := 69) (by decide +kernel)) rfl), (gw_7 (List.mem_of_getElem? (l := tables_1_7) (i := 71) (by decide +kernel)) rfl), (gw_0 (List.mem_of_getElem? (l := k2_sels lw_privs) (i := 37) (by decide +kernel)) rfl), by decide, TX11, rfl⟩
theorem k0_X11_isText : CK0 m_X11_isText 1 := ⟨(gw_1 (List.mem_of_getElem? (l := tables_1_1) (i := 11) (by decide +kernel)) rfl), (gw_7 (List.mem_of_getElem? (l := tables_1_7) (i := 80) (by decide +kernel)) rfl), ⟨by decide +kernel, by decide +kernel, by decide +kernel⟩, by decide⟩
theorem ck_RX11_309 : CKv RX11 309 m_X11_isText 1 10 := ⟨k0_X11_isText, (gw_7 (List.mem_of_getElem? (l := tables_1_7) (i := 77) (by decide +kernel)) rfl), (gw_7 (List.mem_of_getElem? (l := tables_1_7) (i := 79) (by decide +kernel)) rfl), (gw_0 (List.mem_of_getElem? (l := k2_sels lw_privs) (i := 38) (by decide +kernel)) rfl), by decide, TX11, rfl⟩
theorem k0_X11_ofBurden : CK0 m_X11_ofBurden 2 := ⟨(gw_1 (List.mem_of_getElem? (l := tables_1_1) (i := 11) (by decide +kernel)) rfl), (gw_7 (List.mem_of_getElem? (l := tables_1_7) (i := 101) (by decide +kernel)) rfl), ⟨by decide +kernel, by decide +kernel, by decide +kernel⟩, by decide⟩
theorem ck_RX11_317 : CKv RX11 317 m_X11_ofBurden 2 10 := ⟨k0_X11_ofBurden, (gw_7 (List.mem_of_getElem? (l := tables_1_7) (i := 98) (by decide +kernel)) rfl), (gw_7 (List.mem_of_getElem? (l := tables_1_7) (i := 100) (by decide +kernel)) rfl), (gw_0 (List.mem_of_getElem? (l := k2_sels lw_privs) (i := 39) (by decide +kernel)) rfl), by decide, TX11, rfl⟩
theorem k0_X11_ladleAt : CK0 m_X11_ladleAt 1 := ⟨(gw_1 (List.mem_of_getElem? (l := tables_1_1) (i := 11) (by decide +kernel)) rfl), (gw_7 (List.mem_of_getElem? (l := tables_1_7) (i := 109) (by decide +kernel)) rfl), ⟨by decide +kernel, by decide +kernel, by decide +kernel⟩, by decide⟩
theorem ck_RX11_320 : CKv RX11 320 m_X11_ladleAt 1 10 := ⟨k0_X11_ladleAt, (gw_7 (List.mem_of_getElem? (l := tables_1_7) (i := 106) (by decide +kernel)) rfl), (gw_7 (List.mem_of_getElem? (l := tables_1_7) (i := 108) (by decide +kernel)) rfl), (gw_0 (List.mem_of_getElem? (l := k2_sels lw_privs) (i := 40) (by decide +kernel)) rfl), by decide, TX11, rfl⟩
theorem k0_X11_isSheet : CK0 m_X11_isSheet 1 := ⟨(gw_1 (List.mem_of_getElem? (l := tables_1_1) (i := 11) (by decide +kernel)) rfl), (gw_7 (List.mem_of_getElem? (l := tables_1_7) (i := 125) (by decide +kernel)) rfl), ⟨by decide +kernel, by decide +kernel, by decide +kernel⟩, by decide⟩
theorem ck_RX11_324 : CKs RX11 324 m_X11_isSheet 1 := ⟨k0_X11_isSheet, (gw_7 (List.mem_of_getElem? (l := tables_1_7) (i := 123) (by decide +kernel)) rfl), (gw_7 (List.mem_of_getElem? (l := tables_1_7) (i := 124) (by decide +kernel)) rfl)⟩
theorem k0_X11_isSlot : CK0 m_X11_isSlot 1 := ⟨(gw_1 (List.mem_of_getElem? (l := tables_1_1) (i := 11) (by decide +kernel)) rfl), (gw_7 (List.mem_of_getElem? (l := tables_1_7) (i := 152) (by decide +kernel)) rfl), ⟨by decide +kernel, by decide +kernel, by decide +kernel⟩, by decide⟩
theorem ck_RX11_332 : CKs RX11 332 m_X11_isSlot 1 := ⟨k0_X11_isSlot, (gw_7 (List.mem_of_getElem? (l := tables_1_7) (i := 150) (by decide +kernel)) rfl), (gw_7 (List.mem_of_getElem? (l := tables_1_7) (i := 151) (by decide +kernel)) rfl)⟩
theorem k0_X11_allBulk : CK0 m_X11_allBulk 0 := ⟨(gw_1 (List.mem_of_getElem? (l := tables_1_1) (i := 11) (by decide +kernel)) rfl), (gw_7 (List.mem_of_getElem? (l := tables_1_7) (i := 177) (by decide +kernel)) rfl), ⟨by decide +kernel, by decide +kernel, by decide +kernel⟩, by decide⟩
theorem ck_RX11_344 : CKv RX11 344 m_X11_allBulk 0 10 := ⟨k0_X11_allBulk, (gw_7 (List.mem_of_getElem? (l := tables_1_7) (i := 174) (by decide +kernel)) rfl), (gw_7 (List.mem_of_getElem? (l := tables_1_7) (i := 176) (by decide +kernel)) rfl), (gw_0 (List.mem_of_getElem? (l := k2_sels lw_privs) (i := 41) (by decide +kernel)) rfl), by decide, TX11, rfl⟩
theorem mi_Math : Cond.initialized "java/lang/Math" ∈ GW := (gw_1 (List.mem_of_getElem? (l := tables_1_1) (i := 13) (by decide +kernel)) rfl)
theorem oi_2 : Cond.instanceMethod Lib.objectInit ∈ GW := (gw_1 (List.mem_of_getElem? (l := tables_1_1) (i := 26) (by decide +kernel)) rfl)
theorem oi_3 : Cond.code Lib.objectInit ⟨#[0xb1]⟩ 1 none ∈ GW := (gw_1 (List.mem_of_getElem? (l := tables_1_1) (i := 27) (by decide +kernel)) rfl)
theorem oi_RX10_1 : Cond.methodLink RX10 1 Lib.objectInit ∈ GW := (gw_1 (List.mem_of_getElem? (l := tables_1_1) (i := 25) (by decide +kernel)) rfl)
theorem oi_RX2_3 : Cond.methodLink RX2 3 Lib.objectInit ∈ GW := (gw_1 (List.mem_of_getElem? (l := tables_1_1) (i := 33) (by decide +kernel)) rfl)
theorem oi_RX0_3 : Cond.methodLink RX0 3 Lib.objectInit ∈ GW := (gw_1 (List.mem_of_getElem? (l := tables_1_1) (i := 39) (by decide +kernel)) rfl)
theorem oi_RX1_3 : Cond.methodLink RX1 3 Lib.objectInit ∈ GW := (gw_1 (List.mem_of_getElem? (l := tables_1_1) (i := 83) (by decide +kernel)) rfl)
theorem oi_RX4_3 : Cond.methodLink RX4 3 Lib.objectInit ∈ GW := (gw_1 (List.mem_of_getElem? (l := tables_1_1) (i := 90) (by decide +kernel)) rfl)
theorem oi_RX9_3 : Cond.methodLink RX9 3 Lib.objectInit ∈ GW := (gw_1 (List.mem_of_getElem? (l := tables_1_1) (i := 183) (by decide +kernel)) rfl)
theorem oi_RX3_3 : Cond.methodLink RX3 3 Lib.objectInit ∈ GW := (gw_1 (List.mem_of_getElem? (l := tables_1_1) (i := 220) (by decide +kernel)) rfl)
theorem oi_RX8_3 : Cond.methodLink RX8 3 Lib.objectInit ∈ GW := (gw_2 (List.mem_of_getElem? (l := tables_1_2) (i := 25) (by decide +kernel)) rfl)
theorem oi_RX5_3 : Cond.methodLink RX5 3 Lib.objectInit ∈ GW := (gw_2 (List.mem_of_getElem? (l := tables_1_2) (i := 87) (by decide +kernel)) rfl)
theorem oi_RX6_3 : Cond.methodLink RX6 3 Lib.objectInit ∈ GW := (gw_2 (List.mem_of_getElem? (l := tables_1_2) (i := 112) (by decide +kernel)) rfl)
theorem oi_RX11_1 : Cond.methodLink RX11 1 Lib.objectInit ∈ GW := (gw_5 (List.mem_of_getElem? (l := tables_1_5) (i := 159) (by decide +kernel)) rfl)
end
