section
-- begun from the claim's printed names and the skeleton's PART A (starting texts)
-- ===== PART A: goes FIRST, ahead of the names: the tables' words, and 'selects' of the private methods out of them =====
/-- a private method of a class that the tables say can be made, by its rows of tables_1 -/
def lw_okq (q : MethodName × Nat) : Prop := (q.1.cls ≠ "java/lang/invoke/MethodHandle" ∧ q.1.cls ≠ "java/lang/invoke/VarHandle") ∧ Cond.instantiable q.1.cls q.2 ∈ tables_1 ∧ Cond.privateMethod q.1 ∈ tables_1 ∧ Cond.instanceMethod q.1 ∈ tables_1
theorem lw_p0 : lw_okq (⟨"BurdenHouse", "isTold", "(III)Z"⟩, 9) := ⟨⟨by decide +kernel, by decide +kernel⟩, List.mem_of_getElem? (i := 21) (by decide +kernel), List.mem_of_getElem? (i := 1075) (by decide +kernel), List.mem_of_getElem? (i := 1076) (by decide +kernel)⟩
theorem lw_p1 : lw_okq (⟨"BurdenHouseModel", "binAt", "(I)I"⟩, 36) := ⟨⟨by decide +kernel, by decide +kernel⟩, List.mem_of_getElem? (i := 1115) (by decide +kernel), List.mem_of_getElem? (i := 1241) (by decide +kernel), List.mem_of_getElem? (i := 1242) (by decide +kernel)⟩
theorem lw_p2 : lw_okq (⟨"BurdenHouseModel", "isBin", "(I)Z"⟩, 36) := ⟨⟨by decide +kernel, by decide +kernel⟩, List.mem_of_getElem? (i := 1115) (by decide +kernel), List.mem_of_getElem? (i := 1249) (by decide +kernel), List.mem_of_getElem? (i := 1250) (by decide +kernel)⟩
theorem lw_p3 : lw_okq (⟨"BurdenHouseModel", "brings", "(III)I"⟩, 36) := ⟨⟨by decide +kernel, by decide +kernel⟩, List.mem_of_getElem? (i := 1115) (by decide +kernel), List.mem_of_getElem? (i := 1265) (by decide +kernel), List.mem_of_getElem? (i := 1266) (by decide +kernel)⟩
theorem lw_p4 : lw_okq (⟨"BurdenHouseModel", "becomes", "(II)I"⟩, 36) := ⟨⟨by decide +kernel, by decide +kernel⟩, List.mem_of_getElem? (i := 1115) (by decide +kernel), List.mem_of_getElem? (i := 1295) (by decide +kernel), List.mem_of_getElem? (i := 1296) (by decide +kernel)⟩
theorem lw_p5 : lw_okq (⟨"BurdenHouseModel", "comes", "(II)V"⟩, 36) := ⟨⟨by decide +kernel, by decide +kernel⟩, List.mem_of_getElem? (i := 1115) (by decide +kernel), List.mem_of_getElem? (i := 1313) (by decide +kernel), List.mem_of_getElem? (i := 1314) (by decide +kernel)⟩
theorem lw_p6 : lw_okq (⟨"BurdenHouseModel", "layerAt", "(I)I"⟩, 36) := ⟨⟨by decide +kernel, by decide +kernel⟩, List.mem_of_getElem? (i := 1115) (by decide +kernel), List.mem_of_getElem? (i := 1317) (by decide +kernel), List.mem_of_getElem? (i := 1318) (by decide +kernel)⟩
theorem lw_p7 : lw_okq (⟨"BurdenHouseModel", "part", "(I)V"⟩, 36) := ⟨⟨by decide +kernel, by decide +kernel⟩, List.mem_of_getElem? (i := 1115) (by decide +kernel), List.mem_of_getElem? (i := 1321) (by decide +kernel), List.mem_of_getElem? (i := 1322) (by decide +kernel)⟩
theorem lw_p8 : lw_okq (⟨"BurdenHouseModel", "slide", "(I)V"⟩, 36) := ⟨⟨by decide +kernel, by decide +kernel⟩, List.mem_of_getElem? (i := 1115) (by decide +kernel), List.mem_of_getElem? (i := 1326) (by decide +kernel), List.mem_of_getElem? (i := 1327) (by decide +kernel)⟩
theorem lw_p9 : lw_okq (⟨"BurdenHouseModel", "bulkIn", "(I)I"⟩, 36) := ⟨⟨by decide +kernel, by decide +kernel⟩, List.mem_of_getElem? (i := 1115) (by decide +kernel), List.mem_of_getElem? (i := 1330) (by decide +kernel), List.mem_of_getElem? (i := 1331) (by decide +kernel)⟩
theorem lw_p10 : lw_okq (⟨"BurdenHouseModel", "bulkOfLayer", "(I)I"⟩, 36) := ⟨⟨by decide +kernel, by decide +kernel⟩, List.mem_of_getElem? (i := 1115) (by decide +kernel), List.mem_of_getElem? (i := 1342) (by decide +kernel), List.mem_of_getElem? (i := 1343) (by decide +kernel)⟩
theorem lw_p11 : lw_okq (⟨"BurdenHouseModel", "topOf", "(I)I"⟩, 36) := ⟨⟨by decide +kernel, by decide +kernel⟩, List.mem_of_getElem? (i := 1115) (by decide +kernel), List.mem_of_getElem? (i := 1351) (by decide +kernel), List.mem_of_getElem? (i := 1352) (by decide +kernel)⟩
theorem lw_p12 : lw_okq (⟨"BurdenHouseModel", "resistance", "(I)I"⟩, 36) := ⟨⟨by decide +kernel, by decide +kernel⟩, List.mem_of_getElem? (i := 1115) (by decide +kernel), List.mem_of_getElem? (i := 1355) (by decide +kernel), List.mem_of_getElem? (i := 1356) (by decide +kernel)⟩
theorem lw_p13 : lw_okq (⟨"BurdenHouseModel", "partGas", "()V"⟩, 36) := ⟨⟨by decide +kernel, by decide +kernel⟩, List.mem_of_getElem? (i := 1115) (by decide +kernel), List.mem_of_getElem? (i := 1359) (by decide +kernel), List.mem_of_getElem? (i := 1360) (by decide +kernel)⟩
theorem lw_p14 : lw_okq (⟨"BurdenHouseModel", "gasNow", "()I"⟩, 36) := ⟨⟨by decide +kernel, by decide +kernel⟩, List.mem_of_getElem? (i := 1115) (by decide +kernel), List.mem_of_getElem? (i := 1363) (by decide +kernel), List.mem_of_getElem? (i := 1364) (by decide +kernel)⟩
theorem lw_p15 : lw_okq (⟨"BurdenHouseModel", "counts", "(I)I"⟩, 36) := ⟨⟨by decide +kernel, by decide +kernel⟩, List.mem_of_getElem? (i := 1115) (by decide +kernel), List.mem_of_getElem? (i := 1367) (by decide +kernel), List.mem_of_getElem? (i := 1368) (by decide +kernel)⟩
def lw_privs_1 : List (MethodName × Nat) := [(⟨"BurdenHouse", "isTold", "(III)Z"⟩, 9), (⟨"BurdenHouseModel", "binAt", "(I)I"⟩, 36), (⟨"BurdenHouseModel", "isBin", "(I)Z"⟩, 36), (⟨"BurdenHouseModel", "brings", "(III)I"⟩, 36), (⟨"BurdenHouseModel", "becomes", "(II)I"⟩, 36), (⟨"BurdenHouseModel", "comes", "(II)V"⟩, 36), (⟨"BurdenHouseModel", "layerAt", "(I)I"⟩, 36), (⟨"BurdenHouseModel", "part", "(I)V"⟩, 36), (⟨"BurdenHouseModel", "slide", "(I)V"⟩, 36), (⟨"BurdenHouseModel", "bulkIn", "(I)I"⟩, 36), (⟨"BurdenHouseModel", "bulkOfLayer", "(I)I"⟩, 36), (⟨"BurdenHouseModel", "topOf", "(I)I"⟩, 36), (⟨"BurdenHouseModel", "resistance", "(I)I"⟩, 36), (⟨"BurdenHouseModel", "partGas", "()V"⟩, 36), (⟨"BurdenHouseModel", "gasNow", "()I"⟩, 36), (⟨"BurdenHouseModel", "counts", "(I)I"⟩, 36)]
theorem lw_r1 : ∀ q ∈ lw_privs_1, lw_okq q := List.forall_mem_cons.mpr ⟨lw_p0, List.forall_mem_cons.mpr ⟨lw_p1, List.forall_mem_cons.mpr ⟨lw_p2, List.forall_mem_cons.mpr ⟨lw_p3, List.forall_mem_cons.mpr ⟨lw_p4, List.forall_mem_cons.mpr ⟨lw_p5, List.forall_mem_cons.mpr ⟨lw_p6, List.forall_mem_cons.mpr ⟨lw_p7, List.forall_mem_cons.mpr ⟨lw_p8, List.forall_mem_cons.mpr ⟨lw_p9, List.forall_mem_cons.mpr ⟨lw_p10, List.forall_mem_cons.mpr ⟨lw_p11, List.forall_mem_cons.mpr ⟨lw_p12, List.forall_mem_cons.mpr ⟨lw_p13, List.forall_mem_cons.mpr ⟨lw_p14, List.forall_mem_cons.mpr ⟨lw_p15, fun _ h => absurd h List.not_mem_nil⟩⟩⟩⟩⟩⟩⟩⟩⟩⟩⟩⟩⟩⟩⟩⟩
theorem lw_p16 : lw_okq (⟨"BurdenHouseModel", "textAt", "(I)I"⟩, 36) := ⟨⟨by decide +kernel, by decide +kernel⟩, List.mem_of_getElem? (i := 1115) (by decide +kernel), List.mem_of_getElem? (i := 1371) (by decide +kernel), List.mem_of_getElem? (i := 1372) (by decide +kernel)⟩
theorem lw_p17 : lw_okq (⟨"BurdenHouseModel", "greatestTop", "()I"⟩, 36) := ⟨⟨by decide +kernel, by decide +kernel⟩, List.mem_of_getElem? (i := 1115) (by decide +kernel), List.mem_of_getElem? (i := 1375) (by decide +kernel), List.mem_of_getElem? (i := 1376) (by decide +kernel)⟩
theorem lw_p18 : lw_okq (⟨"BurdenHouseModel", "worked", "(I)I"⟩, 36) := ⟨⟨by decide +kernel, by decide +kernel⟩, List.mem_of_getElem? (i := 1115) (by decide +kernel), List.mem_of_getElem? (i := 1379) (by decide +kernel), List.mem_of_getElem? (i := 1380) (by decide +kernel)⟩
theorem lw_p19 : lw_okq (⟨"BurdenHouseModel", "oneHour", "()V"⟩, 36) := ⟨⟨by decide +kernel, by decide +kernel⟩, List.mem_of_getElem? (i := 1115) (by decide +kernel), List.mem_of_getElem? (i := 1395) (by decide +kernel), List.mem_of_getElem? (i := 1396) (by decide +kernel)⟩
theorem lw_p20 : lw_okq (⟨"BurdenHouseModel", "goes", "(III)V"⟩, 36) := ⟨⟨by decide +kernel, by decide +kernel⟩, List.mem_of_getElem? (i := 1115) (by decide +kernel), List.mem_of_getElem? (i := 1402) (by decide +kernel), List.mem_of_getElem? (i := 1403) (by decide +kernel)⟩
theorem lw_p21 : lw_okq (⟨"BurdenHouseModel", "basic", "()I"⟩, 36) := ⟨⟨by decide +kernel, by decide +kernel⟩, List.mem_of_getElem? (i := 1115) (by decide +kernel), List.mem_of_getElem? (i := 1410) (by decide +kernel), List.mem_of_getElem? (i := 1411) (by decide +kernel)⟩
theorem lw_p22 : lw_okq (⟨"BurdenHouseModel", "castOut", "(I)V"⟩, 36) := ⟨⟨by decide +kernel, by decide +kernel⟩, List.mem_of_getElem? (i := 1115) (by decide +kernel), List.mem_of_getElem? (i := 1423) (by decide +kernel), List.mem_of_getElem? (i := 1424) (by decide +kernel)⟩
theorem lw_p23 : lw_okq (⟨"BurdenHouseModel", "setAside", "([I[I)V"⟩, 36) := ⟨⟨by decide +kernel, by decide +kernel⟩, List.mem_of_getElem? (i := 1115) (by decide +kernel), List.mem_of_getElem? (i := 1431) (by decide +kernel), List.mem_of_getElem? (i := 1432) (by decide +kernel)⟩
theorem lw_p24 : lw_okq (⟨"BurdenHouseModel", "parse", "()I"⟩, 36) := ⟨⟨by decide +kernel, by decide +kernel⟩, List.mem_of_getElem? (i := 1115) (by decide +kernel), List.mem_of_getElem? (i := 1451) (by decide +kernel), List.mem_of_getElem? (i := 1452) (by decide +kernel)⟩
theorem lw_p25 : lw_okq (⟨"BurdenHouseModel", "next", "()V"⟩, 36) := ⟨⟨by decide +kernel, by decide +kernel⟩, List.mem_of_getElem? (i := 1115) (by decide +kernel), List.mem_of_getElem? (i := 1455) (by decide +kernel), List.mem_of_getElem? (i := 1456) (by decide +kernel)⟩
theorem lw_p26 : lw_okq (⟨"BurdenHouseModel", "isLetter", "(I)Z"⟩, 36) := ⟨⟨by decide +kernel, by decide +kernel⟩, List.mem_of_getElem? (i := 1115) (by decide +kernel), List.mem_of_getElem? (i := 1459) (by decide +kernel), List.mem_of_getElem? (i := 1460) (by decide +kernel)⟩
theorem lw_p27 : lw_okq (⟨"BurdenHouseModel", "isDigit", "(I)Z"⟩, 36) := ⟨⟨by decide +kernel, by decide +kernel⟩, List.mem_of_getElem? (i := 1115) (by decide +kernel), List.mem_of_getElem? (i := 1465) (by decide +kernel), List.mem_of_getElem? (i := 1466) (by decide +kernel)⟩
theorem lw_p28 : lw_okq (⟨"BurdenHouseModel", "key", "()I"⟩, 36) := ⟨⟨by decide +kernel, by decide +kernel⟩, List.mem_of_getElem? (i := 1115) (by decide +kernel), List.mem_of_getElem? (i := 1471) (by decide +kernel), List.mem_of_getElem? (i := 1472) (by decide +kernel)⟩
theorem lw_p29 : lw_okq (⟨"BurdenHouseModel", "isWordAt", "(IIII)Z"⟩, 36) := ⟨⟨by decide +kernel, by decide +kernel⟩, List.mem_of_getElem? (i := 1115) (by decide +kernel), List.mem_of_getElem? (i := 1475) (by decide +kernel), List.mem_of_getElem? (i := 1476) (by decide +kernel)⟩
theorem lw_p30 : lw_okq (⟨"BurdenHouseModel", "either", "(I)Z"⟩, 36) := ⟨⟨by decide +kernel, by decide +kernel⟩, List.mem_of_getElem? (i := 1115) (by decide +kernel), List.mem_of_getElem? (i := 1479) (by decide +kernel), List.mem_of_getElem? (i := 1480) (by decide +kernel)⟩
theorem lw_p31 : lw_okq (⟨"BurdenHouseModel", "both", "(I)Z"⟩, 36) := ⟨⟨by decide +kernel, by decide +kernel⟩, List.mem_of_getElem? (i := 1115) (by decide +kernel), List.mem_of_getElem? (i := 1483) (by decide +kernel), List.mem_of_getElem? (i := 1484) (by decide +kernel)⟩
def lw_privs_2 : List (MethodName × Nat) := [(⟨"BurdenHouseModel", "textAt", "(I)I"⟩, 36), (⟨"BurdenHouseModel", "greatestTop", "()I"⟩, 36), (⟨"BurdenHouseModel", "worked", "(I)I"⟩, 36), (⟨"BurdenHouseModel", "oneHour", "()V"⟩, 36), (⟨"BurdenHouseModel", "goes", "(III)V"⟩, 36), (⟨"BurdenHouseModel", "basic", "()I"⟩, 36), (⟨"BurdenHouseModel", "castOut", "(I)V"⟩, 36), (⟨"BurdenHouseModel", "setAside", "([I[I)V"⟩, 36), (⟨"BurdenHouseModel", "parse", "()I"⟩, 36), (⟨"BurdenHouseModel", "next", "()V"⟩, 36), (⟨"BurdenHouseModel", "isLetter", "(I)Z"⟩, 36), (⟨"BurdenHouseModel", "isDigit", "(I)Z"⟩, 36), (⟨"BurdenHouseModel", "key", "()I"⟩, 36), (⟨"BurdenHouseModel", "isWordAt", "(IIII)Z"⟩, 36), (⟨"BurdenHouseModel", "either", "(I)Z"⟩, 36), (⟨"BurdenHouseModel", "both", "(I)Z"⟩, 36)]
theorem lw_r2 : ∀ q ∈ lw_privs_2, lw_okq q := List.forall_mem_cons.mpr ⟨lw_p16, List.forall_mem_cons.mpr ⟨lw_p17, List.forall_mem_cons.mpr ⟨lw_p18, List.forall_mem_cons.mpr ⟨lw_p19, List.forall_mem_cons.mpr ⟨lw_p20, List.forall_mem_cons.mpr ⟨lw_p21, List.forall_mem_cons.mpr ⟨lw_p22, List.forall_mem_cons.mpr ⟨lw_p23, List.forall_mem_cons.mpr ⟨lw_p24, List.forall_mem_cons.mpr ⟨lw_p25, List.forall_mem_cons.mpr ⟨lw_p26, List.forall_mem_cons.mpr ⟨lw_p27, List.forall_mem_cons.mpr ⟨lw_p28, List.forall_mem_cons.mpr ⟨lw_p29, List.forall_mem_cons.mpr ⟨lw_p30, List.forall_mem_cons.mpr ⟨lw_p31, fun _ h => absurd h List.not_mem_nil⟩⟩⟩⟩⟩⟩⟩⟩⟩⟩⟩⟩⟩⟩⟩⟩
theorem lw_p32 : lw_okq (⟨"BurdenHouseModel", "test", "(I)Z"⟩, 36) := ⟨⟨by decide +kernel, by decide +kernel⟩, List.mem_of_getElem? (i := 1115) (by decide +kernel), List.mem_of_getElem? (i := 1487) (by decide +kernel), List.mem_of_getElem? (i := 1488) (by decide +kernel)⟩
theorem lw_p33 : lw_okq (⟨"BurdenHouseModel", "sum", "(I)Z"⟩, 36) := ⟨⟨by decide +kernel, by decide +kernel⟩, List.mem_of_getElem? (i := 1115) (by decide +kernel), List.mem_of_getElem? (i := 1491) (by decide +kernel), List.mem_of_getElem? (i := 1492) (by decide +kernel)⟩
theorem lw_p34 : lw_okq (⟨"BurdenHouseModel", "term", "(I)Z"⟩, 36) := ⟨⟨by decide +kernel, by decide +kernel⟩, List.mem_of_getElem? (i := 1115) (by decide +kernel), List.mem_of_getElem? (i := 1495) (by decide +kernel), List.mem_of_getElem? (i := 1496) (by decide +kernel)⟩
theorem lw_p35 : lw_okq (⟨"BurdenHouseModel", "part0", "(I)Z"⟩, 36) := ⟨⟨by decide +kernel, by decide +kernel⟩, List.mem_of_getElem? (i := 1115) (by decide +kernel), List.mem_of_getElem? (i := 1499) (by decide +kernel), List.mem_of_getElem? (i := 1500) (by decide +kernel)⟩
theorem lw_p36 : lw_okq (⟨"BurdenHouseModel", "step", "(II)V"⟩, 36) := ⟨⟨by decide +kernel, by decide +kernel⟩, List.mem_of_getElem? (i := 1115) (by decide +kernel), List.mem_of_getElem? (i := 1503) (by decide +kernel), List.mem_of_getElem? (i := 1504) (by decide +kernel)⟩
theorem lw_p37 : lw_okq (⟨"BurdenHouseModel", "isSign", "(I)Z"⟩, 36) := ⟨⟨by decide +kernel, by decide +kernel⟩, List.mem_of_getElem? (i := 1115) (by decide +kernel), List.mem_of_getElem? (i := 1510) (by decide +kernel), List.mem_of_getElem? (i := 1511) (by decide +kernel)⟩
theorem lw_p38 : lw_okq (⟨"BurdenHouseModel", "isText", "(I)Z"⟩, 36) := ⟨⟨by decide +kernel, by decide +kernel⟩, List.mem_of_getElem? (i := 1115) (by decide +kernel), List.mem_of_getElem? (i := 1518) (by decide +kernel), List.mem_of_getElem? (i := 1519) (by decide +kernel)⟩
theorem lw_p39 : lw_okq (⟨"BurdenHouseModel", "ofBurden", "(II)I"⟩, 36) := ⟨⟨by decide +kernel, by decide +kernel⟩, List.mem_of_getElem? (i := 1115) (by decide +kernel), List.mem_of_getElem? (i := 1539) (by decide +kernel), List.mem_of_getElem? (i := 1540) (by decide +kernel)⟩
theorem lw_p40 : lw_okq (⟨"BurdenHouseModel", "ladleAt", "(I)I"⟩, 36) := ⟨⟨by decide +kernel, by decide +kernel⟩, List.mem_of_getElem? (i := 1115) (by decide +kernel), List.mem_of_getElem? (i := 1547) (by decide +kernel), List.mem_of_getElem? (i := 1548) (by decide +kernel)⟩
theorem lw_p41 : lw_okq (⟨"BurdenHouseModel", "allBulk", "()I"⟩, 36) := ⟨⟨by decide +kernel, by decide +kernel⟩, List.mem_of_getElem? (i := 1115) (by decide +kernel), List.mem_of_getElem? (i := 1615) (by decide +kernel), List.mem_of_getElem? (i := 1616) (by decide +kernel)⟩
def lw_privs_3 : List (MethodName × Nat) := [(⟨"BurdenHouseModel", "test", "(I)Z"⟩, 36), (⟨"BurdenHouseModel", "sum", "(I)Z"⟩, 36), (⟨"BurdenHouseModel", "term", "(I)Z"⟩, 36), (⟨"BurdenHouseModel", "part0", "(I)Z"⟩, 36), (⟨"BurdenHouseModel", "step", "(II)V"⟩, 36), (⟨"BurdenHouseModel", "isSign", "(I)Z"⟩, 36), (⟨"BurdenHouseModel", "isText", "(I)Z"⟩, 36), (⟨"BurdenHouseModel", "ofBurden", "(II)I"⟩, 36), (⟨"BurdenHouseModel", "ladleAt", "(I)I"⟩, 36), (⟨"BurdenHouseModel", "allBulk", "()I"⟩, 36)]
theorem lw_r3 : ∀ q ∈ lw_privs_3, lw_okq q := List.forall_mem_cons.mpr ⟨lw_p32, List.forall_mem_cons.mpr ⟨lw_p33, List.forall_mem_cons.mpr ⟨lw_p34, List.forall_mem_cons.mpr ⟨lw_p35, List.forall_mem_cons.mpr ⟨lw_p36, List.forall_mem_cons.mpr ⟨lw_p37, List.forall_mem_cons.mpr ⟨lw_p38, List.forall_mem_cons.mpr ⟨lw_p39, List.forall_mem_cons.mpr ⟨lw_p40, List.forall_mem_cons.mpr ⟨lw_p41, fun _ h => absurd h List.not_mem_nil⟩⟩⟩⟩⟩⟩⟩⟩⟩⟩
def lw_privs : List (MethodName × Nat) := lw_privs_1 ++ (lw_privs_2 ++ (lw_privs_3))
def lw_tbl : List Cond := k2_sels lw_privs ++ tables_1
theorem lw_privs_ok : ∀ q ∈ lw_privs, lw_okq q := by
  show ∀ q ∈ lw_privs_1 ++ (lw_privs_2 ++ (lw_privs_3)), lw_okq q
  exact List.forall_mem_append.mpr ⟨lw_r1, List.forall_mem_append.mpr ⟨lw_r2, lw_r3⟩⟩

theorem goodIn_r {big : List Cond} (ws : List Cond) (ps : List Nat) (hp : ws = ps.filterMap (fun i => big[i]?)) (h : ws.all goodWord = true) : GoodIn big ws := by
  intro w hw
  have h1 := List.all_eq_true.mp h w hw
  rw [hp] at hw
  obtain ⟨i, -, hi⟩ := List.mem_filterMap.mp hw
  have hm : w ∈ big := by first | exact List.mem_of_getElem? hi | exact List.getElem?_mem hi
  exact ⟨hm, good_of_word h1⟩
def RX0 : String := "BurdenHouse$Bins"
def TX0 : u_T := fun k => match k with
  | 0 => ("BurdenHouse$Bins", "kind", "[I", true)
  | 1 => ("BurdenHouse$Bins", "share", "[I", true)
  | 2 => ("BurdenHouse$Bins", "price", "[I", true)
  | 3 => ("BurdenHouse$Bins", "tons", "[I", true)
  | 4 => ("BurdenHouse$Bins", "turns", "[I", true)
  | 5 => ("BurdenHouse$Bins", "count", "I", false)
  | 6 => ("BurdenHouse$Bins", "told", "[I", true)
  | _ => ("BurdenHouse$Bins", "tolds", "I", false)
def tyX0 : Nat → FieldType := fun k => match k with
  | 0 => .array .int
  | 1 => .array .int
  | 2 => .array .int
  | 3 => .array .int
  | 4 => .array .int
  | 5 => .int
  | 6 => .array .int
  | _ => .int
abbrev wsX00 : List Cond := u_ws RX0 TX0 8
theorem nmX0 : ∀ a, a < 8 → ∀ b, b < 8 → a ≠ b → (TX0 a).2.1 ≠ (TX0 b).2.1 := by decide +kernel
theorem tyX0_ok : ∀ k, k < 8 → parseFieldDescriptor (TX0 k).2.2.1 = some (tyX0 k) := by decide +kernel
abbrev cX0_init : ByteArray := prog_2_method_1_code
def yX0_init : MethodName := ⟨RX0, "<init>", "()V"⟩
abbrev cX0_become : ByteArray := prog_2_method_2_code
def yX0_become : MethodName := ⟨RX0, "become", "(LBurdenHouse$Bins;)V"⟩
abbrev cX0_has : ByteArray := prog_2_method_3_code
def yX0_has : MethodName := ⟨RX0, "has", "(I)Z"⟩
abbrev cX0_add : ByteArray := prog_2_method_4_code
def yX0_add : MethodName := ⟨RX0, "add", "(III)I"⟩
abbrev cX0_isTold : ByteArray := prog_2_method_5_code
def yX0_isTold : MethodName := ⟨RX0, "isTold", "(I)Z"⟩
abbrev cX0_addTold : ByteArray := prog_2_method_6_code
def yX0_addTold : MethodName := ⟨RX0, "addTold", "(I)I"⟩
abbrev cX0_cheapestMix : ByteArray := prog_2_method_7_code
def yX0_cheapestMix : MethodName := ⟨RX0, "cheapestMix", "(III)I"⟩
abbrev cX0_suits : ByteArray := prog_2_method_8_code
def yX0_suits : MethodName := ⟨RX0, "suits", "(IIII)Z"⟩
abbrev cX0_tensIn : ByteArray := prog_2_method_9_code
def yX0_tensIn : MethodName := ⟨RX0, "tensIn", "(II)I"⟩
abbrev cX0_sumIn : ByteArray := prog_2_method_10_code
def yX0_sumIn : MethodName := ⟨RX0, "sumIn", "(II)I"⟩
abbrev cX0_priceIn : ByteArray := prog_2_method_11_code
def yX0_priceIn : MethodName := ⟨RX0, "priceIn", "(I)I"⟩
def RX1 : String := "BurdenHouse$Furnace"
def TX1 : u_T := fun k => match k with
  | 0 => ("BurdenHouse$Furnace", "hour", "I", false)
  | 1 => ("BurdenHouse$Furnace", "iron", "I", false)
  | 2 => ("BurdenHouse$Furnace", "acid", "I", false)
  | 3 => ("BurdenHouse$Furnace", "lime", "I", false)
  | 4 => ("BurdenHouse$Furnace", "layers", "[LBurdenHouse$Layer;", true)
  | 5 => ("BurdenHouse$Furnace", "count", "I", false)
  | 6 => ("BurdenHouse$Furnace", "bulk", "[I", true)
  | 7 => ("BurdenHouse$Furnace", "weights", "[I", true)
  | 8 => ("BurdenHouse$Furnace", "rests", "[J", true)
  | _ => ("BurdenHouse$Furnace", "parts", "[I", true)
def tyX1 : Nat → FieldType := fun k => match k with
  | 0 => .int
  | 1 => .int
  | 2 => .int
  | 3 => .int
  | 4 => .array (.object "BurdenHouse$Layer")
  | 5 => .int
  | 6 => .array .int
  | 7 => .array .int
  | 8 => .array .long
  | _ => .array .int
abbrev wsX10 : List Cond := u_ws RX1 TX1 10
theorem nmX1 : ∀ a, a < 10 → ∀ b, b < 10 → a ≠ b → (TX1 a).2.1 ≠ (TX1 b).2.1 := by decide +kernel
theorem tyX1_ok : ∀ k, k < 10 → parseFieldDescriptor (TX1 k).2.2.1 = some (tyX1 k) := by decide +kernel
abbrev cX1_init : ByteArray := prog_3_method_1_code
def yX1_init : MethodName := ⟨RX1, "<init>", "()V"⟩
abbrev cX1_become : ByteArray := prog_3_method_2_code
def yX1_become : MethodName := ⟨RX1, "become", "(LBurdenHouse$Furnace;)V"⟩
abbrev cX1_has : ByteArray := prog_3_method_3_code
def yX1_has : MethodName := ⟨RX1, "has", "(I)Z"⟩
abbrev cX1_hasRoom : ByteArray := prog_3_method_4_code
def yX1_hasRoom : MethodName := ⟨RX1, "hasRoom", "()Z"⟩
abbrev cX1_topOf : ByteArray := prog_3_method_5_code
def yX1_topOf : MethodName := ⟨RX1, "topOf", "(I)I"⟩
abbrev cX1_greatestTop : ByteArray := prog_3_method_6_code
def yX1_greatestTop : MethodName := ⟨RX1, "greatestTop", "()I"⟩
abbrev cX1_allBulk : ByteArray := prog_3_method_7_code
def yX1_allBulk : MethodName := ⟨RX1, "allBulk", "()I"⟩
abbrev cX1_basic : ByteArray := prog_3_method_8_code
def yX1_basic : MethodName := ⟨RX1, "basic", "()I"⟩
abbrev cX1_resistanceOf : ByteArray := prog_3_method_9_code
def yX1_resistanceOf : MethodName := ⟨RX1, "resistanceOf", "(I)I"⟩
abbrev cX1_partByWeights : ByteArray := prog_3_method_10_code
def yX1_partByWeights : MethodName := ⟨RX1, "partByWeights", "(I)V"⟩
abbrev cX1_greatestRest : ByteArray := prog_3_method_11_code
def yX1_greatestRest : MethodName := ⟨RX1, "greatestRest", "()I"⟩
abbrev cX1_layOn : ByteArray := prog_3_method_12_code
def yX1_layOn : MethodName := ⟨RX1, "layOn", "(LBurdenHouse$Bins;II)V"⟩
abbrev cX1_slide : ByteArray := prog_3_method_13_code
def yX1_slide : MethodName := ⟨RX1, "slide", "(I)V"⟩
abbrev cX1_slidesOnce : ByteArray := prog_3_method_14_code
def yX1_slidesOnce : MethodName := ⟨RX1, "slidesOnce", "(LBurdenHouse$Layer;I)Z"⟩
abbrev cX1_partGas : ByteArray := prog_3_method_15_code
def yX1_partGas : MethodName := ⟨RX1, "partGas", "(I)V"⟩
abbrev cX1_eatenOf : ByteArray := prog_3_method_16_code
def yX1_eatenOf : MethodName := ⟨RX1, "eatenOf", "(I)I"⟩
abbrev cX1_passHour : ByteArray := prog_3_method_17_code
def yX1_passHour : MethodName := ⟨RX1, "passHour", "(I)V"⟩
abbrev cX1_eat : ByteArray := prog_3_method_18_code
def yX1_eat : MethodName := ⟨RX1, "eat", "(II)V"⟩
abbrev cX1_bring : ByteArray := prog_3_method_19_code
def yX1_bring : MethodName := ⟨RX1, "bring", "(LBurdenHouse$Layer;I)V"⟩
abbrev cX1_dropEmptyLayers : ByteArray := prog_3_method_20_code
def yX1_dropEmptyLayers : MethodName := ⟨RX1, "dropEmptyLayers", "()V"⟩
abbrev cX1_takeOut : ByteArray := prog_3_method_21_code
def yX1_takeOut : MethodName := ⟨RX1, "takeOut", "(I)V"⟩
def RX2 : String := "BurdenHouse$House"
def TX2 : u_T := fun k => match k with
  | 0 => ("BurdenHouse$House", "bins", "LBurdenHouse$Bins;", true)
  | 1 => ("BurdenHouse$House", "furnace", "LBurdenHouse$Furnace;", true)
  | 2 => ("BurdenHouse$House", "texts", "LBurdenHouse$Texts;", true)
  | 3 => ("BurdenHouse$House", "ladles", "LBurdenHouse$Ladles;", true)
  | _ => ("BurdenHouse$House", "rules", "[I", true)
def tyX2 : Nat → FieldType := fun k => match k with
  | 0 => .object "BurdenHouse$Bins"
  | 1 => .object "BurdenHouse$Furnace"
  | 2 => .object "BurdenHouse$Texts"
  | 3 => .object "BurdenHouse$Ladles"
  | _ => .array .int
abbrev wsX20 : List Cond := u_ws RX2 TX2 5
theorem nmX2 : ∀ a, a < 5 → ∀ b, b < 5 → a ≠ b → (TX2 a).2.1 ≠ (TX2 b).2.1 := by decide +kernel
theorem tyX2_ok : ∀ k, k < 5 → parseFieldDescriptor (TX2 k).2.2.1 = some (tyX2 k) := by decide +kernel
abbrev cX2_init : ByteArray := prog_4_method_1_code
def yX2_init : MethodName := ⟨RX2, "<init>", "()V"⟩
abbrev cX2_become : ByteArray := prog_4_method_2_code
def yX2_become : MethodName := ⟨RX2, "become", "(LBurdenHouse$House;)V"⟩
abbrev cX2_passHour : ByteArray := prog_4_method_3_code
def yX2_passHour : MethodName := ⟨RX2, "passHour", "(LBurdenHouse$Furnace;)V"⟩
abbrev cX2_gasFor : ByteArray := prog_4_method_4_code
def yX2_gasFor : MethodName := ⟨RX2, "gasFor", "(LBurdenHouse$Furnace;)I"⟩
abbrev cX2_playRound : ByteArray := prog_4_method_5_code
def yX2_playRound : MethodName := ⟨RX2, "playRound", "()I"⟩
abbrev cX2_drawFor : ByteArray := prog_4_method_6_code
def yX2_drawFor : MethodName := ⟨RX2, "drawFor", "(I)I"⟩
abbrev cX2_chargeOut : ByteArray := prog_4_method_7_code
def yX2_chargeOut : MethodName := ⟨RX2, "chargeOut", "(II)V"⟩
abbrev cX2_pourOut : ByteArray := prog_4_method_8_code
def yX2_pourOut : MethodName := ⟨RX2, "pourOut", "(II)I"⟩
abbrev cX2_lateFor : ByteArray := prog_4_method_9_code
def yX2_lateFor : MethodName := ⟨RX2, "lateFor", "(I)I"⟩
def RX3 : String := "BurdenHouse$Ladles"
def TX3 : u_T := fun k => match k with
  | 0 => ("BurdenHouse$Ladles", "cap", "[I", true)
  | 1 => ("BurdenHouse$Ladles", "ready", "[I", true)
  | 2 => ("BurdenHouse$Ladles", "count", "I", false)
  | _ => ("BurdenHouse$Ladles", "fillings", "I", false)
def tyX3 : Nat → FieldType := fun k => match k with
  | 0 => .array .int
  | 1 => .array .int
  | 2 => .int
  | _ => .int
abbrev wsX30 : List Cond := u_ws RX3 TX3 4
theorem nmX3 : ∀ a, a < 4 → ∀ b, b < 4 → a ≠ b → (TX3 a).2.1 ≠ (TX3 b).2.1 := by decide +kernel
theorem tyX3_ok : ∀ k, k < 4 → parseFieldDescriptor (TX3 k).2.2.1 = some (tyX3 k) := by decide +kernel
abbrev cX3_init : ByteArray := prog_5_method_1_code
def yX3_init : MethodName := ⟨RX3, "<init>", "()V"⟩
abbrev cX3_become : ByteArray := prog_5_method_2_code
def yX3_become : MethodName := ⟨RX3, "become", "(LBurdenHouse$Ladles;)V"⟩
abbrev cX3_has : ByteArray := prog_5_method_3_code
def yX3_has : MethodName := ⟨RX3, "has", "(I)Z"⟩
abbrev cX3_add : ByteArray := prog_5_method_4_code
def yX3_add : MethodName := ⟨RX3, "add", "(I)I"⟩
abbrev cX3_firstReady : ByteArray := prog_5_method_5_code
def yX3_firstReady : MethodName := ⟨RX3, "firstReady", "()I"⟩
abbrev cX3_takeIn : ByteArray := prog_5_method_6_code
def yX3_takeIn : MethodName := ⟨RX3, "takeIn", "(III)I"⟩
def RX4 : String := "BurdenHouse$Layer"
def TX4 : u_T := fun k => match k with
  | 0 => ("BurdenHouse$Layer", "bin", "I", false)
  | 1 => ("BurdenHouse$Layer", "hour", "I", false)
  | 2 => ("BurdenHouse$Layer", "tons", "I", false)
  | 3 => ("BurdenHouse$Layer", "holds", "I", false)
  | 4 => ("BurdenHouse$Layer", "iron", "I", false)
  | 5 => ("BurdenHouse$Layer", "acid", "I", false)
  | 6 => ("BurdenHouse$Layer", "lime", "I", false)
  | 7 => ("BurdenHouse$Layer", "whole", "I", false)
  | 8 => ("BurdenHouse$Layer", "left", "I", false)
  | _ => ("BurdenHouse$Layer", "inRing", "[I", true)
def tyX4 : Nat → FieldType := fun k => match k with
  | 0 => .int
  | 1 => .int
  | 2 => .int
  | 3 => .int
  | 4 => .int
  | 5 => .int
  | 6 => .int
  | 7 => .int
  | 8 => .int
  | _ => .array .int
abbrev wsX40 : List Cond := u_ws RX4 TX4 10
theorem nmX4 : ∀ a, a < 10 → ∀ b, b < 10 → a ≠ b → (TX4 a).2.1 ≠ (TX4 b).2.1 := by decide +kernel
theorem tyX4_ok : ∀ k, k < 10 → parseFieldDescriptor (TX4 k).2.2.1 = some (tyX4 k) := by decide +kernel
abbrev cX4_init : ByteArray := prog_6_method_1_code
def yX4_init : MethodName := ⟨RX4, "<init>", "()V"⟩
abbrev cX4_become : ByteArray := prog_6_method_2_code
def yX4_become : MethodName := ⟨RX4, "become", "(LBurdenHouse$Layer;)V"⟩
abbrev cX4_broughtBetween : ByteArray := prog_6_method_3_code
def yX4_broughtBetween : MethodName := ⟨RX4, "broughtBetween", "(III)I"⟩
def RX5 : String := "BurdenHouse$Sheet"
def TX5 : u_T := fun k => match k with
  | 0 => ("BurdenHouse$Sheet", "sort", "I", false)
  | 1 => ("BurdenHouse$Sheet", "count", "I", false)
  | 2 => ("BurdenHouse$Sheet", "values", "[I", true)
  | _ => ("BurdenHouse$Sheet", "lost", "[Z", true)
def tyX5 : Nat → FieldType := fun k => match k with
  | 0 => .int
  | 1 => .int
  | 2 => .array .int
  | _ => .array .boolean
abbrev wsX50 : List Cond := u_ws RX5 TX5 4
theorem nmX5 : ∀ a, a < 4 → ∀ b, b < 4 → a ≠ b → (TX5 a).2.1 ≠ (TX5 b).2.1 := by decide +kernel
theorem tyX5_ok : ∀ k, k < 4 → parseFieldDescriptor (TX5 k).2.2.1 = some (tyX5 k) := by decide +kernel
abbrev cX5_init : ByteArray := prog_7_method_1_code
def yX5_init : MethodName := ⟨RX5, "<init>", "()V"⟩
abbrev cX5_become : ByteArray := prog_7_method_2_code
def yX5_become : MethodName := ⟨RX5, "become", "(LBurdenHouse$Sheet;)V"⟩
abbrev cX5_makeNew : ByteArray := prog_7_method_3_code
def yX5_makeNew : MethodName := ⟨RX5, "makeNew", "(II)V"⟩
abbrev cX5_has : ByteArray := prog_7_method_4_code
def yX5_has : MethodName := ⟨RX5, "has", "(I)Z"⟩
abbrev cX5_hasRow : ByteArray := prog_7_method_5_code
def yX5_hasRow : MethodName := ⟨RX5, "hasRow", "(II)Z"⟩
abbrev cX5_put : ByteArray := prog_7_method_6_code
def yX5_put : MethodName := ⟨RX5, "put", "(II)V"⟩
abbrev cX5_lose : ByteArray := prog_7_method_7_code
def yX5_lose : MethodName := ⟨RX5, "lose", "(I)V"⟩
abbrev cX5_knownAhead : ByteArray := prog_7_method_8_code
def yX5_knownAhead : MethodName := ⟨RX5, "knownAhead", "(I)I"⟩
abbrev cX5_hangs : ByteArray := prog_7_method_9_code
def yX5_hangs : MethodName := ⟨RX5, "hangs", "()I"⟩
abbrev cX5_slips : ByteArray := prog_7_method_10_code
def yX5_slips : MethodName := ⟨RX5, "slips", "(I)I"⟩
def RX6 : String := "BurdenHouse$Slot"
def TX6 : u_T := fun k => match k with
  | 0 => ("BurdenHouse$Slot", "thing", "I", false)
  | 1 => ("BurdenHouse$Slot", "kind", "I", false)
  | 2 => ("BurdenHouse$Slot", "share", "I", false)
  | 3 => ("BurdenHouse$Slot", "number", "I", false)
  | _ => ("BurdenHouse$Slot", "sheet", "LBurdenHouse$Sheet;", true)
def tyX6 : Nat → FieldType := fun k => match k with
  | 0 => .int
  | 1 => .int
  | 2 => .int
  | 3 => .int
  | _ => .object "BurdenHouse$Sheet"
abbrev wsX60 : List Cond := u_ws RX6 TX6 5
theorem nmX6 : ∀ a, a < 5 → ∀ b, b < 5 → a ≠ b → (TX6 a).2.1 ≠ (TX6 b).2.1 := by decide +kernel
theorem tyX6_ok : ∀ k, k < 5 → parseFieldDescriptor (TX6 k).2.2.1 = some (tyX6 k) := by decide +kernel
abbrev cX6_init : ByteArray := prog_8_method_1_code
def yX6_init : MethodName := ⟨RX6, "<init>", "()V"⟩
def RX7 : String := "BurdenHouse$Stuff"
def TX7 : u_T := fun k => match k with
  | _ => ("", "", "", false)
def tyX7 : Nat → FieldType := fun k => match k with
  | _ => .int
abbrev wsX70 : List Cond := u_ws RX7 TX7 0
theorem nmX7 : ∀ a, a < 0 → ∀ b, b < 0 → a ≠ b → (TX7 a).2.1 ≠ (TX7 b).2.1 := by decide +kernel
theorem tyX7_ok : ∀ k, k < 0 → parseFieldDescriptor (TX7 k).2.2.1 = some (tyX7 k) := by decide +kernel
abbrev cX7_isOf : ByteArray := prog_9_method_2_code
def yX7_isOf : MethodName := ⟨RX7, "isOf", "(II)Z"⟩
abbrev cX7_amountOf : ByteArray := prog_9_method_3_code
def yX7_amountOf : MethodName := ⟨RX7, "amountOf", "(IIII)I"⟩
abbrev cX7_bulkOf : ByteArray := prog_9_method_4_code
def yX7_bulkOf : MethodName := ⟨RX7, "bulkOf", "(II)I"⟩
abbrev cX7_ironOf : ByteArray := prog_9_method_5_code
def yX7_ironOf : MethodName := ⟨RX7, "ironOf", "(III)I"⟩
abbrev cX7_acidOf : ByteArray := prog_9_method_6_code
def yX7_acidOf : MethodName := ⟨RX7, "acidOf", "(III)I"⟩
abbrev cX7_limeOf : ByteArray := prog_9_method_7_code
def yX7_limeOf : MethodName := ⟨RX7, "limeOf", "(III)I"⟩
abbrev cX7_holdsOf : ByteArray := prog_9_method_8_code
def yX7_holdsOf : MethodName := ⟨RX7, "holdsOf", "(I)I"⟩
def RX8 : String := "BurdenHouse$Tape"
def TX8 : u_T := fun k => match k with
  | 0 => ("BurdenHouse$Tape", "bytes", "[I", true)
  | 1 => ("BurdenHouse$Tape", "length", "I", false)
  | 2 => ("BurdenHouse$Tape", "at", "I", false)
  | 3 => ("BurdenHouse$Tape", "end", "I", false)
  | 4 => ("BurdenHouse$Tape", "sort", "I", false)
  | 5 => ("BurdenHouse$Tape", "close", "Z", false)
  | 6 => ("BurdenHouse$Tape", "key", "I", false)
  | 7 => ("BurdenHouse$Tape", "bin", "I", false)
  | 8 => ("BurdenHouse$Tape", "pieces", "I", false)
  | 9 => ("BurdenHouse$Tape", "code", "[I", true)
  | 10 => ("BurdenHouse$Tape", "codes", "I", false)
  | 11 => ("BurdenHouse$Tape", "signs", "[I", true)
  | 12 => ("BurdenHouse$Tape", "held", "I", false)
  | 13 => ("BurdenHouse$Tape", "openBrackets", "I", false)
  | 14 => ("BurdenHouse$Tape", "openNots", "I", false)
  | _ => ("BurdenHouse$Tape", "wantsPiece", "Z", false)
def tyX8 : Nat → FieldType := fun k => match k with
  | 0 => .array .int
  | 1 => .int
  | 2 => .int
  | 3 => .int
  | 4 => .int
  | 5 => .boolean
  | 6 => .int
  | 7 => .int
  | 8 => .int
  | 9 => .array .int
  | 10 => .int
  | 11 => .array .int
  | 12 => .int
  | 13 => .int
  | 14 => .int
  | _ => .boolean
abbrev wsX80 : List Cond := u_ws RX8 TX8 16
theorem nmX8 : ∀ a, a < 16 → ∀ b, b < 16 → a ≠ b → (TX8 a).2.1 ≠ (TX8 b).2.1 := by decide +kernel
theorem tyX8_ok : ∀ k, k < 16 → parseFieldDescriptor (TX8 k).2.2.1 = some (tyX8 k) := by decide +kernel
abbrev cX8_init : ByteArray := prog_10_method_1_code
def yX8_init : MethodName := ⟨RX8, "<init>", "()V"⟩
abbrev cX8_addNumber : ByteArray := prog_10_method_2_code
def yX8_addNumber : MethodName := ⟨RX8, "addNumber", "(I)V"⟩
abbrev cX8_readText : ByteArray := prog_10_method_3_code
def yX8_readText : MethodName := ⟨RX8, "readText", "()I"⟩
abbrev cX8_beginReading : ByteArray := prog_10_method_4_code
def yX8_beginReading : MethodName := ⟨RX8, "beginReading", "()V"⟩
abbrev cX8_step : ByteArray := prog_10_method_5_code
def yX8_step : MethodName := ⟨RX8, "step", "()V"⟩
abbrev cX8_sortAt : ByteArray := prog_10_method_6_code
def yX8_sortAt : MethodName := ⟨RX8, "sortAt", "(I)I"⟩
abbrev cX8_takesHead : ByteArray := prog_10_method_7_code
def yX8_takesHead : MethodName := ⟨RX8, "takesHead", "()Z"⟩
abbrev cX8_keyThere : ByteArray := prog_10_method_8_code
def yX8_keyThere : MethodName := ⟨RX8, "keyThere", "()I"⟩
abbrev cX8_isThere : ByteArray := prog_10_method_9_code
def yX8_isThere : MethodName := ⟨RX8, "isThere", "(Ljava/lang/String;)Z"⟩
abbrev cX8_numberThere : ByteArray := prog_10_method_10_code
def yX8_numberThere : MethodName := ⟨RX8, "numberThere", "()I"⟩
abbrev cX8_takesPiece : ByteArray := prog_10_method_11_code
def yX8_takesPiece : MethodName := ⟨RX8, "takesPiece", "()Z"⟩
abbrev cX8_nameThere : ByteArray := prog_10_method_12_code
def yX8_nameThere : MethodName := ⟨RX8, "nameThere", "()I"⟩
abbrev cX8_takesOpening : ByteArray := prog_10_method_13_code
def yX8_takesOpening : MethodName := ⟨RX8, "takesOpening", "()Z"⟩
abbrev cX8_takesSign : ByteArray := prog_10_method_14_code
def yX8_takesSign : MethodName := ⟨RX8, "takesSign", "()Z"⟩
abbrev cX8_takesClosing : ByteArray := prog_10_method_15_code
def yX8_takesClosing : MethodName := ⟨RX8, "takesClosing", "()Z"⟩
abbrev cX8_endPiece : ByteArray := prog_10_method_16_code
def yX8_endPiece : MethodName := ⟨RX8, "endPiece", "()V"⟩
abbrev cX8_writeHeldFrom : ByteArray := prog_10_method_17_code
def yX8_writeHeldFrom : MethodName := ⟨RX8, "writeHeldFrom", "(IZ)V"⟩
abbrev cX8_heldRank : ByteArray := prog_10_method_18_code
def yX8_heldRank : MethodName := ⟨RX8, "heldRank", "()I"⟩
abbrev cX8_rankOf : ByteArray := prog_10_method_19_code
def yX8_rankOf : MethodName := ⟨RX8, "rankOf", "(I)I"⟩
abbrev cX8_hold : ByteArray := prog_10_method_20_code
def yX8_hold : MethodName := ⟨RX8, "hold", "(I)V"⟩
abbrev cX8_write : ByteArray := prog_10_method_21_code
def yX8_write : MethodName := ⟨RX8, "write", "(I)V"⟩
def RX9 : String := "BurdenHouse$Texts"
def TX9 : u_T := fun k => match k with
  | 0 => ("BurdenHouse$Texts", "key", "[I", true)
  | 1 => ("BurdenHouse$Texts", "bin", "[I", true)
  | 2 => ("BurdenHouse$Texts", "pieces", "[I", true)
  | 3 => ("BurdenHouse$Texts", "code", "[[I", true)
  | 4 => ("BurdenHouse$Texts", "codes", "[I", true)
  | 5 => ("BurdenHouse$Texts", "count", "I", false)
  | 6 => ("BurdenHouse$Texts", "named", "[I", true)
  | _ => ("BurdenHouse$Texts", "stack", "[I", true)
def tyX9 : Nat → FieldType := fun k => match k with
  | 0 => .array .int
  | 1 => .array .int
  | 2 => .array .int
  | 3 => .array (.array .int)
  | 4 => .array .int
  | 5 => .int
  | 6 => .array .int
  | _ => .array .int
abbrev wsX90 : List Cond := u_ws RX9 TX9 8
theorem nmX9 : ∀ a, a < 8 → ∀ b, b < 8 → a ≠ b → (TX9 a).2.1 ≠ (TX9 b).2.1 := by decide +kernel
theorem tyX9_ok : ∀ k, k < 8 → parseFieldDescriptor (TX9 k).2.2.1 = some (tyX9 k) := by decide +kernel
abbrev cX9_init : ByteArray := prog_11_method_1_code
def yX9_init : MethodName := ⟨RX9, "<init>", "()V"⟩
abbrev cX9_become : ByteArray := prog_11_method_2_code
def yX9_become : MethodName := ⟨RX9, "become", "(LBurdenHouse$Texts;)V"⟩
abbrev cX9_has : ByteArray := prog_11_method_3_code
def yX9_has : MethodName := ⟨RX9, "has", "(I)Z"⟩
abbrev cX9_add : ByteArray := prog_11_method_4_code
def yX9_add : MethodName := ⟨RX9, "add", "(LBurdenHouse$Tape;)I"⟩
abbrev cX9_lastOf : ByteArray := prog_11_method_5_code
def yX9_lastOf : MethodName := ⟨RX9, "lastOf", "(II)I"⟩
abbrev cX9_name : ByteArray := prog_11_method_6_code
def yX9_name : MethodName := ⟨RX9, "name", "(CI)V"⟩
abbrev cX9_worth : ByteArray := prog_11_method_7_code
def yX9_worth : MethodName := ⟨RX9, "worth", "(I)I"⟩
abbrev cX9_valueOf : ByteArray := prog_11_method_8_code
def yX9_valueOf : MethodName := ⟨RX9, "valueOf", "(I)I"⟩
abbrev cX9_joined : ByteArray := prog_11_method_9_code
def yX9_joined : MethodName := ⟨RX9, "joined", "(III)I"⟩
def RX10 : String := "BurdenHouse"
def TX10 : u_T := fun k => match k with
  | 0 => ("BurdenHouse", "house", "LBurdenHouse$House;", true)
  | 1 => ("BurdenHouse", "image", "LBurdenHouse$House;", true)
  | 2 => ("BurdenHouse", "imageKept", "Z", false)
  | 3 => ("BurdenHouse", "trial", "LBurdenHouse$Furnace;", true)
  | 4 => ("BurdenHouse", "tape", "LBurdenHouse$Tape;", true)
  | 5 => ("BurdenHouse", "sheets", "[LBurdenHouse$Sheet;", true)
  | 6 => ("BurdenHouse", "slots", "[LBurdenHouse$Slot;", true)
  | 7 => ("BurdenHouse", "waiting", "[I", true)
  | _ => ("BurdenHouse", "waits", "I", false)
def tyX10 : Nat → FieldType := fun k => match k with
  | 0 => .object "BurdenHouse$House"
  | 1 => .object "BurdenHouse$House"
  | 2 => .boolean
  | 3 => .object "BurdenHouse$Furnace"
  | 4 => .object "BurdenHouse$Tape"
  | 5 => .array (.object "BurdenHouse$Sheet")
  | 6 => .array (.object "BurdenHouse$Slot")
  | 7 => .array .int
  | _ => .int
abbrev wsX100 : List Cond := u_ws RX10 TX10 9
theorem nmX10 : ∀ a, a < 9 → ∀ b, b < 9 → a ≠ b → (TX10 a).2.1 ≠ (TX10 b).2.1 := by decide +kernel
theorem tyX10_ok : ∀ k, k < 9 → parseFieldDescriptor (TX10 k).2.2.1 = some (tyX10 k) := by decide +kernel
abbrev cX10_init : ByteArray := prog_1_method_1_code
def yX10_init : MethodName := ⟨RX10, "<init>", "()V"⟩
abbrev cX10_bin : ByteArray := prog_1_method_2_code
def yX10_bin : MethodName := ⟨RX10, "bin", "(III)I"⟩
abbrev cX10_told : ByteArray := prog_1_method_3_code
def yX10_told : MethodName := ⟨RX10, "told", "(II)I"⟩
abbrev cX10_of : ByteArray := prog_1_method_4_code
def yX10_of : MethodName := ⟨RX10, "of", "(III)I"⟩
abbrev cX10_as : ByteArray := prog_1_method_5_code
def yX10_as : MethodName := ⟨RX10, "as", "(II)I"⟩
abbrev cX10_fill : ByteArray := prog_1_method_6_code
def yX10_fill : MethodName := ⟨RX10, "fill", "(II)I"⟩
abbrev cX10_turns : ByteArray := prog_1_method_7_code
def yX10_turns : MethodName := ⟨RX10, "turns", "(II)I"⟩
abbrev cX10_rule : ByteArray := prog_1_method_8_code
def yX10_rule : MethodName := ⟨RX10, "rule", "(II)I"⟩
abbrev cX10_empty : ByteArray := prog_1_method_9_code
def yX10_empty : MethodName := ⟨RX10, "empty", "(II)I"⟩
abbrev cX10_charge : ByteArray := prog_1_method_10_code
def yX10_charge : MethodName := ⟨RX10, "charge", "(II)I"⟩
abbrev cX10_layer : ByteArray := prog_1_method_11_code
def yX10_layer : MethodName := ⟨RX10, "layer", "(II)I"⟩
abbrev cX10_ring : ByteArray := prog_1_method_12_code
def yX10_ring : MethodName := ⟨RX10, "ring", "(II)I"⟩
abbrev cX10_run : ByteArray := prog_1_method_13_code
def yX10_run : MethodName := ⟨RX10, "run", "(I)I"⟩
abbrev cX10_round : ByteArray := prog_1_method_14_code
def yX10_round : MethodName := ⟨RX10, "round", "()I"⟩
abbrev cX10_hearth : ByteArray := prog_1_method_15_code
def yX10_hearth : MethodName := ⟨RX10, "hearth", "(I)I"⟩
abbrev cX10_cast : ByteArray := prog_1_method_16_code
def yX10_cast : MethodName := ⟨RX10, "cast", "(I)I"⟩
abbrev cX10_down : ByteArray := prog_1_method_17_code
def yX10_down : MethodName := ⟨RX10, "down", "(I)I"⟩
abbrev cX10_feed : ByteArray := prog_1_method_18_code
def yX10_feed : MethodName := ⟨RX10, "feed", "(III)I"⟩
abbrev cX10_trim : ByteArray := prog_1_method_19_code
def yX10_trim : MethodName := ⟨RX10, "trim", "(I)I"⟩
abbrev cX10_text : ByteArray := prog_1_method_20_code
def yX10_text : MethodName := ⟨RX10, "text", "()I"⟩
abbrev cX10_textTold : ByteArray := prog_1_method_21_code
def yX10_textTold : MethodName := ⟨RX10, "textTold", "(II)I"⟩
abbrev cX10_why : ByteArray := prog_1_method_22_code
def yX10_why : MethodName := ⟨RX10, "why", "(II)I"⟩
abbrev cX10_choose : ByteArray := prog_1_method_23_code
def yX10_choose : MethodName := ⟨RX10, "choose", "(I)I"⟩
abbrev cX10_clear : ByteArray := prog_1_method_24_code
def yX10_clear : MethodName := ⟨RX10, "clear", "()I"⟩
abbrev cX10_burden : ByteArray := prog_1_method_25_code
def yX10_burden : MethodName := ⟨RX10, "burden", "(III)I"⟩
abbrev cX10_ladle : ByteArray := prog_1_method_26_code
def yX10_ladle : MethodName := ⟨RX10, "ladle", "(I)I"⟩
abbrev cX10_backAt : ByteArray := prog_1_method_27_code
def yX10_backAt : MethodName := ⟨RX10, "backAt", "(I)I"⟩
abbrev cX10_pour : ByteArray := prog_1_method_28_code
def yX10_pour : MethodName := ⟨RX10, "pour", "(II)I"⟩
abbrev cX10_sheet : ByteArray := prog_1_method_29_code
def yX10_sheet : MethodName := ⟨RX10, "sheet", "(III)I"⟩
abbrev cX10_mark : ByteArray := prog_1_method_30_code
def yX10_mark : MethodName := ⟨RX10, "mark", "(III)I"⟩
abbrev cX10_sound : ByteArray := prog_1_method_31_code
def yX10_sound : MethodName := ⟨RX10, "sound", "(III)I"⟩
abbrev cX10_tops : ByteArray := prog_1_method_32_code
def yX10_tops : MethodName := ⟨RX10, "tops", "(II)I"⟩
abbrev cX10_copy : ByteArray := prog_1_method_33_code
def yX10_copy : MethodName := ⟨RX10, "copy", "(IIIII)I"⟩
abbrev cX10_lay : ByteArray := prog_1_method_34_code
def yX10_lay : MethodName := ⟨RX10, "lay", "(III)I"⟩
abbrev cX10_ask : ByteArray := prog_1_method_35_code
def yX10_ask : MethodName := ⟨RX10, "ask", "(II)I"⟩
abbrev cX10_item : ByteArray := prog_1_method_36_code
def yX10_item : MethodName := ⟨RX10, "item", "(II)I"⟩
abbrev cX10_rest : ByteArray := prog_1_method_37_code
def yX10_rest : MethodName := ⟨RX10, "rest", "(II)I"⟩
abbrev cX10_tell : ByteArray := prog_1_method_38_code
def yX10_tell : MethodName := ⟨RX10, "tell", "(I)I"⟩
abbrev cX10_check : ByteArray := prog_1_method_39_code
def yX10_check : MethodName := ⟨RX10, "check", "(I)I"⟩
abbrev cX10_keep : ByteArray := prog_1_method_40_code
def yX10_keep : MethodName := ⟨RX10, "keep", "()I"⟩
abbrev cX10_back : ByteArray := prog_1_method_41_code
def yX10_back : MethodName := ⟨RX10, "back", "()I"⟩
abbrev cX10_count : ByteArray := prog_1_method_42_code
def yX10_count : MethodName := ⟨RX10, "count", "(I)I"⟩
abbrev cX10_isTold : ByteArray := prog_1_method_43_code
def yX10_isTold : MethodName := ⟨RX10, "isTold", "(III)Z"⟩
abbrev cX10_isWithin : ByteArray := prog_1_method_44_code
def yX10_isWithin : MethodName := ⟨RX10, "isWithin", "(III)Z"⟩
abbrev cX10_isKind : ByteArray := prog_1_method_45_code
def yX10_isKind : MethodName := ⟨RX10, "isKind", "(I)Z"⟩
abbrev cX10_isSheet : ByteArray := prog_1_method_46_code
def yX10_isSheet : MethodName := ⟨RX10, "isSheet", "(I)Z"⟩
abbrev cX10_isSlot : ByteArray := prog_1_method_47_code
def yX10_isSlot : MethodName := ⟨RX10, "isSlot", "(I)Z"⟩
abbrev cX10_heldWithin999 : ByteArray := prog_1_method_48_code
def yX10_heldWithin999 : MethodName := ⟨RX10, "heldWithin999", "(I)I"⟩
abbrev cX10_basicOf : ByteArray := prog_1_method_49_code
def yX10_basicOf : MethodName := ⟨RX10, "basicOf", "(II)I"⟩
def RX11 : String := "BurdenHouseModel"
def TX11 : u_T := fun k => match k with
  | 0 => ("BurdenHouseModel", "s", "[I", true)
  | 1 => ("BurdenHouseModel", "image", "[I", true)
  | 2 => ("BurdenHouseModel", "aside", "[I", true)
  | 3 => ("BurdenHouseModel", "hasImage", "Z", false)
  | 4 => ("BurdenHouseModel", "tSort", "[I", true)
  | 5 => ("BurdenHouseModel", "tSize", "[I", true)
  | 6 => ("BurdenHouseModel", "tNumber", "[I", true)
  | 7 => ("BurdenHouseModel", "held", "[I", true)
  | 8 => ("BurdenHouseModel", "heldNumber", "[I", true)
  | 9 => ("BurdenHouseModel", "heldShare", "[I", true)
  | 10 => ("BurdenHouseModel", "heldSize", "[I", true)
  | 11 => ("BurdenHouseModel", "heldRow", "[I", true)
  | 12 => ("BurdenHouseModel", "weights", "[J", true)
  | 13 => ("BurdenHouseModel", "parts", "[I", true)
  | 14 => ("BurdenHouseModel", "rests", "[J", true)
  | 15 => ("BurdenHouseModel", "tops", "[I", true)
  | 16 => ("BurdenHouseModel", "inRing", "[I", true)
  | 17 => ("BurdenHouseModel", "followed", "I", false)
  | 18 => ("BurdenHouseModel", "tape", "[I", true)
  | 19 => ("BurdenHouseModel", "taped", "I", false)
  | 20 => ("BurdenHouseModel", "begin", "I", false)
  | 21 => ("BurdenHouseModel", "behind", "I", false)
  | 22 => ("BurdenHouseModel", "token", "I", false)
  | 23 => ("BurdenHouseModel", "number", "I", false)
  | 24 => ("BurdenHouseModel", "letter", "I", false)
  | 25 => ("BurdenHouseModel", "deep", "I", false)
  | 26 => ("BurdenHouseModel", "turned", "I", false)
  | 27 => ("BurdenHouseModel", "laid", "I", false)
  | 28 => ("BurdenHouseModel", "laidAt", "I", false)
  | 29 => ("BurdenHouseModel", "said", "I", false)
  | 30 => ("BurdenHouseModel", "named", "[I", true)
  | 31 => ("BurdenHouseModel", "pile", "[I", true)
  | 32 => ("BurdenHouseModel", "carried", "[I", true)
  | 33 => ("BurdenHouseModel", "waits", "[I", true)
  | 34 => ("BurdenHouseModel", "waiting", "I", false)
  | _ => ("BurdenHouseModel", "row", "[I", true)
def tyX11 : Nat → FieldType := fun k => match k with
  | 0 => .array .int
  | 1 => .array .int
  | 2 => .array .int
  | 3 => .boolean
  | 4 => .array .int
  | 5 => .array .int
  | 6 => .array .int
  | 7 => .array .int
  | 8 => .array .int
  | 9 => .array .int
  | 10 => .array .int
  | 11 => .array .int
  | 12 => .array .long
  | 13 => .array .int
  | 14 => .array .long
  | 15 => .array .int
  | 16 => .array .int
  | 17 => .int
  | 18 => .array .int
  | 19 => .int
  | 20 => .int
  | 21 => .int
  | 22 => .int
  | 23 => .int
  | 24 => .int
  | 25 => .int
  | 26 => .int
  | 27 => .int
  | 28 => .int
  | 29 => .int
  | 30 => .array .int
  | 31 => .array .int
  | 32 => .array .int
  | 33 => .array .int
  | 34 => .int
  | _ => .array .int
abbrev wsX110 : List Cond := u_ws RX11 TX11 36
theorem nmX11 : ∀ a, a < 36 → ∀ b, b < 36 → a ≠ b → (TX11 a).2.1 ≠ (TX11 b).2.1 := by decide +kernel
theorem tyX11_ok : ∀ k, k < 36 → parseFieldDescriptor (TX11 k).2.2.1 = some (tyX11 k) := by decide +kernel
abbrev cX11_init : ByteArray := prog_13_method_1_code
def yX11_init : MethodName := ⟨RX11, "<init>", "()V"⟩
abbrev cX11_isIn : ByteArray := prog_13_method_2_code
def yX11_isIn : MethodName := ⟨RX11, "isIn", "(JJJ)Z"⟩
abbrev cX11_orNone : ByteArray := prog_13_method_3_code
def yX11_orNone : MethodName := ⟨RX11, "orNone", "(I)I"⟩
abbrev cX11_least : ByteArray := prog_13_method_4_code
def yX11_least : MethodName := ⟨RX11, "least", "(II)I"⟩
abbrev cX11_heldIn : ByteArray := prog_13_method_5_code
def yX11_heldIn : MethodName := ⟨RX11, "heldIn", "(II)I"⟩
abbrev cX11_becomes : ByteArray := prog_13_method_6_code
def yX11_becomes : MethodName := ⟨RX11, "becomes", "(II)I"⟩
abbrev cX11_binAt : ByteArray := prog_13_method_7_code
def yX11_binAt : MethodName := ⟨RX11, "binAt", "(I)I"⟩
abbrev cX11_layerAt : ByteArray := prog_13_method_8_code
def yX11_layerAt : MethodName := ⟨RX11, "layerAt", "(I)I"⟩
abbrev cX11_ladleAt : ByteArray := prog_13_method_9_code
def yX11_ladleAt : MethodName := ⟨RX11, "ladleAt", "(I)I"⟩
abbrev cX11_textAt : ByteArray := prog_13_method_10_code
def yX11_textAt : MethodName := ⟨RX11, "textAt", "(I)I"⟩
abbrev cX11_isBin : ByteArray := prog_13_method_11_code
def yX11_isBin : MethodName := ⟨RX11, "isBin", "(I)Z"⟩
abbrev cX11_isText : ByteArray := prog_13_method_12_code
def yX11_isText : MethodName := ⟨RX11, "isText", "(I)Z"⟩
abbrev cX11_bulkOf : ByteArray := prog_13_method_13_code
def yX11_bulkOf : MethodName := ⟨RX11, "bulkOf", "(II)I"⟩
abbrev cX11_ironOf : ByteArray := prog_13_method_14_code
def yX11_ironOf : MethodName := ⟨RX11, "ironOf", "(III)I"⟩
abbrev cX11_acidOf : ByteArray := prog_13_method_15_code
def yX11_acidOf : MethodName := ⟨RX11, "acidOf", "(III)I"⟩
abbrev cX11_limeOf : ByteArray := prog_13_method_16_code
def yX11_limeOf : MethodName := ⟨RX11, "limeOf", "(III)I"⟩
abbrev cX11_holdsOf : ByteArray := prog_13_method_17_code
def yX11_holdsOf : MethodName := ⟨RX11, "holdsOf", "(I)I"⟩
abbrev cX11_brings : ByteArray := prog_13_method_18_code
def yX11_brings : MethodName := ⟨RX11, "brings", "(III)I"⟩
abbrev cX11_bin : ByteArray := prog_13_method_19_code
def yX11_bin : MethodName := ⟨RX11, "bin", "(III)I"⟩
abbrev cX11_told : ByteArray := prog_13_method_20_code
def yX11_told : MethodName := ⟨RX11, "told", "(II)I"⟩
abbrev cX11_of : ByteArray := prog_13_method_21_code
def yX11_of : MethodName := ⟨RX11, "of", "(III)I"⟩
abbrev cX11_isOf : ByteArray := prog_13_method_22_code
def yX11_isOf : MethodName := ⟨RX11, "isOf", "(II)Z"⟩
abbrev cX11_as : ByteArray := prog_13_method_23_code
def yX11_as : MethodName := ⟨RX11, "as", "(II)I"⟩
abbrev cX11_fill : ByteArray := prog_13_method_24_code
def yX11_fill : MethodName := ⟨RX11, "fill", "(II)I"⟩
abbrev cX11_turns : ByteArray := prog_13_method_25_code
def yX11_turns : MethodName := ⟨RX11, "turns", "(II)I"⟩
abbrev cX11_rule : ByteArray := prog_13_method_26_code
def yX11_rule : MethodName := ⟨RX11, "rule", "(II)I"⟩
abbrev cX11_empty : ByteArray := prog_13_method_27_code
def yX11_empty : MethodName := ⟨RX11, "empty", "(II)I"⟩
abbrev cX11_part : ByteArray := prog_13_method_28_code
def yX11_part : MethodName := ⟨RX11, "part", "(I)V"⟩
abbrev cX11_areaOf : ByteArray := prog_13_method_29_code
def yX11_areaOf : MethodName := ⟨RX11, "areaOf", "(I)I"⟩
abbrev cX11_bulkIn : ByteArray := prog_13_method_30_code
def yX11_bulkIn : MethodName := ⟨RX11, "bulkIn", "(I)I"⟩
abbrev cX11_topOf : ByteArray := prog_13_method_31_code
def yX11_topOf : MethodName := ⟨RX11, "topOf", "(I)I"⟩
abbrev cX11_greatestTop : ByteArray := prog_13_method_32_code
def yX11_greatestTop : MethodName := ⟨RX11, "greatestTop", "()I"⟩
abbrev cX11_allBulk : ByteArray := prog_13_method_33_code
def yX11_allBulk : MethodName := ⟨RX11, "allBulk", "()I"⟩
abbrev cX11_resistance : ByteArray := prog_13_method_34_code
def yX11_resistance : MethodName := ⟨RX11, "resistance", "(I)I"⟩
abbrev cX11_slide : ByteArray := prog_13_method_35_code
def yX11_slide : MethodName := ⟨RX11, "slide", "(I)V"⟩
abbrev cX11_comes : ByteArray := prog_13_method_36_code
def yX11_comes : MethodName := ⟨RX11, "comes", "(II)V"⟩
abbrev cX11_charge : ByteArray := prog_13_method_37_code
def yX11_charge : MethodName := ⟨RX11, "charge", "(II)I"⟩
abbrev cX11_bulkOfLayer : ByteArray := prog_13_method_38_code
def yX11_bulkOfLayer : MethodName := ⟨RX11, "bulkOfLayer", "(I)I"⟩
abbrev cX11_layer : ByteArray := prog_13_method_39_code
def yX11_layer : MethodName := ⟨RX11, "layer", "(II)I"⟩
abbrev cX11_basic : ByteArray := prog_13_method_40_code
def yX11_basic : MethodName := ⟨RX11, "basic", "()I"⟩
abbrev cX11_gasNow : ByteArray := prog_13_method_41_code
def yX11_gasNow : MethodName := ⟨RX11, "gasNow", "()I"⟩
abbrev cX11_partGas : ByteArray := prog_13_method_42_code
def yX11_partGas : MethodName := ⟨RX11, "partGas", "()V"⟩
abbrev cX11_ring : ByteArray := prog_13_method_43_code
def yX11_ring : MethodName := ⟨RX11, "ring", "(II)I"⟩
abbrev cX11_goes : ByteArray := prog_13_method_44_code
def yX11_goes : MethodName := ⟨RX11, "goes", "(III)V"⟩
abbrev cX11_oneHour : ByteArray := prog_13_method_45_code
def yX11_oneHour : MethodName := ⟨RX11, "oneHour", "()V"⟩
abbrev cX11_run : ByteArray := prog_13_method_46_code
def yX11_run : MethodName := ⟨RX11, "run", "(I)I"⟩
abbrev cX11_round : ByteArray := prog_13_method_47_code
def yX11_round : MethodName := ⟨RX11, "round", "()I"⟩
abbrev cX11_hearth : ByteArray := prog_13_method_48_code
def yX11_hearth : MethodName := ⟨RX11, "hearth", "(I)I"⟩
abbrev cX11_castOut : ByteArray := prog_13_method_49_code
def yX11_castOut : MethodName := ⟨RX11, "castOut", "(I)V"⟩
abbrev cX11_cast : ByteArray := prog_13_method_50_code
def yX11_cast : MethodName := ⟨RX11, "cast", "(I)I"⟩
abbrev cX11_setAside : ByteArray := prog_13_method_51_code
def yX11_setAside : MethodName := ⟨RX11, "setAside", "([I[I)V"⟩
abbrev cX11_down : ByteArray := prog_13_method_52_code
def yX11_down : MethodName := ⟨RX11, "down", "(I)I"⟩
abbrev cX11_feed : ByteArray := prog_13_method_53_code
def yX11_feed : MethodName := ⟨RX11, "feed", "(III)I"⟩
abbrev cX11_trim : ByteArray := prog_13_method_54_code
def yX11_trim : MethodName := ⟨RX11, "trim", "(I)I"⟩
abbrev cX11_isLetter : ByteArray := prog_13_method_55_code
def yX11_isLetter : MethodName := ⟨RX11, "isLetter", "(I)Z"⟩
abbrev cX11_isDigit : ByteArray := prog_13_method_56_code
def yX11_isDigit : MethodName := ⟨RX11, "isDigit", "(I)Z"⟩
abbrev cX11_next : ByteArray := prog_13_method_57_code
def yX11_next : MethodName := ⟨RX11, "next", "()V"⟩
abbrev cX11_isSign : ByteArray := prog_13_method_58_code
def yX11_isSign : MethodName := ⟨RX11, "isSign", "(I)Z"⟩
abbrev cX11_isWordAt : ByteArray := prog_13_method_59_code
def yX11_isWordAt : MethodName := ⟨RX11, "isWordAt", "(IIII)Z"⟩
abbrev cX11_key : ByteArray := prog_13_method_60_code
def yX11_key : MethodName := ⟨RX11, "key", "()I"⟩
abbrev cX11_isName : ByteArray := prog_13_method_61_code
def yX11_isName : MethodName := ⟨RX11, "isName", "(II)Z"⟩
abbrev cX11_step : ByteArray := prog_13_method_62_code
def yX11_step : MethodName := ⟨RX11, "step", "(II)V"⟩
abbrev cX11_either : ByteArray := prog_13_method_63_code
def yX11_either : MethodName := ⟨RX11, "either", "(I)Z"⟩
abbrev cX11_both : ByteArray := prog_13_method_64_code
def yX11_both : MethodName := ⟨RX11, "both", "(I)Z"⟩
abbrev cX11_test : ByteArray := prog_13_method_65_code
def yX11_test : MethodName := ⟨RX11, "test", "(I)Z"⟩
abbrev cX11_sum : ByteArray := prog_13_method_66_code
def yX11_sum : MethodName := ⟨RX11, "sum", "(I)Z"⟩
abbrev cX11_term : ByteArray := prog_13_method_67_code
def yX11_term : MethodName := ⟨RX11, "term", "(I)Z"⟩
abbrev cX11_part0 : ByteArray := prog_13_method_68_code
def yX11_part0 : MethodName := ⟨RX11, "part0", "(I)Z"⟩
abbrev cX11_parse : ByteArray := prog_13_method_69_code
def yX11_parse : MethodName := ⟨RX11, "parse", "()I"⟩
abbrev cX11_text : ByteArray := prog_13_method_70_code
def yX11_text : MethodName := ⟨RX11, "text", "()I"⟩
abbrev cX11_textTold : ByteArray := prog_13_method_71_code
def yX11_textTold : MethodName := ⟨RX11, "textTold", "(II)I"⟩
abbrev cX11_counts : ByteArray := prog_13_method_72_code
def yX11_counts : MethodName := ⟨RX11, "counts", "(I)I"⟩
abbrev cX11_why : ByteArray := prog_13_method_73_code
def yX11_why : MethodName := ⟨RX11, "why", "(II)I"⟩
abbrev cX11_joined : ByteArray := prog_13_method_74_code
def yX11_joined : MethodName := ⟨RX11, "joined", "(III)I"⟩
abbrev cX11_worked : ByteArray := prog_13_method_75_code
def yX11_worked : MethodName := ⟨RX11, "worked", "(I)I"⟩
abbrev cX11_choose : ByteArray := prog_13_method_76_code
def yX11_choose : MethodName := ⟨RX11, "choose", "(I)I"⟩
abbrev cX11_clear : ByteArray := prog_13_method_77_code
def yX11_clear : MethodName := ⟨RX11, "clear", "()I"⟩
abbrev cX11_ofBurden : ByteArray := prog_13_method_78_code
def yX11_ofBurden : MethodName := ⟨RX11, "ofBurden", "(II)I"⟩
abbrev cX11_burden : ByteArray := prog_13_method_79_code
def yX11_burden : MethodName := ⟨RX11, "burden", "(III)I"⟩
abbrev cX11_ladle : ByteArray := prog_13_method_80_code
def yX11_ladle : MethodName := ⟨RX11, "ladle", "(I)I"⟩
abbrev cX11_backAt : ByteArray := prog_13_method_81_code
def yX11_backAt : MethodName := ⟨RX11, "backAt", "(I)I"⟩
abbrev cX11_pour : ByteArray := prog_13_method_82_code
def yX11_pour : MethodName := ⟨RX11, "pour", "(II)I"⟩
abbrev cX11_isSheet : ByteArray := prog_13_method_83_code
def yX11_isSheet : MethodName := ⟨RX11, "isSheet", "(I)Z"⟩
abbrev cX11_sheet : ByteArray := prog_13_method_84_code
def yX11_sheet : MethodName := ⟨RX11, "sheet", "(III)I"⟩
abbrev cX11_mark : ByteArray := prog_13_method_85_code
def yX11_mark : MethodName := ⟨RX11, "mark", "(III)I"⟩
abbrev cX11_sound : ByteArray := prog_13_method_86_code
def yX11_sound : MethodName := ⟨RX11, "sound", "(III)I"⟩
abbrev cX11_tops : ByteArray := prog_13_method_87_code
def yX11_tops : MethodName := ⟨RX11, "tops", "(II)I"⟩
abbrev cX11_copy : ByteArray := prog_13_method_88_code
def yX11_copy : MethodName := ⟨RX11, "copy", "(IIIII)I"⟩
abbrev cX11_isSlot : ByteArray := prog_13_method_89_code
def yX11_isSlot : MethodName := ⟨RX11, "isSlot", "(I)Z"⟩
abbrev cX11_lay : ByteArray := prog_13_method_90_code
def yX11_lay : MethodName := ⟨RX11, "lay", "(III)I"⟩
abbrev cX11_ask : ByteArray := prog_13_method_91_code
def yX11_ask : MethodName := ⟨RX11, "ask", "(II)I"⟩
abbrev cX11_item : ByteArray := prog_13_method_92_code
def yX11_item : MethodName := ⟨RX11, "item", "(II)I"⟩
abbrev cX11_rest : ByteArray := prog_13_method_93_code
def yX11_rest : MethodName := ⟨RX11, "rest", "(II)I"⟩
abbrev cX11_tell : ByteArray := prog_13_method_94_code
def yX11_tell : MethodName := ⟨RX11, "tell", "(I)I"⟩
abbrev cX11_check : ByteArray := prog_13_method_95_code
def yX11_check : MethodName := ⟨RX11, "check", "(I)I"⟩
abbrev cX11_keep : ByteArray := prog_13_method_96_code
def yX11_keep : MethodName := ⟨RX11, "keep", "()I"⟩
abbrev cX11_back : ByteArray := prog_13_method_97_code
def yX11_back : MethodName := ⟨RX11, "back", "()I"⟩
abbrev cX11_count : ByteArray := prog_13_method_98_code
def yX11_count : MethodName := ⟨RX11, "count", "(I)I"⟩
def RJ11 : String := "java/lang/Character"
def TJ11 : u_T := fun k => match k with
  | _ => ("", "", "", false)
def tyJ11 : Nat → FieldType := fun k => match k with
  | _ => .int
abbrev wsJ110 : List Cond := u_ws RJ11 TJ11 0
theorem nmJ11 : ∀ a, a < 0 → ∀ b, b < 0 → a ≠ b → (TJ11 a).2.1 ≠ (TJ11 b).2.1 := by decide +kernel
theorem tyJ11_ok : ∀ k, k < 0 → parseFieldDescriptor (TJ11 k).2.2.1 = some (tyJ11 k) := by decide +kernel
abbrev cJ11_isValidCodePoint_9a6ad : ByteArray := prog_14_method_11_code
def yJ11_isValidCodePoint_9a6ad : MethodName := ⟨RJ11, "isValidCodePoint", "(I)Z"⟩
abbrev cJ11_highSurrogate_5068e : ByteArray := prog_14_method_28_code
def yJ11_highSurrogate_5068e : MethodName := ⟨RJ11, "highSurrogate", "(I)C"⟩
abbrev cJ11_lowSurrogate_5068e : ByteArray := prog_14_method_29_code
def yJ11_lowSurrogate_5068e : MethodName := ⟨RJ11, "lowSurrogate", "(I)C"⟩
def RJ9 : String := "java/lang/Math"
def TJ9 : u_T := fun k => match k with
  | _ => ("", "", "", false)
def tyJ9 : Nat → FieldType := fun k => match k with
  | _ => .int
abbrev wsJ90 : List Cond := u_ws RJ9 TJ9 0
theorem nmJ9 : ∀ a, a < 0 → ∀ b, b < 0 → a ≠ b → (TJ9 a).2.1 ≠ (TJ9 b).2.1 := by decide +kernel
theorem tyJ9_ok : ∀ k, k < 0 → parseFieldDescriptor (TJ9 k).2.2.1 = some (tyJ9 k) := by decide +kernel
abbrev cJ9_abs_0f7a4 : ByteArray := prog_15_method_59_code
def yJ9_abs_0f7a4 : MethodName := ⟨RJ9, "abs", "(I)I"⟩
abbrev cJ9_max_7cf53 : ByteArray := prog_15_method_65_code
def yJ9_max_7cf53 : MethodName := ⟨RJ9, "max", "(II)I"⟩
abbrev cJ9_min_7cf53 : ByteArray := prog_15_method_69_code
def yJ9_min_7cf53 : MethodName := ⟨RJ9, "min", "(II)I"⟩
def RJ0 : String := "java/lang/String"
def TJ0 : u_T := fun k => match k with
  | _ => ("", "", "", false)
def tyJ0 : Nat → FieldType := fun k => match k with
  | _ => .int
abbrev wsJ00 : List Cond := u_ws RJ0 TJ0 0
theorem nmJ0 : ∀ a, a < 0 → ∀ b, b < 0 → a ≠ b → (TJ0 a).2.1 ≠ (TJ0 b).2.1 := by decide +kernel
theorem tyJ0_ok : ∀ k, k < 0 → parseFieldDescriptor (TJ0 k).2.2.1 = some (tyJ0 k) := by decide +kernel
abbrev cJ0_length_8abf5 : ByteArray := prog_16_method_54_code
def yJ0_length_8abf5 : MethodName := ⟨RJ0, "length", "()I"⟩
abbrev cJ0_charAt_5068e : ByteArray := prog_16_method_56_code
def yJ0_charAt_5068e : MethodName := ⟨RJ0, "charAt", "(I)C"⟩
abbrev cJ0_indexOf_0f7a4 : ByteArray := prog_16_method_79_code
def yJ0_indexOf_0f7a4 : MethodName := ⟨RJ0, "indexOf", "(I)I"⟩
abbrev cJ0_indexOf_7cf53 : ByteArray := prog_16_method_80_code
def yJ0_indexOf_7cf53 : MethodName := ⟨RJ0, "indexOf", "(II)I"⟩
abbrev cJ0_coder_7d493 : ByteArray := prog_16_method_152_code
def yJ0_coder_7d493 : MethodName := ⟨RJ0, "coder", "()B"⟩
abbrev cJ0_isLatin1_aae02 : ByteArray := prog_16_method_154_code
def yJ0_isLatin1_aae02 : MethodName := ⟨RJ0, "isLatin1", "()Z"⟩
abbrev cJ0_checkIndex_df160 : ByteArray := prog_16_method_155_code
def yJ0_checkIndex_df160 : MethodName := ⟨RJ0, "checkIndex", "(II)V"⟩
abbrev cJ0_checkBoundsBeginEnd_23922 : ByteArray := prog_16_method_158_code
def yJ0_checkBoundsBeginEnd_23922 : MethodName := ⟨RJ0, "checkBoundsBeginEnd", "(III)V"⟩
def RJ1 : String := "java/lang/StringLatin1"
def TJ1 : u_T := fun k => match k with
  | _ => ("", "", "", false)
def tyJ1 : Nat → FieldType := fun k => match k with
  | _ => .int
abbrev wsJ10 : List Cond := u_ws RJ1 TJ1 0
theorem nmJ1 : ∀ a, a < 0 → ∀ b, b < 0 → a ≠ b → (TJ1 a).2.1 ≠ (TJ1 b).2.1 := by decide +kernel
theorem tyJ1_ok : ∀ k, k < 0 → parseFieldDescriptor (TJ1 k).2.2.1 = some (tyJ1 k) := by decide +kernel
abbrev cJ1_charAt_3b067 : ByteArray := prog_17_method_2_code
def yJ1_charAt_3b067 : MethodName := ⟨RJ1, "charAt", "([BI)C"⟩
abbrev cJ1_canEncode_9a6ad : ByteArray := prog_17_method_4_code
def yJ1_canEncode_9a6ad : MethodName := ⟨RJ1, "canEncode", "(I)Z"⟩
abbrev cJ1_indexOf_4cfef : ByteArray := prog_17_method_22_code
def yJ1_indexOf_4cfef : MethodName := ⟨RJ1, "indexOf", "([BIII)I"⟩
abbrev cJ1_indexOfChar_4cfef : ByteArray := prog_17_method_23_code
def yJ1_indexOfChar_4cfef : MethodName := ⟨RJ1, "indexOfChar", "([BIII)I"⟩
def RJ2 : String := "java/lang/StringUTF16"
def TJ2 : u_T := fun k => match k with
  | _ => ("", "", "", false)
def tyJ2 : Nat → FieldType := fun k => match k with
  | _ => .int
abbrev wsJ20 : List Cond := u_ws RJ2 TJ2 0
theorem nmJ2 : ∀ a, a < 0 → ∀ b, b < 0 → a ≠ b → (TJ2 a).2.1 ≠ (TJ2 b).2.1 := by decide +kernel
theorem tyJ2_ok : ∀ k, k < 0 → parseFieldDescriptor (TJ2 k).2.2.1 = some (tyJ2 k) := by decide +kernel
abbrev cJ2_getChar_3b067 : ByteArray := prog_18_method_5_code
def yJ2_getChar_3b067 : MethodName := ⟨RJ2, "getChar", "([BI)C"⟩
abbrev cJ2_length_9d52b : ByteArray := prog_18_method_6_code
def yJ2_length_9d52b : MethodName := ⟨RJ2, "length", "([B)I"⟩
abbrev cJ2_indexOf_4cfef : ByteArray := prog_18_method_40_code
def yJ2_indexOf_4cfef : MethodName := ⟨RJ2, "indexOf", "([BIII)I"⟩
abbrev cJ2_indexOfChar_4cfef : ByteArray := prog_18_method_47_code
def yJ2_indexOfChar_4cfef : MethodName := ⟨RJ2, "indexOfChar", "([BIII)I"⟩
abbrev cJ2_indexOfCharUnsafe_4cfef : ByteArray := prog_18_method_48_code
def yJ2_indexOfCharUnsafe_4cfef : MethodName := ⟨RJ2, "indexOfCharUnsafe", "([BIII)I"⟩
abbrev cJ2_indexOfSupplementary_4cfef : ByteArray := prog_18_method_49_code
def yJ2_indexOfSupplementary_4cfef : MethodName := ⟨RJ2, "indexOfSupplementary", "([BIII)I"⟩
abbrev cJ2_charAt_3b067 : ByteArray := prog_18_method_83_code
def yJ2_charAt_3b067 : MethodName := ⟨RJ2, "charAt", "([BI)C"⟩
abbrev cJ2_checkIndex_2214a : ByteArray := prog_18_method_91_code
def yJ2_checkIndex_2214a : MethodName := ⟨RJ2, "checkIndex", "(I[B)V"⟩
abbrev cJ2_checkBoundsBeginEnd_d044e : ByteArray := prog_18_method_93_code
def yJ2_checkBoundsBeginEnd_d044e : MethodName := ⟨RJ2, "checkBoundsBeginEnd", "(II[B)V"⟩
def RJ10 : String := "java/lang/System"
def TJ10 : u_T := fun k => match k with
  | _ => ("", "", "", false)
def tyJ10 : Nat → FieldType := fun k => match k with
  | _ => .int
abbrev wsJ100 : List Cond := u_ws RJ10 TJ10 0
theorem nmJ10 : ∀ a, a < 0 → ∀ b, b < 0 → a ≠ b → (TJ10 a).2.1 ≠ (TJ10 b).2.1 := by decide +kernel
theorem tyJ10_ok : ∀ k, k < 0 → parseFieldDescriptor (TJ10 k).2.2.1 = some (tyJ10 k) := by decide +kernel
def RJ3 : String := "jdk/internal/util/Preconditions"
def TJ3 : u_T := fun k => match k with
  | _ => ("", "", "", false)
def tyJ3 : Nat → FieldType := fun k => match k with
  | _ => .int
abbrev wsJ30 : List Cond := u_ws RJ3 TJ3 0
theorem nmJ3 : ∀ a, a < 0 → ∀ b, b < 0 → a ≠ b → (TJ3 a).2.1 ≠ (TJ3 b).2.1 := by decide +kernel
theorem tyJ3_ok : ∀ k, k < 0 → parseFieldDescriptor (TJ3 k).2.2.1 = some (tyJ3 k) := by decide +kernel
abbrev cJ3_checkIndex_8e157 : ByteArray := prog_20_method_11_code
def yJ3_checkIndex_8e157 : MethodName := ⟨RJ3, "checkIndex", "(IILjava/util/function/BiFunction;)I"⟩
abbrev cJ3_checkFromToIndex_8c36e : ByteArray := prog_20_method_12_code
def yJ3_checkFromToIndex_8c36e : MethodName := ⟨RJ3, "checkFromToIndex", "(IIILjava/util/function/BiFunction;)I"⟩
def RL : String := "BurdenHouseLaw"
abbrev cL_law : ByteArray := code
def yL_law : MethodName := ⟨RL, "law", "([I)Z"⟩
abbrev vwCl : List vw_C := [(RX0, TX0, 8), (RX1, TX1, 10), (RX2, TX2, 5), (RX3, TX3, 4), (RX4, TX4, 10), (RX5, TX5, 4), (RX6, TX6, 5), (RX8, TX8, 16), (RX9, TX9, 8), (RX10, TX10, 9), (RX11, TX11, 36)]

/-- the good words of the tables -/
def GW : List Cond := lw_tbl.filter goodWord
theorem gw_of {w : Cond} (h : w ∈ lw_tbl) (hg : goodWord w = true) : w ∈ GW := List.mem_filter.mpr ⟨h, hg⟩
theorem gw_good : ∀ w ∈ GW, w ∈ lw_tbl ∧ ((w.onTables && w.keeps) = true ∨ ∃ ty, w = .arrayClass ty) := fun w h => ⟨(List.mem_filter.mp h).1, good_of_word (List.mem_filter.mp h).2⟩
theorem tb_in {w : Cond} (h : w ∈ tables_1) : w ∈ lw_tbl := List.mem_append_right _ h
theorem gw_0 {w : Cond} (h : w ∈ k2_sels lw_privs) (hg : goodWord w = true) : w ∈ GW := gw_of (List.mem_append_left _ h) hg
theorem gw_1 {w : Cond} (h : w ∈ tables_1_1) (hg : goodWord w = true) : w ∈ GW := gw_of (tb_in (List.mem_append_left _ h)) hg
theorem gw_2 {w : Cond} (h : w ∈ tables_1_2) (hg : goodWord w = true) : w ∈ GW := gw_of (tb_in (List.mem_append_right _ (List.mem_append_left _ h))) hg
theorem gw_3 {w : Cond} (h : w ∈ tables_1_3) (hg : goodWord w = true) : w ∈ GW := gw_of (tb_in (List.mem_append_right _ (List.mem_append_right _ (List.mem_append_left _ h)))) hg
theorem gw_4 {w : Cond} (h : w ∈ tables_1_4) (hg : goodWord w = true) : w ∈ GW := gw_of (tb_in (List.mem_append_right _ (List.mem_append_right _ (List.mem_append_right _ (List.mem_append_left _ h))))) hg
theorem gw_5 {w : Cond} (h : w ∈ tables_1_5) (hg : goodWord w = true) : w ∈ GW := gw_of (tb_in (List.mem_append_right _ (List.mem_append_right _ (List.mem_append_right _ (List.mem_append_right _ (List.mem_append_left _ h)))))) hg
theorem gw_6 {w : Cond} (h : w ∈ tables_1_6) (hg : goodWord w = true) : w ∈ GW := gw_of (tb_in (List.mem_append_right _ (List.mem_append_right _ (List.mem_append_right _ (List.mem_append_right _ (List.mem_append_right _ (List.mem_append_left _ h))))))) hg
theorem gw_7 {w : Cond} (h : w ∈ tables_1_7) (hg : goodWord w = true) : w ∈ GW := gw_of (tb_in (List.mem_append_right _ (List.mem_append_right _ (List.mem_append_right _ (List.mem_append_right _ (List.mem_append_right _ (List.mem_append_right _ h))))))) hg
end
section
/-! the world: Sh = next free address, kind of each address, length of each array, reference fields and rows that stay; Mm = ints, longs, the rows of layers -/
abbrev Sh : Type := Nat × (Nat → Nat) × (Nat → Nat) × (Nat → Nat → Option Nat)
abbrev Mm : Type := (Nat → Nat → Int32) × (Nat → Nat → Int64) × (Nat → Nat → Option Nat)
def xz (X : Sh) : Nat := X.1
def xK (X : Sh) : Nat → Nat := X.2.1
def xN (X : Sh) : Nat → Nat := X.2.2.1
def xF (X : Sh) : Nat → Nat → Option Nat := X.2.2.2
def mI (M : Mm) : Nat → Nat → Int32 := M.1
def mJ (M : Mm) : Nat → Nat → Int64 := M.2.1
def mR (M : Mm) : Nat → Nat → Option Nat := M.2.2
def up2 {α : Type} (f : Nat → Nat → α) (a k : Nat) (v : α) : Nat → Nat → α := fun b j => if b = a ∧ j = k then v else f b j
def sI (M : Mm) (a k : Nat) (v : Int32) : Mm := (up2 (mI M) a k v, mJ M, mR M)
def sJ (M : Mm) (a k : Nat) (v : Int64) : Mm := (mI M, up2 (mJ M) a k v, mR M)
def sR (M : Mm) (a k : Nat) (v : Option Nat) : Mm := (mI M, mJ M, up2 (mR M) a k v)
theorem mI_sI (M : Mm) (a k : Nat) (v : Int32) : mI (sI M a k v) = up2 (mI M) a k v := rfl
theorem mJ_sI (M : Mm) (a k : Nat) (v : Int32) : mJ (sI M a k v) = mJ M := rfl
theorem mR_sI (M : Mm) (a k : Nat) (v : Int32) : mR (sI M a k v) = mR M := rfl
theorem mI_sJ (M : Mm) (a k : Nat) (v : Int64) : mI (sJ M a k v) = mI M := rfl
theorem mJ_sJ (M : Mm) (a k : Nat) (v : Int64) : mJ (sJ M a k v) = up2 (mJ M) a k v := rfl
theorem mR_sJ (M : Mm) (a k : Nat) (v : Int64) : mR (sJ M a k v) = mR M := rfl
theorem mI_sR (M : Mm) (a k : Nat) (v : Option Nat) : mI (sR M a k v) = mI M := rfl
theorem mJ_sR (M : Mm) (a k : Nat) (v : Option Nat) : mJ (sR M a k v) = mJ M := rfl
theorem mR_sR (M : Mm) (a k : Nat) (v : Option Nat) : mR (sR M a k v) = up2 (mR M) a k v := rfl
theorem up2_same {α : Type} (f : Nat → Nat → α) (a k : Nat) (v : α) : up2 f a k v a k = v := by simp [up2]
theorem up2_k {α : Type} (f : Nat → Nat → α) {a k j : Nat} (v : α) (b : Nat) (h : j ≠ k) : up2 f a k v b j = f b j := by simp [up2, h]
theorem up2_a {α : Type} (f : Nat → Nat → α) {a b : Nat} (k j : Nat) (v : α) (h : b ≠ a) : up2 f a k v b j = f b j := by simp [up2, h]
theorem up2_row (f : Nat → Nat → Int32) (a k : Nat) (v : Int32) : up2 f a k v a = upd (f a) k v := by funext j; simp [up2, upd]
theorem up2_rowL (f : Nat → Nat → Int64) (a k : Nat) (v : Int64) : up2 f a k v a = vp_updL (f a) k v := by funext j; simp [up2, vp_updL]
theorem up2_rowR (f : Nat → Nat → Option Nat) (a k : Nat) (v : Option Nat) : up2 f a k v a = va_up (f a) k v := by funext j; simp [up2, va_up]
theorem up2_off {α : Type} (f : Nat → Nat → α) {a b : Nat} (k : Nat) (v : α) (h : b ≠ a) : up2 f a k v b = f b := by funext j; simp [up2, h]
/-- the places of the reference fields of each class, and how many fields it has -/
def fRf : Nat → List Nat
  | 0 => [0, 1, 2, 3, 4, 6]
  | 1 => [4, 6, 7, 8, 9]
  | 2 => [0, 1, 2, 3, 4]
  | 3 => [0, 1]
  | 4 => [9]
  | 5 => [2, 3]
  | 6 => [4]
  | 7 => [0, 9, 11]
  | 8 => [0, 1, 2, 3, 4, 6, 7]
  | 9 => [0, 1, 3, 4, 5, 6, 7]
  | 10 => [0, 1, 2, 4, 5, 6, 7, 8, 9, 10, 11, 12, 13, 14, 15, 16, 18, 30, 31, 32, 33, 35]
  | _ => []
def nFd : Nat → Nat
  | 0 => 8
  | 1 => 10
  | 2 => 5
  | 3 => 4
  | 4 => 10
  | 5 => 4
  | 6 => 5
  | 7 => 16
  | 8 => 8
  | 9 => 9
  | 10 => 36
  | _ => 0
def fRef (ci k : Nat) : Bool := (fRf ci).contains k
abbrev Gl : Type := va_G × (Nat → Nat)
def AA (G : Gl) : Nat → Prop := fun q => G.2 7 ≤ q
def fVal (X : Sh) (M : Mm) (ci a k : Nat) : Value := if fRef ci k = true then va_rf (xF X a k) else .int (mI M a k)
def eObj (X : Sh) (M : Mm) (ci a : Nat) : va_E := .inr (ci, (List.range (nFd ci)).map (fVal X M ci a))
def ent (G : Gl) (X : Sh) (M : Mm) (a : Nat) : va_E :=
  if xK X a < 11 then eObj X M (xK X a) a
  else if xK X a = 11 then .inl (G.2 0, xN X a, .inl (mI M a))
  else if xK X a = 12 then .inl (G.2 1, xN X a, .inr (.inl (mJ M a)))
  else if xK X a = 13 then .inl (G.2 2, xN X a, .inl (fun i => vp_nar .boolean (mI M a i)))
  else if xK X a = 14 then .inl (G.2 3, xN X a, .inr (.inr (.inr (.inr (mR M a)))))
  else .inl (G.2 (xK X a - 11), xN X a, .inr (.inr (.inr (.inr (xF X a)))))
def LL (G : Gl) (X : Sh) : List Nat := ((List.range (xz X - G.2 7)).map (fun i => G.2 7 + i)).filter (fun a => xK X a != 99)
theorem LL_mem {G : Gl} {X : Sh} {a : Nat} : a ∈ LL G X ↔ (G.2 7 ≤ a ∧ a < xz X) ∧ xK X a ≠ 99 := by
  unfold LL
  rw [List.mem_filter, List.mem_map]
  constructor
  · rintro ⟨⟨i, hi, rfl⟩, h⟩
    have := List.mem_range.mp hi
    exact ⟨⟨by omega, by omega⟩, by simpa using h⟩
  · rintro ⟨⟨h1, h2⟩, h⟩
    exact ⟨⟨a - G.2 7, List.mem_range.mpr (by omega), by omega⟩, by simpa using h⟩
theorem LL_nodup (G : Gl) (X : Sh) : (LL G X).Nodup := by
  unfold LL
  refine List.Pairwise.filter _ (List.pairwise_map.mpr ?_)
  exact List.Pairwise.imp (fun h => by omega) List.pairwise_lt_range
theorem LL_D (G : Gl) (X : Sh) (f : Nat → va_E) : va_D (AA G) ([] ++ va_pl (LL G X) f) := by
  have hn := LL_nodup G X
  refine ⟨fun i j p q hi hj hpq => ?_, fun k q hk => ?_⟩
  · simp only [List.nil_append, va_pl, List.getElem?_map] at hi hj
    cases hi1 : (LL G X)[i]? with
    | none => rw [hi1] at hi; cases hi
    | some a =>
      cases hj1 : (LL G X)[j]? with
      | none => rw [hj1] at hj; cases hj
      | some b =>
        rw [hi1] at hi
        rw [hj1] at hj
        cases hi
        cases hj
        have hab : a = b := hpq
        subst hab
        exact (List.getElem?_inj (List.getElem?_eq_some_iff.mp hi1).1 hn).mp (hi1.trans hj1.symm)
  · simp only [List.nil_append, va_pl, List.getElem?_map] at hk
    cases hk1 : (LL G X)[k]? with
    | none => rw [hk1] at hk; cases hk
    | some a =>
      rw [hk1] at hk
      cases hk
      exact (LL_mem.mp (List.mem_of_getElem? hk1)).1.1
/-- the heap holds the world -/
def Rel (G : Gl) (X : Sh) (M : Mm) (H : Heap) : Prop := G.2 7 ≤ xz X ∧ (∀ a, xK X a ≠ 99 ↔ G.2 7 ≤ a ∧ a < xz X) ∧ va_P G.1 vwCl ([] ++ va_pl (LL G X) (ent G X M)) H
theorem Rel.at {G : Gl} {X : Sh} {M : Mm} {H : Heap} (h : Rel G X M H) {a : Nat} (ha : xK X a ≠ 99) : ∃ k : Nat, ([] ++ va_pl (LL G X) (ent G X M))[k]? = some (a, ent G X M a) := va_pl_get (LL_mem.mpr ⟨(h.2.1 a).mp ha, ha⟩)
/-- behind a write at a: the world with the entry changed -/
theorem Rel.set {G : Gl} {X : Sh} {M M' : Mm} {H H1 : Heap} (h : Rel G X M H) {a k : Nat} {e : va_E} (ha : xK X a ≠ 99) (hk : ([] ++ va_pl (LL G X) (ent G X M))[k]? = some (a, ent G X M a)) (hP : va_P G.1 vwCl (([] ++ va_pl (LL G X) (ent G X M)).set k (a, e)) H1) (he : ∀ b, va_up (ent G X M) a e b = ent G X M' b) : Rel G X M' H1 := by
  refine ⟨h.1, h.2.1, ?_⟩
  rw [va_pl_set (LL_D G X _) (LL_mem.mpr ⟨(h.2.1 a).mp ha, ha⟩) hk, va_pl_congr he] at hP
  exact hP
theorem ent_obj {G : Gl} {X : Sh} {M : Mm} {a ci : Nat} (ha : xK X a = ci) (hc : ci < 11) : ent G X M a = eObj X M ci a := by
  unfold ent
  rw [ha, if_pos hc]
theorem ent_i {G : Gl} {X : Sh} {M : Mm} {a : Nat} (ha : xK X a = 11) : ent G X M a = .inl (G.2 0, xN X a, .inl (mI M a)) := by
  unfold ent
  rw [ha]
  rfl
theorem ent_j {G : Gl} {X : Sh} {M : Mm} {a : Nat} (ha : xK X a = 12) : ent G X M a = .inl (G.2 1, xN X a, .inr (.inl (mJ M a))) := by
  unfold ent
  rw [ha]
  rfl
theorem ent_z {G : Gl} {X : Sh} {M : Mm} {a : Nat} (ha : xK X a = 13) : ent G X M a = .inl (G.2 2, xN X a, .inl (fun i => vp_nar .boolean (mI M a i))) := by
  unfold ent
  rw [ha]
  rfl
theorem ent_r {G : Gl} {X : Sh} {M : Mm} {a : Nat} (ha : xK X a = 14) : ent G X M a = .inl (G.2 3, xN X a, .inr (.inr (.inr (.inr (mR M a))))) := by
  unfold ent
  rw [ha]
  rfl
theorem ent_f {G : Gl} {X : Sh} {M : Mm} {a t : Nat} (ha : xK X a = t) (h : 14 < t) : ent G X M a = .inl (G.2 (t - 11), xN X a, .inr (.inr (.inr (.inr (xF X a))))) := by
  unfold ent
  rw [ha, if_neg (by omega), if_neg (by omega), if_neg (by omega), if_neg (by omega), if_neg (by omega)]
theorem fVal_I {X : Sh} {M : Mm} {ci a k : Nat} (h : fRef ci k = false) : fVal X M ci a k = .int (mI M a k) := by
  unfold fVal
  rw [h]
  rfl
theorem fVal_R {X : Sh} {M : Mm} {ci a k : Nat} (h : fRef ci k = true) : fVal X M ci a k = va_rf (xF X a k) := by
  unfold fVal
  rw [h]
  rfl
theorem rng_get {α : Type} (f : Nat → α) {n k : Nat} (h : k < n) : ((List.range n).map f)[k]? = some (f k) := by
  rw [List.getElem?_map, List.getElem?_range h]
  rfl
theorem rng_set {α : Type} (f g : Nat → α) {n k : Nat} (v : α) (hk : g k = v) (h : ∀ j, j ≠ k → g j = f j) : ((List.range n).map f).set k v = (List.range n).map g := by
  apply List.ext_getElem?
  intro j
  rw [List.getElem?_set, List.getElem?_map, List.getElem?_map]
  by_cases hj : k = j
  · subst hj
    rw [if_pos rfl]
    by_cases hl : k < n
    · rw [if_pos (by simpa using hl), List.getElem?_range hl, Option.map_some, hk]
    · rw [if_neg (by simpa using hl), List.getElem?_eq_none (by simpa using hl)]
      rfl
  · rw [if_neg hj]
    cases h2 : (List.range n)[j]? with
    | none => rfl
    | some b =>
      have hb : b = j := by
        have h3 := List.getElem?_eq_some_iff.mp h2
        have h4 := h3.2
        rw [List.getElem_range] at h4
        exact h4.symm
      subst hb
      rw [Option.map_some, Option.map_some, h b (fun q => hj q.symm)]
theorem ent_up {G : Gl} {X : Sh} {M M' : Mm} {a : Nat} {e : va_E} (h1 : ent G X M' a = e) (h2 : ∀ b, b ≠ a → ent G X M' b = ent G X M b) : ∀ b, va_up (ent G X M) a e b = ent G X M' b := by
  intro b
  by_cases hb : b = a
  · subst hb
    rw [va_up_self, h1]
  · rw [va_up_ne _ _ hb, h2 b hb]
theorem ent_off {G : Gl} {X : Sh} {M M' : Mm} {b : Nat} (h1 : mI M' b = mI M b) (h2 : mJ M' b = mJ M b) (h3 : mR M' b = mR M b) : ent G X M' b = ent G X M b := by
  unfold ent eObj
  have h4 : fVal X M' (xK X b) b = fVal X M (xK X b) b := by
    funext k
    unfold fVal
    rw [h1]
  rw [h1, h2, h3, h4]
/-- the texts of the String constants, in the order of their addresses -/
def kTx : List String := ["draw", "gas", "late", "htbs", "hti", "hc"]
def kIx : List Nat := [94, 100, 102, 125, 127, 129]
def kBy : List (List Int32) := [[100, 114, 97, 119], [103, 97, 115], [108, 97, 116, 101], [104, 116, 98, 115], [104, 116, 105], [104, 99]]
def areaV (j : Nat) : Int32 := [1, 3, 5, 7, 9].getD j 0
def aboveV (j : Nat) : Int32 := [-1, 0, 0, 1, 2, 0].getD j 0
/-- what was there before the law began and nobody writes: two static rows, six texts -/
def SE (G : Gl) (U : State) (H : Heap) : Prop :=
  va_Z "BurdenHouse$Furnace" "AREAS" "[I" (.ref (G.2 8)) (AA G) U H ∧ va_T .int (G.2 8) 5 (fun j => .int (areaV j)) (AA G) U H ∧
  va_Z "BurdenHouse$Stuff" "ABOVE" "[I" (.ref (G.2 9)) (AA G) U H ∧ va_T .int (G.2 9) 6 (fun j => .int (aboveV j)) (AA G) U H ∧
  vk_S 6 [4, 3, 4, 4, 3, 2] kBy (fun i => G.2 (10 + i)) (fun i => G.2 (16 + i)) (AA G) U H
def NW1 : List (String × Nat × MethodName) := [("BurdenHouse$House", 93, ⟨"BurdenHouse", "heldWithin999", "(I)I"⟩), ("BurdenHouse$Furnace", 71, ⟨"BurdenHouse", "basicOf", "(II)I"⟩), ("BurdenHouse$Bins", 56, ⟨"BurdenHouse", "basicOf", "(II)I"⟩), ("BurdenHouse$Bins", 59, ⟨"BurdenHouse", "isWithin", "(III)Z"⟩)]
abbrev tysA (G : Gl) : List (ClassId × FieldType) := [(G.2 0, .int), (G.2 1, .long), (G.2 2, .boolean), (G.2 3, .object RX4), (G.2 4, .object RX5), (G.2 5, .object RX6), (G.2 6, .array .int)]
/-- what the machine's tables say, in every state of the run -/
def KU (G : Gl) (U : State) : Prop := va_K G.1 vwCl (tysA G) U ∧ (∀ q ∈ NW1, va_Nw (.methodLinkNest q.1 q.2.1 q.2.2 "BurdenHouse") U) ∧ (∀ i, i < 6 → vk_R "BurdenHouse$Tape" (kIx.getD i 0) (kTx.getD i "") (G.2 (10 + i)) U)
theorem KU.warm {G : Gl} {s U : State} (hW : s.WarmedH U.vm) (h : KU G s) : KU G U := ⟨va_K.moved hW.alike h.1, fun q hq => (h.2.1 q hq).warmM hW, fun i hi => (h.2.2 i hi).warm hW⟩
theorem KU.same {G : Gl} {u U : State} (hv : u.vm = U.vm) (h : KU G u) : KU G U := ⟨va_K.moved (by rw [hv]; exact Vm.Alike.refl _) h.1, fun q hq => va_Nw.same rfl hv (h.2.1 q hq), fun i hi => vk_R.same hv.symm (h.2.2 i hi)⟩
theorem SE.moved {G : Gl} {u U : State} {H : Heap} (hvm : u.vm.Alike U.vm) (h : SE G u H) : SE G U H := ⟨va_Z.moved hvm h.1, va_T.moved hvm h.2.1, va_Z.moved hvm h.2.2.1, va_T.moved hvm h.2.2.2.1, vk_S.moved hvm h.2.2.2.2⟩
theorem SE.kept {G : Gl} {U : State} {H H1 : Heap} (h : SE G U H) (hq : ∀ a : Nat, a < H.size → ¬ AA G a → H1[a]? = H[a]?) : SE G U H1 := ⟨va_Z.kept h.1 hq, va_T.kept h.2.1 hq, va_Z.kept h.2.2.1 hq, va_T.kept h.2.2.2.1 hq, vk_S.kept h.2.2.2.2 hq⟩
/-- a method: its name, its code, its locals, what it answers -/
abbrev Md : Type := MethodName × ByteArray × Nat × Option FieldType
def rmd (d mc ms : Nat) : Room := { frames := d, cells := mc, slots := ms, locals := 40 * d }
def wsm (y : Md) : List Cond := .code y.1 y.2.1 y.2.2.1 y.2.2.2 :: GW
/-- what holds in a frame of y, whatever it does -/
def Cx (G : Gl) (y : Md) (p : Program) (s : State) (m : MethodId) (args : Array Value) (meth : Method) (c : Code) : Prop :=
  p.tables.exec = Jvm.exec ∧ c.code = y.2.1 ∧ c.maxLocals = y.2.2.1 ∧ meth.sig.returnType = y.2.2.2 ∧ meth.locks = false ∧ s.vm.findClass y.1.cls = some m.cls ∧ (∀ w ∈ GW, w.before args s = true) ∧ KU G s ∧ SE G s s.heap ∧ meth.name = y.1.name ∧ G.2 7 ≤ s.heap.size
/-- a method's end -/
def Qm (G : Gl) (Q : Sh → Mm → Option Value → Prop) : Array Value → State → Outcome → State → Prop := fun _ st oc t => (∃ (v : Option Value) (X : Sh) (M : Mm), oc = .returned v ∧ Q X M v ∧ Rel G X M t.heap ∧ t.heap.size = xz X) ∧ va_F (AA G) st t
/-- from this place of y's code the method comes to its end, and there Q -/
def Wp (G : Gl) (y : Md) (d mc ms ce sl pc : Nat) (lo : List (Nat × Value)) (st : List Value) (X : Sh) (M : Mm) (Q : Sh → Mm → Option Value → Prop) : Prop :=
  ∀ (p : Program) (l : Launch) (e : Env) (s : State) (m : MethodId) (args : Array Value) (below : List Frame) (meth : Method) (c : Code) (H : Heap) (locs : List Loc) (ls : Array Slot),
    Cx G y p s m args meth c → Rel G X M H → xz X = s.heap.size + ce → va_S (AA G) s.heap H locs → lv_has ls y.2.2.1 lo →
    W p l e (rmd d mc ms) s m args below meth c H locs ce sl (MQ below (Qm G Q) args s mc ms (AA G)) (F0 m pc ls st)
/-- y, called with these arguments in this world, comes to its end, and there Q -/
def Cl (G : Gl) (y : Md) (d mc ms : Nat) (as : List Value) (X : Sh) (M : Mm) (Q : Sh → Mm → Option Value → Prop) : Prop :=
  ∀ l : Launch, Met l y.1 (wsm y) (rmd d mc ms) (va_Pc as (fun U => KU G U ∧ SE G U U.heap ∧ Rel G X M U.heap ∧ U.heap.size = xz X)) (Qm G Q) mc ms (AA G)
theorem Cl.of {G : Gl} {y : Md} {d mc ms : Nat} {as : List Value} {X : Sh} {M : Mm} {Q : Sh → Mm → Option Value → Prop} (hy : plainName y.1.cls = true) (hn : (lg_sl as).length ≤ y.2.2.1) (h : Wp G y d mc ms 0 0 0 (lv_args 0 as) [] X M Q) : Cl G y d mc ms as X M Q := by
  intro l
  refine Met.ofW (cc := y.2.1) (maxL := y.2.2.1) (ret := y.2.2.2) hy rfl ?_
  intro p e s m args below meth c s₁ B hml hv
  obtain ⟨rfl, hK, hSE, hR, hz⟩ := hv
  have hts := atoms_spec (ws := wsm y) B.pre
  rw [lg_entry_eq]
  exact h p l e s m as.toArray below meth c s.heap [] _ ⟨B.exec, B.bytes, hml, B.returns, B.notSynchronized, findClass_of_methodNamed B.named, fun w hw => hts w (List.mem_cons_of_mem _ hw), hK, hSE, (name_of_methodNamed B.named B.method).1, by rw [hz]; exact hR.1⟩ hR hz.symm va_S.rf (lv_entry as hn)
theorem Wp.sub {G : Gl} {y : Md} {d mc ms ce sl pc : Nat} {lo lo' : List (Nat × Value)} {st : List Value} {X : Sh} {M : Mm} {Q : Sh → Mm → Option Value → Prop} (is : List Nat) (hs : lv_pick lo is = lo') (h : Wp G y d mc ms ce sl pc lo' st X M Q) : Wp G y d mc ms ce sl pc lo st X M Q :=
  fun p l e s m args below meth c H locs ls hC hR hz hS hl => h p l e s m args below meth c H locs ls hC hR hz hS (lv_sub hl is hs)
theorem W.sized {p : Program} {l : Launch} {e : Env} {R : Room} {s : State} {m : MethodId} {args : Array Value} {below : List Frame} {meth : Method} {c : Code} {H : Heap} {locs : List Loc} {cells slots : Nat} {Z : State → Prop} {g : JFrame} (k : H.size ≤ s.heap.size + cells → W p l e R s m args below meth c H locs cells slots Z g) : W p l e R s m args below meth c H locs cells slots Z g := by
  intro T hT X
  have h := X.same.2.2.1
  have h2 : (T.setVm s.vm).heap = H := hT
  rw [h2] at h
  exact k h T hT X
theorem Rel.size {G : Gl} {X : Sh} {M : Mm} {H : Heap} {s : State} {locs : List Loc} {ce : Nat} (hR : Rel G X M H) (hz : xz X = s.heap.size + ce) (hb : G.2 7 ≤ s.heap.size) (hS : va_S (AA G) s.heap H locs) (h : H.size ≤ s.heap.size + ce) : H.size = xz X := by
  have h0 := hS.1
  rcases Nat.eq_zero_or_pos ce with h1 | h1
  · omega
  · obtain ⟨k, hk⟩ := hR.at (a := xz X - 1) ((hR.2.1 _).mpr ⟨by omega, by omega⟩)
    have h2 := (hR.2.2 k _ hk).lt
    have h3 : xz X - 1 < H.size := h2
    omega
section ROWS
variable {G : Gl} {y : Md} {d mc ms ce sl pc : Nat} {lo : List (Nat × Value)} {st : List Value} {X : Sh} {M : Mm} {Q : Sh → Mm → Option Value → Prop}
theorem wp_iconst {n : Int} {v : Int32} (hd : decode y.2.1 pc = .ok (.iconst n, 1)) (hv : Int32.ofInt n = v) (k : Wp G y d mc ms ce sl (pc + 1) lo (.int v :: st) X M Q) : Wp G y d mc ms ce sl pc lo (st) X M Q := by
  intro p l e s m args below meth c H locs ls hC hR hz hS hl
  exact lv_iconst hC.1 hC.2.1 hd hv (k p l e s m args below meth c H locs ls hC hR hz hS hl)
theorem wp_bipush {n : Int} {v : Int32} (hd : decode y.2.1 pc = .ok (.bipush n, 2)) (hv : (Int8.ofInt n).toInt32 = v) (k : Wp G y d mc ms ce sl (pc + 2) lo (.int v :: st) X M Q) : Wp G y d mc ms ce sl pc lo (st) X M Q := by
  intro p l e s m args below meth c H locs ls hC hR hz hS hl
  exact lv_bipush hC.1 hC.2.1 hd hv (k p l e s m args below meth c H locs ls hC hR hz hS hl)
theorem wp_sipush {n : Int} {v : Int32} (hd : decode y.2.1 pc = .ok (.sipush n, 3)) (hv : (Int16.ofInt n).toInt32 = v) (k : Wp G y d mc ms ce sl (pc + 3) lo (.int v :: st) X M Q) : Wp G y d mc ms ce sl pc lo (st) X M Q := by
  intro p l e s m args below meth c H locs ls hC hR hz hS hl
  exact lv_sipush hC.1 hC.2.1 hd hv (k p l e s m args below meth c H locs ls hC hR hz hS hl)
theorem wp_lconst {n : Fin 2} {v : Int64} (hd : decode y.2.1 pc = .ok (.lconst n, 1)) (hv : Int64.ofNat (n : Nat) = v) (k : Wp G y d mc ms ce sl (pc + 1) lo (.long v :: st) X M Q) : Wp G y d mc ms ce sl pc lo (st) X M Q := by
  intro p l e s m args below meth c H locs ls hC hR hz hS hl
  exact lv_lconst hC.1 hC.2.1 hd hv (k p l e s m args below meth c H locs ls hC hR hz hS hl)
theorem wp_iload_n {j : Fin 4} {i : Nat} {x : Int32} (q : Nat) (hd : decode y.2.1 pc = .ok (.iload_n j, 1)) (hi : (j : Nat) = i) (hq : lo[q]? = some (i, .int x)) (k : Wp G y d mc ms ce sl (pc + 1) lo (.int x :: st) X M Q) : Wp G y d mc ms ce sl pc lo (st) X M Q := by
  intro p l e s m args below meth c H locs ls hC hR hz hS hl
  exact lv_iload_n hC.1 hC.2.1 hd hi (lv_at hl q hq) (k p l e s m args below meth c H locs ls hC hR hz hS hl)
theorem wp_iload {i : Nat} {x : Int32} (q : Nat) (hd : decode y.2.1 pc = .ok (.iload i, 2)) (hq : lo[q]? = some (i, .int x)) (k : Wp G y d mc ms ce sl (pc + 2) lo (.int x :: st) X M Q) : Wp G y d mc ms ce sl pc lo (st) X M Q := by
  intro p l e s m args below meth c H locs ls hC hR hz hS hl
  exact lv_iload hC.1 hC.2.1 hd (lv_at hl q hq) (k p l e s m args below meth c H locs ls hC hR hz hS hl)
theorem wp_lload_n {j : Fin 4} {i : Nat} {x : Int64} (q : Nat) (hd : decode y.2.1 pc = .ok (.lload_n j, 1)) (hi : (j : Nat) = i) (hq : lo[q]? = some (i, .long x)) (k : Wp G y d mc ms ce sl (pc + 1) lo (.long x :: st) X M Q) : Wp G y d mc ms ce sl pc lo (st) X M Q := by
  intro p l e s m args below meth c H locs ls hC hR hz hS hl
  exact lv_lload_n hC.1 hC.2.1 hd hi (lv_at hl q hq) (k p l e s m args below meth c H locs ls hC hR hz hS hl)
theorem wp_lload {i : Nat} {x : Int64} (q : Nat) (hd : decode y.2.1 pc = .ok (.lload i, 2)) (hq : lo[q]? = some (i, .long x)) (k : Wp G y d mc ms ce sl (pc + 2) lo (.long x :: st) X M Q) : Wp G y d mc ms ce sl pc lo (st) X M Q := by
  intro p l e s m args below meth c H locs ls hC hR hz hS hl
  exact lv_lload hC.1 hC.2.1 hd (lv_at hl q hq) (k p l e s m args below meth c H locs ls hC hR hz hS hl)
theorem wp_aload_n {j : Fin 4} {i : Nat} {x : Nat} (q : Nat) (hd : decode y.2.1 pc = .ok (.aload_n j, 1)) (hi : (j : Nat) = i) (hq : lo[q]? = some (i, .ref x)) (k : Wp G y d mc ms ce sl (pc + 1) lo (.ref x :: st) X M Q) : Wp G y d mc ms ce sl pc lo (st) X M Q := by
  intro p l e s m args below meth c H locs ls hC hR hz hS hl
  exact lv_aload_n hC.1 hC.2.1 hd hi (lv_at hl q hq) (k p l e s m args below meth c H locs ls hC hR hz hS hl)
theorem wp_aload {i : Nat} {x : Nat} (q : Nat) (hd : decode y.2.1 pc = .ok (.aload i, 2)) (hq : lo[q]? = some (i, .ref x)) (k : Wp G y d mc ms ce sl (pc + 2) lo (.ref x :: st) X M Q) : Wp G y d mc ms ce sl pc lo (st) X M Q := by
  intro p l e s m args below meth c H locs ls hC hR hz hS hl
  exact lv_aload hC.1 hC.2.1 hd (lv_at hl q hq) (k p l e s m args below meth c H locs ls hC hR hz hS hl)
theorem wp_iadd {x y2 : Int32} (hd : decode y.2.1 pc = .ok (.iadd, 1)) (k : Wp G y d mc ms ce sl (pc + 1) lo (.int (x + y2) :: st) X M Q) : Wp G y d mc ms ce sl pc lo (.int y2 :: .int x :: st) X M Q := by
  intro p l e s m args below meth c H locs ls hC hR hz hS hl
  exact lv_iadd hC.1 hC.2.1 hd (k p l e s m args below meth c H locs ls hC hR hz hS hl)
theorem wp_isub {x y2 : Int32} (hd : decode y.2.1 pc = .ok (.isub, 1)) (k : Wp G y d mc ms ce sl (pc + 1) lo (.int (x - y2) :: st) X M Q) : Wp G y d mc ms ce sl pc lo (.int y2 :: .int x :: st) X M Q := by
  intro p l e s m args below meth c H locs ls hC hR hz hS hl
  exact lv_isub hC.1 hC.2.1 hd (k p l e s m args below meth c H locs ls hC hR hz hS hl)
theorem wp_imul {x y2 : Int32} (hd : decode y.2.1 pc = .ok (.imul, 1)) (k : Wp G y d mc ms ce sl (pc + 1) lo (.int (x * y2) :: st) X M Q) : Wp G y d mc ms ce sl pc lo (.int y2 :: .int x :: st) X M Q := by
  intro p l e s m args below meth c H locs ls hC hR hz hS hl
  exact lv_imul hC.1 hC.2.1 hd (k p l e s m args below meth c H locs ls hC hR hz hS hl)
theorem wp_iand {x y2 : Int32} (hd : decode y.2.1 pc = .ok (.iand, 1)) (k : Wp G y d mc ms ce sl (pc + 1) lo (.int (x &&& y2) :: st) X M Q) : Wp G y d mc ms ce sl pc lo (.int y2 :: .int x :: st) X M Q := by
  intro p l e s m args below meth c H locs ls hC hR hz hS hl
  exact lv_iand hC.1 hC.2.1 hd (k p l e s m args below meth c H locs ls hC hR hz hS hl)
theorem wp_ineg {x : Int32} (hd : decode y.2.1 pc = .ok (.ineg, 1)) (k : Wp G y d mc ms ce sl (pc + 1) lo (.int (-x) :: st) X M Q) : Wp G y d mc ms ce sl pc lo (.int x :: st) X M Q := by
  intro p l e s m args below meth c H locs ls hC hR hz hS hl
  exact lv_ineg hC.1 hC.2.1 hd (k p l e s m args below meth c H locs ls hC hR hz hS hl)
theorem wp_idiv {x y2 : Int32} (hd : decode y.2.1 pc = .ok (.idiv, 1)) (hne : ¬ y2 = 0) (k : Wp G y d mc ms ce sl (pc + 1) lo (.int (x / y2) :: st) X M Q) : Wp G y d mc ms ce sl pc lo (.int y2 :: .int x :: st) X M Q := by
  intro p l e s m args below meth c H locs ls hC hR hz hS hl
  exact lv_idiv hC.1 hC.2.1 hd hne (k p l e s m args below meth c H locs ls hC hR hz hS hl)
theorem wp_irem {x y2 : Int32} (hd : decode y.2.1 pc = .ok (.irem, 1)) (hne : ¬ y2 = 0) (k : Wp G y d mc ms ce sl (pc + 1) lo (.int (x - x / y2 * y2) :: st) X M Q) : Wp G y d mc ms ce sl pc lo (.int y2 :: .int x :: st) X M Q := by
  intro p l e s m args below meth c H locs ls hC hR hz hS hl
  exact lv_irem hC.1 hC.2.1 hd hne (k p l e s m args below meth c H locs ls hC hR hz hS hl)
theorem wp_ladd {x y2 : Int64} (hd : decode y.2.1 pc = .ok (.ladd, 1)) (k : Wp G y d mc ms ce sl (pc + 1) lo (.long (x + y2) :: st) X M Q) : Wp G y d mc ms ce sl pc lo (.long y2 :: .long x :: st) X M Q := by
  intro p l e s m args below meth c H locs ls hC hR hz hS hl
  exact lv_ladd hC.1 hC.2.1 hd (k p l e s m args below meth c H locs ls hC hR hz hS hl)
theorem wp_lsub {x y2 : Int64} (hd : decode y.2.1 pc = .ok (.lsub, 1)) (k : Wp G y d mc ms ce sl (pc + 1) lo (.long (x - y2) :: st) X M Q) : Wp G y d mc ms ce sl pc lo (.long y2 :: .long x :: st) X M Q := by
  intro p l e s m args below meth c H locs ls hC hR hz hS hl
  exact lv_lsub hC.1 hC.2.1 hd (k p l e s m args below meth c H locs ls hC hR hz hS hl)
theorem wp_lmul {x y2 : Int64} (hd : decode y.2.1 pc = .ok (.lmul, 1)) (k : Wp G y d mc ms ce sl (pc + 1) lo (.long (x * y2) :: st) X M Q) : Wp G y d mc ms ce sl pc lo (.long y2 :: .long x :: st) X M Q := by
  intro p l e s m args below meth c H locs ls hC hR hz hS hl
  exact lv_lmul hC.1 hC.2.1 hd (k p l e s m args below meth c H locs ls hC hR hz hS hl)
theorem wp_ldiv {x y2 : Int64} (hd : decode y.2.1 pc = .ok (.ldiv, 1)) (hne : ¬ y2 = 0) (k : Wp G y d mc ms ce sl (pc + 1) lo (.long (x / y2) :: st) X M Q) : Wp G y d mc ms ce sl pc lo (.long y2 :: .long x :: st) X M Q := by
  intro p l e s m args below meth c H locs ls hC hR hz hS hl
  exact lv_ldiv hC.1 hC.2.1 hd hne (k p l e s m args below meth c H locs ls hC hR hz hS hl)
theorem wp_lrem {x y2 : Int64} (hd : decode y.2.1 pc = .ok (.lrem, 1)) (hne : ¬ y2 = 0) (k : Wp G y d mc ms ce sl (pc + 1) lo (.long (x - x / y2 * y2) :: st) X M Q) : Wp G y d mc ms ce sl pc lo (.long y2 :: .long x :: st) X M Q := by
  intro p l e s m args below meth c H locs ls hC hR hz hS hl
  exact lv_lrem hC.1 hC.2.1 hd hne (k p l e s m args below meth c H locs ls hC hR hz hS hl)
theorem wp_ishl {x y2 : Int32} (hd : decode y.2.1 pc = .ok (.ishl, 1)) (k : Wp G y d mc ms ce sl (pc + 1) lo (.int (x <<< (y2 &&& 31)) :: st) X M Q) : Wp G y d mc ms ce sl pc lo (.int y2 :: .int x :: st) X M Q := by
  intro p l e s m args below meth c H locs ls hC hR hz hS hl
  exact lv_ishl hC.1 hC.2.1 hd (k p l e s m args below meth c H locs ls hC hR hz hS hl)
theorem wp_ishr {x y2 : Int32} (hd : decode y.2.1 pc = .ok (.ishr, 1)) (k : Wp G y d mc ms ce sl (pc + 1) lo (.int (x >>> (y2 &&& 31)) :: st) X M Q) : Wp G y d mc ms ce sl pc lo (.int y2 :: .int x :: st) X M Q := by
  intro p l e s m args below meth c H locs ls hC hR hz hS hl
  exact lv_ishr hC.1 hC.2.1 hd (k p l e s m args below meth c H locs ls hC hR hz hS hl)
theorem wp_iushr {x y2 : Int32} (hd : decode y.2.1 pc = .ok (.iushr, 1)) (k : Wp G y d mc ms ce sl (pc + 1) lo (.int ((x.toUInt32 >>> (y2.toUInt32 &&& Int32.toUInt32 31)).toInt32) :: st) X M Q) : Wp G y d mc ms ce sl pc lo (.int y2 :: .int x :: st) X M Q := by
  intro p l e s m args below meth c H locs ls hC hR hz hS hl
  exact lv_iushr hC.1 hC.2.1 hd rfl (k p l e s m args below meth c H locs ls hC hR hz hS hl)
theorem wp_i2l {x : Int32} (hd : decode y.2.1 pc = .ok (.i2l, 1)) (k : Wp G y d mc ms ce sl (pc + 1) lo (.long x.toInt64 :: st) X M Q) : Wp G y d mc ms ce sl pc lo (.int x :: st) X M Q := by
  intro p l e s m args below meth c H locs ls hC hR hz hS hl
  exact lv_i2l hC.1 hC.2.1 hd rfl (k p l e s m args below meth c H locs ls hC hR hz hS hl)
theorem wp_l2i {x : Int64} (hd : decode y.2.1 pc = .ok (.l2i, 1)) (k : Wp G y d mc ms ce sl (pc + 1) lo (.int x.toInt32 :: st) X M Q) : Wp G y d mc ms ce sl pc lo (.long x :: st) X M Q := by
  intro p l e s m args below meth c H locs ls hC hR hz hS hl
  exact lv_l2i hC.1 hC.2.1 hd rfl (k p l e s m args below meth c H locs ls hC hR hz hS hl)
theorem wp_i2s {x : Int32} (hd : decode y.2.1 pc = .ok (.i2s, 1)) (k : Wp G y d mc ms ce sl (pc + 1) lo (.int x.toInt16.toInt32 :: st) X M Q) : Wp G y d mc ms ce sl pc lo (.int x :: st) X M Q := by
  intro p l e s m args below meth c H locs ls hC hR hz hS hl
  exact lv_i2s hC.1 hC.2.1 hd rfl (k p l e s m args below meth c H locs ls hC hR hz hS hl)
theorem wp_i2c {x : Int32} (hd : decode y.2.1 pc = .ok (.i2c, 1)) (k : Wp G y d mc ms ce sl (pc + 1) lo (.int ((x.toUInt32 % 65536).toInt32) :: st) X M Q) : Wp G y d mc ms ce sl pc lo (.int x :: st) X M Q := by
  intro p l e s m args below meth c H locs ls hC hR hz hS hl
  exact lv_i2c hC.1 hC.2.1 hd rfl (k p l e s m args below meth c H locs ls hC hR hz hS hl)
theorem wp_dup {v : Value} (hd : decode y.2.1 pc = .ok (.dup, 1)) (hv : v.category = 1) (k : Wp G y d mc ms ce sl (pc + 1) lo (v :: v :: st) X M Q) : Wp G y d mc ms ce sl pc lo (v :: st) X M Q := by
  intro p l e s m args below meth c H locs ls hC hR hz hS hl
  exact lv_dup hC.1 hC.2.1 hd hv (k p l e s m args below meth c H locs ls hC hR hz hS hl)
theorem wp_pop {v : Value} (hd : decode y.2.1 pc = .ok (.pop, 1)) (hv : v.category = 1) (k : Wp G y d mc ms ce sl (pc + 1) lo (st) X M Q) : Wp G y d mc ms ce sl pc lo (v :: st) X M Q := by
  intro p l e s m args below meth c H locs ls hC hR hz hS hl
  exact lv_pop hC.1 hC.2.1 hd hv (k p l e s m args below meth c H locs ls hC hR hz hS hl)
theorem wp_dup2_11 {v u : Value} (hd : decode y.2.1 pc = .ok (.dup2, 1)) (hv : v.category = 1) (hu : u.category = 1) (k : Wp G y d mc ms ce sl (pc + 1) lo (v :: u :: v :: u :: st) X M Q) : Wp G y d mc ms ce sl pc lo (v :: u :: st) X M Q := by
  intro p l e s m args below meth c H locs ls hC hR hz hS hl
  exact lv_dup2_11 hC.1 hC.2.1 hd hv hu (k p l e s m args below meth c H locs ls hC hR hz hS hl)
theorem wp_lcmp {x y2 : Int64} (hd : decode y.2.1 pc = .ok (.lcmp, 1)) (k : Wp G y d mc ms ce sl (pc + 1) lo (.int (lg_cmp x y2) :: st) X M Q) : Wp G y d mc ms ce sl pc lo (.long y2 :: .long x :: st) X M Q := by
  intro p l e s m args below meth c H locs ls hC hR hz hS hl
  exact W.lcmp hC.1 hC.2.1 hd (k p l e s m args below meth c H locs ls hC hR hz hS hl)
theorem wp_goto {off : Int} {tgt : Nat} (hd : decode y.2.1 pc = .ok (.goto off, 3)) (ht : (pc : Int) + off = (tgt : Int)) (k : Wp G y d mc ms ce sl tgt lo st X M Q) : Wp G y d mc ms ce sl pc lo st X M Q := by
  intro p l e s m args below meth c H locs ls hC hR hz hS hl
  exact lv_goto hC.1 hC.2.1 hd ht (k p l e s m args below meth c H locs ls hC hR hz hS hl)
theorem wp_if_eq {x : Int32} {off : Int} {tgt : Nat} (hd : decode y.2.1 pc = .ok (.ifCond .eq off, 3)) (ht : (pc : Int) + off = (tgt : Int)) (kt : x = 0 → Wp G y d mc ms ce sl tgt lo st X M Q) (kf : ¬ x = 0 → Wp G y d mc ms ce sl (pc + 3) lo st X M Q) : Wp G y d mc ms ce sl pc lo (.int x :: st) X M Q := by
  intro p l e s m args below meth c H locs ls hC hR hz hS hl
  exact lv_if_eq hC.1 hC.2.1 hd ht (fun h => kt h p l e s m args below meth c H locs ls hC hR hz hS hl) (fun h => kf h p l e s m args below meth c H locs ls hC hR hz hS hl)
theorem wp_icmp_eq {x y2 : Int32} {off : Int} {tgt : Nat} (hd : decode y.2.1 pc = .ok (.if_icmp .eq off, 3)) (ht : (pc : Int) + off = (tgt : Int)) (kt : x = y2 → Wp G y d mc ms ce sl tgt lo st X M Q) (kf : ¬ x = y2 → Wp G y d mc ms ce sl (pc + 3) lo st X M Q) : Wp G y d mc ms ce sl pc lo (.int y2 :: .int x :: st) X M Q := by
  intro p l e s m args below meth c H locs ls hC hR hz hS hl
  exact lv_icmp_eq hC.1 hC.2.1 hd ht (fun h => kt h p l e s m args below meth c H locs ls hC hR hz hS hl) (fun h => kf h p l e s m args below meth c H locs ls hC hR hz hS hl)
theorem wp_if_ne {x : Int32} {off : Int} {tgt : Nat} (hd : decode y.2.1 pc = .ok (.ifCond .ne off, 3)) (ht : (pc : Int) + off = (tgt : Int)) (kt : ¬ x = 0 → Wp G y d mc ms ce sl tgt lo st X M Q) (kf : x = 0 → Wp G y d mc ms ce sl (pc + 3) lo st X M Q) : Wp G y d mc ms ce sl pc lo (.int x :: st) X M Q := by
  intro p l e s m args below meth c H locs ls hC hR hz hS hl
  exact lv_if_ne hC.1 hC.2.1 hd ht (fun h => kt h p l e s m args below meth c H locs ls hC hR hz hS hl) (fun h => kf h p l e s m args below meth c H locs ls hC hR hz hS hl)
theorem wp_icmp_ne {x y2 : Int32} {off : Int} {tgt : Nat} (hd : decode y.2.1 pc = .ok (.if_icmp .ne off, 3)) (ht : (pc : Int) + off = (tgt : Int)) (kt : ¬ x = y2 → Wp G y d mc ms ce sl tgt lo st X M Q) (kf : x = y2 → Wp G y d mc ms ce sl (pc + 3) lo st X M Q) : Wp G y d mc ms ce sl pc lo (.int y2 :: .int x :: st) X M Q := by
  intro p l e s m args below meth c H locs ls hC hR hz hS hl
  exact lv_icmp_ne hC.1 hC.2.1 hd ht (fun h => kt h p l e s m args below meth c H locs ls hC hR hz hS hl) (fun h => kf h p l e s m args below meth c H locs ls hC hR hz hS hl)
theorem wp_if_lt {x : Int32} {off : Int} {tgt : Nat} (hd : decode y.2.1 pc = .ok (.ifCond .lt off, 3)) (ht : (pc : Int) + off = (tgt : Int)) (kt : x < 0 → Wp G y d mc ms ce sl tgt lo st X M Q) (kf : ¬ x < 0 → Wp G y d mc ms ce sl (pc + 3) lo st X M Q) : Wp G y d mc ms ce sl pc lo (.int x :: st) X M Q := by
  intro p l e s m args below meth c H locs ls hC hR hz hS hl
  exact lv_if_lt hC.1 hC.2.1 hd ht (fun h => kt h p l e s m args below meth c H locs ls hC hR hz hS hl) (fun h => kf h p l e s m args below meth c H locs ls hC hR hz hS hl)
theorem wp_icmp_lt {x y2 : Int32} {off : Int} {tgt : Nat} (hd : decode y.2.1 pc = .ok (.if_icmp .lt off, 3)) (ht : (pc : Int) + off = (tgt : Int)) (kt : x < y2 → Wp G y d mc ms ce sl tgt lo st X M Q) (kf : ¬ x < y2 → Wp G y d mc ms ce sl (pc + 3) lo st X M Q) : Wp G y d mc ms ce sl pc lo (.int y2 :: .int x :: st) X M Q := by
  intro p l e s m args below meth c H locs ls hC hR hz hS hl
  exact lv_icmp_lt hC.1 hC.2.1 hd ht (fun h => kt h p l e s m args below meth c H locs ls hC hR hz hS hl) (fun h => kf h p l e s m args below meth c H locs ls hC hR hz hS hl)
theorem wp_if_ge {x : Int32} {off : Int} {tgt : Nat} (hd : decode y.2.1 pc = .ok (.ifCond .ge off, 3)) (ht : (pc : Int) + off = (tgt : Int)) (kt : 0 ≤ x → Wp G y d mc ms ce sl tgt lo st X M Q) (kf : ¬ 0 ≤ x → Wp G y d mc ms ce sl (pc + 3) lo st X M Q) : Wp G y d mc ms ce sl pc lo (.int x :: st) X M Q := by
  intro p l e s m args below meth c H locs ls hC hR hz hS hl
  exact lv_if_ge hC.1 hC.2.1 hd ht (fun h => kt h p l e s m args below meth c H locs ls hC hR hz hS hl) (fun h => kf h p l e s m args below meth c H locs ls hC hR hz hS hl)
theorem wp_icmp_ge {x y2 : Int32} {off : Int} {tgt : Nat} (hd : decode y.2.1 pc = .ok (.if_icmp .ge off, 3)) (ht : (pc : Int) + off = (tgt : Int)) (kt : y2 ≤ x → Wp G y d mc ms ce sl tgt lo st X M Q) (kf : ¬ y2 ≤ x → Wp G y d mc ms ce sl (pc + 3) lo st X M Q) : Wp G y d mc ms ce sl pc lo (.int y2 :: .int x :: st) X M Q := by
  intro p l e s m args below meth c H locs ls hC hR hz hS hl
  exact lv_icmp_ge hC.1 hC.2.1 hd ht (fun h => kt h p l e s m args below meth c H locs ls hC hR hz hS hl) (fun h => kf h p l e s m args below meth c H locs ls hC hR hz hS hl)
theorem wp_if_gt {x : Int32} {off : Int} {tgt : Nat} (hd : decode y.2.1 pc = .ok (.ifCond .gt off, 3)) (ht : (pc : Int) + off = (tgt : Int)) (kt : 0 < x → Wp G y d mc ms ce sl tgt lo st X M Q) (kf : ¬ 0 < x → Wp G y d mc ms ce sl (pc + 3) lo st X M Q) : Wp G y d mc ms ce sl pc lo (.int x :: st) X M Q := by
  intro p l e s m args below meth c H locs ls hC hR hz hS hl
  exact lv_if_gt hC.1 hC.2.1 hd ht (fun h => kt h p l e s m args below meth c H locs ls hC hR hz hS hl) (fun h => kf h p l e s m args below meth c H locs ls hC hR hz hS hl)
theorem wp_icmp_gt {x y2 : Int32} {off : Int} {tgt : Nat} (hd : decode y.2.1 pc = .ok (.if_icmp .gt off, 3)) (ht : (pc : Int) + off = (tgt : Int)) (kt : y2 < x → Wp G y d mc ms ce sl tgt lo st X M Q) (kf : ¬ y2 < x → Wp G y d mc ms ce sl (pc + 3) lo st X M Q) : Wp G y d mc ms ce sl pc lo (.int y2 :: .int x :: st) X M Q := by
  intro p l e s m args below meth c H locs ls hC hR hz hS hl
  exact lv_icmp_gt hC.1 hC.2.1 hd ht (fun h => kt h p l e s m args below meth c H locs ls hC hR hz hS hl) (fun h => kf h p l e s m args below meth c H locs ls hC hR hz hS hl)
theorem wp_if_le {x : Int32} {off : Int} {tgt : Nat} (hd : decode y.2.1 pc = .ok (.ifCond .le off, 3)) (ht : (pc : Int) + off = (tgt : Int)) (kt : x ≤ 0 → Wp G y d mc ms ce sl tgt lo st X M Q) (kf : ¬ x ≤ 0 → Wp G y d mc ms ce sl (pc + 3) lo st X M Q) : Wp G y d mc ms ce sl pc lo (.int x :: st) X M Q := by
  intro p l e s m args below meth c H locs ls hC hR hz hS hl
  exact lv_if_le hC.1 hC.2.1 hd ht (fun h => kt h p l e s m args below meth c H locs ls hC hR hz hS hl) (fun h => kf h p l e s m args below meth c H locs ls hC hR hz hS hl)
theorem wp_icmp_le {x y2 : Int32} {off : Int} {tgt : Nat} (hd : decode y.2.1 pc = .ok (.if_icmp .le off, 3)) (ht : (pc : Int) + off = (tgt : Int)) (kt : x ≤ y2 → Wp G y d mc ms ce sl tgt lo st X M Q) (kf : ¬ x ≤ y2 → Wp G y d mc ms ce sl (pc + 3) lo st X M Q) : Wp G y d mc ms ce sl pc lo (.int y2 :: .int x :: st) X M Q := by
  intro p l e s m args below meth c H locs ls hC hR hz hS hl
  exact lv_icmp_le hC.1 hC.2.1 hd ht (fun h => kt h p l e s m args below meth c H locs ls hC hR hz hS hl) (fun h => kf h p l e s m args below meth c H locs ls hC hR hz hS hl)
theorem wp_ifB_eq {b : Prop} (hb : Decidable b) {off : Int} {tgt : Nat} (hd : decode y.2.1 pc = .ok (.ifCond .eq off, 3)) (ht : (pc : Int) + off = (tgt : Int)) (kt : ¬ b → Wp G y d mc ms ce sl tgt lo st X M Q) (kf : b → Wp G y d mc ms ce sl (pc + 3) lo st X M Q) : Wp G y d mc ms ce sl pc lo (.int (if b then 1 else 0) :: st) X M Q := by
  refine wp_if_eq hd ht (fun h => kt (fun q => ?_)) (fun h => kf (Decidable.byContradiction fun q => ?_))
  · rw [if_pos q] at h
    exact absurd h (by decide)
  · rw [if_neg q] at h
    exact h rfl
theorem wp_ifB_ne {b : Prop} (hb : Decidable b) {off : Int} {tgt : Nat} (hd : decode y.2.1 pc = .ok (.ifCond .ne off, 3)) (ht : (pc : Int) + off = (tgt : Int)) (kt : b → Wp G y d mc ms ce sl tgt lo st X M Q) (kf : ¬ b → Wp G y d mc ms ce sl (pc + 3) lo st X M Q) : Wp G y d mc ms ce sl pc lo (.int (if b then 1 else 0) :: st) X M Q := by
  refine wp_if_ne hd ht (fun h => kt (Decidable.byContradiction fun q => ?_)) (fun h => kf (fun q => ?_))
  · rw [if_neg q] at h
    exact h rfl
  · rw [if_pos q] at h
    exact absurd h (by decide)
theorem wp_istore_n {j : Fin 4} {i : Nat} {x : Int32} {lo2 : List (Nat × Value)} (hd : decode y.2.1 pc = .ok (.istore_n j, 1)) (hi : (j : Nat) = i) (hn : i < y.2.2.1) (hlo : (i, Value.int x) :: lo.filter (fun q => !(q.1 == i) && !(q.1 + 1 == i && q.2.category == 2)) = lo2) (k : Wp G y d mc ms ce sl (pc + 1) lo2 st X M Q) : Wp G y d mc ms ce sl pc lo (.int x :: st) X M Q := by
  intro p l e s m args below meth c H locs ls hC hR hz hS hl
  exact lv_istore_n hC.1 hC.2.1 hd hi hl hn hlo (fun ls2 hl2 => k p l e s m args below meth c H locs ls2 hC hR hz hS hl2)
theorem wp_istore {i : Nat} {x : Int32} {lo2 : List (Nat × Value)} (hd : decode y.2.1 pc = .ok (.istore i, 2)) (hn : i < y.2.2.1) (hlo : (i, Value.int x) :: lo.filter (fun q => !(q.1 == i) && !(q.1 + 1 == i && q.2.category == 2)) = lo2) (k : Wp G y d mc ms ce sl (pc + 2) lo2 st X M Q) : Wp G y d mc ms ce sl pc lo (.int x :: st) X M Q := by
  intro p l e s m args below meth c H locs ls hC hR hz hS hl
  exact lv_istore hC.1 hC.2.1 hd hl hn hlo (fun ls2 hl2 => k p l e s m args below meth c H locs ls2 hC hR hz hS hl2)
theorem wp_astore_n {j : Fin 4} {i : Nat} {x : Nat} {lo2 : List (Nat × Value)} (hd : decode y.2.1 pc = .ok (.astore_n j, 1)) (hi : (j : Nat) = i) (hn : i < y.2.2.1) (hlo : (i, Value.ref x) :: lo.filter (fun q => !(q.1 == i) && !(q.1 + 1 == i && q.2.category == 2)) = lo2) (k : Wp G y d mc ms ce sl (pc + 1) lo2 st X M Q) : Wp G y d mc ms ce sl pc lo (.ref x :: st) X M Q := by
  intro p l e s m args below meth c H locs ls hC hR hz hS hl
  exact lv_astore_n hC.1 hC.2.1 hd hi hl hn hlo (fun ls2 hl2 => k p l e s m args below meth c H locs ls2 hC hR hz hS hl2)
theorem wp_astore {i : Nat} {x : Nat} {lo2 : List (Nat × Value)} (hd : decode y.2.1 pc = .ok (.astore i, 2)) (hn : i < y.2.2.1) (hlo : (i, Value.ref x) :: lo.filter (fun q => !(q.1 == i) && !(q.1 + 1 == i && q.2.category == 2)) = lo2) (k : Wp G y d mc ms ce sl (pc + 2) lo2 st X M Q) : Wp G y d mc ms ce sl pc lo (.ref x :: st) X M Q := by
  intro p l e s m args below meth c H locs ls hC hR hz hS hl
  exact lv_astore hC.1 hC.2.1 hd hl hn hlo (fun ls2 hl2 => k p l e s m args below meth c H locs ls2 hC hR hz hS hl2)
theorem wp_lstore_n {j : Fin 4} {i : Nat} {x : Int64} {lo2 : List (Nat × Value)} (hd : decode y.2.1 pc = .ok (.lstore_n j, 1)) (hi : (j : Nat) = i) (hn : i + 1 < y.2.2.1) (hlo : (i, Value.long x) :: lo.filter (fun q => !(q.1 == i) && (!(q.1 == i + 1) && !(q.1 + 1 == i && q.2.category == 2))) = lo2) (k : Wp G y d mc ms ce sl (pc + 1) lo2 st X M Q) : Wp G y d mc ms ce sl pc lo (.long x :: st) X M Q := by
  intro p l e s m args below meth c H locs ls hC hR hz hS hl
  exact lv_lstore_n hC.1 hC.2.1 hd hi hl hn hlo (fun ls2 hl2 => k p l e s m args below meth c H locs ls2 hC hR hz hS hl2)
theorem wp_lstore {i : Nat} {x : Int64} {lo2 : List (Nat × Value)} (hd : decode y.2.1 pc = .ok (.lstore i, 2)) (hn : i + 1 < y.2.2.1) (hlo : (i, Value.long x) :: lo.filter (fun q => !(q.1 == i) && (!(q.1 == i + 1) && !(q.1 + 1 == i && q.2.category == 2))) = lo2) (k : Wp G y d mc ms ce sl (pc + 2) lo2 st X M Q) : Wp G y d mc ms ce sl pc lo (.long x :: st) X M Q := by
  intro p l e s m args below meth c H locs ls hC hR hz hS hl
  exact lv_lstore hC.1 hC.2.1 hd hl hn hlo (fun ls2 hl2 => k p l e s m args below meth c H locs ls2 hC hR hz hS hl2)
theorem wp_iinc {i q : Nat} {n : Int} {x v : Int32} {lo2 : List (Nat × Value)} (hd : decode y.2.1 pc = .ok (.iinc i n, 3)) (hq : lo[q]? = some (i, .int x)) (hv : x + Int32.ofInt n = v) (hn : i < y.2.2.1) (hlo : (i, Value.int v) :: lo.filter (fun q => !(q.1 == i) && !(q.1 + 1 == i && q.2.category == 2)) = lo2) (k : Wp G y d mc ms ce sl (pc + 3) lo2 st X M Q) : Wp G y d mc ms ce sl pc lo st X M Q := by
  intro p l e s m args below meth c H locs ls hC hR hz hS hl
  exact lv_iinc hC.1 hC.2.1 hd hl hq hv hn hlo (fun ls2 hl2 => k p l e s m args below meth c H locs ls2 hC hR hz hS hl2)
/-- the pool's entry idx of the class own is the field k of class ci -/
def FLk (own : String) (idx ci k : Nat) : Prop := ci < 11 ∧ k < nFd ci ∧ ∃ (C : String) (T : u_T), vwCl[ci]? = some (C, T, nFd ci) ∧ (∀ w ∈ u_ws C T (nFd ci), w ∈ GW) ∧ Cond.fieldLink own idx (T k).1 (T k).2.1 (T k).2.2.1 ∈ GW
/-- ... and the field's type is ty, and how the fields are named and typed -/
def FLt (own : String) (idx ci k : Nat) (fin : Bool) (ty : FieldType) : Prop := ci < 11 ∧ k < nFd ci ∧ ∃ (C : String) (T : u_T) (ty0 : Nat → FieldType), vwCl[ci]? = some (C, T, nFd ci) ∧ (∀ w ∈ u_ws C T (nFd ci), w ∈ GW) ∧ Cond.fieldLink own idx (T k).1 (T k).2.1 (T k).2.2.1 ∈ GW ∧ (T k).1 = own ∧ (T k).2.2.2 = fin ∧ parseFieldDescriptor (T k).2.2.1 = some ty ∧ (∀ k, k < nFd ci → parseFieldDescriptor (T k).2.2.1 = some (ty0 k)) ∧ (∀ a, a < nFd ci → ∀ b, b < nFd ci → a ≠ b → (T a).2.1 ≠ (T b).2.1)
/-- ... of another class's field -/
def FLu (own : String) (idx ci k : Nat) (ty : FieldType) : Prop := ci < 11 ∧ k < nFd ci ∧ ∃ (C : String) (T : u_T) (ty0 : Nat → FieldType), vwCl[ci]? = some (C, T, nFd ci) ∧ (∀ w ∈ u_ws C T (nFd ci), w ∈ GW) ∧ Cond.fieldLink own idx (T k).1 (T k).2.1 (T k).2.2.1 ∈ GW ∧ (T k).2.2.2 = false ∧ parseFieldDescriptor (T k).2.2.1 = some ty ∧ (∀ k, k < nFd ci → parseFieldDescriptor (T k).2.2.1 = some (ty0 k)) ∧ (∀ a, a < nFd ci → ∀ b, b < nFd ci → a ≠ b → (T a).2.1 ≠ (T b).2.1)
theorem wp_get {a ci k idx : Nat} (hd : decode y.2.1 pc = .ok (.getfield idx, 3)) (hf : FLk y.1.cls idx ci k) (ha : xK X a = ci) (kk : Wp G y d mc ms ce sl (pc + 3) lo (fVal X M ci a k :: st) X M Q) : Wp G y d mc ms ce sl pc lo (.ref a :: st) X M Q := by
  intro p l e s m args below meth c H locs ls hC hR hz hS hl
  obtain ⟨hci, hk, C, T, hcl, hin, hlink⟩ := hf
  obtain ⟨q0, hq⟩ := hR.at (a := a) (by omega)
  rw [ent_obj ha hci] at hq
  exact va_get hC.1 hC.2.1 hC.2.2.2.2.2.2.1 hin hC.2.2.2.2.2.1 hC.2.2.2.2.2.2.2.1.1 hR.2.2 q0 hq hcl k hk (hC.2.2.2.2.2.2.1 _ hlink) (fun _ h => h) (rng_get _ hk) hd (kk p l e s m args below meth c H locs ls hC hR hz hS hl)
theorem wp_getI {a ci k idx : Nat} (hd : decode y.2.1 pc = .ok (.getfield idx, 3)) (hf : FLk y.1.cls idx ci k) (hr : fRef ci k = false) (ha : xK X a = ci) (kk : Wp G y d mc ms ce sl (pc + 3) lo (.int (mI M a k) :: st) X M Q) : Wp G y d mc ms ce sl pc lo (.ref a :: st) X M Q :=
  wp_get hd hf ha (by rw [fVal_I hr]; exact kk)
theorem wp_getR {a ci k idx t : Nat} (hd : decode y.2.1 pc = .ok (.getfield idx, 3)) (hf : FLk y.1.cls idx ci k) (hr : fRef ci k = true) (ha : xK X a = ci) (ht : xF X a k = some t) (kk : Wp G y d mc ms ce sl (pc + 3) lo (.ref t :: st) X M Q) : Wp G y d mc ms ce sl pc lo (.ref a :: st) X M Q :=
  wp_get hd hf ha (by rw [fVal_R hr, ht]; exact kk)
theorem ent_putI {a ci k : Nat} {v : Int32} (ha : xK X a = ci) (hci : ci < 11) (hr : fRef ci k = false) : ∀ b, va_up (ent G X M) a (.inr (ci, ((List.range (nFd ci)).map (fVal X M ci a)).set k (.int v))) b = ent G X (sI M a k v) b := by
  refine ent_up ?_ (fun b hb => ent_off (up2_off _ _ _ hb) rfl rfl)
  rw [ent_obj ha hci]
  unfold eObj
  rw [rng_set (fVal X M ci a) (fVal X (sI M a k v) ci a) (.int v)]
  · rw [fVal_I hr, mI_sI, up2_same]
  · intro j hj
    unfold fVal
    rw [mI_sI, up2_k _ _ _ hj]
theorem Rel.obj {a ci : Nat} {H : Heap} (hR : Rel G X M H) (ha : xK X a = ci) (hci : ci < 11) {C : String} {T : u_T} (hcl : vwCl[ci]? = some (C, T, nFd ci)) :
    ∃ (k : Nat) (cell : Cell), ([] ++ va_pl (LL G X) (ent G X M))[k]? = some (a, ent G X M a) ∧ H[a]? = some cell ∧ cell.cls = G.1.1 ci ∧ cell.vm = .none ∧ ∀ k, k < nFd ci → cell.slots[G.1.2 ci k]? = some (fVal X M ci a k) := by
  obtain ⟨q0, hq⟩ := hR.at (a := a) (by omega)
  have h1 := hR.2.2 q0 _ hq
  rw [ent_obj ha hci] at h1
  obtain ⟨r, h2, cell, h3, h4, h5, h6⟩ := h1
  have hr : r = (C, T, nFd ci) := Option.some.inj (h2.symm.trans hcl)
  subst hr
  refine ⟨q0, cell, hq, h3, h4, h5, fun k hk => ?_⟩
  have h7 := h6 k hk
  have h8 : vp_V ((List.range (nFd ci)).map (fVal X M ci a)) k = fVal X M ci a k := by
    unfold vp_V
    rw [List.getD_eq_getElem?_getD, rng_get _ hk]
    rfl
  rw [← h8]
  exact h7
/-- a heap in which the cell at a alone is another, and holds what the new world says -/
theorem Rel.putObj {a ci k : Nat} {H H1 : Heap} {v : Value} {X' : Sh} {M' : Mm} (hR : Rel G X M H) (ha : xK X a = ci) (hci : ci < 11) {C : String} {T : u_T} (hcl : vwCl[ci]? = some (C, T, nFd ci)) (hk : k < nFd ci) {cell : Cell} (hcell : cell.cls = G.1.1 ci) (hvm : cell.vm = .none) (hs : ∀ k, k < nFd ci → cell.slots[G.1.2 ci k]? = some (fVal X M ci a k))
    (hap : ∀ a b, a < nFd ci → b < nFd ci → a ≠ b → G.1.2 ci a ≠ G.1.2 ci b) (e1 : H1[a]? = some (cell.setSlot (G.1.2 ci k) v)) (e3 : ∀ q, q ≠ a → H1[q]? = H[q]?) (hz : xz X' = xz X) (hKd : xK X' = xK X) (he1 : fVal X' M' ci a k = v) (he2 : ∀ j, j ≠ k → fVal X' M' ci a j = fVal X M ci a j) (he3 : ∀ b, b ≠ a → ent G X' M' b = ent G X M b) : Rel G X' M' H1 := by
  refine ⟨by rw [hz]; exact hR.1, by rw [hz, hKd]; exact hR.2.1, ?_⟩
  have hL : LL G X' = LL G X := by
    unfold LL
    rw [hz, hKd]
  rw [hL]
  intro q0 q hq
  simp only [List.nil_append, va_pl, List.getElem?_map] at hq
  cases hb : (LL G X)[q0]? with
  | none => rw [hb] at hq; cases hq
  | some b =>
    rw [hb] at hq
    cases hq
    have h0 : ([] ++ va_pl (LL G X) (ent G X M))[q0]? = some (b, ent G X M b) := by
      simp only [List.nil_append, va_pl, List.getElem?_map, hb]
      rfl
    show va_at G.1 vwCl (b, ent G X' M' b) H1
    by_cases hba : b = a
    · subst hba
      rw [ent_obj (X := X') (by rw [hKd]; exact ha) hci]
      refine ⟨_, hcl, t_OB.to (V := updV (fVal X M ci b) k v) ⟨_, e1, hcell, hvm, t_set hs hap hk v⟩ (fun j hj => ?_)⟩
      unfold vp_V
      rw [List.getD_eq_getElem?_getD, rng_get _ hj]
      by_cases hjk : j = k
      · subst hjk
        simp [updV, he1]
      · simp [updV, hjk, he2 j hjk]
    · rw [he3 b hba]
      exact (hR.2.2 q0 _ h0).kept (e3 b hba)
/-- a field of ints (of booleans: 0 or 1) is written -/
theorem wp_put {a ci k idx : Nat} {v : Int32} {ty : FieldType} (hd : decode y.2.1 pc = .ok (.putfield idx, 3)) (hf : FLu y.1.cls idx ci k ty) (hr : fRef ci k = false) (ha : xK X a = ci) (hn : narrow ty (.int v) = .int v) (hfit : fits ty (.int v) = true) (kk : Wp G y d mc ms ce sl (pc + 3) lo st X (sI M a k v) Q) : Wp G y d mc ms ce sl pc lo (.int v :: .ref a :: st) X M Q := by
  intro p l e s m args below meth c H locs ls hC hR hz hS hl
  obtain ⟨hci, hk, C, T, ty0, hcl, hin, hlink, hfin, hty, hty0, hnm⟩ := hf
  have hts := hC.2.2.2.2.2.2.1
  have hK := hC.2.2.2.2.2.2.2.1.1
  obtain ⟨q0, cell, hq, h3, h4, h5, h6⟩ := hR.obj ha hci hcl
  have hap := va_apart (own := y.1.cls) hts hin ty0 hty0 hnm hK hcl
  obtain ⟨hSl, hfc, kC, hkC, hkind⟩ := hK.1 ci _ hcl
  obtain ⟨cf, kf, fi, f, hi, hsl⟩ := hSl k hk
  have hlay := hts _ (hin _ (u_in_lay hk))
  unfold u_lay at hlay
  rw [if_neg (by rw [hfin]; decide)] at hlay
  have hst := (u_facts hfc hkC (u_lays hts hin hk) hi).1
  have hsd := u_store hfc hkC hkind hlay hi hty hn hfit
  refine W.putK hC.1 hC.2.1 (f := f) ⟨hC.2.2.2.2.2.1, hts _ hlink, ⟨_, _, _, hi⟩, hst⟩ (by rw [h4]; exact hsd) h3 h5 (by rw [hsl]; exact k2_hasslot (h6 k hk)) rfl rfl hd fun H1 e1 e2 e3 => ?_
  rw [hsl] at e1 ⊢
  have hR1 : Rel G X (sI M a k v) H1 := hR.putObj ha hci hcl hk h4 h5 h6 hap e1 e3 rfl rfl (by rw [fVal_I hr, mI_sI, up2_same]) (fun j hj => by unfold fVal; rw [mI_sI, up2_k _ _ _ hj]) (fun b hb => ent_off (up2_off _ _ _ hb) rfl rfl)
  exact kk p l e s m args below meth c H1 _ ls hC hR1 hz (hS.put e2 e3 ((hR.2.1 a).mp (by omega)).1) hl
theorem wp_putI {a ci k idx : Nat} {v : Int32} (hd : decode y.2.1 pc = .ok (.putfield idx, 3)) (hf : FLu y.1.cls idx ci k .int) (hr : fRef ci k = false) (ha : xK X a = ci) (kk : Wp G y d mc ms ce sl (pc + 3) lo st X (sI M a k v) Q) : Wp G y d mc ms ce sl pc lo (.int v :: .ref a :: st) X M Q :=
  wp_put hd hf hr ha rfl rfl kk
theorem wp_putZ {a ci k idx : Nat} {v : Int32} (hd : decode y.2.1 pc = .ok (.putfield idx, 3)) (hf : FLu y.1.cls idx ci k .boolean) (hr : fRef ci k = false) (ha : xK X a = ci) (hv : v = 0 ∨ v = 1) (kk : Wp G y d mc ms ce sl (pc + 3) lo st X (sI M a k v) Q) : Wp G y d mc ms ce sl pc lo (.int v :: .ref a :: st) X M Q := by
  refine wp_put hd hf hr ha ?_ ?_ kk
  · rcases hv with rfl | rfl <;> rfl
  · rcases hv with rfl | rfl <;> rfl
theorem ix_in {i : Int32} {j n : Nat} (hj : i = nI j) (hlt : j < n) (hn : n < 2147483648) : vp_in i n ∧ i.toNatClampNeg = j := by
  subst hj
  exact ⟨vp_in_nI hlt hn, nI_clamp (by omega)⟩
theorem wp_iald {a n j : Nat} {i : Int32} (hd : decode y.2.1 pc = .ok (.iaload, 1)) (ha : xK X a = 11) (hn : xN X a = n) (hb : n < 2147483648) (hj : i = nI j) (hlt : j < n) (kk : Wp G y d mc ms ce sl (pc + 1) lo (.int (mI M a j) :: st) X M Q) : Wp G y d mc ms ce sl pc lo (.int i :: .ref a :: st) X M Q := by
  intro p l e s m args below meth c H locs ls hC hR hz hS hl
  obtain ⟨q0, hq⟩ := hR.at (a := a) (by omega)
  rw [ent_i ha, hn] at hq
  obtain ⟨h1, h2⟩ := ix_in hj hlt hb
  refine va_iald hC.1 hC.2.1 hC.2.2.2.2.2.2.2.1.1 hR.2.2 q0 0 hq rfl h1 hd ?_
  rw [h2]
  exact kk p l e s m args below meth c H locs ls hC hR hz hS hl
theorem wp_lald {a n j : Nat} {i : Int32} (hd : decode y.2.1 pc = .ok (.laload, 1)) (ha : xK X a = 12) (hn : xN X a = n) (hb : n < 2147483648) (hj : i = nI j) (hlt : j < n) (kk : Wp G y d mc ms ce sl (pc + 1) lo (.long (mJ M a j) :: st) X M Q) : Wp G y d mc ms ce sl pc lo (.int i :: .ref a :: st) X M Q := by
  intro p l e s m args below meth c H locs ls hC hR hz hS hl
  obtain ⟨q0, hq⟩ := hR.at (a := a) (by omega)
  rw [ent_j ha, hn] at hq
  obtain ⟨h1, h2⟩ := ix_in hj hlt hb
  refine va_lald hC.1 hC.2.1 hC.2.2.2.2.2.2.2.1.1 hR.2.2 q0 1 hq rfl h1 hd ?_
  rw [h2]
  exact kk p l e s m args below meth c H locs ls hC hR hz hS hl
theorem wp_zald {a n j : Nat} {i : Int32} (hd : decode y.2.1 pc = .ok (.baload, 1)) (ha : xK X a = 13) (hn : xN X a = n) (hb : n < 2147483648) (hj : i = nI j) (hlt : j < n) (kk : Wp G y d mc ms ce sl (pc + 1) lo (.int (mI M a j &&& 1) :: st) X M Q) : Wp G y d mc ms ce sl pc lo (.int i :: .ref a :: st) X M Q := by
  intro p l e s m args below meth c H locs ls hC hR hz hS hl
  obtain ⟨q0, hq⟩ := hR.at (a := a) (by omega)
  rw [ent_z ha, hn] at hq
  obtain ⟨h1, h2⟩ := ix_in hj hlt hb
  refine va_zald hC.1 hC.2.1 hC.2.2.2.2.2.2.2.1.1 hR.2.2 q0 2 hq rfl h1 hd ?_
  rw [h2]
  exact kk p l e s m args below meth c H locs ls hC hR hz hS hl
theorem wp_rald {a n j t : Nat} {i : Int32} (hd : decode y.2.1 pc = .ok (.aaload, 1)) (ha : xK X a = 14) (hn : xN X a = n) (hb : n < 2147483648) (hj : i = nI j) (hlt : j < n) (ht : mR M a j = some t) (kk : Wp G y d mc ms ce sl (pc + 1) lo (.ref t :: st) X M Q) : Wp G y d mc ms ce sl pc lo (.int i :: .ref a :: st) X M Q := by
  intro p l e s m args below meth c H locs ls hC hR hz hS hl
  obtain ⟨q0, hq⟩ := hR.at (a := a) (by omega)
  rw [ent_r ha, hn] at hq
  obtain ⟨h1, h2⟩ := ix_in hj hlt hb
  refine va_aldq hC.1 hC.2.1 hC.2.2.2.2.2.2.2.1.1 hR.2.2 q0 3 hq rfl h1 hd ?_
  rw [h2, ht]
  exact kk p l e s m args below meth c H locs ls hC hR hz hS hl
/-- rows of references that stay: of sheets (15), of slots (16), of rows of ints (17) -/
theorem wp_fald {a n j t : Nat} {i : Int32} (hd : decode y.2.1 pc = .ok (.aaload, 1)) (ha : xK X a = 15 ∨ xK X a = 16 ∨ xK X a = 17) (hn : xN X a = n) (hb : n < 2147483648) (hj : i = nI j) (hlt : j < n) (ht : xF X a j = some t) (kk : Wp G y d mc ms ce sl (pc + 1) lo (.ref t :: st) X M Q) : Wp G y d mc ms ce sl pc lo (.int i :: .ref a :: st) X M Q := by
  intro p l e s m args below meth c H locs ls hC hR hz hS hl
  obtain ⟨q0, hq⟩ := hR.at (a := a) (by omega)
  obtain ⟨h1, h2⟩ := ix_in hj hlt hb
  have hv : ∀ (cA : ClassId) (f : Nat → Option Nat), f = xF X a → (vp_cell cA (n, .inr (.inr (.inr (.inr f))))).slots[i.toNatClampNeg]? = some (.ref t) := by
    intro cA f hf
    show (arrV _ _ _).slots[_]? = _
    rw [h2, arrV_read _ _ hlt, hf, ht]
    rfl
  have hin : ∀ (cA : ClassId) (f : Nat → Option Nat), ¬ (i < 0 ∨ (vp_cell cA (n, .inr (.inr (.inr (.inr f))))).slots.size ≤ i.toNatClampNeg) := by
    intro cA f
    show ¬ (i < 0 ∨ (arrV _ _ _).slots.size ≤ _)
    rw [arrV_size]
    exact h1
  rcases ha with ha | ha | ha
  · rw [ent_f ha (by omega), hn] at hq
    exact W.aald hC.1 hC.2.1 (hR.2.2 q0 _ hq) ((hC.2.2.2.2.2.2.2.1.1.2 4 _ rfl).1 n (fun j => va_rf (xF X a j))) rfl (fun q => by cases q) (hin _ _) (hv _ _ rfl) rfl rfl hd (kk p l e s m args below meth c H locs ls hC hR hz hS hl)
  · rw [ent_f ha (by omega), hn] at hq
    exact W.aald hC.1 hC.2.1 (hR.2.2 q0 _ hq) ((hC.2.2.2.2.2.2.2.1.1.2 5 _ rfl).1 n (fun j => va_rf (xF X a j))) rfl (fun q => by cases q) (hin _ _) (hv _ _ rfl) rfl rfl hd (kk p l e s m args below meth c H locs ls hC hR hz hS hl)
  · rw [ent_f ha (by omega), hn] at hq
    exact W.aald hC.1 hC.2.1 (hR.2.2 q0 _ hq) ((hC.2.2.2.2.2.2.2.1.1.2 6 _ rfl).1 n (fun j => va_rf (xF X a j))) rfl (fun q => by cases q) (hin _ _) (hv _ _ rfl) rfl rfl hd (kk p l e s m args below meth c H locs ls hC hR hz hS hl)
theorem wp_alen {a n : Nat} {v : Int32} (hd : decode y.2.1 pc = .ok (.arraylength, 1)) (ha : xK X a = 11) (hn : xN X a = n) (hv : Int32.ofNat n = v) (kk : Wp G y d mc ms ce sl (pc + 1) lo (.int v :: st) X M Q) : Wp G y d mc ms ce sl pc lo (.ref a :: st) X M Q := by
  intro p l e s m args below meth c H locs ls hC hR hz hS hl
  obtain ⟨q0, hq⟩ := hR.at (a := a) (by omega)
  rw [ent_i ha, hn] at hq
  exact va_alen hC.1 hC.2.1 hC.2.2.2.2.2.2.2.1.1 hR.2.2 q0 0 hq rfl hv hd (kk p l e s m args below meth c H locs ls hC hR hz hS hl)
theorem wp_iast {a n j : Nat} {i v : Int32} (hd : decode y.2.1 pc = .ok (.iastore, 1)) (ha : xK X a = 11) (hn : xN X a = n) (hb : n < 2147483648) (hj : i = nI j) (hlt : j < n) (kk : Wp G y d mc ms ce sl (pc + 1) lo st X (sI M a j v) Q) : Wp G y d mc ms ce sl pc lo (.int v :: .int i :: .ref a :: st) X M Q := by
  intro p l e s m args below meth c H locs ls hC hR hz hS hl
  obtain ⟨q0, hq⟩ := hR.at (a := a) (by omega)
  have hq2 := hq
  rw [ent_i ha, hn] at hq2
  obtain ⟨h1, h2⟩ := ix_in hj hlt hb
  refine va_iast hC.1 hC.2.1 hC.2.2.2.2.2.2.2.1.1 hR.2.2 (LL_D G X _) hS q0 0 hq2 rfl h1 hd (fun H1 locs1 hP1 _ hS1 => ?_)
  rw [h2] at hP1
  exact kk p l e s m args below meth c H1 locs1 ls hC (hR.set (by omega) hq hP1 (ent_up (by rw [ent_i ha, hn, mI_sI, up2_row]) (fun b hb => ent_off (up2_off _ _ _ hb) rfl rfl))) hz hS1 hl
theorem wp_last {a n j : Nat} {i : Int32} {v : Int64} (hd : decode y.2.1 pc = .ok (.lastore, 1)) (ha : xK X a = 12) (hn : xN X a = n) (hb : n < 2147483648) (hj : i = nI j) (hlt : j < n) (kk : Wp G y d mc ms ce sl (pc + 1) lo st X (sJ M a j v) Q) : Wp G y d mc ms ce sl pc lo (.long v :: .int i :: .ref a :: st) X M Q := by
  intro p l e s m args below meth c H locs ls hC hR hz hS hl
  obtain ⟨q0, hq⟩ := hR.at (a := a) (by omega)
  have hq2 := hq
  rw [ent_j ha, hn] at hq2
  obtain ⟨h1, h2⟩ := ix_in hj hlt hb
  refine va_last hC.1 hC.2.1 hC.2.2.2.2.2.2.2.1.1 hR.2.2 (LL_D G X _) hS q0 1 hq2 rfl h1 hd (fun H1 locs1 hP1 _ hS1 => ?_)
  rw [h2] at hP1
  exact kk p l e s m args below meth c H1 locs1 ls hC (hR.set (by omega) hq hP1 (ent_up (by rw [ent_j ha, hn, mJ_sJ, up2_rowL]) (fun b hb => ent_off rfl (up2_off _ _ _ hb) rfl))) hz hS1 hl
theorem wp_zast {a n j : Nat} {i v : Int32} (hd : decode y.2.1 pc = .ok (.bastore, 1)) (ha : xK X a = 13) (hn : xN X a = n) (hb : n < 2147483648) (hj : i = nI j) (hlt : j < n) (kk : Wp G y d mc ms ce sl (pc + 1) lo st X (sI M a j v) Q) : Wp G y d mc ms ce sl pc lo (.int v :: .int i :: .ref a :: st) X M Q := by
  intro p l e s m args below meth c H locs ls hC hR hz hS hl
  obtain ⟨q0, hq⟩ := hR.at (a := a) (by omega)
  have hq2 := hq
  rw [ent_z ha, hn] at hq2
  obtain ⟨h1, h2⟩ := ix_in hj hlt hb
  refine va_zast hC.1 hC.2.1 hC.2.2.2.2.2.2.2.1.1 hR.2.2 (LL_D G X _) hS q0 2 hq2 rfl h1 hd (fun H1 locs1 hP1 _ hS1 => ?_)
  rw [h2] at hP1
  have hrow : (fun k => vp_nar .boolean (mI (sI M a j v) a k)) = upd (fun k => vp_nar .boolean (mI M a k)) j (vp_nar .boolean v) := by
    funext k
    rw [mI_sI, up2_row]
    unfold upd
    by_cases h : k = j <;> simp [h]
  exact kk p l e s m args below meth c H1 locs1 ls hC (hR.set (by omega) hq hP1 (ent_up (by rw [ent_z ha, hn, hrow]) (fun b hb => ent_off (up2_off _ _ _ hb) rfl rfl))) hz hS1 hl
theorem wp_rast {a n j t : Nat} {i : Int32} (hd : decode y.2.1 pc = .ok (.aastore, 1)) (ha : xK X a = 14) (hn : xN X a = n) (hb : n < 2147483648) (hj : i = nI j) (hlt : j < n) (ht : xK X t = 4) (kk : Wp G y d mc ms ce sl (pc + 1) lo st X (sR M a j (some t)) Q) : Wp G y d mc ms ce sl pc lo (.ref t :: .int i :: .ref a :: st) X M Q := by
  intro p l e s m args below meth c H locs ls hC hR hz hS hl
  obtain ⟨q0, hq⟩ := hR.at (a := a) (by omega)
  obtain ⟨q1, hq1⟩ := hR.at (a := t) (by omega)
  have hq2 := hq
  rw [ent_r ha, hn] at hq2
  rw [ent_obj ht (by decide)] at hq1
  obtain ⟨h1, h2⟩ := ix_in hj hlt hb
  refine va_astq (r := (RX4, TX4, 10)) hC.1 hC.2.1 hC.2.2.2.2.2.2.2.1.1 hR.2.2 (LL_D G X _) hS q0 3 q1 4 hq2 rfl hq1 rfl h1 hd (fun H1 locs1 hP1 _ hS1 => ?_)
  rw [h2] at hP1
  exact kk p l e s m args below meth c H1 locs1 ls hC (hR.set (by omega) hq hP1 (ent_up (by rw [ent_r ha, hn, mR_sR, up2_rowR]) (fun b hb => ent_off rfl rfl (up2_off _ _ _ hb)))) hz hS1 hl
theorem wp_ldc {idx : Nat} {v : Int32} (hd : decode y.2.1 pc = .ok (.ldc idx, 2)) (hw : Cond.constant y.1.cls idx v ∈ GW) (kk : Wp G y d mc ms ce sl (pc + 2) lo (.int v :: st) X M Q) : Wp G y d mc ms ce sl pc lo st X M Q :=
  fun p l e s m args below meth c H locs ls hC hR hz hS hl => lv_ldc hC.1 hC.2.1 hC.2.2.2.2.2.1 (hC.2.2.2.2.2.2.1 _ hw) hd (kk p l e s m args below meth c H locs ls hC hR hz hS hl)
theorem wp_ldcw {idx : Nat} {v : Int32} (hd : decode y.2.1 pc = .ok (.ldc_w idx, 3)) (hw : Cond.constant y.1.cls idx v ∈ GW) (kk : Wp G y d mc ms ce sl (pc + 3) lo (.int v :: st) X M Q) : Wp G y d mc ms ce sl pc lo st X M Q :=
  fun p l e s m args below meth c H locs ls hC hR hz hS hl => lv_ldcw hC.1 hC.2.1 hC.2.2.2.2.2.1 (hC.2.2.2.2.2.2.1 _ hw) hd (kk p l e s m args below meth c H locs ls hC hR hz hS hl)
theorem wp_ldc2 {idx : Nat} {v : Int64} (hd : decode y.2.1 pc = .ok (.ldc2_w idx, 3)) (hw : Cond.constantLong y.1.cls idx v ∈ GW) (kk : Wp G y d mc ms ce sl (pc + 3) lo (.long v :: st) X M Q) : Wp G y d mc ms ce sl pc lo st X M Q :=
  fun p l e s m args below meth c H locs ls hC hR hz hS hl => lv_ldc2 hC.1 hC.2.1 hC.2.2.2.2.2.1 (hC.2.2.2.2.2.2.1 _ hw) hd (kk p l e s m args below meth c H locs ls hC hR hz hS hl)
theorem wp_tblIn {dflt tl th : Int} {offs : Array Int} {len : Nat} {x : Int32} {off : Int} {tgt : Nat} (hd : decode y.2.1 pc = .ok (.tableswitch dflt tl th offs, len)) (h1 : ¬ x.toInt < tl) (h2 : ¬ th < x.toInt) (ho : offs[(x.toInt - tl).toNat]? = some off) (ht : (pc : Int) + off = (tgt : Int)) (kk : Wp G y d mc ms ce sl tgt lo st X M Q) : Wp G y d mc ms ce sl pc lo (.int x :: st) X M Q :=
  fun p l e s m args below meth c H locs ls hC hR hz hS hl => lv_tableIn hC.1 hC.2.1 hd h1 h2 ho ht (kk p l e s m args below meth c H locs ls hC hR hz hS hl)
theorem wp_tblOut {dflt tl th : Int} {offs : Array Int} {len : Nat} {x : Int32} {tgt : Nat} (hd : decode y.2.1 pc = .ok (.tableswitch dflt tl th offs, len)) (h : x.toInt < tl ∨ th < x.toInt) (ht : (pc : Int) + dflt = (tgt : Int)) (kk : Wp G y d mc ms ce sl tgt lo st X M Q) : Wp G y d mc ms ce sl pc lo (.int x :: st) X M Q :=
  fun p l e s m args below meth c H locs ls hC hR hz hS hl => lv_tableOut hC.1 hC.2.1 hd h ht (kk p l e s m args below meth c H locs ls hC hR hz hS hl)
theorem wp_lkup {dflt : Int} {ps : Array (Int × Int)} {len : Nat} {x : Int32} {off : Int} {tgt : Nat} (hd : decode y.2.1 pc = .ok (.lookupswitch dflt ps, len)) (hp : (ps.toList.zip (ps.toList.drop 1)).all (fun (a, next) => a.1 < next.1) = true) (ho : Op.lookupswitch.offset ps.toList dflt x.toInt = off) (ht : (pc : Int) + off = (tgt : Int)) (kk : Wp G y d mc ms ce sl tgt lo st X M Q) : Wp G y d mc ms ce sl pc lo (.int x :: st) X M Q :=
  fun p l e s m args below meth c H locs ls hC hR hz hS hl => lv_lookup hC.1 hC.2.1 hd hp ho ht (kk p l e s m args below meth c H locs ls hC hR hz hS hl)
theorem wp_iret {v : Int32} (hd : decode y.2.1 pc = .ok (.ireturn, 1)) (hr : y.2.2.2 = some .int) (h1 : ce = mc) (h2 : sl ≤ ms) (hq : Q X M (some (.int v))) : Wp G y d mc ms ce sl pc lo [.int v] X M Q := by
  intro p l e s m args below meth c H locs ls hC hR hz hS hl
  subst h1
  refine W.sized (fun hsz => ?_)
  have hsz2 := hR.size hz hC.2.2.2.2.2.2.2.2.2.2 hS hsz
  refine W.widen (Nat.le_refl _) h2 ?_
  exact W.iret hC.1 hC.2.1 (hC.2.2.2.1.trans hr) (fun t ht hw => ⟨⟨_, X, M, rfl, hq, by rw [ht]; exact hR, by rw [ht]; exact hsz2⟩, hS.F ht⟩) hS.2.2 hd hC.2.2.2.2.1
theorem wp_zret {v : Int32} (hd : decode y.2.1 pc = .ok (.ireturn, 1)) (hr : y.2.2.2 = some .boolean) (h1 : ce = mc) (h2 : sl ≤ ms) (hv : v = 0 ∨ v = 1) (hq : Q X M (some (.int v))) : Wp G y d mc ms ce sl pc lo [.int v] X M Q := by
  intro p l e s m args below meth c H locs ls hC hR hz hS hl
  subst h1
  refine W.sized (fun hsz => ?_)
  have hsz2 := hR.size hz hC.2.2.2.2.2.2.2.2.2.2 hS hsz
  refine W.widen (Nat.le_refl _) h2 ?_
  exact W.zret hC.1 hC.2.1 (hC.2.2.2.1.trans hr) (by rcases hv with rfl | rfl <;> rfl) (fun t ht hw => ⟨⟨_, X, M, rfl, hq, by rw [ht]; exact hR, by rw [ht]; exact hsz2⟩, hS.F ht⟩) hS.2.2 hd hC.2.2.2.2.1
theorem wp_vret (hd : decode y.2.1 pc = .ok (.return_, 1)) (hr : y.2.2.2 = none) (h1 : ce = mc) (h2 : sl ≤ ms) (hq : Q X M none) : Wp G y d mc ms ce sl pc lo [] X M Q := by
  intro p l e s m args below meth c H locs ls hC hR hz hS hl
  subst h1
  refine W.sized (fun hsz => ?_)
  have hsz2 := hR.size hz hC.2.2.2.2.2.2.2.2.2.2 hS hsz
  refine W.widen (Nat.le_refl _) h2 ?_
  exact W.vret hC.1 hC.2.1 (hC.2.2.2.1.trans hr) (fun t ht hw => ⟨⟨_, X, M, rfl, hq, by rw [ht]; exact hR, by rw [ht]; exact hsz2⟩, hS.F ht⟩) hS.2.2 hd hC.2.2.2.2.1
/-- the words of a call: the pool's entry idx of the class own is the method y2, of n arguments -/
def CK0 (y2 : Md) (n : Nat) : Prop := Cond.initialized y2.1.cls ∈ GW ∧ Cond.code y2.1 y2.2.1 y2.2.2.1 y2.2.2.2 ∈ GW ∧ (y2.1.cls ≠ "java/lang/invoke/MethodHandle" ∧ y2.1.cls ≠ "java/lang/invoke/VarHandle" ∧ (parseMethodDescriptor y2.1.desc).map (fun d => d.parameters.length) = some n) ∧ y2.2.2.1 ≤ 21
def CKs (own : String) (idx : Nat) (y2 : Md) (n : Nat) : Prop := CK0 y2 n ∧ Cond.methodLink own idx y2.1 ∈ GW ∧ Cond.static y2.1 ∈ GW
def CKv (own : String) (idx : Nat) (y2 : Md) (n ci : Nat) : Prop := CK0 y2 n ∧ Cond.methodLink own idx y2.1 ∈ GW ∧ Cond.instanceMethod y2.1 ∈ GW ∧ Cond.selects y2.1.cls y2.1 y2.1 ∈ GW ∧ ci < 11 ∧ ∃ T : u_T, vwCl[ci]? = some (y2.1.cls, T, nFd ci)
def CKi (own : String) (idx : Nat) (y2 : Md) (n : Nat) : Prop := CK0 y2 n ∧ Cond.methodLink own idx y2.1 ∈ GW ∧ Cond.instanceMethod y2.1 ∈ GW ∧ y2.1.name = "<init>" ∧ y2.2.2.2 = none
def CKn (own : String) (idx : Nat) (y2 : Md) (n : Nat) : Prop := CK0 y2 n ∧ (own, idx, y2.1) ∈ NW1 ∧ Cond.static y2.1 ∈ GW
theorem gw_wsm {y2 : Md} (h : Cond.code y2.1 y2.2.1 y2.2.2.1 y2.2.2.2 ∈ GW) : GoodIn GW (wsm y2) := by
  intro w hw
  rcases List.mem_cons.mp hw with rfl | hw
  · exact ⟨h, (gw_good _ h).2⟩
  · exact ⟨hw, (gw_good _ hw).2⟩
theorem rmd_fit {d mc2 ms2 maxL : Nat} (h : maxL ≤ 21) : (rmd d mc2 ms2).frames + 1 ≤ (rmd (d + 1) mc ms).frames ∧ 8 + (maxL + 11) + (rmd d mc2 ms2).locals ≤ (rmd (d + 1) mc ms).locals := by
  constructor
  · exact Nat.le_refl _
  · show 8 + (maxL + 11) + 40 * d ≤ 40 * (d + 1)
    omega
theorem Pc_blind {as : List Value} : FrameBlind (va_Pc as (fun U => KU G U ∧ SE G U U.heap ∧ Rel G X M U.heap ∧ U.heap.size = xz X)) := by
  rintro a U g mk ⟨h1, h2, h3, h4, h5⟩
  exact ⟨h1, KU.same (u := U) rfl h2, SE.moved (u := U) (Vm.Alike.refl U.vm) h3, h4, h5⟩
theorem Pc_of {s : State} {H : Heap} {locs : List Loc} {as : List Value} (hK : KU G s) (hE : SE G s s.heap) (hS : va_S (AA G) s.heap H locs) (hR : Rel G X M H) (hsz : H.size = xz X) (U : State) (hU : U.heap = H) (hW : s.WarmedH U.vm) : va_Pc as (fun U => KU G U ∧ SE G U U.heap ∧ Rel G X M U.heap ∧ U.heap.size = xz X) as.toArray U :=
  ⟨rfl, hK.warm hW, (by rw [hU]; exact (hE.moved hW.alike).kept hS.2.1), by rw [hU]; exact hR, by rw [hU]; exact hsz⟩
/-- behind a call -/
theorem wp_back {p : Program} {l : Launch} {e : Env} {s : State} {m : MethodId} {args : Array Value} {below : List Frame} {meth : Method} {c : Code} {H : Heap} {locs : List Loc} {ls : Array Slot} {a : Array Value} {rest st0 : List Value} {mc2 ms2 : Nat} {Q1 : Sh → Mm → Option Value → Prop}
    (hC : Cx G y p s m args meth c) (hz : xz X = s.heap.size + ce) (hS : va_S (AA G) s.heap H locs) (hl : lv_has ls y.2.2.1 lo)
    (hr : va_Run p l e (rmd d mc ms) s m args below meth c H locs ce sl mc2 ms2 (F0 m pc ls st0) rest (Qm G Q1 a) (AA G)) (hzz : ∀ X' M' v, Q1 X' M' v → xz X' = xz X + mc2)
    (kk : ∀ X' M' v, Q1 X' M' v → Wp G y d mc ms (ce + mc2) (sl + ms2) (pc + 3) lo (v.toList ++ rest) X' M' Q) : W p l e (rmd d mc ms) s m args below meth c H locs ce sl (MQ below (Qm G Q) args s mc ms (AA G)) (F0 m pc ls st0) := by
  intro T hT X0
  obtain ⟨v, st₀, t, T', L, h0, X', hL, e1, e2, ⟨⟨v1, X1, M1, hv, hq, hR1, hs1⟩, hF⟩, hst⟩ := hr T hT X0
  cases hv
  obtain ⟨hF1, hF2⟩ := hF
  rw [h0] at hF1 hF2
  have hS1 : va_S (AA G) s.heap T'.heap (locs ++ L) := ⟨Nat.le_trans hS.1 (by rw [e1]; exact hF1), fun q h1 h2 => by rw [e1, hF2 q (Nat.lt_of_lt_of_le h1 hS.1) h2]; exact hS.2.1 q h1 h2, fun q hq => by
    rcases List.mem_append.mp hq with h | h
    · exact hS.2.2 q h
    · exact hL q h⟩
  obtain ⟨t2, a1, b1⟩ := kk X1 M1 v hq p l e s m args below meth c T'.heap (locs ++ L) ls hC (by rw [e1]; exact hR1) (by rw [hzz X1 M1 v hq, hz, Nat.add_assoc]) hS1 hl T' rfl X'
  exact ⟨t2, hst t2 a1, b1⟩
theorem wp_callS {y2 : Md} {n idx mc2 ms2 : Nat} {as rest : List Value} {Q1 : Sh → Mm → Option Value → Prop} (hd : decode y.2.1 pc = .ok (.invokestatic idx, 3)) (hw : CKs y.1.cls idx y2 n) (hown : y2.1.cls = y.1.cls) (hn : as.length = n) (hst : st = as.reverse ++ rest) (hc8 : (rest.map fun v => v.category).sum ≤ 8) (h1 : ce + mc2 ≤ mc) (h2 : sl + ms2 ≤ ms) (hM : Cl G y2 d mc2 ms2 as X M Q1) (hzz : ∀ X' M' v, Q1 X' M' v → xz X' = xz X + mc2)
    (kk : ∀ X' M' v, Q1 X' M' v → Wp G y (d + 1) mc ms (ce + mc2) (sl + ms2) (pc + 3) lo (v.toList ++ rest) X' M' Q) : Wp G y (d + 1) mc ms ce sl pc lo st X M Q := by
  intro p l e s m args below meth c H locs ls hC hR hz hS hl
  subst hst
  have hts := hC.2.2.2.2.2.2.1
  obtain ⟨⟨hi, hcd, hdd, h21⟩, hl1, hst⟩ := hw
  refine W.sized (fun hsz => ?_)
  have hsz2 := hR.size hz hC.2.2.2.2.2.2.2.2.2.2 hS hsz
  refine wp_back hC hz hS hl (va_runS (bytes := y2.2.1) (maxL := y2.2.2.1) (ret := y2.2.2.2) (n := n) (nL := y.2.2.1) (Ts := GW) ⟨hC.1, hC.2.1, hC.2.2.1, hC.2.2.2.2.2.1, hts⟩ (hM l) ⟨callB_of n hts (gw_wsm hcd) rfl rfl rfl (hts _ hi) (hts _ hl1) hdd (rmd_fit h21), hts _ hst⟩ ⟨Pc_blind, Pc_of hC.2.2.2.2.2.2.2.1 hC.2.2.2.2.2.2.2.2.1 hS hR hsz2⟩ rfl hn hl.1 rfl (lv_room hc8) hd ⟨h1, h2⟩) hzz kk
theorem wp_callN {y2 : Md} {n idx mc2 ms2 : Nat} {as rest : List Value} {Q1 : Sh → Mm → Option Value → Prop} (hd : decode y.2.1 pc = .ok (.invokestatic idx, 3)) (hw : CKn y.1.cls idx y2 n) (hn : as.length = n) (hst : st = as.reverse ++ rest) (hc8 : (rest.map fun v => v.category).sum ≤ 8) (h1 : ce + mc2 ≤ mc) (h2 : sl + ms2 ≤ ms) (hM : Cl G y2 d mc2 ms2 as X M Q1) (hzz : ∀ X' M' v, Q1 X' M' v → xz X' = xz X + mc2)
    (kk : ∀ X' M' v, Q1 X' M' v → Wp G y (d + 1) mc ms (ce + mc2) (sl + ms2) (pc + 3) lo (v.toList ++ rest) X' M' Q) : Wp G y (d + 1) mc ms ce sl pc lo st X M Q := by
  intro p l e s m args below meth c H locs ls hC hR hz hS hl
  subst hst
  have hts := hC.2.2.2.2.2.2.1
  obtain ⟨⟨hi, hcd, hdd, h21⟩, hnw, hst⟩ := hw
  refine W.sized (fun hsz => ?_)
  have hsz2 := hR.size hz hC.2.2.2.2.2.2.2.2.2.2 hS hsz
  have hnl : va_Nw (.methodLinkNest y.1.cls idx y2.1 "BurdenHouse") s := hC.2.2.2.2.2.2.2.1.2.1 _ hnw
  refine wp_back hC hz hS hl (va_runSN (host := "BurdenHouse") (bytes := y2.2.1) (maxL := y2.2.2.1) (ret := y2.2.2.2) (n := n) (nL := y.2.2.1) (Ts := GW) ⟨hC.1, hC.2.1, hC.2.2.1, hC.2.2.2.2.2.1, hts⟩ (hM l) ⟨va_cnB n hts (gw_wsm hcd) rfl rfl rfl hnl (hts _ hi) hdd (rmd_fit h21), hts _ hst, trivial⟩ ⟨Pc_blind, Pc_of hC.2.2.2.2.2.2.2.1 hC.2.2.2.2.2.2.2.2.1 hS hR hsz2⟩ rfl hn hl.1 rfl (lv_room hc8) hd ⟨h1, h2⟩) hzz kk
theorem wp_callI {y2 : Md} {n idx mc2 ms2 b : Nat} {as rest : List Value} {Q1 : Sh → Mm → Option Value → Prop} (hd : decode y.2.1 pc = .ok (.invokespecial idx, 3)) (hw : CKi y.1.cls idx y2 n) (hn : as.length = n) (hst : st = as.reverse ++ .ref b :: rest) (hc8 : (rest.map fun v => v.category).sum ≤ 8) (h1 : ce + mc2 ≤ mc) (h2 : sl + ms2 ≤ ms) (hM : Cl G y2 d mc2 ms2 (.ref b :: as) X M Q1) (hzz : ∀ X' M' v, Q1 X' M' v → xz X' = xz X + mc2)
    (kk : ∀ X' M' v, Q1 X' M' v → Wp G y (d + 1) mc ms (ce + mc2) (sl + ms2) (pc + 3) lo (v.toList ++ rest) X' M' Q) : Wp G y (d + 1) mc ms ce sl pc lo st X M Q := by
  intro p l e s m args below meth c H locs ls hC hR hz hS hl
  subst hst
  have hts := hC.2.2.2.2.2.2.1
  obtain ⟨⟨hi, hcd, hdd, h21⟩, hl1, hins, hnm, hret⟩ := hw
  refine W.sized (fun hsz => ?_)
  have hsz2 := hR.size hz hC.2.2.2.2.2.2.2.2.2.2 hS hsz
  have hg := gw_wsm hcd
  have hfit := rmd_fit (mc := mc) (ms := ms) (d := d) (mc2 := mc2) (ms2 := ms2) h21
  rw [hret] at hcd
  refine wp_back hC hz hS hl (va_runI (bytes := y2.2.1) (maxL := y2.2.2.1) (n := n) (nL := y.2.2.1) (Ts := GW) ⟨hC.1, hC.2.1, hC.2.2.1, hC.2.2.2.2.2.1, hts⟩ (hM l) ⟨callB_of n hts hg (by rw [wsm, hret]) rfl rfl (hts _ hi) (hts _ hl1) hdd hfit, hnm, hts _ hins⟩ ⟨Pc_blind, Pc_of hC.2.2.2.2.2.2.2.1 hC.2.2.2.2.2.2.2.2.1 hS hR hsz2⟩ rfl hn hl.1 rfl (lv_room hc8) hd ⟨h1, h2⟩) hzz kk
theorem wp_callV {y2 : Md} {n ci idx mc2 ms2 b : Nat} {as rest : List Value} {Q1 : Sh → Mm → Option Value → Prop} (hd : decode y.2.1 pc = .ok (.invokevirtual idx, 3)) (hw : CKv y.1.cls idx y2 n ci) (hb : xK X b = ci) (hn : as.length = n) (hst : st = as.reverse ++ .ref b :: rest) (hc8 : (rest.map fun v => v.category).sum ≤ 8) (h1 : ce + mc2 ≤ mc) (h2 : sl + ms2 ≤ ms) (hM : Cl G y2 d mc2 ms2 (.ref b :: as) X M Q1) (hzz : ∀ X' M' v, Q1 X' M' v → xz X' = xz X + mc2)
    (kk : ∀ X' M' v, Q1 X' M' v → Wp G y (d + 1) mc ms (ce + mc2) (sl + ms2) (pc + 3) lo (v.toList ++ rest) X' M' Q) : Wp G y (d + 1) mc ms ce sl pc lo st X M Q := by
  intro p l e s m args below meth c H locs ls hC hR hz hS hl
  subst hst
  have hts := hC.2.2.2.2.2.2.1
  obtain ⟨⟨hi, hcd, hdd, h21⟩, hl1, hins, hsel, hci, T, hcl⟩ := hw
  refine W.sized (fun hsz => ?_)
  have hsz2 := hR.size hz hC.2.2.2.2.2.2.2.2.2.2 hS hsz
  obtain ⟨q0, cell, hq, h3, h4, h5, h6⟩ := hR.obj hb hci hcl
  obtain ⟨hSl, hfc, kC, hkC, hkind⟩ := hC.2.2.2.2.2.2.2.1.1.1 ci _ hcl
  refine wp_back hC hz hS hl (va_runV (bytes := y2.2.1) (maxL := y2.2.2.1) (ret := y2.2.2.2) (n := n) (nL := y.2.2.1) (Ts := GW) (C := y2.1.cls) ⟨hC.1, hC.2.1, hC.2.2.1, hC.2.2.2.2.2.1, hts⟩ (hM l) ⟨callB_of n hts (gw_wsm hcd) rfl rfl rfl (hts _ hi) (hts _ hl1) hdd (rmd_fit h21), hts _ hins, hts _ hsel⟩ ⟨Pc_blind, ⟨cell, h3, by rw [h5]; rfl, by rw [h4]; exact hfc⟩, Pc_of hC.2.2.2.2.2.2.2.1 hC.2.2.2.2.2.2.2.2.1 hS hR hsz2⟩ rfl hn hl.1 rfl (lv_room hc8) hd ⟨h1, h2⟩) hzz kk
theorem wp_objInit {idx b : Nat} {rest : List Value} (hd : decode y.2.1 pc = .ok (.invokespecial idx, 3)) (hw : Cond.methodLink y.1.cls idx Lib.objectInit ∈ GW) (hw2 : Cond.instanceMethod Lib.objectInit ∈ GW) (hw3 : Cond.code Lib.objectInit ⟨#[0xb1]⟩ 1 none ∈ GW) (hc8 : (rest.map fun v => v.category).sum ≤ 8) (kk : Wp G y (d + 1) mc ms ce sl (pc + 3) lo rest X M Q) : Wp G y (d + 1) mc ms ce sl pc lo (.ref b :: rest) X M Q := by
  intro p l e s m args below meth c H locs ls hC hR hz hS hl
  have hts := hC.2.2.2.2.2.2.1
  refine W.objInit hC.1 hC.2.1 hC.2.2.2.2.2.1 (hts _ hw) (hts _ hw2) (hts _ hw3) rfl (hl.1.trans hC.2.2.1.symm) rfl hd ?_ ?_ (kk p l e s m args below meth c H locs ls hC hR hz hS hl)
  · show 1 ≤ d + 1
    omega
  · have := lv_room (m := m) (pc := pc) (ls := ls) (rest := .ref b :: rest) hc8
    show _ ≤ 40 * (d + 1)
    omega
theorem rmd_1 : 1 ≤ (rmd (d + 1) mc ms).frames := by
  show 1 ≤ d + 1
  omega
theorem rmd_l {k : Nat} (h : k ≤ 40) : k ≤ (rmd (d + 1) mc ms).locals := by
  show k ≤ 40 * (d + 1)
  omega
theorem wp_mmax {idx : Nat} {x1 y1 : Int32} {rest : List Value} (hd : decode y.2.1 pc = .ok (.invokestatic idx, 3)) (hw : Cond.methodLink y.1.cls idx Lib.Math.max.name ∈ GW) (hw2 : Cond.static Lib.Math.max.name ∈ GW) (hw3 : Cond.initialized "java/lang/Math" ∈ GW) (hw4 : Cond.code Lib.Math.max.name Lib.Math.max.code 2 (some .int) ∈ GW) (hc8 : (rest.map fun v => v.category).sum ≤ 8) (h1 : ce ≤ mc) (h2 : sl ≤ ms) (kk : Wp G y (d + 1) mc ms ce sl (pc + 3) lo (.int (if x1 < y1 then y1 else x1) :: rest) X M Q) : Wp G y (d + 1) mc ms ce sl pc lo (.int y1 :: .int x1 :: rest) X M Q := by
  intro p l e s m args below meth c H locs ls hC hR hz hS hl
  have hts := hC.2.2.2.2.2.2.1
  exact va_mmax hC.1 hC.2.1 (hC.2.2.1.trans hl.1.symm) hC.2.2.2.2.2.1 (hts _ hw) (hts _ hw2) (hts _ hw3) (hts _ hw4) rmd_1 (rmd_l (by omega)) h1 h2 hd (kk p l e s m args below meth c H locs ls hC hR hz hS hl)
theorem wp_mmin {idx : Nat} {x1 y1 : Int32} {rest : List Value} (hd : decode y.2.1 pc = .ok (.invokestatic idx, 3)) (hw : Cond.methodLink y.1.cls idx Lib.Math.min.name ∈ GW) (hw2 : Cond.static Lib.Math.min.name ∈ GW) (hw3 : Cond.initialized "java/lang/Math" ∈ GW) (hw4 : Cond.code Lib.Math.min.name Lib.Math.min.code 2 (some .int) ∈ GW) (hc8 : (rest.map fun v => v.category).sum ≤ 8) (h1 : ce ≤ mc) (h2 : sl ≤ ms) (kk : Wp G y (d + 1) mc ms ce sl (pc + 3) lo (.int (if y1 < x1 then y1 else x1) :: rest) X M Q) : Wp G y (d + 1) mc ms ce sl pc lo (.int y1 :: .int x1 :: rest) X M Q := by
  intro p l e s m args below meth c H locs ls hC hR hz hS hl
  have hts := hC.2.2.2.2.2.2.1
  exact va_mmin hC.1 hC.2.1 (hC.2.2.1.trans hl.1.symm) hC.2.2.2.2.2.1 (hts _ hw) (hts _ hw2) (hts _ hw3) (hts _ hw4) rmd_1 (rmd_l (by omega)) h1 h2 hd (kk p l e s m args below meth c H locs ls hC hR hz hS hl)
theorem wp_mabs {idx : Nat} {x1 : Int32} {rest : List Value} (hd : decode y.2.1 pc = .ok (.invokestatic idx, 3)) (hw : Cond.methodLink y.1.cls idx Lib.Math.abs.name ∈ GW) (hw2 : Cond.static Lib.Math.abs.name ∈ GW) (hw3 : Cond.initialized "java/lang/Math" ∈ GW) (hw4 : Cond.code Lib.Math.abs.name Lib.Math.abs.code 1 (some .int) ∈ GW) (hc8 : (rest.map fun v => v.category).sum ≤ 8) (h1 : ce ≤ mc) (h2 : sl ≤ ms) (kk : Wp G y (d + 1) mc ms ce sl (pc + 3) lo (.int (if 0 ≤ x1 then x1 else 0 - x1) :: rest) X M Q) : Wp G y (d + 1) mc ms ce sl pc lo (.int x1 :: rest) X M Q := by
  intro p l e s m args below meth c H locs ls hC hR hz hS hl
  have hts := hC.2.2.2.2.2.2.1
  exact va_mabs hC.1 hC.2.1 (hC.2.2.1.trans hl.1.symm) hC.2.2.2.2.2.1 (hts _ hw) (hts _ hw2) (hts _ hw3) (hts _ hw4) rmd_1 (rmd_l (by omega)) h1 h2 hd (kk p l e s m args below meth c H locs ls hC hR hz hS hl)
/-- many places of one row of ints come to another (or the same), as they were -/
def sC (M : Mm) (a0 sp a dp n : Nat) : Mm := (fun b => if b = a then va_cpy (mI M a0) (mI M a) sp dp n else mI M b, mJ M, mR M)
theorem sC_row (M : Mm) (a0 sp a dp n : Nat) : mI (sC M a0 sp a dp n) a = va_cpy (mI M a0) (mI M a) sp dp n := by simp [sC, mI]
theorem sC_off (M : Mm) (a0 sp a dp n : Nat) {b : Nat} (h : b ≠ a) : mI (sC M a0 sp a dp n) b = mI M b := by simp [sC, mI, h]
theorem mJ_sC (M : Mm) (a0 sp a dp n : Nat) : mJ (sC M a0 sp a dp n) = mJ M := rfl
theorem mR_sC (M : Mm) (a0 sp a dp n : Nat) : mR (sC M a0 sp a dp n) = mR M := rfl
def CKc (own : String) (idx : Nat) : Prop := Cond.methodLink own idx arraycopyName ∈ GW ∧ Cond.native arraycopyName ∈ GW ∧ Cond.static arraycopyName ∈ GW ∧ Cond.initialized "java/lang/System" ∈ GW
theorem wp_copy {idx a a0 n0 n1 i k j : Nat} {sp dp n : Int32} {rest : List Value} (hd : decode y.2.1 pc = .ok (.invokestatic idx, 3)) (hw : CKc y.1.cls idx) (ha0 : xK X a0 = 11) (ha : xK X a = 11) (hn0 : xN X a0 = n0) (hn1 : xN X a = n1) (hb0 : n0 < 2147483648) (hb1 : n1 < 2147483648) (hsp : sp = nI i) (hdp : dp = nI k) (hn : n = nI j) (h4 : i + j ≤ n0) (h5 : k + j ≤ n1) (hc8 : (rest.map fun v => v.category).sum ≤ 8)
    (kk : Wp G y (d + 1) mc ms ce sl (pc + 3) lo rest X (sC M a0 i a k j) Q) : Wp G y (d + 1) mc ms ce sl pc lo (.int n :: .int dp :: .ref a :: .int sp :: .ref a0 :: rest) X M Q := by
  intro p l e s m args below meth c H locs ls hC hR hz hS hl
  have hts := hC.2.2.2.2.2.2.1
  obtain ⟨q0, hq0⟩ := hR.at (a := a0) (by omega)
  obtain ⟨q1, hq1⟩ := hR.at (a := a) (by omega)
  have hq2 := hq1
  rw [ent_i ha0, hn0] at hq0
  rw [ent_i ha, hn1] at hq2
  subst hsp
  subst hdp
  subst hn
  have c1 : (nI i).toNatClampNeg = i := nI_clamp (by omega)
  have c2 : (nI k).toNatClampNeg = k := nI_clamp (by omega)
  have c3 : (nI j).toNatClampNeg = j := nI_clamp (by omega)
  refine va_copyi (ty := .int) hC.1 hC.2.1 (hC.2.2.1.trans hl.1.symm) hC.2.2.2.2.2.1 (hts _ hw.1) (hts _ hw.2.1) (hts _ hw.2.2.1) (hts _ hw.2.2.2) hC.2.2.2.2.2.2.2.1.1 hR.2.2 (LL_D G X _) hS q0 q1 0 0 hq0 hq2 rfl rfl rfl (nI_pos (by omega)) (nI_pos (by omega)) (nI_pos (by omega)) (by rw [c1, c3]; exact h4) (by rw [c2, c3]; exact h5) (fun _ _ => rfl) rmd_1 (rmd_l ?_) hd (fun H1 locs1 hP1 _ hS1 => ?_)
  · have : nativeFrameWords "java/lang/System" "arraycopy" 5 = 7 := by decide +kernel
    omega
  · rw [c1, c2, c3] at hP1
    exact kk p l e s m args below meth c H1 locs1 ls hC (hR.set (by omega) hq1 hP1 (ent_up (by rw [ent_i ha, hn1, sC_row]) (fun b hb => ent_off (sC_off _ _ _ _ _ _ hb) rfl rfl))) hz hS1 hl
theorem z1_fit (x : Int32) : fits .boolean (.int (vp_nar .boolean x)) = true := by
  have h : vp_nar .boolean x = x &&& 1 := rfl
  rw [h]
  obtain ⟨j, hj, e⟩ := pk_andE x (m := 1) 1 (by decide)
  rw [e]
  match j, hj with
  | 0, _ => rfl
  | 1, _ => rfl
theorem wp_copyZ {idx a a0 n0 n1 i k j : Nat} {sp dp n : Int32} {rest : List Value} (hd : decode y.2.1 pc = .ok (.invokestatic idx, 3)) (hw : CKc y.1.cls idx) (ha0 : xK X a0 = 13) (ha : xK X a = 13) (hn0 : xN X a0 = n0) (hn1 : xN X a = n1) (hb0 : n0 < 2147483648) (hb1 : n1 < 2147483648) (hsp : sp = nI i) (hdp : dp = nI k) (hn : n = nI j) (h4 : i + j ≤ n0) (h5 : k + j ≤ n1) (hc8 : (rest.map fun v => v.category).sum ≤ 8)
    (kk : Wp G y (d + 1) mc ms ce sl (pc + 3) lo rest X (sC M a0 i a k j) Q) : Wp G y (d + 1) mc ms ce sl pc lo (.int n :: .int dp :: .ref a :: .int sp :: .ref a0 :: rest) X M Q := by
  intro p l e s m args below meth c H locs ls hC hR hz hS hl
  have hts := hC.2.2.2.2.2.2.1
  obtain ⟨q0, hq0⟩ := hR.at (a := a0) (by omega)
  obtain ⟨q1, hq1⟩ := hR.at (a := a) (by omega)
  have hq2 := hq1
  rw [ent_z ha0, hn0] at hq0
  rw [ent_z ha, hn1] at hq2
  subst hsp
  subst hdp
  subst hn
  have c1 : (nI i).toNatClampNeg = i := nI_clamp (by omega)
  have c2 : (nI k).toNatClampNeg = k := nI_clamp (by omega)
  have c3 : (nI j).toNatClampNeg = j := nI_clamp (by omega)
  refine va_copyi (ty := .boolean) hC.1 hC.2.1 (hC.2.2.1.trans hl.1.symm) hC.2.2.2.2.2.1 (hts _ hw.1) (hts _ hw.2.1) (hts _ hw.2.2.1) (hts _ hw.2.2.2) hC.2.2.2.2.2.2.2.1.1 hR.2.2 (LL_D G X _) hS q0 q1 2 2 hq0 hq2 rfl rfl rfl (nI_pos (by omega)) (nI_pos (by omega)) (nI_pos (by omega)) (by rw [c1, c3]; exact h4) (by rw [c2, c3]; exact h5) (fun _ _ => z1_fit _) rmd_1 (rmd_l ?_) hd (fun H1 locs1 hP1 _ hS1 => ?_)
  · have : nativeFrameWords "java/lang/System" "arraycopy" 5 = 7 := by decide +kernel
    omega
  · rw [c1, c2, c3] at hP1
    have hrow : (fun q => vp_nar .boolean (mI (sC M a0 i a k j) a q)) = va_cpy (fun q => vp_nar .boolean (mI M a0 q)) (fun q => vp_nar .boolean (mI M a q)) i k j := by
      funext q
      rw [sC_row]
      unfold va_cpy
      by_cases h : k ≤ q ∧ q < k + j <;> simp [h]
    exact kk p l e s m args below meth c H1 locs1 ls hC (hR.set (by omega) hq1 hP1 (ent_up (by rw [ent_z ha, hn1, hrow]) (fun b hb => ent_off (sC_off _ _ _ _ _ _ hb) rfl rfl))) hz hS1 hl
/-- the two static rows -/
theorem wp_areas {idx : Nat} (hd : decode y.2.1 pc = .ok (.getstatic idx, 3)) (hw : Cond.fieldLink y.1.cls idx "BurdenHouse$Furnace" "AREAS" "[I" ∈ GW) (kk : Wp G y d mc ms ce sl (pc + 3) lo (.ref (G.2 8) :: st) X M Q) : Wp G y d mc ms ce sl pc lo st X M Q := by
  intro p l e s m args below meth c H locs ls hC hR hz hS hl
  exact va_gets hC.1 hC.2.1 hC.2.2.2.2.2.2.2.2.1.1 hS hC.2.2.2.2.2.1 (hC.2.2.2.2.2.2.1 _ hw) (fun _ h => h) hd (kk p l e s m args below meth c H locs ls hC hR hz hS hl)
theorem wp_areaAt {j : Nat} {i : Int32} (hd : decode y.2.1 pc = .ok (.iaload, 1)) (hj : i = nI j) (hlt : j < 5) (kk : Wp G y d mc ms ce sl (pc + 1) lo (.int (areaV j) :: st) X M Q) : Wp G y d mc ms ce sl pc lo (.int i :: .ref (G.2 8) :: st) X M Q := by
  intro p l e s m args below meth c H locs ls hC hR hz hS hl
  obtain ⟨h1, h2⟩ := ix_in hj hlt (by omega)
  refine va_ti hC.1 hC.2.1 hC.2.2.2.2.2.2.2.2.1.2.1 hS h1 (v := .int (areaV j)) (by rw [h2]) hd (kk p l e s m args below meth c H locs ls hC hR hz hS hl)
theorem wp_above {idx : Nat} (hd : decode y.2.1 pc = .ok (.getstatic idx, 3)) (hw : Cond.fieldLink y.1.cls idx "BurdenHouse$Stuff" "ABOVE" "[I" ∈ GW) (kk : Wp G y d mc ms ce sl (pc + 3) lo (.ref (G.2 9) :: st) X M Q) : Wp G y d mc ms ce sl pc lo st X M Q := by
  intro p l e s m args below meth c H locs ls hC hR hz hS hl
  exact va_gets hC.1 hC.2.1 hC.2.2.2.2.2.2.2.2.1.2.2.1 hS hC.2.2.2.2.2.1 (hC.2.2.2.2.2.2.1 _ hw) (fun _ h => h) hd (kk p l e s m args below meth c H locs ls hC hR hz hS hl)
theorem wp_aboveAt {j : Nat} {i : Int32} (hd : decode y.2.1 pc = .ok (.iaload, 1)) (hj : i = nI j) (hlt : j < 6) (kk : Wp G y d mc ms ce sl (pc + 1) lo (.int (aboveV j) :: st) X M Q) : Wp G y d mc ms ce sl pc lo (.int i :: .ref (G.2 9) :: st) X M Q := by
  intro p l e s m args below meth c H locs ls hC hR hz hS hl
  obtain ⟨h1, h2⟩ := ix_in hj hlt (by omega)
  refine va_ti hC.1 hC.2.1 hC.2.2.2.2.2.2.2.2.1.2.2.2.1 hS h1 (v := .int (aboveV j)) (by rw [h2]) hd (kk p l e s m args below meth c H locs ls hC hR hz hS hl)
end ROWS
end
