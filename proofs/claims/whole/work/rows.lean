section
-- ===== PART A: goes FIRST, ahead of the names: the tables' words, and 'selects' of the private methods out of them =====
/-- a private method of a class that the tables say can be made, by its rows of tables_1 -/
def lw_okq (q : MethodName × Nat) : Prop := (q.1.cls ≠ "java/lang/invoke/MethodHandle" ∧ q.1.cls ≠ "java/lang/invoke/VarHandle") ∧ Cond.instantiable q.1.cls q.2 ∈ tables_1 ∧ Cond.privateMethod q.1 ∈ tables_1 ∧ Cond.instanceMethod q.1 ∈ tables_1
theorem lw_p0 : lw_okq (⟨"java/lang/Throwable", "fillInStackTrace", "(I)Ljava/lang/Throwable;"⟩, 6) := ⟨⟨by decide +kernel, by decide +kernel⟩, List.mem_of_getElem? (i := 453) (by decide +kernel), List.mem_of_getElem? (i := 451) (by decide +kernel), List.mem_of_getElem? (i := 452) (by decide +kernel)⟩
theorem lw_p1 : lw_okq (⟨"CometObservatory$Telescope", "insert", "(III)V"⟩, 7) := ⟨⟨by decide +kernel, by decide +kernel⟩, List.mem_of_getElem? (i := 177) (by decide +kernel), List.mem_of_getElem? (i := 489) (by decide +kernel), List.mem_of_getElem? (i := 490) (by decide +kernel)⟩
theorem lw_p2 : lw_okq (⟨"CometObservatory$Telescope", "endedBefore", "(II)I"⟩, 7) := ⟨⟨by decide +kernel, by decide +kernel⟩, List.mem_of_getElem? (i := 177) (by decide +kernel), List.mem_of_getElem? (i := 497) (by decide +kernel), List.mem_of_getElem? (i := 498) (by decide +kernel)⟩
theorem lw_p3 : lw_okq (⟨"CometObservatory$Telescope", "offer", "(III)V"⟩, 7) := ⟨⟨by decide +kernel, by decide +kernel⟩, List.mem_of_getElem? (i := 177) (by decide +kernel), List.mem_of_getElem? (i := 510) (by decide +kernel), List.mem_of_getElem? (i := 511) (by decide +kernel)⟩
theorem lw_p4 : lw_okq (⟨"CometObservatory", "existing", "(I)LCometObservatory$Comet;"⟩, 10) := ⟨⟨by decide +kernel, by decide +kernel⟩, List.mem_of_getElem? (i := 34) (by decide +kernel), List.mem_of_getElem? (i := 894) (by decide +kernel), List.mem_of_getElem? (i := 895) (by decide +kernel)⟩
theorem lw_p5 : lw_okq (⟨"CometObservatory$Sky", "takeOut", "(I)V"⟩, 9) := ⟨⟨by decide +kernel, by decide +kernel⟩, List.mem_of_getElem? (i := 42) (by decide +kernel), List.mem_of_getElem? (i := 923) (by decide +kernel), List.mem_of_getElem? (i := 924) (by decide +kernel)⟩
theorem lw_p6 : lw_okq (⟨"CometObservatory$Sky", "letOneDayPass", "()V"⟩, 9) := ⟨⟨by decide +kernel, by decide +kernel⟩, List.mem_of_getElem? (i := 42) (by decide +kernel), List.mem_of_getElem? (i := 987) (by decide +kernel), List.mem_of_getElem? (i := 988) (by decide +kernel)⟩
theorem lw_p7 : lw_okq (⟨"CometObservatory$Sky", "letCometPass", "(LCometObservatory$Comet;)V"⟩, 9) := ⟨⟨by decide +kernel, by decide +kernel⟩, List.mem_of_getElem? (i := 42) (by decide +kernel), List.mem_of_getElem? (i := 991) (by decide +kernel), List.mem_of_getElem? (i := 992) (by decide +kernel)⟩
theorem lw_p8 : lw_okq (⟨"CometObservatory$Sky", "takeOutBurntComets", "()V"⟩, 9) := ⟨⟨by decide +kernel, by decide +kernel⟩, List.mem_of_getElem? (i := 42) (by decide +kernel), List.mem_of_getElem? (i := 999) (by decide +kernel), List.mem_of_getElem? (i := 1000) (by decide +kernel)⟩
theorem lw_p9 : lw_okq (⟨"CometObservatory$Sky", "rankOf", "(LCometObservatory$Comet;)I"⟩, 9) := ⟨⟨by decide +kernel, by decide +kernel⟩, List.mem_of_getElem? (i := 42) (by decide +kernel), List.mem_of_getElem? (i := 1120) (by decide +kernel), List.mem_of_getElem? (i := 1121) (by decide +kernel)⟩
theorem lw_p10 : lw_okq (⟨"CometObservatory$Program", "readCommand", "()Z"⟩, 6) := ⟨⟨by decide +kernel, by decide +kernel⟩, List.mem_of_getElem? (i := 207) (by decide +kernel), List.mem_of_getElem? (i := 1272) (by decide +kernel), List.mem_of_getElem? (i := 1273) (by decide +kernel)⟩
theorem lw_p11 : lw_okq (⟨"CometObservatory$Program", "readWord", "()I"⟩, 6) := ⟨⟨by decide +kernel, by decide +kernel⟩, List.mem_of_getElem? (i := 207) (by decide +kernel), List.mem_of_getElem? (i := 1276) (by decide +kernel), List.mem_of_getElem? (i := 1277) (by decide +kernel)⟩
theorem lw_p12 : lw_okq (⟨"CometObservatory$Program", "matchedSigns", "(Ljava/lang/String;)I"⟩, 6) := ⟨⟨by decide +kernel, by decide +kernel⟩, List.mem_of_getElem? (i := 207) (by decide +kernel), List.mem_of_getElem? (i := 1290) (by decide +kernel), List.mem_of_getElem? (i := 1291) (by decide +kernel)⟩
theorem lw_p13 : lw_okq (⟨"CometObservatory$Program", "readSign", "(C)Z"⟩, 6) := ⟨⟨by decide +kernel, by decide +kernel⟩, List.mem_of_getElem? (i := 207) (by decide +kernel), List.mem_of_getElem? (i := 1314) (by decide +kernel), List.mem_of_getElem? (i := 1315) (by decide +kernel)⟩
theorem lw_p14 : lw_okq (⟨"CometObservatory$Program", "readNumber", "(I)I"⟩, 6) := ⟨⟨by decide +kernel, by decide +kernel⟩, List.mem_of_getElem? (i := 207) (by decide +kernel), List.mem_of_getElem? (i := 1321) (by decide +kernel), List.mem_of_getElem? (i := 1322) (by decide +kernel)⟩
theorem lw_p15 : lw_okq (⟨"CometObservatory$Program", "isAtDigit", "()Z"⟩, 6) := ⟨⟨by decide +kernel, by decide +kernel⟩, List.mem_of_getElem? (i := 207) (by decide +kernel), List.mem_of_getElem? (i := 1325) (by decide +kernel), List.mem_of_getElem? (i := 1326) (by decide +kernel)⟩
def lw_privs_1 : List (MethodName × Nat) := [(⟨"java/lang/Throwable", "fillInStackTrace", "(I)Ljava/lang/Throwable;"⟩, 6), (⟨"CometObservatory$Telescope", "insert", "(III)V"⟩, 7), (⟨"CometObservatory$Telescope", "endedBefore", "(II)I"⟩, 7), (⟨"CometObservatory$Telescope", "offer", "(III)V"⟩, 7), (⟨"CometObservatory", "existing", "(I)LCometObservatory$Comet;"⟩, 10), (⟨"CometObservatory$Sky", "takeOut", "(I)V"⟩, 9), (⟨"CometObservatory$Sky", "letOneDayPass", "()V"⟩, 9), (⟨"CometObservatory$Sky", "letCometPass", "(LCometObservatory$Comet;)V"⟩, 9), (⟨"CometObservatory$Sky", "takeOutBurntComets", "()V"⟩, 9), (⟨"CometObservatory$Sky", "rankOf", "(LCometObservatory$Comet;)I"⟩, 9), (⟨"CometObservatory$Program", "readCommand", "()Z"⟩, 6), (⟨"CometObservatory$Program", "readWord", "()I"⟩, 6), (⟨"CometObservatory$Program", "matchedSigns", "(Ljava/lang/String;)I"⟩, 6), (⟨"CometObservatory$Program", "readSign", "(C)Z"⟩, 6), (⟨"CometObservatory$Program", "readNumber", "(I)I"⟩, 6), (⟨"CometObservatory$Program", "isAtDigit", "()Z"⟩, 6)]
theorem lw_r1 : ∀ q ∈ lw_privs_1, lw_okq q := List.forall_mem_cons.mpr ⟨lw_p0, List.forall_mem_cons.mpr ⟨lw_p1, List.forall_mem_cons.mpr ⟨lw_p2, List.forall_mem_cons.mpr ⟨lw_p3, List.forall_mem_cons.mpr ⟨lw_p4, List.forall_mem_cons.mpr ⟨lw_p5, List.forall_mem_cons.mpr ⟨lw_p6, List.forall_mem_cons.mpr ⟨lw_p7, List.forall_mem_cons.mpr ⟨lw_p8, List.forall_mem_cons.mpr ⟨lw_p9, List.forall_mem_cons.mpr ⟨lw_p10, List.forall_mem_cons.mpr ⟨lw_p11, List.forall_mem_cons.mpr ⟨lw_p12, List.forall_mem_cons.mpr ⟨lw_p13, List.forall_mem_cons.mpr ⟨lw_p14, List.forall_mem_cons.mpr ⟨lw_p15, fun _ h => absurd h List.not_mem_nil⟩⟩⟩⟩⟩⟩⟩⟩⟩⟩⟩⟩⟩⟩⟩⟩
theorem lw_p16 : lw_okq (⟨"CometObservatory", "carryOut", "(IIII)Z"⟩, 10) := ⟨⟨by decide +kernel, by decide +kernel⟩, List.mem_of_getElem? (i := 34) (by decide +kernel), List.mem_of_getElem? (i := 1330) (by decide +kernel), List.mem_of_getElem? (i := 1331) (by decide +kernel)⟩
theorem lw_p17 : lw_okq (⟨"CometObservatory", "turn", "(II)Z"⟩, 10) := ⟨⟨by decide +kernel, by decide +kernel⟩, List.mem_of_getElem? (i := 34) (by decide +kernel), List.mem_of_getElem? (i := 1334) (by decide +kernel), List.mem_of_getElem? (i := 1335) (by decide +kernel)⟩
theorem lw_p18 : lw_okq (⟨"CometObservatory", "shine", "(II)Z"⟩, 10) := ⟨⟨by decide +kernel, by decide +kernel⟩, List.mem_of_getElem? (i := 34) (by decide +kernel), List.mem_of_getElem? (i := 1338) (by decide +kernel), List.mem_of_getElem? (i := 1339) (by decide +kernel)⟩
theorem lw_p19 : lw_okq (⟨"CometObservatoryModel", "begins", "()V"⟩, 17) := ⟨⟨by decide +kernel, by decide +kernel⟩, List.mem_of_getElem? (i := 1404) (by decide +kernel), List.mem_of_getElem? (i := 1470) (by decide +kernel), List.mem_of_getElem? (i := 1471) (by decide +kernel)⟩
theorem lw_p20 : lw_okq (⟨"CometObservatoryModel", "copies", "(II)V"⟩, 17) := ⟨⟨by decide +kernel, by decide +kernel⟩, List.mem_of_getElem? (i := 1404) (by decide +kernel), List.mem_of_getElem? (i := 1474) (by decide +kernel), List.mem_of_getElem? (i := 1475) (by decide +kernel)⟩
theorem lw_p21 : lw_okq (⟨"CometObservatoryModel", "comes", "(III)I"⟩, 17) := ⟨⟨by decide +kernel, by decide +kernel⟩, List.mem_of_getElem? (i := 1404) (by decide +kernel), List.mem_of_getElem? (i := 1478) (by decide +kernel), List.mem_of_getElem? (i := 1479) (by decide +kernel)⟩
theorem lw_p22 : lw_okq (⟨"CometObservatoryModel", "set", "(III)V"⟩, 17) := ⟨⟨by decide +kernel, by decide +kernel⟩, List.mem_of_getElem? (i := 1404) (by decide +kernel), List.mem_of_getElem? (i := 1485) (by decide +kernel), List.mem_of_getElem? (i := 1486) (by decide +kernel)⟩
theorem lw_p23 : lw_okq (⟨"CometObservatoryModel", "ends", "(IIIII)I"⟩, 17) := ⟨⟨by decide +kernel, by decide +kernel⟩, List.mem_of_getElem? (i := 1404) (by decide +kernel), List.mem_of_getElem? (i := 1489) (by decide +kernel), List.mem_of_getElem? (i := 1490) (by decide +kernel)⟩
theorem lw_p24 : lw_okq (⟨"CometObservatoryModel", "drops", "(I)I"⟩, 17) := ⟨⟨by decide +kernel, by decide +kernel⟩, List.mem_of_getElem? (i := 1404) (by decide +kernel), List.mem_of_getElem? (i := 1497) (by decide +kernel), List.mem_of_getElem? (i := 1498) (by decide +kernel)⟩
theorem lw_p25 : lw_okq (⟨"CometObservatoryModel", "isThere", "(I)Z"⟩, 17) := ⟨⟨by decide +kernel, by decide +kernel⟩, List.mem_of_getElem? (i := 1404) (by decide +kernel), List.mem_of_getElem? (i := 1501) (by decide +kernel), List.mem_of_getElem? (i := 1502) (by decide +kernel)⟩
theorem lw_p26 : lw_okq (⟨"CometObservatoryModel", "place", "(I)I"⟩, 17) := ⟨⟨by decide +kernel, by decide +kernel⟩, List.mem_of_getElem? (i := 1404) (by decide +kernel), List.mem_of_getElem? (i := 1505) (by decide +kernel), List.mem_of_getElem? (i := 1506) (by decide +kernel)⟩
theorem lw_p27 : lw_okq (⟨"CometObservatoryModel", "c", "(II)I"⟩, 17) := ⟨⟨by decide +kernel, by decide +kernel⟩, List.mem_of_getElem? (i := 1404) (by decide +kernel), List.mem_of_getElem? (i := 1509) (by decide +kernel), List.mem_of_getElem? (i := 1510) (by decide +kernel)⟩
theorem lw_p28 : lw_okq (⟨"CometObservatoryModel", "goes", "(I)V"⟩, 17) := ⟨⟨by decide +kernel, by decide +kernel⟩, List.mem_of_getElem? (i := 1404) (by decide +kernel), List.mem_of_getElem? (i := 1513) (by decide +kernel), List.mem_of_getElem? (i := 1514) (by decide +kernel)⟩
theorem lw_p29 : lw_okq (⟨"CometObservatoryModel", "turns", "(II)I"⟩, 17) := ⟨⟨by decide +kernel, by decide +kernel⟩, List.mem_of_getElem? (i := 1404) (by decide +kernel), List.mem_of_getElem? (i := 1521) (by decide +kernel), List.mem_of_getElem? (i := 1522) (by decide +kernel)⟩
theorem lw_p30 : lw_okq (⟨"CometObservatoryModel", "shines", "(II)I"⟩, 17) := ⟨⟨by decide +kernel, by decide +kernel⟩, List.mem_of_getElem? (i := 1404) (by decide +kernel), List.mem_of_getElem? (i := 1529) (by decide +kernel), List.mem_of_getElem? (i := 1530) (by decide +kernel)⟩
theorem lw_p31 : lw_okq (⟨"CometObservatoryModel", "goOn", "(I)I"⟩, 17) := ⟨⟨by decide +kernel, by decide +kernel⟩, List.mem_of_getElem? (i := 1404) (by decide +kernel), List.mem_of_getElem? (i := 1537) (by decide +kernel), List.mem_of_getElem? (i := 1538) (by decide +kernel)⟩
def lw_privs_2 : List (MethodName × Nat) := [(⟨"CometObservatory", "carryOut", "(IIII)Z"⟩, 10), (⟨"CometObservatory", "turn", "(II)Z"⟩, 10), (⟨"CometObservatory", "shine", "(II)Z"⟩, 10), (⟨"CometObservatoryModel", "begins", "()V"⟩, 17), (⟨"CometObservatoryModel", "copies", "(II)V"⟩, 17), (⟨"CometObservatoryModel", "comes", "(III)I"⟩, 17), (⟨"CometObservatoryModel", "set", "(III)V"⟩, 17), (⟨"CometObservatoryModel", "ends", "(IIIII)I"⟩, 17), (⟨"CometObservatoryModel", "drops", "(I)I"⟩, 17), (⟨"CometObservatoryModel", "isThere", "(I)Z"⟩, 17), (⟨"CometObservatoryModel", "place", "(I)I"⟩, 17), (⟨"CometObservatoryModel", "c", "(II)I"⟩, 17), (⟨"CometObservatoryModel", "goes", "(I)V"⟩, 17), (⟨"CometObservatoryModel", "turns", "(II)I"⟩, 17), (⟨"CometObservatoryModel", "shines", "(II)I"⟩, 17), (⟨"CometObservatoryModel", "goOn", "(I)I"⟩, 17)]
theorem lw_r2 : ∀ q ∈ lw_privs_2, lw_okq q := List.forall_mem_cons.mpr ⟨lw_p16, List.forall_mem_cons.mpr ⟨lw_p17, List.forall_mem_cons.mpr ⟨lw_p18, List.forall_mem_cons.mpr ⟨lw_p19, List.forall_mem_cons.mpr ⟨lw_p20, List.forall_mem_cons.mpr ⟨lw_p21, List.forall_mem_cons.mpr ⟨lw_p22, List.forall_mem_cons.mpr ⟨lw_p23, List.forall_mem_cons.mpr ⟨lw_p24, List.forall_mem_cons.mpr ⟨lw_p25, List.forall_mem_cons.mpr ⟨lw_p26, List.forall_mem_cons.mpr ⟨lw_p27, List.forall_mem_cons.mpr ⟨lw_p28, List.forall_mem_cons.mpr ⟨lw_p29, List.forall_mem_cons.mpr ⟨lw_p30, List.forall_mem_cons.mpr ⟨lw_p31, fun _ h => absurd h List.not_mem_nil⟩⟩⟩⟩⟩⟩⟩⟩⟩⟩⟩⟩⟩⟩⟩⟩
theorem lw_p32 : lw_okq (⟨"CometObservatoryModel", "goesBy", "()I"⟩, 17) := ⟨⟨by decide +kernel, by decide +kernel⟩, List.mem_of_getElem? (i := 1404) (by decide +kernel), List.mem_of_getElem? (i := 1541) (by decide +kernel), List.mem_of_getElem? (i := 1542) (by decide +kernel)⟩
theorem lw_p33 : lw_okq (⟨"CometObservatoryModel", "passes", "(I)Z"⟩, 17) := ⟨⟨by decide +kernel, by decide +kernel⟩, List.mem_of_getElem? (i := 1404) (by decide +kernel), List.mem_of_getElem? (i := 1545) (by decide +kernel), List.mem_of_getElem? (i := 1546) (by decide +kernel)⟩
theorem lw_p34 : lw_okq (⟨"CometObservatoryModel", "cleans", "(II)I"⟩, 17) := ⟨⟨by decide +kernel, by decide +kernel⟩, List.mem_of_getElem? (i := 1404) (by decide +kernel), List.mem_of_getElem? (i := 1553) (by decide +kernel), List.mem_of_getElem? (i := 1554) (by decide +kernel)⟩
theorem lw_p35 : lw_okq (⟨"CometObservatoryModel", "dustOf", "(II)I"⟩, 17) := ⟨⟨by decide +kernel, by decide +kernel⟩, List.mem_of_getElem? (i := 1404) (by decide +kernel), List.mem_of_getElem? (i := 1557) (by decide +kernel), List.mem_of_getElem? (i := 1558) (by decide +kernel)⟩
theorem lw_p36 : lw_okq (⟨"CometObservatoryModel", "rates", "(I)I"⟩, 17) := ⟨⟨by decide +kernel, by decide +kernel⟩, List.mem_of_getElem? (i := 1404) (by decide +kernel), List.mem_of_getElem? (i := 1565) (by decide +kernel), List.mem_of_getElem? (i := 1566) (by decide +kernel)⟩
theorem lw_p37 : lw_okq (⟨"CometObservatoryModel", "told", "(I)I"⟩, 17) := ⟨⟨by decide +kernel, by decide +kernel⟩, List.mem_of_getElem? (i := 1404) (by decide +kernel), List.mem_of_getElem? (i := 1573) (by decide +kernel), List.mem_of_getElem? (i := 1574) (by decide +kernel)⟩
theorem lw_p38 : lw_okq (⟨"CometObservatoryModel", "isFine", "(Z)Z"⟩, 17) := ⟨⟨by decide +kernel, by decide +kernel⟩, List.mem_of_getElem? (i := 1404) (by decide +kernel), List.mem_of_getElem? (i := 1581) (by decide +kernel), List.mem_of_getElem? (i := 1582) (by decide +kernel)⟩
theorem lw_p39 : lw_okq (⟨"CometObservatoryModel", "ofComet", "(II)I"⟩, 17) := ⟨⟨by decide +kernel, by decide +kernel⟩, List.mem_of_getElem? (i := 1404) (by decide +kernel), List.mem_of_getElem? (i := 1593) (by decide +kernel), List.mem_of_getElem? (i := 1594) (by decide +kernel)⟩
theorem lw_p40 : lw_okq (⟨"CometObservatoryModel", "isAhead", "(II)Z"⟩, 17) := ⟨⟨by decide +kernel, by decide +kernel⟩, List.mem_of_getElem? (i := 1404) (by decide +kernel), List.mem_of_getElem? (i := 1625) (by decide +kernel), List.mem_of_getElem? (i := 1626) (by decide +kernel)⟩
theorem lw_p41 : lw_okq (⟨"CometObservatoryModel", "brightIn", "(II)I"⟩, 17) := ⟨⟨by decide +kernel, by decide +kernel⟩, List.mem_of_getElem? (i := 1404) (by decide +kernel), List.mem_of_getElem? (i := 1633) (by decide +kernel), List.mem_of_getElem? (i := 1634) (by decide +kernel)⟩
theorem lw_p42 : lw_okq (⟨"CometObservatoryModel", "passesOn", "(II)Z"⟩, 17) := ⟨⟨by decide +kernel, by decide +kernel⟩, List.mem_of_getElem? (i := 1404) (by decide +kernel), List.mem_of_getElem? (i := 1641) (by decide +kernel), List.mem_of_getElem? (i := 1642) (by decide +kernel)⟩
theorem lw_p43 : lw_okq (⟨"CometObservatoryModel", "plans", "(I)V"⟩, 17) := ⟨⟨by decide +kernel, by decide +kernel⟩, List.mem_of_getElem? (i := 1404) (by decide +kernel), List.mem_of_getElem? (i := 1658) (by decide +kernel), List.mem_of_getElem? (i := 1659) (by decide +kernel)⟩
theorem lw_p44 : lw_okq (⟨"CometObservatoryModel", "follows", "(III)V"⟩, 17) := ⟨⟨by decide +kernel, by decide +kernel⟩, List.mem_of_getElem? (i := 1404) (by decide +kernel), List.mem_of_getElem? (i := 1662) (by decide +kernel), List.mem_of_getElem? (i := 1663) (by decide +kernel)⟩
theorem lw_p45 : lw_okq (⟨"CometObservatoryModel", "gains", "(II)I"⟩, 17) := ⟨⟨by decide +kernel, by decide +kernel⟩, List.mem_of_getElem? (i := 1404) (by decide +kernel), List.mem_of_getElem? (i := 1683) (by decide +kernel), List.mem_of_getElem? (i := 1684) (by decide +kernel)⟩
theorem lw_p46 : lw_okq (⟨"CometObservatoryModel", "bestArc", "()I"⟩, 17) := ⟨⟨by decide +kernel, by decide +kernel⟩, List.mem_of_getElem? (i := 1404) (by decide +kernel), List.mem_of_getElem? (i := 1691) (by decide +kernel), List.mem_of_getElem? (i := 1692) (by decide +kernel)⟩
theorem lw_p47 : lw_okq (⟨"CometObservatoryModel", "parse", "()V"⟩, 17) := ⟨⟨by decide +kernel, by decide +kernel⟩, List.mem_of_getElem? (i := 1404) (by decide +kernel), List.mem_of_getElem? (i := 1758) (by decide +kernel), List.mem_of_getElem? (i := 1759) (by decide +kernel)⟩
def lw_privs_3 : List (MethodName × Nat) := [(⟨"CometObservatoryModel", "goesBy", "()I"⟩, 17), (⟨"CometObservatoryModel", "passes", "(I)Z"⟩, 17), (⟨"CometObservatoryModel", "cleans", "(II)I"⟩, 17), (⟨"CometObservatoryModel", "dustOf", "(II)I"⟩, 17), (⟨"CometObservatoryModel", "rates", "(I)I"⟩, 17), (⟨"CometObservatoryModel", "told", "(I)I"⟩, 17), (⟨"CometObservatoryModel", "isFine", "(Z)Z"⟩, 17), (⟨"CometObservatoryModel", "ofComet", "(II)I"⟩, 17), (⟨"CometObservatoryModel", "isAhead", "(II)Z"⟩, 17), (⟨"CometObservatoryModel", "brightIn", "(II)I"⟩, 17), (⟨"CometObservatoryModel", "passesOn", "(II)Z"⟩, 17), (⟨"CometObservatoryModel", "plans", "(I)V"⟩, 17), (⟨"CometObservatoryModel", "follows", "(III)V"⟩, 17), (⟨"CometObservatoryModel", "gains", "(II)I"⟩, 17), (⟨"CometObservatoryModel", "bestArc", "()I"⟩, 17), (⟨"CometObservatoryModel", "parse", "()V"⟩, 17)]
theorem lw_r3 : ∀ q ∈ lw_privs_3, lw_okq q := List.forall_mem_cons.mpr ⟨lw_p32, List.forall_mem_cons.mpr ⟨lw_p33, List.forall_mem_cons.mpr ⟨lw_p34, List.forall_mem_cons.mpr ⟨lw_p35, List.forall_mem_cons.mpr ⟨lw_p36, List.forall_mem_cons.mpr ⟨lw_p37, List.forall_mem_cons.mpr ⟨lw_p38, List.forall_mem_cons.mpr ⟨lw_p39, List.forall_mem_cons.mpr ⟨lw_p40, List.forall_mem_cons.mpr ⟨lw_p41, List.forall_mem_cons.mpr ⟨lw_p42, List.forall_mem_cons.mpr ⟨lw_p43, List.forall_mem_cons.mpr ⟨lw_p44, List.forall_mem_cons.mpr ⟨lw_p45, List.forall_mem_cons.mpr ⟨lw_p46, List.forall_mem_cons.mpr ⟨lw_p47, fun _ h => absurd h List.not_mem_nil⟩⟩⟩⟩⟩⟩⟩⟩⟩⟩⟩⟩⟩⟩⟩⟩
theorem lw_p48 : lw_okq (⟨"CometObservatoryModel", "command", "()V"⟩, 17) := ⟨⟨by decide +kernel, by decide +kernel⟩, List.mem_of_getElem? (i := 1404) (by decide +kernel), List.mem_of_getElem? (i := 1762) (by decide +kernel), List.mem_of_getElem? (i := 1763) (by decide +kernel)⟩
theorem lw_p49 : lw_okq (⟨"CometObservatoryModel", "sign", "()I"⟩, 17) := ⟨⟨by decide +kernel, by decide +kernel⟩, List.mem_of_getElem? (i := 1404) (by decide +kernel), List.mem_of_getElem? (i := 1766) (by decide +kernel), List.mem_of_getElem? (i := 1767) (by decide +kernel)⟩
theorem lw_p50 : lw_okq (⟨"CometObservatoryModel", "letters", "(III)V"⟩, 17) := ⟨⟨by decide +kernel, by decide +kernel⟩, List.mem_of_getElem? (i := 1404) (by decide +kernel), List.mem_of_getElem? (i := 1770) (by decide +kernel), List.mem_of_getElem? (i := 1771) (by decide +kernel)⟩
theorem lw_p51 : lw_okq (⟨"CometObservatoryModel", "needs", "(I)V"⟩, 17) := ⟨⟨by decide +kernel, by decide +kernel⟩, List.mem_of_getElem? (i := 1404) (by decide +kernel), List.mem_of_getElem? (i := 1774) (by decide +kernel), List.mem_of_getElem? (i := 1775) (by decide +kernel)⟩
theorem lw_p52 : lw_okq (⟨"CometObservatoryModel", "numbers", "(II)V"⟩, 17) := ⟨⟨by decide +kernel, by decide +kernel⟩, List.mem_of_getElem? (i := 1404) (by decide +kernel), List.mem_of_getElem? (i := 1778) (by decide +kernel), List.mem_of_getElem? (i := 1779) (by decide +kernel)⟩
theorem lw_p53 : lw_okq (⟨"CometObservatoryModel", "number", "(I)I"⟩, 17) := ⟨⟨by decide +kernel, by decide +kernel⟩, List.mem_of_getElem? (i := 1404) (by decide +kernel), List.mem_of_getElem? (i := 1782) (by decide +kernel), List.mem_of_getElem? (i := 1783) (by decide +kernel)⟩
theorem lw_p54 : lw_okq (⟨"CometObservatoryModel", "does", "(I)I"⟩, 17) := ⟨⟨by decide +kernel, by decide +kernel⟩, List.mem_of_getElem? (i := 1404) (by decide +kernel), List.mem_of_getElem? (i := 1786) (by decide +kernel), List.mem_of_getElem? (i := 1787) (by decide +kernel)⟩
theorem lw_p55 : lw_okq (⟨"CometObservatoryModel", "writesNumber", "(I)V"⟩, 17) := ⟨⟨by decide +kernel, by decide +kernel⟩, List.mem_of_getElem? (i := 1404) (by decide +kernel), List.mem_of_getElem? (i := 1802) (by decide +kernel), List.mem_of_getElem? (i := 1803) (by decide +kernel)⟩
theorem lw_p56 : lw_okq (⟨"CometObservatoryModel", "writes", "(I)V"⟩, 17) := ⟨⟨by decide +kernel, by decide +kernel⟩, List.mem_of_getElem? (i := 1404) (by decide +kernel), List.mem_of_getElem? (i := 1806) (by decide +kernel), List.mem_of_getElem? (i := 1807) (by decide +kernel)⟩
theorem lw_p57 : lw_okq (⟨"CometObservatoryModel", "writesBehind", "(II)V"⟩, 17) := ⟨⟨by decide +kernel, by decide +kernel⟩, List.mem_of_getElem? (i := 1404) (by decide +kernel), List.mem_of_getElem? (i := 1810) (by decide +kernel), List.mem_of_getElem? (i := 1811) (by decide +kernel)⟩
def lw_privs_4 : List (MethodName × Nat) := [(⟨"CometObservatoryModel", "command", "()V"⟩, 17), (⟨"CometObservatoryModel", "sign", "()I"⟩, 17), (⟨"CometObservatoryModel", "letters", "(III)V"⟩, 17), (⟨"CometObservatoryModel", "needs", "(I)V"⟩, 17), (⟨"CometObservatoryModel", "numbers", "(II)V"⟩, 17), (⟨"CometObservatoryModel", "number", "(I)I"⟩, 17), (⟨"CometObservatoryModel", "does", "(I)I"⟩, 17), (⟨"CometObservatoryModel", "writesNumber", "(I)V"⟩, 17), (⟨"CometObservatoryModel", "writes", "(I)V"⟩, 17), (⟨"CometObservatoryModel", "writesBehind", "(II)V"⟩, 17)]
theorem lw_r4 : ∀ q ∈ lw_privs_4, lw_okq q := List.forall_mem_cons.mpr ⟨lw_p48, List.forall_mem_cons.mpr ⟨lw_p49, List.forall_mem_cons.mpr ⟨lw_p50, List.forall_mem_cons.mpr ⟨lw_p51, List.forall_mem_cons.mpr ⟨lw_p52, List.forall_mem_cons.mpr ⟨lw_p53, List.forall_mem_cons.mpr ⟨lw_p54, List.forall_mem_cons.mpr ⟨lw_p55, List.forall_mem_cons.mpr ⟨lw_p56, List.forall_mem_cons.mpr ⟨lw_p57, fun _ h => absurd h List.not_mem_nil⟩⟩⟩⟩⟩⟩⟩⟩⟩⟩
def lw_privs : List (MethodName × Nat) := lw_privs_1 ++ (lw_privs_2 ++ (lw_privs_3 ++ (lw_privs_4)))
def lw_tbl : List Cond := k2_sels lw_privs ++ tables_1
theorem lw_privs_ok : ∀ q ∈ lw_privs, lw_okq q := by
  show ∀ q ∈ lw_privs_1 ++ (lw_privs_2 ++ (lw_privs_3 ++ (lw_privs_4))), lw_okq q
  exact List.forall_mem_append.mpr ⟨lw_r1, List.forall_mem_append.mpr ⟨lw_r2, List.forall_mem_append.mpr ⟨lw_r3, lw_r4⟩⟩⟩
/-- the streams that the claim lets the run draw from -/
abbrev lw_cs : List Choice := [Jvm.Choice.named "NaN.bits"]
theorem lw_bits : nanBits ∈ lw_cs := by first | decide | exact List.mem_cons_self | simp [lw_cs, nanBits]
/-! ===== BEGIN words of one list among another's, by their places ===== -/
theorem goodIn_r {big : List Cond} (ws : List Cond) (ps : List Nat) (hp : ws = ps.filterMap (fun i => big[i]?)) (h : ws.all goodWord = true) : GoodIn big ws := by
  intro w hw
  have h1 := List.all_eq_true.mp h w hw
  rw [hp] at hw
  obtain ⟨i, -, hi⟩ := List.mem_filterMap.mp hw
  have hm : w ∈ big := by first | exact List.mem_of_getElem? hi | exact List.getElem?_mem hi
  exact ⟨hm, good_of_word h1⟩
theorem goodIn_app {big a b : List Cond} (ha : GoodIn big a) (hb : GoodIn big b) : GoodIn big (a ++ b) := fun w h => (List.mem_append.mp h).elim (ha w) (hb w)
theorem goodIn_ca {big a b : List Cond} {c : Cond} (ha : GoodIn big (c :: a)) (hb : GoodIn big b) : GoodIn big (c :: (a ++ b)) := fun w h => (List.mem_cons.mp h).elim (fun e => ha w (List.mem_cons.mpr (Or.inl e))) (fun h => (List.mem_append.mp h).elim (fun h => ha w (List.mem_cons.mpr (Or.inr h))) (hb w))
theorem goodIn_sub {big ws : List Cond} (hm : ∀ w ∈ ws, w ∈ big) (h : ws.all goodWord = true) : GoodIn big ws := fun w hw => ⟨hm w hw, good_of_word (List.all_eq_true.mp h w hw)⟩
/-! ===== END ===== -/


/-! ===== BEGIN exceptions that leave a method, and their catching by the caller (launches without stack traces) ===== -/
section VXA
/-! The laws vx_back, vx_callV, vx_callS, vx_callSW, vx_throw0, vx_throwS follow proofs of the library, with one case more: JvmDerived/Free/Laws.lean (Back.of_free), Shelf42/LK1.lean (callV, callS), Shelf/KitTraced.lean (throwNew0V, throwNewS). -/
/-- where a method has thrown q: the class by its name, the cell, what was written, the world -/
def vx_T (XC : String → State → State → Prop) (st : State) (q : Addr) (t : State) (mc ms : Nat) (free : Addr → Prop) : Prop :=
  ∃ (E : String) (ce : Cell) (L : List Loc), XC E st t ∧ t.heap[q]? = some ce ∧ ce.vm = .none ∧ st.vm.findClass E = some ce.cls ∧ st.WarmedH t.vm ∧ st.sameButNew ({ t with vm := st.vm } : State) L mc ms ∧ ∀ z ∈ L, free z.base
def vx_Q (Qc : Array Value → State → Outcome → State → Prop) (XC : String → State → State → Prop) (mc ms : Nat) (free : Addr → Prop) : Array Value → State → Outcome → State → Prop := fun a st o t =>
  (Qc a st o t ∧ ∃ L, FrameEnd st o t L mc ms ∧ ∀ q ∈ L, free q.base) ∨ ∃ q, o = .threw q ∧ vx_T XC st q t mc ms free
/-- a callee that returns or throws -/
def vx_Met (l : Launch) (y : MethodName) (ws : List Cond) (rm : Room) (Pc : Array Value → State → Prop) (Qc : Array Value → State → Outcome → State → Prop) (XC : String → State → State → Prop) (mc ms : Nat) (free : Addr → Prop) : Prop :=
  MetFree l y (headSpec ws rm) Pc (fun _ _ _ _ _ => True) (vx_Q Qc XC mc ms free)
def vx_Post (XC : String → State → State → Prop) (mc ms : Nat) (free : Addr → Prop) : Pt → Array Value → Addr → Pt → Prop := fun A a q B =>
  ∃ (g : JFrame) (mk : MethodId) (t : State) (L : List Loc) (E : String) (ce : Cell), B.U.heap = t.heap ∧ B.U.vm = t.vm ∧ XC E (A.U.calling g mk a) t ∧ t.heap[q]? = some ce ∧ ce.vm = .none ∧ A.U.vm.findClass E = some ce.cls ∧ B.locs = A.locs ++ L ∧ (∀ z ∈ L, free z.base) ∧ B.cells = A.cells + mc ∧ B.slots = A.slots + ms
def vx_Back (l : Launch) (R : Room) (p : Program) (e : Env) (below : List Frame) (s : State) (sargs : Array Value) (y : MethodName) (len W9 : Nat)
    (Pre : Pt → Array Value → Prop) (Post : Pt → Array Value → Option Value → Pt → Prop) (PostX : Pt → Array Value → Addr → Pt → Prop) : Prop :=
  ∀ (m : MethodId) (meth : Method) (c : Code) (A : Pt) (g : JFrame) (ig : Instr) (mk : MethodId) (a : Array Value),
    Stand p l e R s m sargs below meth c A.U A.locs A.cells A.slots → g.method = m → g.locals.size = c.maxLocals → decode c.code g.pc = .ok (ig, len) →
    2 * g.monitorRoom + (g.stack.map fun v => v.category).sum ≤ W9 → A.U.methodNamed? y = some mk → Pre A a →
    (∃ (v : Option Value) (B : Pt), Stand p l e R s m sargs below meth c B.U B.locs B.cells B.slots ∧ Post A a v B ∧
      Steps p.tables e below (doInvoke e (A.U.setTop g) [] mk a).1 (B.U.setTop { g with pc := g.pc + len, stack := v.toList ++ g.stack })) ∨
    (∃ (q : Addr) (B : Pt), Stand p l e R s m sargs below meth c B.U B.locs B.cells B.slots ∧ PostX A a q B ∧
      Steps p.tables e below (doInvoke e (A.U.setTop g) [] mk a).1 ((B.U.setTop g).pushFrame (.throwing q)))
section Payer
variable {l : Launch} {R : Room} {p : Program} {e : Env} {below : List Frame} {s : State} {sargs : Array Value} {y : MethodName} {len W9 : Nat}
theorem vx_back {ws : List Cond} {rm : Room} {Pc : Array Value → State → Prop} {Qc : Array Value → State → Outcome → State → Prop} {XC : String → State → State → Prop} {mc ms : Nat} {free : Addr → Prop} {bytes : ByteArray} {maxL : Nat} {ret : Option FieldType}
    (hM : vx_Met l y ws rm Pc Qc XC mc ms free) (hblind : FrameBlind Pc) (hrc : rm.cells = mc) (hrs : rm.slots = ms)
    (hframes : rm.frames + 1 ≤ R.frames) (hlocals : W9 + (maxL + 11) + rm.locals ≤ R.locals)
    (hws : ∀ w ∈ ws, ∀ a' U, s.WarmedH U.vm → w.before a' U = true) (hcode : Cond.code y bytes maxL ret ∈ ws) (hinit : ∀ a' U, s.WarmedH U.vm → (Cond.initialized y.cls).before a' U = true) :
    vx_Back l R p e below s sargs y len W9 (PreOf R mc ms Pc) (PostOf Qc mc ms free) (vx_Post XC mc ms free) := by
  intro m meth c A g ig mk a X hg hsize hdg hW hn hp
  have h1 : (headSpec ws rm).pre.before a A.U = true := atoms_intro fun w hw => hws w hw _ _ X.warmed
  have h2 : (Cond.code y bytes maxL ret).before a A.U = true := hws _ hcode _ _ X.warmed
  have h3 : (Cond.initialized y.cls).before a A.U = true := hinit _ _ X.warmed
  have h4 : A.cells + (headSpec ws rm).room.cells ≤ R.cells := by rw [show (headSpec ws rm).room.cells = mc from hrc]; exact hp.1
  have h5 : A.slots + (headSpec ws rm).room.slots ≤ R.slots := by rw [show (headSpec ws rm).room.slots = ms from hrs]; exact hp.2.1
  have hPc : Pc a (A.U.calling g mk a) := hblind _ _ _ _ hp.2.2
  obtain ⟨U, Ls, c0, s0⟩ := A
  dsimp only [Pt.U, Pt.locs, Pt.cells, Pt.slots] at h1 h2 h3 h4 h5 X hn hPc ⊢
  obtain ⟨methY, cY, hmY, hcY, -, hlY, -, -, -, -⟩ := Cond.code_spec hn h2
  obtain ⟨kY, hkY, -⟩ := className_of_methodNamed hn
  have hinitY : kY.init = .initialized := Cond.initialized_spec (findClass_of_methodNamed hn) hkY h3
  have h : At U g.method c below := by rw [hg]; exact X.here
  have hlocals9 : W9 + (maxL + 11) + (headSpec ws rm).room.locals ≤ R.locals := hlocals
  have happ : (headSpec ws rm).appliesLoose y e.platform (U.calling g mk a) = true :=
    Spec.appliesLoose_calling (g := g) h hdg hn hkY hinitY
      (X.room_calling (g := g) (R' := (headSpec ws rm).room) hsize hmY hcY hframes (by rw [hlY]; omega) h4 h5) h1
  obtain ⟨mid, hmid⟩ := h.above
  have hfr : (U.setTop g).frames = (.java g :: mid) ++ below := by rw [State.frames_setTop' g h.top, hmid]; rfl
  obtain ⟨o, s₂, hsteps, -, hend, hq⟩ := Steps.callFree hM p X.admits X.cas X.clock (acts := []) hfr happ hPc trivial
  have hq' : vx_Q Qc XC mc ms free a (U.calling g mk a) o s₂ := hq
  rw [State.frames_setTop' g h.top] at hend
  obtain ⟨g₀, hg0⟩ := Option.isSome_iff_exists.mp h.top
  obtain ⟨r, hr⟩ := State.topJava?_eq_some.mp hg0
  have hr' : (({ U with heap := s₂.heap, slotsUsed := s₂.slotsUsed } : State).setVm s₂.vm).frames = .java g₀ :: r := hr
  rcases hq' with ⟨hqc, L, hfe, hL⟩ | ⟨q, rfl, E, ce, L, hx, hce, hcv, hcl, hW₂, hsm, hL⟩
  · obtain ⟨⟨v, rfl⟩, hW₂, e2, q2, q3, q4, q5, q6⟩ := id hfe
    have e3 : s₂ = ({ (U.calling g mk a).setFrames s₂.frames with heap := s₂.heap, slotsUsed := s₂.slotsUsed } : State).setVm s₂.vm := by
      have : s₂ = ({ s₂ with vm := (U.calling g mk a).vm } : State).setVm s₂.vm := rfl
      rw [e2] at this
      exact this
    obtain ⟨c₂, i₂, len₂, hc₂, hd₂, hf₂⟩ := hend
    have hW' : U.WarmedH s₂.vm := hW₂
    have hcc : c₂ = c := by
      have h1 : s₂.code? g.method = U.code? g.method := by
        rw [State.code?_eq, State.code?_eq, hW'.alike.method?]
      exact Option.some.inj (hc₂.symm.trans (h1.trans h.code))
    subst hcc
    have hlen : len₂ = len := by rw [hdg] at hd₂; cases hd₂; rfl
    subst hlen
    have hs₂ : s₂ = (({ U with heap := s₂.heap, slotsUsed := s₂.slotsUsed } : State).setVm s₂.vm).setTop { g with pc := g.pc + len₂, stack := v.toList ++ g.stack } := by
      refine e3.trans ?_
      rw [hf₂, State.calling_eq h.top, State.setFrames_setFrames, State.setTop_of_frames _ hr', hr]
      rfl
    have hsame : U.sameButNew ({ U with heap := s₂.heap, slotsUsed := s₂.slotsUsed } : State) L mc ms := by
      refine ⟨?_, q2, q3, q4, q5, q6⟩
      obtain ⟨t, ht, -⟩ := State.frames_cons hr
      show ({ U with heap := s₂.heap, slotsUsed := s₂.slotsUsed } : State) = { U.setFrames U.frames with heap := s₂.heap, slotsUsed := s₂.slotsUsed }
      rw [State.setFrames_self ht]
    subst hg
    refine Or.inl ⟨v, ⟨(({ U with heap := s₂.heap, slotsUsed := s₂.slotsUsed } : State).setVm s₂.vm), Ls ++ L, c0 + mc, s0 + ms⟩,
      ⟨X.admits, X.cas, X.clock, X.frames, X.room, X.hears, X.method, X.code, (X.here.setHeapUsed s₂.heap s₂.slotsUsed).setVm hW'.alike, X.tail, State.WarmedH.trans X.warmed hW', X.limits, X.bytes, X.same.trans (hsame.setVm s.vm)⟩,
      ⟨g, mk, s₂, L, rfl, rfl, hqc, rfl, hL, rfl, rfl⟩, ?_⟩
    show Steps p.tables e below _ ((({ U with heap := s₂.heap, slotsUsed := s₂.slotsUsed } : State).setVm s₂.vm).setTop { g with pc := g.pc + len₂, stack := v.toList ++ g.stack })
    rw [← hs₂]
    exact hsteps
  · obtain ⟨e2, q2, q3, q4, q5, q6⟩ := id hsm
    have e3 : s₂ = ({ (U.calling g mk a).setFrames s₂.frames with heap := s₂.heap, slotsUsed := s₂.slotsUsed } : State).setVm s₂.vm := by
      have : s₂ = ({ s₂ with vm := (U.calling g mk a).vm } : State).setVm s₂.vm := rfl
      rw [e2] at this
      exact this
    have hf₂ : s₂.frames = .throwing q :: .java g :: U.frames.tail := hend
    have hW' : U.WarmedH s₂.vm := hW₂
    have hs₂ : s₂ = ((({ U with heap := s₂.heap, slotsUsed := s₂.slotsUsed } : State).setVm s₂.vm).setTop g).pushFrame (.throwing q) := by
      refine e3.trans ?_
      rw [hf₂, State.calling_eq h.top, State.setFrames_setFrames, State.pushFrame, State.frames_setTop _ hr', State.setTop_of_frames _ hr', State.setFrames_setFrames, hr]
      rfl
    have hsame : U.sameButNew ({ U with heap := s₂.heap, slotsUsed := s₂.slotsUsed } : State) L mc ms := by
      refine ⟨?_, q2, q3, q4, q5, q6⟩
      obtain ⟨t, ht, -⟩ := State.frames_cons hr
      show ({ U with heap := s₂.heap, slotsUsed := s₂.slotsUsed } : State) = { U.setFrames U.frames with heap := s₂.heap, slotsUsed := s₂.slotsUsed }
      rw [State.setFrames_self ht]
    subst hg
    refine Or.inr ⟨q, ⟨(({ U with heap := s₂.heap, slotsUsed := s₂.slotsUsed } : State).setVm s₂.vm), Ls ++ L, c0 + mc, s0 + ms⟩,
      ⟨X.admits, X.cas, X.clock, X.frames, X.room, X.hears, X.method, X.code, (X.here.setHeapUsed s₂.heap s₂.slotsUsed).setVm hW'.alike, X.tail, State.WarmedH.trans X.warmed hW', X.limits, X.bytes, X.same.trans (hsame.setVm s.vm)⟩,
      ⟨g, mk, s₂, L, E, ce, rfl, rfl, hx, hce, hcv, hcl, rfl, hL, rfl, rfl⟩, ?_⟩
    show Steps p.tables e below _ (((({ U with heap := s₂.heap, slotsUsed := s₂.slotsUsed } : State).setVm s₂.vm).setTop g).pushFrame (.throwing q))
    rw [← hs₂]
    exact hsteps
end Payer
section Calls
variable {p : Program} {l : Launch} {e : Env} {R : Room} {s : State} {m : MethodId} {args : Array Value} {below : List Frame} {meth : Method} {c : Code} {T : State} {locs : List Loc} {cells slots : Nat}
theorem vx_callV (X : Stand p l e R s m args below meth c T locs cells slots) (hexec : p.tables.exec = Jvm.exec) {own C : String} {index : Nat} {y : MethodName} {bytes : ByteArray} {maxL : Nat} {ret : Option FieldType}
    (hown : s.vm.findClass own = some m.cls) (hlink : (Cond.methodLink own index y).before args s = true) (hinst : (Cond.instanceMethod y).before args s = true) (hsel : (Cond.selects C y y).before args s = true)
    (hcode : (Cond.code y bytes maxL ret).before args s = true) (hy : y.cls ≠ "java/lang/invoke/MethodHandle" ∧ y.cls ≠ "java/lang/invoke/VarHandle")
    {W9 : Nat} {Pre : Pt → Array Value → Prop} {Post : Pt → Array Value → Option Value → Pt → Prop} {PostX : Pt → Array Value → Addr → Pt → Prop} (hK : vx_Back l R p e below s args y 3 W9 Pre Post PostX)
    {b : Addr} {cellB : Cell} (hcell : T.heap[b]? = some cellB) (hobj : cellB.vm.isStatics = false) (hcls : s.vm.findClass C = some cellB.cls)
    {g : JFrame} (hg : g.method = m) (hsize : g.locals.size = c.maxLocals) {argsL rest : List Value} (hlen : ∀ sig, parseMethodDescriptor y.desc = some sig → argsL.length = sig.parameters.length)
    (hstack : g.stack = argsL.reverse ++ .ref b :: rest) (hW : 2 * g.monitorRoom + (rest.map fun v => v.category).sum ≤ W9) (hdg : decode c.code g.pc = .ok (.invokevirtual index, 3))
    (hpre : ∀ vm₁, s.WarmedH vm₁ → Pre ⟨T.setVm vm₁, locs, cells, slots⟩ (Value.ref b :: argsL).toArray) :
    (∃ (v : Option Value) (vm₁ : Vm) (B : Pt), s.WarmedH vm₁ ∧ Stand p l e R s m args below meth c B.U B.locs B.cells B.slots ∧ Post ⟨T.setVm vm₁, locs, cells, slots⟩ (Value.ref b :: argsL).toArray v B ∧
      ∀ target, Steps p.tables e below (B.U.setTop { g with pc := g.pc + 3, stack := v.toList ++ rest }) target → Steps p.tables e below (T.setTop g) target) ∨
    (∃ (q : Addr) (vm₁ : Vm) (B : Pt), s.WarmedH vm₁ ∧ Stand p l e R s m args below meth c B.U B.locs B.cells B.slots ∧ PostX ⟨T.setVm vm₁, locs, cells, slots⟩ (Value.ref b :: argsL).toArray q B ∧
      Steps p.tables e below (T.setTop g) ((B.U.setTop { g with stack := rest }).pushFrame (.throwing q))) := by
  obtain ⟨mk, methM, hnamed, hmethM, hstM, habM⟩ := Cond.instanceMethod_spec hinst
  obtain ⟨methM', cM, hmethM', -, -, -, -, -, -, hsigM⟩ := Cond.code_spec hnamed hcode
  cases hmethM.symm.trans hmethM'
  obtain ⟨c2, r2, m2, q1, q2, q3, q4, kP, hkP, hkPi⟩ := Cond.selects_spec hsel
  cases hcls.symm.trans q1
  cases (State.methodFound?_of_named hnamed hy).symm.trans q2
  cases hnamed.symm.trans q3
  have hselP : selectMethod e.platform s.vm cellB.cls mk = .method mk := by rw [Launch.admits_selectMethod X.admits]; exact q4
  obtain ⟨vm₁, X₁, hstep₁⟩ := X.invokevirtual hexec hown hlink hnamed hmethM hstM hkP hkPi hy (a := b) (cell := cellB) hcell
    (fun z h => by rw [h] at hobj; cases hobj) hselP hmethM habM hkP hkPi (g := g) hg (argsL := argsL) (rest := rest) (hlen _ hsigM) hstack hdg
  rcases hK m meth c ⟨T.setVm vm₁, locs, cells, slots⟩ { g with stack := rest } (.invokevirtual index) mk (Value.ref b :: argsL).toArray X₁ hg hsize hdg hW (X₁.named hnamed) (hpre vm₁ X₁.warmed) with ⟨v, B, X', hpost, hsteps⟩ | ⟨q, B, X', hpost, hsteps⟩
  · exact Or.inl ⟨v, vm₁, B, X₁.warmed, X', hpost, fun target h => hstep₁ _ fun acts => by rw [doInvoke_state]; exact hsteps.trans h⟩
  · exact Or.inr ⟨q, vm₁, B, X₁.warmed, X', hpost, hstep₁ _ fun acts => by rw [doInvoke_state]; exact hsteps⟩
theorem vx_callS (X : Stand p l e R s m args below meth c T locs cells slots) (hexec : p.tables.exec = Jvm.exec) {own : String} {index : Nat} {y : MethodName} {bytes : ByteArray} {maxL : Nat} {ret : Option FieldType}
    (hown : s.vm.findClass own = some m.cls) (hlink : (Cond.methodLink own index y).before args s = true) (hstat : (Cond.static y).before args s = true) (hinit : (Cond.initialized y.cls).before args s = true)
    (hcode : (Cond.code y bytes maxL ret).before args s = true) (hy : y.cls ≠ "java/lang/invoke/MethodHandle" ∧ y.cls ≠ "java/lang/invoke/VarHandle")
    {W9 : Nat} {Pre : Pt → Array Value → Prop} {Post : Pt → Array Value → Option Value → Pt → Prop} {PostX : Pt → Array Value → Addr → Pt → Prop} (hK : vx_Back l R p e below s args y 3 W9 Pre Post PostX)
    {g : JFrame} (hg : g.method = m) (hsize : g.locals.size = c.maxLocals) {argsL rest : List Value} (hlen : ∀ sig, parseMethodDescriptor y.desc = some sig → argsL.length = sig.parameters.length)
    (hstack : g.stack = argsL.reverse ++ rest) (hW : 2 * g.monitorRoom + (rest.map fun v => v.category).sum ≤ W9) (hdg : decode c.code g.pc = .ok (.invokestatic index, 3))
    (hpre : ∀ vm₁, s.WarmedH vm₁ → Pre ⟨T.setVm vm₁, locs, cells, slots⟩ argsL.toArray) :
    (∃ (v : Option Value) (vm₁ : Vm) (B : Pt), s.WarmedH vm₁ ∧ Stand p l e R s m args below meth c B.U B.locs B.cells B.slots ∧ Post ⟨T.setVm vm₁, locs, cells, slots⟩ argsL.toArray v B ∧
      ∀ target, Steps p.tables e below (B.U.setTop { g with pc := g.pc + 3, stack := v.toList ++ rest }) target → Steps p.tables e below (T.setTop g) target) ∨
    (∃ (q : Addr) (vm₁ : Vm) (B : Pt), s.WarmedH vm₁ ∧ Stand p l e R s m args below meth c B.U B.locs B.cells B.slots ∧ PostX ⟨T.setVm vm₁, locs, cells, slots⟩ argsL.toArray q B ∧
      Steps p.tables e below (T.setTop g) ((B.U.setTop { g with stack := rest }).pushFrame (.throwing q))) := by
  obtain ⟨mk, hnamed⟩ := Cond.code_named hcode
  obtain ⟨methM, cM, hmethM, -, -, -, -, -, -, hsigM⟩ := Cond.code_spec hnamed hcode
  have hstatic : methM.isStatic = true := Cond.static_spec hnamed hmethM hstat
  obtain ⟨kP, hkP, -⟩ := className_of_methodNamed hnamed
  have hinitP : kP.init = .initialized := Cond.initialized_spec (findClass_of_methodNamed hnamed) hkP hinit
  obtain ⟨vm₁, X₁, hstep₁⟩ := X.invokestatic hexec hown hlink hnamed hmethM hstatic hkP hinitP hy (g := g) hg (argsL := argsL) (rest := rest) (hlen _ hsigM) hstack hdg
  rcases hK m meth c ⟨T.setVm vm₁, locs, cells, slots⟩ { g with stack := rest } (.invokestatic index) mk argsL.toArray X₁ hg hsize hdg hW (X₁.named hnamed) (hpre vm₁ X₁.warmed) with ⟨v, B, X', hpost, hsteps⟩ | ⟨q, B, X', hpost, hsteps⟩
  · exact Or.inl ⟨v, vm₁, B, X₁.warmed, X', hpost, fun target h => hstep₁ _ fun acts => by rw [doInvoke_state]; exact hsteps.trans h⟩
  · exact Or.inr ⟨q, vm₁, B, X₁.warmed, X', hpost, hstep₁ _ fun acts => by rw [doInvoke_state]; exact hsteps⟩
end Calls
theorem vx_cls {s : State} {T : State} {vm₁ : Vm} {E : String} {k : ClassId} (hW : s.WarmedH vm₁) (h : (T.setVm vm₁).vm.findClass E = some k) : s.vm.findClass E = some k := by
  have h1 : vm₁.findClass E = some k := h
  rw [hW.alike.findClass] at h1
  exact h1
/-- the method's frame g, with q thrown over it -/
def vx_W (p : Program) (l : Launch) (e : Env) (R : Room) (s : State) (m : MethodId) (args : Array Value) (below : List Frame) (meth : Method) (c : Code) (H : Heap) (locs : List Loc) (cells slots : Nat) (Q : State → Prop) (g : JFrame) (q : Addr) : Prop :=
  ∀ T : State, T.heap = H → Stand p l e R s m args below meth c T locs cells slots → ∃ t, Steps p.tables e below ((T.setTop g).pushFrame (.throwing q)) t ∧ Q t
def vx_Run (p : Program) (l : Launch) (e : Env) (R : Room) (s : State) (m : MethodId) (args : Array Value) (below : List Frame) (meth : Method) (c : Code) (H : Heap) (locs : List Loc) (cells slots mc ms : Nat) (g : JFrame) (rest : List Value) (Qa : State → Outcome → State → Prop) (XC : String → State → State → Prop) (free : Addr → Prop) : Prop :=
  ∀ T : State, T.heap = H → Stand p l e R s m args below meth c T locs cells slots →
    (∃ (v : Option Value) (st₀ t T' : State) (L : List Loc), st₀.heap = H ∧ Stand p l e R s m args below meth c T' (locs ++ L) (cells + mc) (slots + ms) ∧ (∀ q ∈ L, free q.base) ∧ T'.heap = t.heap ∧ T'.vm = t.vm ∧ Qa st₀ (.returned v) t ∧
      Goes p e below T g T' { g with pc := g.pc + 3, stack := v.toList ++ rest }) ∨
    (∃ (q : Addr) (st₀ t T' : State) (L : List Loc) (E : String) (ce : Cell), st₀.heap = H ∧ Stand p l e R s m args below meth c T' (locs ++ L) (cells + mc) (slots + ms) ∧ (∀ z ∈ L, free z.base) ∧ T'.heap = t.heap ∧ T'.vm = t.vm ∧ XC E st₀ t ∧ t.heap[q]? = some ce ∧ ce.vm = .none ∧ s.vm.findClass E = some ce.cls ∧
      Steps p.tables e below (T.setTop g) ((T'.setTop { g with stack := rest }).pushFrame (.throwing q)))
def vx_X {S : Type} (px : S → Prop) (B : String → S → State → Prop) (A : Nat → Prop) : String → State → State → Prop := fun E st t => ∃ u : S, px u ∧ B E u t ∧ va_F A st t
section Runs
variable {p : Program} {l : Launch} {e : Env} {R : Room} {s : State} {m : MethodId} {args : Array Value} {below : List Frame} {meth : Method} {c : Code} {H : Heap} {locs : List Loc} {cells slots : Nat}
variable {y : MethodName} {bytes cc : ByteArray} {maxL nL mc ms n index : Nat} {ret : Option FieldType} {ws : List Cond} {rm : Room} {Pc : Array Value → State → Prop} {Qc : Array Value → State → Outcome → State → Prop} {XC : String → State → State → Prop} {free : Addr → Prop} {Ts : List Cond} {own C : String} {b : Addr} {As rest : List Value} {g : JFrame}
theorem vx_callBack (cb : CallB R s args own index y bytes maxL ret ws rm mc ms n) (hM : vx_Met l y ws rm Pc Qc XC mc ms free) (hbl : FrameBlind Pc) : vx_Back l R p e below s args y 3 8 (PreOf R mc ms Pc) (PostOf Qc mc ms free) (vx_Post XC mc ms free) := by
  obtain ⟨hrc, hrs, hfr, hlo, hws, hcw, -, hini, -⟩ := cb
  exact vx_back (bytes := bytes) (maxL := maxL) (ret := ret) hM hbl hrc hrs hfr hlo hws hcw (fun a' U hW => word_at hW (Or.inl (by first | rfl | simp [Cond.onTables, Cond.keeps, Cond.steady])) hini)
theorem vx_runV (S : CallFix p m c cc nL s args Ts own) (hM : vx_Met l y ws rm Pc Qc XC mc ms free) (cw : CallW R s args own C index y bytes maxL ret ws rm mc ms n) (hp : PreV s H C b Pc As)
    (hg : g.method = m) (hn : As.length = n) (hsize : g.locals.size = nL) (hstack : g.stack = As.reverse ++ .ref b :: rest) (hW : 2 * g.monitorRoom + (rest.map fun v => v.category).sum ≤ 8) (hdg : decode cc g.pc = .ok (.invokevirtual index, 3)) (hf : cells + mc ≤ R.cells ∧ slots + ms ≤ R.slots) :
    vx_Run p l e R s m args below meth c H locs cells slots mc ms g rest (Qc (Value.ref b :: As).toArray) XC free := by
  have hK : vx_Back l R p e below s args y 3 8 (PreOf R mc ms Pc) (PostOf Qc mc ms free) (vx_Post XC mc ms free) := vx_callBack cw.1 hM hp.1
  obtain ⟨⟨-, -, -, -, -, -, hcode, -, hy, hlen, hl⟩, hin, hse⟩ := cw
  obtain ⟨hx, hb, hml, ho, -⟩ := S
  obtain ⟨-, ⟨cellB, hcB, hoB, hclB⟩, hPc⟩ := hp
  intro T hT X
  rcases vx_callV X hx (C := C) (bytes := bytes) (maxL := maxL) (ret := ret) ho hl hin hse hcode hy hK (by rw [hT]; exact hcB) hoB hclB hg (hsize.trans hml.symm) (argsL := As) (rest := rest) (fun sig h => hn.trans (hlen sig h)) hstack hW (by rw [hb]; exact hdg)
    (fun vm₁ hW₁ => ⟨hf.1, hf.2, hPc (T.setVm vm₁) hT hW₁⟩) with ⟨v, vm₁, ⟨U', l2, c2, s2⟩, hW₁, X', ⟨g', mk, t, L, e1, e2, hq, h1, hL, h2, h3⟩, st⟩ | ⟨q, vm₁, ⟨U', l2, c2, s2⟩, hW₁, X', ⟨g', mk, t, L, E, ce, e1, e2, hq, hce, hcv, hcl, h1, hL, h2, h3⟩, st⟩
  · dsimp only [Pt.U, Pt.locs, Pt.cells, Pt.slots] at X' e1 e2 h1 h2 h3 st
    subst h1; subst h2; subst h3
    exact Or.inl ⟨v, (T.setVm vm₁).calling g' mk (Value.ref b :: As).toArray, t, U', L, hT, X', hL, e1, e2, hq, st⟩
  · dsimp only [Pt.U, Pt.locs, Pt.cells, Pt.slots] at X' e1 e2 h1 h2 h3 st hcl
    subst h1; subst h2; subst h3
    exact Or.inr ⟨q, (T.setVm vm₁).calling g' mk (Value.ref b :: As).toArray, t, U', L, E, ce, hT, X', hL, e1, e2, hq, hce, hcv, vx_cls hW₁ hcl, st⟩
theorem vx_runS (S : CallFix p m c cc nL s args Ts own) (hM : vx_Met l y ws rm Pc Qc XC mc ms free) (cw : CallB R s args own index y bytes maxL ret ws rm mc ms n ∧ (Cond.static y).before args s = true) (hp : PreS s H Pc As)
    (hg : g.method = m) (hn : As.length = n) (hsize : g.locals.size = nL) (hstack : g.stack = As.reverse ++ rest) (hW : 2 * g.monitorRoom + (rest.map fun v => v.category).sum ≤ 8) (hdg : decode cc g.pc = .ok (.invokestatic index, 3)) (hf : cells + mc ≤ R.cells ∧ slots + ms ≤ R.slots) :
    vx_Run p l e R s m args below meth c H locs cells slots mc ms g rest (Qc As.toArray) XC free := by
  have hK : vx_Back l R p e below s args y 3 8 (PreOf R mc ms Pc) (PostOf Qc mc ms free) (vx_Post XC mc ms free) := vx_callBack cw.1 hM hp.1
  obtain ⟨⟨-, -, -, -, -, -, hcode, hini, hy, hlen, hl⟩, hstt⟩ := cw
  obtain ⟨hx, hb, hml, ho, -⟩ := S
  intro T hT X
  rcases vx_callS X hx (bytes := bytes) (maxL := maxL) (ret := ret) ho hl hstt hini hcode hy hK hg (hsize.trans hml.symm) (argsL := As) (rest := rest) (fun sig h => hn.trans (hlen sig h)) hstack hW (by rw [hb]; exact hdg)
    (fun vm₁ hW₁ => ⟨hf.1, hf.2, hp.2 (T.setVm vm₁) hT hW₁⟩) with ⟨v, vm₁, ⟨U', l2, c2, s2⟩, hW₁, X', ⟨g', mk, t, L, e1, e2, hq, h1, hL, h2, h3⟩, st⟩ | ⟨q, vm₁, ⟨U', l2, c2, s2⟩, hW₁, X', ⟨g', mk, t, L, E, ce, e1, e2, hq, hce, hcv, hcl, h1, hL, h2, h3⟩, st⟩
  · dsimp only [Pt.U, Pt.locs, Pt.cells, Pt.slots] at X' e1 e2 h1 h2 h3 st
    subst h1; subst h2; subst h3
    exact Or.inl ⟨v, (T.setVm vm₁).calling g' mk As.toArray, t, U', L, hT, X', hL, e1, e2, hq, st⟩
  · dsimp only [Pt.U, Pt.locs, Pt.cells, Pt.slots] at X' e1 e2 h1 h2 h3 st hcl
    subst h1; subst h2; subst h3
    exact Or.inr ⟨q, (T.setVm vm₁).calling g' mk As.toArray, t, U', L, E, ce, hT, X', hL, e1, e2, hq, hce, hcv, vx_cls hW₁ hcl, st⟩
end Runs
section Rows
variable {p : Program} {l : Launch} {e : Env} {R : Room} {s : State} {m : MethodId} {args : Array Value} {below : List Frame} {meth : Method} {c : Code} {H : Heap} {locs : List Loc} {cells slots : Nat} {Q : State → Prop}
variable {mc ms : Nat} {free : Addr → Prop} {A0 A1 : Nat → Prop} {H0 : Heap} {a : Array Value} {pc : Nat} {ls : Array Slot} {st0 rest : List Value}
theorem vx_keep {st₀ t T' : State} {L : List Loc} (h0 : st₀.heap = H) (e1 : T'.heap = t.heap) (hS : va_S A0 H0 H locs) (hA : ∀ q, q < H.size → A1 q → A0 q) (hf : ∀ q, free q → A0 q) (hL : ∀ q ∈ L, free q.base) (hF : va_F A1 st₀ t) :
    H.size ≤ T'.heap.size ∧ (∀ q : Nat, q < H.size → ¬ A1 q → T'.heap[q]? = H[q]?) ∧ va_S A0 H0 T'.heap (locs ++ L) := by
  obtain ⟨hz, hk⟩ := hF
  rw [h0] at hz hk
  exact ⟨by rw [e1]; exact hz, fun q h1 h2 => by rw [e1]; exact hk q h1 h2,
    ⟨Nat.le_trans hS.1 (by rw [e1]; exact hz), fun q h1 h2 => by rw [e1, hk q (Nat.lt_of_lt_of_le h1 hS.1) (fun z => h2 (hA q (Nat.lt_of_lt_of_le h1 hS.1) z))]; exact hS.2.1 q h1 h2, fun q hq => by
      rcases List.mem_append.mp hq with h | h
      · exact hS.2.2 q h
      · exact hf _ (hL q h)⟩⟩
theorem vx_calli {S SX : Type} {post : Int32 → S → Prop} {px : SX → Prop} {B : S → State → Prop} {BX : String → SX → State → Prop} {AX : Nat → Prop} (hr : vx_Run p l e R s m args below meth c H locs cells slots mc ms (F0 m pc ls st0) rest (va_Qi post B A1 a) (vx_X px BX AX) free) (hS : va_S A0 H0 H locs) (hA : ∀ q, q < H.size → A1 q → A0 q) (hf : ∀ q, free q → A0 q) (hAX : ∀ q, q < H.size → AX q → A0 q)
    (kx : ∀ (E : String) (ce : Cell) (q9 : Addr) (u : SX) (t : State) (H1 : Heap) (locs1 : List Loc), t.heap = H1 → s.vm.Alike t.vm → px u → BX E u t → H.size ≤ H1.size → (∀ q : Nat, q < H.size → ¬ AX q → H1[q]? = H[q]?) → va_S A0 H0 H1 locs1 → H1[q9]? = some ce → ce.vm = .none → s.vm.findClass E = some ce.cls → vx_W p l e R s m args below meth c H1 locs1 (cells + mc) (slots + ms) Q (F0 m pc ls rest) q9)
    (kk : ∀ (r : Int32) (u : S) (t : State) (H1 : Heap) (locs1 : List Loc), t.heap = H1 → s.vm.Alike t.vm → post r u → B u t → H.size ≤ H1.size → (∀ q : Nat, q < H.size → ¬ A1 q → H1[q]? = H[q]?) → va_S A0 H0 H1 locs1 → W p l e R s m args below meth c H1 locs1 (cells + mc) (slots + ms) Q (F0 m (pc + 3) ls (.int r :: rest))) : W p l e R s m args below meth c H locs cells slots Q (F0 m pc ls st0) := by
  intro T hT X
  rcases hr T hT X with ⟨v, st₀, t, T', L, h0, X', hL, e1, e2, ⟨⟨r, u, hv, hp, hb⟩, hF⟩, st⟩ | ⟨q, st₀, t, T', L, E, ce, h0, X', hL, e1, e2, ⟨u, hp, hb, hF⟩, hce, hcv, hcl, st⟩
  · cases hv
    obtain ⟨k1, k2, k3⟩ := vx_keep h0 e1 hS hA hf hL hF
    obtain ⟨t2, a1, b1⟩ := kk r u t T'.heap (locs ++ L) e1.symm (by rw [← e2]; exact X'.warmed.alike) hp hb k1 k2 k3 T' rfl X'
    exact ⟨t2, st t2 a1, b1⟩
  · obtain ⟨k1, k2, k3⟩ := vx_keep h0 e1 hS hAX hf hL hF
    obtain ⟨t2, a1, b1⟩ := kx E ce q u t T'.heap (locs ++ L) e1.symm (by rw [← e2]; exact X'.warmed.alike) hp hb k1 k2 k3 (by rw [e1]; exact hce) hcv hcl T' rfl X'
    exact ⟨t2, st.trans a1, b1⟩
theorem vx_calll {S SX : Type} {post : Int64 → S → Prop} {px : SX → Prop} {B : S → State → Prop} {BX : String → SX → State → Prop} {AX : Nat → Prop} (hr : vx_Run p l e R s m args below meth c H locs cells slots mc ms (F0 m pc ls st0) rest (va_Ql post B A1 a) (vx_X px BX AX) free) (hS : va_S A0 H0 H locs) (hA : ∀ q, q < H.size → A1 q → A0 q) (hf : ∀ q, free q → A0 q) (hAX : ∀ q, q < H.size → AX q → A0 q)
    (kx : ∀ (E : String) (ce : Cell) (q9 : Addr) (u : SX) (t : State) (H1 : Heap) (locs1 : List Loc), t.heap = H1 → s.vm.Alike t.vm → px u → BX E u t → H.size ≤ H1.size → (∀ q : Nat, q < H.size → ¬ AX q → H1[q]? = H[q]?) → va_S A0 H0 H1 locs1 → H1[q9]? = some ce → ce.vm = .none → s.vm.findClass E = some ce.cls → vx_W p l e R s m args below meth c H1 locs1 (cells + mc) (slots + ms) Q (F0 m pc ls rest) q9)
    (kk : ∀ (r : Int64) (u : S) (t : State) (H1 : Heap) (locs1 : List Loc), t.heap = H1 → s.vm.Alike t.vm → post r u → B u t → H.size ≤ H1.size → (∀ q : Nat, q < H.size → ¬ A1 q → H1[q]? = H[q]?) → va_S A0 H0 H1 locs1 → W p l e R s m args below meth c H1 locs1 (cells + mc) (slots + ms) Q (F0 m (pc + 3) ls (.long r :: rest))) : W p l e R s m args below meth c H locs cells slots Q (F0 m pc ls st0) := by
  intro T hT X
  rcases hr T hT X with ⟨v, st₀, t, T', L, h0, X', hL, e1, e2, ⟨⟨r, u, hv, hp, hb⟩, hF⟩, st⟩ | ⟨q, st₀, t, T', L, E, ce, h0, X', hL, e1, e2, ⟨u, hp, hb, hF⟩, hce, hcv, hcl, st⟩
  · cases hv
    obtain ⟨k1, k2, k3⟩ := vx_keep h0 e1 hS hA hf hL hF
    obtain ⟨t2, a1, b1⟩ := kk r u t T'.heap (locs ++ L) e1.symm (by rw [← e2]; exact X'.warmed.alike) hp hb k1 k2 k3 T' rfl X'
    exact ⟨t2, st t2 a1, b1⟩
  · obtain ⟨k1, k2, k3⟩ := vx_keep h0 e1 hS hAX hf hL hF
    obtain ⟨t2, a1, b1⟩ := kx E ce q u t T'.heap (locs ++ L) e1.symm (by rw [← e2]; exact X'.warmed.alike) hp hb k1 k2 k3 (by rw [e1]; exact hce) hcv hcl T' rfl X'
    exact ⟨t2, st.trans a1, b1⟩
theorem vx_callf {S SX : Type} {post : UInt32 → S → Prop} {px : SX → Prop} {B : S → State → Prop} {BX : String → SX → State → Prop} {AX : Nat → Prop} (hr : vx_Run p l e R s m args below meth c H locs cells slots mc ms (F0 m pc ls st0) rest (va_Qf post B A1 a) (vx_X px BX AX) free) (hS : va_S A0 H0 H locs) (hA : ∀ q, q < H.size → A1 q → A0 q) (hf : ∀ q, free q → A0 q) (hAX : ∀ q, q < H.size → AX q → A0 q)
    (kx : ∀ (E : String) (ce : Cell) (q9 : Addr) (u : SX) (t : State) (H1 : Heap) (locs1 : List Loc), t.heap = H1 → s.vm.Alike t.vm → px u → BX E u t → H.size ≤ H1.size → (∀ q : Nat, q < H.size → ¬ AX q → H1[q]? = H[q]?) → va_S A0 H0 H1 locs1 → H1[q9]? = some ce → ce.vm = .none → s.vm.findClass E = some ce.cls → vx_W p l e R s m args below meth c H1 locs1 (cells + mc) (slots + ms) Q (F0 m pc ls rest) q9)
    (kk : ∀ (r : UInt32) (u : S) (t : State) (H1 : Heap) (locs1 : List Loc), t.heap = H1 → s.vm.Alike t.vm → post r u → B u t → H.size ≤ H1.size → (∀ q : Nat, q < H.size → ¬ A1 q → H1[q]? = H[q]?) → va_S A0 H0 H1 locs1 → W p l e R s m args below meth c H1 locs1 (cells + mc) (slots + ms) Q (F0 m (pc + 3) ls (.float r :: rest))) : W p l e R s m args below meth c H locs cells slots Q (F0 m pc ls st0) := by
  intro T hT X
  rcases hr T hT X with ⟨v, st₀, t, T', L, h0, X', hL, e1, e2, ⟨⟨r, u, hv, hp, hb⟩, hF⟩, st⟩ | ⟨q, st₀, t, T', L, E, ce, h0, X', hL, e1, e2, ⟨u, hp, hb, hF⟩, hce, hcv, hcl, st⟩
  · cases hv
    obtain ⟨k1, k2, k3⟩ := vx_keep h0 e1 hS hA hf hL hF
    obtain ⟨t2, a1, b1⟩ := kk r u t T'.heap (locs ++ L) e1.symm (by rw [← e2]; exact X'.warmed.alike) hp hb k1 k2 k3 T' rfl X'
    exact ⟨t2, st t2 a1, b1⟩
  · obtain ⟨k1, k2, k3⟩ := vx_keep h0 e1 hS hAX hf hL hF
    obtain ⟨t2, a1, b1⟩ := kx E ce q u t T'.heap (locs ++ L) e1.symm (by rw [← e2]; exact X'.warmed.alike) hp hb k1 k2 k3 (by rw [e1]; exact hce) hcv hcl T' rfl X'
    exact ⟨t2, st.trans a1, b1⟩
theorem vx_calld {S SX : Type} {post : UInt64 → S → Prop} {px : SX → Prop} {B : S → State → Prop} {BX : String → SX → State → Prop} {AX : Nat → Prop} (hr : vx_Run p l e R s m args below meth c H locs cells slots mc ms (F0 m pc ls st0) rest (va_Qd post B A1 a) (vx_X px BX AX) free) (hS : va_S A0 H0 H locs) (hA : ∀ q, q < H.size → A1 q → A0 q) (hf : ∀ q, free q → A0 q) (hAX : ∀ q, q < H.size → AX q → A0 q)
    (kx : ∀ (E : String) (ce : Cell) (q9 : Addr) (u : SX) (t : State) (H1 : Heap) (locs1 : List Loc), t.heap = H1 → s.vm.Alike t.vm → px u → BX E u t → H.size ≤ H1.size → (∀ q : Nat, q < H.size → ¬ AX q → H1[q]? = H[q]?) → va_S A0 H0 H1 locs1 → H1[q9]? = some ce → ce.vm = .none → s.vm.findClass E = some ce.cls → vx_W p l e R s m args below meth c H1 locs1 (cells + mc) (slots + ms) Q (F0 m pc ls rest) q9)
    (kk : ∀ (r : UInt64) (u : S) (t : State) (H1 : Heap) (locs1 : List Loc), t.heap = H1 → s.vm.Alike t.vm → post r u → B u t → H.size ≤ H1.size → (∀ q : Nat, q < H.size → ¬ A1 q → H1[q]? = H[q]?) → va_S A0 H0 H1 locs1 → W p l e R s m args below meth c H1 locs1 (cells + mc) (slots + ms) Q (F0 m (pc + 3) ls (.double r :: rest))) : W p l e R s m args below meth c H locs cells slots Q (F0 m pc ls st0) := by
  intro T hT X
  rcases hr T hT X with ⟨v, st₀, t, T', L, h0, X', hL, e1, e2, ⟨⟨r, u, hv, hp, hb⟩, hF⟩, st⟩ | ⟨q, st₀, t, T', L, E, ce, h0, X', hL, e1, e2, ⟨u, hp, hb, hF⟩, hce, hcv, hcl, st⟩
  · cases hv
    obtain ⟨k1, k2, k3⟩ := vx_keep h0 e1 hS hA hf hL hF
    obtain ⟨t2, a1, b1⟩ := kk r u t T'.heap (locs ++ L) e1.symm (by rw [← e2]; exact X'.warmed.alike) hp hb k1 k2 k3 T' rfl X'
    exact ⟨t2, st t2 a1, b1⟩
  · obtain ⟨k1, k2, k3⟩ := vx_keep h0 e1 hS hAX hf hL hF
    obtain ⟨t2, a1, b1⟩ := kx E ce q u t T'.heap (locs ++ L) e1.symm (by rw [← e2]; exact X'.warmed.alike) hp hb k1 k2 k3 (by rw [e1]; exact hce) hcv hcl T' rfl X'
    exact ⟨t2, st.trans a1, b1⟩
theorem vx_callv {S SX : Type} {post : S → Prop} {px : SX → Prop} {B : S → State → Prop} {BX : String → SX → State → Prop} {AX : Nat → Prop} (hr : vx_Run p l e R s m args below meth c H locs cells slots mc ms (F0 m pc ls st0) rest (va_Qv post B A1 a) (vx_X px BX AX) free) (hS : va_S A0 H0 H locs) (hA : ∀ q, q < H.size → A1 q → A0 q) (hf : ∀ q, free q → A0 q) (hAX : ∀ q, q < H.size → AX q → A0 q)
    (kx : ∀ (E : String) (ce : Cell) (q9 : Addr) (u : SX) (t : State) (H1 : Heap) (locs1 : List Loc), t.heap = H1 → s.vm.Alike t.vm → px u → BX E u t → H.size ≤ H1.size → (∀ q : Nat, q < H.size → ¬ AX q → H1[q]? = H[q]?) → va_S A0 H0 H1 locs1 → H1[q9]? = some ce → ce.vm = .none → s.vm.findClass E = some ce.cls → vx_W p l e R s m args below meth c H1 locs1 (cells + mc) (slots + ms) Q (F0 m pc ls rest) q9)
    (kk : ∀ (u : S) (t : State) (H1 : Heap) (locs1 : List Loc), t.heap = H1 → s.vm.Alike t.vm → post u → B u t → H.size ≤ H1.size → (∀ q : Nat, q < H.size → ¬ A1 q → H1[q]? = H[q]?) → va_S A0 H0 H1 locs1 → W p l e R s m args below meth c H1 locs1 (cells + mc) (slots + ms) Q (F0 m (pc + 3) ls (rest))) : W p l e R s m args below meth c H locs cells slots Q (F0 m pc ls st0) := by
  intro T hT X
  rcases hr T hT X with ⟨v, st₀, t, T', L, h0, X', hL, e1, e2, ⟨⟨u, hv, hp, hb⟩, hF⟩, st⟩ | ⟨q, st₀, t, T', L, E, ce, h0, X', hL, e1, e2, ⟨u, hp, hb, hF⟩, hce, hcv, hcl, st⟩
  · cases hv
    obtain ⟨k1, k2, k3⟩ := vx_keep h0 e1 hS hA hf hL hF
    obtain ⟨t2, a1, b1⟩ := kk u t T'.heap (locs ++ L) e1.symm (by rw [← e2]; exact X'.warmed.alike) hp hb k1 k2 k3 T' rfl X'
    exact ⟨t2, st t2 a1, b1⟩
  · obtain ⟨k1, k2, k3⟩ := vx_keep h0 e1 hS hAX hf hL hF
    obtain ⟨t2, a1, b1⟩ := kx E ce q u t T'.heap (locs ++ L) e1.symm (by rw [← e2]; exact X'.warmed.alike) hp hb k1 k2 k3 (by rw [e1]; exact hce) hcv hcl T' rfl X'
    exact ⟨t2, st.trans a1, b1⟩
/-- caught by the row x of this method's table; the rows ahead don't take it -/
theorem vx_catch {own name : String} {E : String} {ce : Cell} {q : Addr} (hown : s.vm.findClass own = some m.cls) (pre : List ExceptionTableEntry) (x : ExceptionTableEntry) (suf : List ExceptionTableEntry) (hsplit : c.exceptionTable.toList = pre ++ x :: suf)
    (hpass : ∀ z ∈ pre, covers z pc = false ∨ (z.catchType ≠ 0 ∧ ∃ nm : String, (Cond.classLink own z.catchType nm).before args s = true ∧ va_Nc E nm s)) (hx : covers x pc = true) (h0 : x.catchType ≠ 0)
    (hlink : (Cond.classLink own x.catchType name).before args s = true) (hcast : (Cond.castable E name).before args s = true) (hcell : H[q]? = some ce) (hv : ce.vm = .none) (hcl : s.vm.findClass E = some ce.cls)
    (kk : W p l e R s m args below meth c H locs cells slots Q (F0 m x.handlerPc ls [.ref q])) : vx_W p l e R s m args below meth c H locs cells slots Q (F0 m pc ls rest) q := by
  intro T hT X
  have hpl : e.platform.magicAccessors = ({} : Platform).magicAccessors := by rw [X.admits.platform]
  obtain ⟨c3, c4, hc3, hc4, hasg⟩ := Cond.castable_spec hcast
  cases Option.some.inj (hc3.symm.trans hcl)
  obtain ⟨c5, hc5, hcl5⟩ := Cond.classLink_spec hown hlink e.platform hpl
  cases Option.some.inj (hc4.symm.trans hc5)
  obtain ⟨vm', X', st⟩ := X.thenCaughtThrough q (g := F0 m pc ls rest) rfl (Steps.refl _) (by rw [hT]; exact hcell) (by rw [hv]; rfl) (by obtain ⟨k9, h9, -⟩ := Vm.findClass_spec hcl; exact ⟨k9, h9⟩) pre x suf hsplit
    (fun z hz => by
      rcases hpass z hz with h | ⟨hz0, nm, hl1, hn1⟩
      · exact Or.inl h
      · obtain ⟨c6, hc6, hcl6⟩ := Cond.classLink_spec hown hl1 e.platform hpl
        obtain ⟨a8, b8, h1, h2, h3⟩ := hn1
        cases Option.some.inj (h1.symm.trans hcl)
        cases Option.some.inj (h2.symm.trans hc6)
        exact Or.inr ⟨hz0, _, hcl6, h3⟩) hx (Or.inr ⟨h0, c4, hcl5, hasg⟩)
  obtain ⟨t, a1, b1⟩ := kk (T.setVm vm') hT X'
  exact ⟨t, st.trans a1, b1⟩
end Rows
section Ends
variable {p : Program} {l : Launch} {e : Env} {R : Room} {s : State} {m : MethodId} {args : Array Value} {below : List Frame} {meth : Method} {c : Code} {H : Heap} {locs : List Loc} {cells slots : Nat} {Q : State → Prop}
variable {mc ms : Nat} {free : Addr → Prop} {A0 A1 : Nat → Prop} {H0 : Heap} {a : Array Value} {ls : Array Slot} {st0 rest : List Value}
variable {Qc : Array Value → State → Outcome → State → Prop} {XC : String → State → State → Prop}
/-- what a body that may throw owes at its end -/
def vx_MQ (below : List Frame) (Qc : Array Value → State → Outcome → State → Prop) (XC : String → State → State → Prop) (a : Array Value) (s : State) (mc ms : Nat) (free : Addr → Prop) : State → Prop := fun t =>
  ∃ o, t.status = .running ∧ Ended t below o ∧ vx_Q Qc XC mc ms free a s o t
theorem vx_ret {g : JFrame} {mc ms : Nat} (k : W p l e R s m args below meth c H locs cells slots (MQ below Qc args s mc ms free) g) : W p l e R s m args below meth c H locs cells slots (vx_MQ below Qc XC args s mc ms free) g := by
  intro T hT X
  obtain ⟨t, a1, o, b1, b2, b3, b4⟩ := k T hT X
  exact ⟨t, a1, o, b1, b2, Or.inl ⟨b3, b4⟩⟩
/-- not caught here: it goes on to the caller -/
theorem vx_widen {g : JFrame} {q : Addr} {k n : Nat} (h1 : cells ≤ k) (h2 : slots ≤ n) (kk : vx_W p l e R s m args below meth c H locs k n Q g q) : vx_W p l e R s m args below meth c H locs cells slots Q g q := fun T hT X => kk T hT (stand_widen X h1 h2)
theorem vx_out {pc : Nat} {E : String} {ce : Cell} {q : Addr} {mc ms : Nat} (hout : ∀ x ∈ c.exceptionTable.toList, covers x pc = false) (hlocks : meth.locks = false) (hcell : H[q]? = some ce) (hv : ce.vm = .none) (hcl : s.vm.findClass E = some ce.cls)
    (hx : ∀ t : State, t.heap = H → s.vm.Alike t.vm → XC E s t) (hf : ∀ z ∈ locs, free z.base) (hc : cells ≤ mc) (hs : slots ≤ ms) :
    vx_W p l e R s m args below meth c H locs cells slots (vx_MQ below Qc XC args s mc ms free) (F0 m pc ls rest) q := by
  intro T hT X
  obtain ⟨st1, hrun, hend, hW, hsm⟩ := X.leaveThrown q (g := F0 m pc ls rest) rfl rfl rfl hout hlocks
  have hcell9 : (T.setFrames (.throwing q :: below)).heap[q]? = some ce := by
    show T.heap[q]? = some ce
    rw [hT]; exact hcell
  exact ⟨_, st1, .threw q, hrun, hend, Or.inr ⟨q, rfl, E, ce, locs, hx _ hT hW.alike, hcell9, hv, hcl, hW, hsm.mono hc hs, hf⟩⟩
theorem vx_frame {U : State} {k n : Nat} (h : s.sameButNew ({ U with vm := s.vm } : State) locs k n) : s.heap.size ≤ U.heap.size ∧ ∀ q : Nat, q < s.heap.size → (∀ z ∈ locs, z.base ≠ q) → U.heap[q]? = s.heap[q]? := by
  obtain ⟨-, h2, -, -, -, h6⟩ := h
  refine ⟨h2, fun q hq hz => ?_⟩
  obtain ⟨c9, e1, e2, e3, e4⟩ := h6 q _ (Array.getElem?_eq_getElem hq)
  have hs : c9.slots = (s.heap[q]).slots := Array.ext_getElem? fun i => e4 i fun hm => hz _ hm rfl
  have h9 : c9 = s.heap[q] := by
    rw [hs] at e2
    exact e2
  have e5 : U.heap[q]? = some c9 := e1
  rw [e5, h9, Array.getElem?_eq_getElem hq]
/-- the words of a throw but the four that speak of the heap -/
def vx_no (w : Cond) : Bool := decide (w ≠ .isRef (.static Bundle.tN "UNASSIGNED_STACK" Bundle.steD)) && decide (w ≠ .isRef (.static Bundle.tN "SUPPRESSED_SENTINEL" Bundle.listD)) && decide (w ≠ .laysStatic Bundle.tN "UNASSIGNED_STACK" Bundle.steD) && decide (w ≠ .laysStatic Bundle.tN "SUPPRESSED_SENTINEL" Bundle.listD)
def vx_at0 (own : String) (ic : Nat) (X : String) (names : List String) : List Cond := (Bundle.ownAtoms0 own ic X names).filter vx_no
def vx_atS (own : String) (ic : Nat) (X : String) (names : List String) : List Cond := (Bundle.ownAtoms own ic X names).filter vx_no
/-- a word that the tables alone decide, or a good one -/
def vx_ot (w : Cond) : Bool := w.onTables || goodWord w
theorem vx_ot_at {args a' : Array Value} {s U : State} {w : Cond} (hW : s.WarmedH U.vm) (hvm : s.vm = U.vm) (hg : vx_ot w = true) (h : w.before args s = true) : w.before a' U = true := by
  simp only [vx_ot, Bool.or_eq_true] at hg
  rcases hg with hg | hg
  · exact va_tabs hg hvm h
  · exact word_at hW (good_of_word hg) h
/-- a list's words: the good ones out of the method's own list, the others by premises of their own -/
theorem vx_hat {args : Array Value} {s : State} {L B : List Cond} (h1 : ∀ w ∈ L.filter goodWord, w.before args s = true) (h2 : ∀ w ∈ L.filter (fun w => !goodWord w), w ∈ B) (h3 : ∀ w ∈ B, w.before args s = true) : ∀ w ∈ L, w.before args s = true := by
  intro w hw
  by_cases g : goodWord w = true
  · exact h1 w (List.mem_filter.mpr ⟨hw, g⟩)
  · refine h3 w (h2 w (List.mem_filter.mpr ⟨hw, ?_⟩))
    show (!goodWord w) = true
    cases hgw : goodWord w
    · rfl
    · exact absurd hgw g
theorem vx_c {args : Array Value} {s : State} {w : Cond} {B : List Cond} (h : w.before args s = true) (t : ∀ w ∈ B, w.before args s = true) : ∀ w' ∈ w :: B, w'.before args s = true := fun w' h' => (List.mem_cons.mp h').elim (fun e => by rw [e]; exact h) (t w')
theorem vx_n {args : Array Value} {s : State} : ∀ w ∈ ([] : List Cond), w.before args s = true := fun _ h => nomatch h
theorem vx_own {args : Array Value} {s : State} {L : List Cond} (h1 : ∀ w ∈ L.filter vx_no, w.before args s = true)
    (hU : (Cond.isRef (.static Bundle.tN "UNASSIGNED_STACK" Bundle.steD)).before args s = true) (hN : (Cond.isRef (.static Bundle.tN "SUPPRESSED_SENTINEL" Bundle.listD)).before args s = true)
    (lU : (Cond.laysStatic Bundle.tN "UNASSIGNED_STACK" Bundle.steD).before args s = true) (lN : (Cond.laysStatic Bundle.tN "SUPPRESSED_SENTINEL" Bundle.listD).before args s = true) : ∀ w ∈ L, w.before args s = true := by
  intro w hw
  by_cases e1 : w = .isRef (.static Bundle.tN "UNASSIGNED_STACK" Bundle.steD)
  · rw [e1]; exact hU
  · by_cases e2 : w = .isRef (.static Bundle.tN "SUPPRESSED_SENTINEL" Bundle.listD)
    · rw [e2]; exact hN
    · by_cases e3 : w = .laysStatic Bundle.tN "UNASSIGNED_STACK" Bundle.steD
      · rw [e3]; exact lU
      · by_cases e4 : w = .laysStatic Bundle.tN "SUPPRESSED_SENTINEL" Bundle.listD
        · rw [e4]; exact lN
        · exact h1 w (List.mem_filter.mpr ⟨hw, by unfold vx_no; rw [decide_eq_true e1, decide_eq_true e2, decide_eq_true e3, decide_eq_true e4]; rfl⟩)
/-- where a static field lies, its class's statics cell in H -/
def vx_L (C n d : String) (A : Nat → Prop) (U : State) (H : Heap) : Prop := ∃ (c : ClassId) (k : Class) (i : Nat) (f : Field) (a : Nat) (cell : Cell), U.vm.findClass C = some c ∧ U.fieldFound? C n d = some (c, k, i, f) ∧ f.isStatic = true ∧ k.statics = some a ∧ H[a]? = some cell ∧ cell.vm.isStatics = true ∧ cell.cls = c ∧ f.slot < cell.slots.size ∧ k.staticTypes[f.slot]? = some f.type ∧ ¬ A a
theorem vx_L.moved {C n d : String} {A : Nat → Prop} {u U : State} {H : Heap} (hvm : u.vm.Alike U.vm) (h : vx_L C n d A u H) : vx_L C n d A U H := by
  obtain ⟨c, k, i, f, a, cell, h1, h2, h3, h4, h5, h6, h7, h8, h9, h10⟩ := h
  obtain ⟨k', hi', he⟩ := State.fieldFound?_setVm hvm h2
  exact ⟨c, k', i, f, a, cell, by rw [hvm.findClass]; exact h1, hi', h3, by rw [he]; exact h4, h5, h6, h7, h8, by rw [he]; exact h9, h10⟩
theorem vx_L.kept {C n d : String} {A : Nat → Prop} {U : State} {H H1 : Heap} (h : vx_L C n d A U H) (hq : ∀ a : Nat, a < H.size → ¬ A a → H1[a]? = H[a]?) : vx_L C n d A U H1 := by
  obtain ⟨c, k, i, f, a, cell, h1, h2, h3, h4, h5, h6, h7, h8, h9, h10⟩ := h
  exact ⟨c, k, i, f, a, cell, h1, h2, h3, h4, by rw [hq a (Array.getElem?_eq_some_iff.mp h5).1 h10]; exact h5, h6, h7, h8, h9, h10⟩
theorem vx_L.narrow {C n d : String} {A B : Nat → Prop} {U : State} {H : Heap} (h : vx_L C n d A U H) (hAB : ∀ q, B q → A q) : vx_L C n d B U H := by
  obtain ⟨c, k, i, f, a, cell, h1, h2, h3, h4, h5, h6, h7, h8, h9, h10⟩ := h
  exact ⟨c, k, i, f, a, cell, h1, h2, h3, h4, h5, h6, h7, h8, h9, fun z => h10 (hAB _ z)⟩
theorem vx_L.word {C n d : String} {A : Nat → Prop} {s : State} {args : Array Value} (h : vx_L C n d A s s.heap) : (Cond.laysStatic C n d).before args s = true := by
  obtain ⟨c, k, i, f, a, cell, h1, h2, h3, h4, h5, h6, h7, h8, h9, -⟩ := h
  show (Cond.laysStatic C n d).holds args s none s [] = true
  exact Cond.laysStatic_of h1 h2 h3 h4 h5 h6 h7 h8 h9
/-- .. and what it holds: null or some reference -/
def vx_Zq (C n d : String) (A : Nat → Prop) (U : State) (H : Heap) : Prop := va_Zq C n d A U H ∧ vx_L C n d A U H
theorem vx_Zq.moved {C n d : String} {A : Nat → Prop} {u U : State} {H : Heap} (hvm : u.vm.Alike U.vm) (h : vx_Zq C n d A u H) : vx_Zq C n d A U H := ⟨va_Zq.moved hvm h.1, vx_L.moved hvm h.2⟩
theorem vx_Zq.kept {C n d : String} {A : Nat → Prop} {U : State} {H H1 : Heap} (h : vx_Zq C n d A U H) (hq : ∀ a : Nat, a < H.size → ¬ A a → H1[a]? = H[a]?) : vx_Zq C n d A U H1 := ⟨va_Zq.kept h.1 hq, vx_L.kept h.2 hq⟩
theorem vx_Zq.narrow {C n d : String} {A B : Nat → Prop} {U : State} {H : Heap} (h : vx_Zq C n d A U H) (hAB : ∀ q, B q → A q) : vx_Zq C n d B U H := ⟨va_Zq.narrow h.1 hAB, vx_L.narrow h.2 hAB⟩
theorem vx_Zqof {args : Array Value} {s : State} {C n d : String} {A : Nat → Prop} (hl : (Cond.laysStatic C n d).before args s = true) (hini : (Cond.initialized C).before args s = true) (h : (Cond.isRef (.static C n d)).before args s = true) (hA : ∀ a : Nat, a < s.heap.size → ¬ A a) : vx_Zq C n d A s s.heap := by
  refine ⟨va_Zqof hl hini h hA, ?_⟩
  obtain ⟨c, k, i, f, a, cell, h1, h2, h3, h4, h5, h6, h7, h8, h9⟩ := Cond.laysStatic_spec hl
  exact ⟨c, k, i, f, a, cell, h1, h2, h3, h4, h5, h6, h7, h8, h9, hA a (Array.getElem?_eq_some_iff.mp h5).1⟩
theorem vx_isRef {C n d : String} {v : Value} {A : Nat → Prop} {s : State} {args : Array Value} (h : va_Z C n d v A s s.heap) (hv : v.isRef = true) : (Cond.isRef (.static C n d)).before args s = true := by
  obtain ⟨cf, kf, fi, f, a, cell, h1, h2, h3, h4, h5, h6, h7, -⟩ := h
  have he : (Term.static C n d).eval args s none [] s = some v := by
    simp [Term.eval, State.fieldNamed?, h1, h2, h4, h5, h6, h7]
  simp only [Cond.before, Cond.holds, Cond.value, he]
  cases v <;> simp_all [Value.isRef]
theorem vx_isRefq {C n d : String} {A : Nat → Prop} {s : State} {args : Array Value} (h : va_Zq C n d A s s.heap) : (Cond.isRef (.static C n d)).before args s = true := by
  rcases h with h | ⟨t, h⟩
  · exact vx_isRef h rfl
  · exact vx_isRef h rfl
/-- the same frame, seen from here: as if the method were called anew in this heap -/
theorem vx_rebase {T : State} (X : Stand p l e R s m args below meth c T locs cells slots) {R' : Room} (hf : R'.frames ≤ R.frames) (hl : R'.locals ≤ R.locals) (hc : cells + R'.cells ≤ R.cells) (hs : slots + R'.slots ≤ R.slots) :
    Stand p l e R' ((T.setVm s.vm).setFrames (.invoking m args :: below)) m args below meth c T [] 0 0 := by
  have htop : (T.setVm s.vm).topJava?.isSome := X.here.top
  have hF : ((T.setVm s.vm).setFrames (.invoking m args :: below)).frames = .invoking m args :: below := State.frames_setFrames _ (State.cur_lt_of_top htop)
  obtain ⟨g₀, hg0⟩ := Option.isSome_iff_exists.mp htop
  obtain ⟨r, hr⟩ := State.topJava?_eq_some.mp hg0
  have hl9 : e.platform.stackLimits (T.setVm s.vm).me = e.platform.stackLimits s.me := X.limits
  have hb9 : (T.setVm s.vm).me.stackBytes = s.me.stackBytes := X.bytes
  refine ⟨X.admits, X.cas, X.clock, hF, ?_, X.hears, X.method, X.code, X.here, X.tail, X.warmed, ?_, ?_, ?_⟩
  · have h := X.room
    have hU : ((T.setVm s.vm).setFrames (.invoking m args :: below)).localsInUse = s.localsInUse := by
      rw [State.localsInUse_invoking hF (meth := meth) (c := c) X.method X.code, State.localsInUse_invoking X.frames X.method X.code]
    simp only [State.hasRoom, Bool.and_eq_true, decide_eq_true_eq] at h ⊢
    obtain ⟨⟨⟨⟨h1, h2, h3, h4, h5, h6⟩, h7⟩, h8⟩, h9⟩ := h
    rw [X.frames, List.length_cons] at h2 h3
    have q1 := X.heapSize
    have q2 := X.used
    simp only [hF, hU, List.length_cons, State.stackLimits_setFrames, State.stackBytes_setFrames, hl9, hb9]
    refine ⟨⟨⟨⟨by omega, by omega, by omega, by omega, by omega, h6⟩, ?_⟩, ?_⟩, X.book⟩
    · show T.heap.size + R'.cells ≤ e.platform.maxCells
      omega
    · show T.slotsUsed + R'.slots ≤ e.platform.maxSlots
      omega
  · rw [State.stackLimits_setFrames]; rfl
  · rw [State.stackBytes_setFrames]; rfl
  · refine ⟨?_, Nat.le_refl _, Nat.le_refl _, ?_, ?_, fun a c9 h9 => ⟨c9, h9, rfl, rfl, fun _ _ => rfl⟩⟩
    · obtain ⟨t, ht, -⟩ := State.frames_cons hr
      show T.setVm s.vm = { ((T.setVm s.vm).setFrames (.invoking m args :: below)).setFrames (T.setVm s.vm).frames with heap := T.heap, slotsUsed := T.slotsUsed }
      rw [State.setFrames_setFrames, State.setFrames_self ht]
      rfl
    · show T.slotsUsed = T.slotsUsed + ((T.heap.toList.drop T.heap.size).map (·.slots.size)).sum
      rw [List.drop_eq_nil_of_le (Nat.le_of_eq Array.length_toList)]
      rfl
    · show ((T.heap.toList.drop T.heap.size).map (·.slots.size)).sum ≤ 0
      rw [List.drop_eq_nil_of_le (Nat.le_of_eq Array.length_toList)]
      exact Nat.le_refl _
/-- 'throw new E()': new; dup; invokespecial; athrow -/
theorem vx_throw0 {cc : ByteArray} {pc : Nat} (hexec : p.tables.exec = Jvm.exec) (hb : c.code = cc) (hl : l.stackTraces = false) {own cls : String} {names : List String} {ik ic mc ms : Nat} {A : Nat → Prop}
    (hown : s.vm.findClass own = some m.cls) (hcls : Bundle.fit cls = true) (hnames : ∀ n ∈ names, Bundle.fit n = true)
    (hk : (Cond.classLink own ik cls).before args s = true) (hini : (Cond.initialized cls).before args s = true) (hat : ∀ w ∈ vx_at0 own ic cls names, w.before args s = true)
    (hgood : ∀ w ∈ Cond.classLink own ik cls :: Cond.initialized cls :: vx_at0 own ic cls names, vx_ot w = true)
    (hU : vx_Zq Bundle.tN "UNASSIGNED_STACK" Bundle.steD A s s.heap) (hN : vx_Zq Bundle.tN "SUPPRESSED_SENTINEL" Bundle.listD A s s.heap) (hS : va_S A s.heap H locs) (hsize : ls.size = c.maxLocals)
    (d0 : decode cc pc = .ok (.new ik, 3)) (d3 : decode cc (pc + 3) = .ok (.dup, 1)) (d4 : decode cc (pc + 4) = .ok (.invokespecial ic, 3)) (d7 : decode cc (pc + 7) = .ok (.athrow, 1))
    (hout : ∀ x ∈ c.exceptionTable.toList, covers x (pc + 7) = false)
    (hRframes : names.length + 3 < R.frames) (hRlocals : (rest.map fun v => v.category).sum + (13 * (names.length + 1) + 42) ≤ R.locals) (hRcells : cells + 1 ≤ R.cells) (hRslots : slots + 6 ≤ R.slots) (hlocks : meth.locks = false)
    (hx : ∀ t : State, s.vm.Alike t.vm → H.size ≤ t.heap.size → (∀ q : Nat, q < H.size → t.heap[q]? = H[q]?) → XC cls s t)
    (hf : ∀ z ∈ locs, free z.base) (hc : cells + 1 ≤ mc) (hs : slots + 6 ≤ ms) :
    W p l e R s m args below meth c H locs cells slots (vx_MQ below Qc XC args s mc ms free) (F0 m pc ls rest) := by
  intro T hT X
  have htr : e.platform.stackTraces = false := (show e.platform.stackTraces = l.stackTraces by rw [X.admits.platform]).trans hl
  have Y := vx_rebase X (R' := { frames := R.frames, locals := R.locals, cells := 1, slots := 6 }) (Nat.le_refl _) (Nat.le_refl _) hRcells hRslots
  obtain ⟨s', hA⟩ : ∃ z, z = (T.setVm s.vm).setFrames (.invoking m args :: below) := ⟨_, rfl⟩
  rw [← hA] at Y
  have hvm : s'.vm = s.vm := by rw [hA]; rfl
  have hhp : s'.heap = H := by rw [hA]; exact hT
  have hW0 : s.WarmedH s'.vm := by rw [hvm]; exact State.WarmedH.refl s
  have hat' : ∀ w ∈ vx_at0 own ic cls names, w.before args s' = true := fun w hw => vx_ot_at hW0 hvm.symm (hgood w (List.mem_cons_of_mem _ (List.mem_cons_of_mem _ hw))) (hat w hw)
  have hk' : (Cond.classLink own ik cls).before args s' = true := vx_ot_at hW0 hvm.symm (hgood _ List.mem_cons_self) hk
  have hini' : (Cond.initialized cls).before args s' = true := vx_ot_at hW0 hvm.symm (hgood _ (List.mem_cons_of_mem _ List.mem_cons_self)) hini
  have hU' : vx_Zq Bundle.tN "UNASSIGNED_STACK" Bundle.steD A s' s'.heap := by rw [hhp]; exact vx_Zq.moved hW0.alike (hU.kept hS.2.1)
  have hN' : vx_Zq Bundle.tN "SUPPRESSED_SENTINEL" Bundle.listD A s' s'.heap := by rw [hhp]; exact vx_Zq.moved hW0.alike (hN.kept hS.2.1)
  have h : ∀ w ∈ Bundle.ownAtoms0 own ic cls names, w.before args s' = true := vx_own hat' (vx_isRefq hU'.1) (vx_isRefq hN'.1) hU'.2.word hN'.2.word
  have hown' : s'.vm.findClass own = some m.cls := by rw [hvm]; exact hown
  have hins : (Cond.instantiable cls 6).before args s' = true := h _ (by simp [Bundle.ownAtoms0])
  obtain ⟨vm₁, cX, kX, hfX, hkX, -, -, X₁, st1⟩ := Y.newCold hexec (own := own) (C := cls) (index := ik) (n := 6) hown' hk' hins hini'
    (g := F0 m pc ls rest) rfl (by rw [hb]; exact d0) (Nat.le_refl _) (Nat.le_refl _)
  generalize hT1 : (T.setVm vm₁).pushCell { cls := cX, slots := kX.instanceTypes.map defaultValue, vm := .none } = T1 at X₁ st1
  have hcat : (Value.ref T.heap.size).category = 1 := rfl
  have hcellA : T1.heap[T.heap.size]? = some (freshCell cX kX) := by rw [← hT1]; exact State.heap_pushCell_size _ _
  have d3' : decode c.code (pc + 3) = .ok (.dup, 1) := by rw [hb]; exact d3
  obtain ⟨U, hsteps, hrun, hend, hW, hsame, ce, hce, hO⟩ := X₁.ctorThrow0 hexec htr (own := own) (cls := cls) (names := names) (ic := ic) hown' hcls hnames h (fun x hx => nomatch hx) hfX hkX hcellA (by rw [hhp, hT]; exact Nat.le_refl _)
    (g := { method := m, pc := pc + 4, locals := ls, stack := .ref T.heap.size :: .ref T.heap.size :: rest, locked := none }) rfl hsize rfl rfl (rest := rest) rfl
    (by rw [hb]; exact d4) (by rw [hb]; exact d7) hout hRframes (by simp only [List.map_cons, List.sum_cons, hcat]; omega) hlocks
  obtain ⟨f1, f2⟩ := vx_frame hsame
  rw [hhp] at f1 f2
  have hWs : s.WarmedH U.vm := State.WarmedH.trans hW0 hW
  have hcl : s.vm.findClass cls = some ce.cls := by
    have h9 := hO.cls
    rw [hvm] at h9
    exact h9
  have hall : s.sameButNew ({ U with vm := s.vm } : State) locs mc ms := by
    subst hA
    obtain ⟨e1, e2⟩ := hsame
    rw [State.setFrames_setFrames] at e1
    have h2 : (T.setVm s.vm).sameButNew ({ U with vm := s.vm } : State) [] (0 + 1) (0 + 6) := ⟨e1, e2⟩
    have h3 := X.same.trans h2
    rw [List.append_nil] at h3
    exact h3.mono hc hs
  refine ⟨U, ?_, .threw T.heap.size, hrun, hend, Or.inr ⟨T.heap.size, rfl, cls, ce, locs, hx U hWs.alike f1 (fun q hq => f2 q hq (fun z hz => nomatch hz)), hce, hO.vm, hcl, hWs, hall, hf⟩⟩
  refine st1 _ ?_
  show Steps p.tables e below (T1.setTop { method := m, pc := pc + 3, locals := ls, stack := .ref T.heap.size :: rest, locked := none }) _
  jvm_step X₁.here [X₁.here.top, hexec, d3', Value.category]
  exact hsteps
/-- 'throw new E("text")': new; dup; ldc; invokespecial; athrow -/
theorem vx_throwS {cc : ByteArray} {pc : Nat} (hexec : p.tables.exec = Jvm.exec) (hb : c.code = cc) (hl : l.stackTraces = false) {own cls text : String} {names : List String} {ik is ic mc ms sa : Nat} {A : Nat → Prop}
    (hown : s.vm.findClass own = some m.cls) (hcls : Bundle.fit cls = true) (hnames : ∀ n ∈ names, Bundle.fit n = true)
    (hk : (Cond.classLink own ik cls).before args s = true) (hini : (Cond.initialized cls).before args s = true) (hstr : vk_R own is text sa s) (hat : ∀ w ∈ vx_atS own ic cls names, w.before args s = true)
    (hgood : ∀ w ∈ Cond.classLink own ik cls :: Cond.initialized cls :: vx_atS own ic cls names, vx_ot w = true)
    (hU : vx_Zq Bundle.tN "UNASSIGNED_STACK" Bundle.steD A s s.heap) (hN : vx_Zq Bundle.tN "SUPPRESSED_SENTINEL" Bundle.listD A s s.heap) (hS : va_S A s.heap H locs) (hsize : ls.size = c.maxLocals)
    (d0 : decode cc pc = .ok (.new ik, 3)) (d3 : decode cc (pc + 3) = .ok (.dup, 1)) (d4 : decode cc (pc + 4) = .ok (.ldc is, 2)) (d6 : decode cc (pc + 6) = .ok (.invokespecial ic, 3)) (d9 : decode cc (pc + 9) = .ok (.athrow, 1))
    (hout : ∀ x ∈ c.exceptionTable.toList, covers x (pc + 9) = false)
    (hRframes : names.length + 3 < R.frames) (hRlocals : (rest.map fun v => v.category).sum + (13 * (names.length + 1) + 43) ≤ R.locals) (hRcells : cells + 1 ≤ R.cells) (hRslots : slots + 6 ≤ R.slots) (hlocks : meth.locks = false)
    (hx : ∀ t : State, s.vm.Alike t.vm → H.size ≤ t.heap.size → (∀ q : Nat, q < H.size → t.heap[q]? = H[q]?) → XC cls s t)
    (hf : ∀ z ∈ locs, free z.base) (hc : cells + 1 ≤ mc) (hs : slots + 6 ≤ ms) :
    W p l e R s m args below meth c H locs cells slots (vx_MQ below Qc XC args s mc ms free) (F0 m pc ls rest) := by
  intro T hT X
  have htr : e.platform.stackTraces = false := (show e.platform.stackTraces = l.stackTraces by rw [X.admits.platform]).trans hl
  have Y := vx_rebase X (R' := { frames := R.frames, locals := R.locals, cells := 1, slots := 6 }) (Nat.le_refl _) (Nat.le_refl _) hRcells hRslots
  obtain ⟨s', hA⟩ : ∃ z, z = (T.setVm s.vm).setFrames (.invoking m args :: below) := ⟨_, rfl⟩
  rw [← hA] at Y
  have hvm : s'.vm = s.vm := by rw [hA]; rfl
  have hhp : s'.heap = H := by rw [hA]; exact hT
  have hW0 : s.WarmedH s'.vm := by rw [hvm]; exact State.WarmedH.refl s
  have hat' : ∀ w ∈ vx_atS own ic cls names, w.before args s' = true := fun w hw => vx_ot_at hW0 hvm.symm (hgood w (List.mem_cons_of_mem _ (List.mem_cons_of_mem _ hw))) (hat w hw)
  have hk' : (Cond.classLink own ik cls).before args s' = true := vx_ot_at hW0 hvm.symm (hgood _ List.mem_cons_self) hk
  have hini' : (Cond.initialized cls).before args s' = true := vx_ot_at hW0 hvm.symm (hgood _ (List.mem_cons_of_mem _ List.mem_cons_self)) hini
  have hU' : vx_Zq Bundle.tN "UNASSIGNED_STACK" Bundle.steD A s' s'.heap := by rw [hhp]; exact vx_Zq.moved hW0.alike (hU.kept hS.2.1)
  have hN' : vx_Zq Bundle.tN "SUPPRESSED_SENTINEL" Bundle.listD A s' s'.heap := by rw [hhp]; exact vx_Zq.moved hW0.alike (hN.kept hS.2.1)
  have h : ∀ w ∈ Bundle.ownAtoms own ic cls names, w.before args s' = true := vx_own hat' (vx_isRefq hU'.1) (vx_isRefq hN'.1) hU'.2.word hN'.2.word
  have hown' : s'.vm.findClass own = some m.cls := by rw [hvm]; exact hown
  have hins : (Cond.instantiable cls 6).before args s' = true := h _ (by simp [Bundle.ownAtoms])
  obtain ⟨vm₁, cX, kX, hfX, hkX, -, -, X₁, st1⟩ := Y.newCold hexec (own := own) (C := cls) (index := ik) (n := 6) hown' hk' hins hini'
    (g := F0 m pc ls rest) rfl (by rw [hb]; exact d0) (Nat.le_refl _) (Nat.le_refl _)
  generalize hT1 : (T.setVm vm₁).pushCell { cls := cX, slots := kX.instanceTypes.map defaultValue, vm := .none } = T1 at X₁ st1
  have hcat : (Value.ref T.heap.size).category = 1 := rfl
  have hcellA : T1.heap[T.heap.size]? = some (freshCell cX kX) := by rw [← hT1]; exact State.heap_pushCell_size _ _
  have d3' : decode c.code (pc + 3) = .ok (.dup, 1) := by rw [hb]; exact d3
  have d4' : decode c.code (pc + 4) = .ok (.ldc is, 2) := by rw [hb]; exact d4
  have hstr' : vk_R own is text sa s' := vk_R.warm hW0 hstr
  obtain ⟨U, hsteps, hrun, hend, hW, hsame, ce, hce, hO⟩ := X₁.ctorThrowS hexec htr (own := own) (cls := cls) (names := names) (ic := ic) hown' hcls hnames h (fun x hx => nomatch hx) hfX hkX hcellA (by rw [hhp, hT]; exact Nat.le_refl _) (msg := .ref sa) rfl
    (g := { method := m, pc := pc + 6, locals := ls, stack := .ref sa :: .ref T.heap.size :: .ref T.heap.size :: rest, locked := none }) rfl hsize rfl rfl (rest := rest) rfl
    (by rw [hb]; exact d6) (by rw [hb]; exact d9) hout hRframes (by simp only [List.map_cons, List.sum_cons, hcat]; omega) hlocks
  obtain ⟨f1, f2⟩ := vx_frame hsame
  rw [hhp] at f1 f2
  have hWs : s.WarmedH U.vm := State.WarmedH.trans hW0 hW
  have hcl : s.vm.findClass cls = some ce.cls := by
    have h9 := hO.cls
    rw [hvm] at h9
    exact h9
  have hall : s.sameButNew ({ U with vm := s.vm } : State) locs mc ms := by
    subst hA
    obtain ⟨e1, e2⟩ := hsame
    rw [State.setFrames_setFrames] at e1
    have h2 : (T.setVm s.vm).sameButNew ({ U with vm := s.vm } : State) [] (0 + 1) (0 + 6) := ⟨e1, e2⟩
    have h3 := X.same.trans h2
    rw [List.append_nil] at h3
    exact h3.mono hc hs
  refine ⟨U, ?_, .threw T.heap.size, hrun, hend, Or.inr ⟨T.heap.size, rfl, cls, ce, locs, hx U hWs.alike f1 (fun q hq => f2 q hq (fun z hz => nomatch hz)), hce, hO.vm, hcl, hWs, hall, hf⟩⟩
  refine st1 _ ?_
  show Steps p.tables e below (T1.setTop { method := m, pc := pc + 3, locals := ls, stack := .ref T.heap.size :: rest, locked := none }) _
  jvm_step X₁.here [X₁.here.top, hexec, d3', Value.category]
  exact X₁.ldcString hexec (own := own) (text := text) (index := is) (a := sa) hown' hstr'.1 hstr'.2
    (g := { method := m, pc := pc + 4, locals := ls, stack := .ref T.heap.size :: .ref T.heap.size :: rest, locked := none }) rfl d4' _ hsteps
/-- 'throw new E("text")', the text by a wide index -/
theorem vx_throwSW {cc : ByteArray} {pc : Nat} (hexec : p.tables.exec = Jvm.exec) (hb : c.code = cc) (hl : l.stackTraces = false) {own cls text : String} {names : List String} {ik is ic mc ms sa : Nat} {A : Nat → Prop}
    (hown : s.vm.findClass own = some m.cls) (hcls : Bundle.fit cls = true) (hnames : ∀ n ∈ names, Bundle.fit n = true)
    (hk : (Cond.classLink own ik cls).before args s = true) (hini : (Cond.initialized cls).before args s = true) (hstr : vk_R own is text sa s) (hat : ∀ w ∈ vx_atS own ic cls names, w.before args s = true)
    (hgood : ∀ w ∈ Cond.classLink own ik cls :: Cond.initialized cls :: vx_atS own ic cls names, vx_ot w = true)
    (hU : vx_Zq Bundle.tN "UNASSIGNED_STACK" Bundle.steD A s s.heap) (hN : vx_Zq Bundle.tN "SUPPRESSED_SENTINEL" Bundle.listD A s s.heap) (hS : va_S A s.heap H locs) (hsize : ls.size = c.maxLocals)
    (d0 : decode cc pc = .ok (.new ik, 3)) (d3 : decode cc (pc + 3) = .ok (.dup, 1)) (d4 : decode cc (pc + 4) = .ok (.ldc_w is, 3)) (d7 : decode cc (pc + 7) = .ok (.invokespecial ic, 3)) (d10 : decode cc (pc + 10) = .ok (.athrow, 1))
    (hout : ∀ x ∈ c.exceptionTable.toList, covers x (pc + 10) = false)
    (hRframes : names.length + 3 < R.frames) (hRlocals : (rest.map fun v => v.category).sum + (13 * (names.length + 1) + 43) ≤ R.locals) (hRcells : cells + 1 ≤ R.cells) (hRslots : slots + 6 ≤ R.slots) (hlocks : meth.locks = false)
    (hx : ∀ t : State, s.vm.Alike t.vm → H.size ≤ t.heap.size → (∀ q : Nat, q < H.size → t.heap[q]? = H[q]?) → XC cls s t)
    (hf : ∀ z ∈ locs, free z.base) (hc : cells + 1 ≤ mc) (hs : slots + 6 ≤ ms) :
    W p l e R s m args below meth c H locs cells slots (vx_MQ below Qc XC args s mc ms free) (F0 m pc ls rest) := by
  intro T hT X
  have htr : e.platform.stackTraces = false := (show e.platform.stackTraces = l.stackTraces by rw [X.admits.platform]).trans hl
  have Y := vx_rebase X (R' := { frames := R.frames, locals := R.locals, cells := 1, slots := 6 }) (Nat.le_refl _) (Nat.le_refl _) hRcells hRslots
  obtain ⟨s', hA⟩ : ∃ z, z = (T.setVm s.vm).setFrames (.invoking m args :: below) := ⟨_, rfl⟩
  rw [← hA] at Y
  have hvm : s'.vm = s.vm := by rw [hA]; rfl
  have hhp : s'.heap = H := by rw [hA]; exact hT
  have hW0 : s.WarmedH s'.vm := by rw [hvm]; exact State.WarmedH.refl s
  have hat' : ∀ w ∈ vx_atS own ic cls names, w.before args s' = true := fun w hw => vx_ot_at hW0 hvm.symm (hgood w (List.mem_cons_of_mem _ (List.mem_cons_of_mem _ hw))) (hat w hw)
  have hk' : (Cond.classLink own ik cls).before args s' = true := vx_ot_at hW0 hvm.symm (hgood _ List.mem_cons_self) hk
  have hini' : (Cond.initialized cls).before args s' = true := vx_ot_at hW0 hvm.symm (hgood _ (List.mem_cons_of_mem _ List.mem_cons_self)) hini
  have hU' : vx_Zq Bundle.tN "UNASSIGNED_STACK" Bundle.steD A s' s'.heap := by rw [hhp]; exact vx_Zq.moved hW0.alike (hU.kept hS.2.1)
  have hN' : vx_Zq Bundle.tN "SUPPRESSED_SENTINEL" Bundle.listD A s' s'.heap := by rw [hhp]; exact vx_Zq.moved hW0.alike (hN.kept hS.2.1)
  have h : ∀ w ∈ Bundle.ownAtoms own ic cls names, w.before args s' = true := vx_own hat' (vx_isRefq hU'.1) (vx_isRefq hN'.1) hU'.2.word hN'.2.word
  have hown' : s'.vm.findClass own = some m.cls := by rw [hvm]; exact hown
  have hins : (Cond.instantiable cls 6).before args s' = true := h _ (by simp [Bundle.ownAtoms])
  obtain ⟨vm₁, cX, kX, hfX, hkX, -, -, X₁, st1⟩ := Y.newCold hexec (own := own) (C := cls) (index := ik) (n := 6) hown' hk' hins hini'
    (g := F0 m pc ls rest) rfl (by rw [hb]; exact d0) (Nat.le_refl _) (Nat.le_refl _)
  generalize hT1 : (T.setVm vm₁).pushCell { cls := cX, slots := kX.instanceTypes.map defaultValue, vm := .none } = T1 at X₁ st1
  have hcat : (Value.ref T.heap.size).category = 1 := rfl
  have hcellA : T1.heap[T.heap.size]? = some (freshCell cX kX) := by rw [← hT1]; exact State.heap_pushCell_size _ _
  have d3' : decode c.code (pc + 3) = .ok (.dup, 1) := by rw [hb]; exact d3
  have d4' : decode c.code (pc + 4) = .ok (.ldc_w is, 3) := by rw [hb]; exact d4
  have hstr' : vk_R own is text sa s' := vk_R.warm hW0 hstr
  obtain ⟨U, hsteps, hrun, hend, hW, hsame, ce, hce, hO⟩ := X₁.ctorThrowS hexec htr (own := own) (cls := cls) (names := names) (ic := ic) hown' hcls hnames h (fun x hx => nomatch hx) hfX hkX hcellA (by rw [hhp, hT]; exact Nat.le_refl _) (msg := .ref sa) rfl
    (g := { method := m, pc := pc + 7, locals := ls, stack := .ref sa :: .ref T.heap.size :: .ref T.heap.size :: rest, locked := none }) rfl hsize rfl rfl (rest := rest) rfl
    (by rw [hb]; exact d7) (by rw [hb]; exact d10) hout hRframes (by simp only [List.map_cons, List.sum_cons, hcat]; omega) hlocks
  obtain ⟨f1, f2⟩ := vx_frame hsame
  rw [hhp] at f1 f2
  have hWs : s.WarmedH U.vm := State.WarmedH.trans hW0 hW
  have hcl : s.vm.findClass cls = some ce.cls := by
    have h9 := hO.cls
    rw [hvm] at h9
    exact h9
  have hall : s.sameButNew ({ U with vm := s.vm } : State) locs mc ms := by
    subst hA
    obtain ⟨e1, e2⟩ := hsame
    rw [State.setFrames_setFrames] at e1
    have h2 : (T.setVm s.vm).sameButNew ({ U with vm := s.vm } : State) [] (0 + 1) (0 + 6) := ⟨e1, e2⟩
    have h3 := X.same.trans h2
    rw [List.append_nil] at h3
    exact h3.mono hc hs
  refine ⟨U, ?_, .threw T.heap.size, hrun, hend, Or.inr ⟨T.heap.size, rfl, cls, ce, locs, hx U hWs.alike f1 (fun q hq => f2 q hq (fun z hz => nomatch hz)), hce, hO.vm, hcl, hWs, hall, hf⟩⟩
  refine st1 _ ?_
  show Steps p.tables e below (T1.setTop { method := m, pc := pc + 3, locals := ls, stack := .ref T.heap.size :: rest, locked := none }) _
  jvm_step X₁.here [X₁.here.top, hexec, d3', Value.category]
  exact X₁.ldcStringW hexec (own := own) (text := text) (index := is) (a := sa) hown' hstr'.1 hstr'.2
    (g := { method := m, pc := pc + 4, locals := ls, stack := .ref T.heap.size :: .ref T.heap.size :: rest, locked := none }) rfl d4' _ hsteps
end Ends
section Bodies
variable {l : Launch}
theorem vx_ofW {y : MethodName} {ws ws' : List Cond} {rm : Room} {Pc : Array Value → State → Prop} {Qc : Array Value → State → Outcome → State → Prop} {XC : String → State → State → Prop} {mc ms : Nat} {free : Addr → Prop} {cc : ByteArray} {maxL : Nat} {ret : Option FieldType}
    (hy : plainName y.cls = true) (hw : ws = Cond.code y cc maxL ret :: ws')
    (body : ∀ p e s m args below meth c s₁, BodyLoose p l y (headSpec ws rm) cc maxL ret e s m args below meth c s₁ → c.maxLocals = maxL → (∀ x ∈ c.exceptionTable.toList, False) → Pc args s →
      W p l e (headSpec ws rm).room s m args below meth c s.heap [] 0 0 (vx_MQ below Qc XC args s mc ms free) (entryFrame m args maxL)) : vx_Met l y ws rm Pc Qc XC mc ms free := by
  refine MetFree.of_bodyS (code := cc) (maxLocals := maxL) (ret := ret) hy ?_ ?_
  · intro args s m h hn
    obtain ⟨meth, c, h1, h2, h3, h4, h5, h6, -, -⟩ := Cond.code_spec hn (atoms_spec (ws := ws) h _ (by rw [hw]; exact List.mem_cons_self))
    exact ⟨meth, c, h1, h2, h3, h4, h5, h6⟩
  · intro p e s m args below meth c s₁ B hml hP _
    have hh0 : s₁.heap = s.heap := by rw [B.state]; rfl
    have ht : ∀ x ∈ c.exceptionTable.toList, False := by
      obtain ⟨meth9, c9, h1, h2, -, -, -, -, h7, -⟩ := Cond.code_spec B.named (atoms_spec (ws := ws) B.pre _ (by rw [hw]; exact List.mem_cons_self))
      cases Option.some.inj (h1.symm.trans B.method)
      cases Option.some.inj (h2.symm.trans (Stand.of_body B).code)
      intro x hx
      rw [Array.isEmpty_iff.mp h7] at hx
      cases hx
    obtain ⟨t, a1, o, b1, b2, b3⟩ := body p e s m args below meth c s₁ B hml ht hP s₁ hh0 (Stand.of_body B)
    exact ⟨t, o, a1, b1, b2, b3⟩
/-- the table of a body with handlers -/
theorem vx_table {p : Program} {x y : MethodName} {S : Spec} {cc bytes : ByteArray} {maxL maxL' : Nat} {ret ret' : Option FieldType} {e : Env} {s s₁ : State} {m : MethodId} {args : Array Value} {below : List Frame} {meth : Method} {c : Code} {hh : List (Nat × Nat × Nat × Nat)}
    (B : BodyLoose p l y S cc maxL ret e s m args below meth c s₁) (h : (Cond.codeWith y bytes maxL' ret' hh).before args s = true) : c.exceptionTable.toList = tableOf hh := by
  obtain ⟨m9, meth9, c9, hn9, h1, h2, -, -, h6, -⟩ := Cond.codeWith_spec h
  cases Option.some.inj (hn9.symm.trans B.named)
  cases Option.some.inj (h1.symm.trans B.method)
  cases Option.some.inj (h2.symm.trans (Stand.of_body B).code)
  rw [← h6, table_eq]
end Bodies
end VXA
/-! ===== END ===== -/
/-! ===== BEGIN a static call of a method with an exception table ===== -/
section VXS
variable {p : Program} {l : Launch} {e : Env} {R : Room} {s : State} {m : MethodId} {args : Array Value} {below : List Frame} {meth : Method} {c : Code} {T : State} {H : Heap} {locs : List Loc} {cells slots : Nat}
abbrev vx_CSW (R : Room) (s : State) (args : Array Value) (own : String) (index : Nat) (y : MethodName) (bytes : ByteArray) (maxL : Nat) (ret : Option FieldType) (hh : List (Nat × Nat × Nat × Nat)) (ws : List Cond) (rm : Room) (mc ms n : Nat) : Prop :=
  (rm.cells = mc ∧ rm.slots = ms ∧ rm.frames + 1 ≤ R.frames ∧ 8 + (maxL + 11) + rm.locals ≤ R.locals ∧ (∀ w ∈ ws, ∀ (a' : Array Value) (U : State), s.WarmedH U.vm → w.before a' U = true) ∧ Cond.codeWith y bytes maxL ret hh ∈ ws) ∧
  (Cond.codeWith y bytes maxL ret hh).before args s = true ∧ (Cond.initialized y.cls).before args s = true ∧ (y.cls ≠ "java/lang/invoke/MethodHandle" ∧ y.cls ≠ "java/lang/invoke/VarHandle") ∧
  (∀ sig, parseMethodDescriptor y.desc = some sig → n = sig.parameters.length) ∧ (Cond.methodLink own index y).before args s = true ∧ (Cond.static y).before args s = true
theorem vx_cwSW {own : String} {index maxL mc ms : Nat} {y : MethodName} {bytes : ByteArray} {ret : Option FieldType} {hh : List (Nat × Nat × Nat × Nat)} {Ts ws ws' : List Cond} {rm : Room} (n : Nat) (ht : ∀ w ∈ Ts, w.before args s = true) (hT : GoodIn Ts (va_wsS own index y ws)) (hw : ws = Cond.codeWith y bytes maxL ret hh :: ws') (hrc : rm.cells = mc) (hrs : rm.slots = ms)
    (hd : y.cls ≠ "java/lang/invoke/MethodHandle" ∧ y.cls ≠ "java/lang/invoke/VarHandle" ∧ (parseMethodDescriptor y.desc).map (fun d => d.parameters.length) = some n) (hR : rm.frames + 1 ≤ R.frames ∧ 8 + (maxL + 11) + rm.locals ≤ R.locals) :
    vx_CSW R s args own index y bytes maxL ret hh ws rm mc ms n := by
  have ok : ∀ w ∈ va_wsS own index y ws, w.before args s = true := fun w h => ht w (hT w h).1
  have hG : GoodIn Ts ws := fun w h => hT w (by unfold va_wsS; exact List.mem_append_right _ h)
  have hc : Cond.codeWith y bytes maxL ret hh ∈ ws := by rw [hw]; exact List.mem_cons_self
  refine ⟨⟨hrc, hrs, hR.1, hR.2, pay_in ht hG, hc⟩, ht _ (hG _ hc).1, ok _ (by simp [va_wsS]), ⟨hd.1, hd.2.1⟩, fun sig h => ?_, ok _ (by simp [va_wsS]), ok _ (by simp [va_wsS])⟩
  have h2 := hd.2.2
  rw [h] at h2
  exact (Option.some.inj h2).symm
theorem vx_callSW (X : Stand p l e R s m args below meth c T locs cells slots) (hexec : p.tables.exec = Jvm.exec) {own : String} {index : Nat} {y : MethodName} {bytes : ByteArray} {maxL : Nat} {ret : Option FieldType} {hh : List (Nat × Nat × Nat × Nat)}
    (hown : s.vm.findClass own = some m.cls) (hlink : (Cond.methodLink own index y).before args s = true) (hstat : (Cond.static y).before args s = true) (hinit : (Cond.initialized y.cls).before args s = true)
    (hcode : (Cond.codeWith y bytes maxL ret hh).before args s = true) (hy : y.cls ≠ "java/lang/invoke/MethodHandle" ∧ y.cls ≠ "java/lang/invoke/VarHandle")
    {W9 : Nat} {Pre : Pt → Array Value → Prop} {Post : Pt → Array Value → Option Value → Pt → Prop} (hK : Back l R p e below s args y 3 W9 Pre Post)
    {g : JFrame} (hg : g.method = m) (hsize : g.locals.size = c.maxLocals) {argsL rest : List Value} (hlen : ∀ sig, parseMethodDescriptor y.desc = some sig → argsL.length = sig.parameters.length)
    (hstack : g.stack = argsL.reverse ++ rest) (hW : 2 * g.monitorRoom + (rest.map fun v => v.category).sum ≤ W9) (hdg : decode c.code g.pc = .ok (.invokestatic index, 3))
    (hpre : ∀ vm₁, s.WarmedH vm₁ → Pre ⟨T.setVm vm₁, locs, cells, slots⟩ argsL.toArray) :
    ∃ (v : Option Value) (vm₁ : Vm) (B : Pt), s.WarmedH vm₁ ∧ Stand p l e R s m args below meth c B.U B.locs B.cells B.slots ∧ Post ⟨T.setVm vm₁, locs, cells, slots⟩ argsL.toArray v B ∧
      ∀ target, Steps p.tables e below (B.U.setTop { g with pc := g.pc + 3, stack := v.toList ++ rest }) target → Steps p.tables e below (T.setTop g) target := by
  obtain ⟨mk, methM, cM, hnamed, hmethM, -, -, -, -, -, -, hsigM⟩ := Cond.codeWith_spec hcode
  have hstatic : methM.isStatic = true := Cond.static_spec hnamed hmethM hstat
  obtain ⟨kP, hkP, -⟩ := className_of_methodNamed hnamed
  have hinitP : kP.init = .initialized := Cond.initialized_spec (findClass_of_methodNamed hnamed) hkP hinit
  obtain ⟨vm₁, X₁, hstep₁⟩ := X.invokestatic hexec hown hlink hnamed hmethM hstatic hkP hinitP hy (g := g) hg (argsL := argsL) (rest := rest) (hlen _ hsigM) hstack hdg
  obtain ⟨v, B, X', hpost, hsteps⟩ := hK m meth c ⟨T.setVm vm₁, locs, cells, slots⟩ { g with stack := rest } (.invokestatic index) mk argsL.toArray X₁ hg hsize hdg hW (X₁.named hnamed) (hpre vm₁ X₁.warmed)
  exact ⟨v, vm₁, B, X₁.warmed, X', hpost, fun target h => hstep₁ _ fun acts => by rw [doInvoke_state]; exact hsteps.trans h⟩
theorem vx_runSW {y : MethodName} {bytes cc : ByteArray} {maxL nL mc ms n index : Nat} {ret : Option FieldType} {hh : List (Nat × Nat × Nat × Nat)} {ws : List Cond} {rm : Room} {Pc : Array Value → State → Prop} {Qc : Array Value → State → Outcome → State → Prop} {free : Addr → Prop} {Ts : List Cond} {own : String} {As rest : List Value} {g : JFrame}
    (S : CallFix p m c cc nL s args Ts own) (hM : Met l y ws rm Pc Qc mc ms free) (cw : vx_CSW R s args own index y bytes maxL ret hh ws rm mc ms n) (hp : PreS s H Pc As)
    (hg : g.method = m) (hn : As.length = n) (hsize : g.locals.size = nL) (hstack : g.stack = As.reverse ++ rest) (hW : 2 * g.monitorRoom + (rest.map fun v => v.category).sum ≤ 8) (hdg : decode cc g.pc = .ok (.invokestatic index, 3)) (hf : cells + mc ≤ R.cells ∧ slots + ms ≤ R.slots) :
    va_Run p l e R s m args below meth c H locs cells slots mc ms g rest (Qc As.toArray) (free) := by
  obtain ⟨⟨hrc, hrs, hfr, hlo, hws, hcw⟩, hcode, hini, hy, hlen, hl, hstt⟩ := cw
  have hK : Back l R p e below s args y 3 8 (PreOf R mc ms Pc) (PostOf Qc mc ms free) := va_backW (hh := hh) (bytes := bytes) (maxL := maxL) (ret := ret) hM hp.1 hrc hrs hfr hlo hws hcw (fun a' U hW => word_at hW (Or.inl (by first | rfl | simp [Cond.onTables, Cond.keeps, Cond.steady])) hini)
  obtain ⟨hx, hb, hml, ho, -⟩ := S
  intro T hT X
  obtain ⟨v, vm₁, ⟨U', l2, c2, s2⟩, hW₁, X', ⟨g', mk, t, L, e1, e2, hq, h1, hL, h2, h3⟩, st⟩ := vx_callSW X hx (hh := hh) (bytes := bytes) (maxL := maxL) (ret := ret) ho hl hstt hini hcode hy hK hg (hsize.trans hml.symm) (argsL := As) (rest := rest) (fun sig h => hn.trans (hlen sig h)) hstack hW (by rw [hb]; exact hdg)
    (fun vm₁ hW₁ => ⟨hf.1, hf.2, hp.2 (T.setVm vm₁) hT hW₁⟩)
  dsimp only [Pt.U, Pt.locs, Pt.cells, Pt.slots] at X' e1 e2 h1 h2 h3 st
  subst h1; subst h2; subst h3
  exact ⟨v, (T.setVm vm₁).calling g' mk As.toArray, t, U', L, hT, X', hL, e1, e2, hq, st⟩
/-- not caught here, past rows that name other classes: it goes on to the caller -/
theorem vx_outP {p : Program} {l : Launch} {e : Env} {R : Room} {s : State} {m : MethodId} {args : Array Value} {below : List Frame} {meth : Method} {c : Code} {H : Heap} {locs : List Loc} {cells slots : Nat} {free : Addr → Prop} {ls : Array Slot} {rest : List Value} {Qc : Array Value → State → Outcome → State → Prop} {XC : String → State → State → Prop}
    {pc : Nat} {own E : String} {ce : Cell} {q : Addr} {mc ms : Nat} (hown : s.vm.findClass own = some m.cls) (hlocks : meth.locks = false)
    (hpass : ∀ z ∈ c.exceptionTable.toList, covers z pc = false ∨ (z.catchType ≠ 0 ∧ ∃ nm : String, (Cond.classLink own z.catchType nm).before args s = true ∧ va_Nc E nm s)) (hcell : H[q]? = some ce) (hv : ce.vm = .none) (hcl : s.vm.findClass E = some ce.cls)
    (hx : ∀ t : State, t.heap = H → s.vm.Alike t.vm → XC E s t) (hf : ∀ z ∈ locs, free z.base) (hc : cells ≤ mc) (hs : slots ≤ ms) :
    vx_W p l e R s m args below meth c H locs cells slots (vx_MQ below Qc XC args s mc ms free) (F0 m pc ls rest) q := by
  intro T hT X
  have hpl : e.platform.magicAccessors = ({} : Platform).magicAccessors := by rw [X.admits.platform]
  obtain ⟨vm', hW', X', st⟩ := X.outThrough hlocks q (g := F0 m pc ls rest) rfl rfl rfl (cell := ce) (by rw [hT]; exact hcell) (by rw [hv]; rfl)
    (by obtain ⟨k9, h9, -⟩ := Vm.findClass_spec hcl; exact ⟨k9, h9⟩) (fun z hz => by
      rcases hpass z hz with h | ⟨hz0, nm, hl1, hn1⟩
      · exact Or.inl h
      · obtain ⟨c6, hc6, hcl6⟩ := Cond.classLink_spec hown hl1 e.platform hpl
        obtain ⟨a8, b8, h1, h2, h3⟩ := hn1
        cases Option.some.inj (h1.symm.trans hcl)
        cases Option.some.inj (h2.symm.trans hc6)
        exact Or.inr ⟨hz0, _, hcl6, h3⟩)
  obtain ⟨g₀, hfr⟩ := X'.frames_eq
  have hcell9 : ((T.setVm vm').setFrames (.throwing q :: below)).heap[q]? = some ce := by
    show T.heap[q]? = some ce
    rw [hT]; exact hcell
  have hend : Ended ((T.setVm vm').setFrames (.throwing q :: below)) below (.threw q) := State.frames_setFrames _ (State.cur_lt_of_frames hfr)
  refine ⟨(T.setVm vm').setFrames (.throwing q :: below), ?_, .threw q, X'.here.running, hend, Or.inr ⟨q, rfl, E, ce, locs, hx _ hT (X'.ends _).1.alike, hcell9, hv, hcl, (X'.ends _).1, (X'.ends _).2.mono hc hs, hf⟩⟩
  rw [X.pushThrowing_eq]
  exact st
/-- a thing of a world lies in the heap -/
theorem vx_lt {D : va_G} {cl : List vw_C} {ws : va_W} {H1 : Heap} (h : va_P D cl ws H1) {k : Nat} {q : Nat × va_E} (hk : ws[k]? = some q) : q.1 < H1.size := (h k q hk).lt
end VXS
/-! ===== END ===== -/
/-! ===== BEGIN methods with a table of their own: called by a name, returning or throwing ===== -/
section VXH
/-! vx_backW, vx_callVX, vx_callSX, vx_callVW, vx_runVW, vx_runVX, vx_runSX, vx_ofWH follow the same proofs as their sisters above (Free/Laws.lean, Shelf42/LK1.lean); vx_outP calls Shelf42/NT130.lean (outThrough). -/
section
variable {l : Launch} {R : Room} {p : Program} {e : Env} {below : List Frame} {s : State} {sargs : Array Value} {y : MethodName} {len W9 : Nat}
theorem vx_backW {ws : List Cond} {rm : Room} {Pc : Array Value → State → Prop} {Qc : Array Value → State → Outcome → State → Prop} {XC : String → State → State → Prop} {mc ms : Nat} {free : Addr → Prop} {bytes : ByteArray} {maxL : Nat} {ret : Option FieldType} {hh : List (Nat × Nat × Nat × Nat)}
    (hM : vx_Met l y ws rm Pc Qc XC mc ms free) (hblind : FrameBlind Pc) (hrc : rm.cells = mc) (hrs : rm.slots = ms)
    (hframes : rm.frames + 1 ≤ R.frames) (hlocals : W9 + (maxL + 11) + rm.locals ≤ R.locals)
    (hws : ∀ w ∈ ws, ∀ a' U, s.WarmedH U.vm → w.before a' U = true) (hcode : Cond.codeWith y bytes maxL ret hh ∈ ws) (hinit : ∀ a' U, s.WarmedH U.vm → (Cond.initialized y.cls).before a' U = true) :
    vx_Back l R p e below s sargs y len W9 (PreOf R mc ms Pc) (PostOf Qc mc ms free) (vx_Post XC mc ms free) := by
  intro m meth c A g ig mk a X hg hsize hdg hW hn hp
  have h1 : (headSpec ws rm).pre.before a A.U = true := atoms_intro fun w hw => hws w hw _ _ X.warmed
  have h2 : (Cond.codeWith y bytes maxL ret hh).before a A.U = true := hws _ hcode _ _ X.warmed
  have h3 : (Cond.initialized y.cls).before a A.U = true := hinit _ _ X.warmed
  have h4 : A.cells + (headSpec ws rm).room.cells ≤ R.cells := by rw [show (headSpec ws rm).room.cells = mc from hrc]; exact hp.1
  have h5 : A.slots + (headSpec ws rm).room.slots ≤ R.slots := by rw [show (headSpec ws rm).room.slots = ms from hrs]; exact hp.2.1
  have hPc : Pc a (A.U.calling g mk a) := hblind _ _ _ _ hp.2.2
  obtain ⟨U, Ls, c0, s0⟩ := A
  dsimp only [Pt.U, Pt.locs, Pt.cells, Pt.slots] at h1 h2 h3 h4 h5 X hn hPc ⊢
  obtain ⟨m9, methY, cY, hn9, hmY, hcY, -, hlY, -⟩ := Cond.codeWith_spec h2
  cases Option.some.inj (hn9.symm.trans hn)
  obtain ⟨kY, hkY, -⟩ := className_of_methodNamed hn
  have hinitY : kY.init = .initialized := Cond.initialized_spec (findClass_of_methodNamed hn) hkY h3
  have h : At U g.method c below := by rw [hg]; exact X.here
  have hlocals9 : W9 + (maxL + 11) + (headSpec ws rm).room.locals ≤ R.locals := hlocals
  have happ : (headSpec ws rm).appliesLoose y e.platform (U.calling g mk a) = true :=
    Spec.appliesLoose_calling (g := g) h hdg hn hkY hinitY
      (X.room_calling (g := g) (R' := (headSpec ws rm).room) hsize hmY hcY hframes (by rw [hlY]; omega) h4 h5) h1
  obtain ⟨mid, hmid⟩ := h.above
  have hfr : (U.setTop g).frames = (.java g :: mid) ++ below := by rw [State.frames_setTop' g h.top, hmid]; rfl
  obtain ⟨o, s₂, hsteps, -, hend, hq⟩ := Steps.callFree hM p X.admits X.cas X.clock (acts := []) hfr happ hPc trivial
  have hq' : vx_Q Qc XC mc ms free a (U.calling g mk a) o s₂ := hq
  rw [State.frames_setTop' g h.top] at hend
  obtain ⟨g₀, hg0⟩ := Option.isSome_iff_exists.mp h.top
  obtain ⟨r, hr⟩ := State.topJava?_eq_some.mp hg0
  have hr' : (({ U with heap := s₂.heap, slotsUsed := s₂.slotsUsed } : State).setVm s₂.vm).frames = .java g₀ :: r := hr
  rcases hq' with ⟨hqc, L, hfe, hL⟩ | ⟨q, rfl, E, ce, L, hx, hce, hcv, hcl, hW₂, hsm, hL⟩
  · obtain ⟨⟨v, rfl⟩, hW₂, e2, q2, q3, q4, q5, q6⟩ := id hfe
    have e3 : s₂ = ({ (U.calling g mk a).setFrames s₂.frames with heap := s₂.heap, slotsUsed := s₂.slotsUsed } : State).setVm s₂.vm := by
      have : s₂ = ({ s₂ with vm := (U.calling g mk a).vm } : State).setVm s₂.vm := rfl
      rw [e2] at this
      exact this
    obtain ⟨c₂, i₂, len₂, hc₂, hd₂, hf₂⟩ := hend
    have hW' : U.WarmedH s₂.vm := hW₂
    have hcc : c₂ = c := by
      have h1 : s₂.code? g.method = U.code? g.method := by
        rw [State.code?_eq, State.code?_eq, hW'.alike.method?]
      exact Option.some.inj (hc₂.symm.trans (h1.trans h.code))
    subst hcc
    have hlen : len₂ = len := by rw [hdg] at hd₂; cases hd₂; rfl
    subst hlen
    have hs₂ : s₂ = (({ U with heap := s₂.heap, slotsUsed := s₂.slotsUsed } : State).setVm s₂.vm).setTop { g with pc := g.pc + len₂, stack := v.toList ++ g.stack } := by
      refine e3.trans ?_
      rw [hf₂, State.calling_eq h.top, State.setFrames_setFrames, State.setTop_of_frames _ hr', hr]
      rfl
    have hsame : U.sameButNew ({ U with heap := s₂.heap, slotsUsed := s₂.slotsUsed } : State) L mc ms := by
      refine ⟨?_, q2, q3, q4, q5, q6⟩
      obtain ⟨t, ht, -⟩ := State.frames_cons hr
      show ({ U with heap := s₂.heap, slotsUsed := s₂.slotsUsed } : State) = { U.setFrames U.frames with heap := s₂.heap, slotsUsed := s₂.slotsUsed }
      rw [State.setFrames_self ht]
    subst hg
    refine Or.inl ⟨v, ⟨(({ U with heap := s₂.heap, slotsUsed := s₂.slotsUsed } : State).setVm s₂.vm), Ls ++ L, c0 + mc, s0 + ms⟩,
      ⟨X.admits, X.cas, X.clock, X.frames, X.room, X.hears, X.method, X.code, (X.here.setHeapUsed s₂.heap s₂.slotsUsed).setVm hW'.alike, X.tail, State.WarmedH.trans X.warmed hW', X.limits, X.bytes, X.same.trans (hsame.setVm s.vm)⟩,
      ⟨g, mk, s₂, L, rfl, rfl, hqc, rfl, hL, rfl, rfl⟩, ?_⟩
    show Steps p.tables e below _ ((({ U with heap := s₂.heap, slotsUsed := s₂.slotsUsed } : State).setVm s₂.vm).setTop { g with pc := g.pc + len₂, stack := v.toList ++ g.stack })
    rw [← hs₂]
    exact hsteps
  · obtain ⟨e2, q2, q3, q4, q5, q6⟩ := id hsm
    have e3 : s₂ = ({ (U.calling g mk a).setFrames s₂.frames with heap := s₂.heap, slotsUsed := s₂.slotsUsed } : State).setVm s₂.vm := by
      have : s₂ = ({ s₂ with vm := (U.calling g mk a).vm } : State).setVm s₂.vm := rfl
      rw [e2] at this
      exact this
    have hf₂ : s₂.frames = .throwing q :: .java g :: U.frames.tail := hend
    have hW' : U.WarmedH s₂.vm := hW₂
    have hs₂ : s₂ = ((({ U with heap := s₂.heap, slotsUsed := s₂.slotsUsed } : State).setVm s₂.vm).setTop g).pushFrame (.throwing q) := by
      refine e3.trans ?_
      rw [hf₂, State.calling_eq h.top, State.setFrames_setFrames, State.pushFrame, State.frames_setTop _ hr', State.setTop_of_frames _ hr', State.setFrames_setFrames, hr]
      rfl
    have hsame : U.sameButNew ({ U with heap := s₂.heap, slotsUsed := s₂.slotsUsed } : State) L mc ms := by
      refine ⟨?_, q2, q3, q4, q5, q6⟩
      obtain ⟨t, ht, -⟩ := State.frames_cons hr
      show ({ U with heap := s₂.heap, slotsUsed := s₂.slotsUsed } : State) = { U.setFrames U.frames with heap := s₂.heap, slotsUsed := s₂.slotsUsed }
      rw [State.setFrames_self ht]
    subst hg
    refine Or.inr ⟨q, ⟨(({ U with heap := s₂.heap, slotsUsed := s₂.slotsUsed } : State).setVm s₂.vm), Ls ++ L, c0 + mc, s0 + ms⟩,
      ⟨X.admits, X.cas, X.clock, X.frames, X.room, X.hears, X.method, X.code, (X.here.setHeapUsed s₂.heap s₂.slotsUsed).setVm hW'.alike, X.tail, State.WarmedH.trans X.warmed hW', X.limits, X.bytes, X.same.trans (hsame.setVm s.vm)⟩,
      ⟨g, mk, s₂, L, E, ce, rfl, rfl, hx, hce, hcv, hcl, rfl, hL, rfl, rfl⟩, ?_⟩
    show Steps p.tables e below _ (((({ U with heap := s₂.heap, slotsUsed := s₂.slotsUsed } : State).setVm s₂.vm).setTop g).pushFrame (.throwing q))
    rw [← hs₂]
    exact hsteps
end
variable {p : Program} {l : Launch} {e : Env} {R : Room} {s : State} {m : MethodId} {args : Array Value} {below : List Frame} {meth : Method} {c : Code} {T : State} {H : Heap} {locs : List Loc} {cells slots : Nat}
theorem vx_callVX (X : Stand p l e R s m args below meth c T locs cells slots) (hexec : p.tables.exec = Jvm.exec) {own C : String} {index : Nat} {y : MethodName} {bytes : ByteArray} {maxL : Nat} {ret : Option FieldType} {hh : List (Nat × Nat × Nat × Nat)}
    (hown : s.vm.findClass own = some m.cls) (hlink : (Cond.methodLink own index y).before args s = true) (hinst : (Cond.instanceMethod y).before args s = true) (hsel : (Cond.selects C y y).before args s = true)
    (hcode : (Cond.codeWith y bytes maxL ret hh).before args s = true) (hy : y.cls ≠ "java/lang/invoke/MethodHandle" ∧ y.cls ≠ "java/lang/invoke/VarHandle")
    {W9 : Nat} {Pre : Pt → Array Value → Prop} {Post : Pt → Array Value → Option Value → Pt → Prop} {PostX : Pt → Array Value → Addr → Pt → Prop} (hK : vx_Back l R p e below s args y 3 W9 Pre Post PostX)
    {b : Addr} {cellB : Cell} (hcell : T.heap[b]? = some cellB) (hobj : cellB.vm.isStatics = false) (hcls : s.vm.findClass C = some cellB.cls)
    {g : JFrame} (hg : g.method = m) (hsize : g.locals.size = c.maxLocals) {argsL rest : List Value} (hlen : ∀ sig, parseMethodDescriptor y.desc = some sig → argsL.length = sig.parameters.length)
    (hstack : g.stack = argsL.reverse ++ .ref b :: rest) (hW : 2 * g.monitorRoom + (rest.map fun v => v.category).sum ≤ W9) (hdg : decode c.code g.pc = .ok (.invokevirtual index, 3))
    (hpre : ∀ vm₁, s.WarmedH vm₁ → Pre ⟨T.setVm vm₁, locs, cells, slots⟩ (Value.ref b :: argsL).toArray) :
    (∃ (v : Option Value) (vm₁ : Vm) (B : Pt), s.WarmedH vm₁ ∧ Stand p l e R s m args below meth c B.U B.locs B.cells B.slots ∧ Post ⟨T.setVm vm₁, locs, cells, slots⟩ (Value.ref b :: argsL).toArray v B ∧
      ∀ target, Steps p.tables e below (B.U.setTop { g with pc := g.pc + 3, stack := v.toList ++ rest }) target → Steps p.tables e below (T.setTop g) target) ∨
    (∃ (q : Addr) (vm₁ : Vm) (B : Pt), s.WarmedH vm₁ ∧ Stand p l e R s m args below meth c B.U B.locs B.cells B.slots ∧ PostX ⟨T.setVm vm₁, locs, cells, slots⟩ (Value.ref b :: argsL).toArray q B ∧
      Steps p.tables e below (T.setTop g) ((B.U.setTop { g with stack := rest }).pushFrame (.throwing q))) := by
  obtain ⟨mk, methM, hnamed, hmethM, hstM, habM⟩ := Cond.instanceMethod_spec hinst
  obtain ⟨m8, methM', cM, hn8, hmethM', -, -, -, -, -, -, hsigM⟩ := Cond.codeWith_spec hcode
  cases Option.some.inj (hn8.symm.trans hnamed)
  cases hmethM.symm.trans hmethM'
  obtain ⟨c2, r2, m2, q1, q2, q3, q4, kP, hkP, hkPi⟩ := Cond.selects_spec hsel
  cases hcls.symm.trans q1
  cases (State.methodFound?_of_named hnamed hy).symm.trans q2
  cases hnamed.symm.trans q3
  have hselP : selectMethod e.platform s.vm cellB.cls mk = .method mk := by rw [Launch.admits_selectMethod X.admits]; exact q4
  obtain ⟨vm₁, X₁, hstep₁⟩ := X.invokevirtual hexec hown hlink hnamed hmethM hstM hkP hkPi hy (a := b) (cell := cellB) hcell
    (fun z h => by rw [h] at hobj; cases hobj) hselP hmethM habM hkP hkPi (g := g) hg (argsL := argsL) (rest := rest) (hlen _ hsigM) hstack hdg
  rcases hK m meth c ⟨T.setVm vm₁, locs, cells, slots⟩ { g with stack := rest } (.invokevirtual index) mk (Value.ref b :: argsL).toArray X₁ hg hsize hdg hW (X₁.named hnamed) (hpre vm₁ X₁.warmed) with ⟨v, B, X', hpost, hsteps⟩ | ⟨q, B, X', hpost, hsteps⟩
  · exact Or.inl ⟨v, vm₁, B, X₁.warmed, X', hpost, fun target h => hstep₁ _ fun acts => by rw [doInvoke_state]; exact hsteps.trans h⟩
  · exact Or.inr ⟨q, vm₁, B, X₁.warmed, X', hpost, hstep₁ _ fun acts => by rw [doInvoke_state]; exact hsteps⟩
theorem vx_callSX (X : Stand p l e R s m args below meth c T locs cells slots) (hexec : p.tables.exec = Jvm.exec) {own : String} {index : Nat} {y : MethodName} {bytes : ByteArray} {maxL : Nat} {ret : Option FieldType} {hh : List (Nat × Nat × Nat × Nat)}
    (hown : s.vm.findClass own = some m.cls) (hlink : (Cond.methodLink own index y).before args s = true) (hstat : (Cond.static y).before args s = true) (hinit : (Cond.initialized y.cls).before args s = true)
    (hcode : (Cond.codeWith y bytes maxL ret hh).before args s = true) (hy : y.cls ≠ "java/lang/invoke/MethodHandle" ∧ y.cls ≠ "java/lang/invoke/VarHandle")
    {W9 : Nat} {Pre : Pt → Array Value → Prop} {Post : Pt → Array Value → Option Value → Pt → Prop} {PostX : Pt → Array Value → Addr → Pt → Prop} (hK : vx_Back l R p e below s args y 3 W9 Pre Post PostX)
    {g : JFrame} (hg : g.method = m) (hsize : g.locals.size = c.maxLocals) {argsL rest : List Value} (hlen : ∀ sig, parseMethodDescriptor y.desc = some sig → argsL.length = sig.parameters.length)
    (hstack : g.stack = argsL.reverse ++ rest) (hW : 2 * g.monitorRoom + (rest.map fun v => v.category).sum ≤ W9) (hdg : decode c.code g.pc = .ok (.invokestatic index, 3))
    (hpre : ∀ vm₁, s.WarmedH vm₁ → Pre ⟨T.setVm vm₁, locs, cells, slots⟩ argsL.toArray) :
    (∃ (v : Option Value) (vm₁ : Vm) (B : Pt), s.WarmedH vm₁ ∧ Stand p l e R s m args below meth c B.U B.locs B.cells B.slots ∧ Post ⟨T.setVm vm₁, locs, cells, slots⟩ argsL.toArray v B ∧
      ∀ target, Steps p.tables e below (B.U.setTop { g with pc := g.pc + 3, stack := v.toList ++ rest }) target → Steps p.tables e below (T.setTop g) target) ∨
    (∃ (q : Addr) (vm₁ : Vm) (B : Pt), s.WarmedH vm₁ ∧ Stand p l e R s m args below meth c B.U B.locs B.cells B.slots ∧ PostX ⟨T.setVm vm₁, locs, cells, slots⟩ argsL.toArray q B ∧
      Steps p.tables e below (T.setTop g) ((B.U.setTop { g with stack := rest }).pushFrame (.throwing q))) := by
  obtain ⟨mk, methM, cM, hnamed, hmethM, -, -, -, -, -, -, hsigM⟩ := Cond.codeWith_spec hcode
  have hstatic : methM.isStatic = true := Cond.static_spec hnamed hmethM hstat
  obtain ⟨kP, hkP, -⟩ := className_of_methodNamed hnamed
  have hinitP : kP.init = .initialized := Cond.initialized_spec (findClass_of_methodNamed hnamed) hkP hinit
  obtain ⟨vm₁, X₁, hstep₁⟩ := X.invokestatic hexec hown hlink hnamed hmethM hstatic hkP hinitP hy (g := g) hg (argsL := argsL) (rest := rest) (hlen _ hsigM) hstack hdg
  rcases hK m meth c ⟨T.setVm vm₁, locs, cells, slots⟩ { g with stack := rest } (.invokestatic index) mk argsL.toArray X₁ hg hsize hdg hW (X₁.named hnamed) (hpre vm₁ X₁.warmed) with ⟨v, B, X', hpost, hsteps⟩ | ⟨q, B, X', hpost, hsteps⟩
  · exact Or.inl ⟨v, vm₁, B, X₁.warmed, X', hpost, fun target h => hstep₁ _ fun acts => by rw [doInvoke_state]; exact hsteps.trans h⟩
  · exact Or.inr ⟨q, vm₁, B, X₁.warmed, X', hpost, hstep₁ _ fun acts => by rw [doInvoke_state]; exact hsteps⟩
theorem vx_callVW (X : Stand p l e R s m args below meth c T locs cells slots) (hexec : p.tables.exec = Jvm.exec) {own C : String} {index : Nat} {y : MethodName} {bytes : ByteArray} {maxL : Nat} {ret : Option FieldType} {hh : List (Nat × Nat × Nat × Nat)}
    (hown : s.vm.findClass own = some m.cls) (hlink : (Cond.methodLink own index y).before args s = true) (hinst : (Cond.instanceMethod y).before args s = true) (hsel : (Cond.selects C y y).before args s = true)
    (hcode : (Cond.codeWith y bytes maxL ret hh).before args s = true) (hy : y.cls ≠ "java/lang/invoke/MethodHandle" ∧ y.cls ≠ "java/lang/invoke/VarHandle")
    {W9 : Nat} {Pre : Pt → Array Value → Prop} {Post : Pt → Array Value → Option Value → Pt → Prop} (hK : Back l R p e below s args y 3 W9 Pre Post)
    {b : Addr} {cellB : Cell} (hcell : T.heap[b]? = some cellB) (hobj : cellB.vm.isStatics = false) (hcls : s.vm.findClass C = some cellB.cls)
    {g : JFrame} (hg : g.method = m) (hsize : g.locals.size = c.maxLocals) {argsL rest : List Value} (hlen : ∀ sig, parseMethodDescriptor y.desc = some sig → argsL.length = sig.parameters.length)
    (hstack : g.stack = argsL.reverse ++ .ref b :: rest) (hW : 2 * g.monitorRoom + (rest.map fun v => v.category).sum ≤ W9) (hdg : decode c.code g.pc = .ok (.invokevirtual index, 3))
    (hpre : ∀ vm₁, s.WarmedH vm₁ → Pre ⟨T.setVm vm₁, locs, cells, slots⟩ (Value.ref b :: argsL).toArray) :
    ∃ (v : Option Value) (vm₁ : Vm) (B : Pt), s.WarmedH vm₁ ∧ Stand p l e R s m args below meth c B.U B.locs B.cells B.slots ∧ Post ⟨T.setVm vm₁, locs, cells, slots⟩ (Value.ref b :: argsL).toArray v B ∧
      ∀ target, Steps p.tables e below (B.U.setTop { g with pc := g.pc + 3, stack := v.toList ++ rest }) target → Steps p.tables e below (T.setTop g) target := by
  obtain ⟨mk, methM, hnamed, hmethM, hstM, habM⟩ := Cond.instanceMethod_spec hinst
  obtain ⟨m8, methM', cM, hn8, hmethM', -, -, -, -, -, -, hsigM⟩ := Cond.codeWith_spec hcode
  cases Option.some.inj (hn8.symm.trans hnamed)
  cases hmethM.symm.trans hmethM'
  obtain ⟨c2, r2, m2, q1, q2, q3, q4, kP, hkP, hkPi⟩ := Cond.selects_spec hsel
  cases hcls.symm.trans q1
  cases (State.methodFound?_of_named hnamed hy).symm.trans q2
  cases hnamed.symm.trans q3
  have hselP : selectMethod e.platform s.vm cellB.cls mk = .method mk := by rw [Launch.admits_selectMethod X.admits]; exact q4
  obtain ⟨vm₁, X₁, hstep₁⟩ := X.invokevirtual hexec hown hlink hnamed hmethM hstM hkP hkPi hy (a := b) (cell := cellB) hcell
    (fun z h => by rw [h] at hobj; cases hobj) hselP hmethM habM hkP hkPi (g := g) hg (argsL := argsL) (rest := rest) (hlen _ hsigM) hstack hdg
  obtain ⟨v, B, X', hpost, hsteps⟩ := hK m meth c ⟨T.setVm vm₁, locs, cells, slots⟩ { g with stack := rest } (.invokevirtual index) mk (Value.ref b :: argsL).toArray X₁ hg hsize hdg hW (X₁.named hnamed) (hpre vm₁ X₁.warmed)
  exact ⟨v, vm₁, B, X₁.warmed, X', hpost, fun target h => hstep₁ _ fun acts => by rw [doInvoke_state]; exact hsteps.trans h⟩
abbrev vx_CVW (R : Room) (s : State) (args : Array Value) (own C : String) (index : Nat) (y : MethodName) (bytes : ByteArray) (maxL : Nat) (ret : Option FieldType) (hh : List (Nat × Nat × Nat × Nat)) (ws : List Cond) (rm : Room) (mc ms n : Nat) : Prop :=
  (rm.cells = mc ∧ rm.slots = ms ∧ rm.frames + 1 ≤ R.frames ∧ 8 + (maxL + 11) + rm.locals ≤ R.locals ∧ (∀ w ∈ ws, ∀ (a' : Array Value) (U : State), s.WarmedH U.vm → w.before a' U = true) ∧ Cond.codeWith y bytes maxL ret hh ∈ ws) ∧
  (Cond.codeWith y bytes maxL ret hh).before args s = true ∧ (Cond.initialized y.cls).before args s = true ∧ (y.cls ≠ "java/lang/invoke/MethodHandle" ∧ y.cls ≠ "java/lang/invoke/VarHandle") ∧
  (∀ sig, parseMethodDescriptor y.desc = some sig → n = sig.parameters.length) ∧ (Cond.methodLink own index y).before args s = true ∧ (Cond.instanceMethod y).before args s = true ∧ (Cond.selects C y y).before args s = true
theorem vx_cwVW {own C : String} {index maxL mc ms : Nat} {y : MethodName} {bytes : ByteArray} {ret : Option FieldType} {hh : List (Nat × Nat × Nat × Nat)} {Ts ws ws' : List Cond} {rm : Room} (n : Nat) (ht : ∀ w ∈ Ts, w.before args s = true) (hT : GoodIn Ts (wsV own index C y ws)) (hw : ws = Cond.codeWith y bytes maxL ret hh :: ws') (hrc : rm.cells = mc) (hrs : rm.slots = ms)
    (hd : y.cls = C ∧ y.cls ≠ "java/lang/invoke/MethodHandle" ∧ y.cls ≠ "java/lang/invoke/VarHandle" ∧ (parseMethodDescriptor y.desc).map (fun d => d.parameters.length) = some n) (hR : rm.frames + 1 ≤ R.frames ∧ 8 + (maxL + 11) + rm.locals ≤ R.locals) :
    vx_CVW R s args own C index y bytes maxL ret hh ws rm mc ms n := by
  obtain ⟨hC, hd⟩ := hd
  subst hC
  have ok : ∀ w ∈ wsV own index y.cls y ws, w.before args s = true := fun w h => ht w (hT w h).1
  have hG : GoodIn Ts ws := fun w h => hT w (by unfold wsV; exact List.mem_append_right _ h)
  have hc : Cond.codeWith y bytes maxL ret hh ∈ ws := by rw [hw]; exact List.mem_cons_self
  refine ⟨⟨hrc, hrs, hR.1, hR.2, pay_in ht hG, hc⟩, ht _ (hG _ hc).1, ok _ (by simp [wsV]), ⟨hd.1, hd.2.1⟩, fun sig h => ?_, ok _ (by simp [wsV]), ok _ (by simp [wsV]), ok _ (by simp [wsV])⟩
  have h2 := hd.2.2
  rw [h] at h2
  exact (Option.some.inj h2).symm
theorem vx_runVW {y : MethodName} {bytes cc : ByteArray} {maxL nL mc ms n index : Nat} {ret : Option FieldType} {hh : List (Nat × Nat × Nat × Nat)} {ws : List Cond} {rm : Room} {Pc : Array Value → State → Prop} {Qc : Array Value → State → Outcome → State → Prop} {free : Addr → Prop} {Ts : List Cond} {own C : String} {b : Addr} {As rest : List Value} {g : JFrame}
    (S : CallFix p m c cc nL s args Ts own) (hM : Met l y ws rm Pc Qc mc ms free) (cw : vx_CVW R s args own C index y bytes maxL ret hh ws rm mc ms n) (hp : PreV s H C b Pc As)
    (hg : g.method = m) (hn : As.length = n) (hsize : g.locals.size = nL) (hstack : g.stack = As.reverse ++ .ref b :: rest) (hW : 2 * g.monitorRoom + (rest.map fun v => v.category).sum ≤ 8) (hdg : decode cc g.pc = .ok (.invokevirtual index, 3)) (hf : cells + mc ≤ R.cells ∧ slots + ms ≤ R.slots) :
    va_Run p l e R s m args below meth c H locs cells slots mc ms g rest (Qc (Value.ref b :: As).toArray) free := by
  obtain ⟨⟨hrc, hrs, hfr, hlo, hws, hcw⟩, hcode, hini, hy, hlen, hl, hin, hse⟩ := cw
  have hK : Back l R p e below s args y 3 8 (PreOf R mc ms Pc) (PostOf Qc mc ms free) := va_backW (hh := hh) (bytes := bytes) (maxL := maxL) (ret := ret) hM hp.1 hrc hrs hfr hlo hws hcw (fun a' U hW => word_at hW (Or.inl (by first | rfl | simp [Cond.onTables, Cond.keeps, Cond.steady])) hini)
  obtain ⟨hx, hb, hml, ho, -⟩ := S
  obtain ⟨-, ⟨cellB, hcB, hoB, hclB⟩, hPc⟩ := hp
  intro T hT X
  obtain ⟨v, vm₁, ⟨U', l2, c2, s2⟩, hW₁, X', ⟨g', mk, t, L, e1, e2, hq, h1, hL, h2, h3⟩, st⟩ := vx_callVW X hx (C := C) (hh := hh) (bytes := bytes) (maxL := maxL) (ret := ret) ho hl hin hse hcode hy hK (by rw [hT]; exact hcB) hoB hclB hg (hsize.trans hml.symm) (argsL := As) (rest := rest) (fun sig h => hn.trans (hlen sig h)) hstack hW (by rw [hb]; exact hdg)
    (fun vm₁ hW₁ => ⟨hf.1, hf.2, hPc (T.setVm vm₁) hT hW₁⟩)
  dsimp only [Pt.U, Pt.locs, Pt.cells, Pt.slots] at X' e1 e2 h1 h2 h3 st
  subst h1; subst h2; subst h3
  exact ⟨v, (T.setVm vm₁).calling g' mk (Value.ref b :: As).toArray, t, U', L, hT, X', hL, e1, e2, hq, st⟩
section
variable {y : MethodName} {bytes cc : ByteArray} {maxL nL mc ms n index : Nat} {ret : Option FieldType} {ws : List Cond} {rm : Room} {Pc : Array Value → State → Prop} {Qc : Array Value → State → Outcome → State → Prop} {XC : String → State → State → Prop} {free : Addr → Prop} {Ts : List Cond} {own C : String} {b : Addr} {As rest : List Value} {g : JFrame}
theorem vx_runVX {hh : List (Nat × Nat × Nat × Nat)} (S : CallFix p m c cc nL s args Ts own) (hM : vx_Met l y ws rm Pc Qc XC mc ms free) (cw : vx_CVW R s args own C index y bytes maxL ret hh ws rm mc ms n) (hp : PreV s H C b Pc As)
    (hg : g.method = m) (hn : As.length = n) (hsize : g.locals.size = nL) (hstack : g.stack = As.reverse ++ .ref b :: rest) (hW : 2 * g.monitorRoom + (rest.map fun v => v.category).sum ≤ 8) (hdg : decode cc g.pc = .ok (.invokevirtual index, 3)) (hf : cells + mc ≤ R.cells ∧ slots + ms ≤ R.slots) :
    vx_Run p l e R s m args below meth c H locs cells slots mc ms g rest (Qc (Value.ref b :: As).toArray) XC free := by
  obtain ⟨⟨hrc, hrs, hfr, hlo, hws, hcw⟩, hcode, hini, hy, hlen, hl, hin, hse⟩ := cw
  have hK : vx_Back l R p e below s args y 3 8 (PreOf R mc ms Pc) (PostOf Qc mc ms free) (vx_Post XC mc ms free) := vx_backW (hh := hh) (bytes := bytes) (maxL := maxL) (ret := ret) hM hp.1 hrc hrs hfr hlo hws hcw (fun a' U hW => word_at hW (Or.inl (by first | rfl | simp [Cond.onTables, Cond.keeps, Cond.steady])) hini)
  obtain ⟨hx, hb, hml, ho, -⟩ := S
  obtain ⟨-, ⟨cellB, hcB, hoB, hclB⟩, hPc⟩ := hp
  intro T hT X
  rcases vx_callVX X hx (C := C) (hh := hh) (bytes := bytes) (maxL := maxL) (ret := ret) ho hl hin hse hcode hy hK (by rw [hT]; exact hcB) hoB hclB hg (hsize.trans hml.symm) (argsL := As) (rest := rest) (fun sig h => hn.trans (hlen sig h)) hstack hW (by rw [hb]; exact hdg)
    (fun vm₁ hW₁ => ⟨hf.1, hf.2, hPc (T.setVm vm₁) hT hW₁⟩) with ⟨v, vm₁, ⟨U', l2, c2, s2⟩, hW₁, X', ⟨g', mk, t, L, e1, e2, hq, h1, hL, h2, h3⟩, st⟩ | ⟨q, vm₁, ⟨U', l2, c2, s2⟩, hW₁, X', ⟨g', mk, t, L, E, ce, e1, e2, hq, hce, hcv, hcl, h1, hL, h2, h3⟩, st⟩
  · dsimp only [Pt.U, Pt.locs, Pt.cells, Pt.slots] at X' e1 e2 h1 h2 h3 st
    subst h1; subst h2; subst h3
    exact Or.inl ⟨v, (T.setVm vm₁).calling g' mk (Value.ref b :: As).toArray, t, U', L, hT, X', hL, e1, e2, hq, st⟩
  · dsimp only [Pt.U, Pt.locs, Pt.cells, Pt.slots] at X' e1 e2 h1 h2 h3 st hcl
    subst h1; subst h2; subst h3
    exact Or.inr ⟨q, (T.setVm vm₁).calling g' mk (Value.ref b :: As).toArray, t, U', L, E, ce, hT, X', hL, e1, e2, hq, hce, hcv, vx_cls hW₁ hcl, st⟩
theorem vx_runSX {hh : List (Nat × Nat × Nat × Nat)} (S : CallFix p m c cc nL s args Ts own) (hM : vx_Met l y ws rm Pc Qc XC mc ms free) (cw : vx_CSW R s args own index y bytes maxL ret hh ws rm mc ms n) (hp : PreS s H Pc As)
    (hg : g.method = m) (hn : As.length = n) (hsize : g.locals.size = nL) (hstack : g.stack = As.reverse ++ rest) (hW : 2 * g.monitorRoom + (rest.map fun v => v.category).sum ≤ 8) (hdg : decode cc g.pc = .ok (.invokestatic index, 3)) (hf : cells + mc ≤ R.cells ∧ slots + ms ≤ R.slots) :
    vx_Run p l e R s m args below meth c H locs cells slots mc ms g rest (Qc As.toArray) XC free := by
  obtain ⟨⟨hrc, hrs, hfr, hlo, hws, hcw⟩, hcode, hini, hy, hlen, hl, hstt⟩ := cw
  have hK : vx_Back l R p e below s args y 3 8 (PreOf R mc ms Pc) (PostOf Qc mc ms free) (vx_Post XC mc ms free) := vx_backW (hh := hh) (bytes := bytes) (maxL := maxL) (ret := ret) hM hp.1 hrc hrs hfr hlo hws hcw (fun a' U hW => word_at hW (Or.inl (by first | rfl | simp [Cond.onTables, Cond.keeps, Cond.steady])) hini)
  obtain ⟨hx, hb, hml, ho, -⟩ := S
  intro T hT X
  rcases vx_callSX X hx (hh := hh) (bytes := bytes) (maxL := maxL) (ret := ret) ho hl hstt hini hcode hy hK hg (hsize.trans hml.symm) (argsL := As) (rest := rest) (fun sig h => hn.trans (hlen sig h)) hstack hW (by rw [hb]; exact hdg)
    (fun vm₁ hW₁ => ⟨hf.1, hf.2, hp.2 (T.setVm vm₁) hT hW₁⟩) with ⟨v, vm₁, ⟨U', l2, c2, s2⟩, hW₁, X', ⟨g', mk, t, L, e1, e2, hq, h1, hL, h2, h3⟩, st⟩ | ⟨q, vm₁, ⟨U', l2, c2, s2⟩, hW₁, X', ⟨g', mk, t, L, E, ce, e1, e2, hq, hce, hcv, hcl, h1, hL, h2, h3⟩, st⟩
  · dsimp only [Pt.U, Pt.locs, Pt.cells, Pt.slots] at X' e1 e2 h1 h2 h3 st
    subst h1; subst h2; subst h3
    exact Or.inl ⟨v, (T.setVm vm₁).calling g' mk As.toArray, t, U', L, hT, X', hL, e1, e2, hq, st⟩
  · dsimp only [Pt.U, Pt.locs, Pt.cells, Pt.slots] at X' e1 e2 h1 h2 h3 st hcl
    subst h1; subst h2; subst h3
    exact Or.inr ⟨q, (T.setVm vm₁).calling g' mk As.toArray, t, U', L, E, ce, hT, X', hL, e1, e2, hq, hce, hcv, vx_cls hW₁ hcl, st⟩
end
end VXH
theorem vx_ofWH {l : Launch} {y : MethodName} {ws ws' : List Cond} {rm : Room} {Pc : Array Value → State → Prop} {Qc : Array Value → State → Outcome → State → Prop} {XC : String → State → State → Prop} {mc ms : Nat} {free : Addr → Prop} {cc : ByteArray} {maxL : Nat} {ret : Option FieldType} {hh : List (Nat × Nat × Nat × Nat)}
    (hy : plainName y.cls = true) (hw : ws = Cond.codeWith y cc maxL ret hh :: ws')
    (body : ∀ p e s m args below meth c s₁, BodyLoose p l y (headSpec ws rm) cc maxL ret e s m args below meth c s₁ → c.maxLocals = maxL → Pc args s →
      W p l e (headSpec ws rm).room s m args below meth c s.heap [] 0 0 (vx_MQ below Qc XC args s mc ms free) (entryFrame m args maxL)) : vx_Met l y ws rm Pc Qc XC mc ms free := by
  refine MetFree.of_bodyS (code := cc) (maxLocals := maxL) (ret := ret) hy ?_ ?_
  · intro args s m h hn
    obtain ⟨m9, meth, c, hn9, h1, h2, h3, h4, -, h5, h6, -⟩ := Cond.codeWith_spec (atoms_spec (ws := ws) h _ (by rw [hw]; exact List.mem_cons_self))
    cases hn.symm.trans hn9
    exact ⟨meth, c, h1, h2, h3, h4, h5, h6⟩
  · intro p e s m args below meth c s₁ B hml hP _
    have hh0 : s₁.heap = s.heap := by rw [B.state]; rfl
    obtain ⟨t, a1, o, b1, b2, b3⟩ := body p e s m args below meth c s₁ B hml hP s₁ hh0 (Stand.of_body B)
    exact ⟨t, o, a1, b1, b2, b3⟩
/-! ===== END ===== -/

def RX0 : String := "CometObservatory$Comet"
def TX0 : u_T := fun k => match k with
  | 0 => ("CometObservatory$Comet", "id", "I", false)
  | 1 => ("CometObservatory$Comet", "period", "I", false)
  | 2 => ("CometObservatory$Comet", "brightness", "I", false)
  | 3 => ("CometObservatory$Comet", "nextDay", "I", false)
  | _ => ("CometObservatory$Comet", "passes", "I", false)
def tyX0 : Nat → FieldType := fun k => match k with
  | 0 => .int
  | 1 => .int
  | 2 => .int
  | 3 => .int
  | _ => .int
theorem nmX0 : ∀ a, a < 5 → ∀ b, b < 5 → a ≠ b → (TX0 a).2.1 ≠ (TX0 b).2.1 := by decide +kernel
theorem tyX0_ok : ∀ k, k < 5 → parseFieldDescriptor (TX0 k).2.2.1 = some (tyX0 k) := by decide +kernel
abbrev cX0_init : ByteArray := prog_2_method_1_code
def yX0_init : MethodName := ⟨RX0, "<init>", "()V"⟩
abbrev cX0_copyFrom : ByteArray := prog_2_method_2_code
def yX0_copyFrom : MethodName := ⟨RX0, "copyFrom", "(LCometObservatory$Comet;)V"⟩
abbrev cX0_canTake : ByteArray := prog_2_method_3_code
def yX0_canTake : MethodName := ⟨RX0, "canTake", "(I)Z"⟩
abbrev cX0_passesUpTo : ByteArray := prog_2_method_4_code
def yX0_passesUpTo : MethodName := ⟨RX0, "passesUpTo", "(I)I"⟩
abbrev cX0_ranksBefore : ByteArray := prog_2_method_5_code
def yX0_ranksBefore : MethodName := ⟨RX0, "ranksBefore", "(LCometObservatory$Comet;)Z"⟩
def RX1 : String := "CometObservatory$History"
def TX1 : u_T := fun k => match k with
  | 0 => ("CometObservatory$History", "states", "[LCometObservatory$Sky;", true)
  | 1 => ("CometObservatory$History", "oldest", "I", false)
  | _ => ("CometObservatory$History", "size", "I", false)
def tyX1 : Nat → FieldType := fun k => match k with
  | 0 => .array (.object "CometObservatory$Sky")
  | 1 => .int
  | _ => .int
theorem nmX1 : ∀ a, a < 3 → ∀ b, b < 3 → a ≠ b → (TX1 a).2.1 ≠ (TX1 b).2.1 := by decide +kernel
theorem tyX1_ok : ∀ k, k < 3 → parseFieldDescriptor (TX1 k).2.2.1 = some (tyX1 k) := by decide +kernel
abbrev cX1_init : ByteArray := prog_3_method_1_code
def yX1_init : MethodName := ⟨RX1, "<init>", "()V"⟩
abbrev cX1_push : ByteArray := prog_3_method_2_code
def yX1_push : MethodName := ⟨RX1, "push", "(LCometObservatory$Sky;)V"⟩
abbrev cX1_popInto : ByteArray := prog_3_method_3_code
def yX1_popInto : MethodName := ⟨RX1, "popInto", "(LCometObservatory$Sky;)V"⟩
def RX2 : String := "CometObservatory$Meetings"
def TX2 : u_T := fun k => match k with
  | _ => ("", "", "", false)
def tyX2 : Nat → FieldType := fun k => match k with
  | _ => .int
theorem nmX2 : ∀ a, a < 0 → ∀ b, b < 0 → a ≠ b → (TX2 a).2.1 ≠ (TX2 b).2.1 := by decide +kernel
theorem tyX2_ok : ∀ k, k < 0 → parseFieldDescriptor (TX2 k).2.2.1 = some (tyX2 k) := by decide +kernel
abbrev cX2_byWalking : ByteArray := prog_4_method_2_code
def yX2_byWalking : MethodName := ⟨RX2, "byWalking", "(LCometObservatory$Comet;LCometObservatory$Comet;)I"⟩
abbrev cX2_byEuclid : ByteArray := prog_4_method_3_code
def yX2_byEuclid : MethodName := ⟨RX2, "byEuclid", "(LCometObservatory$Comet;LCometObservatory$Comet;)I"⟩
abbrev cX2_notBefore : ByteArray := prog_4_method_4_code
def yX2_notBefore : MethodName := ⟨RX2, "notBefore", "(III)I"⟩
abbrev cX2_factorOfDivisor : ByteArray := prog_4_method_5_code
def yX2_factorOfDivisor : MethodName := ⟨RX2, "factorOfDivisor", "(II)I"⟩
abbrev cX2_commonDivisor : ByteArray := prog_4_method_6_code
def yX2_commonDivisor : MethodName := ⟨RX2, "commonDivisor", "(JJ)J"⟩
abbrev cX2_commonMultiple : ByteArray := prog_4_method_7_code
def yX2_commonMultiple : MethodName := ⟨RX2, "commonMultiple", "(JJ)J"⟩
def RX3 : String := "CometObservatory$Program"
def TX3 : u_T := fun k => match k with
  | 0 => ("CometObservatory$Program", "text", "[C", true)
  | 1 => ("CometObservatory$Program", "kinds", "[I", true)
  | 2 => ("CometObservatory$Program", "numbers", "[[I", true)
  | 3 => ("CometObservatory$Program", "length", "I", false)
  | 4 => ("CometObservatory$Program", "position", "I", false)
  | _ => ("CometObservatory$Program", "count", "I", false)
def tyX3 : Nat → FieldType := fun k => match k with
  | 0 => .array .char
  | 1 => .array .int
  | 2 => .array (.array .int)
  | 3 => .int
  | 4 => .int
  | _ => .int
theorem nmX3 : ∀ a, a < 6 → ∀ b, b < 6 → a ≠ b → (TX3 a).2.1 ≠ (TX3 b).2.1 := by decide +kernel
theorem tyX3_ok : ∀ k, k < 6 → parseFieldDescriptor (TX3 k).2.2.1 = some (tyX3 k) := by decide +kernel
abbrev cX3_init : ByteArray := prog_5_method_1_code
def yX3_init : MethodName := ⟨RX3, "<init>", "()V"⟩
abbrev cX3_isFull : ByteArray := prog_5_method_2_code
def yX3_isFull : MethodName := ⟨RX3, "isFull", "()Z"⟩
abbrev cX3_add : ByteArray := prog_5_method_3_code
def yX3_add : MethodName := ⟨RX3, "add", "(C)V"⟩
abbrev cX3_parse : ByteArray := prog_5_method_4_code
def yX3_parse : MethodName := ⟨RX3, "parse", "()Z"⟩
abbrev cX3_readCommand : ByteArray := prog_5_method_5_code
def yX3_readCommand : MethodName := ⟨RX3, "readCommand", "()Z"⟩
abbrev cX3_readWord : ByteArray := prog_5_method_6_code
def yX3_readWord : MethodName := ⟨RX3, "readWord", "()I"⟩
abbrev cX3_matchedSigns : ByteArray := prog_5_method_7_code
def yX3_matchedSigns : MethodName := ⟨RX3, "matchedSigns", "(Ljava/lang/String;)I"⟩
abbrev cX3_readSign : ByteArray := prog_5_method_8_code
def yX3_readSign : MethodName := ⟨RX3, "readSign", "(C)Z"⟩
abbrev cX3_readNumber : ByteArray := prog_5_method_9_code
def yX3_readNumber : MethodName := ⟨RX3, "readNumber", "(I)I"⟩
abbrev cX3_isAtDigit : ByteArray := prog_5_method_10_code
def yX3_isAtDigit : MethodName := ⟨RX3, "isAtDigit", "()Z"⟩
abbrev cX3_wordOf : ByteArray := prog_5_method_11_code
def yX3_wordOf : MethodName := ⟨RX3, "wordOf", "(I)Ljava/lang/String;"⟩
abbrev cX3_numbersOf : ByteArray := prog_5_method_12_code
def yX3_numbersOf : MethodName := ⟨RX3, "numbersOf", "(I)I"⟩
abbrev cX3_digitsOf : ByteArray := prog_5_method_13_code
def yX3_digitsOf : MethodName := ⟨RX3, "digitsOf", "(I)I"⟩
def RX4 : String := "CometObservatory$Ring"
def TX4 : u_T := fun k => match k with
  | 0 => ("CometObservatory$Ring", "dust", "[I", true)
  | 1 => ("CometObservatory$Ring", "fallen", "I", false)
  | 2 => ("CometObservatory$Ring", "removed", "I", false)
  | 3 => ("CometObservatory$Ring", "gainOfBestArc", "I", false)
  | 4 => ("CometObservatory$Ring", "startOfBestArc", "I", false)
  | _ => ("CometObservatory$Ring", "lengthOfBestArc", "I", false)
def tyX4 : Nat → FieldType := fun k => match k with
  | 0 => .array .int
  | 1 => .int
  | 2 => .int
  | 3 => .int
  | 4 => .int
  | _ => .int
theorem nmX4 : ∀ a, a < 6 → ∀ b, b < 6 → a ≠ b → (TX4 a).2.1 ≠ (TX4 b).2.1 := by decide +kernel
theorem tyX4_ok : ∀ k, k < 6 → parseFieldDescriptor (TX4 k).2.2.1 = some (tyX4 k) := by decide +kernel
abbrev cX4_init : ByteArray := prog_6_method_1_code
def yX4_init : MethodName := ⟨RX4, "<init>", "()V"⟩
abbrev cX4_copyFrom : ByteArray := prog_6_method_2_code
def yX4_copyFrom : MethodName := ⟨RX4, "copyFrom", "(LCometObservatory$Ring;)V"⟩
abbrev cX4_receive : ByteArray := prog_6_method_3_code
def yX4_receive : MethodName := ⟨RX4, "receive", "(II)V"⟩
abbrev cX4_dustOf : ByteArray := prog_6_method_4_code
def yX4_dustOf : MethodName := ⟨RX4, "dustOf", "(II)I"⟩
abbrev cX4_gainOf : ByteArray := prog_6_method_5_code
def yX4_gainOf : MethodName := ⟨RX4, "gainOf", "(III)I"⟩
abbrev cX4_empty : ByteArray := prog_6_method_6_code
def yX4_empty : MethodName := ⟨RX4, "empty", "(II)I"⟩
abbrev cX4_dustyPlaces : ByteArray := prog_6_method_7_code
def yX4_dustyPlaces : MethodName := ⟨RX4, "dustyPlaces", "()I"⟩
abbrev cX4_greatestGainByRunningSums : ByteArray := prog_6_method_8_code
def yX4_greatestGainByRunningSums : MethodName := ⟨RX4, "greatestGainByRunningSums", "(I)I"⟩
abbrev cX4_seekBestArc : ByteArray := prog_6_method_9_code
def yX4_seekBestArc : MethodName := ⟨RX4, "seekBestArc", "(I)V"⟩
def RX5 : String := "CometObservatory$Sky"
def TX5 : u_T := fun k => match k with
  | 0 => ("CometObservatory$Sky", "comets", "[LCometObservatory$Comet;", true)
  | 1 => ("CometObservatory$Sky", "ring", "LCometObservatory$Ring;", true)
  | 2 => ("CometObservatory$Sky", "count", "I", false)
  | 3 => ("CometObservatory$Sky", "nextId", "I", false)
  | 4 => ("CometObservatory$Sky", "day", "I", false)
  | 5 => ("CometObservatory$Sky", "coins", "I", false)
  | 6 => ("CometObservatory$Sky", "rate", "I", false)
  | 7 => ("CometObservatory$Sky", "allPasses", "I", false)
  | _ => ("CometObservatory$Sky", "burnt", "I", false)
def tyX5 : Nat → FieldType := fun k => match k with
  | 0 => .array (.object "CometObservatory$Comet")
  | 1 => .object "CometObservatory$Ring"
  | 2 => .int
  | 3 => .int
  | 4 => .int
  | 5 => .int
  | 6 => .int
  | 7 => .int
  | _ => .int
theorem nmX5 : ∀ a, a < 9 → ∀ b, b < 9 → a ≠ b → (TX5 a).2.1 ≠ (TX5 b).2.1 := by decide +kernel
theorem tyX5_ok : ∀ k, k < 9 → parseFieldDescriptor (TX5 k).2.2.1 = some (tyX5 k) := by decide +kernel
abbrev cX5_init : ByteArray := prog_7_method_1_code
def yX5_init : MethodName := ⟨RX5, "<init>", "()V"⟩
abbrev cX5_copyFrom : ByteArray := prog_7_method_2_code
def yX5_copyFrom : MethodName := ⟨RX5, "copyFrom", "(LCometObservatory$Sky;)V"⟩
abbrev cX5_hasRoom : ByteArray := prog_7_method_3_code
def yX5_hasRoom : MethodName := ⟨RX5, "hasRoom", "()Z"⟩
abbrev cX5_add : ByteArray := prog_7_method_4_code
def yX5_add : MethodName := ⟨RX5, "add", "(III)I"⟩
abbrev cX5_slotOf : ByteArray := prog_7_method_5_code
def yX5_slotOf : MethodName := ⟨RX5, "slotOf", "(I)I"⟩
abbrev cX5_find : ByteArray := prog_7_method_6_code
def yX5_find : MethodName := ⟨RX5, "find", "(I)LCometObservatory$Comet;"⟩
abbrev cX5_sell : ByteArray := prog_7_method_7_code
def yX5_sell : MethodName := ⟨RX5, "sell", "(I)Z"⟩
abbrev cX5_takeOut : ByteArray := prog_7_method_8_code
def yX5_takeOut : MethodName := ⟨RX5, "takeOut", "(I)V"⟩
abbrev cX5_canBuy : ByteArray := prog_7_method_9_code
def yX5_canBuy : MethodName := ⟨RX5, "canBuy", "(I)Z"⟩
abbrev cX5_buy : ByteArray := prog_7_method_10_code
def yX5_buy : MethodName := ⟨RX5, "buy", "(LCometObservatory$Comet;I)V"⟩
abbrev cX5_canSweep : ByteArray := prog_7_method_11_code
def yX5_canSweep : MethodName := ⟨RX5, "canSweep", "(II)Z"⟩
abbrev cX5_sweep : ByteArray := prog_7_method_12_code
def yX5_sweep : MethodName := ⟨RX5, "sweep", "(II)I"⟩
abbrev cX5_letPass : ByteArray := prog_7_method_13_code
def yX5_letPass : MethodName := ⟨RX5, "letPass", "(I)I"⟩
abbrev cX5_letOneDayPass : ByteArray := prog_7_method_14_code
def yX5_letOneDayPass : MethodName := ⟨RX5, "letOneDayPass", "()V"⟩
abbrev cX5_letCometPass : ByteArray := prog_7_method_15_code
def yX5_letCometPass : MethodName := ⟨RX5, "letCometPass", "(LCometObservatory$Comet;)V"⟩
abbrev cX5_takeOutBurntComets : ByteArray := prog_7_method_16_code
def yX5_takeOutBurntComets : MethodName := ⟨RX5, "takeOutBurntComets", "()V"⟩
abbrev cX5_passesAhead : ByteArray := prog_7_method_17_code
def yX5_passesAhead : MethodName := ⟨RX5, "passesAhead", "(I)I"⟩
abbrev cX5_idAtRank : ByteArray := prog_7_method_18_code
def yX5_idAtRank : MethodName := ⟨RX5, "idAtRank", "(I)I"⟩
abbrev cX5_rankOf : ByteArray := prog_7_method_19_code
def yX5_rankOf : MethodName := ⟨RX5, "rankOf", "(LCometObservatory$Comet;)I"⟩
abbrev cX5_allPassesAreAhead : ByteArray := prog_7_method_20_code
def yX5_allPassesAreAhead : MethodName := ⟨RX5, "allPassesAreAhead", "()Z"⟩
def RX6 : String := "CometObservatory$Telescope"
def TX6 : u_T := fun k => match k with
  | 0 => ("CometObservatory$Telescope", "firstDays", "[I", true)
  | 1 => ("CometObservatory$Telescope", "lastDays", "[I", true)
  | 2 => ("CometObservatory$Telescope", "worths", "[I", true)
  | 3 => ("CometObservatory$Telescope", "bestOfFirst", "[I", true)
  | 4 => ("CometObservatory$Telescope", "worthFrom", "[I", true)
  | 5 => ("CometObservatory$Telescope", "passesFrom", "[I", true)
  | _ => ("CometObservatory$Telescope", "count", "I", false)
def tyX6 : Nat → FieldType := fun k => match k with
  | 0 => .array .int
  | 1 => .array .int
  | 2 => .array .int
  | 3 => .array .int
  | 4 => .array .int
  | 5 => .array .int
  | _ => .int
theorem nmX6 : ∀ a, a < 7 → ∀ b, b < 7 → a ≠ b → (TX6 a).2.1 ≠ (TX6 b).2.1 := by decide +kernel
theorem tyX6_ok : ∀ k, k < 7 → parseFieldDescriptor (TX6 k).2.2.1 = some (tyX6 k) := by decide +kernel
abbrev cX6_init : ByteArray := prog_8_method_1_code
def yX6_init : MethodName := ⟨RX6, "<init>", "()V"⟩
abbrev cX6_aim : ByteArray := prog_8_method_2_code
def yX6_aim : MethodName := ⟨RX6, "aim", "(LCometObservatory$Sky;I)V"⟩
abbrev cX6_insert : ByteArray := prog_8_method_3_code
def yX6_insert : MethodName := ⟨RX6, "insert", "(III)V"⟩
abbrev cX6_worthByPasses : ByteArray := prog_8_method_4_code
def yX6_worthByPasses : MethodName := ⟨RX6, "worthByPasses", "()I"⟩
abbrev cX6_endedBefore : ByteArray := prog_8_method_5_code
def yX6_endedBefore : MethodName := ⟨RX6, "endedBefore", "(II)I"⟩
abbrev cX6_planByDays : ByteArray := prog_8_method_6_code
def yX6_planByDays : MethodName := ⟨RX6, "planByDays", "(I)V"⟩
abbrev cX6_offer : ByteArray := prog_8_method_7_code
def yX6_offer : MethodName := ⟨RX6, "offer", "(III)V"⟩
def RX7 : String := "CometObservatory"
def TX7 : u_T := fun k => match k with
  | 0 => ("CometObservatory", "sky", "LCometObservatory$Sky;", true)
  | 1 => ("CometObservatory", "savedSky", "LCometObservatory$Sky;", true)
  | 2 => ("CometObservatory", "skyBeforeRun", "LCometObservatory$Sky;", true)
  | 3 => ("CometObservatory", "history", "LCometObservatory$History;", true)
  | 4 => ("CometObservatory", "telescope", "LCometObservatory$Telescope;", true)
  | 5 => ("CometObservatory", "program", "LCometObservatory$Program;", true)
  | 6 => ("CometObservatory", "line", "Ljava/lang/StringBuilder;", true)
  | 7 => ("CometObservatory", "isSaved", "Z", false)
  | 8 => ("CometObservatory", "storedError", "I", false)
  | _ => ("CometObservatory", "storedFailure", "I", false)
def tyX7 : Nat → FieldType := fun k => match k with
  | 0 => .object "CometObservatory$Sky"
  | 1 => .object "CometObservatory$Sky"
  | 2 => .object "CometObservatory$Sky"
  | 3 => .object "CometObservatory$History"
  | 4 => .object "CometObservatory$Telescope"
  | 5 => .object "CometObservatory$Program"
  | 6 => .object "java/lang/StringBuilder"
  | 7 => .boolean
  | 8 => .int
  | _ => .int
theorem nmX7 : ∀ a, a < 10 → ∀ b, b < 10 → a ≠ b → (TX7 a).2.1 ≠ (TX7 b).2.1 := by decide +kernel
theorem tyX7_ok : ∀ k, k < 10 → parseFieldDescriptor (TX7 k).2.2.1 = some (tyX7 k) := by decide +kernel
abbrev cX7_init : ByteArray := prog_1_method_1_code
def yX7_init : MethodName := ⟨RX7, "<init>", "()V"⟩
abbrev cX7_addComet : ByteArray := prog_1_method_2_code
def yX7_addComet : MethodName := ⟨RX7, "addComet", "(III)I"⟩
abbrev cX7_remove : ByteArray := prog_1_method_3_code
def yX7_remove : MethodName := ⟨RX7, "remove", "(I)I"⟩
abbrev cX7_setPeriod : ByteArray := prog_1_method_4_code
def yX7_setPeriod : MethodName := ⟨RX7, "setPeriod", "(II)I"⟩
abbrev cX7_brighten : ByteArray := prog_1_method_5_code
def yX7_brighten : MethodName := ⟨RX7, "brighten", "(II)I"⟩
abbrev cX7_passDays : ByteArray := prog_1_method_6_code
def yX7_passDays : MethodName := ⟨RX7, "passDays", "(I)I"⟩
abbrev cX7_clean : ByteArray := prog_1_method_7_code
def yX7_clean : MethodName := ⟨RX7, "clean", "(II)I"⟩
abbrev cX7_setRate : ByteArray := prog_1_method_8_code
def yX7_setRate : MethodName := ⟨RX7, "setRate", "(I)I"⟩
abbrev cX7_cometCount : ByteArray := prog_1_method_9_code
def yX7_cometCount : MethodName := ⟨RX7, "cometCount", "()I"⟩
abbrev cX7_cometAt : ByteArray := prog_1_method_10_code
def yX7_cometAt : MethodName := ⟨RX7, "cometAt", "(I)I"⟩
abbrev cX7_exists : ByteArray := prog_1_method_11_code
def yX7_exists : MethodName := ⟨RX7, "exists", "(I)Z"⟩
abbrev cX7_period : ByteArray := prog_1_method_12_code
def yX7_period : MethodName := ⟨RX7, "period", "(I)I"⟩
abbrev cX7_brightness : ByteArray := prog_1_method_13_code
def yX7_brightness : MethodName := ⟨RX7, "brightness", "(I)I"⟩
abbrev cX7_tail : ByteArray := prog_1_method_14_code
def yX7_tail : MethodName := ⟨RX7, "tail", "(I)I"⟩
abbrev cX7_nextPass : ByteArray := prog_1_method_15_code
def yX7_nextPass : MethodName := ⟨RX7, "nextPass", "(I)I"⟩
abbrev cX7_passesOf : ByteArray := prog_1_method_16_code
def yX7_passesOf : MethodName := ⟨RX7, "passesOf", "(I)I"⟩
abbrev cX7_lastPass : ByteArray := prog_1_method_17_code
def yX7_lastPass : MethodName := ⟨RX7, "lastPass", "(I)I"⟩
abbrev cX7_cometAtRank : ByteArray := prog_1_method_18_code
def yX7_cometAtRank : MethodName := ⟨RX7, "cometAtRank", "(I)I"⟩
abbrev cX7_passesIn : ByteArray := prog_1_method_19_code
def yX7_passesIn : MethodName := ⟨RX7, "passesIn", "(I)I"⟩
abbrev cX7_nextMeeting : ByteArray := prog_1_method_20_code
def yX7_nextMeeting : MethodName := ⟨RX7, "nextMeeting", "(II)I"⟩
abbrev cX7_nextMeetingByRemainders : ByteArray := prog_1_method_21_code
def yX7_nextMeetingByRemainders : MethodName := ⟨RX7, "nextMeetingByRemainders", "(II)I"⟩
abbrev cX7_alignment : ByteArray := prog_1_method_22_code
def yX7_alignment : MethodName := ⟨RX7, "alignment", "()J"⟩
abbrev cX7_bestWorth : ByteArray := prog_1_method_23_code
def yX7_bestWorth : MethodName := ⟨RX7, "bestWorth", "(I)I"⟩
abbrev cX7_bestWorthByDays : ByteArray := prog_1_method_24_code
def yX7_bestWorthByDays : MethodName := ⟨RX7, "bestWorthByDays", "(I)I"⟩
abbrev cX7_fewestPasses : ByteArray := prog_1_method_25_code
def yX7_fewestPasses : MethodName := ⟨RX7, "fewestPasses", "(I)I"⟩
abbrev cX7_dust : ByteArray := prog_1_method_26_code
def yX7_dust : MethodName := ⟨RX7, "dust", "(I)I"⟩
abbrev cX7_gain : ByteArray := prog_1_method_27_code
def yX7_gain : MethodName := ⟨RX7, "gain", "(II)I"⟩
abbrev cX7_bestGain : ByteArray := prog_1_method_28_code
def yX7_bestGain : MethodName := ⟨RX7, "bestGain", "()I"⟩
abbrev cX7_bestGainByArcs : ByteArray := prog_1_method_29_code
def yX7_bestGainByArcs : MethodName := ⟨RX7, "bestGainByArcs", "()I"⟩
abbrev cX7_bestStart : ByteArray := prog_1_method_30_code
def yX7_bestStart : MethodName := ⟨RX7, "bestStart", "()I"⟩
abbrev cX7_bestPlaces : ByteArray := prog_1_method_31_code
def yX7_bestPlaces : MethodName := ⟨RX7, "bestPlaces", "()I"⟩
abbrev cX7_day : ByteArray := prog_1_method_32_code
def yX7_day : MethodName := ⟨RX7, "day", "()I"⟩
abbrev cX7_coins : ByteArray := prog_1_method_33_code
def yX7_coins : MethodName := ⟨RX7, "coins", "()I"⟩
abbrev cX7_rate : ByteArray := prog_1_method_34_code
def yX7_rate : MethodName := ⟨RX7, "rate", "()I"⟩
abbrev cX7_dustTotal : ByteArray := prog_1_method_35_code
def yX7_dustTotal : MethodName := ⟨RX7, "dustTotal", "()I"⟩
abbrev cX7_dustByAccounts : ByteArray := prog_1_method_36_code
def yX7_dustByAccounts : MethodName := ⟨RX7, "dustByAccounts", "()I"⟩
abbrev cX7_passTotal : ByteArray := prog_1_method_37_code
def yX7_passTotal : MethodName := ⟨RX7, "passTotal", "()I"⟩
abbrev cX7_burntTotal : ByteArray := prog_1_method_38_code
def yX7_burntTotal : MethodName := ⟨RX7, "burntTotal", "()I"⟩
abbrev cX7_meanBrightness : ByteArray := prog_1_method_39_code
def yX7_meanBrightness : MethodName := ⟨RX7, "meanBrightness", "()D"⟩
abbrev cX7_dustyShare : ByteArray := prog_1_method_40_code
def yX7_dustyShare : MethodName := ⟨RX7, "dustyShare", "()F"⟩
abbrev cX7_isConsistent : ByteArray := prog_1_method_41_code
def yX7_isConsistent : MethodName := ⟨RX7, "isConsistent", "()Z"⟩
abbrev cX7_append : ByteArray := prog_1_method_42_code
def yX7_append : MethodName := ⟨RX7, "append", "(C)I"⟩
abbrev cX7_run : ByteArray := prog_1_method_43_code
def yX7_run : MethodName := ⟨RX7, "run", "()I"⟩
abbrev cX7_errorPosition : ByteArray := prog_1_method_44_code
def yX7_errorPosition : MethodName := ⟨RX7, "errorPosition", "()I"⟩
abbrev cX7_failedCommand : ByteArray := prog_1_method_45_code
def yX7_failedCommand : MethodName := ⟨RX7, "failedCommand", "()I"⟩
abbrev cX7_writeComet : ByteArray := prog_1_method_46_code
def yX7_writeComet : MethodName := ⟨RX7, "writeComet", "(I)I"⟩
abbrev cX7_writeRing : ByteArray := prog_1_method_47_code
def yX7_writeRing : MethodName := ⟨RX7, "writeRing", "()I"⟩
abbrev cX7_outputAt : ByteArray := prog_1_method_48_code
def yX7_outputAt : MethodName := ⟨RX7, "outputAt", "(I)C"⟩
abbrev cX7_undo : ByteArray := prog_1_method_49_code
def yX7_undo : MethodName := ⟨RX7, "undo", "()I"⟩
abbrev cX7_save : ByteArray := prog_1_method_50_code
def yX7_save : MethodName := ⟨RX7, "save", "()V"⟩
abbrev cX7_restore : ByteArray := prog_1_method_51_code
def yX7_restore : MethodName := ⟨RX7, "restore", "()V"⟩
abbrev cX7_existing : ByteArray := prog_1_method_52_code
def yX7_existing : MethodName := ⟨RX7, "existing", "(I)LCometObservatory$Comet;"⟩
abbrev cX7_carryOut : ByteArray := prog_1_method_53_code
def yX7_carryOut : MethodName := ⟨RX7, "carryOut", "(IIII)Z"⟩
abbrev cX7_turn : ByteArray := prog_1_method_54_code
def yX7_turn : MethodName := ⟨RX7, "turn", "(II)Z"⟩
abbrev cX7_shine : ByteArray := prog_1_method_55_code
def yX7_shine : MethodName := ⟨RX7, "shine", "(II)Z"⟩
abbrev cX7_isNewComet : ByteArray := prog_1_method_56_code
def yX7_isNewComet : MethodName := ⟨RX7, "isNewComet", "(III)Z"⟩
abbrev cX7_isPeriod : ByteArray := prog_1_method_57_code
def yX7_isPeriod : MethodName := ⟨RX7, "isPeriod", "(I)Z"⟩
abbrev cX7_isAmount : ByteArray := prog_1_method_58_code
def yX7_isAmount : MethodName := ⟨RX7, "isAmount", "(I)Z"⟩
abbrev cX7_isSpanOfDays : ByteArray := prog_1_method_59_code
def yX7_isSpanOfDays : MethodName := ⟨RX7, "isSpanOfDays", "(I)Z"⟩
abbrev cX7_isSpanToLookAt : ByteArray := prog_1_method_60_code
def yX7_isSpanToLookAt : MethodName := ⟨RX7, "isSpanToLookAt", "(I)Z"⟩
abbrev cX7_isPlace : ByteArray := prog_1_method_61_code
def yX7_isPlace : MethodName := ⟨RX7, "isPlace", "(I)Z"⟩
abbrev cX7_isLengthOfArc : ByteArray := prog_1_method_62_code
def yX7_isLengthOfArc : MethodName := ⟨RX7, "isLengthOfArc", "(I)Z"⟩
abbrev cX7_isRate : ByteArray := prog_1_method_63_code
def yX7_isRate : MethodName := ⟨RX7, "isRate", "(I)Z"⟩
abbrev cX7_tailAt : ByteArray := prog_1_method_64_code
def yX7_tailAt : MethodName := ⟨RX7, "tailAt", "(I)I"⟩
def RX8 : String := "CometObservatoryModel"
def TX8 : u_T := fun k => match k with
  | 0 => ("CometObservatoryModel", "thrown", "I", false)
  | 1 => ("CometObservatoryModel", "all", "[I", true)
  | 2 => ("CometObservatoryModel", "changes", "I", false)
  | 3 => ("CometObservatoryModel", "isSaved", "Z", false)
  | 4 => ("CometObservatoryModel", "result", "I", false)
  | 5 => ("CometObservatoryModel", "worth", "[I", true)
  | 6 => ("CometObservatoryModel", "fewest", "[I", true)
  | 7 => ("CometObservatoryModel", "text", "[C", true)
  | 8 => ("CometObservatoryModel", "typed", "I", false)
  | 9 => ("CometObservatoryModel", "here", "I", false)
  | 10 => ("CometObservatoryModel", "error", "I", false)
  | 11 => ("CometObservatoryModel", "errorAt", "I", false)
  | 12 => ("CometObservatoryModel", "failedAt", "I", false)
  | 13 => ("CometObservatoryModel", "commands", "[I", true)
  | 14 => ("CometObservatoryModel", "commandMany", "I", false)
  | 15 => ("CometObservatoryModel", "output", "[C", true)
  | _ => ("CometObservatoryModel", "outputSize", "I", false)
def tyX8 : Nat → FieldType := fun k => match k with
  | 0 => .int
  | 1 => .array .int
  | 2 => .int
  | 3 => .boolean
  | 4 => .int
  | 5 => .array .int
  | 6 => .array .int
  | 7 => .array .char
  | 8 => .int
  | 9 => .int
  | 10 => .int
  | 11 => .int
  | 12 => .int
  | 13 => .array .int
  | 14 => .int
  | 15 => .array .char
  | _ => .int
theorem nmX8 : ∀ a, a < 17 → ∀ b, b < 17 → a ≠ b → (TX8 a).2.1 ≠ (TX8 b).2.1 := by decide +kernel
theorem tyX8_ok : ∀ k, k < 17 → parseFieldDescriptor (TX8 k).2.2.1 = some (tyX8 k) := by decide +kernel
abbrev cX8_init : ByteArray := prog_10_method_1_code
def yX8_init : MethodName := ⟨RX8, "<init>", "()V"⟩
abbrev cX8_thrown : ByteArray := prog_10_method_2_code
def yX8_thrown : MethodName := ⟨RX8, "thrown", "()I"⟩
abbrev cX8_in : ByteArray := prog_10_method_3_code
def yX8_in : MethodName := ⟨RX8, "in", "(III)Z"⟩
abbrev cX8_copies : ByteArray := prog_10_method_4_code
def yX8_copies : MethodName := ⟨RX8, "copies", "(II)V"⟩
abbrev cX8_begins : ByteArray := prog_10_method_5_code
def yX8_begins : MethodName := ⟨RX8, "begins", "()V"⟩
abbrev cX8_ends : ByteArray := prog_10_method_6_code
def yX8_ends : MethodName := ⟨RX8, "ends", "(IIIII)I"⟩
abbrev cX8_isFine : ByteArray := prog_10_method_7_code
def yX8_isFine : MethodName := ⟨RX8, "isFine", "(Z)Z"⟩
abbrev cX8_c : ByteArray := prog_10_method_8_code
def yX8_c : MethodName := ⟨RX8, "c", "(II)I"⟩
abbrev cX8_set : ByteArray := prog_10_method_9_code
def yX8_set : MethodName := ⟨RX8, "set", "(III)V"⟩
abbrev cX8_place : ByteArray := prog_10_method_10_code
def yX8_place : MethodName := ⟨RX8, "place", "(I)I"⟩
abbrev cX8_isThere : ByteArray := prog_10_method_11_code
def yX8_isThere : MethodName := ⟨RX8, "isThere", "(I)Z"⟩
abbrev cX8_goes : ByteArray := prog_10_method_12_code
def yX8_goes : MethodName := ⟨RX8, "goes", "(I)V"⟩
abbrev cX8_tailOf : ByteArray := prog_10_method_13_code
def yX8_tailOf : MethodName := ⟨RX8, "tailOf", "(I)I"⟩
abbrev cX8_passes : ByteArray := prog_10_method_14_code
def yX8_passes : MethodName := ⟨RX8, "passes", "(I)Z"⟩
abbrev cX8_goesBy : ByteArray := prog_10_method_15_code
def yX8_goesBy : MethodName := ⟨RX8, "goesBy", "()I"⟩
abbrev cX8_comes : ByteArray := prog_10_method_16_code
def yX8_comes : MethodName := ⟨RX8, "comes", "(III)I"⟩
abbrev cX8_addComet : ByteArray := prog_10_method_17_code
def yX8_addComet : MethodName := ⟨RX8, "addComet", "(III)I"⟩
abbrev cX8_drops : ByteArray := prog_10_method_18_code
def yX8_drops : MethodName := ⟨RX8, "drops", "(I)I"⟩
abbrev cX8_remove : ByteArray := prog_10_method_19_code
def yX8_remove : MethodName := ⟨RX8, "remove", "(I)I"⟩
abbrev cX8_turns : ByteArray := prog_10_method_20_code
def yX8_turns : MethodName := ⟨RX8, "turns", "(II)I"⟩
abbrev cX8_setPeriod : ByteArray := prog_10_method_21_code
def yX8_setPeriod : MethodName := ⟨RX8, "setPeriod", "(II)I"⟩
abbrev cX8_shines : ByteArray := prog_10_method_22_code
def yX8_shines : MethodName := ⟨RX8, "shines", "(II)I"⟩
abbrev cX8_brighten : ByteArray := prog_10_method_23_code
def yX8_brighten : MethodName := ⟨RX8, "brighten", "(II)I"⟩
abbrev cX8_goOn : ByteArray := prog_10_method_24_code
def yX8_goOn : MethodName := ⟨RX8, "goOn", "(I)I"⟩
abbrev cX8_passDays : ByteArray := prog_10_method_25_code
def yX8_passDays : MethodName := ⟨RX8, "passDays", "(I)I"⟩
abbrev cX8_dustOf : ByteArray := prog_10_method_26_code
def yX8_dustOf : MethodName := ⟨RX8, "dustOf", "(II)I"⟩
abbrev cX8_cleans : ByteArray := prog_10_method_27_code
def yX8_cleans : MethodName := ⟨RX8, "cleans", "(II)I"⟩
abbrev cX8_clean : ByteArray := prog_10_method_28_code
def yX8_clean : MethodName := ⟨RX8, "clean", "(II)I"⟩
abbrev cX8_rates : ByteArray := prog_10_method_29_code
def yX8_rates : MethodName := ⟨RX8, "rates", "(I)I"⟩
abbrev cX8_setRate : ByteArray := prog_10_method_30_code
def yX8_setRate : MethodName := ⟨RX8, "setRate", "(I)I"⟩
abbrev cX8_told : ByteArray := prog_10_method_31_code
def yX8_told : MethodName := ⟨RX8, "told", "(I)I"⟩
abbrev cX8_cometCount : ByteArray := prog_10_method_32_code
def yX8_cometCount : MethodName := ⟨RX8, "cometCount", "()I"⟩
abbrev cX8_cometAt : ByteArray := prog_10_method_33_code
def yX8_cometAt : MethodName := ⟨RX8, "cometAt", "(I)I"⟩
abbrev cX8_exists : ByteArray := prog_10_method_34_code
def yX8_exists : MethodName := ⟨RX8, "exists", "(I)Z"⟩
abbrev cX8_ofComet : ByteArray := prog_10_method_35_code
def yX8_ofComet : MethodName := ⟨RX8, "ofComet", "(II)I"⟩
abbrev cX8_period : ByteArray := prog_10_method_36_code
def yX8_period : MethodName := ⟨RX8, "period", "(I)I"⟩
abbrev cX8_brightness : ByteArray := prog_10_method_37_code
def yX8_brightness : MethodName := ⟨RX8, "brightness", "(I)I"⟩
abbrev cX8_tail : ByteArray := prog_10_method_38_code
def yX8_tail : MethodName := ⟨RX8, "tail", "(I)I"⟩
abbrev cX8_nextPass : ByteArray := prog_10_method_39_code
def yX8_nextPass : MethodName := ⟨RX8, "nextPass", "(I)I"⟩
abbrev cX8_passesOf : ByteArray := prog_10_method_40_code
def yX8_passesOf : MethodName := ⟨RX8, "passesOf", "(I)I"⟩
abbrev cX8_lastPass : ByteArray := prog_10_method_41_code
def yX8_lastPass : MethodName := ⟨RX8, "lastPass", "(I)I"⟩
abbrev cX8_isAhead : ByteArray := prog_10_method_42_code
def yX8_isAhead : MethodName := ⟨RX8, "isAhead", "(II)Z"⟩
abbrev cX8_cometAtRank : ByteArray := prog_10_method_43_code
def yX8_cometAtRank : MethodName := ⟨RX8, "cometAtRank", "(I)I"⟩
abbrev cX8_brightIn : ByteArray := prog_10_method_44_code
def yX8_brightIn : MethodName := ⟨RX8, "brightIn", "(II)I"⟩
abbrev cX8_passesIn : ByteArray := prog_10_method_45_code
def yX8_passesIn : MethodName := ⟨RX8, "passesIn", "(I)I"⟩
abbrev cX8_passesOn : ByteArray := prog_10_method_46_code
def yX8_passesOn : MethodName := ⟨RX8, "passesOn", "(II)Z"⟩
abbrev cX8_nextMeeting : ByteArray := prog_10_method_47_code
def yX8_nextMeeting : MethodName := ⟨RX8, "nextMeeting", "(II)I"⟩
abbrev cX8_nextMeetingByRemainders : ByteArray := prog_10_method_48_code
def yX8_nextMeetingByRemainders : MethodName := ⟨RX8, "nextMeetingByRemainders", "(II)I"⟩
abbrev cX8_alignment : ByteArray := prog_10_method_49_code
def yX8_alignment : MethodName := ⟨RX8, "alignment", "()J"⟩
abbrev cX8_plans : ByteArray := prog_10_method_50_code
def yX8_plans : MethodName := ⟨RX8, "plans", "(I)V"⟩
abbrev cX8_follows : ByteArray := prog_10_method_51_code
def yX8_follows : MethodName := ⟨RX8, "follows", "(III)V"⟩
abbrev cX8_bestWorth : ByteArray := prog_10_method_52_code
def yX8_bestWorth : MethodName := ⟨RX8, "bestWorth", "(I)I"⟩
abbrev cX8_bestWorthByDays : ByteArray := prog_10_method_53_code
def yX8_bestWorthByDays : MethodName := ⟨RX8, "bestWorthByDays", "(I)I"⟩
abbrev cX8_fewestPasses : ByteArray := prog_10_method_54_code
def yX8_fewestPasses : MethodName := ⟨RX8, "fewestPasses", "(I)I"⟩
abbrev cX8_dust : ByteArray := prog_10_method_55_code
def yX8_dust : MethodName := ⟨RX8, "dust", "(I)I"⟩
abbrev cX8_gains : ByteArray := prog_10_method_56_code
def yX8_gains : MethodName := ⟨RX8, "gains", "(II)I"⟩
abbrev cX8_gain : ByteArray := prog_10_method_57_code
def yX8_gain : MethodName := ⟨RX8, "gain", "(II)I"⟩
abbrev cX8_bestArc : ByteArray := prog_10_method_58_code
def yX8_bestArc : MethodName := ⟨RX8, "bestArc", "()I"⟩
abbrev cX8_bestGain : ByteArray := prog_10_method_59_code
def yX8_bestGain : MethodName := ⟨RX8, "bestGain", "()I"⟩
abbrev cX8_bestGainByArcs : ByteArray := prog_10_method_60_code
def yX8_bestGainByArcs : MethodName := ⟨RX8, "bestGainByArcs", "()I"⟩
abbrev cX8_bestStart : ByteArray := prog_10_method_61_code
def yX8_bestStart : MethodName := ⟨RX8, "bestStart", "()I"⟩
abbrev cX8_bestPlaces : ByteArray := prog_10_method_62_code
def yX8_bestPlaces : MethodName := ⟨RX8, "bestPlaces", "()I"⟩
abbrev cX8_day : ByteArray := prog_10_method_63_code
def yX8_day : MethodName := ⟨RX8, "day", "()I"⟩
abbrev cX8_coins : ByteArray := prog_10_method_64_code
def yX8_coins : MethodName := ⟨RX8, "coins", "()I"⟩
abbrev cX8_rate : ByteArray := prog_10_method_65_code
def yX8_rate : MethodName := ⟨RX8, "rate", "()I"⟩
abbrev cX8_dustTotal : ByteArray := prog_10_method_66_code
def yX8_dustTotal : MethodName := ⟨RX8, "dustTotal", "()I"⟩
abbrev cX8_dustByAccounts : ByteArray := prog_10_method_67_code
def yX8_dustByAccounts : MethodName := ⟨RX8, "dustByAccounts", "()I"⟩
abbrev cX8_passTotal : ByteArray := prog_10_method_68_code
def yX8_passTotal : MethodName := ⟨RX8, "passTotal", "()I"⟩
abbrev cX8_burntTotal : ByteArray := prog_10_method_69_code
def yX8_burntTotal : MethodName := ⟨RX8, "burntTotal", "()I"⟩
abbrev cX8_meanBrightness : ByteArray := prog_10_method_70_code
def yX8_meanBrightness : MethodName := ⟨RX8, "meanBrightness", "()D"⟩
abbrev cX8_dustyShare : ByteArray := prog_10_method_71_code
def yX8_dustyShare : MethodName := ⟨RX8, "dustyShare", "()F"⟩
abbrev cX8_isConsistent : ByteArray := prog_10_method_72_code
def yX8_isConsistent : MethodName := ⟨RX8, "isConsistent", "()Z"⟩
abbrev cX8_append : ByteArray := prog_10_method_73_code
def yX8_append : MethodName := ⟨RX8, "append", "(C)I"⟩
abbrev cX8_sign : ByteArray := prog_10_method_74_code
def yX8_sign : MethodName := ⟨RX8, "sign", "()I"⟩
abbrev cX8_needs : ByteArray := prog_10_method_75_code
def yX8_needs : MethodName := ⟨RX8, "needs", "(I)V"⟩
abbrev cX8_letters : ByteArray := prog_10_method_76_code
def yX8_letters : MethodName := ⟨RX8, "letters", "(III)V"⟩
abbrev cX8_number : ByteArray := prog_10_method_77_code
def yX8_number : MethodName := ⟨RX8, "number", "(I)I"⟩
abbrev cX8_numbers : ByteArray := prog_10_method_78_code
def yX8_numbers : MethodName := ⟨RX8, "numbers", "(II)V"⟩
abbrev cX8_command : ByteArray := prog_10_method_79_code
def yX8_command : MethodName := ⟨RX8, "command", "()V"⟩
abbrev cX8_parse : ByteArray := prog_10_method_80_code
def yX8_parse : MethodName := ⟨RX8, "parse", "()V"⟩
abbrev cX8_does : ByteArray := prog_10_method_81_code
def yX8_does : MethodName := ⟨RX8, "does", "(I)I"⟩
abbrev cX8_run : ByteArray := prog_10_method_82_code
def yX8_run : MethodName := ⟨RX8, "run", "()I"⟩
abbrev cX8_errorPosition : ByteArray := prog_10_method_83_code
def yX8_errorPosition : MethodName := ⟨RX8, "errorPosition", "()I"⟩
abbrev cX8_failedCommand : ByteArray := prog_10_method_84_code
def yX8_failedCommand : MethodName := ⟨RX8, "failedCommand", "()I"⟩
abbrev cX8_writes : ByteArray := prog_10_method_85_code
def yX8_writes : MethodName := ⟨RX8, "writes", "(I)V"⟩
abbrev cX8_writesNumber : ByteArray := prog_10_method_86_code
def yX8_writesNumber : MethodName := ⟨RX8, "writesNumber", "(I)V"⟩
abbrev cX8_writesBehind : ByteArray := prog_10_method_87_code
def yX8_writesBehind : MethodName := ⟨RX8, "writesBehind", "(II)V"⟩
abbrev cX8_writeComet : ByteArray := prog_10_method_88_code
def yX8_writeComet : MethodName := ⟨RX8, "writeComet", "(I)I"⟩
abbrev cX8_writeRing : ByteArray := prog_10_method_89_code
def yX8_writeRing : MethodName := ⟨RX8, "writeRing", "()I"⟩
abbrev cX8_outputAt : ByteArray := prog_10_method_90_code
def yX8_outputAt : MethodName := ⟨RX8, "outputAt", "(I)C"⟩
abbrev cX8_undo : ByteArray := prog_10_method_91_code
def yX8_undo : MethodName := ⟨RX8, "undo", "()I"⟩
abbrev cX8_save : ByteArray := prog_10_method_92_code
def yX8_save : MethodName := ⟨RX8, "save", "()V"⟩
abbrev cX8_restore : ByteArray := prog_10_method_93_code
def yX8_restore : MethodName := ⟨RX8, "restore", "()V"⟩
def RJx145de : String := "java/io/Serializable"
def TJx145de : u_T := fun k => match k with
  | _ => ("", "", "", false)
def tyJx145de : Nat → FieldType := fun k => match k with
  | _ => .int
theorem nmJx145de : ∀ a, a < 0 → ∀ b, b < 0 → a ≠ b → (TJx145de a).2.1 ≠ (TJx145de b).2.1 := by decide +kernel
theorem tyJx145de_ok : ∀ k, k < 0 → parseFieldDescriptor (TJx145de k).2.2.1 = some (tyJx145de k) := by decide +kernel
def RJ5 : String := "java/lang/AbstractStringBuilder"
def TJ5 : u_T := fun k => match k with
  | _ => ("", "", "", false)
def tyJ5 : Nat → FieldType := fun k => match k with
  | _ => .int
theorem nmJ5 : ∀ a, a < 0 → ∀ b, b < 0 → a ≠ b → (TJ5 a).2.1 ≠ (TJ5 b).2.1 := by decide +kernel
theorem tyJ5_ok : ∀ k, k < 0 → parseFieldDescriptor (TJ5 k).2.2.1 = some (tyJ5 k) := by decide +kernel
abbrev cJ5_init_d00df : ByteArray := prog_12_method_2_code
def yJ5_init_d00df : MethodName := ⟨RJ5, "<init>", "(I)V"⟩
abbrev cJ5_length_8abf5 : ByteArray := prog_12_method_6_code
def yJ5_length_8abf5 : MethodName := ⟨RJ5, "length", "()I"⟩
abbrev cJ5_ensureCapacityInternal_d00df : ByteArray := prog_12_method_9_code
def yJ5_ensureCapacityInternal_d00df : MethodName := ⟨RJ5, "ensureCapacityInternal", "(I)V"⟩
abbrev cJ5_newCapacity_0f7a4 : ByteArray := prog_12_method_10_code
def yJ5_newCapacity_0f7a4 : MethodName := ⟨RJ5, "newCapacity", "(I)I"⟩
abbrev cJ5_inflate_da8c8 : ByteArray := prog_12_method_11_code
def yJ5_inflate_da8c8 : MethodName := ⟨RJ5, "inflate", "()V"⟩
abbrev cJ5_setLength_d00df : ByteArray := prog_12_method_13_code
def yJ5_setLength_d00df : MethodName := ⟨RJ5, "setLength", "(I)V"⟩
abbrev cJ5_charAt_5068e : ByteArray := prog_12_method_14_code
def yJ5_charAt_5068e : MethodName := ⟨RJ5, "charAt", "(I)C"⟩
abbrev cJ5_append_cf1ce : ByteArray := prog_12_method_22_code
def yJ5_append_cf1ce : MethodName := ⟨RJ5, "append", "(Ljava/lang/String;)Ljava/lang/AbstractStringBuilder;"⟩
abbrev cJ5_appendNull_278bc : ByteArray := prog_12_method_26_code
def yJ5_appendNull_278bc : MethodName := ⟨RJ5, "appendNull", "()Ljava/lang/AbstractStringBuilder;"⟩
abbrev cJ5_append_3fe6f : ByteArray := prog_12_method_31_code
def yJ5_append_3fe6f : MethodName := ⟨RJ5, "append", "(C)Ljava/lang/AbstractStringBuilder;"⟩
abbrev cJ5_append_c97b9 : ByteArray := prog_12_method_32_code
def yJ5_append_c97b9 : MethodName := ⟨RJ5, "append", "(I)Ljava/lang/AbstractStringBuilder;"⟩
abbrev cJ5_getValue_6d5f1 : ByteArray := prog_12_method_64_code
def yJ5_getValue_6d5f1 : MethodName := ⟨RJ5, "getValue", "()[B"⟩
abbrev cJ5_isLatin1_aae02 : ByteArray := prog_12_method_68_code
def yJ5_isLatin1_aae02 : MethodName := ⟨RJ5, "isLatin1", "()Z"⟩
abbrev cJ5_inflateIfNeededFor_a7421 : ByteArray := prog_12_method_71_code
def yJ5_inflateIfNeededFor_a7421 : MethodName := ⟨RJ5, "inflateIfNeededFor", "(Ljava/lang/String;)V"⟩
abbrev cJ5_putStringAt_47b60 : ByteArray := prog_12_method_73_code
def yJ5_putStringAt_47b60 : MethodName := ⟨RJ5, "putStringAt", "(ILjava/lang/String;)V"⟩
def RJx2cfe8 : String := "java/lang/Appendable"
def TJx2cfe8 : u_T := fun k => match k with
  | _ => ("", "", "", false)
def tyJx2cfe8 : Nat → FieldType := fun k => match k with
  | _ => .int
theorem nmJx2cfe8 : ∀ a, a < 0 → ∀ b, b < 0 → a ≠ b → (TJx2cfe8 a).2.1 ≠ (TJx2cfe8 b).2.1 := by decide +kernel
theorem tyJx2cfe8_ok : ∀ k, k < 0 → parseFieldDescriptor (TJx2cfe8 k).2.2.1 = some (tyJx2cfe8 k) := by decide +kernel
def RJx00060 : String := "java/lang/ArrayIndexOutOfBoundsException"
def TJx00060 : u_T := fun k => match k with
  | 0 => ("java/lang/Throwable", "cause", "Ljava/lang/Throwable;", false)
  | 1 => ("java/lang/Throwable", "stackTrace", "[Ljava/lang/StackTraceElement;", false)
  | 2 => ("java/lang/Throwable", "suppressedExceptions", "Ljava/util/List;", false)
  | 3 => ("java/lang/Throwable", "detailMessage", "Ljava/lang/String;", false)
  | 4 => ("java/lang/Throwable", "backtrace", "Ljava/lang/Object;", false)
  | _ => ("java/lang/Throwable", "depth", "I", false)
def tyJx00060 : Nat → FieldType := fun k => match k with
  | 0 => .object "java/lang/Throwable"
  | 1 => .array (.object "java/lang/StackTraceElement")
  | 2 => .object "java/util/List"
  | 3 => .object "java/lang/String"
  | 4 => .object "java/lang/Object"
  | _ => .int
theorem nmJx00060 : ∀ a, a < 6 → ∀ b, b < 6 → a ≠ b → (TJx00060 a).2.1 ≠ (TJx00060 b).2.1 := by decide +kernel
theorem tyJx00060_ok : ∀ k, k < 6 → parseFieldDescriptor (TJx00060 k).2.2.1 = some (tyJx00060 k) := by decide +kernel
abbrev cJx00060_init_a7421 : ByteArray := prog_15_method_2_code
def yJx00060_init_a7421 : MethodName := ⟨RJx00060, "<init>", "(Ljava/lang/String;)V"⟩
abbrev cJx00060_init_d00df : ByteArray := prog_15_method_3_code
def yJx00060_init_d00df : MethodName := ⟨RJx00060, "<init>", "(I)V"⟩
def RJx9f9b0 : String := "java/lang/CharSequence"
def TJx9f9b0 : u_T := fun k => match k with
  | _ => ("", "", "", false)
def tyJx9f9b0 : Nat → FieldType := fun k => match k with
  | _ => .int
theorem nmJx9f9b0 : ∀ a, a < 0 → ∀ b, b < 0 → a ≠ b → (TJx9f9b0 a).2.1 ≠ (TJx9f9b0 b).2.1 := by decide +kernel
theorem tyJx9f9b0_ok : ∀ k, k < 0 → parseFieldDescriptor (TJx9f9b0 k).2.2.1 = some (tyJx9f9b0 k) := by decide +kernel
def RJx8e188 : String := "java/lang/Cloneable"
def TJx8e188 : u_T := fun k => match k with
  | _ => ("", "", "", false)
def tyJx8e188 : Nat → FieldType := fun k => match k with
  | _ => .int
theorem nmJx8e188 : ∀ a, a < 0 → ∀ b, b < 0 → a ≠ b → (TJx8e188 a).2.1 ≠ (TJx8e188 b).2.1 := by decide +kernel
theorem tyJx8e188_ok : ∀ k, k < 0 → parseFieldDescriptor (TJx8e188 k).2.2.1 = some (tyJx8e188 k) := by decide +kernel
def RJxb160c : String := "java/lang/Comparable"
def TJxb160c : u_T := fun k => match k with
  | _ => ("", "", "", false)
def tyJxb160c : Nat → FieldType := fun k => match k with
  | _ => .int
theorem nmJxb160c : ∀ a, a < 0 → ∀ b, b < 0 → a ≠ b → (TJxb160c a).2.1 ≠ (TJxb160c b).2.1 := by decide +kernel
theorem tyJxb160c_ok : ∀ k, k < 0 → parseFieldDescriptor (TJxb160c k).2.2.1 = some (tyJxb160c k) := by decide +kernel
def RJ6 : String := "java/lang/Integer"
def TJ6 : u_T := fun k => match k with
  | _ => ("", "", "", false)
def tyJ6 : Nat → FieldType := fun k => match k with
  | _ => .int
theorem nmJ6 : ∀ a, a < 0 → ∀ b, b < 0 → a ≠ b → (TJ6 a).2.1 ≠ (TJ6 b).2.1 := by decide +kernel
theorem tyJ6_ok : ∀ k, k < 0 → parseFieldDescriptor (TJ6 k).2.2.1 = some (tyJ6 k) := by decide +kernel
abbrev cJ6_getChars_ba4f3 : ByteArray := prog_23_method_12_code
def yJ6_getChars_ba4f3 : MethodName := ⟨RJ6, "getChars", "(II[B)I"⟩
abbrev cJ6_stringSize_0f7a4 : ByteArray := prog_23_method_13_code
def yJ6_stringSize_0f7a4 : MethodName := ⟨RJ6, "stringSize", "(I)I"⟩
def RJ9 : String := "java/lang/Math"
def TJ9 : u_T := fun k => match k with
  | _ => ("", "", "", false)
def tyJ9 : Nat → FieldType := fun k => match k with
  | _ => .int
theorem nmJ9 : ∀ a, a < 0 → ∀ b, b < 0 → a ≠ b → (TJ9 a).2.1 ≠ (TJ9 b).2.1 := by decide +kernel
theorem tyJ9_ok : ∀ k, k < 0 → parseFieldDescriptor (TJ9 k).2.2.1 = some (tyJ9 k) := by decide +kernel
abbrev cJ9_floorMod_7cf53 : ByteArray := prog_24_method_50_code
def yJ9_floorMod_7cf53 : MethodName := ⟨RJ9, "floorMod", "(II)I"⟩
abbrev cJ9_abs_0f7a4 : ByteArray := prog_24_method_59_code
def yJ9_abs_0f7a4 : MethodName := ⟨RJ9, "abs", "(I)I"⟩
abbrev cJ9_max_7cf53 : ByteArray := prog_24_method_65_code
def yJ9_max_7cf53 : MethodName := ⟨RJ9, "max", "(II)I"⟩
abbrev cJ9_min_7cf53 : ByteArray := prog_24_method_69_code
def yJ9_min_7cf53 : MethodName := ⟨RJ9, "min", "(II)I"⟩
def RJxd2413 : String := "java/lang/Number"
def TJxd2413 : u_T := fun k => match k with
  | _ => ("", "", "", false)
def tyJxd2413 : Nat → FieldType := fun k => match k with
  | _ => .int
theorem nmJxd2413 : ∀ a, a < 0 → ∀ b, b < 0 → a ≠ b → (TJxd2413 a).2.1 ≠ (TJxd2413 b).2.1 := by decide +kernel
theorem tyJxd2413_ok : ∀ k, k < 0 → parseFieldDescriptor (TJxd2413 k).2.2.1 = some (tyJxd2413 k) := by decide +kernel
def RJ0 : String := "java/lang/String"
def TJ0 : u_T := fun k => match k with
  | 0 => ("java/lang/String", "value", "[B", true)
  | 1 => ("java/lang/String", "coder", "B", true)
  | 2 => ("java/lang/String", "hash", "I", false)
  | _ => ("java/lang/String", "hashIsZero", "Z", false)
def tyJ0 : Nat → FieldType := fun k => match k with
  | 0 => .array .byte
  | 1 => .byte
  | 2 => .int
  | _ => .boolean
theorem nmJ0 : ∀ a, a < 4 → ∀ b, b < 4 → a ≠ b → (TJ0 a).2.1 ≠ (TJ0 b).2.1 := by decide +kernel
theorem tyJ0_ok : ∀ k, k < 4 → parseFieldDescriptor (TJ0 k).2.2.1 = some (tyJ0 k) := by decide +kernel
abbrev cJ0_init_81219 : ByteArray := prog_27_method_53_code
def yJ0_init_81219 : MethodName := ⟨RJ0, "<init>", "(Ljava/lang/StringBuilder;)V"⟩
abbrev cJ0_length_8abf5 : ByteArray := prog_27_method_54_code
def yJ0_length_8abf5 : MethodName := ⟨RJ0, "length", "()I"⟩
abbrev cJ0_charAt_5068e : ByteArray := prog_27_method_56_code
def yJ0_charAt_5068e : MethodName := ⟨RJ0, "charAt", "(I)C"⟩
abbrev cJ0_getBytes_840e7 : ByteArray := prog_27_method_147_code
def yJ0_getBytes_840e7 : MethodName := ⟨RJ0, "getBytes", "([BIB)V"⟩
abbrev cJ0_init_db425 : ByteArray := prog_27_method_150_code
def yJ0_init_db425 : MethodName := ⟨RJ0, "<init>", "(Ljava/lang/AbstractStringBuilder;Ljava/lang/Void;)V"⟩
abbrev cJ0_coder_7d493 : ByteArray := prog_27_method_152_code
def yJ0_coder_7d493 : MethodName := ⟨RJ0, "coder", "()B"⟩
abbrev cJ0_isLatin1_aae02 : ByteArray := prog_27_method_154_code
def yJ0_isLatin1_aae02 : MethodName := ⟨RJ0, "isLatin1", "()Z"⟩
abbrev cJ0_checkIndex_df160 : ByteArray := prog_27_method_155_code
def yJ0_checkIndex_df160 : MethodName := ⟨RJ0, "checkIndex", "(II)V"⟩
abbrev cJ0_checkBoundsOffCount_cabcc : ByteArray := prog_27_method_157_code
def yJ0_checkBoundsOffCount_cabcc : MethodName := ⟨RJ0, "checkBoundsOffCount", "(III)I"⟩
abbrev cJ0_checkBoundsBeginEnd_23922 : ByteArray := prog_27_method_158_code
def yJ0_checkBoundsBeginEnd_23922 : MethodName := ⟨RJ0, "checkBoundsBeginEnd", "(III)V"⟩
def RJ4 : String := "java/lang/StringBuilder"
def TJ4 : u_T := fun k => match k with
  | 0 => ("java/lang/AbstractStringBuilder", "value", "[B", false)
  | 1 => ("java/lang/AbstractStringBuilder", "coder", "B", false)
  | 2 => ("java/lang/AbstractStringBuilder", "maybeLatin1", "Z", false)
  | _ => ("java/lang/AbstractStringBuilder", "count", "I", false)
def tyJ4 : Nat → FieldType := fun k => match k with
  | 0 => .array .byte
  | 1 => .byte
  | 2 => .boolean
  | _ => .int
theorem nmJ4 : ∀ a, a < 4 → ∀ b, b < 4 → a ≠ b → (TJ4 a).2.1 ≠ (TJ4 b).2.1 := by decide +kernel
theorem tyJ4_ok : ∀ k, k < 4 → parseFieldDescriptor (TJ4 k).2.2.1 = some (tyJ4 k) := by decide +kernel
abbrev cJ4_init_da8c8 : ByteArray := prog_28_method_1_code
def yJ4_init_da8c8 : MethodName := ⟨RJ4, "<init>", "()V"⟩
abbrev cJ4_append_15ec4 : ByteArray := prog_28_method_7_code
def yJ4_append_15ec4 : MethodName := ⟨RJ4, "append", "(Ljava/lang/String;)Ljava/lang/StringBuilder;"⟩
abbrev cJ4_append_cf468 : ByteArray := prog_28_method_14_code
def yJ4_append_cf468 : MethodName := ⟨RJ4, "append", "(C)Ljava/lang/StringBuilder;"⟩
abbrev cJ4_append_bf812 : ByteArray := prog_28_method_15_code
def yJ4_append_bf812 : MethodName := ⟨RJ4, "append", "(I)Ljava/lang/StringBuilder;"⟩
abbrev cJ4_toString_0e30d : ByteArray := prog_28_method_42_code
def yJ4_toString_0e30d : MethodName := ⟨RJ4, "toString", "()Ljava/lang/String;"⟩
abbrev cJ4_charAt_5068e : ByteArray := prog_28_method_88_code
def yJ4_charAt_5068e : MethodName := ⟨RJ4, "charAt", "(I)C"⟩
abbrev cJ4_setLength_d00df : ByteArray := prog_28_method_89_code
def yJ4_setLength_d00df : MethodName := ⟨RJ4, "setLength", "(I)V"⟩
abbrev cJ4_length_8abf5 : ByteArray := prog_28_method_93_code
def yJ4_length_8abf5 : MethodName := ⟨RJ4, "length", "()I"⟩
def RJx7c733 : String := "java/lang/StringIndexOutOfBoundsException"
def TJx7c733 : u_T := fun k => match k with
  | 0 => ("java/lang/Throwable", "backtrace", "Ljava/lang/Object;", false)
  | 1 => ("java/lang/Throwable", "detailMessage", "Ljava/lang/String;", false)
  | 2 => ("java/lang/Throwable", "cause", "Ljava/lang/Throwable;", false)
  | 3 => ("java/lang/Throwable", "stackTrace", "[Ljava/lang/StackTraceElement;", false)
  | 4 => ("java/lang/Throwable", "depth", "I", false)
  | _ => ("java/lang/Throwable", "suppressedExceptions", "Ljava/util/List;", false)
def tyJx7c733 : Nat → FieldType := fun k => match k with
  | 0 => .object "java/lang/Object"
  | 1 => .object "java/lang/String"
  | 2 => .object "java/lang/Throwable"
  | 3 => .array (.object "java/lang/StackTraceElement")
  | 4 => .int
  | _ => .object "java/util/List"
theorem nmJx7c733 : ∀ a, a < 6 → ∀ b, b < 6 → a ≠ b → (TJx7c733 a).2.1 ≠ (TJx7c733 b).2.1 := by decide +kernel
theorem tyJx7c733_ok : ∀ k, k < 6 → parseFieldDescriptor (TJx7c733 k).2.2.1 = some (tyJx7c733 k) := by decide +kernel
abbrev cJx7c733_init_d00df : ByteArray := prog_29_method_3_code
def yJx7c733_init_d00df : MethodName := ⟨RJx7c733, "<init>", "(I)V"⟩
def RJ1 : String := "java/lang/StringLatin1"
def TJ1 : u_T := fun k => match k with
  | _ => ("", "", "", false)
def tyJ1 : Nat → FieldType := fun k => match k with
  | _ => .int
theorem nmJ1 : ∀ a, a < 0 → ∀ b, b < 0 → a ≠ b → (TJ1 a).2.1 ≠ (TJ1 b).2.1 := by decide +kernel
theorem tyJ1_ok : ∀ k, k < 0 → parseFieldDescriptor (TJ1 k).2.2.1 = some (tyJ1 k) := by decide +kernel
abbrev cJ1_charAt_3b067 : ByteArray := prog_30_method_2_code
def yJ1_charAt_3b067 : MethodName := ⟨RJ1, "charAt", "([BI)C"⟩
abbrev cJ1_canEncode_fc78d : ByteArray := prog_30_method_3_code
def yJ1_canEncode_fc78d : MethodName := ⟨RJ1, "canEncode", "(C)Z"⟩
abbrev cJ1_fillNull_b72d1 : ByteArray := prog_30_method_48_code
def yJ1_fillNull_b72d1 : MethodName := ⟨RJ1, "fillNull", "([BII)V"⟩
abbrev cJ1_inflate_0e8fd : ByteArray := prog_30_method_50_code
def yJ1_inflate_0e8fd : MethodName := ⟨RJ1, "inflate", "([BI[BII)V"⟩
def RJ2 : String := "java/lang/StringUTF16"
def TJ2 : u_T := fun k => match k with
  | _ => ("", "", "", false)
def tyJ2 : Nat → FieldType := fun k => match k with
  | _ => .int
theorem nmJ2 : ∀ a, a < 0 → ∀ b, b < 0 → a ≠ b → (TJ2 a).2.1 ≠ (TJ2 b).2.1 := by decide +kernel
theorem tyJ2_ok : ∀ k, k < 0 → parseFieldDescriptor (TJ2 k).2.2.1 = some (tyJ2 k) := by decide +kernel
abbrev cJ2_newBytesFor_77867 : ByteArray := prog_31_method_2_code
def yJ2_newBytesFor_77867 : MethodName := ⟨RJ2, "newBytesFor", "(I)[B"⟩
abbrev cJ2_newBytesLength_0f7a4 : ByteArray := prog_31_method_3_code
def yJ2_newBytesLength_0f7a4 : MethodName := ⟨RJ2, "newBytesLength", "(I)I"⟩
abbrev cJ2_putChar_b72d1 : ByteArray := prog_31_method_4_code
def yJ2_putChar_b72d1 : MethodName := ⟨RJ2, "putChar", "([BII)V"⟩
abbrev cJ2_getChar_3b067 : ByteArray := prog_31_method_5_code
def yJ2_getChar_3b067 : MethodName := ⟨RJ2, "getChar", "([BI)C"⟩
abbrev cJ2_length_9d52b : ByteArray := prog_31_method_6_code
def yJ2_length_9d52b : MethodName := ⟨RJ2, "length", "([B)I"⟩
abbrev cJ2_coderFromArrayLen_85cad : ByteArray := prog_31_method_15_code
def yJ2_coderFromArrayLen_85cad : MethodName := ⟨RJ2, "coderFromArrayLen", "([BI)B"⟩
abbrev cJ2_compress_39247 : ByteArray := prog_31_method_17_code
def yJ2_compress_39247 : MethodName := ⟨RJ2, "compress", "([BII)[B"⟩
abbrev cJ2_compress_5af95 : ByteArray := prog_31_method_22_code
def yJ2_compress_5af95 : MethodName := ⟨RJ2, "compress", "([BI[BII)I"⟩
abbrev cJ2_fillNull_b72d1 : ByteArray := prog_31_method_70_code
def yJ2_fillNull_b72d1 : MethodName := ⟨RJ2, "fillNull", "([BII)V"⟩
abbrev cJ2_putCharSB_b72d1 : ByteArray := prog_31_method_71_code
def yJ2_putCharSB_b72d1 : MethodName := ⟨RJ2, "putCharSB", "([BII)V"⟩
abbrev cJ2_getChars_46870 : ByteArray := prog_31_method_77_code
def yJ2_getChars_46870 : MethodName := ⟨RJ2, "getChars", "(III[B)I"⟩
abbrev cJ2_putCharsAt_cd4e5 : ByteArray := prog_31_method_81_code
def yJ2_putCharsAt_cd4e5 : MethodName := ⟨RJ2, "putCharsAt", "([BICCCC)I"⟩
abbrev cJ2_charAt_3b067 : ByteArray := prog_31_method_83_code
def yJ2_charAt_3b067 : MethodName := ⟨RJ2, "charAt", "([BI)C"⟩
abbrev cJ2_inflate_0e8fd : ByteArray := prog_31_method_86_code
def yJ2_inflate_0e8fd : MethodName := ⟨RJ2, "inflate", "([BI[BII)V"⟩
abbrev cJ2_getChars_ba4f3 : ByteArray := prog_31_method_89_code
def yJ2_getChars_ba4f3 : MethodName := ⟨RJ2, "getChars", "(II[B)I"⟩
abbrev cJ2_checkIndex_2214a : ByteArray := prog_31_method_91_code
def yJ2_checkIndex_2214a : MethodName := ⟨RJ2, "checkIndex", "(I[B)V"⟩
abbrev cJ2_checkBoundsBeginEnd_d044e : ByteArray := prog_31_method_93_code
def yJ2_checkBoundsBeginEnd_d044e : MethodName := ⟨RJ2, "checkBoundsBeginEnd", "(II[B)V"⟩
abbrev cJ2_checkBoundsOffCount_d044e : ByteArray := prog_31_method_94_code
def yJ2_checkBoundsOffCount_d044e : MethodName := ⟨RJ2, "checkBoundsOffCount", "(II[B)V"⟩
def RJ10 : String := "java/lang/System"
def TJ10 : u_T := fun k => match k with
  | _ => ("", "", "", false)
def tyJ10 : Nat → FieldType := fun k => match k with
  | _ => .int
theorem nmJ10 : ∀ a, a < 0 → ∀ b, b < 0 → a ≠ b → (TJ10 a).2.1 ≠ (TJ10 b).2.1 := by decide +kernel
theorem tyJ10_ok : ∀ k, k < 0 → parseFieldDescriptor (TJ10 k).2.2.1 = some (tyJ10 k) := by decide +kernel
def RJxfd54e : String := "java/lang/constant/Constable"
def TJxfd54e : u_T := fun k => match k with
  | _ => ("", "", "", false)
def tyJxfd54e : Nat → FieldType := fun k => match k with
  | _ => .int
theorem nmJxfd54e : ∀ a, a < 0 → ∀ b, b < 0 → a ≠ b → (TJxfd54e a).2.1 ≠ (TJxfd54e b).2.1 := by decide +kernel
theorem tyJxfd54e_ok : ∀ k, k < 0 → parseFieldDescriptor (TJxfd54e k).2.2.1 = some (tyJxfd54e k) := by decide +kernel
def RJx3cf43 : String := "java/lang/constant/ConstantDesc"
def TJx3cf43 : u_T := fun k => match k with
  | _ => ("", "", "", false)
def tyJx3cf43 : Nat → FieldType := fun k => match k with
  | _ => .int
theorem nmJx3cf43 : ∀ a, a < 0 → ∀ b, b < 0 → a ≠ b → (TJx3cf43 a).2.1 ≠ (TJx3cf43 b).2.1 := by decide +kernel
theorem tyJx3cf43_ok : ∀ k, k < 0 → parseFieldDescriptor (TJx3cf43 k).2.2.1 = some (tyJx3cf43 k) := by decide +kernel
def RJ7 : String := "java/util/Arrays"
def TJ7 : u_T := fun k => match k with
  | _ => ("", "", "", false)
def tyJ7 : Nat → FieldType := fun k => match k with
  | _ => .int
theorem nmJ7 : ∀ a, a < 0 → ∀ b, b < 0 → a ≠ b → (TJ7 a).2.1 ≠ (TJ7 b).2.1 := by decide +kernel
theorem tyJ7_ok : ∀ k, k < 0 → parseFieldDescriptor (TJ7 k).2.2.1 = some (tyJ7 k) := by decide +kernel
abbrev cJ7_rangeCheck_23922 : ByteArray := prog_37_method_30_code
def yJ7_rangeCheck_23922 : MethodName := ⟨RJ7, "rangeCheck", "(III)V"⟩
abbrev cJ7_fill_eb02e : ByteArray := prog_37_method_110_code
def yJ7_fill_eb02e : MethodName := ⟨RJ7, "fill", "([BIIB)V"⟩
abbrev cJ7_copyOf_9075b : ByteArray := prog_37_method_121_code
def yJ7_copyOf_9075b : MethodName := ⟨RJ7, "copyOf", "([BI)[B"⟩
abbrev cJ7_checkLength_df160 : ByteArray := prog_37_method_131_code
def yJ7_checkLength_df160 : MethodName := ⟨RJ7, "checkLength", "(II)V"⟩
abbrev cJ7_copyOfRange_39247 : ByteArray := prog_37_method_132_code
def yJ7_copyOfRange_39247 : MethodName := ⟨RJ7, "copyOfRange", "([BII)[B"⟩
abbrev cJ7_copyOfRangeByte_39247 : ByteArray := prog_37_method_133_code
def yJ7_copyOfRangeByte_39247 : MethodName := ⟨RJ7, "copyOfRangeByte", "([BII)[B"⟩
def RJ8 : String := "jdk/internal/util/ArraysSupport"
def TJ8 : u_T := fun k => match k with
  | _ => ("", "", "", false)
def tyJ8 : Nat → FieldType := fun k => match k with
  | _ => .int
theorem nmJ8 : ∀ a, a < 0 → ∀ b, b < 0 → a ≠ b → (TJ8 a).2.1 ≠ (TJ8 b).2.1 := by decide +kernel
theorem tyJ8_ok : ∀ k, k < 0 → parseFieldDescriptor (TJ8 k).2.2.1 = some (tyJ8 k) := by decide +kernel
abbrev cJ8_newLength_cabcc : ByteArray := prog_39_method_27_code
def yJ8_newLength_cabcc : MethodName := ⟨RJ8, "newLength", "(III)I"⟩
abbrev cJ8_hugeLength_7cf53 : ByteArray := prog_39_method_28_code
def yJ8_hugeLength_7cf53 : MethodName := ⟨RJ8, "hugeLength", "(II)I"⟩
def RJ3 : String := "jdk/internal/util/Preconditions"
def TJ3 : u_T := fun k => match k with
  | _ => ("", "", "", false)
def tyJ3 : Nat → FieldType := fun k => match k with
  | _ => .int
theorem nmJ3 : ∀ a, a < 0 → ∀ b, b < 0 → a ≠ b → (TJ3 a).2.1 ≠ (TJ3 b).2.1 := by decide +kernel
theorem tyJ3_ok : ∀ k, k < 0 → parseFieldDescriptor (TJ3 k).2.2.1 = some (tyJ3 k) := by decide +kernel
abbrev cJ3_checkIndex_8e157 : ByteArray := prog_40_method_11_code
def yJ3_checkIndex_8e157 : MethodName := ⟨RJ3, "checkIndex", "(IILjava/util/function/BiFunction;)I"⟩
abbrev cJ3_checkFromToIndex_8c36e : ByteArray := prog_40_method_12_code
def yJ3_checkFromToIndex_8c36e : MethodName := ⟨RJ3, "checkFromToIndex", "(IIILjava/util/function/BiFunction;)I"⟩
abbrev cJ3_checkFromIndexSize_8c36e : ByteArray := prog_40_method_13_code
def yJ3_checkFromIndexSize_8c36e : MethodName := ⟨RJ3, "checkFromIndexSize", "(IIILjava/util/function/BiFunction;)I"⟩
def RL : String := "CometObservatoryLaw"
abbrev cL_addComet : ByteArray := method_3_code
def yL_addComet : MethodName := ⟨RL, "addComet", "(LCometObservatory;III[J)I"⟩
abbrev cL_remove : ByteArray := method_4_code
def yL_remove : MethodName := ⟨RL, "remove", "(LCometObservatory;I[J)I"⟩
abbrev cL_setPeriod : ByteArray := method_5_code
def yL_setPeriod : MethodName := ⟨RL, "setPeriod", "(LCometObservatory;II[J)I"⟩
abbrev cL_brighten : ByteArray := method_6_code
def yL_brighten : MethodName := ⟨RL, "brighten", "(LCometObservatory;II[J)I"⟩
abbrev cL_passDays : ByteArray := method_7_code
def yL_passDays : MethodName := ⟨RL, "passDays", "(LCometObservatory;I[J)I"⟩
abbrev cL_clean : ByteArray := method_8_code
def yL_clean : MethodName := ⟨RL, "clean", "(LCometObservatory;II[J)I"⟩
abbrev cL_setRate : ByteArray := method_9_code
def yL_setRate : MethodName := ⟨RL, "setRate", "(LCometObservatory;I[J)I"⟩
abbrev cL_cometAt : ByteArray := method_10_code
def yL_cometAt : MethodName := ⟨RL, "cometAt", "(LCometObservatory;I[J)I"⟩
abbrev cL_period : ByteArray := method_11_code
def yL_period : MethodName := ⟨RL, "period", "(LCometObservatory;I[J)I"⟩
abbrev cL_brightness : ByteArray := method_12_code
def yL_brightness : MethodName := ⟨RL, "brightness", "(LCometObservatory;I[J)I"⟩
abbrev cL_tail : ByteArray := method_13_code
def yL_tail : MethodName := ⟨RL, "tail", "(LCometObservatory;I[J)I"⟩
abbrev cL_nextPass : ByteArray := method_14_code
def yL_nextPass : MethodName := ⟨RL, "nextPass", "(LCometObservatory;I[J)I"⟩
abbrev cL_passesOf : ByteArray := method_15_code
def yL_passesOf : MethodName := ⟨RL, "passesOf", "(LCometObservatory;I[J)I"⟩
abbrev cL_lastPass : ByteArray := method_16_code
def yL_lastPass : MethodName := ⟨RL, "lastPass", "(LCometObservatory;I[J)I"⟩
abbrev cL_cometAtRank : ByteArray := method_17_code
def yL_cometAtRank : MethodName := ⟨RL, "cometAtRank", "(LCometObservatory;I[J)I"⟩
abbrev cL_passesIn : ByteArray := method_18_code
def yL_passesIn : MethodName := ⟨RL, "passesIn", "(LCometObservatory;I[J)I"⟩
abbrev cL_nextMeeting : ByteArray := method_19_code
def yL_nextMeeting : MethodName := ⟨RL, "nextMeeting", "(LCometObservatory;II[J)I"⟩
abbrev cL_nextMeetingByRemainders : ByteArray := method_20_code
def yL_nextMeetingByRemainders : MethodName := ⟨RL, "nextMeetingByRemainders", "(LCometObservatory;II[J)I"⟩
abbrev cL_alignment : ByteArray := method_21_code
def yL_alignment : MethodName := ⟨RL, "alignment", "(LCometObservatory;[J)I"⟩
abbrev cL_bestWorth : ByteArray := method_22_code
def yL_bestWorth : MethodName := ⟨RL, "bestWorth", "(LCometObservatory;I[J)I"⟩
abbrev cL_bestWorthByDays : ByteArray := method_23_code
def yL_bestWorthByDays : MethodName := ⟨RL, "bestWorthByDays", "(LCometObservatory;I[J)I"⟩
abbrev cL_fewestPasses : ByteArray := method_24_code
def yL_fewestPasses : MethodName := ⟨RL, "fewestPasses", "(LCometObservatory;I[J)I"⟩
abbrev cL_dust : ByteArray := method_25_code
def yL_dust : MethodName := ⟨RL, "dust", "(LCometObservatory;I[J)I"⟩
abbrev cL_gain : ByteArray := method_26_code
def yL_gain : MethodName := ⟨RL, "gain", "(LCometObservatory;II[J)I"⟩
abbrev cL_meanBrightness : ByteArray := method_27_code
def yL_meanBrightness : MethodName := ⟨RL, "meanBrightness", "(LCometObservatory;[D)I"⟩
abbrev cL_append : ByteArray := method_28_code
def yL_append : MethodName := ⟨RL, "append", "(LCometObservatory;C[J)I"⟩
abbrev cL_run : ByteArray := method_29_code
def yL_run : MethodName := ⟨RL, "run", "(LCometObservatory;[J)I"⟩
abbrev cL_errorPosition : ByteArray := method_30_code
def yL_errorPosition : MethodName := ⟨RL, "errorPosition", "(LCometObservatory;[J)I"⟩
abbrev cL_failedCommand : ByteArray := method_31_code
def yL_failedCommand : MethodName := ⟨RL, "failedCommand", "(LCometObservatory;[J)I"⟩
abbrev cL_writeComet : ByteArray := method_32_code
def yL_writeComet : MethodName := ⟨RL, "writeComet", "(LCometObservatory;I[J)I"⟩
abbrev cL_outputAt : ByteArray := method_33_code
def yL_outputAt : MethodName := ⟨RL, "outputAt", "(LCometObservatory;I[J)I"⟩
abbrev cL_undo : ByteArray := method_34_code
def yL_undo : MethodName := ⟨RL, "undo", "(LCometObservatory;[J)I"⟩
abbrev cL_restore : ByteArray := method_35_code
def yL_restore : MethodName := ⟨RL, "restore", "(LCometObservatory;)I"⟩
abbrev cL_law : ByteArray := code
def yL_law : MethodName := ⟨RL, "law", "([I)Z"⟩
abbrev vwCl : List vw_C := [(RJ0, TJ0, 4), (RJ4, TJ4, 4), (RJx00060, TJx00060, 6), (RJx7c733, TJx7c733, 6), (RX0, TX0, 5), (RX1, TX1, 3), (RX3, TX3, 6), (RX4, TX4, 6), (RX5, TX5, 9), (RX6, TX6, 7), (RX7, TX7, 10), (RX8, TX8, 17)]
end
section
theorem dX0_init_0 : decode cX0_init 0 = .ok (.aload_n 0, 1) := by decide +kernel
theorem dX0_init_1 : decode cX0_init 1 = .ok (.invokespecial 3, 3) := by decide +kernel
theorem dX0_init_4 : decode cX0_init 4 = .ok (.return_, 1) := by decide +kernel
theorem dX0_copyFrom_0 : decode cX0_copyFrom 0 = .ok (.aload_n 0, 1) := by decide +kernel
theorem dX0_copyFrom_1 : decode cX0_copyFrom 1 = .ok (.aload_n 1, 1) := by decide +kernel
theorem dX0_copyFrom_2 : decode cX0_copyFrom 2 = .ok (.getfield 9, 3) := by decide +kernel
theorem dX0_copyFrom_5 : decode cX0_copyFrom 5 = .ok (.putfield 9, 3) := by decide +kernel
theorem dX0_copyFrom_8 : decode cX0_copyFrom 8 = .ok (.aload_n 0, 1) := by decide +kernel
theorem dX0_copyFrom_9 : decode cX0_copyFrom 9 = .ok (.aload_n 1, 1) := by decide +kernel
theorem dX0_copyFrom_10 : decode cX0_copyFrom 10 = .ok (.getfield 15, 3) := by decide +kernel
theorem dX0_copyFrom_13 : decode cX0_copyFrom 13 = .ok (.putfield 15, 3) := by decide +kernel
theorem dX0_copyFrom_16 : decode cX0_copyFrom 16 = .ok (.aload_n 0, 1) := by decide +kernel
theorem dX0_copyFrom_17 : decode cX0_copyFrom 17 = .ok (.aload_n 1, 1) := by decide +kernel
theorem dX0_copyFrom_18 : decode cX0_copyFrom 18 = .ok (.getfield 18, 3) := by decide +kernel
theorem dX0_copyFrom_21 : decode cX0_copyFrom 21 = .ok (.putfield 18, 3) := by decide +kernel
theorem dX0_copyFrom_24 : decode cX0_copyFrom 24 = .ok (.aload_n 0, 1) := by decide +kernel
theorem dX0_copyFrom_25 : decode cX0_copyFrom 25 = .ok (.aload_n 1, 1) := by decide +kernel
theorem dX0_copyFrom_26 : decode cX0_copyFrom 26 = .ok (.getfield 21, 3) := by decide +kernel
theorem dX0_copyFrom_29 : decode cX0_copyFrom 29 = .ok (.putfield 21, 3) := by decide +kernel
theorem dX0_copyFrom_32 : decode cX0_copyFrom 32 = .ok (.aload_n 0, 1) := by decide +kernel
theorem dX0_copyFrom_33 : decode cX0_copyFrom 33 = .ok (.aload_n 1, 1) := by decide +kernel
theorem dX0_copyFrom_34 : decode cX0_copyFrom 34 = .ok (.getfield 24, 3) := by decide +kernel
theorem dX0_copyFrom_37 : decode cX0_copyFrom 37 = .ok (.putfield 24, 3) := by decide +kernel
theorem dX0_copyFrom_40 : decode cX0_copyFrom 40 = .ok (.return_, 1) := by decide +kernel
theorem dX0_canTake_0 : decode cX0_canTake 0 = .ok (.aload_n 0, 1) := by decide +kernel
theorem dX0_canTake_1 : decode cX0_canTake 1 = .ok (.getfield 18, 3) := by decide +kernel
theorem dX0_canTake_4 : decode cX0_canTake 4 = .ok (.iload_n 1, 1) := by decide +kernel
theorem dX0_canTake_5 : decode cX0_canTake 5 = .ok (.iadd, 1) := by decide +kernel
theorem dX0_canTake_6 : decode cX0_canTake 6 = .ok (.bipush 20, 2) := by decide +kernel
theorem dX0_canTake_8 : decode cX0_canTake 8 = .ok (.if_icmp .gt 7, 3) := by decide +kernel
theorem dX0_canTake_11 : decode cX0_canTake 11 = .ok (.iconst 1, 1) := by decide +kernel
theorem dX0_canTake_12 : decode cX0_canTake 12 = .ok (.goto 4, 3) := by decide +kernel
theorem dX0_canTake_15 : decode cX0_canTake 15 = .ok (.iconst 0, 1) := by decide +kernel
theorem dX0_canTake_16 : decode cX0_canTake 16 = .ok (.ireturn, 1) := by decide +kernel
theorem dX0_passesUpTo_0 : decode cX0_passesUpTo 0 = .ok (.iload_n 1, 1) := by decide +kernel
theorem dX0_passesUpTo_1 : decode cX0_passesUpTo 1 = .ok (.aload_n 0, 1) := by decide +kernel
theorem dX0_passesUpTo_2 : decode cX0_passesUpTo 2 = .ok (.getfield 21, 3) := by decide +kernel
theorem dX0_passesUpTo_5 : decode cX0_passesUpTo 5 = .ok (.if_icmp .lt 11, 3) := by decide +kernel
theorem dX0_passesUpTo_8 : decode cX0_passesUpTo 8 = .ok (.aload_n 0, 1) := by decide +kernel
theorem dX0_passesUpTo_9 : decode cX0_passesUpTo 9 = .ok (.getfield 15, 3) := by decide +kernel
theorem dX0_passesUpTo_12 : decode cX0_passesUpTo 12 = .ok (.iconst 1, 1) := by decide +kernel
theorem dX0_passesUpTo_13 : decode cX0_passesUpTo 13 = .ok (.if_icmp .ge 5, 3) := by decide +kernel
theorem dX0_passesUpTo_16 : decode cX0_passesUpTo 16 = .ok (.iconst 0, 1) := by decide +kernel
theorem dX0_passesUpTo_17 : decode cX0_passesUpTo 17 = .ok (.ireturn, 1) := by decide +kernel
theorem dX0_passesUpTo_18 : decode cX0_passesUpTo 18 = .ok (.aload_n 0, 1) := by decide +kernel
theorem dX0_passesUpTo_19 : decode cX0_passesUpTo 19 = .ok (.getfield 18, 3) := by decide +kernel
theorem dX0_passesUpTo_22 : decode cX0_passesUpTo 22 = .ok (.iconst 1, 1) := by decide +kernel
theorem dX0_passesUpTo_23 : decode cX0_passesUpTo 23 = .ok (.iload_n 1, 1) := by decide +kernel
theorem dX0_passesUpTo_24 : decode cX0_passesUpTo 24 = .ok (.aload_n 0, 1) := by decide +kernel
theorem dX0_passesUpTo_25 : decode cX0_passesUpTo 25 = .ok (.getfield 21, 3) := by decide +kernel
theorem dX0_passesUpTo_28 : decode cX0_passesUpTo 28 = .ok (.isub, 1) := by decide +kernel
theorem dX0_passesUpTo_29 : decode cX0_passesUpTo 29 = .ok (.aload_n 0, 1) := by decide +kernel
theorem dX0_passesUpTo_30 : decode cX0_passesUpTo 30 = .ok (.getfield 15, 3) := by decide +kernel
theorem dX0_passesUpTo_33 : decode cX0_passesUpTo 33 = .ok (.idiv, 1) := by decide +kernel
theorem dX0_passesUpTo_34 : decode cX0_passesUpTo 34 = .ok (.iadd, 1) := by decide +kernel
theorem dX0_passesUpTo_35 : decode cX0_passesUpTo 35 = .ok (.invokestatic 27, 3) := by decide +kernel
theorem dX0_passesUpTo_38 : decode cX0_passesUpTo 38 = .ok (.ireturn, 1) := by decide +kernel
theorem dX0_ranksBefore_0 : decode cX0_ranksBefore 0 = .ok (.aload_n 0, 1) := by decide +kernel
theorem dX0_ranksBefore_1 : decode cX0_ranksBefore 1 = .ok (.getfield 18, 3) := by decide +kernel
theorem dX0_ranksBefore_4 : decode cX0_ranksBefore 4 = .ok (.aload_n 1, 1) := by decide +kernel
theorem dX0_ranksBefore_5 : decode cX0_ranksBefore 5 = .ok (.getfield 18, 3) := by decide +kernel
theorem dX0_ranksBefore_8 : decode cX0_ranksBefore 8 = .ok (.if_icmp .eq 20, 3) := by decide +kernel
theorem dX0_ranksBefore_11 : decode cX0_ranksBefore 11 = .ok (.aload_n 0, 1) := by decide +kernel
theorem dX0_ranksBefore_12 : decode cX0_ranksBefore 12 = .ok (.getfield 18, 3) := by decide +kernel
theorem dX0_ranksBefore_15 : decode cX0_ranksBefore 15 = .ok (.aload_n 1, 1) := by decide +kernel
theorem dX0_ranksBefore_16 : decode cX0_ranksBefore 16 = .ok (.getfield 18, 3) := by decide +kernel
theorem dX0_ranksBefore_19 : decode cX0_ranksBefore 19 = .ok (.if_icmp .le 7, 3) := by decide +kernel
theorem dX0_ranksBefore_22 : decode cX0_ranksBefore 22 = .ok (.iconst 1, 1) := by decide +kernel
theorem dX0_ranksBefore_23 : decode cX0_ranksBefore 23 = .ok (.goto 4, 3) := by decide +kernel
theorem dX0_ranksBefore_26 : decode cX0_ranksBefore 26 = .ok (.iconst 0, 1) := by decide +kernel
theorem dX0_ranksBefore_27 : decode cX0_ranksBefore 27 = .ok (.ireturn, 1) := by decide +kernel
theorem dX0_ranksBefore_28 : decode cX0_ranksBefore 28 = .ok (.aload_n 0, 1) := by decide +kernel
theorem dX0_ranksBefore_29 : decode cX0_ranksBefore 29 = .ok (.getfield 21, 3) := by decide +kernel
theorem dX0_ranksBefore_32 : decode cX0_ranksBefore 32 = .ok (.aload_n 1, 1) := by decide +kernel
theorem dX0_ranksBefore_33 : decode cX0_ranksBefore 33 = .ok (.getfield 21, 3) := by decide +kernel
theorem dX0_ranksBefore_36 : decode cX0_ranksBefore 36 = .ok (.if_icmp .eq 20, 3) := by decide +kernel
theorem dX0_ranksBefore_39 : decode cX0_ranksBefore 39 = .ok (.aload_n 0, 1) := by decide +kernel
theorem dX0_ranksBefore_40 : decode cX0_ranksBefore 40 = .ok (.getfield 21, 3) := by decide +kernel
theorem dX0_ranksBefore_43 : decode cX0_ranksBefore 43 = .ok (.aload_n 1, 1) := by decide +kernel
theorem dX0_ranksBefore_44 : decode cX0_ranksBefore 44 = .ok (.getfield 21, 3) := by decide +kernel
theorem dX0_ranksBefore_47 : decode cX0_ranksBefore 47 = .ok (.if_icmp .ge 7, 3) := by decide +kernel
theorem dX0_ranksBefore_50 : decode cX0_ranksBefore 50 = .ok (.iconst 1, 1) := by decide +kernel
theorem dX0_ranksBefore_51 : decode cX0_ranksBefore 51 = .ok (.goto 4, 3) := by decide +kernel
theorem dX0_ranksBefore_54 : decode cX0_ranksBefore 54 = .ok (.iconst 0, 1) := by decide +kernel
theorem dX0_ranksBefore_55 : decode cX0_ranksBefore 55 = .ok (.ireturn, 1) := by decide +kernel
theorem dX0_ranksBefore_56 : decode cX0_ranksBefore 56 = .ok (.aload_n 0, 1) := by decide +kernel
theorem dX0_ranksBefore_57 : decode cX0_ranksBefore 57 = .ok (.getfield 9, 3) := by decide +kernel
theorem dX0_ranksBefore_60 : decode cX0_ranksBefore 60 = .ok (.aload_n 1, 1) := by decide +kernel
theorem dX0_ranksBefore_61 : decode cX0_ranksBefore 61 = .ok (.getfield 9, 3) := by decide +kernel
theorem dX0_ranksBefore_64 : decode cX0_ranksBefore 64 = .ok (.if_icmp .ge 7, 3) := by decide +kernel
theorem dX0_ranksBefore_67 : decode cX0_ranksBefore 67 = .ok (.iconst 1, 1) := by decide +kernel
theorem dX0_ranksBefore_68 : decode cX0_ranksBefore 68 = .ok (.goto 4, 3) := by decide +kernel
theorem dX0_ranksBefore_71 : decode cX0_ranksBefore 71 = .ok (.iconst 0, 1) := by decide +kernel
theorem dX0_ranksBefore_72 : decode cX0_ranksBefore 72 = .ok (.ireturn, 1) := by decide +kernel
theorem dX1_init_0 : decode cX1_init 0 = .ok (.aload_n 0, 1) := by decide +kernel
theorem dX1_init_1 : decode cX1_init 1 = .ok (.invokespecial 3, 3) := by decide +kernel
theorem dX1_init_4 : decode cX1_init 4 = .ok (.aload_n 0, 1) := by decide +kernel
theorem dX1_init_5 : decode cX1_init 5 = .ok (.bipush 8, 2) := by decide +kernel
theorem dX1_init_7 : decode cX1_init 7 = .ok (.anewarray 9, 3) := by decide +kernel
theorem dX1_init_10 : decode cX1_init 10 = .ok (.putfield 11, 3) := by decide +kernel
theorem dX1_init_13 : decode cX1_init 13 = .ok (.iconst 0, 1) := by decide +kernel
theorem dX1_init_14 : decode cX1_init 14 = .ok (.istore_n 1, 1) := by decide +kernel
theorem dX1_init_15 : decode cX1_init 15 = .ok (.iload_n 1, 1) := by decide +kernel
theorem dX1_init_16 : decode cX1_init 16 = .ok (.bipush 8, 2) := by decide +kernel
theorem dX1_init_18 : decode cX1_init 18 = .ok (.if_icmp .ge 22, 3) := by decide +kernel
theorem dX1_init_21 : decode cX1_init 21 = .ok (.aload_n 0, 1) := by decide +kernel
theorem dX1_init_22 : decode cX1_init 22 = .ok (.getfield 11, 3) := by decide +kernel
theorem dX1_init_25 : decode cX1_init 25 = .ok (.iload_n 1, 1) := by decide +kernel
theorem dX1_init_26 : decode cX1_init 26 = .ok (.new 9, 3) := by decide +kernel
theorem dX1_init_29 : decode cX1_init 29 = .ok (.dup, 1) := by decide +kernel
theorem dX1_init_30 : decode cX1_init 30 = .ok (.invokespecial 17, 3) := by decide +kernel
theorem dX1_init_33 : decode cX1_init 33 = .ok (.aastore, 1) := by decide +kernel
theorem dX1_init_34 : decode cX1_init 34 = .ok (.iinc 1 1, 3) := by decide +kernel
theorem dX1_init_37 : decode cX1_init 37 = .ok (.goto (-22), 3) := by decide +kernel
theorem dX1_init_40 : decode cX1_init 40 = .ok (.return_, 1) := by decide +kernel
theorem dX1_push_0 : decode cX1_push 0 = .ok (.aload_n 0, 1) := by decide +kernel
theorem dX1_push_1 : decode cX1_push 1 = .ok (.getfield 11, 3) := by decide +kernel
theorem dX1_push_4 : decode cX1_push 4 = .ok (.aload_n 0, 1) := by decide +kernel
theorem dX1_push_5 : decode cX1_push 5 = .ok (.getfield 18, 3) := by decide +kernel
theorem dX1_push_8 : decode cX1_push 8 = .ok (.aload_n 0, 1) := by decide +kernel
theorem dX1_push_9 : decode cX1_push 9 = .ok (.getfield 22, 3) := by decide +kernel
theorem dX1_push_12 : decode cX1_push 12 = .ok (.iadd, 1) := by decide +kernel
theorem dX1_push_13 : decode cX1_push 13 = .ok (.bipush 8, 2) := by decide +kernel
theorem dX1_push_15 : decode cX1_push 15 = .ok (.invokestatic 25, 3) := by decide +kernel
theorem dX1_push_18 : decode cX1_push 18 = .ok (.aaload, 1) := by decide +kernel
theorem dX1_push_19 : decode cX1_push 19 = .ok (.aload_n 1, 1) := by decide +kernel
theorem dX1_push_20 : decode cX1_push 20 = .ok (.invokevirtual 31, 3) := by decide +kernel
theorem dX1_push_23 : decode cX1_push 23 = .ok (.aload_n 0, 1) := by decide +kernel
theorem dX1_push_24 : decode cX1_push 24 = .ok (.getfield 22, 3) := by decide +kernel
theorem dX1_push_27 : decode cX1_push 27 = .ok (.bipush 8, 2) := by decide +kernel
theorem dX1_push_29 : decode cX1_push 29 = .ok (.if_icmp .ge 16, 3) := by decide +kernel
theorem dX1_push_32 : decode cX1_push 32 = .ok (.aload_n 0, 1) := by decide +kernel
theorem dX1_push_33 : decode cX1_push 33 = .ok (.dup, 1) := by decide +kernel
theorem dX1_push_34 : decode cX1_push 34 = .ok (.getfield 22, 3) := by decide +kernel
theorem dX1_push_37 : decode cX1_push 37 = .ok (.iconst 1, 1) := by decide +kernel
theorem dX1_push_38 : decode cX1_push 38 = .ok (.iadd, 1) := by decide +kernel
theorem dX1_push_39 : decode cX1_push 39 = .ok (.putfield 22, 3) := by decide +kernel
theorem dX1_push_42 : decode cX1_push 42 = .ok (.goto 18, 3) := by decide +kernel
theorem dX1_push_45 : decode cX1_push 45 = .ok (.aload_n 0, 1) := by decide +kernel
theorem dX1_push_46 : decode cX1_push 46 = .ok (.aload_n 0, 1) := by decide +kernel
theorem dX1_push_47 : decode cX1_push 47 = .ok (.getfield 18, 3) := by decide +kernel
theorem dX1_push_50 : decode cX1_push 50 = .ok (.iconst 1, 1) := by decide +kernel
theorem dX1_push_51 : decode cX1_push 51 = .ok (.iadd, 1) := by decide +kernel
theorem dX1_push_52 : decode cX1_push 52 = .ok (.bipush 8, 2) := by decide +kernel
theorem dX1_push_54 : decode cX1_push 54 = .ok (.invokestatic 25, 3) := by decide +kernel
theorem dX1_push_57 : decode cX1_push 57 = .ok (.putfield 18, 3) := by decide +kernel
theorem dX1_push_60 : decode cX1_push 60 = .ok (.return_, 1) := by decide +kernel
theorem dX1_popInto_0 : decode cX1_popInto 0 = .ok (.aload_n 0, 1) := by decide +kernel
theorem dX1_popInto_1 : decode cX1_popInto 1 = .ok (.getfield 22, 3) := by decide +kernel
theorem dX1_popInto_4 : decode cX1_popInto 4 = .ok (.ifCond .le 36, 3) := by decide +kernel
theorem dX1_popInto_7 : decode cX1_popInto 7 = .ok (.aload_n 0, 1) := by decide +kernel
theorem dX1_popInto_8 : decode cX1_popInto 8 = .ok (.dup, 1) := by decide +kernel
theorem dX1_popInto_9 : decode cX1_popInto 9 = .ok (.getfield 22, 3) := by decide +kernel
theorem dX1_popInto_12 : decode cX1_popInto 12 = .ok (.iconst 1, 1) := by decide +kernel
theorem dX1_popInto_13 : decode cX1_popInto 13 = .ok (.isub, 1) := by decide +kernel
theorem dX1_popInto_14 : decode cX1_popInto 14 = .ok (.putfield 22, 3) := by decide +kernel
theorem dX1_popInto_17 : decode cX1_popInto 17 = .ok (.aload_n 1, 1) := by decide +kernel
theorem dX1_popInto_18 : decode cX1_popInto 18 = .ok (.aload_n 0, 1) := by decide +kernel
theorem dX1_popInto_19 : decode cX1_popInto 19 = .ok (.getfield 11, 3) := by decide +kernel
theorem dX1_popInto_22 : decode cX1_popInto 22 = .ok (.aload_n 0, 1) := by decide +kernel
theorem dX1_popInto_23 : decode cX1_popInto 23 = .ok (.getfield 18, 3) := by decide +kernel
theorem dX1_popInto_26 : decode cX1_popInto 26 = .ok (.aload_n 0, 1) := by decide +kernel
theorem dX1_popInto_27 : decode cX1_popInto 27 = .ok (.getfield 22, 3) := by decide +kernel
theorem dX1_popInto_30 : decode cX1_popInto 30 = .ok (.iadd, 1) := by decide +kernel
theorem dX1_popInto_31 : decode cX1_popInto 31 = .ok (.bipush 8, 2) := by decide +kernel
theorem dX1_popInto_33 : decode cX1_popInto 33 = .ok (.invokestatic 25, 3) := by decide +kernel
theorem dX1_popInto_36 : decode cX1_popInto 36 = .ok (.aaload, 1) := by decide +kernel
theorem dX1_popInto_37 : decode cX1_popInto 37 = .ok (.invokevirtual 31, 3) := by decide +kernel
theorem dX1_popInto_40 : decode cX1_popInto 40 = .ok (.return_, 1) := by decide +kernel
theorem dX2_byWalking_0 : decode cX2_byWalking 0 = .ok (.aload_n 0, 1) := by decide +kernel
theorem dX2_byWalking_1 : decode cX2_byWalking 1 = .ok (.getfield 9, 3) := by decide +kernel
theorem dX2_byWalking_4 : decode cX2_byWalking 4 = .ok (.istore_n 2, 1) := by decide +kernel
theorem dX2_byWalking_5 : decode cX2_byWalking 5 = .ok (.aload_n 1, 1) := by decide +kernel
theorem dX2_byWalking_6 : decode cX2_byWalking 6 = .ok (.getfield 9, 3) := by decide +kernel
theorem dX2_byWalking_9 : decode cX2_byWalking 9 = .ok (.istore_n 3, 1) := by decide +kernel
theorem dX2_byWalking_10 : decode cX2_byWalking 10 = .ok (.aload_n 0, 1) := by decide +kernel
theorem dX2_byWalking_11 : decode cX2_byWalking 11 = .ok (.getfield 15, 3) := by decide +kernel
theorem dX2_byWalking_14 : decode cX2_byWalking 14 = .ok (.aload_n 1, 1) := by decide +kernel
theorem dX2_byWalking_15 : decode cX2_byWalking 15 = .ok (.getfield 15, 3) := by decide +kernel
theorem dX2_byWalking_18 : decode cX2_byWalking 18 = .ok (.iadd, 1) := by decide +kernel
theorem dX2_byWalking_19 : decode cX2_byWalking 19 = .ok (.iload_n 2, 1) := by decide +kernel
theorem dX2_byWalking_20 : decode cX2_byWalking 20 = .ok (.iload_n 3, 1) := by decide +kernel
theorem dX2_byWalking_21 : decode cX2_byWalking 21 = .ok (.isub, 1) := by decide +kernel
theorem dX2_byWalking_22 : decode cX2_byWalking 22 = .ok (.invokestatic 18, 3) := by decide +kernel
theorem dX2_byWalking_25 : decode cX2_byWalking 25 = .ok (.iadd, 1) := by decide +kernel
theorem dX2_byWalking_26 : decode cX2_byWalking 26 = .ok (.istore 4, 2) := by decide +kernel
theorem dX2_byWalking_28 : decode cX2_byWalking 28 = .ok (.iconst 0, 1) := by decide +kernel
theorem dX2_byWalking_29 : decode cX2_byWalking 29 = .ok (.istore 5, 2) := by decide +kernel
theorem dX2_byWalking_31 : decode cX2_byWalking 31 = .ok (.iload 5, 2) := by decide +kernel
theorem dX2_byWalking_33 : decode cX2_byWalking 33 = .ok (.iload 4, 2) := by decide +kernel
theorem dX2_byWalking_35 : decode cX2_byWalking 35 = .ok (.if_icmp .ge 36, 3) := by decide +kernel
theorem dX2_byWalking_38 : decode cX2_byWalking 38 = .ok (.iload_n 2, 1) := by decide +kernel
theorem dX2_byWalking_39 : decode cX2_byWalking 39 = .ok (.iload_n 3, 1) := by decide +kernel
theorem dX2_byWalking_40 : decode cX2_byWalking 40 = .ok (.if_icmp .eq 31, 3) := by decide +kernel
theorem dX2_byWalking_43 : decode cX2_byWalking 43 = .ok (.iload_n 2, 1) := by decide +kernel
theorem dX2_byWalking_44 : decode cX2_byWalking 44 = .ok (.iload_n 3, 1) := by decide +kernel
theorem dX2_byWalking_45 : decode cX2_byWalking 45 = .ok (.if_icmp .ge 13, 3) := by decide +kernel
theorem dX2_byWalking_48 : decode cX2_byWalking 48 = .ok (.iload_n 2, 1) := by decide +kernel
theorem dX2_byWalking_49 : decode cX2_byWalking 49 = .ok (.aload_n 0, 1) := by decide +kernel
theorem dX2_byWalking_50 : decode cX2_byWalking 50 = .ok (.getfield 15, 3) := by decide +kernel
theorem dX2_byWalking_53 : decode cX2_byWalking 53 = .ok (.iadd, 1) := by decide +kernel
theorem dX2_byWalking_54 : decode cX2_byWalking 54 = .ok (.istore_n 2, 1) := by decide +kernel
theorem dX2_byWalking_55 : decode cX2_byWalking 55 = .ok (.goto 10, 3) := by decide +kernel
theorem dX2_byWalking_58 : decode cX2_byWalking 58 = .ok (.iload_n 3, 1) := by decide +kernel
theorem dX2_byWalking_59 : decode cX2_byWalking 59 = .ok (.aload_n 1, 1) := by decide +kernel
theorem dX2_byWalking_60 : decode cX2_byWalking 60 = .ok (.getfield 15, 3) := by decide +kernel
theorem dX2_byWalking_63 : decode cX2_byWalking 63 = .ok (.iadd, 1) := by decide +kernel
theorem dX2_byWalking_64 : decode cX2_byWalking 64 = .ok (.istore_n 3, 1) := by decide +kernel
theorem dX2_byWalking_65 : decode cX2_byWalking 65 = .ok (.iinc 5 1, 3) := by decide +kernel
theorem dX2_byWalking_68 : decode cX2_byWalking 68 = .ok (.goto (-37), 3) := by decide +kernel
theorem dX2_byWalking_71 : decode cX2_byWalking 71 = .ok (.iload_n 2, 1) := by decide +kernel
theorem dX2_byWalking_72 : decode cX2_byWalking 72 = .ok (.iload_n 3, 1) := by decide +kernel
theorem dX2_byWalking_73 : decode cX2_byWalking 73 = .ok (.if_icmp .ne 7, 3) := by decide +kernel
theorem dX2_byWalking_76 : decode cX2_byWalking 76 = .ok (.iload_n 2, 1) := by decide +kernel
theorem dX2_byWalking_77 : decode cX2_byWalking 77 = .ok (.goto 4, 3) := by decide +kernel
theorem dX2_byWalking_80 : decode cX2_byWalking 80 = .ok (.iconst (-1), 1) := by decide +kernel
theorem dX2_byWalking_81 : decode cX2_byWalking 81 = .ok (.ireturn, 1) := by decide +kernel
theorem dX2_byEuclid_0 : decode cX2_byEuclid 0 = .ok (.aload_n 0, 1) := by decide +kernel
theorem dX2_byEuclid_1 : decode cX2_byEuclid 1 = .ok (.getfield 15, 3) := by decide +kernel
theorem dX2_byEuclid_4 : decode cX2_byEuclid 4 = .ok (.i2l, 1) := by decide +kernel
theorem dX2_byEuclid_5 : decode cX2_byEuclid 5 = .ok (.aload_n 1, 1) := by decide +kernel
theorem dX2_byEuclid_6 : decode cX2_byEuclid 6 = .ok (.getfield 15, 3) := by decide +kernel
theorem dX2_byEuclid_9 : decode cX2_byEuclid 9 = .ok (.i2l, 1) := by decide +kernel
theorem dX2_byEuclid_10 : decode cX2_byEuclid 10 = .ok (.invokestatic 24, 3) := by decide +kernel
theorem dX2_byEuclid_13 : decode cX2_byEuclid 13 = .ok (.l2i, 1) := by decide +kernel
theorem dX2_byEuclid_14 : decode cX2_byEuclid 14 = .ok (.istore_n 2, 1) := by decide +kernel
theorem dX2_byEuclid_15 : decode cX2_byEuclid 15 = .ok (.aload_n 1, 1) := by decide +kernel
theorem dX2_byEuclid_16 : decode cX2_byEuclid 16 = .ok (.getfield 9, 3) := by decide +kernel
theorem dX2_byEuclid_19 : decode cX2_byEuclid 19 = .ok (.aload_n 0, 1) := by decide +kernel
theorem dX2_byEuclid_20 : decode cX2_byEuclid 20 = .ok (.getfield 9, 3) := by decide +kernel
theorem dX2_byEuclid_23 : decode cX2_byEuclid 23 = .ok (.isub, 1) := by decide +kernel
theorem dX2_byEuclid_24 : decode cX2_byEuclid 24 = .ok (.istore_n 3, 1) := by decide +kernel
theorem dX2_byEuclid_25 : decode cX2_byEuclid 25 = .ok (.iload_n 2, 1) := by decide +kernel
theorem dX2_byEuclid_26 : decode cX2_byEuclid 26 = .ok (.iconst 1, 1) := by decide +kernel
theorem dX2_byEuclid_27 : decode cX2_byEuclid 27 = .ok (.if_icmp .lt 9, 3) := by decide +kernel
theorem dX2_byEuclid_30 : decode cX2_byEuclid 30 = .ok (.iload_n 3, 1) := by decide +kernel
theorem dX2_byEuclid_31 : decode cX2_byEuclid 31 = .ok (.iload_n 2, 1) := by decide +kernel
theorem dX2_byEuclid_32 : decode cX2_byEuclid 32 = .ok (.irem, 1) := by decide +kernel
theorem dX2_byEuclid_33 : decode cX2_byEuclid 33 = .ok (.ifCond .eq 5, 3) := by decide +kernel
theorem dX2_byEuclid_36 : decode cX2_byEuclid 36 = .ok (.iconst (-1), 1) := by decide +kernel
theorem dX2_byEuclid_37 : decode cX2_byEuclid 37 = .ok (.ireturn, 1) := by decide +kernel
theorem dX2_byEuclid_38 : decode cX2_byEuclid 38 = .ok (.aload_n 1, 1) := by decide +kernel
theorem dX2_byEuclid_39 : decode cX2_byEuclid 39 = .ok (.getfield 15, 3) := by decide +kernel
theorem dX2_byEuclid_42 : decode cX2_byEuclid 42 = .ok (.iload_n 2, 1) := by decide +kernel
theorem dX2_byEuclid_43 : decode cX2_byEuclid 43 = .ok (.idiv, 1) := by decide +kernel
theorem dX2_byEuclid_44 : decode cX2_byEuclid 44 = .ok (.istore 4, 2) := by decide +kernel
theorem dX2_byEuclid_46 : decode cX2_byEuclid 46 = .ok (.iload 4, 2) := by decide +kernel
theorem dX2_byEuclid_48 : decode cX2_byEuclid 48 = .ok (.iconst 1, 1) := by decide +kernel
theorem dX2_byEuclid_49 : decode cX2_byEuclid 49 = .ok (.if_icmp .ge 5, 3) := by decide +kernel
theorem dX2_byEuclid_52 : decode cX2_byEuclid 52 = .ok (.iconst (-1), 1) := by decide +kernel
theorem dX2_byEuclid_53 : decode cX2_byEuclid 53 = .ok (.ireturn, 1) := by decide +kernel
theorem dX2_byEuclid_54 : decode cX2_byEuclid 54 = .ok (.aload_n 0, 1) := by decide +kernel
theorem dX2_byEuclid_55 : decode cX2_byEuclid 55 = .ok (.getfield 15, 3) := by decide +kernel
theorem dX2_byEuclid_58 : decode cX2_byEuclid 58 = .ok (.aload_n 1, 1) := by decide +kernel
theorem dX2_byEuclid_59 : decode cX2_byEuclid 59 = .ok (.getfield 15, 3) := by decide +kernel
theorem dX2_byEuclid_62 : decode cX2_byEuclid 62 = .ok (.invokestatic 30, 3) := by decide +kernel
theorem dX2_byEuclid_65 : decode cX2_byEuclid 65 = .ok (.istore 5, 2) := by decide +kernel
theorem dX2_byEuclid_67 : decode cX2_byEuclid 67 = .ok (.iload_n 3, 1) := by decide +kernel
theorem dX2_byEuclid_68 : decode cX2_byEuclid 68 = .ok (.iload_n 2, 1) := by decide +kernel
theorem dX2_byEuclid_69 : decode cX2_byEuclid 69 = .ok (.idiv, 1) := by decide +kernel
theorem dX2_byEuclid_70 : decode cX2_byEuclid 70 = .ok (.iload 4, 2) := by decide +kernel
theorem dX2_byEuclid_72 : decode cX2_byEuclid 72 = .ok (.invokestatic 34, 3) := by decide +kernel
theorem dX2_byEuclid_75 : decode cX2_byEuclid 75 = .ok (.iload 5, 2) := by decide +kernel
theorem dX2_byEuclid_77 : decode cX2_byEuclid 77 = .ok (.iload 4, 2) := by decide +kernel
theorem dX2_byEuclid_79 : decode cX2_byEuclid 79 = .ok (.invokestatic 34, 3) := by decide +kernel
theorem dX2_byEuclid_82 : decode cX2_byEuclid 82 = .ok (.imul, 1) := by decide +kernel
theorem dX2_byEuclid_83 : decode cX2_byEuclid 83 = .ok (.iload 4, 2) := by decide +kernel
theorem dX2_byEuclid_85 : decode cX2_byEuclid 85 = .ok (.invokestatic 34, 3) := by decide +kernel
theorem dX2_byEuclid_88 : decode cX2_byEuclid 88 = .ok (.istore 6, 2) := by decide +kernel
theorem dX2_byEuclid_90 : decode cX2_byEuclid 90 = .ok (.aload_n 0, 1) := by decide +kernel
theorem dX2_byEuclid_91 : decode cX2_byEuclid 91 = .ok (.getfield 9, 3) := by decide +kernel
theorem dX2_byEuclid_94 : decode cX2_byEuclid 94 = .ok (.aload_n 1, 1) := by decide +kernel
theorem dX2_byEuclid_95 : decode cX2_byEuclid 95 = .ok (.getfield 9, 3) := by decide +kernel
theorem dX2_byEuclid_98 : decode cX2_byEuclid 98 = .ok (.invokestatic 37, 3) := by decide +kernel
theorem dX2_byEuclid_101 : decode cX2_byEuclid 101 = .ok (.istore 7, 2) := by decide +kernel
theorem dX2_byEuclid_103 : decode cX2_byEuclid 103 = .ok (.iload 7, 2) := by decide +kernel
theorem dX2_byEuclid_105 : decode cX2_byEuclid 105 = .ok (.aload_n 0, 1) := by decide +kernel
theorem dX2_byEuclid_106 : decode cX2_byEuclid 106 = .ok (.getfield 9, 3) := by decide +kernel
theorem dX2_byEuclid_109 : decode cX2_byEuclid 109 = .ok (.iload 6, 2) := by decide +kernel
theorem dX2_byEuclid_111 : decode cX2_byEuclid 111 = .ok (.aload_n 0, 1) := by decide +kernel
theorem dX2_byEuclid_112 : decode cX2_byEuclid 112 = .ok (.getfield 15, 3) := by decide +kernel
theorem dX2_byEuclid_115 : decode cX2_byEuclid 115 = .ok (.imul, 1) := by decide +kernel
theorem dX2_byEuclid_116 : decode cX2_byEuclid 116 = .ok (.iadd, 1) := by decide +kernel
theorem dX2_byEuclid_117 : decode cX2_byEuclid 117 = .ok (.iload 4, 2) := by decide +kernel
theorem dX2_byEuclid_119 : decode cX2_byEuclid 119 = .ok (.aload_n 0, 1) := by decide +kernel
theorem dX2_byEuclid_120 : decode cX2_byEuclid 120 = .ok (.getfield 15, 3) := by decide +kernel
theorem dX2_byEuclid_123 : decode cX2_byEuclid 123 = .ok (.imul, 1) := by decide +kernel
theorem dX2_byEuclid_124 : decode cX2_byEuclid 124 = .ok (.invokestatic 40, 3) := by decide +kernel
theorem dX2_byEuclid_127 : decode cX2_byEuclid 127 = .ok (.ireturn, 1) := by decide +kernel
theorem dX2_notBefore_0 : decode cX2_notBefore 0 = .ok (.iload_n 1, 1) := by decide +kernel
theorem dX2_notBefore_1 : decode cX2_notBefore 1 = .ok (.iload_n 0, 1) := by decide +kernel
theorem dX2_notBefore_2 : decode cX2_notBefore 2 = .ok (.if_icmp .ge 8, 3) := by decide +kernel
theorem dX2_notBefore_5 : decode cX2_notBefore 5 = .ok (.iload_n 2, 1) := by decide +kernel
theorem dX2_notBefore_6 : decode cX2_notBefore 6 = .ok (.iconst 1, 1) := by decide +kernel
theorem dX2_notBefore_7 : decode cX2_notBefore 7 = .ok (.if_icmp .ge 5, 3) := by decide +kernel
theorem dX2_notBefore_10 : decode cX2_notBefore 10 = .ok (.iload_n 1, 1) := by decide +kernel
theorem dX2_notBefore_11 : decode cX2_notBefore 11 = .ok (.ireturn, 1) := by decide +kernel
theorem dX2_notBefore_12 : decode cX2_notBefore 12 = .ok (.iload_n 0, 1) := by decide +kernel
theorem dX2_notBefore_13 : decode cX2_notBefore 13 = .ok (.iload_n 1, 1) := by decide +kernel
theorem dX2_notBefore_14 : decode cX2_notBefore 14 = .ok (.iload_n 0, 1) := by decide +kernel
theorem dX2_notBefore_15 : decode cX2_notBefore 15 = .ok (.isub, 1) := by decide +kernel
theorem dX2_notBefore_16 : decode cX2_notBefore 16 = .ok (.iload_n 2, 1) := by decide +kernel
theorem dX2_notBefore_17 : decode cX2_notBefore 17 = .ok (.invokestatic 34, 3) := by decide +kernel
theorem dX2_notBefore_20 : decode cX2_notBefore 20 = .ok (.iadd, 1) := by decide +kernel
theorem dX2_notBefore_21 : decode cX2_notBefore 21 = .ok (.ireturn, 1) := by decide +kernel
theorem dX2_factorOfDivisor_0 : decode cX2_factorOfDivisor 0 = .ok (.iconst 1, 1) := by decide +kernel
theorem dX2_factorOfDivisor_1 : decode cX2_factorOfDivisor 1 = .ok (.istore_n 2, 1) := by decide +kernel
theorem dX2_factorOfDivisor_2 : decode cX2_factorOfDivisor 2 = .ok (.iconst 0, 1) := by decide +kernel
theorem dX2_factorOfDivisor_3 : decode cX2_factorOfDivisor 3 = .ok (.istore_n 3, 1) := by decide +kernel
theorem dX2_factorOfDivisor_4 : decode cX2_factorOfDivisor 4 = .ok (.iconst 0, 1) := by decide +kernel
theorem dX2_factorOfDivisor_5 : decode cX2_factorOfDivisor 5 = .ok (.istore 4, 2) := by decide +kernel
theorem dX2_factorOfDivisor_7 : decode cX2_factorOfDivisor 7 = .ok (.iload 4, 2) := by decide +kernel
theorem dX2_factorOfDivisor_9 : decode cX2_factorOfDivisor 9 = .ok (.bipush 100, 2) := by decide +kernel
theorem dX2_factorOfDivisor_11 : decode cX2_factorOfDivisor 11 = .ok (.if_icmp .ge 41, 3) := by decide +kernel
theorem dX2_factorOfDivisor_14 : decode cX2_factorOfDivisor 14 = .ok (.iload_n 1, 1) := by decide +kernel
theorem dX2_factorOfDivisor_15 : decode cX2_factorOfDivisor 15 = .ok (.ifCond .le 37, 3) := by decide +kernel
theorem dX2_factorOfDivisor_18 : decode cX2_factorOfDivisor 18 = .ok (.iload_n 0, 1) := by decide +kernel
theorem dX2_factorOfDivisor_19 : decode cX2_factorOfDivisor 19 = .ok (.iload_n 1, 1) := by decide +kernel
theorem dX2_factorOfDivisor_20 : decode cX2_factorOfDivisor 20 = .ok (.idiv, 1) := by decide +kernel
theorem dX2_factorOfDivisor_21 : decode cX2_factorOfDivisor 21 = .ok (.istore 5, 2) := by decide +kernel
theorem dX2_factorOfDivisor_23 : decode cX2_factorOfDivisor 23 = .ok (.iload_n 0, 1) := by decide +kernel
theorem dX2_factorOfDivisor_24 : decode cX2_factorOfDivisor 24 = .ok (.iload_n 1, 1) := by decide +kernel
theorem dX2_factorOfDivisor_25 : decode cX2_factorOfDivisor 25 = .ok (.irem, 1) := by decide +kernel
theorem dX2_factorOfDivisor_26 : decode cX2_factorOfDivisor 26 = .ok (.istore 6, 2) := by decide +kernel
theorem dX2_factorOfDivisor_28 : decode cX2_factorOfDivisor 28 = .ok (.iload_n 1, 1) := by decide +kernel
theorem dX2_factorOfDivisor_29 : decode cX2_factorOfDivisor 29 = .ok (.istore_n 0, 1) := by decide +kernel
theorem dX2_factorOfDivisor_30 : decode cX2_factorOfDivisor 30 = .ok (.iload 6, 2) := by decide +kernel
theorem dX2_factorOfDivisor_32 : decode cX2_factorOfDivisor 32 = .ok (.istore_n 1, 1) := by decide +kernel
theorem dX2_factorOfDivisor_33 : decode cX2_factorOfDivisor 33 = .ok (.iload_n 2, 1) := by decide +kernel
theorem dX2_factorOfDivisor_34 : decode cX2_factorOfDivisor 34 = .ok (.iload 5, 2) := by decide +kernel
theorem dX2_factorOfDivisor_36 : decode cX2_factorOfDivisor 36 = .ok (.iload_n 3, 1) := by decide +kernel
theorem dX2_factorOfDivisor_37 : decode cX2_factorOfDivisor 37 = .ok (.imul, 1) := by decide +kernel
theorem dX2_factorOfDivisor_38 : decode cX2_factorOfDivisor 38 = .ok (.isub, 1) := by decide +kernel
theorem dX2_factorOfDivisor_39 : decode cX2_factorOfDivisor 39 = .ok (.istore 7, 2) := by decide +kernel
theorem dX2_factorOfDivisor_41 : decode cX2_factorOfDivisor 41 = .ok (.iload_n 3, 1) := by decide +kernel
theorem dX2_factorOfDivisor_42 : decode cX2_factorOfDivisor 42 = .ok (.istore_n 2, 1) := by decide +kernel
theorem dX2_factorOfDivisor_43 : decode cX2_factorOfDivisor 43 = .ok (.iload 7, 2) := by decide +kernel
theorem dX2_factorOfDivisor_45 : decode cX2_factorOfDivisor 45 = .ok (.istore_n 3, 1) := by decide +kernel
theorem dX2_factorOfDivisor_46 : decode cX2_factorOfDivisor 46 = .ok (.iinc 4 1, 3) := by decide +kernel
theorem dX2_factorOfDivisor_49 : decode cX2_factorOfDivisor 49 = .ok (.goto (-42), 3) := by decide +kernel
theorem dX2_factorOfDivisor_52 : decode cX2_factorOfDivisor 52 = .ok (.iload_n 2, 1) := by decide +kernel
theorem dX2_factorOfDivisor_53 : decode cX2_factorOfDivisor 53 = .ok (.ireturn, 1) := by decide +kernel
theorem dX2_commonDivisor_0 : decode cX2_commonDivisor 0 = .ok (.iconst 0, 1) := by decide +kernel
theorem dX2_commonDivisor_1 : decode cX2_commonDivisor 1 = .ok (.istore 4, 2) := by decide +kernel
theorem dX2_commonDivisor_3 : decode cX2_commonDivisor 3 = .ok (.iload 4, 2) := by decide +kernel
theorem dX2_commonDivisor_5 : decode cX2_commonDivisor 5 = .ok (.bipush 100, 2) := by decide +kernel
theorem dX2_commonDivisor_7 : decode cX2_commonDivisor 7 = .ok (.if_icmp .ge 25, 3) := by decide +kernel
theorem dX2_commonDivisor_10 : decode cX2_commonDivisor 10 = .ok (.lload_n 2, 1) := by decide +kernel
theorem dX2_commonDivisor_11 : decode cX2_commonDivisor 11 = .ok (.lconst 0, 1) := by decide +kernel
theorem dX2_commonDivisor_12 : decode cX2_commonDivisor 12 = .ok (.lcmp, 1) := by decide +kernel
theorem dX2_commonDivisor_13 : decode cX2_commonDivisor 13 = .ok (.ifCond .le 19, 3) := by decide +kernel
theorem dX2_commonDivisor_16 : decode cX2_commonDivisor 16 = .ok (.lload_n 0, 1) := by decide +kernel
theorem dX2_commonDivisor_17 : decode cX2_commonDivisor 17 = .ok (.lload_n 2, 1) := by decide +kernel
theorem dX2_commonDivisor_18 : decode cX2_commonDivisor 18 = .ok (.lrem, 1) := by decide +kernel
theorem dX2_commonDivisor_19 : decode cX2_commonDivisor 19 = .ok (.lstore 5, 2) := by decide +kernel
theorem dX2_commonDivisor_21 : decode cX2_commonDivisor 21 = .ok (.lload_n 2, 1) := by decide +kernel
theorem dX2_commonDivisor_22 : decode cX2_commonDivisor 22 = .ok (.lstore_n 0, 1) := by decide +kernel
theorem dX2_commonDivisor_23 : decode cX2_commonDivisor 23 = .ok (.lload 5, 2) := by decide +kernel
theorem dX2_commonDivisor_25 : decode cX2_commonDivisor 25 = .ok (.lstore_n 2, 1) := by decide +kernel
theorem dX2_commonDivisor_26 : decode cX2_commonDivisor 26 = .ok (.iinc 4 1, 3) := by decide +kernel
theorem dX2_commonDivisor_29 : decode cX2_commonDivisor 29 = .ok (.goto (-26), 3) := by decide +kernel
theorem dX2_commonDivisor_32 : decode cX2_commonDivisor 32 = .ok (.lload_n 0, 1) := by decide +kernel
theorem dX2_commonDivisor_33 : decode cX2_commonDivisor 33 = .ok (.lreturn, 1) := by decide +kernel
theorem dX2_commonMultiple_0 : decode cX2_commonMultiple 0 = .ok (.lload_n 0, 1) := by decide +kernel
theorem dX2_commonMultiple_1 : decode cX2_commonMultiple 1 = .ok (.lload_n 2, 1) := by decide +kernel
theorem dX2_commonMultiple_2 : decode cX2_commonMultiple 2 = .ok (.invokestatic 24, 3) := by decide +kernel
theorem dX2_commonMultiple_5 : decode cX2_commonMultiple 5 = .ok (.lstore 4, 2) := by decide +kernel
theorem dX2_commonMultiple_7 : decode cX2_commonMultiple 7 = .ok (.lload 4, 2) := by decide +kernel
theorem dX2_commonMultiple_9 : decode cX2_commonMultiple 9 = .ok (.lconst 1, 1) := by decide +kernel
theorem dX2_commonMultiple_10 : decode cX2_commonMultiple 10 = .ok (.lcmp, 1) := by decide +kernel
theorem dX2_commonMultiple_11 : decode cX2_commonMultiple 11 = .ok (.ifCond .ge 7, 3) := by decide +kernel
theorem dX2_commonMultiple_14 : decode cX2_commonMultiple 14 = .ok (.lload_n 0, 1) := by decide +kernel
theorem dX2_commonMultiple_15 : decode cX2_commonMultiple 15 = .ok (.goto 9, 3) := by decide +kernel
theorem dX2_commonMultiple_18 : decode cX2_commonMultiple 18 = .ok (.lload_n 0, 1) := by decide +kernel
theorem dX2_commonMultiple_19 : decode cX2_commonMultiple 19 = .ok (.lload 4, 2) := by decide +kernel
theorem dX2_commonMultiple_21 : decode cX2_commonMultiple 21 = .ok (.ldiv, 1) := by decide +kernel
theorem dX2_commonMultiple_22 : decode cX2_commonMultiple 22 = .ok (.lload_n 2, 1) := by decide +kernel
theorem dX2_commonMultiple_23 : decode cX2_commonMultiple 23 = .ok (.lmul, 1) := by decide +kernel
theorem dX2_commonMultiple_24 : decode cX2_commonMultiple 24 = .ok (.lreturn, 1) := by decide +kernel
theorem dX3_init_0 : decode cX3_init 0 = .ok (.aload_n 0, 1) := by decide +kernel
theorem dX3_init_1 : decode cX3_init 1 = .ok (.invokespecial 3, 3) := by decide +kernel
theorem dX3_init_4 : decode cX3_init 4 = .ok (.aload_n 0, 1) := by decide +kernel
theorem dX3_init_5 : decode cX3_init 5 = .ok (.bipush 60, 2) := by decide +kernel
theorem dX3_init_7 : decode cX3_init 7 = .ok (.newarray .char, 2) := by decide +kernel
theorem dX3_init_9 : decode cX3_init 9 = .ok (.putfield 9, 3) := by decide +kernel
theorem dX3_init_12 : decode cX3_init 12 = .ok (.aload_n 0, 1) := by decide +kernel
theorem dX3_init_13 : decode cX3_init 13 = .ok (.bipush 12, 2) := by decide +kernel
theorem dX3_init_15 : decode cX3_init 15 = .ok (.newarray .int, 2) := by decide +kernel
theorem dX3_init_17 : decode cX3_init 17 = .ok (.putfield 15, 3) := by decide +kernel
theorem dX3_init_20 : decode cX3_init 20 = .ok (.aload_n 0, 1) := by decide +kernel
theorem dX3_init_21 : decode cX3_init 21 = .ok (.bipush 12, 2) := by decide +kernel
theorem dX3_init_23 : decode cX3_init 23 = .ok (.iconst 3, 1) := by decide +kernel
theorem dX3_init_24 : decode cX3_init 24 = .ok (.multianewarray 19 2, 4) := by decide +kernel
theorem dX3_init_28 : decode cX3_init 28 = .ok (.putfield 21, 3) := by decide +kernel
theorem dX3_init_31 : decode cX3_init 31 = .ok (.return_, 1) := by decide +kernel
theorem dX3_isFull_0 : decode cX3_isFull 0 = .ok (.aload_n 0, 1) := by decide +kernel
theorem dX3_isFull_1 : decode cX3_isFull 1 = .ok (.getfield 24, 3) := by decide +kernel
theorem dX3_isFull_4 : decode cX3_isFull 4 = .ok (.bipush 60, 2) := by decide +kernel
theorem dX3_isFull_6 : decode cX3_isFull 6 = .ok (.if_icmp .lt 7, 3) := by decide +kernel
theorem dX3_isFull_9 : decode cX3_isFull 9 = .ok (.iconst 1, 1) := by decide +kernel
theorem dX3_isFull_10 : decode cX3_isFull 10 = .ok (.goto 4, 3) := by decide +kernel
theorem dX3_isFull_13 : decode cX3_isFull 13 = .ok (.iconst 0, 1) := by decide +kernel
theorem dX3_isFull_14 : decode cX3_isFull 14 = .ok (.ireturn, 1) := by decide +kernel
theorem dX3_add_0 : decode cX3_add 0 = .ok (.aload_n 0, 1) := by decide +kernel
theorem dX3_add_1 : decode cX3_add 1 = .ok (.invokevirtual 28, 3) := by decide +kernel
theorem dX3_add_4 : decode cX3_add 4 = .ok (.ifCond .ne 23, 3) := by decide +kernel
theorem dX3_add_7 : decode cX3_add 7 = .ok (.aload_n 0, 1) := by decide +kernel
theorem dX3_add_8 : decode cX3_add 8 = .ok (.getfield 9, 3) := by decide +kernel
theorem dX3_add_11 : decode cX3_add 11 = .ok (.aload_n 0, 1) := by decide +kernel
theorem dX3_add_12 : decode cX3_add 12 = .ok (.getfield 24, 3) := by decide +kernel
theorem dX3_add_15 : decode cX3_add 15 = .ok (.iload_n 1, 1) := by decide +kernel
theorem dX3_add_16 : decode cX3_add 16 = .ok (.castore, 1) := by decide +kernel
theorem dX3_add_17 : decode cX3_add 17 = .ok (.aload_n 0, 1) := by decide +kernel
theorem dX3_add_18 : decode cX3_add 18 = .ok (.dup, 1) := by decide +kernel
theorem dX3_add_19 : decode cX3_add 19 = .ok (.getfield 24, 3) := by decide +kernel
theorem dX3_add_22 : decode cX3_add 22 = .ok (.iconst 1, 1) := by decide +kernel
theorem dX3_add_23 : decode cX3_add 23 = .ok (.iadd, 1) := by decide +kernel
theorem dX3_add_24 : decode cX3_add 24 = .ok (.putfield 24, 3) := by decide +kernel
theorem dX3_add_27 : decode cX3_add 27 = .ok (.return_, 1) := by decide +kernel
theorem dX3_parse_0 : decode cX3_parse 0 = .ok (.aload_n 0, 1) := by decide +kernel
theorem dX3_parse_1 : decode cX3_parse 1 = .ok (.iconst 0, 1) := by decide +kernel
theorem dX3_parse_2 : decode cX3_parse 2 = .ok (.putfield 32, 3) := by decide +kernel
theorem dX3_parse_5 : decode cX3_parse 5 = .ok (.aload_n 0, 1) := by decide +kernel
theorem dX3_parse_6 : decode cX3_parse 6 = .ok (.iconst 0, 1) := by decide +kernel
theorem dX3_parse_7 : decode cX3_parse 7 = .ok (.putfield 35, 3) := by decide +kernel
theorem dX3_parse_10 : decode cX3_parse 10 = .ok (.aload_n 0, 1) := by decide +kernel
theorem dX3_parse_11 : decode cX3_parse 11 = .ok (.getfield 35, 3) := by decide +kernel
theorem dX3_parse_14 : decode cX3_parse 14 = .ok (.bipush 12, 2) := by decide +kernel
theorem dX3_parse_16 : decode cX3_parse 16 = .ok (.if_icmp .ge 46, 3) := by decide +kernel
theorem dX3_parse_19 : decode cX3_parse 19 = .ok (.aload_n 0, 1) := by decide +kernel
theorem dX3_parse_20 : decode cX3_parse 20 = .ok (.invokevirtual 38, 3) := by decide +kernel
theorem dX3_parse_23 : decode cX3_parse 23 = .ok (.ifCond .ne 5, 3) := by decide +kernel
theorem dX3_parse_26 : decode cX3_parse 26 = .ok (.iconst 0, 1) := by decide +kernel
theorem dX3_parse_27 : decode cX3_parse 27 = .ok (.ireturn, 1) := by decide +kernel
theorem dX3_parse_28 : decode cX3_parse 28 = .ok (.aload_n 0, 1) := by decide +kernel
theorem dX3_parse_29 : decode cX3_parse 29 = .ok (.dup, 1) := by decide +kernel
theorem dX3_parse_30 : decode cX3_parse 30 = .ok (.getfield 35, 3) := by decide +kernel
theorem dX3_parse_33 : decode cX3_parse 33 = .ok (.iconst 1, 1) := by decide +kernel
theorem dX3_parse_34 : decode cX3_parse 34 = .ok (.iadd, 1) := by decide +kernel
theorem dX3_parse_35 : decode cX3_parse 35 = .ok (.putfield 35, 3) := by decide +kernel
theorem dX3_parse_38 : decode cX3_parse 38 = .ok (.aload_n 0, 1) := by decide +kernel
theorem dX3_parse_39 : decode cX3_parse 39 = .ok (.getfield 32, 3) := by decide +kernel
theorem dX3_parse_42 : decode cX3_parse 42 = .ok (.aload_n 0, 1) := by decide +kernel
theorem dX3_parse_43 : decode cX3_parse 43 = .ok (.getfield 24, 3) := by decide +kernel
theorem dX3_parse_46 : decode cX3_parse 46 = .ok (.if_icmp .ne 5, 3) := by decide +kernel
theorem dX3_parse_49 : decode cX3_parse 49 = .ok (.iconst 1, 1) := by decide +kernel
theorem dX3_parse_50 : decode cX3_parse 50 = .ok (.ireturn, 1) := by decide +kernel
theorem dX3_parse_51 : decode cX3_parse 51 = .ok (.aload_n 0, 1) := by decide +kernel
theorem dX3_parse_52 : decode cX3_parse 52 = .ok (.bipush 59, 2) := by decide +kernel
theorem dX3_parse_54 : decode cX3_parse 54 = .ok (.invokevirtual 41, 3) := by decide +kernel
theorem dX3_parse_57 : decode cX3_parse 57 = .ok (.ifCond .ne (-47), 3) := by decide +kernel
theorem dX3_parse_60 : decode cX3_parse 60 = .ok (.iconst 0, 1) := by decide +kernel
theorem dX3_parse_61 : decode cX3_parse 61 = .ok (.ireturn, 1) := by decide +kernel
theorem dX3_parse_62 : decode cX3_parse 62 = .ok (.iconst 0, 1) := by decide +kernel
theorem dX3_parse_63 : decode cX3_parse 63 = .ok (.ireturn, 1) := by decide +kernel
theorem dX3_readCommand_0 : decode cX3_readCommand 0 = .ok (.aload_n 0, 1) := by decide +kernel
theorem dX3_readCommand_1 : decode cX3_readCommand 1 = .ok (.invokevirtual 45, 3) := by decide +kernel
theorem dX3_readCommand_4 : decode cX3_readCommand 4 = .ok (.istore_n 1, 1) := by decide +kernel
theorem dX3_readCommand_5 : decode cX3_readCommand 5 = .ok (.iload_n 1, 1) := by decide +kernel
theorem dX3_readCommand_6 : decode cX3_readCommand 6 = .ok (.iconst (-1), 1) := by decide +kernel
theorem dX3_readCommand_7 : decode cX3_readCommand 7 = .ok (.if_icmp .ne 5, 3) := by decide +kernel
theorem dX3_readCommand_10 : decode cX3_readCommand 10 = .ok (.iconst 0, 1) := by decide +kernel
theorem dX3_readCommand_11 : decode cX3_readCommand 11 = .ok (.ireturn, 1) := by decide +kernel
theorem dX3_readCommand_12 : decode cX3_readCommand 12 = .ok (.aload_n 0, 1) := by decide +kernel
theorem dX3_readCommand_13 : decode cX3_readCommand 13 = .ok (.getfield 15, 3) := by decide +kernel
theorem dX3_readCommand_16 : decode cX3_readCommand 16 = .ok (.aload_n 0, 1) := by decide +kernel
theorem dX3_readCommand_17 : decode cX3_readCommand 17 = .ok (.getfield 35, 3) := by decide +kernel
theorem dX3_readCommand_20 : decode cX3_readCommand 20 = .ok (.iload_n 1, 1) := by decide +kernel
theorem dX3_readCommand_21 : decode cX3_readCommand 21 = .ok (.iastore, 1) := by decide +kernel
theorem dX3_readCommand_22 : decode cX3_readCommand 22 = .ok (.iconst 0, 1) := by decide +kernel
theorem dX3_readCommand_23 : decode cX3_readCommand 23 = .ok (.istore_n 2, 1) := by decide +kernel
theorem dX3_readCommand_24 : decode cX3_readCommand 24 = .ok (.iload_n 2, 1) := by decide +kernel
theorem dX3_readCommand_25 : decode cX3_readCommand 25 = .ok (.iload_n 1, 1) := by decide +kernel
theorem dX3_readCommand_26 : decode cX3_readCommand 26 = .ok (.invokestatic 49, 3) := by decide +kernel
theorem dX3_readCommand_29 : decode cX3_readCommand 29 = .ok (.if_icmp .ge 52, 3) := by decide +kernel
theorem dX3_readCommand_32 : decode cX3_readCommand 32 = .ok (.iload_n 2, 1) := by decide +kernel
theorem dX3_readCommand_33 : decode cX3_readCommand 33 = .ok (.ifCond .le 14, 3) := by decide +kernel
theorem dX3_readCommand_36 : decode cX3_readCommand 36 = .ok (.aload_n 0, 1) := by decide +kernel
theorem dX3_readCommand_37 : decode cX3_readCommand 37 = .ok (.bipush 32, 2) := by decide +kernel
theorem dX3_readCommand_39 : decode cX3_readCommand 39 = .ok (.invokevirtual 41, 3) := by decide +kernel
theorem dX3_readCommand_42 : decode cX3_readCommand 42 = .ok (.ifCond .ne 5, 3) := by decide +kernel
theorem dX3_readCommand_45 : decode cX3_readCommand 45 = .ok (.iconst 0, 1) := by decide +kernel
theorem dX3_readCommand_46 : decode cX3_readCommand 46 = .ok (.ireturn, 1) := by decide +kernel
theorem dX3_readCommand_47 : decode cX3_readCommand 47 = .ok (.aload_n 0, 1) := by decide +kernel
theorem dX3_readCommand_48 : decode cX3_readCommand 48 = .ok (.iload_n 1, 1) := by decide +kernel
theorem dX3_readCommand_49 : decode cX3_readCommand 49 = .ok (.invokestatic 53, 3) := by decide +kernel
theorem dX3_readCommand_52 : decode cX3_readCommand 52 = .ok (.invokevirtual 56, 3) := by decide +kernel
theorem dX3_readCommand_55 : decode cX3_readCommand 55 = .ok (.istore_n 3, 1) := by decide +kernel
theorem dX3_readCommand_56 : decode cX3_readCommand 56 = .ok (.iload_n 3, 1) := by decide +kernel
theorem dX3_readCommand_57 : decode cX3_readCommand 57 = .ok (.iconst (-1), 1) := by decide +kernel
theorem dX3_readCommand_58 : decode cX3_readCommand 58 = .ok (.if_icmp .ne 5, 3) := by decide +kernel
theorem dX3_readCommand_61 : decode cX3_readCommand 61 = .ok (.iconst 0, 1) := by decide +kernel
theorem dX3_readCommand_62 : decode cX3_readCommand 62 = .ok (.ireturn, 1) := by decide +kernel
theorem dX3_readCommand_63 : decode cX3_readCommand 63 = .ok (.aload_n 0, 1) := by decide +kernel
theorem dX3_readCommand_64 : decode cX3_readCommand 64 = .ok (.getfield 21, 3) := by decide +kernel
theorem dX3_readCommand_67 : decode cX3_readCommand 67 = .ok (.aload_n 0, 1) := by decide +kernel
theorem dX3_readCommand_68 : decode cX3_readCommand 68 = .ok (.getfield 35, 3) := by decide +kernel
theorem dX3_readCommand_71 : decode cX3_readCommand 71 = .ok (.aaload, 1) := by decide +kernel
theorem dX3_readCommand_72 : decode cX3_readCommand 72 = .ok (.iload_n 2, 1) := by decide +kernel
theorem dX3_readCommand_73 : decode cX3_readCommand 73 = .ok (.iload_n 3, 1) := by decide +kernel
theorem dX3_readCommand_74 : decode cX3_readCommand 74 = .ok (.iastore, 1) := by decide +kernel
theorem dX3_readCommand_75 : decode cX3_readCommand 75 = .ok (.iinc 2 1, 3) := by decide +kernel
theorem dX3_readCommand_78 : decode cX3_readCommand 78 = .ok (.goto (-54), 3) := by decide +kernel
theorem dX3_readCommand_81 : decode cX3_readCommand 81 = .ok (.iconst 1, 1) := by decide +kernel
theorem dX3_readCommand_82 : decode cX3_readCommand 82 = .ok (.ireturn, 1) := by decide +kernel
theorem dX3_readWord_0 : decode cX3_readWord 0 = .ok (.iconst 0, 1) := by decide +kernel
theorem dX3_readWord_1 : decode cX3_readWord 1 = .ok (.istore_n 1, 1) := by decide +kernel
theorem dX3_readWord_2 : decode cX3_readWord 2 = .ok (.iconst 0, 1) := by decide +kernel
theorem dX3_readWord_3 : decode cX3_readWord 3 = .ok (.istore_n 2, 1) := by decide +kernel
theorem dX3_readWord_4 : decode cX3_readWord 4 = .ok (.iload_n 2, 1) := by decide +kernel
theorem dX3_readWord_5 : decode cX3_readWord 5 = .ok (.bipush 7, 2) := by decide +kernel
theorem dX3_readWord_7 : decode cX3_readWord 7 = .ok (.if_icmp .ge 50, 3) := by decide +kernel
theorem dX3_readWord_10 : decode cX3_readWord 10 = .ok (.iload_n 2, 1) := by decide +kernel
theorem dX3_readWord_11 : decode cX3_readWord 11 = .ok (.invokestatic 59, 3) := by decide +kernel
theorem dX3_readWord_14 : decode cX3_readWord 14 = .ok (.astore_n 3, 1) := by decide +kernel
theorem dX3_readWord_15 : decode cX3_readWord 15 = .ok (.aload_n 0, 1) := by decide +kernel
theorem dX3_readWord_16 : decode cX3_readWord 16 = .ok (.aload_n 3, 1) := by decide +kernel
theorem dX3_readWord_17 : decode cX3_readWord 17 = .ok (.invokevirtual 63, 3) := by decide +kernel
theorem dX3_readWord_20 : decode cX3_readWord 20 = .ok (.istore 4, 2) := by decide +kernel
theorem dX3_readWord_22 : decode cX3_readWord 22 = .ok (.iload 4, 2) := by decide +kernel
theorem dX3_readWord_24 : decode cX3_readWord 24 = .ok (.aload_n 3, 1) := by decide +kernel
theorem dX3_readWord_25 : decode cX3_readWord 25 = .ok (.invokevirtual 67, 3) := by decide +kernel
theorem dX3_readWord_28 : decode cX3_readWord 28 = .ok (.if_icmp .ne 16, 3) := by decide +kernel
theorem dX3_readWord_31 : decode cX3_readWord 31 = .ok (.aload_n 0, 1) := by decide +kernel
theorem dX3_readWord_32 : decode cX3_readWord 32 = .ok (.dup, 1) := by decide +kernel
theorem dX3_readWord_33 : decode cX3_readWord 33 = .ok (.getfield 32, 3) := by decide +kernel
theorem dX3_readWord_36 : decode cX3_readWord 36 = .ok (.iload 4, 2) := by decide +kernel
theorem dX3_readWord_38 : decode cX3_readWord 38 = .ok (.iadd, 1) := by decide +kernel
theorem dX3_readWord_39 : decode cX3_readWord 39 = .ok (.putfield 32, 3) := by decide +kernel
theorem dX3_readWord_42 : decode cX3_readWord 42 = .ok (.iload_n 2, 1) := by decide +kernel
theorem dX3_readWord_43 : decode cX3_readWord 43 = .ok (.ireturn, 1) := by decide +kernel
theorem dX3_readWord_44 : decode cX3_readWord 44 = .ok (.iload_n 1, 1) := by decide +kernel
theorem dX3_readWord_45 : decode cX3_readWord 45 = .ok (.iload 4, 2) := by decide +kernel
theorem dX3_readWord_47 : decode cX3_readWord 47 = .ok (.invokestatic 71, 3) := by decide +kernel
theorem dX3_readWord_50 : decode cX3_readWord 50 = .ok (.istore_n 1, 1) := by decide +kernel
theorem dX3_readWord_51 : decode cX3_readWord 51 = .ok (.iinc 2 1, 3) := by decide +kernel
theorem dX3_readWord_54 : decode cX3_readWord 54 = .ok (.goto (-50), 3) := by decide +kernel
theorem dX3_readWord_57 : decode cX3_readWord 57 = .ok (.aload_n 0, 1) := by decide +kernel
theorem dX3_readWord_58 : decode cX3_readWord 58 = .ok (.dup, 1) := by decide +kernel
theorem dX3_readWord_59 : decode cX3_readWord 59 = .ok (.getfield 32, 3) := by decide +kernel
theorem dX3_readWord_62 : decode cX3_readWord 62 = .ok (.iload_n 1, 1) := by decide +kernel
theorem dX3_readWord_63 : decode cX3_readWord 63 = .ok (.iadd, 1) := by decide +kernel
theorem dX3_readWord_64 : decode cX3_readWord 64 = .ok (.putfield 32, 3) := by decide +kernel
theorem dX3_readWord_67 : decode cX3_readWord 67 = .ok (.iconst (-1), 1) := by decide +kernel
theorem dX3_readWord_68 : decode cX3_readWord 68 = .ok (.ireturn, 1) := by decide +kernel
theorem dX3_matchedSigns_0 : decode cX3_matchedSigns 0 = .ok (.iconst 0, 1) := by decide +kernel
theorem dX3_matchedSigns_1 : decode cX3_matchedSigns 1 = .ok (.istore_n 2, 1) := by decide +kernel
theorem dX3_matchedSigns_2 : decode cX3_matchedSigns 2 = .ok (.iload_n 2, 1) := by decide +kernel
theorem dX3_matchedSigns_3 : decode cX3_matchedSigns 3 = .ok (.aload_n 1, 1) := by decide +kernel
theorem dX3_matchedSigns_4 : decode cX3_matchedSigns 4 = .ok (.invokevirtual 67, 3) := by decide +kernel
theorem dX3_matchedSigns_7 : decode cX3_matchedSigns 7 = .ok (.if_icmp .ge 41, 3) := by decide +kernel
theorem dX3_matchedSigns_10 : decode cX3_matchedSigns 10 = .ok (.aload_n 0, 1) := by decide +kernel
theorem dX3_matchedSigns_11 : decode cX3_matchedSigns 11 = .ok (.getfield 32, 3) := by decide +kernel
theorem dX3_matchedSigns_14 : decode cX3_matchedSigns 14 = .ok (.iload_n 2, 1) := by decide +kernel
theorem dX3_matchedSigns_15 : decode cX3_matchedSigns 15 = .ok (.iadd, 1) := by decide +kernel
theorem dX3_matchedSigns_16 : decode cX3_matchedSigns 16 = .ok (.aload_n 0, 1) := by decide +kernel
theorem dX3_matchedSigns_17 : decode cX3_matchedSigns 17 = .ok (.getfield 24, 3) := by decide +kernel
theorem dX3_matchedSigns_20 : decode cX3_matchedSigns 20 = .ok (.if_icmp .ge 28, 3) := by decide +kernel
theorem dX3_matchedSigns_23 : decode cX3_matchedSigns 23 = .ok (.aload_n 0, 1) := by decide +kernel
theorem dX3_matchedSigns_24 : decode cX3_matchedSigns 24 = .ok (.getfield 9, 3) := by decide +kernel
theorem dX3_matchedSigns_27 : decode cX3_matchedSigns 27 = .ok (.aload_n 0, 1) := by decide +kernel
theorem dX3_matchedSigns_28 : decode cX3_matchedSigns 28 = .ok (.getfield 32, 3) := by decide +kernel
theorem dX3_matchedSigns_31 : decode cX3_matchedSigns 31 = .ok (.iload_n 2, 1) := by decide +kernel
theorem dX3_matchedSigns_32 : decode cX3_matchedSigns 32 = .ok (.iadd, 1) := by decide +kernel
theorem dX3_matchedSigns_33 : decode cX3_matchedSigns 33 = .ok (.caload, 1) := by decide +kernel
theorem dX3_matchedSigns_34 : decode cX3_matchedSigns 34 = .ok (.aload_n 1, 1) := by decide +kernel
theorem dX3_matchedSigns_35 : decode cX3_matchedSigns 35 = .ok (.iload_n 2, 1) := by decide +kernel
theorem dX3_matchedSigns_36 : decode cX3_matchedSigns 36 = .ok (.invokevirtual 77, 3) := by decide +kernel
theorem dX3_matchedSigns_39 : decode cX3_matchedSigns 39 = .ok (.if_icmp .ne 9, 3) := by decide +kernel
theorem dX3_matchedSigns_42 : decode cX3_matchedSigns 42 = .ok (.iinc 2 1, 3) := by decide +kernel
theorem dX3_matchedSigns_45 : decode cX3_matchedSigns 45 = .ok (.goto (-43), 3) := by decide +kernel
theorem dX3_matchedSigns_48 : decode cX3_matchedSigns 48 = .ok (.iload_n 2, 1) := by decide +kernel
theorem dX3_matchedSigns_49 : decode cX3_matchedSigns 49 = .ok (.ireturn, 1) := by decide +kernel
theorem dX3_readSign_0 : decode cX3_readSign 0 = .ok (.aload_n 0, 1) := by decide +kernel
theorem dX3_readSign_1 : decode cX3_readSign 1 = .ok (.getfield 32, 3) := by decide +kernel
theorem dX3_readSign_4 : decode cX3_readSign 4 = .ok (.aload_n 0, 1) := by decide +kernel
theorem dX3_readSign_5 : decode cX3_readSign 5 = .ok (.getfield 24, 3) := by decide +kernel
theorem dX3_readSign_8 : decode cX3_readSign 8 = .ok (.if_icmp .ge 16, 3) := by decide +kernel
theorem dX3_readSign_11 : decode cX3_readSign 11 = .ok (.aload_n 0, 1) := by decide +kernel
theorem dX3_readSign_12 : decode cX3_readSign 12 = .ok (.getfield 9, 3) := by decide +kernel
theorem dX3_readSign_15 : decode cX3_readSign 15 = .ok (.aload_n 0, 1) := by decide +kernel
theorem dX3_readSign_16 : decode cX3_readSign 16 = .ok (.getfield 32, 3) := by decide +kernel
theorem dX3_readSign_19 : decode cX3_readSign 19 = .ok (.caload, 1) := by decide +kernel
theorem dX3_readSign_20 : decode cX3_readSign 20 = .ok (.iload_n 1, 1) := by decide +kernel
theorem dX3_readSign_21 : decode cX3_readSign 21 = .ok (.if_icmp .eq 5, 3) := by decide +kernel
theorem dX3_readSign_24 : decode cX3_readSign 24 = .ok (.iconst 0, 1) := by decide +kernel
theorem dX3_readSign_25 : decode cX3_readSign 25 = .ok (.ireturn, 1) := by decide +kernel
theorem dX3_readSign_26 : decode cX3_readSign 26 = .ok (.aload_n 0, 1) := by decide +kernel
theorem dX3_readSign_27 : decode cX3_readSign 27 = .ok (.dup, 1) := by decide +kernel
theorem dX3_readSign_28 : decode cX3_readSign 28 = .ok (.getfield 32, 3) := by decide +kernel
theorem dX3_readSign_31 : decode cX3_readSign 31 = .ok (.iconst 1, 1) := by decide +kernel
theorem dX3_readSign_32 : decode cX3_readSign 32 = .ok (.iadd, 1) := by decide +kernel
theorem dX3_readSign_33 : decode cX3_readSign 33 = .ok (.putfield 32, 3) := by decide +kernel
theorem dX3_readSign_36 : decode cX3_readSign 36 = .ok (.iconst 1, 1) := by decide +kernel
theorem dX3_readSign_37 : decode cX3_readSign 37 = .ok (.ireturn, 1) := by decide +kernel
theorem dX3_readNumber_0 : decode cX3_readNumber 0 = .ok (.aload_n 0, 1) := by decide +kernel
theorem dX3_readNumber_1 : decode cX3_readNumber 1 = .ok (.invokevirtual 81, 3) := by decide +kernel
theorem dX3_readNumber_4 : decode cX3_readNumber 4 = .ok (.ifCond .ne 5, 3) := by decide +kernel
theorem dX3_readNumber_7 : decode cX3_readNumber 7 = .ok (.iconst (-1), 1) := by decide +kernel
theorem dX3_readNumber_8 : decode cX3_readNumber 8 = .ok (.ireturn, 1) := by decide +kernel
theorem dX3_readNumber_9 : decode cX3_readNumber 9 = .ok (.iconst 0, 1) := by decide +kernel
theorem dX3_readNumber_10 : decode cX3_readNumber 10 = .ok (.istore_n 2, 1) := by decide +kernel
theorem dX3_readNumber_11 : decode cX3_readNumber 11 = .ok (.iconst 0, 1) := by decide +kernel
theorem dX3_readNumber_12 : decode cX3_readNumber 12 = .ok (.istore_n 3, 1) := by decide +kernel
theorem dX3_readNumber_13 : decode cX3_readNumber 13 = .ok (.iload_n 3, 1) := by decide +kernel
theorem dX3_readNumber_14 : decode cX3_readNumber 14 = .ok (.iload_n 1, 1) := by decide +kernel
theorem dX3_readNumber_15 : decode cX3_readNumber 15 = .ok (.if_icmp .ge 44, 3) := by decide +kernel
theorem dX3_readNumber_18 : decode cX3_readNumber 18 = .ok (.aload_n 0, 1) := by decide +kernel
theorem dX3_readNumber_19 : decode cX3_readNumber 19 = .ok (.invokevirtual 81, 3) := by decide +kernel
theorem dX3_readNumber_22 : decode cX3_readNumber 22 = .ok (.ifCond .eq 37, 3) := by decide +kernel
theorem dX3_readNumber_25 : decode cX3_readNumber 25 = .ok (.iload_n 2, 1) := by decide +kernel
theorem dX3_readNumber_26 : decode cX3_readNumber 26 = .ok (.bipush 10, 2) := by decide +kernel
theorem dX3_readNumber_28 : decode cX3_readNumber 28 = .ok (.imul, 1) := by decide +kernel
theorem dX3_readNumber_29 : decode cX3_readNumber 29 = .ok (.aload_n 0, 1) := by decide +kernel
theorem dX3_readNumber_30 : decode cX3_readNumber 30 = .ok (.getfield 9, 3) := by decide +kernel
theorem dX3_readNumber_33 : decode cX3_readNumber 33 = .ok (.aload_n 0, 1) := by decide +kernel
theorem dX3_readNumber_34 : decode cX3_readNumber 34 = .ok (.getfield 32, 3) := by decide +kernel
theorem dX3_readNumber_37 : decode cX3_readNumber 37 = .ok (.caload, 1) := by decide +kernel
theorem dX3_readNumber_38 : decode cX3_readNumber 38 = .ok (.bipush 48, 2) := by decide +kernel
theorem dX3_readNumber_40 : decode cX3_readNumber 40 = .ok (.isub, 1) := by decide +kernel
theorem dX3_readNumber_41 : decode cX3_readNumber 41 = .ok (.iadd, 1) := by decide +kernel
theorem dX3_readNumber_42 : decode cX3_readNumber 42 = .ok (.istore_n 2, 1) := by decide +kernel
theorem dX3_readNumber_43 : decode cX3_readNumber 43 = .ok (.aload_n 0, 1) := by decide +kernel
theorem dX3_readNumber_44 : decode cX3_readNumber 44 = .ok (.dup, 1) := by decide +kernel
theorem dX3_readNumber_45 : decode cX3_readNumber 45 = .ok (.getfield 32, 3) := by decide +kernel
theorem dX3_readNumber_48 : decode cX3_readNumber 48 = .ok (.iconst 1, 1) := by decide +kernel
theorem dX3_readNumber_49 : decode cX3_readNumber 49 = .ok (.iadd, 1) := by decide +kernel
theorem dX3_readNumber_50 : decode cX3_readNumber 50 = .ok (.putfield 32, 3) := by decide +kernel
theorem dX3_readNumber_53 : decode cX3_readNumber 53 = .ok (.iinc 3 1, 3) := by decide +kernel
theorem dX3_readNumber_56 : decode cX3_readNumber 56 = .ok (.goto (-43), 3) := by decide +kernel
theorem dX3_readNumber_59 : decode cX3_readNumber 59 = .ok (.iload_n 2, 1) := by decide +kernel
theorem dX3_readNumber_60 : decode cX3_readNumber 60 = .ok (.ireturn, 1) := by decide +kernel
theorem dX3_isAtDigit_0 : decode cX3_isAtDigit 0 = .ok (.aload_n 0, 1) := by decide +kernel
theorem dX3_isAtDigit_1 : decode cX3_isAtDigit 1 = .ok (.getfield 32, 3) := by decide +kernel
theorem dX3_isAtDigit_4 : decode cX3_isAtDigit 4 = .ok (.aload_n 0, 1) := by decide +kernel
theorem dX3_isAtDigit_5 : decode cX3_isAtDigit 5 = .ok (.getfield 24, 3) := by decide +kernel
theorem dX3_isAtDigit_8 : decode cX3_isAtDigit 8 = .ok (.if_icmp .ge 35, 3) := by decide +kernel
theorem dX3_isAtDigit_11 : decode cX3_isAtDigit 11 = .ok (.aload_n 0, 1) := by decide +kernel
theorem dX3_isAtDigit_12 : decode cX3_isAtDigit 12 = .ok (.getfield 9, 3) := by decide +kernel
theorem dX3_isAtDigit_15 : decode cX3_isAtDigit 15 = .ok (.aload_n 0, 1) := by decide +kernel
theorem dX3_isAtDigit_16 : decode cX3_isAtDigit 16 = .ok (.getfield 32, 3) := by decide +kernel
theorem dX3_isAtDigit_19 : decode cX3_isAtDigit 19 = .ok (.caload, 1) := by decide +kernel
theorem dX3_isAtDigit_20 : decode cX3_isAtDigit 20 = .ok (.bipush 48, 2) := by decide +kernel
theorem dX3_isAtDigit_22 : decode cX3_isAtDigit 22 = .ok (.if_icmp .lt 21, 3) := by decide +kernel
theorem dX3_isAtDigit_25 : decode cX3_isAtDigit 25 = .ok (.aload_n 0, 1) := by decide +kernel
theorem dX3_isAtDigit_26 : decode cX3_isAtDigit 26 = .ok (.getfield 9, 3) := by decide +kernel
theorem dX3_isAtDigit_29 : decode cX3_isAtDigit 29 = .ok (.aload_n 0, 1) := by decide +kernel
theorem dX3_isAtDigit_30 : decode cX3_isAtDigit 30 = .ok (.getfield 32, 3) := by decide +kernel
theorem dX3_isAtDigit_33 : decode cX3_isAtDigit 33 = .ok (.caload, 1) := by decide +kernel
theorem dX3_isAtDigit_34 : decode cX3_isAtDigit 34 = .ok (.bipush 57, 2) := by decide +kernel
theorem dX3_isAtDigit_36 : decode cX3_isAtDigit 36 = .ok (.if_icmp .gt 7, 3) := by decide +kernel
theorem dX3_isAtDigit_39 : decode cX3_isAtDigit 39 = .ok (.iconst 1, 1) := by decide +kernel
theorem dX3_isAtDigit_40 : decode cX3_isAtDigit 40 = .ok (.goto 4, 3) := by decide +kernel
theorem dX3_isAtDigit_43 : decode cX3_isAtDigit 43 = .ok (.iconst 0, 1) := by decide +kernel
theorem dX3_isAtDigit_44 : decode cX3_isAtDigit 44 = .ok (.ireturn, 1) := by decide +kernel
theorem dX3_wordOf_0 : decode cX3_wordOf 0 = .ok (.iload_n 0, 1) := by decide +kernel
theorem dX3_wordOf_1 : decode cX3_wordOf 1 = .ok (.tableswitch 57 0 5 #[39, 42, 45, 48, 51, 54], 39) := by decide +kernel
theorem dX3_wordOf_40 : decode cX3_wordOf 40 = .ok (.ldc 84, 2) := by decide +kernel
theorem dX3_wordOf_42 : decode cX3_wordOf 42 = .ok (.areturn, 1) := by decide +kernel
theorem dX3_wordOf_43 : decode cX3_wordOf 43 = .ok (.ldc 86, 2) := by decide +kernel
theorem dX3_wordOf_45 : decode cX3_wordOf 45 = .ok (.areturn, 1) := by decide +kernel
theorem dX3_wordOf_46 : decode cX3_wordOf 46 = .ok (.ldc 88, 2) := by decide +kernel
theorem dX3_wordOf_48 : decode cX3_wordOf 48 = .ok (.areturn, 1) := by decide +kernel
theorem dX3_wordOf_49 : decode cX3_wordOf 49 = .ok (.ldc 90, 2) := by decide +kernel
theorem dX3_wordOf_51 : decode cX3_wordOf 51 = .ok (.areturn, 1) := by decide +kernel
theorem dX3_wordOf_52 : decode cX3_wordOf 52 = .ok (.ldc 92, 2) := by decide +kernel
theorem dX3_wordOf_54 : decode cX3_wordOf 54 = .ok (.areturn, 1) := by decide +kernel
theorem dX3_wordOf_55 : decode cX3_wordOf 55 = .ok (.ldc 94, 2) := by decide +kernel
theorem dX3_wordOf_57 : decode cX3_wordOf 57 = .ok (.areturn, 1) := by decide +kernel
theorem dX3_wordOf_58 : decode cX3_wordOf 58 = .ok (.ldc 96, 2) := by decide +kernel
theorem dX3_wordOf_60 : decode cX3_wordOf 60 = .ok (.areturn, 1) := by decide +kernel
theorem dX3_numbersOf_0 : decode cX3_numbersOf 0 = .ok (.iload_n 0, 1) := by decide +kernel
theorem dX3_numbersOf_1 : decode cX3_numbersOf 1 = .ok (.tableswitch 43 0 5 #[39, 43, 41, 41, 43, 41], 39) := by decide +kernel
theorem dX3_numbersOf_40 : decode cX3_numbersOf 40 = .ok (.iconst 3, 1) := by decide +kernel
theorem dX3_numbersOf_41 : decode cX3_numbersOf 41 = .ok (.ireturn, 1) := by decide +kernel
theorem dX3_numbersOf_42 : decode cX3_numbersOf 42 = .ok (.iconst 2, 1) := by decide +kernel
theorem dX3_numbersOf_43 : decode cX3_numbersOf 43 = .ok (.ireturn, 1) := by decide +kernel
theorem dX3_numbersOf_44 : decode cX3_numbersOf 44 = .ok (.iconst 1, 1) := by decide +kernel
theorem dX3_numbersOf_45 : decode cX3_numbersOf 45 = .ok (.ireturn, 1) := by decide +kernel
theorem dX3_digitsOf_0 : decode cX3_digitsOf 0 = .ok (.iload_n 0, 1) := by decide +kernel
theorem dX3_digitsOf_1 : decode cX3_digitsOf 1 = .ok (.bipush 6, 2) := by decide +kernel
theorem dX3_digitsOf_3 : decode cX3_digitsOf 3 = .ok (.if_icmp .ne 7, 3) := by decide +kernel
theorem dX3_digitsOf_6 : decode cX3_digitsOf 6 = .ok (.iconst 1, 1) := by decide +kernel
theorem dX3_digitsOf_7 : decode cX3_digitsOf 7 = .ok (.goto 4, 3) := by decide +kernel
theorem dX3_digitsOf_10 : decode cX3_digitsOf 10 = .ok (.iconst 2, 1) := by decide +kernel
theorem dX3_digitsOf_11 : decode cX3_digitsOf 11 = .ok (.ireturn, 1) := by decide +kernel
theorem dX4_init_0 : decode cX4_init 0 = .ok (.aload_n 0, 1) := by decide +kernel
theorem dX4_init_1 : decode cX4_init 1 = .ok (.invokespecial 3, 3) := by decide +kernel
theorem dX4_init_4 : decode cX4_init 4 = .ok (.aload_n 0, 1) := by decide +kernel
theorem dX4_init_5 : decode cX4_init 5 = .ok (.bipush 12, 2) := by decide +kernel
theorem dX4_init_7 : decode cX4_init 7 = .ok (.newarray .int, 2) := by decide +kernel
theorem dX4_init_9 : decode cX4_init 9 = .ok (.putfield 9, 3) := by decide +kernel
theorem dX4_init_12 : decode cX4_init 12 = .ok (.return_, 1) := by decide +kernel
theorem dX4_copyFrom_0 : decode cX4_copyFrom 0 = .ok (.iconst 0, 1) := by decide +kernel
theorem dX4_copyFrom_1 : decode cX4_copyFrom 1 = .ok (.istore_n 2, 1) := by decide +kernel
theorem dX4_copyFrom_2 : decode cX4_copyFrom 2 = .ok (.iload_n 2, 1) := by decide +kernel
theorem dX4_copyFrom_3 : decode cX4_copyFrom 3 = .ok (.bipush 12, 2) := by decide +kernel
theorem dX4_copyFrom_5 : decode cX4_copyFrom 5 = .ok (.if_icmp .ge 21, 3) := by decide +kernel
theorem dX4_copyFrom_8 : decode cX4_copyFrom 8 = .ok (.aload_n 0, 1) := by decide +kernel
theorem dX4_copyFrom_9 : decode cX4_copyFrom 9 = .ok (.getfield 9, 3) := by decide +kernel
theorem dX4_copyFrom_12 : decode cX4_copyFrom 12 = .ok (.iload_n 2, 1) := by decide +kernel
theorem dX4_copyFrom_13 : decode cX4_copyFrom 13 = .ok (.aload_n 1, 1) := by decide +kernel
theorem dX4_copyFrom_14 : decode cX4_copyFrom 14 = .ok (.getfield 9, 3) := by decide +kernel
theorem dX4_copyFrom_17 : decode cX4_copyFrom 17 = .ok (.iload_n 2, 1) := by decide +kernel
theorem dX4_copyFrom_18 : decode cX4_copyFrom 18 = .ok (.iaload, 1) := by decide +kernel
theorem dX4_copyFrom_19 : decode cX4_copyFrom 19 = .ok (.iastore, 1) := by decide +kernel
theorem dX4_copyFrom_20 : decode cX4_copyFrom 20 = .ok (.iinc 2 1, 3) := by decide +kernel
theorem dX4_copyFrom_23 : decode cX4_copyFrom 23 = .ok (.goto (-21), 3) := by decide +kernel
theorem dX4_copyFrom_26 : decode cX4_copyFrom 26 = .ok (.aload_n 0, 1) := by decide +kernel
theorem dX4_copyFrom_27 : decode cX4_copyFrom 27 = .ok (.aload_n 1, 1) := by decide +kernel
theorem dX4_copyFrom_28 : decode cX4_copyFrom 28 = .ok (.getfield 15, 3) := by decide +kernel
theorem dX4_copyFrom_31 : decode cX4_copyFrom 31 = .ok (.putfield 15, 3) := by decide +kernel
theorem dX4_copyFrom_34 : decode cX4_copyFrom 34 = .ok (.aload_n 0, 1) := by decide +kernel
theorem dX4_copyFrom_35 : decode cX4_copyFrom 35 = .ok (.aload_n 1, 1) := by decide +kernel
theorem dX4_copyFrom_36 : decode cX4_copyFrom 36 = .ok (.getfield 19, 3) := by decide +kernel
theorem dX4_copyFrom_39 : decode cX4_copyFrom 39 = .ok (.putfield 19, 3) := by decide +kernel
theorem dX4_copyFrom_42 : decode cX4_copyFrom 42 = .ok (.return_, 1) := by decide +kernel
theorem dX4_receive_0 : decode cX4_receive 0 = .ok (.aload_n 0, 1) := by decide +kernel
theorem dX4_receive_1 : decode cX4_receive 1 = .ok (.getfield 9, 3) := by decide +kernel
theorem dX4_receive_4 : decode cX4_receive 4 = .ok (.iload_n 1, 1) := by decide +kernel
theorem dX4_receive_5 : decode cX4_receive 5 = .ok (.bipush 12, 2) := by decide +kernel
theorem dX4_receive_7 : decode cX4_receive 7 = .ok (.invokestatic 22, 3) := by decide +kernel
theorem dX4_receive_10 : decode cX4_receive 10 = .ok (.dup2, 1) := by decide +kernel
theorem dX4_receive_11 : decode cX4_receive 11 = .ok (.iaload, 1) := by decide +kernel
theorem dX4_receive_12 : decode cX4_receive 12 = .ok (.iload_n 2, 1) := by decide +kernel
theorem dX4_receive_13 : decode cX4_receive 13 = .ok (.iadd, 1) := by decide +kernel
theorem dX4_receive_14 : decode cX4_receive 14 = .ok (.iastore, 1) := by decide +kernel
theorem dX4_receive_15 : decode cX4_receive 15 = .ok (.aload_n 0, 1) := by decide +kernel
theorem dX4_receive_16 : decode cX4_receive 16 = .ok (.dup, 1) := by decide +kernel
theorem dX4_receive_17 : decode cX4_receive 17 = .ok (.getfield 15, 3) := by decide +kernel
theorem dX4_receive_20 : decode cX4_receive 20 = .ok (.iload_n 2, 1) := by decide +kernel
theorem dX4_receive_21 : decode cX4_receive 21 = .ok (.iadd, 1) := by decide +kernel
theorem dX4_receive_22 : decode cX4_receive 22 = .ok (.putfield 15, 3) := by decide +kernel
theorem dX4_receive_25 : decode cX4_receive 25 = .ok (.return_, 1) := by decide +kernel
theorem dX4_dustOf_0 : decode cX4_dustOf 0 = .ok (.iconst 0, 1) := by decide +kernel
theorem dX4_dustOf_1 : decode cX4_dustOf 1 = .ok (.istore_n 3, 1) := by decide +kernel
theorem dX4_dustOf_2 : decode cX4_dustOf 2 = .ok (.iconst 0, 1) := by decide +kernel
theorem dX4_dustOf_3 : decode cX4_dustOf 3 = .ok (.istore 4, 2) := by decide +kernel
theorem dX4_dustOf_5 : decode cX4_dustOf 5 = .ok (.iload 4, 2) := by decide +kernel
theorem dX4_dustOf_7 : decode cX4_dustOf 7 = .ok (.iload_n 2, 1) := by decide +kernel
theorem dX4_dustOf_8 : decode cX4_dustOf 8 = .ok (.if_icmp .ge 26, 3) := by decide +kernel
theorem dX4_dustOf_11 : decode cX4_dustOf 11 = .ok (.iload_n 3, 1) := by decide +kernel
theorem dX4_dustOf_12 : decode cX4_dustOf 12 = .ok (.aload_n 0, 1) := by decide +kernel
theorem dX4_dustOf_13 : decode cX4_dustOf 13 = .ok (.getfield 9, 3) := by decide +kernel
theorem dX4_dustOf_16 : decode cX4_dustOf 16 = .ok (.iload_n 1, 1) := by decide +kernel
theorem dX4_dustOf_17 : decode cX4_dustOf 17 = .ok (.iload 4, 2) := by decide +kernel
theorem dX4_dustOf_19 : decode cX4_dustOf 19 = .ok (.iadd, 1) := by decide +kernel
theorem dX4_dustOf_20 : decode cX4_dustOf 20 = .ok (.bipush 12, 2) := by decide +kernel
theorem dX4_dustOf_22 : decode cX4_dustOf 22 = .ok (.invokestatic 22, 3) := by decide +kernel
theorem dX4_dustOf_25 : decode cX4_dustOf 25 = .ok (.iaload, 1) := by decide +kernel
theorem dX4_dustOf_26 : decode cX4_dustOf 26 = .ok (.iadd, 1) := by decide +kernel
theorem dX4_dustOf_27 : decode cX4_dustOf 27 = .ok (.istore_n 3, 1) := by decide +kernel
theorem dX4_dustOf_28 : decode cX4_dustOf 28 = .ok (.iinc 4 1, 3) := by decide +kernel
theorem dX4_dustOf_31 : decode cX4_dustOf 31 = .ok (.goto (-26), 3) := by decide +kernel
theorem dX4_dustOf_34 : decode cX4_dustOf 34 = .ok (.iload_n 3, 1) := by decide +kernel
theorem dX4_dustOf_35 : decode cX4_dustOf 35 = .ok (.ireturn, 1) := by decide +kernel
theorem dX4_gainOf_0 : decode cX4_gainOf 0 = .ok (.aload_n 0, 1) := by decide +kernel
theorem dX4_gainOf_1 : decode cX4_gainOf 1 = .ok (.iload_n 1, 1) := by decide +kernel
theorem dX4_gainOf_2 : decode cX4_gainOf 2 = .ok (.iload_n 2, 1) := by decide +kernel
theorem dX4_gainOf_3 : decode cX4_gainOf 3 = .ok (.invokevirtual 28, 3) := by decide +kernel
theorem dX4_gainOf_6 : decode cX4_gainOf 6 = .ok (.iload_n 3, 1) := by decide +kernel
theorem dX4_gainOf_7 : decode cX4_gainOf 7 = .ok (.iload_n 2, 1) := by decide +kernel
theorem dX4_gainOf_8 : decode cX4_gainOf 8 = .ok (.imul, 1) := by decide +kernel
theorem dX4_gainOf_9 : decode cX4_gainOf 9 = .ok (.isub, 1) := by decide +kernel
theorem dX4_gainOf_10 : decode cX4_gainOf 10 = .ok (.ireturn, 1) := by decide +kernel
theorem dX4_empty_0 : decode cX4_empty 0 = .ok (.aload_n 0, 1) := by decide +kernel
theorem dX4_empty_1 : decode cX4_empty 1 = .ok (.iload_n 1, 1) := by decide +kernel
theorem dX4_empty_2 : decode cX4_empty 2 = .ok (.iload_n 2, 1) := by decide +kernel
theorem dX4_empty_3 : decode cX4_empty 3 = .ok (.invokevirtual 28, 3) := by decide +kernel
theorem dX4_empty_6 : decode cX4_empty 6 = .ok (.istore_n 3, 1) := by decide +kernel
theorem dX4_empty_7 : decode cX4_empty 7 = .ok (.iconst 0, 1) := by decide +kernel
theorem dX4_empty_8 : decode cX4_empty 8 = .ok (.istore 4, 2) := by decide +kernel
theorem dX4_empty_10 : decode cX4_empty 10 = .ok (.iload 4, 2) := by decide +kernel
theorem dX4_empty_12 : decode cX4_empty 12 = .ok (.iload_n 2, 1) := by decide +kernel
theorem dX4_empty_13 : decode cX4_empty 13 = .ok (.if_icmp .ge 24, 3) := by decide +kernel
theorem dX4_empty_16 : decode cX4_empty 16 = .ok (.aload_n 0, 1) := by decide +kernel
theorem dX4_empty_17 : decode cX4_empty 17 = .ok (.getfield 9, 3) := by decide +kernel
theorem dX4_empty_20 : decode cX4_empty 20 = .ok (.iload_n 1, 1) := by decide +kernel
theorem dX4_empty_21 : decode cX4_empty 21 = .ok (.iload 4, 2) := by decide +kernel
theorem dX4_empty_23 : decode cX4_empty 23 = .ok (.iadd, 1) := by decide +kernel
theorem dX4_empty_24 : decode cX4_empty 24 = .ok (.bipush 12, 2) := by decide +kernel
theorem dX4_empty_26 : decode cX4_empty 26 = .ok (.invokestatic 22, 3) := by decide +kernel
theorem dX4_empty_29 : decode cX4_empty 29 = .ok (.iconst 0, 1) := by decide +kernel
theorem dX4_empty_30 : decode cX4_empty 30 = .ok (.iastore, 1) := by decide +kernel
theorem dX4_empty_31 : decode cX4_empty 31 = .ok (.iinc 4 1, 3) := by decide +kernel
theorem dX4_empty_34 : decode cX4_empty 34 = .ok (.goto (-24), 3) := by decide +kernel
theorem dX4_empty_37 : decode cX4_empty 37 = .ok (.aload_n 0, 1) := by decide +kernel
theorem dX4_empty_38 : decode cX4_empty 38 = .ok (.dup, 1) := by decide +kernel
theorem dX4_empty_39 : decode cX4_empty 39 = .ok (.getfield 19, 3) := by decide +kernel
theorem dX4_empty_42 : decode cX4_empty 42 = .ok (.iload_n 3, 1) := by decide +kernel
theorem dX4_empty_43 : decode cX4_empty 43 = .ok (.iadd, 1) := by decide +kernel
theorem dX4_empty_44 : decode cX4_empty 44 = .ok (.putfield 19, 3) := by decide +kernel
theorem dX4_empty_47 : decode cX4_empty 47 = .ok (.iload_n 3, 1) := by decide +kernel
theorem dX4_empty_48 : decode cX4_empty 48 = .ok (.ireturn, 1) := by decide +kernel
theorem dX4_dustyPlaces_0 : decode cX4_dustyPlaces 0 = .ok (.iconst 0, 1) := by decide +kernel
theorem dX4_dustyPlaces_1 : decode cX4_dustyPlaces 1 = .ok (.istore_n 1, 1) := by decide +kernel
theorem dX4_dustyPlaces_2 : decode cX4_dustyPlaces 2 = .ok (.iconst 0, 1) := by decide +kernel
theorem dX4_dustyPlaces_3 : decode cX4_dustyPlaces 3 = .ok (.istore_n 2, 1) := by decide +kernel
theorem dX4_dustyPlaces_4 : decode cX4_dustyPlaces 4 = .ok (.iload_n 2, 1) := by decide +kernel
theorem dX4_dustyPlaces_5 : decode cX4_dustyPlaces 5 = .ok (.bipush 12, 2) := by decide +kernel
theorem dX4_dustyPlaces_7 : decode cX4_dustyPlaces 7 = .ok (.if_icmp .ge 21, 3) := by decide +kernel
theorem dX4_dustyPlaces_10 : decode cX4_dustyPlaces 10 = .ok (.aload_n 0, 1) := by decide +kernel
theorem dX4_dustyPlaces_11 : decode cX4_dustyPlaces 11 = .ok (.getfield 9, 3) := by decide +kernel
theorem dX4_dustyPlaces_14 : decode cX4_dustyPlaces 14 = .ok (.iload_n 2, 1) := by decide +kernel
theorem dX4_dustyPlaces_15 : decode cX4_dustyPlaces 15 = .ok (.iaload, 1) := by decide +kernel
theorem dX4_dustyPlaces_16 : decode cX4_dustyPlaces 16 = .ok (.ifCond .le 6, 3) := by decide +kernel
theorem dX4_dustyPlaces_19 : decode cX4_dustyPlaces 19 = .ok (.iinc 1 1, 3) := by decide +kernel
theorem dX4_dustyPlaces_22 : decode cX4_dustyPlaces 22 = .ok (.iinc 2 1, 3) := by decide +kernel
theorem dX4_dustyPlaces_25 : decode cX4_dustyPlaces 25 = .ok (.goto (-21), 3) := by decide +kernel
theorem dX4_dustyPlaces_28 : decode cX4_dustyPlaces 28 = .ok (.iload_n 1, 1) := by decide +kernel
theorem dX4_dustyPlaces_29 : decode cX4_dustyPlaces 29 = .ok (.ireturn, 1) := by decide +kernel
theorem dX4_greatestGainByRunningSums_0 : decode cX4_greatestGainByRunningSums 0 = .ok (.aload_n 0, 1) := by decide +kernel
theorem dX4_greatestGainByRunningSums_1 : decode cX4_greatestGainByRunningSums 1 = .ok (.getfield 9, 3) := by decide +kernel
theorem dX4_greatestGainByRunningSums_4 : decode cX4_greatestGainByRunningSums 4 = .ok (.iconst 0, 1) := by decide +kernel
theorem dX4_greatestGainByRunningSums_5 : decode cX4_greatestGainByRunningSums 5 = .ok (.iaload, 1) := by decide +kernel
theorem dX4_greatestGainByRunningSums_6 : decode cX4_greatestGainByRunningSums 6 = .ok (.iload_n 1, 1) := by decide +kernel
theorem dX4_greatestGainByRunningSums_7 : decode cX4_greatestGainByRunningSums 7 = .ok (.isub, 1) := by decide +kernel
theorem dX4_greatestGainByRunningSums_8 : decode cX4_greatestGainByRunningSums 8 = .ok (.istore_n 2, 1) := by decide +kernel
theorem dX4_greatestGainByRunningSums_9 : decode cX4_greatestGainByRunningSums 9 = .ok (.iload_n 2, 1) := by decide +kernel
theorem dX4_greatestGainByRunningSums_10 : decode cX4_greatestGainByRunningSums 10 = .ok (.istore_n 3, 1) := by decide +kernel
theorem dX4_greatestGainByRunningSums_11 : decode cX4_greatestGainByRunningSums 11 = .ok (.iload_n 2, 1) := by decide +kernel
theorem dX4_greatestGainByRunningSums_12 : decode cX4_greatestGainByRunningSums 12 = .ok (.istore 4, 2) := by decide +kernel
theorem dX4_greatestGainByRunningSums_14 : decode cX4_greatestGainByRunningSums 14 = .ok (.iload_n 2, 1) := by decide +kernel
theorem dX4_greatestGainByRunningSums_15 : decode cX4_greatestGainByRunningSums 15 = .ok (.istore 5, 2) := by decide +kernel
theorem dX4_greatestGainByRunningSums_17 : decode cX4_greatestGainByRunningSums 17 = .ok (.iload_n 2, 1) := by decide +kernel
theorem dX4_greatestGainByRunningSums_18 : decode cX4_greatestGainByRunningSums 18 = .ok (.istore 6, 2) := by decide +kernel
theorem dX4_greatestGainByRunningSums_20 : decode cX4_greatestGainByRunningSums 20 = .ok (.iconst 1, 1) := by decide +kernel
theorem dX4_greatestGainByRunningSums_21 : decode cX4_greatestGainByRunningSums 21 = .ok (.istore 7, 2) := by decide +kernel
theorem dX4_greatestGainByRunningSums_23 : decode cX4_greatestGainByRunningSums 23 = .ok (.iload 7, 2) := by decide +kernel
theorem dX4_greatestGainByRunningSums_25 : decode cX4_greatestGainByRunningSums 25 = .ok (.bipush 12, 2) := by decide +kernel
theorem dX4_greatestGainByRunningSums_27 : decode cX4_greatestGainByRunningSums 27 = .ok (.if_icmp .ge 62, 3) := by decide +kernel
theorem dX4_greatestGainByRunningSums_30 : decode cX4_greatestGainByRunningSums 30 = .ok (.aload_n 0, 1) := by decide +kernel
theorem dX4_greatestGainByRunningSums_31 : decode cX4_greatestGainByRunningSums 31 = .ok (.getfield 9, 3) := by decide +kernel
theorem dX4_greatestGainByRunningSums_34 : decode cX4_greatestGainByRunningSums 34 = .ok (.iload 7, 2) := by decide +kernel
theorem dX4_greatestGainByRunningSums_36 : decode cX4_greatestGainByRunningSums 36 = .ok (.iaload, 1) := by decide +kernel
theorem dX4_greatestGainByRunningSums_37 : decode cX4_greatestGainByRunningSums 37 = .ok (.iload_n 1, 1) := by decide +kernel
theorem dX4_greatestGainByRunningSums_38 : decode cX4_greatestGainByRunningSums 38 = .ok (.isub, 1) := by decide +kernel
theorem dX4_greatestGainByRunningSums_39 : decode cX4_greatestGainByRunningSums 39 = .ok (.istore 8, 2) := by decide +kernel
theorem dX4_greatestGainByRunningSums_41 : decode cX4_greatestGainByRunningSums 41 = .ok (.iload_n 2, 1) := by decide +kernel
theorem dX4_greatestGainByRunningSums_42 : decode cX4_greatestGainByRunningSums 42 = .ok (.iload 8, 2) := by decide +kernel
theorem dX4_greatestGainByRunningSums_44 : decode cX4_greatestGainByRunningSums 44 = .ok (.iadd, 1) := by decide +kernel
theorem dX4_greatestGainByRunningSums_45 : decode cX4_greatestGainByRunningSums 45 = .ok (.istore_n 2, 1) := by decide +kernel
theorem dX4_greatestGainByRunningSums_46 : decode cX4_greatestGainByRunningSums 46 = .ok (.iload_n 3, 1) := by decide +kernel
theorem dX4_greatestGainByRunningSums_47 : decode cX4_greatestGainByRunningSums 47 = .ok (.iconst 0, 1) := by decide +kernel
theorem dX4_greatestGainByRunningSums_48 : decode cX4_greatestGainByRunningSums 48 = .ok (.invokestatic 31, 3) := by decide +kernel
theorem dX4_greatestGainByRunningSums_51 : decode cX4_greatestGainByRunningSums 51 = .ok (.iload 8, 2) := by decide +kernel
theorem dX4_greatestGainByRunningSums_53 : decode cX4_greatestGainByRunningSums 53 = .ok (.iadd, 1) := by decide +kernel
theorem dX4_greatestGainByRunningSums_54 : decode cX4_greatestGainByRunningSums 54 = .ok (.istore_n 3, 1) := by decide +kernel
theorem dX4_greatestGainByRunningSums_55 : decode cX4_greatestGainByRunningSums 55 = .ok (.iload 4, 2) := by decide +kernel
theorem dX4_greatestGainByRunningSums_57 : decode cX4_greatestGainByRunningSums 57 = .ok (.iload_n 3, 1) := by decide +kernel
theorem dX4_greatestGainByRunningSums_58 : decode cX4_greatestGainByRunningSums 58 = .ok (.invokestatic 31, 3) := by decide +kernel
theorem dX4_greatestGainByRunningSums_61 : decode cX4_greatestGainByRunningSums 61 = .ok (.istore 4, 2) := by decide +kernel
theorem dX4_greatestGainByRunningSums_63 : decode cX4_greatestGainByRunningSums 63 = .ok (.iload 5, 2) := by decide +kernel
theorem dX4_greatestGainByRunningSums_65 : decode cX4_greatestGainByRunningSums 65 = .ok (.iconst 0, 1) := by decide +kernel
theorem dX4_greatestGainByRunningSums_66 : decode cX4_greatestGainByRunningSums 66 = .ok (.invokestatic 34, 3) := by decide +kernel
theorem dX4_greatestGainByRunningSums_69 : decode cX4_greatestGainByRunningSums 69 = .ok (.iload 8, 2) := by decide +kernel
theorem dX4_greatestGainByRunningSums_71 : decode cX4_greatestGainByRunningSums 71 = .ok (.iadd, 1) := by decide +kernel
theorem dX4_greatestGainByRunningSums_72 : decode cX4_greatestGainByRunningSums 72 = .ok (.istore 5, 2) := by decide +kernel
theorem dX4_greatestGainByRunningSums_74 : decode cX4_greatestGainByRunningSums 74 = .ok (.iload 6, 2) := by decide +kernel
theorem dX4_greatestGainByRunningSums_76 : decode cX4_greatestGainByRunningSums 76 = .ok (.iload 5, 2) := by decide +kernel
theorem dX4_greatestGainByRunningSums_78 : decode cX4_greatestGainByRunningSums 78 = .ok (.invokestatic 34, 3) := by decide +kernel
theorem dX4_greatestGainByRunningSums_81 : decode cX4_greatestGainByRunningSums 81 = .ok (.istore 6, 2) := by decide +kernel
theorem dX4_greatestGainByRunningSums_83 : decode cX4_greatestGainByRunningSums 83 = .ok (.iinc 7 1, 3) := by decide +kernel
theorem dX4_greatestGainByRunningSums_86 : decode cX4_greatestGainByRunningSums 86 = .ok (.goto (-63), 3) := by decide +kernel
theorem dX4_greatestGainByRunningSums_89 : decode cX4_greatestGainByRunningSums 89 = .ok (.iload 4, 2) := by decide +kernel
theorem dX4_greatestGainByRunningSums_91 : decode cX4_greatestGainByRunningSums 91 = .ok (.ifCond .ge 8, 3) := by decide +kernel
theorem dX4_greatestGainByRunningSums_94 : decode cX4_greatestGainByRunningSums 94 = .ok (.iload 4, 2) := by decide +kernel
theorem dX4_greatestGainByRunningSums_96 : decode cX4_greatestGainByRunningSums 96 = .ok (.goto 12, 3) := by decide +kernel
theorem dX4_greatestGainByRunningSums_99 : decode cX4_greatestGainByRunningSums 99 = .ok (.iload 4, 2) := by decide +kernel
theorem dX4_greatestGainByRunningSums_101 : decode cX4_greatestGainByRunningSums 101 = .ok (.iload_n 2, 1) := by decide +kernel
theorem dX4_greatestGainByRunningSums_102 : decode cX4_greatestGainByRunningSums 102 = .ok (.iload 6, 2) := by decide +kernel
theorem dX4_greatestGainByRunningSums_104 : decode cX4_greatestGainByRunningSums 104 = .ok (.isub, 1) := by decide +kernel
theorem dX4_greatestGainByRunningSums_105 : decode cX4_greatestGainByRunningSums 105 = .ok (.invokestatic 31, 3) := by decide +kernel
theorem dX4_greatestGainByRunningSums_108 : decode cX4_greatestGainByRunningSums 108 = .ok (.ireturn, 1) := by decide +kernel
theorem dX4_seekBestArc_0 : decode cX4_seekBestArc 0 = .ok (.aload_n 0, 1) := by decide +kernel
theorem dX4_seekBestArc_1 : decode cX4_seekBestArc 1 = .ok (.aload_n 0, 1) := by decide +kernel
theorem dX4_seekBestArc_2 : decode cX4_seekBestArc 2 = .ok (.iconst 0, 1) := by decide +kernel
theorem dX4_seekBestArc_3 : decode cX4_seekBestArc 3 = .ok (.iconst 1, 1) := by decide +kernel
theorem dX4_seekBestArc_4 : decode cX4_seekBestArc 4 = .ok (.iload_n 1, 1) := by decide +kernel
theorem dX4_seekBestArc_5 : decode cX4_seekBestArc 5 = .ok (.invokevirtual 37, 3) := by decide +kernel
theorem dX4_seekBestArc_8 : decode cX4_seekBestArc 8 = .ok (.putfield 41, 3) := by decide +kernel
theorem dX4_seekBestArc_11 : decode cX4_seekBestArc 11 = .ok (.aload_n 0, 1) := by decide +kernel
theorem dX4_seekBestArc_12 : decode cX4_seekBestArc 12 = .ok (.iconst 0, 1) := by decide +kernel
theorem dX4_seekBestArc_13 : decode cX4_seekBestArc 13 = .ok (.putfield 44, 3) := by decide +kernel
theorem dX4_seekBestArc_16 : decode cX4_seekBestArc 16 = .ok (.aload_n 0, 1) := by decide +kernel
theorem dX4_seekBestArc_17 : decode cX4_seekBestArc 17 = .ok (.iconst 1, 1) := by decide +kernel
theorem dX4_seekBestArc_18 : decode cX4_seekBestArc 18 = .ok (.putfield 47, 3) := by decide +kernel
theorem dX4_seekBestArc_21 : decode cX4_seekBestArc 21 = .ok (.iconst 1, 1) := by decide +kernel
theorem dX4_seekBestArc_22 : decode cX4_seekBestArc 22 = .ok (.istore_n 2, 1) := by decide +kernel
theorem dX4_seekBestArc_23 : decode cX4_seekBestArc 23 = .ok (.iload_n 2, 1) := by decide +kernel
theorem dX4_seekBestArc_24 : decode cX4_seekBestArc 24 = .ok (.bipush 12, 2) := by decide +kernel
theorem dX4_seekBestArc_26 : decode cX4_seekBestArc 26 = .ok (.if_icmp .gt 57, 3) := by decide +kernel
theorem dX4_seekBestArc_29 : decode cX4_seekBestArc 29 = .ok (.iconst 0, 1) := by decide +kernel
theorem dX4_seekBestArc_30 : decode cX4_seekBestArc 30 = .ok (.istore_n 3, 1) := by decide +kernel
theorem dX4_seekBestArc_31 : decode cX4_seekBestArc 31 = .ok (.iload_n 3, 1) := by decide +kernel
theorem dX4_seekBestArc_32 : decode cX4_seekBestArc 32 = .ok (.bipush 12, 2) := by decide +kernel
theorem dX4_seekBestArc_34 : decode cX4_seekBestArc 34 = .ok (.if_icmp .ge 43, 3) := by decide +kernel
theorem dX4_seekBestArc_37 : decode cX4_seekBestArc 37 = .ok (.aload_n 0, 1) := by decide +kernel
theorem dX4_seekBestArc_38 : decode cX4_seekBestArc 38 = .ok (.iload_n 3, 1) := by decide +kernel
theorem dX4_seekBestArc_39 : decode cX4_seekBestArc 39 = .ok (.iload_n 2, 1) := by decide +kernel
theorem dX4_seekBestArc_40 : decode cX4_seekBestArc 40 = .ok (.iload_n 1, 1) := by decide +kernel
theorem dX4_seekBestArc_41 : decode cX4_seekBestArc 41 = .ok (.invokevirtual 37, 3) := by decide +kernel
theorem dX4_seekBestArc_44 : decode cX4_seekBestArc 44 = .ok (.istore 4, 2) := by decide +kernel
theorem dX4_seekBestArc_46 : decode cX4_seekBestArc 46 = .ok (.iload 4, 2) := by decide +kernel
theorem dX4_seekBestArc_48 : decode cX4_seekBestArc 48 = .ok (.aload_n 0, 1) := by decide +kernel
theorem dX4_seekBestArc_49 : decode cX4_seekBestArc 49 = .ok (.getfield 41, 3) := by decide +kernel
theorem dX4_seekBestArc_52 : decode cX4_seekBestArc 52 = .ok (.if_icmp .le 19, 3) := by decide +kernel
theorem dX4_seekBestArc_55 : decode cX4_seekBestArc 55 = .ok (.aload_n 0, 1) := by decide +kernel
theorem dX4_seekBestArc_56 : decode cX4_seekBestArc 56 = .ok (.iload 4, 2) := by decide +kernel
theorem dX4_seekBestArc_58 : decode cX4_seekBestArc 58 = .ok (.putfield 41, 3) := by decide +kernel
theorem dX4_seekBestArc_61 : decode cX4_seekBestArc 61 = .ok (.aload_n 0, 1) := by decide +kernel
theorem dX4_seekBestArc_62 : decode cX4_seekBestArc 62 = .ok (.iload_n 3, 1) := by decide +kernel
theorem dX4_seekBestArc_63 : decode cX4_seekBestArc 63 = .ok (.putfield 44, 3) := by decide +kernel
theorem dX4_seekBestArc_66 : decode cX4_seekBestArc 66 = .ok (.aload_n 0, 1) := by decide +kernel
theorem dX4_seekBestArc_67 : decode cX4_seekBestArc 67 = .ok (.iload_n 2, 1) := by decide +kernel
theorem dX4_seekBestArc_68 : decode cX4_seekBestArc 68 = .ok (.putfield 47, 3) := by decide +kernel
theorem dX4_seekBestArc_71 : decode cX4_seekBestArc 71 = .ok (.iinc 3 1, 3) := by decide +kernel
theorem dX4_seekBestArc_74 : decode cX4_seekBestArc 74 = .ok (.goto (-43), 3) := by decide +kernel
theorem dX4_seekBestArc_77 : decode cX4_seekBestArc 77 = .ok (.iinc 2 1, 3) := by decide +kernel
theorem dX4_seekBestArc_80 : decode cX4_seekBestArc 80 = .ok (.goto (-57), 3) := by decide +kernel
theorem dX4_seekBestArc_83 : decode cX4_seekBestArc 83 = .ok (.return_, 1) := by decide +kernel
theorem dX5_init_0 : decode cX5_init 0 = .ok (.aload_n 0, 1) := by decide +kernel
theorem dX5_init_1 : decode cX5_init 1 = .ok (.invokespecial 3, 3) := by decide +kernel
theorem dX5_init_4 : decode cX5_init 4 = .ok (.aload_n 0, 1) := by decide +kernel
theorem dX5_init_5 : decode cX5_init 5 = .ok (.bipush 6, 2) := by decide +kernel
theorem dX5_init_7 : decode cX5_init 7 = .ok (.anewarray 9, 3) := by decide +kernel
theorem dX5_init_10 : decode cX5_init 10 = .ok (.putfield 11, 3) := by decide +kernel
theorem dX5_init_13 : decode cX5_init 13 = .ok (.iconst 0, 1) := by decide +kernel
theorem dX5_init_14 : decode cX5_init 14 = .ok (.istore_n 1, 1) := by decide +kernel
theorem dX5_init_15 : decode cX5_init 15 = .ok (.iload_n 1, 1) := by decide +kernel
theorem dX5_init_16 : decode cX5_init 16 = .ok (.bipush 6, 2) := by decide +kernel
theorem dX5_init_18 : decode cX5_init 18 = .ok (.if_icmp .ge 22, 3) := by decide +kernel
theorem dX5_init_21 : decode cX5_init 21 = .ok (.aload_n 0, 1) := by decide +kernel
theorem dX5_init_22 : decode cX5_init 22 = .ok (.getfield 11, 3) := by decide +kernel
theorem dX5_init_25 : decode cX5_init 25 = .ok (.iload_n 1, 1) := by decide +kernel
theorem dX5_init_26 : decode cX5_init 26 = .ok (.new 9, 3) := by decide +kernel
theorem dX5_init_29 : decode cX5_init 29 = .ok (.dup, 1) := by decide +kernel
theorem dX5_init_30 : decode cX5_init 30 = .ok (.invokespecial 17, 3) := by decide +kernel
theorem dX5_init_33 : decode cX5_init 33 = .ok (.aastore, 1) := by decide +kernel
theorem dX5_init_34 : decode cX5_init 34 = .ok (.iinc 1 1, 3) := by decide +kernel
theorem dX5_init_37 : decode cX5_init 37 = .ok (.goto (-22), 3) := by decide +kernel
theorem dX5_init_40 : decode cX5_init 40 = .ok (.aload_n 0, 1) := by decide +kernel
theorem dX5_init_41 : decode cX5_init 41 = .ok (.new 18, 3) := by decide +kernel
theorem dX5_init_44 : decode cX5_init 44 = .ok (.dup, 1) := by decide +kernel
theorem dX5_init_45 : decode cX5_init 45 = .ok (.invokespecial 20, 3) := by decide +kernel
theorem dX5_init_48 : decode cX5_init 48 = .ok (.putfield 21, 3) := by decide +kernel
theorem dX5_init_51 : decode cX5_init 51 = .ok (.aload_n 0, 1) := by decide +kernel
theorem dX5_init_52 : decode cX5_init 52 = .ok (.bipush 20, 2) := by decide +kernel
theorem dX5_init_54 : decode cX5_init 54 = .ok (.putfield 25, 3) := by decide +kernel
theorem dX5_init_57 : decode cX5_init 57 = .ok (.aload_n 0, 1) := by decide +kernel
theorem dX5_init_58 : decode cX5_init 58 = .ok (.iconst 2, 1) := by decide +kernel
theorem dX5_init_59 : decode cX5_init 59 = .ok (.putfield 29, 3) := by decide +kernel
theorem dX5_init_62 : decode cX5_init 62 = .ok (.return_, 1) := by decide +kernel
theorem dX5_copyFrom_0 : decode cX5_copyFrom 0 = .ok (.iconst 0, 1) := by decide +kernel
theorem dX5_copyFrom_1 : decode cX5_copyFrom 1 = .ok (.istore_n 2, 1) := by decide +kernel
theorem dX5_copyFrom_2 : decode cX5_copyFrom 2 = .ok (.iload_n 2, 1) := by decide +kernel
theorem dX5_copyFrom_3 : decode cX5_copyFrom 3 = .ok (.bipush 6, 2) := by decide +kernel
theorem dX5_copyFrom_5 : decode cX5_copyFrom 5 = .ok (.if_icmp .ge 24, 3) := by decide +kernel
theorem dX5_copyFrom_8 : decode cX5_copyFrom 8 = .ok (.aload_n 0, 1) := by decide +kernel
theorem dX5_copyFrom_9 : decode cX5_copyFrom 9 = .ok (.getfield 11, 3) := by decide +kernel
theorem dX5_copyFrom_12 : decode cX5_copyFrom 12 = .ok (.iload_n 2, 1) := by decide +kernel
theorem dX5_copyFrom_13 : decode cX5_copyFrom 13 = .ok (.aaload, 1) := by decide +kernel
theorem dX5_copyFrom_14 : decode cX5_copyFrom 14 = .ok (.aload_n 1, 1) := by decide +kernel
theorem dX5_copyFrom_15 : decode cX5_copyFrom 15 = .ok (.getfield 11, 3) := by decide +kernel
theorem dX5_copyFrom_18 : decode cX5_copyFrom 18 = .ok (.iload_n 2, 1) := by decide +kernel
theorem dX5_copyFrom_19 : decode cX5_copyFrom 19 = .ok (.aaload, 1) := by decide +kernel
theorem dX5_copyFrom_20 : decode cX5_copyFrom 20 = .ok (.invokevirtual 32, 3) := by decide +kernel
theorem dX5_copyFrom_23 : decode cX5_copyFrom 23 = .ok (.iinc 2 1, 3) := by decide +kernel
theorem dX5_copyFrom_26 : decode cX5_copyFrom 26 = .ok (.goto (-24), 3) := by decide +kernel
theorem dX5_copyFrom_29 : decode cX5_copyFrom 29 = .ok (.aload_n 0, 1) := by decide +kernel
theorem dX5_copyFrom_30 : decode cX5_copyFrom 30 = .ok (.getfield 21, 3) := by decide +kernel
theorem dX5_copyFrom_33 : decode cX5_copyFrom 33 = .ok (.aload_n 1, 1) := by decide +kernel
theorem dX5_copyFrom_34 : decode cX5_copyFrom 34 = .ok (.getfield 21, 3) := by decide +kernel
theorem dX5_copyFrom_37 : decode cX5_copyFrom 37 = .ok (.invokevirtual 36, 3) := by decide +kernel
theorem dX5_copyFrom_40 : decode cX5_copyFrom 40 = .ok (.aload_n 0, 1) := by decide +kernel
theorem dX5_copyFrom_41 : decode cX5_copyFrom 41 = .ok (.aload_n 1, 1) := by decide +kernel
theorem dX5_copyFrom_42 : decode cX5_copyFrom 42 = .ok (.getfield 39, 3) := by decide +kernel
theorem dX5_copyFrom_45 : decode cX5_copyFrom 45 = .ok (.putfield 39, 3) := by decide +kernel
theorem dX5_copyFrom_48 : decode cX5_copyFrom 48 = .ok (.aload_n 0, 1) := by decide +kernel
theorem dX5_copyFrom_49 : decode cX5_copyFrom 49 = .ok (.aload_n 1, 1) := by decide +kernel
theorem dX5_copyFrom_50 : decode cX5_copyFrom 50 = .ok (.getfield 42, 3) := by decide +kernel
theorem dX5_copyFrom_53 : decode cX5_copyFrom 53 = .ok (.putfield 42, 3) := by decide +kernel
theorem dX5_copyFrom_56 : decode cX5_copyFrom 56 = .ok (.aload_n 0, 1) := by decide +kernel
theorem dX5_copyFrom_57 : decode cX5_copyFrom 57 = .ok (.aload_n 1, 1) := by decide +kernel
theorem dX5_copyFrom_58 : decode cX5_copyFrom 58 = .ok (.getfield 45, 3) := by decide +kernel
theorem dX5_copyFrom_61 : decode cX5_copyFrom 61 = .ok (.putfield 45, 3) := by decide +kernel
theorem dX5_copyFrom_64 : decode cX5_copyFrom 64 = .ok (.aload_n 0, 1) := by decide +kernel
theorem dX5_copyFrom_65 : decode cX5_copyFrom 65 = .ok (.aload_n 1, 1) := by decide +kernel
theorem dX5_copyFrom_66 : decode cX5_copyFrom 66 = .ok (.getfield 25, 3) := by decide +kernel
theorem dX5_copyFrom_69 : decode cX5_copyFrom 69 = .ok (.putfield 25, 3) := by decide +kernel
theorem dX5_copyFrom_72 : decode cX5_copyFrom 72 = .ok (.aload_n 0, 1) := by decide +kernel
theorem dX5_copyFrom_73 : decode cX5_copyFrom 73 = .ok (.aload_n 1, 1) := by decide +kernel
theorem dX5_copyFrom_74 : decode cX5_copyFrom 74 = .ok (.getfield 29, 3) := by decide +kernel
theorem dX5_copyFrom_77 : decode cX5_copyFrom 77 = .ok (.putfield 29, 3) := by decide +kernel
theorem dX5_copyFrom_80 : decode cX5_copyFrom 80 = .ok (.aload_n 0, 1) := by decide +kernel
theorem dX5_copyFrom_81 : decode cX5_copyFrom 81 = .ok (.aload_n 1, 1) := by decide +kernel
theorem dX5_copyFrom_82 : decode cX5_copyFrom 82 = .ok (.getfield 48, 3) := by decide +kernel
theorem dX5_copyFrom_85 : decode cX5_copyFrom 85 = .ok (.putfield 48, 3) := by decide +kernel
theorem dX5_copyFrom_88 : decode cX5_copyFrom 88 = .ok (.aload_n 0, 1) := by decide +kernel
theorem dX5_copyFrom_89 : decode cX5_copyFrom 89 = .ok (.aload_n 1, 1) := by decide +kernel
theorem dX5_copyFrom_90 : decode cX5_copyFrom 90 = .ok (.getfield 51, 3) := by decide +kernel
theorem dX5_copyFrom_93 : decode cX5_copyFrom 93 = .ok (.putfield 51, 3) := by decide +kernel
theorem dX5_copyFrom_96 : decode cX5_copyFrom 96 = .ok (.return_, 1) := by decide +kernel
theorem dX5_hasRoom_0 : decode cX5_hasRoom 0 = .ok (.aload_n 0, 1) := by decide +kernel
theorem dX5_hasRoom_1 : decode cX5_hasRoom 1 = .ok (.getfield 39, 3) := by decide +kernel
theorem dX5_hasRoom_4 : decode cX5_hasRoom 4 = .ok (.bipush 6, 2) := by decide +kernel
theorem dX5_hasRoom_6 : decode cX5_hasRoom 6 = .ok (.if_icmp .ge 7, 3) := by decide +kernel
theorem dX5_hasRoom_9 : decode cX5_hasRoom 9 = .ok (.iconst 1, 1) := by decide +kernel
theorem dX5_hasRoom_10 : decode cX5_hasRoom 10 = .ok (.goto 4, 3) := by decide +kernel
theorem dX5_hasRoom_13 : decode cX5_hasRoom 13 = .ok (.iconst 0, 1) := by decide +kernel
theorem dX5_hasRoom_14 : decode cX5_hasRoom 14 = .ok (.ireturn, 1) := by decide +kernel
theorem dX5_add_0 : decode cX5_add 0 = .ok (.aload_n 0, 1) := by decide +kernel
theorem dX5_add_1 : decode cX5_add 1 = .ok (.invokevirtual 54, 3) := by decide +kernel
theorem dX5_add_4 : decode cX5_add 4 = .ok (.ifCond .ne 5, 3) := by decide +kernel
theorem dX5_add_7 : decode cX5_add 7 = .ok (.iconst (-1), 1) := by decide +kernel
theorem dX5_add_8 : decode cX5_add 8 = .ok (.ireturn, 1) := by decide +kernel
theorem dX5_add_9 : decode cX5_add 9 = .ok (.aload_n 0, 1) := by decide +kernel
theorem dX5_add_10 : decode cX5_add 10 = .ok (.getfield 11, 3) := by decide +kernel
theorem dX5_add_13 : decode cX5_add 13 = .ok (.aload_n 0, 1) := by decide +kernel
theorem dX5_add_14 : decode cX5_add 14 = .ok (.getfield 39, 3) := by decide +kernel
theorem dX5_add_17 : decode cX5_add 17 = .ok (.aaload, 1) := by decide +kernel
theorem dX5_add_18 : decode cX5_add 18 = .ok (.astore 4, 2) := by decide +kernel
theorem dX5_add_20 : decode cX5_add 20 = .ok (.aload 4, 2) := by decide +kernel
theorem dX5_add_22 : decode cX5_add 22 = .ok (.aload_n 0, 1) := by decide +kernel
theorem dX5_add_23 : decode cX5_add 23 = .ok (.getfield 42, 3) := by decide +kernel
theorem dX5_add_26 : decode cX5_add 26 = .ok (.putfield 58, 3) := by decide +kernel
theorem dX5_add_29 : decode cX5_add 29 = .ok (.aload 4, 2) := by decide +kernel
theorem dX5_add_31 : decode cX5_add 31 = .ok (.iload_n 1, 1) := by decide +kernel
theorem dX5_add_32 : decode cX5_add 32 = .ok (.putfield 61, 3) := by decide +kernel
theorem dX5_add_35 : decode cX5_add 35 = .ok (.aload 4, 2) := by decide +kernel
theorem dX5_add_37 : decode cX5_add 37 = .ok (.iload_n 3, 1) := by decide +kernel
theorem dX5_add_38 : decode cX5_add 38 = .ok (.putfield 64, 3) := by decide +kernel
theorem dX5_add_41 : decode cX5_add 41 = .ok (.aload 4, 2) := by decide +kernel
theorem dX5_add_43 : decode cX5_add 43 = .ok (.aload_n 0, 1) := by decide +kernel
theorem dX5_add_44 : decode cX5_add 44 = .ok (.getfield 45, 3) := by decide +kernel
theorem dX5_add_47 : decode cX5_add 47 = .ok (.iload_n 2, 1) := by decide +kernel
theorem dX5_add_48 : decode cX5_add 48 = .ok (.iadd, 1) := by decide +kernel
theorem dX5_add_49 : decode cX5_add 49 = .ok (.putfield 67, 3) := by decide +kernel
theorem dX5_add_52 : decode cX5_add 52 = .ok (.aload 4, 2) := by decide +kernel
theorem dX5_add_54 : decode cX5_add 54 = .ok (.iconst 0, 1) := by decide +kernel
theorem dX5_add_55 : decode cX5_add 55 = .ok (.putfield 70, 3) := by decide +kernel
theorem dX5_add_58 : decode cX5_add 58 = .ok (.aload_n 0, 1) := by decide +kernel
theorem dX5_add_59 : decode cX5_add 59 = .ok (.dup, 1) := by decide +kernel
theorem dX5_add_60 : decode cX5_add 60 = .ok (.getfield 39, 3) := by decide +kernel
theorem dX5_add_63 : decode cX5_add 63 = .ok (.iconst 1, 1) := by decide +kernel
theorem dX5_add_64 : decode cX5_add 64 = .ok (.iadd, 1) := by decide +kernel
theorem dX5_add_65 : decode cX5_add 65 = .ok (.putfield 39, 3) := by decide +kernel
theorem dX5_add_68 : decode cX5_add 68 = .ok (.aload_n 0, 1) := by decide +kernel
theorem dX5_add_69 : decode cX5_add 69 = .ok (.dup, 1) := by decide +kernel
theorem dX5_add_70 : decode cX5_add 70 = .ok (.getfield 42, 3) := by decide +kernel
theorem dX5_add_73 : decode cX5_add 73 = .ok (.iconst 1, 1) := by decide +kernel
theorem dX5_add_74 : decode cX5_add 74 = .ok (.iadd, 1) := by decide +kernel
theorem dX5_add_75 : decode cX5_add 75 = .ok (.putfield 42, 3) := by decide +kernel
theorem dX5_add_78 : decode cX5_add 78 = .ok (.aload 4, 2) := by decide +kernel
theorem dX5_add_80 : decode cX5_add 80 = .ok (.getfield 58, 3) := by decide +kernel
theorem dX5_add_83 : decode cX5_add 83 = .ok (.ireturn, 1) := by decide +kernel
theorem dX5_slotOf_0 : decode cX5_slotOf 0 = .ok (.iconst 0, 1) := by decide +kernel
theorem dX5_slotOf_1 : decode cX5_slotOf 1 = .ok (.istore_n 2, 1) := by decide +kernel
theorem dX5_slotOf_2 : decode cX5_slotOf 2 = .ok (.iload_n 2, 1) := by decide +kernel
theorem dX5_slotOf_3 : decode cX5_slotOf 3 = .ok (.aload_n 0, 1) := by decide +kernel
theorem dX5_slotOf_4 : decode cX5_slotOf 4 = .ok (.getfield 39, 3) := by decide +kernel
theorem dX5_slotOf_7 : decode cX5_slotOf 7 = .ok (.if_icmp .ge 24, 3) := by decide +kernel
theorem dX5_slotOf_10 : decode cX5_slotOf 10 = .ok (.aload_n 0, 1) := by decide +kernel
theorem dX5_slotOf_11 : decode cX5_slotOf 11 = .ok (.getfield 11, 3) := by decide +kernel
theorem dX5_slotOf_14 : decode cX5_slotOf 14 = .ok (.iload_n 2, 1) := by decide +kernel
theorem dX5_slotOf_15 : decode cX5_slotOf 15 = .ok (.aaload, 1) := by decide +kernel
theorem dX5_slotOf_16 : decode cX5_slotOf 16 = .ok (.getfield 58, 3) := by decide +kernel
theorem dX5_slotOf_19 : decode cX5_slotOf 19 = .ok (.iload_n 1, 1) := by decide +kernel
theorem dX5_slotOf_20 : decode cX5_slotOf 20 = .ok (.if_icmp .ne 5, 3) := by decide +kernel
theorem dX5_slotOf_23 : decode cX5_slotOf 23 = .ok (.iload_n 2, 1) := by decide +kernel
theorem dX5_slotOf_24 : decode cX5_slotOf 24 = .ok (.ireturn, 1) := by decide +kernel
theorem dX5_slotOf_25 : decode cX5_slotOf 25 = .ok (.iinc 2 1, 3) := by decide +kernel
theorem dX5_slotOf_28 : decode cX5_slotOf 28 = .ok (.goto (-26), 3) := by decide +kernel
theorem dX5_slotOf_31 : decode cX5_slotOf 31 = .ok (.iconst (-1), 1) := by decide +kernel
theorem dX5_slotOf_32 : decode cX5_slotOf 32 = .ok (.ireturn, 1) := by decide +kernel
theorem dX5_find_0 : decode cX5_find 0 = .ok (.aload_n 0, 1) := by decide +kernel
theorem dX5_find_1 : decode cX5_find 1 = .ok (.iload_n 1, 1) := by decide +kernel
theorem dX5_find_2 : decode cX5_find 2 = .ok (.invokevirtual 73, 3) := by decide +kernel
theorem dX5_find_5 : decode cX5_find 5 = .ok (.istore_n 2, 1) := by decide +kernel
theorem dX5_find_6 : decode cX5_find 6 = .ok (.iload_n 2, 1) := by decide +kernel
theorem dX5_find_7 : decode cX5_find 7 = .ok (.iconst (-1), 1) := by decide +kernel
theorem dX5_find_8 : decode cX5_find 8 = .ok (.if_icmp .ne 7, 3) := by decide +kernel
theorem dX5_find_11 : decode cX5_find 11 = .ok (.aconst_null, 1) := by decide +kernel
theorem dX5_find_12 : decode cX5_find 12 = .ok (.goto 9, 3) := by decide +kernel
theorem dX5_find_15 : decode cX5_find 15 = .ok (.aload_n 0, 1) := by decide +kernel
theorem dX5_find_16 : decode cX5_find 16 = .ok (.getfield 11, 3) := by decide +kernel
theorem dX5_find_19 : decode cX5_find 19 = .ok (.iload_n 2, 1) := by decide +kernel
theorem dX5_find_20 : decode cX5_find 20 = .ok (.aaload, 1) := by decide +kernel
theorem dX5_find_21 : decode cX5_find 21 = .ok (.areturn, 1) := by decide +kernel
theorem dX5_sell_0 : decode cX5_sell 0 = .ok (.aload_n 0, 1) := by decide +kernel
theorem dX5_sell_1 : decode cX5_sell 1 = .ok (.iload_n 1, 1) := by decide +kernel
theorem dX5_sell_2 : decode cX5_sell 2 = .ok (.invokevirtual 73, 3) := by decide +kernel
theorem dX5_sell_5 : decode cX5_sell 5 = .ok (.istore_n 2, 1) := by decide +kernel
theorem dX5_sell_6 : decode cX5_sell 6 = .ok (.iload_n 2, 1) := by decide +kernel
theorem dX5_sell_7 : decode cX5_sell 7 = .ok (.iconst (-1), 1) := by decide +kernel
theorem dX5_sell_8 : decode cX5_sell 8 = .ok (.if_icmp .ne 5, 3) := by decide +kernel
theorem dX5_sell_11 : decode cX5_sell 11 = .ok (.iconst 0, 1) := by decide +kernel
theorem dX5_sell_12 : decode cX5_sell 12 = .ok (.ireturn, 1) := by decide +kernel
theorem dX5_sell_13 : decode cX5_sell 13 = .ok (.aload_n 0, 1) := by decide +kernel
theorem dX5_sell_14 : decode cX5_sell 14 = .ok (.dup, 1) := by decide +kernel
theorem dX5_sell_15 : decode cX5_sell 15 = .ok (.getfield 25, 3) := by decide +kernel
theorem dX5_sell_18 : decode cX5_sell 18 = .ok (.aload_n 0, 1) := by decide +kernel
theorem dX5_sell_19 : decode cX5_sell 19 = .ok (.getfield 11, 3) := by decide +kernel
theorem dX5_sell_22 : decode cX5_sell 22 = .ok (.iload_n 2, 1) := by decide +kernel
theorem dX5_sell_23 : decode cX5_sell 23 = .ok (.aaload, 1) := by decide +kernel
theorem dX5_sell_24 : decode cX5_sell 24 = .ok (.getfield 64, 3) := by decide +kernel
theorem dX5_sell_27 : decode cX5_sell 27 = .ok (.iadd, 1) := by decide +kernel
theorem dX5_sell_28 : decode cX5_sell 28 = .ok (.putfield 25, 3) := by decide +kernel
theorem dX5_sell_31 : decode cX5_sell 31 = .ok (.aload_n 0, 1) := by decide +kernel
theorem dX5_sell_32 : decode cX5_sell 32 = .ok (.iload_n 2, 1) := by decide +kernel
theorem dX5_sell_33 : decode cX5_sell 33 = .ok (.invokevirtual 77, 3) := by decide +kernel
theorem dX5_sell_36 : decode cX5_sell 36 = .ok (.iconst 1, 1) := by decide +kernel
theorem dX5_sell_37 : decode cX5_sell 37 = .ok (.ireturn, 1) := by decide +kernel
theorem dX5_takeOut_0 : decode cX5_takeOut 0 = .ok (.aload_n 0, 1) := by decide +kernel
theorem dX5_takeOut_1 : decode cX5_takeOut 1 = .ok (.getfield 11, 3) := by decide +kernel
theorem dX5_takeOut_4 : decode cX5_takeOut 4 = .ok (.iload_n 1, 1) := by decide +kernel
theorem dX5_takeOut_5 : decode cX5_takeOut 5 = .ok (.aaload, 1) := by decide +kernel
theorem dX5_takeOut_6 : decode cX5_takeOut 6 = .ok (.astore_n 2, 1) := by decide +kernel
theorem dX5_takeOut_7 : decode cX5_takeOut 7 = .ok (.iload_n 1, 1) := by decide +kernel
theorem dX5_takeOut_8 : decode cX5_takeOut 8 = .ok (.istore_n 3, 1) := by decide +kernel
theorem dX5_takeOut_9 : decode cX5_takeOut 9 = .ok (.iload_n 3, 1) := by decide +kernel
theorem dX5_takeOut_10 : decode cX5_takeOut 10 = .ok (.aload_n 0, 1) := by decide +kernel
theorem dX5_takeOut_11 : decode cX5_takeOut 11 = .ok (.getfield 39, 3) := by decide +kernel
theorem dX5_takeOut_14 : decode cX5_takeOut 14 = .ok (.iconst 1, 1) := by decide +kernel
theorem dX5_takeOut_15 : decode cX5_takeOut 15 = .ok (.isub, 1) := by decide +kernel
theorem dX5_takeOut_16 : decode cX5_takeOut 16 = .ok (.if_icmp .ge 23, 3) := by decide +kernel
theorem dX5_takeOut_19 : decode cX5_takeOut 19 = .ok (.aload_n 0, 1) := by decide +kernel
theorem dX5_takeOut_20 : decode cX5_takeOut 20 = .ok (.getfield 11, 3) := by decide +kernel
theorem dX5_takeOut_23 : decode cX5_takeOut 23 = .ok (.iload_n 3, 1) := by decide +kernel
theorem dX5_takeOut_24 : decode cX5_takeOut 24 = .ok (.aload_n 0, 1) := by decide +kernel
theorem dX5_takeOut_25 : decode cX5_takeOut 25 = .ok (.getfield 11, 3) := by decide +kernel
theorem dX5_takeOut_28 : decode cX5_takeOut 28 = .ok (.iload_n 3, 1) := by decide +kernel
theorem dX5_takeOut_29 : decode cX5_takeOut 29 = .ok (.iconst 1, 1) := by decide +kernel
theorem dX5_takeOut_30 : decode cX5_takeOut 30 = .ok (.iadd, 1) := by decide +kernel
theorem dX5_takeOut_31 : decode cX5_takeOut 31 = .ok (.aaload, 1) := by decide +kernel
theorem dX5_takeOut_32 : decode cX5_takeOut 32 = .ok (.aastore, 1) := by decide +kernel
theorem dX5_takeOut_33 : decode cX5_takeOut 33 = .ok (.iinc 3 1, 3) := by decide +kernel
theorem dX5_takeOut_36 : decode cX5_takeOut 36 = .ok (.goto (-27), 3) := by decide +kernel
theorem dX5_takeOut_39 : decode cX5_takeOut 39 = .ok (.aload_n 0, 1) := by decide +kernel
theorem dX5_takeOut_40 : decode cX5_takeOut 40 = .ok (.getfield 11, 3) := by decide +kernel
theorem dX5_takeOut_43 : decode cX5_takeOut 43 = .ok (.aload_n 0, 1) := by decide +kernel
theorem dX5_takeOut_44 : decode cX5_takeOut 44 = .ok (.getfield 39, 3) := by decide +kernel
theorem dX5_takeOut_47 : decode cX5_takeOut 47 = .ok (.iconst 1, 1) := by decide +kernel
theorem dX5_takeOut_48 : decode cX5_takeOut 48 = .ok (.isub, 1) := by decide +kernel
theorem dX5_takeOut_49 : decode cX5_takeOut 49 = .ok (.aload_n 2, 1) := by decide +kernel
theorem dX5_takeOut_50 : decode cX5_takeOut 50 = .ok (.aastore, 1) := by decide +kernel
theorem dX5_takeOut_51 : decode cX5_takeOut 51 = .ok (.aload_n 0, 1) := by decide +kernel
theorem dX5_takeOut_52 : decode cX5_takeOut 52 = .ok (.dup, 1) := by decide +kernel
theorem dX5_takeOut_53 : decode cX5_takeOut 53 = .ok (.getfield 39, 3) := by decide +kernel
theorem dX5_takeOut_56 : decode cX5_takeOut 56 = .ok (.iconst 1, 1) := by decide +kernel
theorem dX5_takeOut_57 : decode cX5_takeOut 57 = .ok (.isub, 1) := by decide +kernel
theorem dX5_takeOut_58 : decode cX5_takeOut 58 = .ok (.putfield 39, 3) := by decide +kernel
theorem dX5_takeOut_61 : decode cX5_takeOut 61 = .ok (.return_, 1) := by decide +kernel
theorem dX5_canBuy_0 : decode cX5_canBuy 0 = .ok (.iconst 3, 1) := by decide +kernel
theorem dX5_canBuy_1 : decode cX5_canBuy 1 = .ok (.iload_n 1, 1) := by decide +kernel
theorem dX5_canBuy_2 : decode cX5_canBuy 2 = .ok (.imul, 1) := by decide +kernel
theorem dX5_canBuy_3 : decode cX5_canBuy 3 = .ok (.aload_n 0, 1) := by decide +kernel
theorem dX5_canBuy_4 : decode cX5_canBuy 4 = .ok (.getfield 25, 3) := by decide +kernel
theorem dX5_canBuy_7 : decode cX5_canBuy 7 = .ok (.if_icmp .gt 7, 3) := by decide +kernel
theorem dX5_canBuy_10 : decode cX5_canBuy 10 = .ok (.iconst 1, 1) := by decide +kernel
theorem dX5_canBuy_11 : decode cX5_canBuy 11 = .ok (.goto 4, 3) := by decide +kernel
theorem dX5_canBuy_14 : decode cX5_canBuy 14 = .ok (.iconst 0, 1) := by decide +kernel
theorem dX5_canBuy_15 : decode cX5_canBuy 15 = .ok (.ireturn, 1) := by decide +kernel
theorem dX5_buy_0 : decode cX5_buy 0 = .ok (.aload_n 0, 1) := by decide +kernel
theorem dX5_buy_1 : decode cX5_buy 1 = .ok (.dup, 1) := by decide +kernel
theorem dX5_buy_2 : decode cX5_buy 2 = .ok (.getfield 25, 3) := by decide +kernel
theorem dX5_buy_5 : decode cX5_buy 5 = .ok (.iconst 3, 1) := by decide +kernel
theorem dX5_buy_6 : decode cX5_buy 6 = .ok (.iload_n 2, 1) := by decide +kernel
theorem dX5_buy_7 : decode cX5_buy 7 = .ok (.imul, 1) := by decide +kernel
theorem dX5_buy_8 : decode cX5_buy 8 = .ok (.isub, 1) := by decide +kernel
theorem dX5_buy_9 : decode cX5_buy 9 = .ok (.putfield 25, 3) := by decide +kernel
theorem dX5_buy_12 : decode cX5_buy 12 = .ok (.aload_n 1, 1) := by decide +kernel
theorem dX5_buy_13 : decode cX5_buy 13 = .ok (.dup, 1) := by decide +kernel
theorem dX5_buy_14 : decode cX5_buy 14 = .ok (.getfield 64, 3) := by decide +kernel
theorem dX5_buy_17 : decode cX5_buy 17 = .ok (.iload_n 2, 1) := by decide +kernel
theorem dX5_buy_18 : decode cX5_buy 18 = .ok (.iadd, 1) := by decide +kernel
theorem dX5_buy_19 : decode cX5_buy 19 = .ok (.putfield 64, 3) := by decide +kernel
theorem dX5_buy_22 : decode cX5_buy 22 = .ok (.return_, 1) := by decide +kernel
theorem dX5_canSweep_0 : decode cX5_canSweep 0 = .ok (.aload_n 0, 1) := by decide +kernel
theorem dX5_canSweep_1 : decode cX5_canSweep 1 = .ok (.getfield 25, 3) := by decide +kernel
theorem dX5_canSweep_4 : decode cX5_canSweep 4 = .ok (.aload_n 0, 1) := by decide +kernel
theorem dX5_canSweep_5 : decode cX5_canSweep 5 = .ok (.getfield 21, 3) := by decide +kernel
theorem dX5_canSweep_8 : decode cX5_canSweep 8 = .ok (.iload_n 1, 1) := by decide +kernel
theorem dX5_canSweep_9 : decode cX5_canSweep 9 = .ok (.iload_n 2, 1) := by decide +kernel
theorem dX5_canSweep_10 : decode cX5_canSweep 10 = .ok (.aload_n 0, 1) := by decide +kernel
theorem dX5_canSweep_11 : decode cX5_canSweep 11 = .ok (.getfield 29, 3) := by decide +kernel
theorem dX5_canSweep_14 : decode cX5_canSweep 14 = .ok (.invokevirtual 81, 3) := by decide +kernel
theorem dX5_canSweep_17 : decode cX5_canSweep 17 = .ok (.iadd, 1) := by decide +kernel
theorem dX5_canSweep_18 : decode cX5_canSweep 18 = .ok (.ifCond .lt 7, 3) := by decide +kernel
theorem dX5_canSweep_21 : decode cX5_canSweep 21 = .ok (.iconst 1, 1) := by decide +kernel
theorem dX5_canSweep_22 : decode cX5_canSweep 22 = .ok (.goto 4, 3) := by decide +kernel
theorem dX5_canSweep_25 : decode cX5_canSweep 25 = .ok (.iconst 0, 1) := by decide +kernel
theorem dX5_canSweep_26 : decode cX5_canSweep 26 = .ok (.ireturn, 1) := by decide +kernel
theorem dX5_sweep_0 : decode cX5_sweep 0 = .ok (.aload_n 0, 1) := by decide +kernel
theorem dX5_sweep_1 : decode cX5_sweep 1 = .ok (.dup, 1) := by decide +kernel
theorem dX5_sweep_2 : decode cX5_sweep 2 = .ok (.getfield 25, 3) := by decide +kernel
theorem dX5_sweep_5 : decode cX5_sweep 5 = .ok (.aload_n 0, 1) := by decide +kernel
theorem dX5_sweep_6 : decode cX5_sweep 6 = .ok (.getfield 21, 3) := by decide +kernel
theorem dX5_sweep_9 : decode cX5_sweep 9 = .ok (.iload_n 1, 1) := by decide +kernel
theorem dX5_sweep_10 : decode cX5_sweep 10 = .ok (.iload_n 2, 1) := by decide +kernel
theorem dX5_sweep_11 : decode cX5_sweep 11 = .ok (.aload_n 0, 1) := by decide +kernel
theorem dX5_sweep_12 : decode cX5_sweep 12 = .ok (.getfield 29, 3) := by decide +kernel
theorem dX5_sweep_15 : decode cX5_sweep 15 = .ok (.invokevirtual 81, 3) := by decide +kernel
theorem dX5_sweep_18 : decode cX5_sweep 18 = .ok (.iadd, 1) := by decide +kernel
theorem dX5_sweep_19 : decode cX5_sweep 19 = .ok (.putfield 25, 3) := by decide +kernel
theorem dX5_sweep_22 : decode cX5_sweep 22 = .ok (.aload_n 0, 1) := by decide +kernel
theorem dX5_sweep_23 : decode cX5_sweep 23 = .ok (.getfield 21, 3) := by decide +kernel
theorem dX5_sweep_26 : decode cX5_sweep 26 = .ok (.iload_n 1, 1) := by decide +kernel
theorem dX5_sweep_27 : decode cX5_sweep 27 = .ok (.iload_n 2, 1) := by decide +kernel
theorem dX5_sweep_28 : decode cX5_sweep 28 = .ok (.invokevirtual 85, 3) := by decide +kernel
theorem dX5_sweep_31 : decode cX5_sweep 31 = .ok (.ireturn, 1) := by decide +kernel
theorem dX5_letPass_0 : decode cX5_letPass 0 = .ok (.aload_n 0, 1) := by decide +kernel
theorem dX5_letPass_1 : decode cX5_letPass 1 = .ok (.getfield 48, 3) := by decide +kernel
theorem dX5_letPass_4 : decode cX5_letPass 4 = .ok (.istore_n 2, 1) := by decide +kernel
theorem dX5_letPass_5 : decode cX5_letPass 5 = .ok (.iconst 0, 1) := by decide +kernel
theorem dX5_letPass_6 : decode cX5_letPass 6 = .ok (.istore_n 3, 1) := by decide +kernel
theorem dX5_letPass_7 : decode cX5_letPass 7 = .ok (.iload_n 3, 1) := by decide +kernel
theorem dX5_letPass_8 : decode cX5_letPass 8 = .ok (.iload_n 1, 1) := by decide +kernel
theorem dX5_letPass_9 : decode cX5_letPass 9 = .ok (.if_icmp .ge 13, 3) := by decide +kernel
theorem dX5_letPass_12 : decode cX5_letPass 12 = .ok (.aload_n 0, 1) := by decide +kernel
theorem dX5_letPass_13 : decode cX5_letPass 13 = .ok (.invokevirtual 89, 3) := by decide +kernel
theorem dX5_letPass_16 : decode cX5_letPass 16 = .ok (.iinc 3 1, 3) := by decide +kernel
theorem dX5_letPass_19 : decode cX5_letPass 19 = .ok (.goto (-12), 3) := by decide +kernel
theorem dX5_letPass_22 : decode cX5_letPass 22 = .ok (.aload_n 0, 1) := by decide +kernel
theorem dX5_letPass_23 : decode cX5_letPass 23 = .ok (.getfield 48, 3) := by decide +kernel
theorem dX5_letPass_26 : decode cX5_letPass 26 = .ok (.iload_n 2, 1) := by decide +kernel
theorem dX5_letPass_27 : decode cX5_letPass 27 = .ok (.isub, 1) := by decide +kernel
theorem dX5_letPass_28 : decode cX5_letPass 28 = .ok (.ireturn, 1) := by decide +kernel
theorem dX5_letOneDayPass_0 : decode cX5_letOneDayPass 0 = .ok (.aload_n 0, 1) := by decide +kernel
theorem dX5_letOneDayPass_1 : decode cX5_letOneDayPass 1 = .ok (.dup, 1) := by decide +kernel
theorem dX5_letOneDayPass_2 : decode cX5_letOneDayPass 2 = .ok (.getfield 45, 3) := by decide +kernel
theorem dX5_letOneDayPass_5 : decode cX5_letOneDayPass 5 = .ok (.iconst 1, 1) := by decide +kernel
theorem dX5_letOneDayPass_6 : decode cX5_letOneDayPass 6 = .ok (.iadd, 1) := by decide +kernel
theorem dX5_letOneDayPass_7 : decode cX5_letOneDayPass 7 = .ok (.putfield 45, 3) := by decide +kernel
theorem dX5_letOneDayPass_10 : decode cX5_letOneDayPass 10 = .ok (.iconst 0, 1) := by decide +kernel
theorem dX5_letOneDayPass_11 : decode cX5_letOneDayPass 11 = .ok (.istore_n 1, 1) := by decide +kernel
theorem dX5_letOneDayPass_12 : decode cX5_letOneDayPass 12 = .ok (.iload_n 1, 1) := by decide +kernel
theorem dX5_letOneDayPass_13 : decode cX5_letOneDayPass 13 = .ok (.aload_n 0, 1) := by decide +kernel
theorem dX5_letOneDayPass_14 : decode cX5_letOneDayPass 14 = .ok (.getfield 39, 3) := by decide +kernel
theorem dX5_letOneDayPass_17 : decode cX5_letOneDayPass 17 = .ok (.if_icmp .ge 35, 3) := by decide +kernel
theorem dX5_letOneDayPass_20 : decode cX5_letOneDayPass 20 = .ok (.aload_n 0, 1) := by decide +kernel
theorem dX5_letOneDayPass_21 : decode cX5_letOneDayPass 21 = .ok (.getfield 11, 3) := by decide +kernel
theorem dX5_letOneDayPass_24 : decode cX5_letOneDayPass 24 = .ok (.iload_n 1, 1) := by decide +kernel
theorem dX5_letOneDayPass_25 : decode cX5_letOneDayPass 25 = .ok (.aaload, 1) := by decide +kernel
theorem dX5_letOneDayPass_26 : decode cX5_letOneDayPass 26 = .ok (.getfield 67, 3) := by decide +kernel
theorem dX5_letOneDayPass_29 : decode cX5_letOneDayPass 29 = .ok (.aload_n 0, 1) := by decide +kernel
theorem dX5_letOneDayPass_30 : decode cX5_letOneDayPass 30 = .ok (.getfield 45, 3) := by decide +kernel
theorem dX5_letOneDayPass_33 : decode cX5_letOneDayPass 33 = .ok (.if_icmp .ne 13, 3) := by decide +kernel
theorem dX5_letOneDayPass_36 : decode cX5_letOneDayPass 36 = .ok (.aload_n 0, 1) := by decide +kernel
theorem dX5_letOneDayPass_37 : decode cX5_letOneDayPass 37 = .ok (.aload_n 0, 1) := by decide +kernel
theorem dX5_letOneDayPass_38 : decode cX5_letOneDayPass 38 = .ok (.getfield 11, 3) := by decide +kernel
theorem dX5_letOneDayPass_41 : decode cX5_letOneDayPass 41 = .ok (.iload_n 1, 1) := by decide +kernel
theorem dX5_letOneDayPass_42 : decode cX5_letOneDayPass 42 = .ok (.aaload, 1) := by decide +kernel
theorem dX5_letOneDayPass_43 : decode cX5_letOneDayPass 43 = .ok (.invokevirtual 92, 3) := by decide +kernel
theorem dX5_letOneDayPass_46 : decode cX5_letOneDayPass 46 = .ok (.iinc 1 1, 3) := by decide +kernel
theorem dX5_letOneDayPass_49 : decode cX5_letOneDayPass 49 = .ok (.goto (-37), 3) := by decide +kernel
theorem dX5_letOneDayPass_52 : decode cX5_letOneDayPass 52 = .ok (.aload_n 0, 1) := by decide +kernel
theorem dX5_letOneDayPass_53 : decode cX5_letOneDayPass 53 = .ok (.invokevirtual 95, 3) := by decide +kernel
theorem dX5_letOneDayPass_56 : decode cX5_letOneDayPass 56 = .ok (.return_, 1) := by decide +kernel
theorem dX5_letCometPass_0 : decode cX5_letCometPass 0 = .ok (.aload_n 0, 1) := by decide +kernel
theorem dX5_letCometPass_1 : decode cX5_letCometPass 1 = .ok (.getfield 21, 3) := by decide +kernel
theorem dX5_letCometPass_4 : decode cX5_letCometPass 4 = .ok (.aload_n 0, 1) := by decide +kernel
theorem dX5_letCometPass_5 : decode cX5_letCometPass 5 = .ok (.getfield 45, 3) := by decide +kernel
theorem dX5_letCometPass_8 : decode cX5_letCometPass 8 = .ok (.aload_n 1, 1) := by decide +kernel
theorem dX5_letCometPass_9 : decode cX5_letCometPass 9 = .ok (.getfield 64, 3) := by decide +kernel
theorem dX5_letCometPass_12 : decode cX5_letCometPass 12 = .ok (.invokevirtual 98, 3) := by decide +kernel
theorem dX5_letCometPass_15 : decode cX5_letCometPass 15 = .ok (.aload_n 1, 1) := by decide +kernel
theorem dX5_letCometPass_16 : decode cX5_letCometPass 16 = .ok (.dup, 1) := by decide +kernel
theorem dX5_letCometPass_17 : decode cX5_letCometPass 17 = .ok (.getfield 64, 3) := by decide +kernel
theorem dX5_letCometPass_20 : decode cX5_letCometPass 20 = .ok (.iconst 1, 1) := by decide +kernel
theorem dX5_letCometPass_21 : decode cX5_letCometPass 21 = .ok (.isub, 1) := by decide +kernel
theorem dX5_letCometPass_22 : decode cX5_letCometPass 22 = .ok (.putfield 64, 3) := by decide +kernel
theorem dX5_letCometPass_25 : decode cX5_letCometPass 25 = .ok (.aload_n 1, 1) := by decide +kernel
theorem dX5_letCometPass_26 : decode cX5_letCometPass 26 = .ok (.dup, 1) := by decide +kernel
theorem dX5_letCometPass_27 : decode cX5_letCometPass 27 = .ok (.getfield 67, 3) := by decide +kernel
theorem dX5_letCometPass_30 : decode cX5_letCometPass 30 = .ok (.aload_n 1, 1) := by decide +kernel
theorem dX5_letCometPass_31 : decode cX5_letCometPass 31 = .ok (.getfield 61, 3) := by decide +kernel
theorem dX5_letCometPass_34 : decode cX5_letCometPass 34 = .ok (.iadd, 1) := by decide +kernel
theorem dX5_letCometPass_35 : decode cX5_letCometPass 35 = .ok (.putfield 67, 3) := by decide +kernel
theorem dX5_letCometPass_38 : decode cX5_letCometPass 38 = .ok (.aload_n 1, 1) := by decide +kernel
theorem dX5_letCometPass_39 : decode cX5_letCometPass 39 = .ok (.dup, 1) := by decide +kernel
theorem dX5_letCometPass_40 : decode cX5_letCometPass 40 = .ok (.getfield 70, 3) := by decide +kernel
theorem dX5_letCometPass_43 : decode cX5_letCometPass 43 = .ok (.iconst 1, 1) := by decide +kernel
theorem dX5_letCometPass_44 : decode cX5_letCometPass 44 = .ok (.iadd, 1) := by decide +kernel
theorem dX5_letCometPass_45 : decode cX5_letCometPass 45 = .ok (.putfield 70, 3) := by decide +kernel
theorem dX5_letCometPass_48 : decode cX5_letCometPass 48 = .ok (.aload_n 0, 1) := by decide +kernel
theorem dX5_letCometPass_49 : decode cX5_letCometPass 49 = .ok (.dup, 1) := by decide +kernel
theorem dX5_letCometPass_50 : decode cX5_letCometPass 50 = .ok (.getfield 48, 3) := by decide +kernel
theorem dX5_letCometPass_53 : decode cX5_letCometPass 53 = .ok (.iconst 1, 1) := by decide +kernel
theorem dX5_letCometPass_54 : decode cX5_letCometPass 54 = .ok (.iadd, 1) := by decide +kernel
theorem dX5_letCometPass_55 : decode cX5_letCometPass 55 = .ok (.putfield 48, 3) := by decide +kernel
theorem dX5_letCometPass_58 : decode cX5_letCometPass 58 = .ok (.return_, 1) := by decide +kernel
theorem dX5_takeOutBurntComets_0 : decode cX5_takeOutBurntComets 0 = .ok (.aload_n 0, 1) := by decide +kernel
theorem dX5_takeOutBurntComets_1 : decode cX5_takeOutBurntComets 1 = .ok (.getfield 39, 3) := by decide +kernel
theorem dX5_takeOutBurntComets_4 : decode cX5_takeOutBurntComets 4 = .ok (.iconst 1, 1) := by decide +kernel
theorem dX5_takeOutBurntComets_5 : decode cX5_takeOutBurntComets 5 = .ok (.isub, 1) := by decide +kernel
theorem dX5_takeOutBurntComets_6 : decode cX5_takeOutBurntComets 6 = .ok (.istore_n 1, 1) := by decide +kernel
theorem dX5_takeOutBurntComets_7 : decode cX5_takeOutBurntComets 7 = .ok (.iload_n 1, 1) := by decide +kernel
theorem dX5_takeOutBurntComets_8 : decode cX5_takeOutBurntComets 8 = .ok (.ifCond .lt 36, 3) := by decide +kernel
theorem dX5_takeOutBurntComets_11 : decode cX5_takeOutBurntComets 11 = .ok (.aload_n 0, 1) := by decide +kernel
theorem dX5_takeOutBurntComets_12 : decode cX5_takeOutBurntComets 12 = .ok (.getfield 11, 3) := by decide +kernel
theorem dX5_takeOutBurntComets_15 : decode cX5_takeOutBurntComets 15 = .ok (.iload_n 1, 1) := by decide +kernel
theorem dX5_takeOutBurntComets_16 : decode cX5_takeOutBurntComets 16 = .ok (.aaload, 1) := by decide +kernel
theorem dX5_takeOutBurntComets_17 : decode cX5_takeOutBurntComets 17 = .ok (.getfield 64, 3) := by decide +kernel
theorem dX5_takeOutBurntComets_20 : decode cX5_takeOutBurntComets 20 = .ok (.ifCond .ne 18, 3) := by decide +kernel
theorem dX5_takeOutBurntComets_23 : decode cX5_takeOutBurntComets 23 = .ok (.aload_n 0, 1) := by decide +kernel
theorem dX5_takeOutBurntComets_24 : decode cX5_takeOutBurntComets 24 = .ok (.iload_n 1, 1) := by decide +kernel
theorem dX5_takeOutBurntComets_25 : decode cX5_takeOutBurntComets 25 = .ok (.invokevirtual 77, 3) := by decide +kernel
theorem dX5_takeOutBurntComets_28 : decode cX5_takeOutBurntComets 28 = .ok (.aload_n 0, 1) := by decide +kernel
theorem dX5_takeOutBurntComets_29 : decode cX5_takeOutBurntComets 29 = .ok (.dup, 1) := by decide +kernel
theorem dX5_takeOutBurntComets_30 : decode cX5_takeOutBurntComets 30 = .ok (.getfield 51, 3) := by decide +kernel
theorem dX5_takeOutBurntComets_33 : decode cX5_takeOutBurntComets 33 = .ok (.iconst 1, 1) := by decide +kernel
theorem dX5_takeOutBurntComets_34 : decode cX5_takeOutBurntComets 34 = .ok (.iadd, 1) := by decide +kernel
theorem dX5_takeOutBurntComets_35 : decode cX5_takeOutBurntComets 35 = .ok (.putfield 51, 3) := by decide +kernel
theorem dX5_takeOutBurntComets_38 : decode cX5_takeOutBurntComets 38 = .ok (.iinc 1 (-1), 3) := by decide +kernel
theorem dX5_takeOutBurntComets_41 : decode cX5_takeOutBurntComets 41 = .ok (.goto (-34), 3) := by decide +kernel
theorem dX5_takeOutBurntComets_44 : decode cX5_takeOutBurntComets 44 = .ok (.return_, 1) := by decide +kernel
theorem dX5_passesAhead_0 : decode cX5_passesAhead 0 = .ok (.iconst 0, 1) := by decide +kernel
theorem dX5_passesAhead_1 : decode cX5_passesAhead 1 = .ok (.istore_n 2, 1) := by decide +kernel
theorem dX5_passesAhead_2 : decode cX5_passesAhead 2 = .ok (.iconst 0, 1) := by decide +kernel
theorem dX5_passesAhead_3 : decode cX5_passesAhead 3 = .ok (.istore_n 3, 1) := by decide +kernel
theorem dX5_passesAhead_4 : decode cX5_passesAhead 4 = .ok (.iload_n 3, 1) := by decide +kernel
theorem dX5_passesAhead_5 : decode cX5_passesAhead 5 = .ok (.aload_n 0, 1) := by decide +kernel
theorem dX5_passesAhead_6 : decode cX5_passesAhead 6 = .ok (.getfield 39, 3) := by decide +kernel
theorem dX5_passesAhead_9 : decode cX5_passesAhead 9 = .ok (.if_icmp .ge 27, 3) := by decide +kernel
theorem dX5_passesAhead_12 : decode cX5_passesAhead 12 = .ok (.iload_n 2, 1) := by decide +kernel
theorem dX5_passesAhead_13 : decode cX5_passesAhead 13 = .ok (.aload_n 0, 1) := by decide +kernel
theorem dX5_passesAhead_14 : decode cX5_passesAhead 14 = .ok (.getfield 11, 3) := by decide +kernel
theorem dX5_passesAhead_17 : decode cX5_passesAhead 17 = .ok (.iload_n 3, 1) := by decide +kernel
theorem dX5_passesAhead_18 : decode cX5_passesAhead 18 = .ok (.aaload, 1) := by decide +kernel
theorem dX5_passesAhead_19 : decode cX5_passesAhead 19 = .ok (.aload_n 0, 1) := by decide +kernel
theorem dX5_passesAhead_20 : decode cX5_passesAhead 20 = .ok (.getfield 45, 3) := by decide +kernel
theorem dX5_passesAhead_23 : decode cX5_passesAhead 23 = .ok (.iload_n 1, 1) := by decide +kernel
theorem dX5_passesAhead_24 : decode cX5_passesAhead 24 = .ok (.iadd, 1) := by decide +kernel
theorem dX5_passesAhead_25 : decode cX5_passesAhead 25 = .ok (.invokevirtual 102, 3) := by decide +kernel
theorem dX5_passesAhead_28 : decode cX5_passesAhead 28 = .ok (.iadd, 1) := by decide +kernel
theorem dX5_passesAhead_29 : decode cX5_passesAhead 29 = .ok (.istore_n 2, 1) := by decide +kernel
theorem dX5_passesAhead_30 : decode cX5_passesAhead 30 = .ok (.iinc 3 1, 3) := by decide +kernel
theorem dX5_passesAhead_33 : decode cX5_passesAhead 33 = .ok (.goto (-29), 3) := by decide +kernel
theorem dX5_passesAhead_36 : decode cX5_passesAhead 36 = .ok (.iload_n 2, 1) := by decide +kernel
theorem dX5_passesAhead_37 : decode cX5_passesAhead 37 = .ok (.ireturn, 1) := by decide +kernel
theorem dX5_idAtRank_0 : decode cX5_idAtRank 0 = .ok (.iconst 0, 1) := by decide +kernel
theorem dX5_idAtRank_1 : decode cX5_idAtRank 1 = .ok (.istore_n 2, 1) := by decide +kernel
theorem dX5_idAtRank_2 : decode cX5_idAtRank 2 = .ok (.iload_n 2, 1) := by decide +kernel
theorem dX5_idAtRank_3 : decode cX5_idAtRank 3 = .ok (.aload_n 0, 1) := by decide +kernel
theorem dX5_idAtRank_4 : decode cX5_idAtRank 4 = .ok (.getfield 39, 3) := by decide +kernel
theorem dX5_idAtRank_7 : decode cX5_idAtRank 7 = .ok (.if_icmp .ge 33, 3) := by decide +kernel
theorem dX5_idAtRank_10 : decode cX5_idAtRank 10 = .ok (.aload_n 0, 1) := by decide +kernel
theorem dX5_idAtRank_11 : decode cX5_idAtRank 11 = .ok (.aload_n 0, 1) := by decide +kernel
theorem dX5_idAtRank_12 : decode cX5_idAtRank 12 = .ok (.getfield 11, 3) := by decide +kernel
theorem dX5_idAtRank_15 : decode cX5_idAtRank 15 = .ok (.iload_n 2, 1) := by decide +kernel
theorem dX5_idAtRank_16 : decode cX5_idAtRank 16 = .ok (.aaload, 1) := by decide +kernel
theorem dX5_idAtRank_17 : decode cX5_idAtRank 17 = .ok (.invokevirtual 105, 3) := by decide +kernel
theorem dX5_idAtRank_20 : decode cX5_idAtRank 20 = .ok (.iload_n 1, 1) := by decide +kernel
theorem dX5_idAtRank_21 : decode cX5_idAtRank 21 = .ok (.if_icmp .ne 13, 3) := by decide +kernel
theorem dX5_idAtRank_24 : decode cX5_idAtRank 24 = .ok (.aload_n 0, 1) := by decide +kernel
theorem dX5_idAtRank_25 : decode cX5_idAtRank 25 = .ok (.getfield 11, 3) := by decide +kernel
theorem dX5_idAtRank_28 : decode cX5_idAtRank 28 = .ok (.iload_n 2, 1) := by decide +kernel
theorem dX5_idAtRank_29 : decode cX5_idAtRank 29 = .ok (.aaload, 1) := by decide +kernel
theorem dX5_idAtRank_30 : decode cX5_idAtRank 30 = .ok (.getfield 58, 3) := by decide +kernel
theorem dX5_idAtRank_33 : decode cX5_idAtRank 33 = .ok (.ireturn, 1) := by decide +kernel
theorem dX5_idAtRank_34 : decode cX5_idAtRank 34 = .ok (.iinc 2 1, 3) := by decide +kernel
theorem dX5_idAtRank_37 : decode cX5_idAtRank 37 = .ok (.goto (-35), 3) := by decide +kernel
theorem dX5_idAtRank_40 : decode cX5_idAtRank 40 = .ok (.iconst (-1), 1) := by decide +kernel
theorem dX5_idAtRank_41 : decode cX5_idAtRank 41 = .ok (.ireturn, 1) := by decide +kernel
theorem dX5_rankOf_0 : decode cX5_rankOf 0 = .ok (.iconst 0, 1) := by decide +kernel
theorem dX5_rankOf_1 : decode cX5_rankOf 1 = .ok (.istore_n 2, 1) := by decide +kernel
theorem dX5_rankOf_2 : decode cX5_rankOf 2 = .ok (.iconst 0, 1) := by decide +kernel
theorem dX5_rankOf_3 : decode cX5_rankOf 3 = .ok (.istore_n 3, 1) := by decide +kernel
theorem dX5_rankOf_4 : decode cX5_rankOf 4 = .ok (.iload_n 3, 1) := by decide +kernel
theorem dX5_rankOf_5 : decode cX5_rankOf 5 = .ok (.aload_n 0, 1) := by decide +kernel
theorem dX5_rankOf_6 : decode cX5_rankOf 6 = .ok (.getfield 39, 3) := by decide +kernel
theorem dX5_rankOf_9 : decode cX5_rankOf 9 = .ok (.if_icmp .ge 25, 3) := by decide +kernel
theorem dX5_rankOf_12 : decode cX5_rankOf 12 = .ok (.aload_n 0, 1) := by decide +kernel
theorem dX5_rankOf_13 : decode cX5_rankOf 13 = .ok (.getfield 11, 3) := by decide +kernel
theorem dX5_rankOf_16 : decode cX5_rankOf 16 = .ok (.iload_n 3, 1) := by decide +kernel
theorem dX5_rankOf_17 : decode cX5_rankOf 17 = .ok (.aaload, 1) := by decide +kernel
theorem dX5_rankOf_18 : decode cX5_rankOf 18 = .ok (.aload_n 1, 1) := by decide +kernel
theorem dX5_rankOf_19 : decode cX5_rankOf 19 = .ok (.invokevirtual 109, 3) := by decide +kernel
theorem dX5_rankOf_22 : decode cX5_rankOf 22 = .ok (.ifCond .eq 6, 3) := by decide +kernel
theorem dX5_rankOf_25 : decode cX5_rankOf 25 = .ok (.iinc 2 1, 3) := by decide +kernel
theorem dX5_rankOf_28 : decode cX5_rankOf 28 = .ok (.iinc 3 1, 3) := by decide +kernel
theorem dX5_rankOf_31 : decode cX5_rankOf 31 = .ok (.goto (-27), 3) := by decide +kernel
theorem dX5_rankOf_34 : decode cX5_rankOf 34 = .ok (.iload_n 2, 1) := by decide +kernel
theorem dX5_rankOf_35 : decode cX5_rankOf 35 = .ok (.ireturn, 1) := by decide +kernel
theorem dX5_allPassesAreAhead_0 : decode cX5_allPassesAreAhead 0 = .ok (.iconst 0, 1) := by decide +kernel
theorem dX5_allPassesAreAhead_1 : decode cX5_allPassesAreAhead 1 = .ok (.istore_n 1, 1) := by decide +kernel
theorem dX5_allPassesAreAhead_2 : decode cX5_allPassesAreAhead 2 = .ok (.iload_n 1, 1) := by decide +kernel
theorem dX5_allPassesAreAhead_3 : decode cX5_allPassesAreAhead 3 = .ok (.aload_n 0, 1) := by decide +kernel
theorem dX5_allPassesAreAhead_4 : decode cX5_allPassesAreAhead 4 = .ok (.getfield 39, 3) := by decide +kernel
theorem dX5_allPassesAreAhead_7 : decode cX5_allPassesAreAhead 7 = .ok (.if_icmp .ge 27, 3) := by decide +kernel
theorem dX5_allPassesAreAhead_10 : decode cX5_allPassesAreAhead 10 = .ok (.aload_n 0, 1) := by decide +kernel
theorem dX5_allPassesAreAhead_11 : decode cX5_allPassesAreAhead 11 = .ok (.getfield 11, 3) := by decide +kernel
theorem dX5_allPassesAreAhead_14 : decode cX5_allPassesAreAhead 14 = .ok (.iload_n 1, 1) := by decide +kernel
theorem dX5_allPassesAreAhead_15 : decode cX5_allPassesAreAhead 15 = .ok (.aaload, 1) := by decide +kernel
theorem dX5_allPassesAreAhead_16 : decode cX5_allPassesAreAhead 16 = .ok (.getfield 67, 3) := by decide +kernel
theorem dX5_allPassesAreAhead_19 : decode cX5_allPassesAreAhead 19 = .ok (.aload_n 0, 1) := by decide +kernel
theorem dX5_allPassesAreAhead_20 : decode cX5_allPassesAreAhead 20 = .ok (.getfield 45, 3) := by decide +kernel
theorem dX5_allPassesAreAhead_23 : decode cX5_allPassesAreAhead 23 = .ok (.if_icmp .gt 5, 3) := by decide +kernel
theorem dX5_allPassesAreAhead_26 : decode cX5_allPassesAreAhead 26 = .ok (.iconst 0, 1) := by decide +kernel
theorem dX5_allPassesAreAhead_27 : decode cX5_allPassesAreAhead 27 = .ok (.ireturn, 1) := by decide +kernel
theorem dX5_allPassesAreAhead_28 : decode cX5_allPassesAreAhead 28 = .ok (.iinc 1 1, 3) := by decide +kernel
theorem dX5_allPassesAreAhead_31 : decode cX5_allPassesAreAhead 31 = .ok (.goto (-29), 3) := by decide +kernel
theorem dX5_allPassesAreAhead_34 : decode cX5_allPassesAreAhead 34 = .ok (.iconst 1, 1) := by decide +kernel
theorem dX5_allPassesAreAhead_35 : decode cX5_allPassesAreAhead 35 = .ok (.ireturn, 1) := by decide +kernel
theorem dX6_init_0 : decode cX6_init 0 = .ok (.aload_n 0, 1) := by decide +kernel
theorem dX6_init_1 : decode cX6_init 1 = .ok (.invokespecial 3, 3) := by decide +kernel
theorem dX6_init_4 : decode cX6_init 4 = .ok (.aload_n 0, 1) := by decide +kernel
theorem dX6_init_5 : decode cX6_init 5 = .ok (.bipush 120, 2) := by decide +kernel
theorem dX6_init_7 : decode cX6_init 7 = .ok (.newarray .int, 2) := by decide +kernel
theorem dX6_init_9 : decode cX6_init 9 = .ok (.putfield 11, 3) := by decide +kernel
theorem dX6_init_12 : decode cX6_init 12 = .ok (.aload_n 0, 1) := by decide +kernel
theorem dX6_init_13 : decode cX6_init 13 = .ok (.bipush 120, 2) := by decide +kernel
theorem dX6_init_15 : decode cX6_init 15 = .ok (.newarray .int, 2) := by decide +kernel
theorem dX6_init_17 : decode cX6_init 17 = .ok (.putfield 15, 3) := by decide +kernel
theorem dX6_init_20 : decode cX6_init 20 = .ok (.aload_n 0, 1) := by decide +kernel
theorem dX6_init_21 : decode cX6_init 21 = .ok (.bipush 120, 2) := by decide +kernel
theorem dX6_init_23 : decode cX6_init 23 = .ok (.newarray .int, 2) := by decide +kernel
theorem dX6_init_25 : decode cX6_init 25 = .ok (.putfield 18, 3) := by decide +kernel
theorem dX6_init_28 : decode cX6_init 28 = .ok (.aload_n 0, 1) := by decide +kernel
theorem dX6_init_29 : decode cX6_init 29 = .ok (.bipush 121, 2) := by decide +kernel
theorem dX6_init_31 : decode cX6_init 31 = .ok (.newarray .int, 2) := by decide +kernel
theorem dX6_init_33 : decode cX6_init 33 = .ok (.putfield 21, 3) := by decide +kernel
theorem dX6_init_36 : decode cX6_init 36 = .ok (.aload_n 0, 1) := by decide +kernel
theorem dX6_init_37 : decode cX6_init 37 = .ok (.bipush 62, 2) := by decide +kernel
theorem dX6_init_39 : decode cX6_init 39 = .ok (.newarray .int, 2) := by decide +kernel
theorem dX6_init_41 : decode cX6_init 41 = .ok (.putfield 24, 3) := by decide +kernel
theorem dX6_init_44 : decode cX6_init 44 = .ok (.aload_n 0, 1) := by decide +kernel
theorem dX6_init_45 : decode cX6_init 45 = .ok (.bipush 62, 2) := by decide +kernel
theorem dX6_init_47 : decode cX6_init 47 = .ok (.newarray .int, 2) := by decide +kernel
theorem dX6_init_49 : decode cX6_init 49 = .ok (.putfield 27, 3) := by decide +kernel
theorem dX6_init_52 : decode cX6_init 52 = .ok (.return_, 1) := by decide +kernel
theorem dX6_aim_0 : decode cX6_aim 0 = .ok (.aload_n 0, 1) := by decide +kernel
theorem dX6_aim_1 : decode cX6_aim 1 = .ok (.iconst 0, 1) := by decide +kernel
theorem dX6_aim_2 : decode cX6_aim 2 = .ok (.putfield 30, 3) := by decide +kernel
theorem dX6_aim_5 : decode cX6_aim 5 = .ok (.iconst 0, 1) := by decide +kernel
theorem dX6_aim_6 : decode cX6_aim 6 = .ok (.istore_n 3, 1) := by decide +kernel
theorem dX6_aim_7 : decode cX6_aim 7 = .ok (.iload_n 3, 1) := by decide +kernel
theorem dX6_aim_8 : decode cX6_aim 8 = .ok (.aload_n 1, 1) := by decide +kernel
theorem dX6_aim_9 : decode cX6_aim 9 = .ok (.getfield 34, 3) := by decide +kernel
theorem dX6_aim_12 : decode cX6_aim 12 = .ok (.if_icmp .ge 91, 3) := by decide +kernel
theorem dX6_aim_15 : decode cX6_aim 15 = .ok (.aload_n 1, 1) := by decide +kernel
theorem dX6_aim_16 : decode cX6_aim 16 = .ok (.getfield 37, 3) := by decide +kernel
theorem dX6_aim_19 : decode cX6_aim 19 = .ok (.iload_n 3, 1) := by decide +kernel
theorem dX6_aim_20 : decode cX6_aim 20 = .ok (.aaload, 1) := by decide +kernel
theorem dX6_aim_21 : decode cX6_aim 21 = .ok (.astore 4, 2) := by decide +kernel
theorem dX6_aim_23 : decode cX6_aim 23 = .ok (.aload 4, 2) := by decide +kernel
theorem dX6_aim_25 : decode cX6_aim 25 = .ok (.getfield 41, 3) := by decide +kernel
theorem dX6_aim_28 : decode cX6_aim 28 = .ok (.aload_n 1, 1) := by decide +kernel
theorem dX6_aim_29 : decode cX6_aim 29 = .ok (.getfield 46, 3) := by decide +kernel
theorem dX6_aim_32 : decode cX6_aim 32 = .ok (.isub, 1) := by decide +kernel
theorem dX6_aim_33 : decode cX6_aim 33 = .ok (.istore 5, 2) := by decide +kernel
theorem dX6_aim_35 : decode cX6_aim 35 = .ok (.aload 4, 2) := by decide +kernel
theorem dX6_aim_37 : decode cX6_aim 37 = .ok (.getfield 49, 3) := by decide +kernel
theorem dX6_aim_40 : decode cX6_aim 40 = .ok (.istore 6, 2) := by decide +kernel
theorem dX6_aim_42 : decode cX6_aim 42 = .ok (.iload 6, 2) := by decide +kernel
theorem dX6_aim_44 : decode cX6_aim 44 = .ok (.ifCond .le 53, 3) := by decide +kernel
theorem dX6_aim_47 : decode cX6_aim 47 = .ok (.iload 5, 2) := by decide +kernel
theorem dX6_aim_49 : decode cX6_aim 49 = .ok (.iload_n 2, 1) := by decide +kernel
theorem dX6_aim_50 : decode cX6_aim 50 = .ok (.if_icmp .gt 47, 3) := by decide +kernel
theorem dX6_aim_53 : decode cX6_aim 53 = .ok (.iload 5, 2) := by decide +kernel
theorem dX6_aim_55 : decode cX6_aim 55 = .ok (.iload 6, 2) := by decide +kernel
theorem dX6_aim_57 : decode cX6_aim 57 = .ok (.invokestatic 52, 3) := by decide +kernel
theorem dX6_aim_60 : decode cX6_aim 60 = .ok (.iadd, 1) := by decide +kernel
theorem dX6_aim_61 : decode cX6_aim 61 = .ok (.iconst 1, 1) := by decide +kernel
theorem dX6_aim_62 : decode cX6_aim 62 = .ok (.isub, 1) := by decide +kernel
theorem dX6_aim_63 : decode cX6_aim 63 = .ok (.istore 7, 2) := by decide +kernel
theorem dX6_aim_65 : decode cX6_aim 65 = .ok (.iload 7, 2) := by decide +kernel
theorem dX6_aim_67 : decode cX6_aim 67 = .ok (.iload_n 2, 1) := by decide +kernel
theorem dX6_aim_68 : decode cX6_aim 68 = .ok (.if_icmp .gt 13, 3) := by decide +kernel
theorem dX6_aim_71 : decode cX6_aim 71 = .ok (.aload_n 0, 1) := by decide +kernel
theorem dX6_aim_72 : decode cX6_aim 72 = .ok (.iload 5, 2) := by decide +kernel
theorem dX6_aim_74 : decode cX6_aim 74 = .ok (.iload 7, 2) := by decide +kernel
theorem dX6_aim_76 : decode cX6_aim 76 = .ok (.iload 6, 2) := by decide +kernel
theorem dX6_aim_78 : decode cX6_aim 78 = .ok (.invokevirtual 56, 3) := by decide +kernel
theorem dX6_aim_81 : decode cX6_aim 81 = .ok (.iload 5, 2) := by decide +kernel
theorem dX6_aim_83 : decode cX6_aim 83 = .ok (.aload 4, 2) := by decide +kernel
theorem dX6_aim_85 : decode cX6_aim 85 = .ok (.getfield 60, 3) := by decide +kernel
theorem dX6_aim_88 : decode cX6_aim 88 = .ok (.iadd, 1) := by decide +kernel
theorem dX6_aim_89 : decode cX6_aim 89 = .ok (.istore 5, 2) := by decide +kernel
theorem dX6_aim_91 : decode cX6_aim 91 = .ok (.iinc 6 (-1), 3) := by decide +kernel
theorem dX6_aim_94 : decode cX6_aim 94 = .ok (.goto (-52), 3) := by decide +kernel
theorem dX6_aim_97 : decode cX6_aim 97 = .ok (.iinc 3 1, 3) := by decide +kernel
theorem dX6_aim_100 : decode cX6_aim 100 = .ok (.goto (-93), 3) := by decide +kernel
theorem dX6_aim_103 : decode cX6_aim 103 = .ok (.return_, 1) := by decide +kernel
theorem dX6_insert_0 : decode cX6_insert 0 = .ok (.aload_n 0, 1) := by decide +kernel
theorem dX6_insert_1 : decode cX6_insert 1 = .ok (.getfield 30, 3) := by decide +kernel
theorem dX6_insert_4 : decode cX6_insert 4 = .ok (.bipush 120, 2) := by decide +kernel
theorem dX6_insert_6 : decode cX6_insert 6 = .ok (.if_icmp .lt 4, 3) := by decide +kernel
theorem dX6_insert_9 : decode cX6_insert 9 = .ok (.return_, 1) := by decide +kernel
theorem dX6_insert_10 : decode cX6_insert 10 = .ok (.aload_n 0, 1) := by decide +kernel
theorem dX6_insert_11 : decode cX6_insert 11 = .ok (.getfield 30, 3) := by decide +kernel
theorem dX6_insert_14 : decode cX6_insert 14 = .ok (.istore 4, 2) := by decide +kernel
theorem dX6_insert_16 : decode cX6_insert 16 = .ok (.iload 4, 2) := by decide +kernel
theorem dX6_insert_18 : decode cX6_insert 18 = .ok (.ifCond .le 70, 3) := by decide +kernel
theorem dX6_insert_21 : decode cX6_insert 21 = .ok (.aload_n 0, 1) := by decide +kernel
theorem dX6_insert_22 : decode cX6_insert 22 = .ok (.getfield 15, 3) := by decide +kernel
theorem dX6_insert_25 : decode cX6_insert 25 = .ok (.iload 4, 2) := by decide +kernel
theorem dX6_insert_27 : decode cX6_insert 27 = .ok (.iconst 1, 1) := by decide +kernel
theorem dX6_insert_28 : decode cX6_insert 28 = .ok (.isub, 1) := by decide +kernel
theorem dX6_insert_29 : decode cX6_insert 29 = .ok (.iaload, 1) := by decide +kernel
theorem dX6_insert_30 : decode cX6_insert 30 = .ok (.iload_n 2, 1) := by decide +kernel
theorem dX6_insert_31 : decode cX6_insert 31 = .ok (.if_icmp .le 57, 3) := by decide +kernel
theorem dX6_insert_34 : decode cX6_insert 34 = .ok (.aload_n 0, 1) := by decide +kernel
theorem dX6_insert_35 : decode cX6_insert 35 = .ok (.getfield 11, 3) := by decide +kernel
theorem dX6_insert_38 : decode cX6_insert 38 = .ok (.iload 4, 2) := by decide +kernel
theorem dX6_insert_40 : decode cX6_insert 40 = .ok (.aload_n 0, 1) := by decide +kernel
theorem dX6_insert_41 : decode cX6_insert 41 = .ok (.getfield 11, 3) := by decide +kernel
theorem dX6_insert_44 : decode cX6_insert 44 = .ok (.iload 4, 2) := by decide +kernel
theorem dX6_insert_46 : decode cX6_insert 46 = .ok (.iconst 1, 1) := by decide +kernel
theorem dX6_insert_47 : decode cX6_insert 47 = .ok (.isub, 1) := by decide +kernel
theorem dX6_insert_48 : decode cX6_insert 48 = .ok (.iaload, 1) := by decide +kernel
theorem dX6_insert_49 : decode cX6_insert 49 = .ok (.iastore, 1) := by decide +kernel
theorem dX6_insert_50 : decode cX6_insert 50 = .ok (.aload_n 0, 1) := by decide +kernel
theorem dX6_insert_51 : decode cX6_insert 51 = .ok (.getfield 15, 3) := by decide +kernel
theorem dX6_insert_54 : decode cX6_insert 54 = .ok (.iload 4, 2) := by decide +kernel
theorem dX6_insert_56 : decode cX6_insert 56 = .ok (.aload_n 0, 1) := by decide +kernel
theorem dX6_insert_57 : decode cX6_insert 57 = .ok (.getfield 15, 3) := by decide +kernel
theorem dX6_insert_60 : decode cX6_insert 60 = .ok (.iload 4, 2) := by decide +kernel
theorem dX6_insert_62 : decode cX6_insert 62 = .ok (.iconst 1, 1) := by decide +kernel
theorem dX6_insert_63 : decode cX6_insert 63 = .ok (.isub, 1) := by decide +kernel
theorem dX6_insert_64 : decode cX6_insert 64 = .ok (.iaload, 1) := by decide +kernel
theorem dX6_insert_65 : decode cX6_insert 65 = .ok (.iastore, 1) := by decide +kernel
theorem dX6_insert_66 : decode cX6_insert 66 = .ok (.aload_n 0, 1) := by decide +kernel
theorem dX6_insert_67 : decode cX6_insert 67 = .ok (.getfield 18, 3) := by decide +kernel
theorem dX6_insert_70 : decode cX6_insert 70 = .ok (.iload 4, 2) := by decide +kernel
theorem dX6_insert_72 : decode cX6_insert 72 = .ok (.aload_n 0, 1) := by decide +kernel
theorem dX6_insert_73 : decode cX6_insert 73 = .ok (.getfield 18, 3) := by decide +kernel
theorem dX6_insert_76 : decode cX6_insert 76 = .ok (.iload 4, 2) := by decide +kernel
theorem dX6_insert_78 : decode cX6_insert 78 = .ok (.iconst 1, 1) := by decide +kernel
theorem dX6_insert_79 : decode cX6_insert 79 = .ok (.isub, 1) := by decide +kernel
theorem dX6_insert_80 : decode cX6_insert 80 = .ok (.iaload, 1) := by decide +kernel
theorem dX6_insert_81 : decode cX6_insert 81 = .ok (.iastore, 1) := by decide +kernel
theorem dX6_insert_82 : decode cX6_insert 82 = .ok (.iinc 4 (-1), 3) := by decide +kernel
theorem dX6_insert_85 : decode cX6_insert 85 = .ok (.goto (-69), 3) := by decide +kernel
theorem dX6_insert_88 : decode cX6_insert 88 = .ok (.aload_n 0, 1) := by decide +kernel
theorem dX6_insert_89 : decode cX6_insert 89 = .ok (.getfield 11, 3) := by decide +kernel
theorem dX6_insert_92 : decode cX6_insert 92 = .ok (.iload 4, 2) := by decide +kernel
theorem dX6_insert_94 : decode cX6_insert 94 = .ok (.iload_n 1, 1) := by decide +kernel
theorem dX6_insert_95 : decode cX6_insert 95 = .ok (.iastore, 1) := by decide +kernel
theorem dX6_insert_96 : decode cX6_insert 96 = .ok (.aload_n 0, 1) := by decide +kernel
theorem dX6_insert_97 : decode cX6_insert 97 = .ok (.getfield 15, 3) := by decide +kernel
theorem dX6_insert_100 : decode cX6_insert 100 = .ok (.iload 4, 2) := by decide +kernel
theorem dX6_insert_102 : decode cX6_insert 102 = .ok (.iload_n 2, 1) := by decide +kernel
theorem dX6_insert_103 : decode cX6_insert 103 = .ok (.iastore, 1) := by decide +kernel
theorem dX6_insert_104 : decode cX6_insert 104 = .ok (.aload_n 0, 1) := by decide +kernel
theorem dX6_insert_105 : decode cX6_insert 105 = .ok (.getfield 18, 3) := by decide +kernel
theorem dX6_insert_108 : decode cX6_insert 108 = .ok (.iload 4, 2) := by decide +kernel
theorem dX6_insert_110 : decode cX6_insert 110 = .ok (.iload_n 3, 1) := by decide +kernel
theorem dX6_insert_111 : decode cX6_insert 111 = .ok (.iastore, 1) := by decide +kernel
theorem dX6_insert_112 : decode cX6_insert 112 = .ok (.aload_n 0, 1) := by decide +kernel
theorem dX6_insert_113 : decode cX6_insert 113 = .ok (.dup, 1) := by decide +kernel
theorem dX6_insert_114 : decode cX6_insert 114 = .ok (.getfield 30, 3) := by decide +kernel
theorem dX6_insert_117 : decode cX6_insert 117 = .ok (.iconst 1, 1) := by decide +kernel
theorem dX6_insert_118 : decode cX6_insert 118 = .ok (.iadd, 1) := by decide +kernel
theorem dX6_insert_119 : decode cX6_insert 119 = .ok (.putfield 30, 3) := by decide +kernel
theorem dX6_insert_122 : decode cX6_insert 122 = .ok (.return_, 1) := by decide +kernel
theorem dX6_worthByPasses_0 : decode cX6_worthByPasses 0 = .ok (.aload_n 0, 1) := by decide +kernel
theorem dX6_worthByPasses_1 : decode cX6_worthByPasses 1 = .ok (.getfield 21, 3) := by decide +kernel
theorem dX6_worthByPasses_4 : decode cX6_worthByPasses 4 = .ok (.iconst 0, 1) := by decide +kernel
theorem dX6_worthByPasses_5 : decode cX6_worthByPasses 5 = .ok (.iconst 0, 1) := by decide +kernel
theorem dX6_worthByPasses_6 : decode cX6_worthByPasses 6 = .ok (.iastore, 1) := by decide +kernel
theorem dX6_worthByPasses_7 : decode cX6_worthByPasses 7 = .ok (.iconst 0, 1) := by decide +kernel
theorem dX6_worthByPasses_8 : decode cX6_worthByPasses 8 = .ok (.istore_n 1, 1) := by decide +kernel
theorem dX6_worthByPasses_9 : decode cX6_worthByPasses 9 = .ok (.iload_n 1, 1) := by decide +kernel
theorem dX6_worthByPasses_10 : decode cX6_worthByPasses 10 = .ok (.aload_n 0, 1) := by decide +kernel
theorem dX6_worthByPasses_11 : decode cX6_worthByPasses 11 = .ok (.getfield 30, 3) := by decide +kernel
theorem dX6_worthByPasses_14 : decode cX6_worthByPasses 14 = .ok (.if_icmp .ge 51, 3) := by decide +kernel
theorem dX6_worthByPasses_17 : decode cX6_worthByPasses 17 = .ok (.aload_n 0, 1) := by decide +kernel
theorem dX6_worthByPasses_18 : decode cX6_worthByPasses 18 = .ok (.getfield 18, 3) := by decide +kernel
theorem dX6_worthByPasses_21 : decode cX6_worthByPasses 21 = .ok (.iload_n 1, 1) := by decide +kernel
theorem dX6_worthByPasses_22 : decode cX6_worthByPasses 22 = .ok (.iaload, 1) := by decide +kernel
theorem dX6_worthByPasses_23 : decode cX6_worthByPasses 23 = .ok (.aload_n 0, 1) := by decide +kernel
theorem dX6_worthByPasses_24 : decode cX6_worthByPasses 24 = .ok (.getfield 21, 3) := by decide +kernel
theorem dX6_worthByPasses_27 : decode cX6_worthByPasses 27 = .ok (.aload_n 0, 1) := by decide +kernel
theorem dX6_worthByPasses_28 : decode cX6_worthByPasses 28 = .ok (.aload_n 0, 1) := by decide +kernel
theorem dX6_worthByPasses_29 : decode cX6_worthByPasses 29 = .ok (.getfield 11, 3) := by decide +kernel
theorem dX6_worthByPasses_32 : decode cX6_worthByPasses 32 = .ok (.iload_n 1, 1) := by decide +kernel
theorem dX6_worthByPasses_33 : decode cX6_worthByPasses 33 = .ok (.iaload, 1) := by decide +kernel
theorem dX6_worthByPasses_34 : decode cX6_worthByPasses 34 = .ok (.iload_n 1, 1) := by decide +kernel
theorem dX6_worthByPasses_35 : decode cX6_worthByPasses 35 = .ok (.invokevirtual 63, 3) := by decide +kernel
theorem dX6_worthByPasses_38 : decode cX6_worthByPasses 38 = .ok (.iaload, 1) := by decide +kernel
theorem dX6_worthByPasses_39 : decode cX6_worthByPasses 39 = .ok (.iadd, 1) := by decide +kernel
theorem dX6_worthByPasses_40 : decode cX6_worthByPasses 40 = .ok (.istore_n 2, 1) := by decide +kernel
theorem dX6_worthByPasses_41 : decode cX6_worthByPasses 41 = .ok (.aload_n 0, 1) := by decide +kernel
theorem dX6_worthByPasses_42 : decode cX6_worthByPasses 42 = .ok (.getfield 21, 3) := by decide +kernel
theorem dX6_worthByPasses_45 : decode cX6_worthByPasses 45 = .ok (.iload_n 1, 1) := by decide +kernel
theorem dX6_worthByPasses_46 : decode cX6_worthByPasses 46 = .ok (.iconst 1, 1) := by decide +kernel
theorem dX6_worthByPasses_47 : decode cX6_worthByPasses 47 = .ok (.iadd, 1) := by decide +kernel
theorem dX6_worthByPasses_48 : decode cX6_worthByPasses 48 = .ok (.aload_n 0, 1) := by decide +kernel
theorem dX6_worthByPasses_49 : decode cX6_worthByPasses 49 = .ok (.getfield 21, 3) := by decide +kernel
theorem dX6_worthByPasses_52 : decode cX6_worthByPasses 52 = .ok (.iload_n 1, 1) := by decide +kernel
theorem dX6_worthByPasses_53 : decode cX6_worthByPasses 53 = .ok (.iaload, 1) := by decide +kernel
theorem dX6_worthByPasses_54 : decode cX6_worthByPasses 54 = .ok (.iload_n 2, 1) := by decide +kernel
theorem dX6_worthByPasses_55 : decode cX6_worthByPasses 55 = .ok (.invokestatic 67, 3) := by decide +kernel
theorem dX6_worthByPasses_58 : decode cX6_worthByPasses 58 = .ok (.iastore, 1) := by decide +kernel
theorem dX6_worthByPasses_59 : decode cX6_worthByPasses 59 = .ok (.iinc 1 1, 3) := by decide +kernel
theorem dX6_worthByPasses_62 : decode cX6_worthByPasses 62 = .ok (.goto (-53), 3) := by decide +kernel
theorem dX6_worthByPasses_65 : decode cX6_worthByPasses 65 = .ok (.aload_n 0, 1) := by decide +kernel
theorem dX6_worthByPasses_66 : decode cX6_worthByPasses 66 = .ok (.getfield 21, 3) := by decide +kernel
theorem dX6_worthByPasses_69 : decode cX6_worthByPasses 69 = .ok (.aload_n 0, 1) := by decide +kernel
theorem dX6_worthByPasses_70 : decode cX6_worthByPasses 70 = .ok (.getfield 30, 3) := by decide +kernel
theorem dX6_worthByPasses_73 : decode cX6_worthByPasses 73 = .ok (.iaload, 1) := by decide +kernel
theorem dX6_worthByPasses_74 : decode cX6_worthByPasses 74 = .ok (.ireturn, 1) := by decide +kernel
theorem dX6_endedBefore_0 : decode cX6_endedBefore 0 = .ok (.iload_n 2, 1) := by decide +kernel
theorem dX6_endedBefore_1 : decode cX6_endedBefore 1 = .ok (.istore_n 3, 1) := by decide +kernel
theorem dX6_endedBefore_2 : decode cX6_endedBefore 2 = .ok (.iload_n 3, 1) := by decide +kernel
theorem dX6_endedBefore_3 : decode cX6_endedBefore 3 = .ok (.ifCond .le 21, 3) := by decide +kernel
theorem dX6_endedBefore_6 : decode cX6_endedBefore 6 = .ok (.aload_n 0, 1) := by decide +kernel
theorem dX6_endedBefore_7 : decode cX6_endedBefore 7 = .ok (.getfield 15, 3) := by decide +kernel
theorem dX6_endedBefore_10 : decode cX6_endedBefore 10 = .ok (.iload_n 3, 1) := by decide +kernel
theorem dX6_endedBefore_11 : decode cX6_endedBefore 11 = .ok (.iconst 1, 1) := by decide +kernel
theorem dX6_endedBefore_12 : decode cX6_endedBefore 12 = .ok (.isub, 1) := by decide +kernel
theorem dX6_endedBefore_13 : decode cX6_endedBefore 13 = .ok (.iaload, 1) := by decide +kernel
theorem dX6_endedBefore_14 : decode cX6_endedBefore 14 = .ok (.iload_n 1, 1) := by decide +kernel
theorem dX6_endedBefore_15 : decode cX6_endedBefore 15 = .ok (.if_icmp .lt 9, 3) := by decide +kernel
theorem dX6_endedBefore_18 : decode cX6_endedBefore 18 = .ok (.iinc 3 (-1), 3) := by decide +kernel
theorem dX6_endedBefore_21 : decode cX6_endedBefore 21 = .ok (.goto (-19), 3) := by decide +kernel
theorem dX6_endedBefore_24 : decode cX6_endedBefore 24 = .ok (.iload_n 3, 1) := by decide +kernel
theorem dX6_endedBefore_25 : decode cX6_endedBefore 25 = .ok (.ireturn, 1) := by decide +kernel
theorem dX6_planByDays_0 : decode cX6_planByDays 0 = .ok (.aload_n 0, 1) := by decide +kernel
theorem dX6_planByDays_1 : decode cX6_planByDays 1 = .ok (.getfield 24, 3) := by decide +kernel
theorem dX6_planByDays_4 : decode cX6_planByDays 4 = .ok (.iload_n 1, 1) := by decide +kernel
theorem dX6_planByDays_5 : decode cX6_planByDays 5 = .ok (.iconst 1, 1) := by decide +kernel
theorem dX6_planByDays_6 : decode cX6_planByDays 6 = .ok (.iadd, 1) := by decide +kernel
theorem dX6_planByDays_7 : decode cX6_planByDays 7 = .ok (.iconst 0, 1) := by decide +kernel
theorem dX6_planByDays_8 : decode cX6_planByDays 8 = .ok (.iastore, 1) := by decide +kernel
theorem dX6_planByDays_9 : decode cX6_planByDays 9 = .ok (.aload_n 0, 1) := by decide +kernel
theorem dX6_planByDays_10 : decode cX6_planByDays 10 = .ok (.getfield 27, 3) := by decide +kernel
theorem dX6_planByDays_13 : decode cX6_planByDays 13 = .ok (.iload_n 1, 1) := by decide +kernel
theorem dX6_planByDays_14 : decode cX6_planByDays 14 = .ok (.iconst 1, 1) := by decide +kernel
theorem dX6_planByDays_15 : decode cX6_planByDays 15 = .ok (.iadd, 1) := by decide +kernel
theorem dX6_planByDays_16 : decode cX6_planByDays 16 = .ok (.iconst 0, 1) := by decide +kernel
theorem dX6_planByDays_17 : decode cX6_planByDays 17 = .ok (.iastore, 1) := by decide +kernel
theorem dX6_planByDays_18 : decode cX6_planByDays 18 = .ok (.iload_n 1, 1) := by decide +kernel
theorem dX6_planByDays_19 : decode cX6_planByDays 19 = .ok (.istore_n 2, 1) := by decide +kernel
theorem dX6_planByDays_20 : decode cX6_planByDays 20 = .ok (.iload_n 2, 1) := by decide +kernel
theorem dX6_planByDays_21 : decode cX6_planByDays 21 = .ok (.ifCond .le 103, 3) := by decide +kernel
theorem dX6_planByDays_24 : decode cX6_planByDays 24 = .ok (.aload_n 0, 1) := by decide +kernel
theorem dX6_planByDays_25 : decode cX6_planByDays 25 = .ok (.getfield 24, 3) := by decide +kernel
theorem dX6_planByDays_28 : decode cX6_planByDays 28 = .ok (.iload_n 2, 1) := by decide +kernel
theorem dX6_planByDays_29 : decode cX6_planByDays 29 = .ok (.aload_n 0, 1) := by decide +kernel
theorem dX6_planByDays_30 : decode cX6_planByDays 30 = .ok (.getfield 24, 3) := by decide +kernel
theorem dX6_planByDays_33 : decode cX6_planByDays 33 = .ok (.iload_n 2, 1) := by decide +kernel
theorem dX6_planByDays_34 : decode cX6_planByDays 34 = .ok (.iconst 1, 1) := by decide +kernel
theorem dX6_planByDays_35 : decode cX6_planByDays 35 = .ok (.iadd, 1) := by decide +kernel
theorem dX6_planByDays_36 : decode cX6_planByDays 36 = .ok (.iaload, 1) := by decide +kernel
theorem dX6_planByDays_37 : decode cX6_planByDays 37 = .ok (.iastore, 1) := by decide +kernel
theorem dX6_planByDays_38 : decode cX6_planByDays 38 = .ok (.aload_n 0, 1) := by decide +kernel
theorem dX6_planByDays_39 : decode cX6_planByDays 39 = .ok (.getfield 27, 3) := by decide +kernel
theorem dX6_planByDays_42 : decode cX6_planByDays 42 = .ok (.iload_n 2, 1) := by decide +kernel
theorem dX6_planByDays_43 : decode cX6_planByDays 43 = .ok (.aload_n 0, 1) := by decide +kernel
theorem dX6_planByDays_44 : decode cX6_planByDays 44 = .ok (.getfield 27, 3) := by decide +kernel
theorem dX6_planByDays_47 : decode cX6_planByDays 47 = .ok (.iload_n 2, 1) := by decide +kernel
theorem dX6_planByDays_48 : decode cX6_planByDays 48 = .ok (.iconst 1, 1) := by decide +kernel
theorem dX6_planByDays_49 : decode cX6_planByDays 49 = .ok (.iadd, 1) := by decide +kernel
theorem dX6_planByDays_50 : decode cX6_planByDays 50 = .ok (.iaload, 1) := by decide +kernel
theorem dX6_planByDays_51 : decode cX6_planByDays 51 = .ok (.iastore, 1) := by decide +kernel
theorem dX6_planByDays_52 : decode cX6_planByDays 52 = .ok (.iconst 0, 1) := by decide +kernel
theorem dX6_planByDays_53 : decode cX6_planByDays 53 = .ok (.istore_n 3, 1) := by decide +kernel
theorem dX6_planByDays_54 : decode cX6_planByDays 54 = .ok (.iload_n 3, 1) := by decide +kernel
theorem dX6_planByDays_55 : decode cX6_planByDays 55 = .ok (.aload_n 0, 1) := by decide +kernel
theorem dX6_planByDays_56 : decode cX6_planByDays 56 = .ok (.getfield 30, 3) := by decide +kernel
theorem dX6_planByDays_59 : decode cX6_planByDays 59 = .ok (.if_icmp .ge 59, 3) := by decide +kernel
theorem dX6_planByDays_62 : decode cX6_planByDays 62 = .ok (.aload_n 0, 1) := by decide +kernel
theorem dX6_planByDays_63 : decode cX6_planByDays 63 = .ok (.getfield 11, 3) := by decide +kernel
theorem dX6_planByDays_66 : decode cX6_planByDays 66 = .ok (.iload_n 3, 1) := by decide +kernel
theorem dX6_planByDays_67 : decode cX6_planByDays 67 = .ok (.iaload, 1) := by decide +kernel
theorem dX6_planByDays_68 : decode cX6_planByDays 68 = .ok (.iload_n 2, 1) := by decide +kernel
theorem dX6_planByDays_69 : decode cX6_planByDays 69 = .ok (.if_icmp .ne 43, 3) := by decide +kernel
theorem dX6_planByDays_72 : decode cX6_planByDays 72 = .ok (.aload_n 0, 1) := by decide +kernel
theorem dX6_planByDays_73 : decode cX6_planByDays 73 = .ok (.iload_n 2, 1) := by decide +kernel
theorem dX6_planByDays_74 : decode cX6_planByDays 74 = .ok (.aload_n 0, 1) := by decide +kernel
theorem dX6_planByDays_75 : decode cX6_planByDays 75 = .ok (.getfield 18, 3) := by decide +kernel
theorem dX6_planByDays_78 : decode cX6_planByDays 78 = .ok (.iload_n 3, 1) := by decide +kernel
theorem dX6_planByDays_79 : decode cX6_planByDays 79 = .ok (.iaload, 1) := by decide +kernel
theorem dX6_planByDays_80 : decode cX6_planByDays 80 = .ok (.aload_n 0, 1) := by decide +kernel
theorem dX6_planByDays_81 : decode cX6_planByDays 81 = .ok (.getfield 24, 3) := by decide +kernel
theorem dX6_planByDays_84 : decode cX6_planByDays 84 = .ok (.aload_n 0, 1) := by decide +kernel
theorem dX6_planByDays_85 : decode cX6_planByDays 85 = .ok (.getfield 15, 3) := by decide +kernel
theorem dX6_planByDays_88 : decode cX6_planByDays 88 = .ok (.iload_n 3, 1) := by decide +kernel
theorem dX6_planByDays_89 : decode cX6_planByDays 89 = .ok (.iaload, 1) := by decide +kernel
theorem dX6_planByDays_90 : decode cX6_planByDays 90 = .ok (.iconst 1, 1) := by decide +kernel
theorem dX6_planByDays_91 : decode cX6_planByDays 91 = .ok (.iadd, 1) := by decide +kernel
theorem dX6_planByDays_92 : decode cX6_planByDays 92 = .ok (.iaload, 1) := by decide +kernel
theorem dX6_planByDays_93 : decode cX6_planByDays 93 = .ok (.iadd, 1) := by decide +kernel
theorem dX6_planByDays_94 : decode cX6_planByDays 94 = .ok (.iconst 1, 1) := by decide +kernel
theorem dX6_planByDays_95 : decode cX6_planByDays 95 = .ok (.aload_n 0, 1) := by decide +kernel
theorem dX6_planByDays_96 : decode cX6_planByDays 96 = .ok (.getfield 27, 3) := by decide +kernel
theorem dX6_planByDays_99 : decode cX6_planByDays 99 = .ok (.aload_n 0, 1) := by decide +kernel
theorem dX6_planByDays_100 : decode cX6_planByDays 100 = .ok (.getfield 15, 3) := by decide +kernel
theorem dX6_planByDays_103 : decode cX6_planByDays 103 = .ok (.iload_n 3, 1) := by decide +kernel
theorem dX6_planByDays_104 : decode cX6_planByDays 104 = .ok (.iaload, 1) := by decide +kernel
theorem dX6_planByDays_105 : decode cX6_planByDays 105 = .ok (.iconst 1, 1) := by decide +kernel
theorem dX6_planByDays_106 : decode cX6_planByDays 106 = .ok (.iadd, 1) := by decide +kernel
theorem dX6_planByDays_107 : decode cX6_planByDays 107 = .ok (.iaload, 1) := by decide +kernel
theorem dX6_planByDays_108 : decode cX6_planByDays 108 = .ok (.iadd, 1) := by decide +kernel
theorem dX6_planByDays_109 : decode cX6_planByDays 109 = .ok (.invokevirtual 72, 3) := by decide +kernel
theorem dX6_planByDays_112 : decode cX6_planByDays 112 = .ok (.iinc 3 1, 3) := by decide +kernel
theorem dX6_planByDays_115 : decode cX6_planByDays 115 = .ok (.goto (-61), 3) := by decide +kernel
theorem dX6_planByDays_118 : decode cX6_planByDays 118 = .ok (.iinc 2 (-1), 3) := by decide +kernel
theorem dX6_planByDays_121 : decode cX6_planByDays 121 = .ok (.goto (-101), 3) := by decide +kernel
theorem dX6_planByDays_124 : decode cX6_planByDays 124 = .ok (.return_, 1) := by decide +kernel
theorem dX6_offer_0 : decode cX6_offer 0 = .ok (.iload_n 2, 1) := by decide +kernel
theorem dX6_offer_1 : decode cX6_offer 1 = .ok (.aload_n 0, 1) := by decide +kernel
theorem dX6_offer_2 : decode cX6_offer 2 = .ok (.getfield 24, 3) := by decide +kernel
theorem dX6_offer_5 : decode cX6_offer 5 = .ok (.iload_n 1, 1) := by decide +kernel
theorem dX6_offer_6 : decode cX6_offer 6 = .ok (.iaload, 1) := by decide +kernel
theorem dX6_offer_7 : decode cX6_offer 7 = .ok (.if_icmp .gt 23, 3) := by decide +kernel
theorem dX6_offer_10 : decode cX6_offer 10 = .ok (.iload_n 2, 1) := by decide +kernel
theorem dX6_offer_11 : decode cX6_offer 11 = .ok (.aload_n 0, 1) := by decide +kernel
theorem dX6_offer_12 : decode cX6_offer 12 = .ok (.getfield 24, 3) := by decide +kernel
theorem dX6_offer_15 : decode cX6_offer 15 = .ok (.iload_n 1, 1) := by decide +kernel
theorem dX6_offer_16 : decode cX6_offer 16 = .ok (.iaload, 1) := by decide +kernel
theorem dX6_offer_17 : decode cX6_offer 17 = .ok (.if_icmp .ne 27, 3) := by decide +kernel
theorem dX6_offer_20 : decode cX6_offer 20 = .ok (.iload_n 3, 1) := by decide +kernel
theorem dX6_offer_21 : decode cX6_offer 21 = .ok (.aload_n 0, 1) := by decide +kernel
theorem dX6_offer_22 : decode cX6_offer 22 = .ok (.getfield 27, 3) := by decide +kernel
theorem dX6_offer_25 : decode cX6_offer 25 = .ok (.iload_n 1, 1) := by decide +kernel
theorem dX6_offer_26 : decode cX6_offer 26 = .ok (.iaload, 1) := by decide +kernel
theorem dX6_offer_27 : decode cX6_offer 27 = .ok (.if_icmp .ge 17, 3) := by decide +kernel
theorem dX6_offer_30 : decode cX6_offer 30 = .ok (.aload_n 0, 1) := by decide +kernel
theorem dX6_offer_31 : decode cX6_offer 31 = .ok (.getfield 24, 3) := by decide +kernel
theorem dX6_offer_34 : decode cX6_offer 34 = .ok (.iload_n 1, 1) := by decide +kernel
theorem dX6_offer_35 : decode cX6_offer 35 = .ok (.iload_n 2, 1) := by decide +kernel
theorem dX6_offer_36 : decode cX6_offer 36 = .ok (.iastore, 1) := by decide +kernel
theorem dX6_offer_37 : decode cX6_offer 37 = .ok (.aload_n 0, 1) := by decide +kernel
theorem dX6_offer_38 : decode cX6_offer 38 = .ok (.getfield 27, 3) := by decide +kernel
theorem dX6_offer_41 : decode cX6_offer 41 = .ok (.iload_n 1, 1) := by decide +kernel
theorem dX6_offer_42 : decode cX6_offer 42 = .ok (.iload_n 3, 1) := by decide +kernel
theorem dX6_offer_43 : decode cX6_offer 43 = .ok (.iastore, 1) := by decide +kernel
theorem dX6_offer_44 : decode cX6_offer 44 = .ok (.return_, 1) := by decide +kernel
theorem dX7_init_0 : decode cX7_init 0 = .ok (.aload_n 0, 1) := by decide +kernel
theorem dX7_init_1 : decode cX7_init 1 = .ok (.invokespecial 1, 3) := by decide +kernel
theorem dX7_init_4 : decode cX7_init 4 = .ok (.aload_n 0, 1) := by decide +kernel
theorem dX7_init_5 : decode cX7_init 5 = .ok (.new 7, 3) := by decide +kernel
theorem dX7_init_8 : decode cX7_init 8 = .ok (.dup, 1) := by decide +kernel
theorem dX7_init_9 : decode cX7_init 9 = .ok (.invokespecial 9, 3) := by decide +kernel
theorem dX7_init_12 : decode cX7_init 12 = .ok (.putfield 10, 3) := by decide +kernel
theorem dX7_init_15 : decode cX7_init 15 = .ok (.aload_n 0, 1) := by decide +kernel
theorem dX7_init_16 : decode cX7_init 16 = .ok (.new 7, 3) := by decide +kernel
theorem dX7_init_19 : decode cX7_init 19 = .ok (.dup, 1) := by decide +kernel
theorem dX7_init_20 : decode cX7_init 20 = .ok (.invokespecial 9, 3) := by decide +kernel
theorem dX7_init_23 : decode cX7_init 23 = .ok (.putfield 16, 3) := by decide +kernel
theorem dX7_init_26 : decode cX7_init 26 = .ok (.aload_n 0, 1) := by decide +kernel
theorem dX7_init_27 : decode cX7_init 27 = .ok (.new 7, 3) := by decide +kernel
theorem dX7_init_30 : decode cX7_init 30 = .ok (.dup, 1) := by decide +kernel
theorem dX7_init_31 : decode cX7_init 31 = .ok (.invokespecial 9, 3) := by decide +kernel
theorem dX7_init_34 : decode cX7_init 34 = .ok (.putfield 19, 3) := by decide +kernel
theorem dX7_init_37 : decode cX7_init 37 = .ok (.aload_n 0, 1) := by decide +kernel
theorem dX7_init_38 : decode cX7_init 38 = .ok (.new 22, 3) := by decide +kernel
theorem dX7_init_41 : decode cX7_init 41 = .ok (.dup, 1) := by decide +kernel
theorem dX7_init_42 : decode cX7_init 42 = .ok (.invokespecial 24, 3) := by decide +kernel
theorem dX7_init_45 : decode cX7_init 45 = .ok (.putfield 25, 3) := by decide +kernel
theorem dX7_init_48 : decode cX7_init 48 = .ok (.aload_n 0, 1) := by decide +kernel
theorem dX7_init_49 : decode cX7_init 49 = .ok (.new 29, 3) := by decide +kernel
theorem dX7_init_52 : decode cX7_init 52 = .ok (.dup, 1) := by decide +kernel
theorem dX7_init_53 : decode cX7_init 53 = .ok (.invokespecial 31, 3) := by decide +kernel
theorem dX7_init_56 : decode cX7_init 56 = .ok (.putfield 32, 3) := by decide +kernel
theorem dX7_init_59 : decode cX7_init 59 = .ok (.aload_n 0, 1) := by decide +kernel
theorem dX7_init_60 : decode cX7_init 60 = .ok (.new 36, 3) := by decide +kernel
theorem dX7_init_63 : decode cX7_init 63 = .ok (.dup, 1) := by decide +kernel
theorem dX7_init_64 : decode cX7_init 64 = .ok (.invokespecial 38, 3) := by decide +kernel
theorem dX7_init_67 : decode cX7_init 67 = .ok (.putfield 39, 3) := by decide +kernel
theorem dX7_init_70 : decode cX7_init 70 = .ok (.aload_n 0, 1) := by decide +kernel
theorem dX7_init_71 : decode cX7_init 71 = .ok (.new 43, 3) := by decide +kernel
theorem dX7_init_74 : decode cX7_init 74 = .ok (.dup, 1) := by decide +kernel
theorem dX7_init_75 : decode cX7_init 75 = .ok (.invokespecial 45, 3) := by decide +kernel
theorem dX7_init_78 : decode cX7_init 78 = .ok (.putfield 46, 3) := by decide +kernel
theorem dX7_init_81 : decode cX7_init 81 = .ok (.aload_n 0, 1) := by decide +kernel
theorem dX7_init_82 : decode cX7_init 82 = .ok (.iconst 0, 1) := by decide +kernel
theorem dX7_init_83 : decode cX7_init 83 = .ok (.putfield 50, 3) := by decide +kernel
theorem dX7_init_86 : decode cX7_init 86 = .ok (.aload_n 0, 1) := by decide +kernel
theorem dX7_init_87 : decode cX7_init 87 = .ok (.iconst (-1), 1) := by decide +kernel
theorem dX7_init_88 : decode cX7_init 88 = .ok (.putfield 54, 3) := by decide +kernel
theorem dX7_init_91 : decode cX7_init 91 = .ok (.aload_n 0, 1) := by decide +kernel
theorem dX7_init_92 : decode cX7_init 92 = .ok (.iconst (-1), 1) := by decide +kernel
theorem dX7_init_93 : decode cX7_init 93 = .ok (.putfield 58, 3) := by decide +kernel
theorem dX7_init_96 : decode cX7_init 96 = .ok (.return_, 1) := by decide +kernel
theorem dX7_addComet_0 : decode cX7_addComet 0 = .ok (.iload_n 1, 1) := by decide +kernel
theorem dX7_addComet_1 : decode cX7_addComet 1 = .ok (.iload_n 2, 1) := by decide +kernel
theorem dX7_addComet_2 : decode cX7_addComet 2 = .ok (.iload_n 3, 1) := by decide +kernel
theorem dX7_addComet_3 : decode cX7_addComet 3 = .ok (.invokestatic 61, 3) := by decide +kernel
theorem dX7_addComet_6 : decode cX7_addComet 6 = .ok (.ifCond .ne 13, 3) := by decide +kernel
theorem dX7_addComet_9 : decode cX7_addComet 9 = .ok (.new 65, 3) := by decide +kernel
theorem dX7_addComet_12 : decode cX7_addComet 12 = .ok (.dup, 1) := by decide +kernel
theorem dX7_addComet_13 : decode cX7_addComet 13 = .ok (.ldc 67, 2) := by decide +kernel
theorem dX7_addComet_15 : decode cX7_addComet 15 = .ok (.invokespecial 69, 3) := by decide +kernel
theorem dX7_addComet_18 : decode cX7_addComet 18 = .ok (.athrow, 1) := by decide +kernel
theorem dX7_addComet_19 : decode cX7_addComet 19 = .ok (.aload_n 0, 1) := by decide +kernel
theorem dX7_addComet_20 : decode cX7_addComet 20 = .ok (.getfield 10, 3) := by decide +kernel
theorem dX7_addComet_23 : decode cX7_addComet 23 = .ok (.invokevirtual 72, 3) := by decide +kernel
theorem dX7_addComet_26 : decode cX7_addComet 26 = .ok (.ifCond .ne 13, 3) := by decide +kernel
theorem dX7_addComet_29 : decode cX7_addComet 29 = .ok (.new 76, 3) := by decide +kernel
theorem dX7_addComet_32 : decode cX7_addComet 32 = .ok (.dup, 1) := by decide +kernel
theorem dX7_addComet_33 : decode cX7_addComet 33 = .ok (.ldc 78, 2) := by decide +kernel
theorem dX7_addComet_35 : decode cX7_addComet 35 = .ok (.invokespecial 80, 3) := by decide +kernel
theorem dX7_addComet_38 : decode cX7_addComet 38 = .ok (.athrow, 1) := by decide +kernel
theorem dX7_addComet_39 : decode cX7_addComet 39 = .ok (.aload_n 0, 1) := by decide +kernel
theorem dX7_addComet_40 : decode cX7_addComet 40 = .ok (.getfield 25, 3) := by decide +kernel
theorem dX7_addComet_43 : decode cX7_addComet 43 = .ok (.aload_n 0, 1) := by decide +kernel
theorem dX7_addComet_44 : decode cX7_addComet 44 = .ok (.getfield 10, 3) := by decide +kernel
theorem dX7_addComet_47 : decode cX7_addComet 47 = .ok (.invokevirtual 81, 3) := by decide +kernel
theorem dX7_addComet_50 : decode cX7_addComet 50 = .ok (.aload_n 0, 1) := by decide +kernel
theorem dX7_addComet_51 : decode cX7_addComet 51 = .ok (.getfield 10, 3) := by decide +kernel
theorem dX7_addComet_54 : decode cX7_addComet 54 = .ok (.iload_n 1, 1) := by decide +kernel
theorem dX7_addComet_55 : decode cX7_addComet 55 = .ok (.iload_n 2, 1) := by decide +kernel
theorem dX7_addComet_56 : decode cX7_addComet 56 = .ok (.iload_n 3, 1) := by decide +kernel
theorem dX7_addComet_57 : decode cX7_addComet 57 = .ok (.invokevirtual 85, 3) := by decide +kernel
theorem dX7_addComet_60 : decode cX7_addComet 60 = .ok (.ireturn, 1) := by decide +kernel
theorem dX7_remove_0 : decode cX7_remove 0 = .ok (.aload_n 0, 1) := by decide +kernel
theorem dX7_remove_1 : decode cX7_remove 1 = .ok (.iload_n 1, 1) := by decide +kernel
theorem dX7_remove_2 : decode cX7_remove 2 = .ok (.invokevirtual 89, 3) := by decide +kernel
theorem dX7_remove_5 : decode cX7_remove 5 = .ok (.astore_n 2, 1) := by decide +kernel
theorem dX7_remove_6 : decode cX7_remove 6 = .ok (.aload_n 0, 1) := by decide +kernel
theorem dX7_remove_7 : decode cX7_remove 7 = .ok (.getfield 25, 3) := by decide +kernel
theorem dX7_remove_10 : decode cX7_remove 10 = .ok (.aload_n 0, 1) := by decide +kernel
theorem dX7_remove_11 : decode cX7_remove 11 = .ok (.getfield 10, 3) := by decide +kernel
theorem dX7_remove_14 : decode cX7_remove 14 = .ok (.invokevirtual 81, 3) := by decide +kernel
theorem dX7_remove_17 : decode cX7_remove 17 = .ok (.aload_n 0, 1) := by decide +kernel
theorem dX7_remove_18 : decode cX7_remove 18 = .ok (.getfield 10, 3) := by decide +kernel
theorem dX7_remove_21 : decode cX7_remove 21 = .ok (.aload_n 2, 1) := by decide +kernel
theorem dX7_remove_22 : decode cX7_remove 22 = .ok (.getfield 93, 3) := by decide +kernel
theorem dX7_remove_25 : decode cX7_remove 25 = .ok (.invokevirtual 98, 3) := by decide +kernel
theorem dX7_remove_28 : decode cX7_remove 28 = .ok (.pop, 1) := by decide +kernel
theorem dX7_remove_29 : decode cX7_remove 29 = .ok (.aload_n 0, 1) := by decide +kernel
theorem dX7_remove_30 : decode cX7_remove 30 = .ok (.getfield 10, 3) := by decide +kernel
theorem dX7_remove_33 : decode cX7_remove 33 = .ok (.getfield 102, 3) := by decide +kernel
theorem dX7_remove_36 : decode cX7_remove 36 = .ok (.ireturn, 1) := by decide +kernel
theorem dX7_setPeriod_0 : decode cX7_setPeriod 0 = .ok (.aload_n 0, 1) := by decide +kernel
theorem dX7_setPeriod_1 : decode cX7_setPeriod 1 = .ok (.iload_n 1, 1) := by decide +kernel
theorem dX7_setPeriod_2 : decode cX7_setPeriod 2 = .ok (.invokevirtual 89, 3) := by decide +kernel
theorem dX7_setPeriod_5 : decode cX7_setPeriod 5 = .ok (.astore_n 3, 1) := by decide +kernel
theorem dX7_setPeriod_6 : decode cX7_setPeriod 6 = .ok (.iload_n 2, 1) := by decide +kernel
theorem dX7_setPeriod_7 : decode cX7_setPeriod 7 = .ok (.invokestatic 105, 3) := by decide +kernel
theorem dX7_setPeriod_10 : decode cX7_setPeriod 10 = .ok (.ifCond .ne 13, 3) := by decide +kernel
theorem dX7_setPeriod_13 : decode cX7_setPeriod 13 = .ok (.new 65, 3) := by decide +kernel
theorem dX7_setPeriod_16 : decode cX7_setPeriod 16 = .ok (.dup, 1) := by decide +kernel
theorem dX7_setPeriod_17 : decode cX7_setPeriod 17 = .ok (.ldc 108, 2) := by decide +kernel
theorem dX7_setPeriod_19 : decode cX7_setPeriod 19 = .ok (.invokespecial 69, 3) := by decide +kernel
theorem dX7_setPeriod_22 : decode cX7_setPeriod 22 = .ok (.athrow, 1) := by decide +kernel
theorem dX7_setPeriod_23 : decode cX7_setPeriod 23 = .ok (.aload_n 0, 1) := by decide +kernel
theorem dX7_setPeriod_24 : decode cX7_setPeriod 24 = .ok (.getfield 25, 3) := by decide +kernel
theorem dX7_setPeriod_27 : decode cX7_setPeriod 27 = .ok (.aload_n 0, 1) := by decide +kernel
theorem dX7_setPeriod_28 : decode cX7_setPeriod 28 = .ok (.getfield 10, 3) := by decide +kernel
theorem dX7_setPeriod_31 : decode cX7_setPeriod 31 = .ok (.invokevirtual 81, 3) := by decide +kernel
theorem dX7_setPeriod_34 : decode cX7_setPeriod 34 = .ok (.aload_n 3, 1) := by decide +kernel
theorem dX7_setPeriod_35 : decode cX7_setPeriod 35 = .ok (.getfield 110, 3) := by decide +kernel
theorem dX7_setPeriod_38 : decode cX7_setPeriod 38 = .ok (.istore 4, 2) := by decide +kernel
theorem dX7_setPeriod_40 : decode cX7_setPeriod 40 = .ok (.aload_n 3, 1) := by decide +kernel
theorem dX7_setPeriod_41 : decode cX7_setPeriod 41 = .ok (.iload_n 2, 1) := by decide +kernel
theorem dX7_setPeriod_42 : decode cX7_setPeriod 42 = .ok (.putfield 110, 3) := by decide +kernel
theorem dX7_setPeriod_45 : decode cX7_setPeriod 45 = .ok (.iload 4, 2) := by decide +kernel
theorem dX7_setPeriod_47 : decode cX7_setPeriod 47 = .ok (.ireturn, 1) := by decide +kernel
theorem dX7_brighten_0 : decode cX7_brighten 0 = .ok (.aload_n 0, 1) := by decide +kernel
theorem dX7_brighten_1 : decode cX7_brighten 1 = .ok (.iload_n 1, 1) := by decide +kernel
theorem dX7_brighten_2 : decode cX7_brighten 2 = .ok (.invokevirtual 89, 3) := by decide +kernel
theorem dX7_brighten_5 : decode cX7_brighten 5 = .ok (.astore_n 3, 1) := by decide +kernel
theorem dX7_brighten_6 : decode cX7_brighten 6 = .ok (.iload_n 2, 1) := by decide +kernel
theorem dX7_brighten_7 : decode cX7_brighten 7 = .ok (.invokestatic 113, 3) := by decide +kernel
theorem dX7_brighten_10 : decode cX7_brighten 10 = .ok (.ifCond .ne 13, 3) := by decide +kernel
theorem dX7_brighten_13 : decode cX7_brighten 13 = .ok (.new 65, 3) := by decide +kernel
theorem dX7_brighten_16 : decode cX7_brighten 16 = .ok (.dup, 1) := by decide +kernel
theorem dX7_brighten_17 : decode cX7_brighten 17 = .ok (.ldc 116, 2) := by decide +kernel
theorem dX7_brighten_19 : decode cX7_brighten 19 = .ok (.invokespecial 69, 3) := by decide +kernel
theorem dX7_brighten_22 : decode cX7_brighten 22 = .ok (.athrow, 1) := by decide +kernel
theorem dX7_brighten_23 : decode cX7_brighten 23 = .ok (.aload_n 3, 1) := by decide +kernel
theorem dX7_brighten_24 : decode cX7_brighten 24 = .ok (.iload_n 2, 1) := by decide +kernel
theorem dX7_brighten_25 : decode cX7_brighten 25 = .ok (.invokevirtual 118, 3) := by decide +kernel
theorem dX7_brighten_28 : decode cX7_brighten 28 = .ok (.ifCond .ne 13, 3) := by decide +kernel
theorem dX7_brighten_31 : decode cX7_brighten 31 = .ok (.new 76, 3) := by decide +kernel
theorem dX7_brighten_34 : decode cX7_brighten 34 = .ok (.dup, 1) := by decide +kernel
theorem dX7_brighten_35 : decode cX7_brighten 35 = .ok (.ldc 121, 2) := by decide +kernel
theorem dX7_brighten_37 : decode cX7_brighten 37 = .ok (.invokespecial 80, 3) := by decide +kernel
theorem dX7_brighten_40 : decode cX7_brighten 40 = .ok (.athrow, 1) := by decide +kernel
theorem dX7_brighten_41 : decode cX7_brighten 41 = .ok (.aload_n 0, 1) := by decide +kernel
theorem dX7_brighten_42 : decode cX7_brighten 42 = .ok (.getfield 10, 3) := by decide +kernel
theorem dX7_brighten_45 : decode cX7_brighten 45 = .ok (.iload_n 2, 1) := by decide +kernel
theorem dX7_brighten_46 : decode cX7_brighten 46 = .ok (.invokevirtual 123, 3) := by decide +kernel
theorem dX7_brighten_49 : decode cX7_brighten 49 = .ok (.ifCond .ne 13, 3) := by decide +kernel
theorem dX7_brighten_52 : decode cX7_brighten 52 = .ok (.new 126, 3) := by decide +kernel
theorem dX7_brighten_55 : decode cX7_brighten 55 = .ok (.dup, 1) := by decide +kernel
theorem dX7_brighten_56 : decode cX7_brighten 56 = .ok (.ldc 128, 2) := by decide +kernel
theorem dX7_brighten_58 : decode cX7_brighten 58 = .ok (.invokespecial 130, 3) := by decide +kernel
theorem dX7_brighten_61 : decode cX7_brighten 61 = .ok (.athrow, 1) := by decide +kernel
theorem dX7_brighten_62 : decode cX7_brighten 62 = .ok (.aload_n 0, 1) := by decide +kernel
theorem dX7_brighten_63 : decode cX7_brighten 63 = .ok (.getfield 25, 3) := by decide +kernel
theorem dX7_brighten_66 : decode cX7_brighten 66 = .ok (.aload_n 0, 1) := by decide +kernel
theorem dX7_brighten_67 : decode cX7_brighten 67 = .ok (.getfield 10, 3) := by decide +kernel
theorem dX7_brighten_70 : decode cX7_brighten 70 = .ok (.invokevirtual 81, 3) := by decide +kernel
theorem dX7_brighten_73 : decode cX7_brighten 73 = .ok (.aload_n 0, 1) := by decide +kernel
theorem dX7_brighten_74 : decode cX7_brighten 74 = .ok (.getfield 10, 3) := by decide +kernel
theorem dX7_brighten_77 : decode cX7_brighten 77 = .ok (.aload_n 3, 1) := by decide +kernel
theorem dX7_brighten_78 : decode cX7_brighten 78 = .ok (.iload_n 2, 1) := by decide +kernel
theorem dX7_brighten_79 : decode cX7_brighten 79 = .ok (.invokevirtual 131, 3) := by decide +kernel
theorem dX7_brighten_82 : decode cX7_brighten 82 = .ok (.aload_n 3, 1) := by decide +kernel
theorem dX7_brighten_83 : decode cX7_brighten 83 = .ok (.getfield 135, 3) := by decide +kernel
theorem dX7_brighten_86 : decode cX7_brighten 86 = .ok (.ireturn, 1) := by decide +kernel
theorem dX7_passDays_0 : decode cX7_passDays 0 = .ok (.iload_n 1, 1) := by decide +kernel
theorem dX7_passDays_1 : decode cX7_passDays 1 = .ok (.invokestatic 138, 3) := by decide +kernel
theorem dX7_passDays_4 : decode cX7_passDays 4 = .ok (.ifCond .ne 13, 3) := by decide +kernel
theorem dX7_passDays_7 : decode cX7_passDays 7 = .ok (.new 65, 3) := by decide +kernel
theorem dX7_passDays_10 : decode cX7_passDays 10 = .ok (.dup, 1) := by decide +kernel
theorem dX7_passDays_11 : decode cX7_passDays 11 = .ok (.ldc 141, 2) := by decide +kernel
theorem dX7_passDays_13 : decode cX7_passDays 13 = .ok (.invokespecial 69, 3) := by decide +kernel
theorem dX7_passDays_16 : decode cX7_passDays 16 = .ok (.athrow, 1) := by decide +kernel
theorem dX7_passDays_17 : decode cX7_passDays 17 = .ok (.aload_n 0, 1) := by decide +kernel
theorem dX7_passDays_18 : decode cX7_passDays 18 = .ok (.getfield 25, 3) := by decide +kernel
theorem dX7_passDays_21 : decode cX7_passDays 21 = .ok (.aload_n 0, 1) := by decide +kernel
theorem dX7_passDays_22 : decode cX7_passDays 22 = .ok (.getfield 10, 3) := by decide +kernel
theorem dX7_passDays_25 : decode cX7_passDays 25 = .ok (.invokevirtual 81, 3) := by decide +kernel
theorem dX7_passDays_28 : decode cX7_passDays 28 = .ok (.aload_n 0, 1) := by decide +kernel
theorem dX7_passDays_29 : decode cX7_passDays 29 = .ok (.getfield 10, 3) := by decide +kernel
theorem dX7_passDays_32 : decode cX7_passDays 32 = .ok (.iload_n 1, 1) := by decide +kernel
theorem dX7_passDays_33 : decode cX7_passDays 33 = .ok (.invokevirtual 143, 3) := by decide +kernel
theorem dX7_passDays_36 : decode cX7_passDays 36 = .ok (.ireturn, 1) := by decide +kernel
theorem dX7_clean_0 : decode cX7_clean 0 = .ok (.iload_n 1, 1) := by decide +kernel
theorem dX7_clean_1 : decode cX7_clean 1 = .ok (.invokestatic 147, 3) := by decide +kernel
theorem dX7_clean_4 : decode cX7_clean 4 = .ok (.ifCond .ne 13, 3) := by decide +kernel
theorem dX7_clean_7 : decode cX7_clean 7 = .ok (.new 150, 3) := by decide +kernel
theorem dX7_clean_10 : decode cX7_clean 10 = .ok (.dup, 1) := by decide +kernel
theorem dX7_clean_11 : decode cX7_clean 11 = .ok (.ldc 152, 2) := by decide +kernel
theorem dX7_clean_13 : decode cX7_clean 13 = .ok (.invokespecial 154, 3) := by decide +kernel
theorem dX7_clean_16 : decode cX7_clean 16 = .ok (.athrow, 1) := by decide +kernel
theorem dX7_clean_17 : decode cX7_clean 17 = .ok (.iload_n 2, 1) := by decide +kernel
theorem dX7_clean_18 : decode cX7_clean 18 = .ok (.invokestatic 155, 3) := by decide +kernel
theorem dX7_clean_21 : decode cX7_clean 21 = .ok (.ifCond .ne 13, 3) := by decide +kernel
theorem dX7_clean_24 : decode cX7_clean 24 = .ok (.new 65, 3) := by decide +kernel
theorem dX7_clean_27 : decode cX7_clean 27 = .ok (.dup, 1) := by decide +kernel
theorem dX7_clean_28 : decode cX7_clean 28 = .ok (.ldc 158, 2) := by decide +kernel
theorem dX7_clean_30 : decode cX7_clean 30 = .ok (.invokespecial 69, 3) := by decide +kernel
theorem dX7_clean_33 : decode cX7_clean 33 = .ok (.athrow, 1) := by decide +kernel
theorem dX7_clean_34 : decode cX7_clean 34 = .ok (.aload_n 0, 1) := by decide +kernel
theorem dX7_clean_35 : decode cX7_clean 35 = .ok (.getfield 10, 3) := by decide +kernel
theorem dX7_clean_38 : decode cX7_clean 38 = .ok (.iload_n 1, 1) := by decide +kernel
theorem dX7_clean_39 : decode cX7_clean 39 = .ok (.iload_n 2, 1) := by decide +kernel
theorem dX7_clean_40 : decode cX7_clean 40 = .ok (.invokevirtual 160, 3) := by decide +kernel
theorem dX7_clean_43 : decode cX7_clean 43 = .ok (.ifCond .ne 13, 3) := by decide +kernel
theorem dX7_clean_46 : decode cX7_clean 46 = .ok (.new 76, 3) := by decide +kernel
theorem dX7_clean_49 : decode cX7_clean 49 = .ok (.dup, 1) := by decide +kernel
theorem dX7_clean_50 : decode cX7_clean 50 = .ok (.ldc 128, 2) := by decide +kernel
theorem dX7_clean_52 : decode cX7_clean 52 = .ok (.invokespecial 80, 3) := by decide +kernel
theorem dX7_clean_55 : decode cX7_clean 55 = .ok (.athrow, 1) := by decide +kernel
theorem dX7_clean_56 : decode cX7_clean 56 = .ok (.aload_n 0, 1) := by decide +kernel
theorem dX7_clean_57 : decode cX7_clean 57 = .ok (.getfield 25, 3) := by decide +kernel
theorem dX7_clean_60 : decode cX7_clean 60 = .ok (.aload_n 0, 1) := by decide +kernel
theorem dX7_clean_61 : decode cX7_clean 61 = .ok (.getfield 10, 3) := by decide +kernel
theorem dX7_clean_64 : decode cX7_clean 64 = .ok (.invokevirtual 81, 3) := by decide +kernel
theorem dX7_clean_67 : decode cX7_clean 67 = .ok (.aload_n 0, 1) := by decide +kernel
theorem dX7_clean_68 : decode cX7_clean 68 = .ok (.getfield 10, 3) := by decide +kernel
theorem dX7_clean_71 : decode cX7_clean 71 = .ok (.iload_n 1, 1) := by decide +kernel
theorem dX7_clean_72 : decode cX7_clean 72 = .ok (.iload_n 2, 1) := by decide +kernel
theorem dX7_clean_73 : decode cX7_clean 73 = .ok (.invokevirtual 164, 3) := by decide +kernel
theorem dX7_clean_76 : decode cX7_clean 76 = .ok (.ireturn, 1) := by decide +kernel
theorem dX7_setRate_0 : decode cX7_setRate 0 = .ok (.iload_n 1, 1) := by decide +kernel
theorem dX7_setRate_1 : decode cX7_setRate 1 = .ok (.invokestatic 168, 3) := by decide +kernel
theorem dX7_setRate_4 : decode cX7_setRate 4 = .ok (.ifCond .ne 13, 3) := by decide +kernel
theorem dX7_setRate_7 : decode cX7_setRate 7 = .ok (.new 65, 3) := by decide +kernel
theorem dX7_setRate_10 : decode cX7_setRate 10 = .ok (.dup, 1) := by decide +kernel
theorem dX7_setRate_11 : decode cX7_setRate 11 = .ok (.ldc 171, 2) := by decide +kernel
theorem dX7_setRate_13 : decode cX7_setRate 13 = .ok (.invokespecial 69, 3) := by decide +kernel
theorem dX7_setRate_16 : decode cX7_setRate 16 = .ok (.athrow, 1) := by decide +kernel
theorem dX7_setRate_17 : decode cX7_setRate 17 = .ok (.aload_n 0, 1) := by decide +kernel
theorem dX7_setRate_18 : decode cX7_setRate 18 = .ok (.getfield 25, 3) := by decide +kernel
theorem dX7_setRate_21 : decode cX7_setRate 21 = .ok (.aload_n 0, 1) := by decide +kernel
theorem dX7_setRate_22 : decode cX7_setRate 22 = .ok (.getfield 10, 3) := by decide +kernel
theorem dX7_setRate_25 : decode cX7_setRate 25 = .ok (.invokevirtual 81, 3) := by decide +kernel
theorem dX7_setRate_28 : decode cX7_setRate 28 = .ok (.aload_n 0, 1) := by decide +kernel
theorem dX7_setRate_29 : decode cX7_setRate 29 = .ok (.getfield 10, 3) := by decide +kernel
theorem dX7_setRate_32 : decode cX7_setRate 32 = .ok (.getfield 173, 3) := by decide +kernel
theorem dX7_setRate_35 : decode cX7_setRate 35 = .ok (.istore_n 2, 1) := by decide +kernel
theorem dX7_setRate_36 : decode cX7_setRate 36 = .ok (.aload_n 0, 1) := by decide +kernel
theorem dX7_setRate_37 : decode cX7_setRate 37 = .ok (.getfield 10, 3) := by decide +kernel
theorem dX7_setRate_40 : decode cX7_setRate 40 = .ok (.iload_n 1, 1) := by decide +kernel
theorem dX7_setRate_41 : decode cX7_setRate 41 = .ok (.putfield 173, 3) := by decide +kernel
theorem dX7_setRate_44 : decode cX7_setRate 44 = .ok (.iload_n 2, 1) := by decide +kernel
theorem dX7_setRate_45 : decode cX7_setRate 45 = .ok (.ireturn, 1) := by decide +kernel
theorem dX7_cometCount_0 : decode cX7_cometCount 0 = .ok (.aload_n 0, 1) := by decide +kernel
theorem dX7_cometCount_1 : decode cX7_cometCount 1 = .ok (.getfield 10, 3) := by decide +kernel
theorem dX7_cometCount_4 : decode cX7_cometCount 4 = .ok (.getfield 176, 3) := by decide +kernel
theorem dX7_cometCount_7 : decode cX7_cometCount 7 = .ok (.ireturn, 1) := by decide +kernel
theorem dX7_cometAt_0 : decode cX7_cometAt 0 = .ok (.iload_n 1, 1) := by decide +kernel
theorem dX7_cometAt_1 : decode cX7_cometAt 1 = .ok (.ifCond .lt 14, 3) := by decide +kernel
theorem dX7_cometAt_4 : decode cX7_cometAt 4 = .ok (.iload_n 1, 1) := by decide +kernel
theorem dX7_cometAt_5 : decode cX7_cometAt 5 = .ok (.aload_n 0, 1) := by decide +kernel
theorem dX7_cometAt_6 : decode cX7_cometAt 6 = .ok (.getfield 10, 3) := by decide +kernel
theorem dX7_cometAt_9 : decode cX7_cometAt 9 = .ok (.getfield 176, 3) := by decide +kernel
theorem dX7_cometAt_12 : decode cX7_cometAt 12 = .ok (.if_icmp .lt 13, 3) := by decide +kernel
theorem dX7_cometAt_15 : decode cX7_cometAt 15 = .ok (.new 150, 3) := by decide +kernel
theorem dX7_cometAt_18 : decode cX7_cometAt 18 = .ok (.dup, 1) := by decide +kernel
theorem dX7_cometAt_19 : decode cX7_cometAt 19 = .ok (.ldc 179, 2) := by decide +kernel
theorem dX7_cometAt_21 : decode cX7_cometAt 21 = .ok (.invokespecial 154, 3) := by decide +kernel
theorem dX7_cometAt_24 : decode cX7_cometAt 24 = .ok (.athrow, 1) := by decide +kernel
theorem dX7_cometAt_25 : decode cX7_cometAt 25 = .ok (.aload_n 0, 1) := by decide +kernel
theorem dX7_cometAt_26 : decode cX7_cometAt 26 = .ok (.getfield 10, 3) := by decide +kernel
theorem dX7_cometAt_29 : decode cX7_cometAt 29 = .ok (.getfield 181, 3) := by decide +kernel
theorem dX7_cometAt_32 : decode cX7_cometAt 32 = .ok (.iload_n 1, 1) := by decide +kernel
theorem dX7_cometAt_33 : decode cX7_cometAt 33 = .ok (.aaload, 1) := by decide +kernel
theorem dX7_cometAt_34 : decode cX7_cometAt 34 = .ok (.getfield 93, 3) := by decide +kernel
theorem dX7_cometAt_37 : decode cX7_cometAt 37 = .ok (.ireturn, 1) := by decide +kernel
theorem dX7_exists_0 : decode cX7_exists 0 = .ok (.aload_n 0, 1) := by decide +kernel
theorem dX7_exists_1 : decode cX7_exists 1 = .ok (.getfield 10, 3) := by decide +kernel
theorem dX7_exists_4 : decode cX7_exists 4 = .ok (.iload_n 1, 1) := by decide +kernel
theorem dX7_exists_5 : decode cX7_exists 5 = .ok (.invokevirtual 185, 3) := by decide +kernel
theorem dX7_exists_8 : decode cX7_exists 8 = .ok (.iconst (-1), 1) := by decide +kernel
theorem dX7_exists_9 : decode cX7_exists 9 = .ok (.if_icmp .eq 7, 3) := by decide +kernel
theorem dX7_exists_12 : decode cX7_exists 12 = .ok (.iconst 1, 1) := by decide +kernel
theorem dX7_exists_13 : decode cX7_exists 13 = .ok (.goto 4, 3) := by decide +kernel
theorem dX7_exists_16 : decode cX7_exists 16 = .ok (.iconst 0, 1) := by decide +kernel
theorem dX7_exists_17 : decode cX7_exists 17 = .ok (.ireturn, 1) := by decide +kernel
theorem dX7_period_0 : decode cX7_period 0 = .ok (.aload_n 0, 1) := by decide +kernel
theorem dX7_period_1 : decode cX7_period 1 = .ok (.iload_n 1, 1) := by decide +kernel
theorem dX7_period_2 : decode cX7_period 2 = .ok (.invokevirtual 89, 3) := by decide +kernel
theorem dX7_period_5 : decode cX7_period 5 = .ok (.getfield 110, 3) := by decide +kernel
theorem dX7_period_8 : decode cX7_period 8 = .ok (.ireturn, 1) := by decide +kernel
theorem dX7_brightness_0 : decode cX7_brightness 0 = .ok (.aload_n 0, 1) := by decide +kernel
theorem dX7_brightness_1 : decode cX7_brightness 1 = .ok (.iload_n 1, 1) := by decide +kernel
theorem dX7_brightness_2 : decode cX7_brightness 2 = .ok (.invokevirtual 89, 3) := by decide +kernel
theorem dX7_brightness_5 : decode cX7_brightness 5 = .ok (.getfield 135, 3) := by decide +kernel
theorem dX7_brightness_8 : decode cX7_brightness 8 = .ok (.ireturn, 1) := by decide +kernel
theorem dX7_tail_0 : decode cX7_tail 0 = .ok (.aload_n 0, 1) := by decide +kernel
theorem dX7_tail_1 : decode cX7_tail 1 = .ok (.iload_n 1, 1) := by decide +kernel
theorem dX7_tail_2 : decode cX7_tail 2 = .ok (.invokevirtual 89, 3) := by decide +kernel
theorem dX7_tail_5 : decode cX7_tail 5 = .ok (.getfield 135, 3) := by decide +kernel
theorem dX7_tail_8 : decode cX7_tail 8 = .ok (.invokestatic 188, 3) := by decide +kernel
theorem dX7_tail_11 : decode cX7_tail 11 = .ok (.ireturn, 1) := by decide +kernel
theorem dX7_nextPass_0 : decode cX7_nextPass 0 = .ok (.aload_n 0, 1) := by decide +kernel
theorem dX7_nextPass_1 : decode cX7_nextPass 1 = .ok (.iload_n 1, 1) := by decide +kernel
theorem dX7_nextPass_2 : decode cX7_nextPass 2 = .ok (.invokevirtual 89, 3) := by decide +kernel
theorem dX7_nextPass_5 : decode cX7_nextPass 5 = .ok (.getfield 191, 3) := by decide +kernel
theorem dX7_nextPass_8 : decode cX7_nextPass 8 = .ok (.ireturn, 1) := by decide +kernel
theorem dX7_passesOf_0 : decode cX7_passesOf 0 = .ok (.aload_n 0, 1) := by decide +kernel
theorem dX7_passesOf_1 : decode cX7_passesOf 1 = .ok (.iload_n 1, 1) := by decide +kernel
theorem dX7_passesOf_2 : decode cX7_passesOf 2 = .ok (.invokevirtual 89, 3) := by decide +kernel
theorem dX7_passesOf_5 : decode cX7_passesOf 5 = .ok (.getfield 194, 3) := by decide +kernel
theorem dX7_passesOf_8 : decode cX7_passesOf 8 = .ok (.ireturn, 1) := by decide +kernel
theorem dX7_lastPass_0 : decode cX7_lastPass 0 = .ok (.aload_n 0, 1) := by decide +kernel
theorem dX7_lastPass_1 : decode cX7_lastPass 1 = .ok (.iload_n 1, 1) := by decide +kernel
theorem dX7_lastPass_2 : decode cX7_lastPass 2 = .ok (.invokevirtual 89, 3) := by decide +kernel
theorem dX7_lastPass_5 : decode cX7_lastPass 5 = .ok (.astore_n 2, 1) := by decide +kernel
theorem dX7_lastPass_6 : decode cX7_lastPass 6 = .ok (.aload_n 2, 1) := by decide +kernel
theorem dX7_lastPass_7 : decode cX7_lastPass 7 = .ok (.getfield 191, 3) := by decide +kernel
theorem dX7_lastPass_10 : decode cX7_lastPass 10 = .ok (.aload_n 2, 1) := by decide +kernel
theorem dX7_lastPass_11 : decode cX7_lastPass 11 = .ok (.getfield 135, 3) := by decide +kernel
theorem dX7_lastPass_14 : decode cX7_lastPass 14 = .ok (.iconst 1, 1) := by decide +kernel
theorem dX7_lastPass_15 : decode cX7_lastPass 15 = .ok (.isub, 1) := by decide +kernel
theorem dX7_lastPass_16 : decode cX7_lastPass 16 = .ok (.aload_n 2, 1) := by decide +kernel
theorem dX7_lastPass_17 : decode cX7_lastPass 17 = .ok (.getfield 110, 3) := by decide +kernel
theorem dX7_lastPass_20 : decode cX7_lastPass 20 = .ok (.imul, 1) := by decide +kernel
theorem dX7_lastPass_21 : decode cX7_lastPass 21 = .ok (.iadd, 1) := by decide +kernel
theorem dX7_lastPass_22 : decode cX7_lastPass 22 = .ok (.ireturn, 1) := by decide +kernel
theorem dX7_cometAtRank_0 : decode cX7_cometAtRank 0 = .ok (.iload_n 1, 1) := by decide +kernel
theorem dX7_cometAtRank_1 : decode cX7_cometAtRank 1 = .ok (.ifCond .lt 14, 3) := by decide +kernel
theorem dX7_cometAtRank_4 : decode cX7_cometAtRank 4 = .ok (.iload_n 1, 1) := by decide +kernel
theorem dX7_cometAtRank_5 : decode cX7_cometAtRank 5 = .ok (.aload_n 0, 1) := by decide +kernel
theorem dX7_cometAtRank_6 : decode cX7_cometAtRank 6 = .ok (.getfield 10, 3) := by decide +kernel
theorem dX7_cometAtRank_9 : decode cX7_cometAtRank 9 = .ok (.getfield 176, 3) := by decide +kernel
theorem dX7_cometAtRank_12 : decode cX7_cometAtRank 12 = .ok (.if_icmp .lt 13, 3) := by decide +kernel
theorem dX7_cometAtRank_15 : decode cX7_cometAtRank 15 = .ok (.new 150, 3) := by decide +kernel
theorem dX7_cometAtRank_18 : decode cX7_cometAtRank 18 = .ok (.dup, 1) := by decide +kernel
theorem dX7_cometAtRank_19 : decode cX7_cometAtRank 19 = .ok (.ldc 197, 2) := by decide +kernel
theorem dX7_cometAtRank_21 : decode cX7_cometAtRank 21 = .ok (.invokespecial 154, 3) := by decide +kernel
theorem dX7_cometAtRank_24 : decode cX7_cometAtRank 24 = .ok (.athrow, 1) := by decide +kernel
theorem dX7_cometAtRank_25 : decode cX7_cometAtRank 25 = .ok (.aload_n 0, 1) := by decide +kernel
theorem dX7_cometAtRank_26 : decode cX7_cometAtRank 26 = .ok (.getfield 10, 3) := by decide +kernel
theorem dX7_cometAtRank_29 : decode cX7_cometAtRank 29 = .ok (.iload_n 1, 1) := by decide +kernel
theorem dX7_cometAtRank_30 : decode cX7_cometAtRank 30 = .ok (.invokevirtual 199, 3) := by decide +kernel
theorem dX7_cometAtRank_33 : decode cX7_cometAtRank 33 = .ok (.ireturn, 1) := by decide +kernel
theorem dX7_passesIn_0 : decode cX7_passesIn 0 = .ok (.iload_n 1, 1) := by decide +kernel
theorem dX7_passesIn_1 : decode cX7_passesIn 1 = .ok (.invokestatic 202, 3) := by decide +kernel
theorem dX7_passesIn_4 : decode cX7_passesIn 4 = .ok (.ifCond .ne 13, 3) := by decide +kernel
theorem dX7_passesIn_7 : decode cX7_passesIn 7 = .ok (.new 65, 3) := by decide +kernel
theorem dX7_passesIn_10 : decode cX7_passesIn 10 = .ok (.dup, 1) := by decide +kernel
theorem dX7_passesIn_11 : decode cX7_passesIn 11 = .ok (.ldc 141, 2) := by decide +kernel
theorem dX7_passesIn_13 : decode cX7_passesIn 13 = .ok (.invokespecial 69, 3) := by decide +kernel
theorem dX7_passesIn_16 : decode cX7_passesIn 16 = .ok (.athrow, 1) := by decide +kernel
theorem dX7_passesIn_17 : decode cX7_passesIn 17 = .ok (.aload_n 0, 1) := by decide +kernel
theorem dX7_passesIn_18 : decode cX7_passesIn 18 = .ok (.getfield 10, 3) := by decide +kernel
theorem dX7_passesIn_21 : decode cX7_passesIn 21 = .ok (.iload_n 1, 1) := by decide +kernel
theorem dX7_passesIn_22 : decode cX7_passesIn 22 = .ok (.invokevirtual 205, 3) := by decide +kernel
theorem dX7_passesIn_25 : decode cX7_passesIn 25 = .ok (.ireturn, 1) := by decide +kernel
theorem dX7_nextMeeting_0 : decode cX7_nextMeeting 0 = .ok (.aload_n 0, 1) := by decide +kernel
theorem dX7_nextMeeting_1 : decode cX7_nextMeeting 1 = .ok (.iload_n 1, 1) := by decide +kernel
theorem dX7_nextMeeting_2 : decode cX7_nextMeeting 2 = .ok (.invokevirtual 89, 3) := by decide +kernel
theorem dX7_nextMeeting_5 : decode cX7_nextMeeting 5 = .ok (.astore_n 3, 1) := by decide +kernel
theorem dX7_nextMeeting_6 : decode cX7_nextMeeting 6 = .ok (.aload_n 0, 1) := by decide +kernel
theorem dX7_nextMeeting_7 : decode cX7_nextMeeting 7 = .ok (.iload_n 2, 1) := by decide +kernel
theorem dX7_nextMeeting_8 : decode cX7_nextMeeting 8 = .ok (.invokevirtual 89, 3) := by decide +kernel
theorem dX7_nextMeeting_11 : decode cX7_nextMeeting 11 = .ok (.astore 4, 2) := by decide +kernel
theorem dX7_nextMeeting_13 : decode cX7_nextMeeting 13 = .ok (.iload_n 1, 1) := by decide +kernel
theorem dX7_nextMeeting_14 : decode cX7_nextMeeting 14 = .ok (.iload_n 2, 1) := by decide +kernel
theorem dX7_nextMeeting_15 : decode cX7_nextMeeting 15 = .ok (.if_icmp .ne 13, 3) := by decide +kernel
theorem dX7_nextMeeting_18 : decode cX7_nextMeeting 18 = .ok (.new 65, 3) := by decide +kernel
theorem dX7_nextMeeting_21 : decode cX7_nextMeeting 21 = .ok (.dup, 1) := by decide +kernel
theorem dX7_nextMeeting_22 : decode cX7_nextMeeting 22 = .ok (.ldc 208, 2) := by decide +kernel
theorem dX7_nextMeeting_24 : decode cX7_nextMeeting 24 = .ok (.invokespecial 69, 3) := by decide +kernel
theorem dX7_nextMeeting_27 : decode cX7_nextMeeting 27 = .ok (.athrow, 1) := by decide +kernel
theorem dX7_nextMeeting_28 : decode cX7_nextMeeting 28 = .ok (.aload_n 3, 1) := by decide +kernel
theorem dX7_nextMeeting_29 : decode cX7_nextMeeting 29 = .ok (.aload 4, 2) := by decide +kernel
theorem dX7_nextMeeting_31 : decode cX7_nextMeeting 31 = .ok (.invokestatic 210, 3) := by decide +kernel
theorem dX7_nextMeeting_34 : decode cX7_nextMeeting 34 = .ok (.istore 5, 2) := by decide +kernel
theorem dX7_nextMeeting_36 : decode cX7_nextMeeting 36 = .ok (.iload 5, 2) := by decide +kernel
theorem dX7_nextMeeting_38 : decode cX7_nextMeeting 38 = .ok (.iconst (-1), 1) := by decide +kernel
theorem dX7_nextMeeting_39 : decode cX7_nextMeeting 39 = .ok (.if_icmp .ne 13, 3) := by decide +kernel
theorem dX7_nextMeeting_42 : decode cX7_nextMeeting 42 = .ok (.new 126, 3) := by decide +kernel
theorem dX7_nextMeeting_45 : decode cX7_nextMeeting 45 = .ok (.dup, 1) := by decide +kernel
theorem dX7_nextMeeting_46 : decode cX7_nextMeeting 46 = .ok (.ldc 216, 2) := by decide +kernel
theorem dX7_nextMeeting_48 : decode cX7_nextMeeting 48 = .ok (.invokespecial 130, 3) := by decide +kernel
theorem dX7_nextMeeting_51 : decode cX7_nextMeeting 51 = .ok (.athrow, 1) := by decide +kernel
theorem dX7_nextMeeting_52 : decode cX7_nextMeeting 52 = .ok (.iload 5, 2) := by decide +kernel
theorem dX7_nextMeeting_54 : decode cX7_nextMeeting 54 = .ok (.ireturn, 1) := by decide +kernel
theorem dX7_nextMeetingByRemainders_0 : decode cX7_nextMeetingByRemainders 0 = .ok (.aload_n 0, 1) := by decide +kernel
theorem dX7_nextMeetingByRemainders_1 : decode cX7_nextMeetingByRemainders 1 = .ok (.iload_n 1, 1) := by decide +kernel
theorem dX7_nextMeetingByRemainders_2 : decode cX7_nextMeetingByRemainders 2 = .ok (.invokevirtual 89, 3) := by decide +kernel
theorem dX7_nextMeetingByRemainders_5 : decode cX7_nextMeetingByRemainders 5 = .ok (.astore_n 3, 1) := by decide +kernel
theorem dX7_nextMeetingByRemainders_6 : decode cX7_nextMeetingByRemainders 6 = .ok (.aload_n 0, 1) := by decide +kernel
theorem dX7_nextMeetingByRemainders_7 : decode cX7_nextMeetingByRemainders 7 = .ok (.iload_n 2, 1) := by decide +kernel
theorem dX7_nextMeetingByRemainders_8 : decode cX7_nextMeetingByRemainders 8 = .ok (.invokevirtual 89, 3) := by decide +kernel
theorem dX7_nextMeetingByRemainders_11 : decode cX7_nextMeetingByRemainders 11 = .ok (.astore 4, 2) := by decide +kernel
theorem dX7_nextMeetingByRemainders_13 : decode cX7_nextMeetingByRemainders 13 = .ok (.iload_n 1, 1) := by decide +kernel
theorem dX7_nextMeetingByRemainders_14 : decode cX7_nextMeetingByRemainders 14 = .ok (.iload_n 2, 1) := by decide +kernel
theorem dX7_nextMeetingByRemainders_15 : decode cX7_nextMeetingByRemainders 15 = .ok (.if_icmp .ne 13, 3) := by decide +kernel
theorem dX7_nextMeetingByRemainders_18 : decode cX7_nextMeetingByRemainders 18 = .ok (.new 65, 3) := by decide +kernel
theorem dX7_nextMeetingByRemainders_21 : decode cX7_nextMeetingByRemainders 21 = .ok (.dup, 1) := by decide +kernel
theorem dX7_nextMeetingByRemainders_22 : decode cX7_nextMeetingByRemainders 22 = .ok (.ldc 208, 2) := by decide +kernel
theorem dX7_nextMeetingByRemainders_24 : decode cX7_nextMeetingByRemainders 24 = .ok (.invokespecial 69, 3) := by decide +kernel
theorem dX7_nextMeetingByRemainders_27 : decode cX7_nextMeetingByRemainders 27 = .ok (.athrow, 1) := by decide +kernel
theorem dX7_nextMeetingByRemainders_28 : decode cX7_nextMeetingByRemainders 28 = .ok (.aload_n 3, 1) := by decide +kernel
theorem dX7_nextMeetingByRemainders_29 : decode cX7_nextMeetingByRemainders 29 = .ok (.aload 4, 2) := by decide +kernel
theorem dX7_nextMeetingByRemainders_31 : decode cX7_nextMeetingByRemainders 31 = .ok (.invokestatic 218, 3) := by decide +kernel
theorem dX7_nextMeetingByRemainders_34 : decode cX7_nextMeetingByRemainders 34 = .ok (.istore 5, 2) := by decide +kernel
theorem dX7_nextMeetingByRemainders_36 : decode cX7_nextMeetingByRemainders 36 = .ok (.iload 5, 2) := by decide +kernel
theorem dX7_nextMeetingByRemainders_38 : decode cX7_nextMeetingByRemainders 38 = .ok (.iconst (-1), 1) := by decide +kernel
theorem dX7_nextMeetingByRemainders_39 : decode cX7_nextMeetingByRemainders 39 = .ok (.if_icmp .ne 13, 3) := by decide +kernel
theorem dX7_nextMeetingByRemainders_42 : decode cX7_nextMeetingByRemainders 42 = .ok (.new 126, 3) := by decide +kernel
theorem dX7_nextMeetingByRemainders_45 : decode cX7_nextMeetingByRemainders 45 = .ok (.dup, 1) := by decide +kernel
theorem dX7_nextMeetingByRemainders_46 : decode cX7_nextMeetingByRemainders 46 = .ok (.ldc 216, 2) := by decide +kernel
theorem dX7_nextMeetingByRemainders_48 : decode cX7_nextMeetingByRemainders 48 = .ok (.invokespecial 130, 3) := by decide +kernel
theorem dX7_nextMeetingByRemainders_51 : decode cX7_nextMeetingByRemainders 51 = .ok (.athrow, 1) := by decide +kernel
theorem dX7_nextMeetingByRemainders_52 : decode cX7_nextMeetingByRemainders 52 = .ok (.iload 5, 2) := by decide +kernel
theorem dX7_nextMeetingByRemainders_54 : decode cX7_nextMeetingByRemainders 54 = .ok (.ireturn, 1) := by decide +kernel
theorem dX7_alignment_0 : decode cX7_alignment 0 = .ok (.aload_n 0, 1) := by decide +kernel
theorem dX7_alignment_1 : decode cX7_alignment 1 = .ok (.getfield 10, 3) := by decide +kernel
theorem dX7_alignment_4 : decode cX7_alignment 4 = .ok (.getfield 176, 3) := by decide +kernel
theorem dX7_alignment_7 : decode cX7_alignment 7 = .ok (.ifCond .ne 13, 3) := by decide +kernel
theorem dX7_alignment_10 : decode cX7_alignment 10 = .ok (.new 221, 3) := by decide +kernel
theorem dX7_alignment_13 : decode cX7_alignment 13 = .ok (.dup, 1) := by decide +kernel
theorem dX7_alignment_14 : decode cX7_alignment 14 = .ok (.ldc 223, 2) := by decide +kernel
theorem dX7_alignment_16 : decode cX7_alignment 16 = .ok (.invokespecial 225, 3) := by decide +kernel
theorem dX7_alignment_19 : decode cX7_alignment 19 = .ok (.athrow, 1) := by decide +kernel
theorem dX7_alignment_20 : decode cX7_alignment 20 = .ok (.lconst 1, 1) := by decide +kernel
theorem dX7_alignment_21 : decode cX7_alignment 21 = .ok (.lstore_n 1, 1) := by decide +kernel
theorem dX7_alignment_22 : decode cX7_alignment 22 = .ok (.iconst 0, 1) := by decide +kernel
theorem dX7_alignment_23 : decode cX7_alignment 23 = .ok (.istore_n 3, 1) := by decide +kernel
theorem dX7_alignment_24 : decode cX7_alignment 24 = .ok (.iload_n 3, 1) := by decide +kernel
theorem dX7_alignment_25 : decode cX7_alignment 25 = .ok (.aload_n 0, 1) := by decide +kernel
theorem dX7_alignment_26 : decode cX7_alignment 26 = .ok (.getfield 10, 3) := by decide +kernel
theorem dX7_alignment_29 : decode cX7_alignment 29 = .ok (.getfield 176, 3) := by decide +kernel
theorem dX7_alignment_32 : decode cX7_alignment 32 = .ok (.if_icmp .ge 27, 3) := by decide +kernel
theorem dX7_alignment_35 : decode cX7_alignment 35 = .ok (.lload_n 1, 1) := by decide +kernel
theorem dX7_alignment_36 : decode cX7_alignment 36 = .ok (.aload_n 0, 1) := by decide +kernel
theorem dX7_alignment_37 : decode cX7_alignment 37 = .ok (.getfield 10, 3) := by decide +kernel
theorem dX7_alignment_40 : decode cX7_alignment 40 = .ok (.getfield 181, 3) := by decide +kernel
theorem dX7_alignment_43 : decode cX7_alignment 43 = .ok (.iload_n 3, 1) := by decide +kernel
theorem dX7_alignment_44 : decode cX7_alignment 44 = .ok (.aaload, 1) := by decide +kernel
theorem dX7_alignment_45 : decode cX7_alignment 45 = .ok (.getfield 110, 3) := by decide +kernel
theorem dX7_alignment_48 : decode cX7_alignment 48 = .ok (.i2l, 1) := by decide +kernel
theorem dX7_alignment_49 : decode cX7_alignment 49 = .ok (.invokestatic 226, 3) := by decide +kernel
theorem dX7_alignment_52 : decode cX7_alignment 52 = .ok (.lstore_n 1, 1) := by decide +kernel
theorem dX7_alignment_53 : decode cX7_alignment 53 = .ok (.iinc 3 1, 3) := by decide +kernel
theorem dX7_alignment_56 : decode cX7_alignment 56 = .ok (.goto (-32), 3) := by decide +kernel
theorem dX7_alignment_59 : decode cX7_alignment 59 = .ok (.lload_n 1, 1) := by decide +kernel
theorem dX7_alignment_60 : decode cX7_alignment 60 = .ok (.lreturn, 1) := by decide +kernel
theorem dX7_bestWorth_0 : decode cX7_bestWorth 0 = .ok (.iload_n 1, 1) := by decide +kernel
theorem dX7_bestWorth_1 : decode cX7_bestWorth 1 = .ok (.invokestatic 202, 3) := by decide +kernel
theorem dX7_bestWorth_4 : decode cX7_bestWorth 4 = .ok (.ifCond .ne 13, 3) := by decide +kernel
theorem dX7_bestWorth_7 : decode cX7_bestWorth 7 = .ok (.new 65, 3) := by decide +kernel
theorem dX7_bestWorth_10 : decode cX7_bestWorth 10 = .ok (.dup, 1) := by decide +kernel
theorem dX7_bestWorth_11 : decode cX7_bestWorth 11 = .ok (.ldc 141, 2) := by decide +kernel
theorem dX7_bestWorth_13 : decode cX7_bestWorth 13 = .ok (.invokespecial 69, 3) := by decide +kernel
theorem dX7_bestWorth_16 : decode cX7_bestWorth 16 = .ok (.athrow, 1) := by decide +kernel
theorem dX7_bestWorth_17 : decode cX7_bestWorth 17 = .ok (.aload_n 0, 1) := by decide +kernel
theorem dX7_bestWorth_18 : decode cX7_bestWorth 18 = .ok (.getfield 32, 3) := by decide +kernel
theorem dX7_bestWorth_21 : decode cX7_bestWorth 21 = .ok (.aload_n 0, 1) := by decide +kernel
theorem dX7_bestWorth_22 : decode cX7_bestWorth 22 = .ok (.getfield 10, 3) := by decide +kernel
theorem dX7_bestWorth_25 : decode cX7_bestWorth 25 = .ok (.iload_n 1, 1) := by decide +kernel
theorem dX7_bestWorth_26 : decode cX7_bestWorth 26 = .ok (.invokevirtual 230, 3) := by decide +kernel
theorem dX7_bestWorth_29 : decode cX7_bestWorth 29 = .ok (.aload_n 0, 1) := by decide +kernel
theorem dX7_bestWorth_30 : decode cX7_bestWorth 30 = .ok (.getfield 32, 3) := by decide +kernel
theorem dX7_bestWorth_33 : decode cX7_bestWorth 33 = .ok (.invokevirtual 234, 3) := by decide +kernel
theorem dX7_bestWorth_36 : decode cX7_bestWorth 36 = .ok (.ireturn, 1) := by decide +kernel
theorem dX7_bestWorthByDays_0 : decode cX7_bestWorthByDays 0 = .ok (.iload_n 1, 1) := by decide +kernel
theorem dX7_bestWorthByDays_1 : decode cX7_bestWorthByDays 1 = .ok (.invokestatic 202, 3) := by decide +kernel
theorem dX7_bestWorthByDays_4 : decode cX7_bestWorthByDays 4 = .ok (.ifCond .ne 13, 3) := by decide +kernel
theorem dX7_bestWorthByDays_7 : decode cX7_bestWorthByDays 7 = .ok (.new 65, 3) := by decide +kernel
theorem dX7_bestWorthByDays_10 : decode cX7_bestWorthByDays 10 = .ok (.dup, 1) := by decide +kernel
theorem dX7_bestWorthByDays_11 : decode cX7_bestWorthByDays 11 = .ok (.ldc 141, 2) := by decide +kernel
theorem dX7_bestWorthByDays_13 : decode cX7_bestWorthByDays 13 = .ok (.invokespecial 69, 3) := by decide +kernel
theorem dX7_bestWorthByDays_16 : decode cX7_bestWorthByDays 16 = .ok (.athrow, 1) := by decide +kernel
theorem dX7_bestWorthByDays_17 : decode cX7_bestWorthByDays 17 = .ok (.aload_n 0, 1) := by decide +kernel
theorem dX7_bestWorthByDays_18 : decode cX7_bestWorthByDays 18 = .ok (.getfield 32, 3) := by decide +kernel
theorem dX7_bestWorthByDays_21 : decode cX7_bestWorthByDays 21 = .ok (.aload_n 0, 1) := by decide +kernel
theorem dX7_bestWorthByDays_22 : decode cX7_bestWorthByDays 22 = .ok (.getfield 10, 3) := by decide +kernel
theorem dX7_bestWorthByDays_25 : decode cX7_bestWorthByDays 25 = .ok (.iload_n 1, 1) := by decide +kernel
theorem dX7_bestWorthByDays_26 : decode cX7_bestWorthByDays 26 = .ok (.invokevirtual 230, 3) := by decide +kernel
theorem dX7_bestWorthByDays_29 : decode cX7_bestWorthByDays 29 = .ok (.aload_n 0, 1) := by decide +kernel
theorem dX7_bestWorthByDays_30 : decode cX7_bestWorthByDays 30 = .ok (.getfield 32, 3) := by decide +kernel
theorem dX7_bestWorthByDays_33 : decode cX7_bestWorthByDays 33 = .ok (.iload_n 1, 1) := by decide +kernel
theorem dX7_bestWorthByDays_34 : decode cX7_bestWorthByDays 34 = .ok (.invokevirtual 238, 3) := by decide +kernel
theorem dX7_bestWorthByDays_37 : decode cX7_bestWorthByDays 37 = .ok (.aload_n 0, 1) := by decide +kernel
theorem dX7_bestWorthByDays_38 : decode cX7_bestWorthByDays 38 = .ok (.getfield 32, 3) := by decide +kernel
theorem dX7_bestWorthByDays_41 : decode cX7_bestWorthByDays 41 = .ok (.getfield 242, 3) := by decide +kernel
theorem dX7_bestWorthByDays_44 : decode cX7_bestWorthByDays 44 = .ok (.iconst 1, 1) := by decide +kernel
theorem dX7_bestWorthByDays_45 : decode cX7_bestWorthByDays 45 = .ok (.iaload, 1) := by decide +kernel
theorem dX7_bestWorthByDays_46 : decode cX7_bestWorthByDays 46 = .ok (.ireturn, 1) := by decide +kernel
theorem dX7_fewestPasses_0 : decode cX7_fewestPasses 0 = .ok (.iload_n 1, 1) := by decide +kernel
theorem dX7_fewestPasses_1 : decode cX7_fewestPasses 1 = .ok (.invokestatic 202, 3) := by decide +kernel
theorem dX7_fewestPasses_4 : decode cX7_fewestPasses 4 = .ok (.ifCond .ne 13, 3) := by decide +kernel
theorem dX7_fewestPasses_7 : decode cX7_fewestPasses 7 = .ok (.new 65, 3) := by decide +kernel
theorem dX7_fewestPasses_10 : decode cX7_fewestPasses 10 = .ok (.dup, 1) := by decide +kernel
theorem dX7_fewestPasses_11 : decode cX7_fewestPasses 11 = .ok (.ldc 141, 2) := by decide +kernel
theorem dX7_fewestPasses_13 : decode cX7_fewestPasses 13 = .ok (.invokespecial 69, 3) := by decide +kernel
theorem dX7_fewestPasses_16 : decode cX7_fewestPasses 16 = .ok (.athrow, 1) := by decide +kernel
theorem dX7_fewestPasses_17 : decode cX7_fewestPasses 17 = .ok (.aload_n 0, 1) := by decide +kernel
theorem dX7_fewestPasses_18 : decode cX7_fewestPasses 18 = .ok (.getfield 32, 3) := by decide +kernel
theorem dX7_fewestPasses_21 : decode cX7_fewestPasses 21 = .ok (.aload_n 0, 1) := by decide +kernel
theorem dX7_fewestPasses_22 : decode cX7_fewestPasses 22 = .ok (.getfield 10, 3) := by decide +kernel
theorem dX7_fewestPasses_25 : decode cX7_fewestPasses 25 = .ok (.iload_n 1, 1) := by decide +kernel
theorem dX7_fewestPasses_26 : decode cX7_fewestPasses 26 = .ok (.invokevirtual 230, 3) := by decide +kernel
theorem dX7_fewestPasses_29 : decode cX7_fewestPasses 29 = .ok (.aload_n 0, 1) := by decide +kernel
theorem dX7_fewestPasses_30 : decode cX7_fewestPasses 30 = .ok (.getfield 32, 3) := by decide +kernel
theorem dX7_fewestPasses_33 : decode cX7_fewestPasses 33 = .ok (.iload_n 1, 1) := by decide +kernel
theorem dX7_fewestPasses_34 : decode cX7_fewestPasses 34 = .ok (.invokevirtual 238, 3) := by decide +kernel
theorem dX7_fewestPasses_37 : decode cX7_fewestPasses 37 = .ok (.aload_n 0, 1) := by decide +kernel
theorem dX7_fewestPasses_38 : decode cX7_fewestPasses 38 = .ok (.getfield 32, 3) := by decide +kernel
theorem dX7_fewestPasses_41 : decode cX7_fewestPasses 41 = .ok (.getfield 246, 3) := by decide +kernel
theorem dX7_fewestPasses_44 : decode cX7_fewestPasses 44 = .ok (.iconst 1, 1) := by decide +kernel
theorem dX7_fewestPasses_45 : decode cX7_fewestPasses 45 = .ok (.iaload, 1) := by decide +kernel
theorem dX7_fewestPasses_46 : decode cX7_fewestPasses 46 = .ok (.ireturn, 1) := by decide +kernel
theorem dX7_dust_0 : decode cX7_dust 0 = .ok (.iload_n 1, 1) := by decide +kernel
theorem dX7_dust_1 : decode cX7_dust 1 = .ok (.invokestatic 147, 3) := by decide +kernel
theorem dX7_dust_4 : decode cX7_dust 4 = .ok (.ifCond .ne 13, 3) := by decide +kernel
theorem dX7_dust_7 : decode cX7_dust 7 = .ok (.new 150, 3) := by decide +kernel
theorem dX7_dust_10 : decode cX7_dust 10 = .ok (.dup, 1) := by decide +kernel
theorem dX7_dust_11 : decode cX7_dust 11 = .ok (.ldc 152, 2) := by decide +kernel
theorem dX7_dust_13 : decode cX7_dust 13 = .ok (.invokespecial 154, 3) := by decide +kernel
theorem dX7_dust_16 : decode cX7_dust 16 = .ok (.athrow, 1) := by decide +kernel
theorem dX7_dust_17 : decode cX7_dust 17 = .ok (.aload_n 0, 1) := by decide +kernel
theorem dX7_dust_18 : decode cX7_dust 18 = .ok (.getfield 10, 3) := by decide +kernel
theorem dX7_dust_21 : decode cX7_dust 21 = .ok (.getfield 249, 3) := by decide +kernel
theorem dX7_dust_24 : decode cX7_dust 24 = .ok (.getfield 253, 3) := by decide +kernel
theorem dX7_dust_27 : decode cX7_dust 27 = .ok (.iload_n 1, 1) := by decide +kernel
theorem dX7_dust_28 : decode cX7_dust 28 = .ok (.iaload, 1) := by decide +kernel
theorem dX7_dust_29 : decode cX7_dust 29 = .ok (.ireturn, 1) := by decide +kernel
theorem dX7_gain_0 : decode cX7_gain 0 = .ok (.iload_n 1, 1) := by decide +kernel
theorem dX7_gain_1 : decode cX7_gain 1 = .ok (.invokestatic 147, 3) := by decide +kernel
theorem dX7_gain_4 : decode cX7_gain 4 = .ok (.ifCond .ne 13, 3) := by decide +kernel
theorem dX7_gain_7 : decode cX7_gain 7 = .ok (.new 150, 3) := by decide +kernel
theorem dX7_gain_10 : decode cX7_gain 10 = .ok (.dup, 1) := by decide +kernel
theorem dX7_gain_11 : decode cX7_gain 11 = .ok (.ldc 152, 2) := by decide +kernel
theorem dX7_gain_13 : decode cX7_gain 13 = .ok (.invokespecial 154, 3) := by decide +kernel
theorem dX7_gain_16 : decode cX7_gain 16 = .ok (.athrow, 1) := by decide +kernel
theorem dX7_gain_17 : decode cX7_gain 17 = .ok (.iload_n 2, 1) := by decide +kernel
theorem dX7_gain_18 : decode cX7_gain 18 = .ok (.invokestatic 155, 3) := by decide +kernel
theorem dX7_gain_21 : decode cX7_gain 21 = .ok (.ifCond .ne 13, 3) := by decide +kernel
theorem dX7_gain_24 : decode cX7_gain 24 = .ok (.new 65, 3) := by decide +kernel
theorem dX7_gain_27 : decode cX7_gain 27 = .ok (.dup, 1) := by decide +kernel
theorem dX7_gain_28 : decode cX7_gain 28 = .ok (.ldc 158, 2) := by decide +kernel
theorem dX7_gain_30 : decode cX7_gain 30 = .ok (.invokespecial 69, 3) := by decide +kernel
theorem dX7_gain_33 : decode cX7_gain 33 = .ok (.athrow, 1) := by decide +kernel
theorem dX7_gain_34 : decode cX7_gain 34 = .ok (.aload_n 0, 1) := by decide +kernel
theorem dX7_gain_35 : decode cX7_gain 35 = .ok (.getfield 10, 3) := by decide +kernel
theorem dX7_gain_38 : decode cX7_gain 38 = .ok (.getfield 249, 3) := by decide +kernel
theorem dX7_gain_41 : decode cX7_gain 41 = .ok (.iload_n 1, 1) := by decide +kernel
theorem dX7_gain_42 : decode cX7_gain 42 = .ok (.iload_n 2, 1) := by decide +kernel
theorem dX7_gain_43 : decode cX7_gain 43 = .ok (.aload_n 0, 1) := by decide +kernel
theorem dX7_gain_44 : decode cX7_gain 44 = .ok (.getfield 10, 3) := by decide +kernel
theorem dX7_gain_47 : decode cX7_gain 47 = .ok (.getfield 173, 3) := by decide +kernel
theorem dX7_gain_50 : decode cX7_gain 50 = .ok (.invokevirtual 258, 3) := by decide +kernel
theorem dX7_gain_53 : decode cX7_gain 53 = .ok (.ireturn, 1) := by decide +kernel
theorem dX7_bestGain_0 : decode cX7_bestGain 0 = .ok (.aload_n 0, 1) := by decide +kernel
theorem dX7_bestGain_1 : decode cX7_bestGain 1 = .ok (.getfield 10, 3) := by decide +kernel
theorem dX7_bestGain_4 : decode cX7_bestGain 4 = .ok (.getfield 249, 3) := by decide +kernel
theorem dX7_bestGain_7 : decode cX7_bestGain 7 = .ok (.aload_n 0, 1) := by decide +kernel
theorem dX7_bestGain_8 : decode cX7_bestGain 8 = .ok (.getfield 10, 3) := by decide +kernel
theorem dX7_bestGain_11 : decode cX7_bestGain 11 = .ok (.getfield 173, 3) := by decide +kernel
theorem dX7_bestGain_14 : decode cX7_bestGain 14 = .ok (.invokevirtual 261, 3) := by decide +kernel
theorem dX7_bestGain_17 : decode cX7_bestGain 17 = .ok (.ireturn, 1) := by decide +kernel
theorem dX7_bestGainByArcs_0 : decode cX7_bestGainByArcs 0 = .ok (.aload_n 0, 1) := by decide +kernel
theorem dX7_bestGainByArcs_1 : decode cX7_bestGainByArcs 1 = .ok (.getfield 10, 3) := by decide +kernel
theorem dX7_bestGainByArcs_4 : decode cX7_bestGainByArcs 4 = .ok (.getfield 249, 3) := by decide +kernel
theorem dX7_bestGainByArcs_7 : decode cX7_bestGainByArcs 7 = .ok (.aload_n 0, 1) := by decide +kernel
theorem dX7_bestGainByArcs_8 : decode cX7_bestGainByArcs 8 = .ok (.getfield 10, 3) := by decide +kernel
theorem dX7_bestGainByArcs_11 : decode cX7_bestGainByArcs 11 = .ok (.getfield 173, 3) := by decide +kernel
theorem dX7_bestGainByArcs_14 : decode cX7_bestGainByArcs 14 = .ok (.invokevirtual 264, 3) := by decide +kernel
theorem dX7_bestGainByArcs_17 : decode cX7_bestGainByArcs 17 = .ok (.aload_n 0, 1) := by decide +kernel
theorem dX7_bestGainByArcs_18 : decode cX7_bestGainByArcs 18 = .ok (.getfield 10, 3) := by decide +kernel
theorem dX7_bestGainByArcs_21 : decode cX7_bestGainByArcs 21 = .ok (.getfield 249, 3) := by decide +kernel
theorem dX7_bestGainByArcs_24 : decode cX7_bestGainByArcs 24 = .ok (.getfield 267, 3) := by decide +kernel
theorem dX7_bestGainByArcs_27 : decode cX7_bestGainByArcs 27 = .ok (.ireturn, 1) := by decide +kernel
theorem dX7_bestStart_0 : decode cX7_bestStart 0 = .ok (.aload_n 0, 1) := by decide +kernel
theorem dX7_bestStart_1 : decode cX7_bestStart 1 = .ok (.getfield 10, 3) := by decide +kernel
theorem dX7_bestStart_4 : decode cX7_bestStart 4 = .ok (.getfield 249, 3) := by decide +kernel
theorem dX7_bestStart_7 : decode cX7_bestStart 7 = .ok (.aload_n 0, 1) := by decide +kernel
theorem dX7_bestStart_8 : decode cX7_bestStart 8 = .ok (.getfield 10, 3) := by decide +kernel
theorem dX7_bestStart_11 : decode cX7_bestStart 11 = .ok (.getfield 173, 3) := by decide +kernel
theorem dX7_bestStart_14 : decode cX7_bestStart 14 = .ok (.invokevirtual 264, 3) := by decide +kernel
theorem dX7_bestStart_17 : decode cX7_bestStart 17 = .ok (.aload_n 0, 1) := by decide +kernel
theorem dX7_bestStart_18 : decode cX7_bestStart 18 = .ok (.getfield 10, 3) := by decide +kernel
theorem dX7_bestStart_21 : decode cX7_bestStart 21 = .ok (.getfield 249, 3) := by decide +kernel
theorem dX7_bestStart_24 : decode cX7_bestStart 24 = .ok (.getfield 270, 3) := by decide +kernel
theorem dX7_bestStart_27 : decode cX7_bestStart 27 = .ok (.ireturn, 1) := by decide +kernel
theorem dX7_bestPlaces_0 : decode cX7_bestPlaces 0 = .ok (.aload_n 0, 1) := by decide +kernel
theorem dX7_bestPlaces_1 : decode cX7_bestPlaces 1 = .ok (.getfield 10, 3) := by decide +kernel
theorem dX7_bestPlaces_4 : decode cX7_bestPlaces 4 = .ok (.getfield 249, 3) := by decide +kernel
theorem dX7_bestPlaces_7 : decode cX7_bestPlaces 7 = .ok (.aload_n 0, 1) := by decide +kernel
theorem dX7_bestPlaces_8 : decode cX7_bestPlaces 8 = .ok (.getfield 10, 3) := by decide +kernel
theorem dX7_bestPlaces_11 : decode cX7_bestPlaces 11 = .ok (.getfield 173, 3) := by decide +kernel
theorem dX7_bestPlaces_14 : decode cX7_bestPlaces 14 = .ok (.invokevirtual 264, 3) := by decide +kernel
theorem dX7_bestPlaces_17 : decode cX7_bestPlaces 17 = .ok (.aload_n 0, 1) := by decide +kernel
theorem dX7_bestPlaces_18 : decode cX7_bestPlaces 18 = .ok (.getfield 10, 3) := by decide +kernel
theorem dX7_bestPlaces_21 : decode cX7_bestPlaces 21 = .ok (.getfield 249, 3) := by decide +kernel
theorem dX7_bestPlaces_24 : decode cX7_bestPlaces 24 = .ok (.getfield 273, 3) := by decide +kernel
theorem dX7_bestPlaces_27 : decode cX7_bestPlaces 27 = .ok (.ireturn, 1) := by decide +kernel
theorem dX7_day_0 : decode cX7_day 0 = .ok (.aload_n 0, 1) := by decide +kernel
theorem dX7_day_1 : decode cX7_day 1 = .ok (.getfield 10, 3) := by decide +kernel
theorem dX7_day_4 : decode cX7_day 4 = .ok (.getfield 276, 3) := by decide +kernel
theorem dX7_day_7 : decode cX7_day 7 = .ok (.ireturn, 1) := by decide +kernel
theorem dX7_coins_0 : decode cX7_coins 0 = .ok (.aload_n 0, 1) := by decide +kernel
theorem dX7_coins_1 : decode cX7_coins 1 = .ok (.getfield 10, 3) := by decide +kernel
theorem dX7_coins_4 : decode cX7_coins 4 = .ok (.getfield 102, 3) := by decide +kernel
theorem dX7_coins_7 : decode cX7_coins 7 = .ok (.ireturn, 1) := by decide +kernel
theorem dX7_rate_0 : decode cX7_rate 0 = .ok (.aload_n 0, 1) := by decide +kernel
theorem dX7_rate_1 : decode cX7_rate 1 = .ok (.getfield 10, 3) := by decide +kernel
theorem dX7_rate_4 : decode cX7_rate 4 = .ok (.getfield 173, 3) := by decide +kernel
theorem dX7_rate_7 : decode cX7_rate 7 = .ok (.ireturn, 1) := by decide +kernel
theorem dX7_dustTotal_0 : decode cX7_dustTotal 0 = .ok (.aload_n 0, 1) := by decide +kernel
theorem dX7_dustTotal_1 : decode cX7_dustTotal 1 = .ok (.getfield 10, 3) := by decide +kernel
theorem dX7_dustTotal_4 : decode cX7_dustTotal 4 = .ok (.getfield 249, 3) := by decide +kernel
theorem dX7_dustTotal_7 : decode cX7_dustTotal 7 = .ok (.iconst 0, 1) := by decide +kernel
theorem dX7_dustTotal_8 : decode cX7_dustTotal 8 = .ok (.bipush 12, 2) := by decide +kernel
theorem dX7_dustTotal_10 : decode cX7_dustTotal 10 = .ok (.invokevirtual 279, 3) := by decide +kernel
theorem dX7_dustTotal_13 : decode cX7_dustTotal 13 = .ok (.ireturn, 1) := by decide +kernel
theorem dX7_dustByAccounts_0 : decode cX7_dustByAccounts 0 = .ok (.aload_n 0, 1) := by decide +kernel
theorem dX7_dustByAccounts_1 : decode cX7_dustByAccounts 1 = .ok (.getfield 10, 3) := by decide +kernel
end
section
theorem dX7_dustByAccounts_4 : decode cX7_dustByAccounts 4 = .ok (.getfield 249, 3) := by decide +kernel
theorem dX7_dustByAccounts_7 : decode cX7_dustByAccounts 7 = .ok (.getfield 282, 3) := by decide +kernel
theorem dX7_dustByAccounts_10 : decode cX7_dustByAccounts 10 = .ok (.aload_n 0, 1) := by decide +kernel
theorem dX7_dustByAccounts_11 : decode cX7_dustByAccounts 11 = .ok (.getfield 10, 3) := by decide +kernel
theorem dX7_dustByAccounts_14 : decode cX7_dustByAccounts 14 = .ok (.getfield 249, 3) := by decide +kernel
theorem dX7_dustByAccounts_17 : decode cX7_dustByAccounts 17 = .ok (.getfield 285, 3) := by decide +kernel
theorem dX7_dustByAccounts_20 : decode cX7_dustByAccounts 20 = .ok (.isub, 1) := by decide +kernel
theorem dX7_dustByAccounts_21 : decode cX7_dustByAccounts 21 = .ok (.ireturn, 1) := by decide +kernel
theorem dX7_passTotal_0 : decode cX7_passTotal 0 = .ok (.aload_n 0, 1) := by decide +kernel
theorem dX7_passTotal_1 : decode cX7_passTotal 1 = .ok (.getfield 10, 3) := by decide +kernel
theorem dX7_passTotal_4 : decode cX7_passTotal 4 = .ok (.getfield 288, 3) := by decide +kernel
theorem dX7_passTotal_7 : decode cX7_passTotal 7 = .ok (.ireturn, 1) := by decide +kernel
theorem dX7_burntTotal_0 : decode cX7_burntTotal 0 = .ok (.aload_n 0, 1) := by decide +kernel
theorem dX7_burntTotal_1 : decode cX7_burntTotal 1 = .ok (.getfield 10, 3) := by decide +kernel
theorem dX7_burntTotal_4 : decode cX7_burntTotal 4 = .ok (.getfield 291, 3) := by decide +kernel
theorem dX7_burntTotal_7 : decode cX7_burntTotal 7 = .ok (.ireturn, 1) := by decide +kernel
theorem dX7_meanBrightness_0 : decode cX7_meanBrightness 0 = .ok (.aload_n 0, 1) := by decide +kernel
theorem dX7_meanBrightness_1 : decode cX7_meanBrightness 1 = .ok (.getfield 10, 3) := by decide +kernel
theorem dX7_meanBrightness_4 : decode cX7_meanBrightness 4 = .ok (.getfield 176, 3) := by decide +kernel
theorem dX7_meanBrightness_7 : decode cX7_meanBrightness 7 = .ok (.ifCond .ne 13, 3) := by decide +kernel
theorem dX7_meanBrightness_10 : decode cX7_meanBrightness 10 = .ok (.new 221, 3) := by decide +kernel
theorem dX7_meanBrightness_13 : decode cX7_meanBrightness 13 = .ok (.dup, 1) := by decide +kernel
theorem dX7_meanBrightness_14 : decode cX7_meanBrightness 14 = .ok (.ldc 223, 2) := by decide +kernel
theorem dX7_meanBrightness_16 : decode cX7_meanBrightness 16 = .ok (.invokespecial 225, 3) := by decide +kernel
theorem dX7_meanBrightness_19 : decode cX7_meanBrightness 19 = .ok (.athrow, 1) := by decide +kernel
theorem dX7_meanBrightness_20 : decode cX7_meanBrightness 20 = .ok (.iconst 0, 1) := by decide +kernel
theorem dX7_meanBrightness_21 : decode cX7_meanBrightness 21 = .ok (.istore_n 1, 1) := by decide +kernel
theorem dX7_meanBrightness_22 : decode cX7_meanBrightness 22 = .ok (.iconst 0, 1) := by decide +kernel
theorem dX7_meanBrightness_23 : decode cX7_meanBrightness 23 = .ok (.istore_n 2, 1) := by decide +kernel
theorem dX7_meanBrightness_24 : decode cX7_meanBrightness 24 = .ok (.iload_n 2, 1) := by decide +kernel
theorem dX7_meanBrightness_25 : decode cX7_meanBrightness 25 = .ok (.aload_n 0, 1) := by decide +kernel
theorem dX7_meanBrightness_26 : decode cX7_meanBrightness 26 = .ok (.getfield 10, 3) := by decide +kernel
theorem dX7_meanBrightness_29 : decode cX7_meanBrightness 29 = .ok (.getfield 176, 3) := by decide +kernel
theorem dX7_meanBrightness_32 : decode cX7_meanBrightness 32 = .ok (.if_icmp .ge 24, 3) := by decide +kernel
theorem dX7_meanBrightness_35 : decode cX7_meanBrightness 35 = .ok (.iload_n 1, 1) := by decide +kernel
theorem dX7_meanBrightness_36 : decode cX7_meanBrightness 36 = .ok (.aload_n 0, 1) := by decide +kernel
theorem dX7_meanBrightness_37 : decode cX7_meanBrightness 37 = .ok (.getfield 10, 3) := by decide +kernel
theorem dX7_meanBrightness_40 : decode cX7_meanBrightness 40 = .ok (.getfield 181, 3) := by decide +kernel
theorem dX7_meanBrightness_43 : decode cX7_meanBrightness 43 = .ok (.iload_n 2, 1) := by decide +kernel
theorem dX7_meanBrightness_44 : decode cX7_meanBrightness 44 = .ok (.aaload, 1) := by decide +kernel
theorem dX7_meanBrightness_45 : decode cX7_meanBrightness 45 = .ok (.getfield 135, 3) := by decide +kernel
theorem dX7_meanBrightness_48 : decode cX7_meanBrightness 48 = .ok (.iadd, 1) := by decide +kernel
theorem dX7_meanBrightness_49 : decode cX7_meanBrightness 49 = .ok (.istore_n 1, 1) := by decide +kernel
theorem dX7_meanBrightness_50 : decode cX7_meanBrightness 50 = .ok (.iinc 2 1, 3) := by decide +kernel
theorem dX7_meanBrightness_53 : decode cX7_meanBrightness 53 = .ok (.goto (-29), 3) := by decide +kernel
theorem dX7_meanBrightness_56 : decode cX7_meanBrightness 56 = .ok (.iload_n 1, 1) := by decide +kernel
theorem dX7_meanBrightness_57 : decode cX7_meanBrightness 57 = .ok (.i2d, 1) := by decide +kernel
theorem dX7_meanBrightness_58 : decode cX7_meanBrightness 58 = .ok (.aload_n 0, 1) := by decide +kernel
theorem dX7_meanBrightness_59 : decode cX7_meanBrightness 59 = .ok (.getfield 10, 3) := by decide +kernel
theorem dX7_meanBrightness_62 : decode cX7_meanBrightness 62 = .ok (.getfield 176, 3) := by decide +kernel
theorem dX7_meanBrightness_65 : decode cX7_meanBrightness 65 = .ok (.i2d, 1) := by decide +kernel
theorem dX7_meanBrightness_66 : decode cX7_meanBrightness 66 = .ok (.ddiv, 1) := by decide +kernel
theorem dX7_meanBrightness_67 : decode cX7_meanBrightness 67 = .ok (.dreturn, 1) := by decide +kernel
theorem dX7_dustyShare_0 : decode cX7_dustyShare 0 = .ok (.aload_n 0, 1) := by decide +kernel
theorem dX7_dustyShare_1 : decode cX7_dustyShare 1 = .ok (.getfield 10, 3) := by decide +kernel
theorem dX7_dustyShare_4 : decode cX7_dustyShare 4 = .ok (.getfield 249, 3) := by decide +kernel
theorem dX7_dustyShare_7 : decode cX7_dustyShare 7 = .ok (.invokevirtual 294, 3) := by decide +kernel
theorem dX7_dustyShare_10 : decode cX7_dustyShare 10 = .ok (.i2f, 1) := by decide +kernel
theorem dX7_dustyShare_11 : decode cX7_dustyShare 11 = .ok (.ldc_w 297, 3) := by decide +kernel
theorem dX7_dustyShare_14 : decode cX7_dustyShare 14 = .ok (.fdiv, 1) := by decide +kernel
theorem dX7_dustyShare_15 : decode cX7_dustyShare 15 = .ok (.freturn, 1) := by decide +kernel
theorem dX7_isConsistent_0 : decode cX7_isConsistent 0 = .ok (.aload_n 0, 1) := by decide +kernel
theorem dX7_isConsistent_1 : decode cX7_isConsistent 1 = .ok (.invokevirtual 298, 3) := by decide +kernel
theorem dX7_isConsistent_4 : decode cX7_isConsistent 4 = .ok (.aload_n 0, 1) := by decide +kernel
theorem dX7_isConsistent_5 : decode cX7_isConsistent 5 = .ok (.invokevirtual 301, 3) := by decide +kernel
theorem dX7_isConsistent_8 : decode cX7_isConsistent 8 = .ok (.if_icmp .ne 43, 3) := by decide +kernel
theorem dX7_isConsistent_11 : decode cX7_isConsistent 11 = .ok (.aload_n 0, 1) := by decide +kernel
theorem dX7_isConsistent_12 : decode cX7_isConsistent 12 = .ok (.invokevirtual 304, 3) := by decide +kernel
theorem dX7_isConsistent_15 : decode cX7_isConsistent 15 = .ok (.aload_n 0, 1) := by decide +kernel
theorem dX7_isConsistent_16 : decode cX7_isConsistent 16 = .ok (.invokevirtual 307, 3) := by decide +kernel
theorem dX7_isConsistent_19 : decode cX7_isConsistent 19 = .ok (.if_icmp .ne 32, 3) := by decide +kernel
theorem dX7_isConsistent_22 : decode cX7_isConsistent 22 = .ok (.aload_n 0, 1) := by decide +kernel
theorem dX7_isConsistent_23 : decode cX7_isConsistent 23 = .ok (.bipush 20, 2) := by decide +kernel
theorem dX7_isConsistent_25 : decode cX7_isConsistent 25 = .ok (.invokevirtual 310, 3) := by decide +kernel
theorem dX7_isConsistent_28 : decode cX7_isConsistent 28 = .ok (.aload_n 0, 1) := by decide +kernel
theorem dX7_isConsistent_29 : decode cX7_isConsistent 29 = .ok (.bipush 20, 2) := by decide +kernel
theorem dX7_isConsistent_31 : decode cX7_isConsistent 31 = .ok (.invokevirtual 313, 3) := by decide +kernel
theorem dX7_isConsistent_34 : decode cX7_isConsistent 34 = .ok (.if_icmp .ne 17, 3) := by decide +kernel
theorem dX7_isConsistent_37 : decode cX7_isConsistent 37 = .ok (.aload_n 0, 1) := by decide +kernel
theorem dX7_isConsistent_38 : decode cX7_isConsistent 38 = .ok (.getfield 10, 3) := by decide +kernel
theorem dX7_isConsistent_41 : decode cX7_isConsistent 41 = .ok (.invokevirtual 316, 3) := by decide +kernel
theorem dX7_isConsistent_44 : decode cX7_isConsistent 44 = .ok (.ifCond .eq 7, 3) := by decide +kernel
theorem dX7_isConsistent_47 : decode cX7_isConsistent 47 = .ok (.iconst 1, 1) := by decide +kernel
theorem dX7_isConsistent_48 : decode cX7_isConsistent 48 = .ok (.goto 4, 3) := by decide +kernel
theorem dX7_isConsistent_51 : decode cX7_isConsistent 51 = .ok (.iconst 0, 1) := by decide +kernel
theorem dX7_isConsistent_52 : decode cX7_isConsistent 52 = .ok (.ireturn, 1) := by decide +kernel
theorem dX7_append_0 : decode cX7_append 0 = .ok (.aload_n 0, 1) := by decide +kernel
theorem dX7_append_1 : decode cX7_append 1 = .ok (.getfield 39, 3) := by decide +kernel
theorem dX7_append_4 : decode cX7_append 4 = .ok (.invokevirtual 319, 3) := by decide +kernel
theorem dX7_append_7 : decode cX7_append 7 = .ok (.ifCond .eq 14, 3) := by decide +kernel
theorem dX7_append_10 : decode cX7_append 10 = .ok (.new 76, 3) := by decide +kernel
theorem dX7_append_13 : decode cX7_append 13 = .ok (.dup, 1) := by decide +kernel
theorem dX7_append_14 : decode cX7_append 14 = .ok (.ldc_w 322, 3) := by decide +kernel
theorem dX7_append_17 : decode cX7_append 17 = .ok (.invokespecial 80, 3) := by decide +kernel
theorem dX7_append_20 : decode cX7_append 20 = .ok (.athrow, 1) := by decide +kernel
theorem dX7_append_21 : decode cX7_append 21 = .ok (.aload_n 0, 1) := by decide +kernel
theorem dX7_append_22 : decode cX7_append 22 = .ok (.getfield 39, 3) := by decide +kernel
theorem dX7_append_25 : decode cX7_append 25 = .ok (.iload_n 1, 1) := by decide +kernel
theorem dX7_append_26 : decode cX7_append 26 = .ok (.invokevirtual 324, 3) := by decide +kernel
theorem dX7_append_29 : decode cX7_append 29 = .ok (.aload_n 0, 1) := by decide +kernel
theorem dX7_append_30 : decode cX7_append 30 = .ok (.getfield 39, 3) := by decide +kernel
theorem dX7_append_33 : decode cX7_append 33 = .ok (.getfield 327, 3) := by decide +kernel
theorem dX7_append_36 : decode cX7_append 36 = .ok (.ireturn, 1) := by decide +kernel
theorem dX7_run_0 : decode cX7_run 0 = .ok (.aload_n 0, 1) := by decide +kernel
theorem dX7_run_1 : decode cX7_run 1 = .ok (.getfield 39, 3) := by decide +kernel
theorem dX7_run_4 : decode cX7_run 4 = .ok (.invokevirtual 330, 3) := by decide +kernel
theorem dX7_run_7 : decode cX7_run 7 = .ok (.istore_n 1, 1) := by decide +kernel
theorem dX7_run_8 : decode cX7_run 8 = .ok (.aload_n 0, 1) := by decide +kernel
theorem dX7_run_9 : decode cX7_run 9 = .ok (.getfield 39, 3) := by decide +kernel
theorem dX7_run_12 : decode cX7_run 12 = .ok (.iconst 0, 1) := by decide +kernel
theorem dX7_run_13 : decode cX7_run 13 = .ok (.putfield 327, 3) := by decide +kernel
theorem dX7_run_16 : decode cX7_run 16 = .ok (.iload_n 1, 1) := by decide +kernel
theorem dX7_run_17 : decode cX7_run 17 = .ok (.ifCond .ne 25, 3) := by decide +kernel
theorem dX7_run_20 : decode cX7_run 20 = .ok (.aload_n 0, 1) := by decide +kernel
theorem dX7_run_21 : decode cX7_run 21 = .ok (.aload_n 0, 1) := by decide +kernel
theorem dX7_run_22 : decode cX7_run 22 = .ok (.getfield 39, 3) := by decide +kernel
theorem dX7_run_25 : decode cX7_run 25 = .ok (.getfield 333, 3) := by decide +kernel
theorem dX7_run_28 : decode cX7_run 28 = .ok (.putfield 54, 3) := by decide +kernel
theorem dX7_run_31 : decode cX7_run 31 = .ok (.new 65, 3) := by decide +kernel
theorem dX7_run_34 : decode cX7_run 34 = .ok (.dup, 1) := by decide +kernel
theorem dX7_run_35 : decode cX7_run 35 = .ok (.ldc_w 336, 3) := by decide +kernel
theorem dX7_run_38 : decode cX7_run 38 = .ok (.invokespecial 69, 3) := by decide +kernel
theorem dX7_run_41 : decode cX7_run 41 = .ok (.athrow, 1) := by decide +kernel
theorem dX7_run_42 : decode cX7_run 42 = .ok (.aload_n 0, 1) := by decide +kernel
theorem dX7_run_43 : decode cX7_run 43 = .ok (.getfield 19, 3) := by decide +kernel
theorem dX7_run_46 : decode cX7_run 46 = .ok (.aload_n 0, 1) := by decide +kernel
theorem dX7_run_47 : decode cX7_run 47 = .ok (.getfield 10, 3) := by decide +kernel
theorem dX7_run_50 : decode cX7_run 50 = .ok (.invokevirtual 338, 3) := by decide +kernel
theorem dX7_run_53 : decode cX7_run 53 = .ok (.iconst 0, 1) := by decide +kernel
theorem dX7_run_54 : decode cX7_run 54 = .ok (.istore_n 2, 1) := by decide +kernel
theorem dX7_run_55 : decode cX7_run 55 = .ok (.iload_n 2, 1) := by decide +kernel
theorem dX7_run_56 : decode cX7_run 56 = .ok (.aload_n 0, 1) := by decide +kernel
theorem dX7_run_57 : decode cX7_run 57 = .ok (.getfield 39, 3) := by decide +kernel
theorem dX7_run_60 : decode cX7_run 60 = .ok (.getfield 341, 3) := by decide +kernel
theorem dX7_run_63 : decode cX7_run 63 = .ok (.if_icmp .ge 85, 3) := by decide +kernel
theorem dX7_run_66 : decode cX7_run 66 = .ok (.aload_n 0, 1) := by decide +kernel
theorem dX7_run_67 : decode cX7_run 67 = .ok (.aload_n 0, 1) := by decide +kernel
theorem dX7_run_68 : decode cX7_run 68 = .ok (.getfield 39, 3) := by decide +kernel
theorem dX7_run_71 : decode cX7_run 71 = .ok (.getfield 342, 3) := by decide +kernel
theorem dX7_run_74 : decode cX7_run 74 = .ok (.iload_n 2, 1) := by decide +kernel
theorem dX7_run_75 : decode cX7_run 75 = .ok (.iaload, 1) := by decide +kernel
theorem dX7_run_76 : decode cX7_run 76 = .ok (.aload_n 0, 1) := by decide +kernel
theorem dX7_run_77 : decode cX7_run 77 = .ok (.getfield 39, 3) := by decide +kernel
theorem dX7_run_80 : decode cX7_run 80 = .ok (.getfield 345, 3) := by decide +kernel
theorem dX7_run_83 : decode cX7_run 83 = .ok (.iload_n 2, 1) := by decide +kernel
theorem dX7_run_84 : decode cX7_run 84 = .ok (.aaload, 1) := by decide +kernel
theorem dX7_run_85 : decode cX7_run 85 = .ok (.iconst 0, 1) := by decide +kernel
theorem dX7_run_86 : decode cX7_run 86 = .ok (.iaload, 1) := by decide +kernel
theorem dX7_run_87 : decode cX7_run 87 = .ok (.aload_n 0, 1) := by decide +kernel
theorem dX7_run_88 : decode cX7_run 88 = .ok (.getfield 39, 3) := by decide +kernel
theorem dX7_run_91 : decode cX7_run 91 = .ok (.getfield 345, 3) := by decide +kernel
theorem dX7_run_94 : decode cX7_run 94 = .ok (.iload_n 2, 1) := by decide +kernel
theorem dX7_run_95 : decode cX7_run 95 = .ok (.aaload, 1) := by decide +kernel
theorem dX7_run_96 : decode cX7_run 96 = .ok (.iconst 1, 1) := by decide +kernel
theorem dX7_run_97 : decode cX7_run 97 = .ok (.iaload, 1) := by decide +kernel
theorem dX7_run_98 : decode cX7_run 98 = .ok (.aload_n 0, 1) := by decide +kernel
theorem dX7_run_99 : decode cX7_run 99 = .ok (.getfield 39, 3) := by decide +kernel
theorem dX7_run_102 : decode cX7_run 102 = .ok (.getfield 345, 3) := by decide +kernel
theorem dX7_run_105 : decode cX7_run 105 = .ok (.iload_n 2, 1) := by decide +kernel
theorem dX7_run_106 : decode cX7_run 106 = .ok (.aaload, 1) := by decide +kernel
theorem dX7_run_107 : decode cX7_run 107 = .ok (.iconst 2, 1) := by decide +kernel
theorem dX7_run_108 : decode cX7_run 108 = .ok (.iaload, 1) := by decide +kernel
theorem dX7_run_109 : decode cX7_run 109 = .ok (.invokevirtual 349, 3) := by decide +kernel
theorem dX7_run_112 : decode cX7_run 112 = .ok (.ifCond .ne 30, 3) := by decide +kernel
theorem dX7_run_115 : decode cX7_run 115 = .ok (.aload_n 0, 1) := by decide +kernel
theorem dX7_run_116 : decode cX7_run 116 = .ok (.getfield 10, 3) := by decide +kernel
theorem dX7_run_119 : decode cX7_run 119 = .ok (.aload_n 0, 1) := by decide +kernel
theorem dX7_run_120 : decode cX7_run 120 = .ok (.getfield 19, 3) := by decide +kernel
theorem dX7_run_123 : decode cX7_run 123 = .ok (.invokevirtual 338, 3) := by decide +kernel
theorem dX7_run_126 : decode cX7_run 126 = .ok (.aload_n 0, 1) := by decide +kernel
theorem dX7_run_127 : decode cX7_run 127 = .ok (.iload_n 2, 1) := by decide +kernel
theorem dX7_run_128 : decode cX7_run 128 = .ok (.putfield 58, 3) := by decide +kernel
theorem dX7_run_131 : decode cX7_run 131 = .ok (.new 126, 3) := by decide +kernel
theorem dX7_run_134 : decode cX7_run 134 = .ok (.dup, 1) := by decide +kernel
theorem dX7_run_135 : decode cX7_run 135 = .ok (.ldc_w 353, 3) := by decide +kernel
theorem dX7_run_138 : decode cX7_run 138 = .ok (.invokespecial 130, 3) := by decide +kernel
theorem dX7_run_141 : decode cX7_run 141 = .ok (.athrow, 1) := by decide +kernel
theorem dX7_run_142 : decode cX7_run 142 = .ok (.iinc 2 1, 3) := by decide +kernel
theorem dX7_run_145 : decode cX7_run 145 = .ok (.goto (-90), 3) := by decide +kernel
theorem dX7_run_148 : decode cX7_run 148 = .ok (.aload_n 0, 1) := by decide +kernel
theorem dX7_run_149 : decode cX7_run 149 = .ok (.getfield 25, 3) := by decide +kernel
theorem dX7_run_152 : decode cX7_run 152 = .ok (.aload_n 0, 1) := by decide +kernel
theorem dX7_run_153 : decode cX7_run 153 = .ok (.getfield 19, 3) := by decide +kernel
theorem dX7_run_156 : decode cX7_run 156 = .ok (.invokevirtual 81, 3) := by decide +kernel
theorem dX7_run_159 : decode cX7_run 159 = .ok (.aload_n 0, 1) := by decide +kernel
theorem dX7_run_160 : decode cX7_run 160 = .ok (.getfield 39, 3) := by decide +kernel
theorem dX7_run_163 : decode cX7_run 163 = .ok (.getfield 341, 3) := by decide +kernel
theorem dX7_run_166 : decode cX7_run 166 = .ok (.ireturn, 1) := by decide +kernel
theorem dX7_errorPosition_0 : decode cX7_errorPosition 0 = .ok (.aload_n 0, 1) := by decide +kernel
theorem dX7_errorPosition_1 : decode cX7_errorPosition 1 = .ok (.getfield 54, 3) := by decide +kernel
theorem dX7_errorPosition_4 : decode cX7_errorPosition 4 = .ok (.iconst (-1), 1) := by decide +kernel
theorem dX7_errorPosition_5 : decode cX7_errorPosition 5 = .ok (.if_icmp .ne 14, 3) := by decide +kernel
theorem dX7_errorPosition_8 : decode cX7_errorPosition 8 = .ok (.new 355, 3) := by decide +kernel
theorem dX7_errorPosition_11 : decode cX7_errorPosition 11 = .ok (.dup, 1) := by decide +kernel
theorem dX7_errorPosition_12 : decode cX7_errorPosition 12 = .ok (.ldc_w 357, 3) := by decide +kernel
theorem dX7_errorPosition_15 : decode cX7_errorPosition 15 = .ok (.invokespecial 359, 3) := by decide +kernel
theorem dX7_errorPosition_18 : decode cX7_errorPosition 18 = .ok (.athrow, 1) := by decide +kernel
theorem dX7_errorPosition_19 : decode cX7_errorPosition 19 = .ok (.aload_n 0, 1) := by decide +kernel
theorem dX7_errorPosition_20 : decode cX7_errorPosition 20 = .ok (.getfield 54, 3) := by decide +kernel
theorem dX7_errorPosition_23 : decode cX7_errorPosition 23 = .ok (.ireturn, 1) := by decide +kernel
theorem dX7_failedCommand_0 : decode cX7_failedCommand 0 = .ok (.aload_n 0, 1) := by decide +kernel
theorem dX7_failedCommand_1 : decode cX7_failedCommand 1 = .ok (.getfield 58, 3) := by decide +kernel
theorem dX7_failedCommand_4 : decode cX7_failedCommand 4 = .ok (.iconst (-1), 1) := by decide +kernel
theorem dX7_failedCommand_5 : decode cX7_failedCommand 5 = .ok (.if_icmp .ne 14, 3) := by decide +kernel
theorem dX7_failedCommand_8 : decode cX7_failedCommand 8 = .ok (.new 355, 3) := by decide +kernel
theorem dX7_failedCommand_11 : decode cX7_failedCommand 11 = .ok (.dup, 1) := by decide +kernel
theorem dX7_failedCommand_12 : decode cX7_failedCommand 12 = .ok (.ldc_w 360, 3) := by decide +kernel
theorem dX7_failedCommand_15 : decode cX7_failedCommand 15 = .ok (.invokespecial 359, 3) := by decide +kernel
theorem dX7_failedCommand_18 : decode cX7_failedCommand 18 = .ok (.athrow, 1) := by decide +kernel
theorem dX7_failedCommand_19 : decode cX7_failedCommand 19 = .ok (.aload_n 0, 1) := by decide +kernel
theorem dX7_failedCommand_20 : decode cX7_failedCommand 20 = .ok (.getfield 58, 3) := by decide +kernel
theorem dX7_failedCommand_23 : decode cX7_failedCommand 23 = .ok (.ireturn, 1) := by decide +kernel
theorem dX7_writeComet_0 : decode cX7_writeComet 0 = .ok (.aload_n 0, 1) := by decide +kernel
theorem dX7_writeComet_1 : decode cX7_writeComet 1 = .ok (.iload_n 1, 1) := by decide +kernel
theorem dX7_writeComet_2 : decode cX7_writeComet 2 = .ok (.invokevirtual 89, 3) := by decide +kernel
theorem dX7_writeComet_5 : decode cX7_writeComet 5 = .ok (.astore_n 2, 1) := by decide +kernel
theorem dX7_writeComet_6 : decode cX7_writeComet 6 = .ok (.aload_n 0, 1) := by decide +kernel
theorem dX7_writeComet_7 : decode cX7_writeComet 7 = .ok (.getfield 46, 3) := by decide +kernel
theorem dX7_writeComet_10 : decode cX7_writeComet 10 = .ok (.iconst 0, 1) := by decide +kernel
theorem dX7_writeComet_11 : decode cX7_writeComet 11 = .ok (.invokevirtual 362, 3) := by decide +kernel
theorem dX7_writeComet_14 : decode cX7_writeComet 14 = .ok (.aload_n 0, 1) := by decide +kernel
theorem dX7_writeComet_15 : decode cX7_writeComet 15 = .ok (.getfield 46, 3) := by decide +kernel
theorem dX7_writeComet_18 : decode cX7_writeComet 18 = .ok (.aload_n 2, 1) := by decide +kernel
theorem dX7_writeComet_19 : decode cX7_writeComet 19 = .ok (.getfield 93, 3) := by decide +kernel
theorem dX7_writeComet_22 : decode cX7_writeComet 22 = .ok (.invokevirtual 365, 3) := by decide +kernel
theorem dX7_writeComet_25 : decode cX7_writeComet 25 = .ok (.bipush 42, 2) := by decide +kernel
theorem dX7_writeComet_27 : decode cX7_writeComet 27 = .ok (.invokevirtual 369, 3) := by decide +kernel
theorem dX7_writeComet_30 : decode cX7_writeComet 30 = .ok (.aload_n 2, 1) := by decide +kernel
theorem dX7_writeComet_31 : decode cX7_writeComet 31 = .ok (.getfield 135, 3) := by decide +kernel
theorem dX7_writeComet_34 : decode cX7_writeComet 34 = .ok (.invokevirtual 365, 3) := by decide +kernel
theorem dX7_writeComet_37 : decode cX7_writeComet 37 = .ok (.pop, 1) := by decide +kernel
theorem dX7_writeComet_38 : decode cX7_writeComet 38 = .ok (.aload_n 0, 1) := by decide +kernel
theorem dX7_writeComet_39 : decode cX7_writeComet 39 = .ok (.getfield 46, 3) := by decide +kernel
theorem dX7_writeComet_42 : decode cX7_writeComet 42 = .ok (.bipush 47, 2) := by decide +kernel
theorem dX7_writeComet_44 : decode cX7_writeComet 44 = .ok (.invokevirtual 369, 3) := by decide +kernel
theorem dX7_writeComet_47 : decode cX7_writeComet 47 = .ok (.aload_n 2, 1) := by decide +kernel
theorem dX7_writeComet_48 : decode cX7_writeComet 48 = .ok (.getfield 110, 3) := by decide +kernel
theorem dX7_writeComet_51 : decode cX7_writeComet 51 = .ok (.invokevirtual 365, 3) := by decide +kernel
theorem dX7_writeComet_54 : decode cX7_writeComet 54 = .ok (.bipush 64, 2) := by decide +kernel
theorem dX7_writeComet_56 : decode cX7_writeComet 56 = .ok (.invokevirtual 369, 3) := by decide +kernel
theorem dX7_writeComet_59 : decode cX7_writeComet 59 = .ok (.aload_n 2, 1) := by decide +kernel
theorem dX7_writeComet_60 : decode cX7_writeComet 60 = .ok (.getfield 191, 3) := by decide +kernel
theorem dX7_writeComet_63 : decode cX7_writeComet 63 = .ok (.invokevirtual 365, 3) := by decide +kernel
theorem dX7_writeComet_66 : decode cX7_writeComet 66 = .ok (.pop, 1) := by decide +kernel
theorem dX7_writeComet_67 : decode cX7_writeComet 67 = .ok (.aload_n 0, 1) := by decide +kernel
theorem dX7_writeComet_68 : decode cX7_writeComet 68 = .ok (.getfield 46, 3) := by decide +kernel
theorem dX7_writeComet_71 : decode cX7_writeComet 71 = .ok (.invokevirtual 372, 3) := by decide +kernel
theorem dX7_writeComet_74 : decode cX7_writeComet 74 = .ok (.ireturn, 1) := by decide +kernel
theorem dX7_writeRing_0 : decode cX7_writeRing 0 = .ok (.aload_n 0, 1) := by decide +kernel
theorem dX7_writeRing_1 : decode cX7_writeRing 1 = .ok (.getfield 46, 3) := by decide +kernel
theorem dX7_writeRing_4 : decode cX7_writeRing 4 = .ok (.iconst 0, 1) := by decide +kernel
theorem dX7_writeRing_5 : decode cX7_writeRing 5 = .ok (.invokevirtual 362, 3) := by decide +kernel
theorem dX7_writeRing_8 : decode cX7_writeRing 8 = .ok (.iconst 0, 1) := by decide +kernel
theorem dX7_writeRing_9 : decode cX7_writeRing 9 = .ok (.istore_n 1, 1) := by decide +kernel
theorem dX7_writeRing_10 : decode cX7_writeRing 10 = .ok (.iload_n 1, 1) := by decide +kernel
theorem dX7_writeRing_11 : decode cX7_writeRing 11 = .ok (.bipush 12, 2) := by decide +kernel
theorem dX7_writeRing_13 : decode cX7_writeRing 13 = .ok (.if_icmp .ge 43, 3) := by decide +kernel
theorem dX7_writeRing_16 : decode cX7_writeRing 16 = .ok (.iload_n 1, 1) := by decide +kernel
theorem dX7_writeRing_17 : decode cX7_writeRing 17 = .ok (.ifCond .le 13, 3) := by decide +kernel
theorem dX7_writeRing_20 : decode cX7_writeRing 20 = .ok (.aload_n 0, 1) := by decide +kernel
theorem dX7_writeRing_21 : decode cX7_writeRing 21 = .ok (.getfield 46, 3) := by decide +kernel
theorem dX7_writeRing_24 : decode cX7_writeRing 24 = .ok (.bipush 44, 2) := by decide +kernel
theorem dX7_writeRing_26 : decode cX7_writeRing 26 = .ok (.invokevirtual 369, 3) := by decide +kernel
theorem dX7_writeRing_29 : decode cX7_writeRing 29 = .ok (.pop, 1) := by decide +kernel
theorem dX7_writeRing_30 : decode cX7_writeRing 30 = .ok (.aload_n 0, 1) := by decide +kernel
theorem dX7_writeRing_31 : decode cX7_writeRing 31 = .ok (.getfield 46, 3) := by decide +kernel
theorem dX7_writeRing_34 : decode cX7_writeRing 34 = .ok (.aload_n 0, 1) := by decide +kernel
theorem dX7_writeRing_35 : decode cX7_writeRing 35 = .ok (.getfield 10, 3) := by decide +kernel
theorem dX7_writeRing_38 : decode cX7_writeRing 38 = .ok (.getfield 249, 3) := by decide +kernel
theorem dX7_writeRing_41 : decode cX7_writeRing 41 = .ok (.getfield 253, 3) := by decide +kernel
theorem dX7_writeRing_44 : decode cX7_writeRing 44 = .ok (.iload_n 1, 1) := by decide +kernel
theorem dX7_writeRing_45 : decode cX7_writeRing 45 = .ok (.iaload, 1) := by decide +kernel
theorem dX7_writeRing_46 : decode cX7_writeRing 46 = .ok (.invokevirtual 365, 3) := by decide +kernel
theorem dX7_writeRing_49 : decode cX7_writeRing 49 = .ok (.pop, 1) := by decide +kernel
theorem dX7_writeRing_50 : decode cX7_writeRing 50 = .ok (.iinc 1 1, 3) := by decide +kernel
theorem dX7_writeRing_53 : decode cX7_writeRing 53 = .ok (.goto (-43), 3) := by decide +kernel
theorem dX7_writeRing_56 : decode cX7_writeRing 56 = .ok (.aload_n 0, 1) := by decide +kernel
theorem dX7_writeRing_57 : decode cX7_writeRing 57 = .ok (.getfield 46, 3) := by decide +kernel
theorem dX7_writeRing_60 : decode cX7_writeRing 60 = .ok (.invokevirtual 372, 3) := by decide +kernel
theorem dX7_writeRing_63 : decode cX7_writeRing 63 = .ok (.ireturn, 1) := by decide +kernel
theorem dX7_outputAt_0 : decode cX7_outputAt 0 = .ok (.iload_n 1, 1) := by decide +kernel
theorem dX7_outputAt_1 : decode cX7_outputAt 1 = .ok (.ifCond .lt 14, 3) := by decide +kernel
theorem dX7_outputAt_4 : decode cX7_outputAt 4 = .ok (.iload_n 1, 1) := by decide +kernel
theorem dX7_outputAt_5 : decode cX7_outputAt 5 = .ok (.aload_n 0, 1) := by decide +kernel
theorem dX7_outputAt_6 : decode cX7_outputAt 6 = .ok (.getfield 46, 3) := by decide +kernel
theorem dX7_outputAt_9 : decode cX7_outputAt 9 = .ok (.invokevirtual 372, 3) := by decide +kernel
theorem dX7_outputAt_12 : decode cX7_outputAt 12 = .ok (.if_icmp .lt 14, 3) := by decide +kernel
theorem dX7_outputAt_15 : decode cX7_outputAt 15 = .ok (.new 150, 3) := by decide +kernel
theorem dX7_outputAt_18 : decode cX7_outputAt 18 = .ok (.dup, 1) := by decide +kernel
theorem dX7_outputAt_19 : decode cX7_outputAt 19 = .ok (.ldc_w 374, 3) := by decide +kernel
theorem dX7_outputAt_22 : decode cX7_outputAt 22 = .ok (.invokespecial 154, 3) := by decide +kernel
theorem dX7_outputAt_25 : decode cX7_outputAt 25 = .ok (.athrow, 1) := by decide +kernel
theorem dX7_outputAt_26 : decode cX7_outputAt 26 = .ok (.aload_n 0, 1) := by decide +kernel
theorem dX7_outputAt_27 : decode cX7_outputAt 27 = .ok (.getfield 46, 3) := by decide +kernel
theorem dX7_outputAt_30 : decode cX7_outputAt 30 = .ok (.iload_n 1, 1) := by decide +kernel
theorem dX7_outputAt_31 : decode cX7_outputAt 31 = .ok (.invokevirtual 376, 3) := by decide +kernel
theorem dX7_outputAt_34 : decode cX7_outputAt 34 = .ok (.ireturn, 1) := by decide +kernel
theorem dX7_undo_0 : decode cX7_undo 0 = .ok (.aload_n 0, 1) := by decide +kernel
theorem dX7_undo_1 : decode cX7_undo 1 = .ok (.getfield 25, 3) := by decide +kernel
theorem dX7_undo_4 : decode cX7_undo 4 = .ok (.getfield 380, 3) := by decide +kernel
theorem dX7_undo_7 : decode cX7_undo 7 = .ok (.ifCond .ne 14, 3) := by decide +kernel
theorem dX7_undo_10 : decode cX7_undo 10 = .ok (.new 76, 3) := by decide +kernel
theorem dX7_undo_13 : decode cX7_undo 13 = .ok (.dup, 1) := by decide +kernel
theorem dX7_undo_14 : decode cX7_undo 14 = .ok (.ldc_w 383, 3) := by decide +kernel
theorem dX7_undo_17 : decode cX7_undo 17 = .ok (.invokespecial 80, 3) := by decide +kernel
theorem dX7_undo_20 : decode cX7_undo 20 = .ok (.athrow, 1) := by decide +kernel
theorem dX7_undo_21 : decode cX7_undo 21 = .ok (.aload_n 0, 1) := by decide +kernel
theorem dX7_undo_22 : decode cX7_undo 22 = .ok (.getfield 25, 3) := by decide +kernel
theorem dX7_undo_25 : decode cX7_undo 25 = .ok (.aload_n 0, 1) := by decide +kernel
theorem dX7_undo_26 : decode cX7_undo 26 = .ok (.getfield 10, 3) := by decide +kernel
theorem dX7_undo_29 : decode cX7_undo 29 = .ok (.invokevirtual 385, 3) := by decide +kernel
theorem dX7_undo_32 : decode cX7_undo 32 = .ok (.aload_n 0, 1) := by decide +kernel
theorem dX7_undo_33 : decode cX7_undo 33 = .ok (.getfield 25, 3) := by decide +kernel
theorem dX7_undo_36 : decode cX7_undo 36 = .ok (.getfield 380, 3) := by decide +kernel
theorem dX7_undo_39 : decode cX7_undo 39 = .ok (.ireturn, 1) := by decide +kernel
theorem dX7_save_0 : decode cX7_save 0 = .ok (.aload_n 0, 1) := by decide +kernel
theorem dX7_save_1 : decode cX7_save 1 = .ok (.getfield 16, 3) := by decide +kernel
theorem dX7_save_4 : decode cX7_save 4 = .ok (.aload_n 0, 1) := by decide +kernel
theorem dX7_save_5 : decode cX7_save 5 = .ok (.getfield 10, 3) := by decide +kernel
theorem dX7_save_8 : decode cX7_save 8 = .ok (.invokevirtual 338, 3) := by decide +kernel
theorem dX7_save_11 : decode cX7_save 11 = .ok (.aload_n 0, 1) := by decide +kernel
theorem dX7_save_12 : decode cX7_save 12 = .ok (.iconst 1, 1) := by decide +kernel
theorem dX7_save_13 : decode cX7_save 13 = .ok (.putfield 50, 3) := by decide +kernel
theorem dX7_save_16 : decode cX7_save 16 = .ok (.return_, 1) := by decide +kernel
theorem dX7_restore_0 : decode cX7_restore 0 = .ok (.aload_n 0, 1) := by decide +kernel
theorem dX7_restore_1 : decode cX7_restore 1 = .ok (.getfield 50, 3) := by decide +kernel
theorem dX7_restore_4 : decode cX7_restore 4 = .ok (.ifCond .ne 14, 3) := by decide +kernel
theorem dX7_restore_7 : decode cX7_restore 7 = .ok (.new 76, 3) := by decide +kernel
theorem dX7_restore_10 : decode cX7_restore 10 = .ok (.dup, 1) := by decide +kernel
theorem dX7_restore_11 : decode cX7_restore 11 = .ok (.ldc_w 388, 3) := by decide +kernel
theorem dX7_restore_14 : decode cX7_restore 14 = .ok (.invokespecial 80, 3) := by decide +kernel
theorem dX7_restore_17 : decode cX7_restore 17 = .ok (.athrow, 1) := by decide +kernel
theorem dX7_restore_18 : decode cX7_restore 18 = .ok (.aload_n 0, 1) := by decide +kernel
theorem dX7_restore_19 : decode cX7_restore 19 = .ok (.getfield 10, 3) := by decide +kernel
theorem dX7_restore_22 : decode cX7_restore 22 = .ok (.aload_n 0, 1) := by decide +kernel
theorem dX7_restore_23 : decode cX7_restore 23 = .ok (.getfield 16, 3) := by decide +kernel
theorem dX7_restore_26 : decode cX7_restore 26 = .ok (.invokevirtual 338, 3) := by decide +kernel
theorem dX7_restore_29 : decode cX7_restore 29 = .ok (.aload_n 0, 1) := by decide +kernel
theorem dX7_restore_30 : decode cX7_restore 30 = .ok (.getfield 25, 3) := by decide +kernel
theorem dX7_restore_33 : decode cX7_restore 33 = .ok (.iconst 0, 1) := by decide +kernel
theorem dX7_restore_34 : decode cX7_restore 34 = .ok (.putfield 380, 3) := by decide +kernel
theorem dX7_restore_37 : decode cX7_restore 37 = .ok (.return_, 1) := by decide +kernel
theorem dX7_existing_0 : decode cX7_existing 0 = .ok (.aload_n 0, 1) := by decide +kernel
theorem dX7_existing_1 : decode cX7_existing 1 = .ok (.getfield 10, 3) := by decide +kernel
theorem dX7_existing_4 : decode cX7_existing 4 = .ok (.iload_n 1, 1) := by decide +kernel
theorem dX7_existing_5 : decode cX7_existing 5 = .ok (.invokevirtual 390, 3) := by decide +kernel
theorem dX7_existing_8 : decode cX7_existing 8 = .ok (.astore_n 2, 1) := by decide +kernel
theorem dX7_existing_9 : decode cX7_existing 9 = .ok (.aload_n 2, 1) := by decide +kernel
theorem dX7_existing_10 : decode cX7_existing 10 = .ok (.ifnonnull 14, 3) := by decide +kernel
theorem dX7_existing_13 : decode cX7_existing 13 = .ok (.new 355, 3) := by decide +kernel
theorem dX7_existing_16 : decode cX7_existing 16 = .ok (.dup, 1) := by decide +kernel
theorem dX7_existing_17 : decode cX7_existing 17 = .ok (.ldc_w 393, 3) := by decide +kernel
theorem dX7_existing_20 : decode cX7_existing 20 = .ok (.invokespecial 359, 3) := by decide +kernel
theorem dX7_existing_23 : decode cX7_existing 23 = .ok (.athrow, 1) := by decide +kernel
theorem dX7_existing_24 : decode cX7_existing 24 = .ok (.aload_n 2, 1) := by decide +kernel
theorem dX7_existing_25 : decode cX7_existing 25 = .ok (.areturn, 1) := by decide +kernel
theorem dX7_carryOut_0 : decode cX7_carryOut 0 = .ok (.iload_n 1, 1) := by decide +kernel
theorem dX7_carryOut_1 : decode cX7_carryOut 1 = .ok (.tableswitch 181 0 6 #[43, 79, 88, 95, 102, 122, 162], 43) := by decide +kernel
theorem dX7_carryOut_44 : decode cX7_carryOut 44 = .ok (.iload_n 2, 1) := by decide +kernel
theorem dX7_carryOut_45 : decode cX7_carryOut 45 = .ok (.iload_n 3, 1) := by decide +kernel
theorem dX7_carryOut_46 : decode cX7_carryOut 46 = .ok (.iload 4, 2) := by decide +kernel
theorem dX7_carryOut_48 : decode cX7_carryOut 48 = .ok (.invokestatic 61, 3) := by decide +kernel
theorem dX7_carryOut_51 : decode cX7_carryOut 51 = .ok (.ifCond .eq 13, 3) := by decide +kernel
theorem dX7_carryOut_54 : decode cX7_carryOut 54 = .ok (.aload_n 0, 1) := by decide +kernel
theorem dX7_carryOut_55 : decode cX7_carryOut 55 = .ok (.getfield 10, 3) := by decide +kernel
theorem dX7_carryOut_58 : decode cX7_carryOut 58 = .ok (.invokevirtual 72, 3) := by decide +kernel
theorem dX7_carryOut_61 : decode cX7_carryOut 61 = .ok (.ifCond .ne 5, 3) := by decide +kernel
theorem dX7_carryOut_64 : decode cX7_carryOut 64 = .ok (.iconst 0, 1) := by decide +kernel
theorem dX7_carryOut_65 : decode cX7_carryOut 65 = .ok (.ireturn, 1) := by decide +kernel
theorem dX7_carryOut_66 : decode cX7_carryOut 66 = .ok (.aload_n 0, 1) := by decide +kernel
theorem dX7_carryOut_67 : decode cX7_carryOut 67 = .ok (.getfield 10, 3) := by decide +kernel
theorem dX7_carryOut_70 : decode cX7_carryOut 70 = .ok (.iload_n 2, 1) := by decide +kernel
theorem dX7_carryOut_71 : decode cX7_carryOut 71 = .ok (.iload_n 3, 1) := by decide +kernel
theorem dX7_carryOut_72 : decode cX7_carryOut 72 = .ok (.iload 4, 2) := by decide +kernel
theorem dX7_carryOut_74 : decode cX7_carryOut 74 = .ok (.invokevirtual 85, 3) := by decide +kernel
theorem dX7_carryOut_77 : decode cX7_carryOut 77 = .ok (.pop, 1) := by decide +kernel
theorem dX7_carryOut_78 : decode cX7_carryOut 78 = .ok (.iconst 1, 1) := by decide +kernel
theorem dX7_carryOut_79 : decode cX7_carryOut 79 = .ok (.ireturn, 1) := by decide +kernel
theorem dX7_carryOut_80 : decode cX7_carryOut 80 = .ok (.aload_n 0, 1) := by decide +kernel
theorem dX7_carryOut_81 : decode cX7_carryOut 81 = .ok (.getfield 10, 3) := by decide +kernel
theorem dX7_carryOut_84 : decode cX7_carryOut 84 = .ok (.iload_n 2, 1) := by decide +kernel
theorem dX7_carryOut_85 : decode cX7_carryOut 85 = .ok (.invokevirtual 98, 3) := by decide +kernel
theorem dX7_carryOut_88 : decode cX7_carryOut 88 = .ok (.ireturn, 1) := by decide +kernel
theorem dX7_carryOut_89 : decode cX7_carryOut 89 = .ok (.aload_n 0, 1) := by decide +kernel
theorem dX7_carryOut_90 : decode cX7_carryOut 90 = .ok (.iload_n 2, 1) := by decide +kernel
theorem dX7_carryOut_91 : decode cX7_carryOut 91 = .ok (.iload_n 3, 1) := by decide +kernel
theorem dX7_carryOut_92 : decode cX7_carryOut 92 = .ok (.invokevirtual 395, 3) := by decide +kernel
theorem dX7_carryOut_95 : decode cX7_carryOut 95 = .ok (.ireturn, 1) := by decide +kernel
theorem dX7_carryOut_96 : decode cX7_carryOut 96 = .ok (.aload_n 0, 1) := by decide +kernel
theorem dX7_carryOut_97 : decode cX7_carryOut 97 = .ok (.iload_n 2, 1) := by decide +kernel
theorem dX7_carryOut_98 : decode cX7_carryOut 98 = .ok (.iload_n 3, 1) := by decide +kernel
theorem dX7_carryOut_99 : decode cX7_carryOut 99 = .ok (.invokevirtual 398, 3) := by decide +kernel
theorem dX7_carryOut_102 : decode cX7_carryOut 102 = .ok (.ireturn, 1) := by decide +kernel
theorem dX7_carryOut_103 : decode cX7_carryOut 103 = .ok (.iload_n 2, 1) := by decide +kernel
theorem dX7_carryOut_104 : decode cX7_carryOut 104 = .ok (.invokestatic 138, 3) := by decide +kernel
theorem dX7_carryOut_107 : decode cX7_carryOut 107 = .ok (.ifCond .ne 5, 3) := by decide +kernel
theorem dX7_carryOut_110 : decode cX7_carryOut 110 = .ok (.iconst 0, 1) := by decide +kernel
theorem dX7_carryOut_111 : decode cX7_carryOut 111 = .ok (.ireturn, 1) := by decide +kernel
theorem dX7_carryOut_112 : decode cX7_carryOut 112 = .ok (.aload_n 0, 1) := by decide +kernel
theorem dX7_carryOut_113 : decode cX7_carryOut 113 = .ok (.getfield 10, 3) := by decide +kernel
theorem dX7_carryOut_116 : decode cX7_carryOut 116 = .ok (.iload_n 2, 1) := by decide +kernel
theorem dX7_carryOut_117 : decode cX7_carryOut 117 = .ok (.invokevirtual 143, 3) := by decide +kernel
theorem dX7_carryOut_120 : decode cX7_carryOut 120 = .ok (.pop, 1) := by decide +kernel
theorem dX7_carryOut_121 : decode cX7_carryOut 121 = .ok (.iconst 1, 1) := by decide +kernel
theorem dX7_carryOut_122 : decode cX7_carryOut 122 = .ok (.ireturn, 1) := by decide +kernel
theorem dX7_carryOut_123 : decode cX7_carryOut 123 = .ok (.iload_n 2, 1) := by decide +kernel
theorem dX7_carryOut_124 : decode cX7_carryOut 124 = .ok (.invokestatic 147, 3) := by decide +kernel
theorem dX7_carryOut_127 : decode cX7_carryOut 127 = .ok (.ifCond .eq 22, 3) := by decide +kernel
theorem dX7_carryOut_130 : decode cX7_carryOut 130 = .ok (.iload_n 3, 1) := by decide +kernel
theorem dX7_carryOut_131 : decode cX7_carryOut 131 = .ok (.invokestatic 155, 3) := by decide +kernel
theorem dX7_carryOut_134 : decode cX7_carryOut 134 = .ok (.ifCond .eq 15, 3) := by decide +kernel
theorem dX7_carryOut_137 : decode cX7_carryOut 137 = .ok (.aload_n 0, 1) := by decide +kernel
theorem dX7_carryOut_138 : decode cX7_carryOut 138 = .ok (.getfield 10, 3) := by decide +kernel
theorem dX7_carryOut_141 : decode cX7_carryOut 141 = .ok (.iload_n 2, 1) := by decide +kernel
theorem dX7_carryOut_142 : decode cX7_carryOut 142 = .ok (.iload_n 3, 1) := by decide +kernel
theorem dX7_carryOut_143 : decode cX7_carryOut 143 = .ok (.invokevirtual 160, 3) := by decide +kernel
theorem dX7_carryOut_146 : decode cX7_carryOut 146 = .ok (.ifCond .ne 5, 3) := by decide +kernel
theorem dX7_carryOut_149 : decode cX7_carryOut 149 = .ok (.iconst 0, 1) := by decide +kernel
theorem dX7_carryOut_150 : decode cX7_carryOut 150 = .ok (.ireturn, 1) := by decide +kernel
theorem dX7_carryOut_151 : decode cX7_carryOut 151 = .ok (.aload_n 0, 1) := by decide +kernel
theorem dX7_carryOut_152 : decode cX7_carryOut 152 = .ok (.getfield 10, 3) := by decide +kernel
theorem dX7_carryOut_155 : decode cX7_carryOut 155 = .ok (.iload_n 2, 1) := by decide +kernel
theorem dX7_carryOut_156 : decode cX7_carryOut 156 = .ok (.iload_n 3, 1) := by decide +kernel
theorem dX7_carryOut_157 : decode cX7_carryOut 157 = .ok (.invokevirtual 164, 3) := by decide +kernel
theorem dX7_carryOut_160 : decode cX7_carryOut 160 = .ok (.pop, 1) := by decide +kernel
theorem dX7_carryOut_161 : decode cX7_carryOut 161 = .ok (.iconst 1, 1) := by decide +kernel
theorem dX7_carryOut_162 : decode cX7_carryOut 162 = .ok (.ireturn, 1) := by decide +kernel
theorem dX7_carryOut_163 : decode cX7_carryOut 163 = .ok (.iload_n 2, 1) := by decide +kernel
theorem dX7_carryOut_164 : decode cX7_carryOut 164 = .ok (.invokestatic 168, 3) := by decide +kernel
theorem dX7_carryOut_167 : decode cX7_carryOut 167 = .ok (.ifCond .ne 5, 3) := by decide +kernel
theorem dX7_carryOut_170 : decode cX7_carryOut 170 = .ok (.iconst 0, 1) := by decide +kernel
theorem dX7_carryOut_171 : decode cX7_carryOut 171 = .ok (.ireturn, 1) := by decide +kernel
theorem dX7_carryOut_172 : decode cX7_carryOut 172 = .ok (.aload_n 0, 1) := by decide +kernel
theorem dX7_carryOut_173 : decode cX7_carryOut 173 = .ok (.getfield 10, 3) := by decide +kernel
theorem dX7_carryOut_176 : decode cX7_carryOut 176 = .ok (.iload_n 2, 1) := by decide +kernel
theorem dX7_carryOut_177 : decode cX7_carryOut 177 = .ok (.putfield 173, 3) := by decide +kernel
theorem dX7_carryOut_180 : decode cX7_carryOut 180 = .ok (.iconst 1, 1) := by decide +kernel
theorem dX7_carryOut_181 : decode cX7_carryOut 181 = .ok (.ireturn, 1) := by decide +kernel
theorem dX7_carryOut_182 : decode cX7_carryOut 182 = .ok (.iconst 0, 1) := by decide +kernel
theorem dX7_carryOut_183 : decode cX7_carryOut 183 = .ok (.ireturn, 1) := by decide +kernel
theorem dX7_turn_0 : decode cX7_turn 0 = .ok (.aload_n 0, 1) := by decide +kernel
theorem dX7_turn_1 : decode cX7_turn 1 = .ok (.getfield 10, 3) := by decide +kernel
theorem dX7_turn_4 : decode cX7_turn 4 = .ok (.iload_n 1, 1) := by decide +kernel
theorem dX7_turn_5 : decode cX7_turn 5 = .ok (.invokevirtual 390, 3) := by decide +kernel
theorem dX7_turn_8 : decode cX7_turn 8 = .ok (.astore_n 3, 1) := by decide +kernel
theorem dX7_turn_9 : decode cX7_turn 9 = .ok (.aload_n 3, 1) := by decide +kernel
theorem dX7_turn_10 : decode cX7_turn 10 = .ok (.ifnull 10, 3) := by decide +kernel
theorem dX7_turn_13 : decode cX7_turn 13 = .ok (.iload_n 2, 1) := by decide +kernel
theorem dX7_turn_14 : decode cX7_turn 14 = .ok (.invokestatic 105, 3) := by decide +kernel
theorem dX7_turn_17 : decode cX7_turn 17 = .ok (.ifCond .ne 5, 3) := by decide +kernel
theorem dX7_turn_20 : decode cX7_turn 20 = .ok (.iconst 0, 1) := by decide +kernel
theorem dX7_turn_21 : decode cX7_turn 21 = .ok (.ireturn, 1) := by decide +kernel
theorem dX7_turn_22 : decode cX7_turn 22 = .ok (.aload_n 3, 1) := by decide +kernel
theorem dX7_turn_23 : decode cX7_turn 23 = .ok (.iload_n 2, 1) := by decide +kernel
theorem dX7_turn_24 : decode cX7_turn 24 = .ok (.putfield 110, 3) := by decide +kernel
theorem dX7_turn_27 : decode cX7_turn 27 = .ok (.iconst 1, 1) := by decide +kernel
theorem dX7_turn_28 : decode cX7_turn 28 = .ok (.ireturn, 1) := by decide +kernel
theorem dX7_shine_0 : decode cX7_shine 0 = .ok (.aload_n 0, 1) := by decide +kernel
theorem dX7_shine_1 : decode cX7_shine 1 = .ok (.getfield 10, 3) := by decide +kernel
theorem dX7_shine_4 : decode cX7_shine 4 = .ok (.iload_n 1, 1) := by decide +kernel
theorem dX7_shine_5 : decode cX7_shine 5 = .ok (.invokevirtual 390, 3) := by decide +kernel
theorem dX7_shine_8 : decode cX7_shine 8 = .ok (.astore_n 3, 1) := by decide +kernel
theorem dX7_shine_9 : decode cX7_shine 9 = .ok (.aload_n 3, 1) := by decide +kernel
theorem dX7_shine_10 : decode cX7_shine 10 = .ok (.ifnull 29, 3) := by decide +kernel
theorem dX7_shine_13 : decode cX7_shine 13 = .ok (.iload_n 2, 1) := by decide +kernel
theorem dX7_shine_14 : decode cX7_shine 14 = .ok (.invokestatic 113, 3) := by decide +kernel
theorem dX7_shine_17 : decode cX7_shine 17 = .ok (.ifCond .eq 22, 3) := by decide +kernel
theorem dX7_shine_20 : decode cX7_shine 20 = .ok (.aload_n 3, 1) := by decide +kernel
theorem dX7_shine_21 : decode cX7_shine 21 = .ok (.iload_n 2, 1) := by decide +kernel
theorem dX7_shine_22 : decode cX7_shine 22 = .ok (.invokevirtual 118, 3) := by decide +kernel
theorem dX7_shine_25 : decode cX7_shine 25 = .ok (.ifCond .eq 14, 3) := by decide +kernel
theorem dX7_shine_28 : decode cX7_shine 28 = .ok (.aload_n 0, 1) := by decide +kernel
theorem dX7_shine_29 : decode cX7_shine 29 = .ok (.getfield 10, 3) := by decide +kernel
theorem dX7_shine_32 : decode cX7_shine 32 = .ok (.iload_n 2, 1) := by decide +kernel
theorem dX7_shine_33 : decode cX7_shine 33 = .ok (.invokevirtual 123, 3) := by decide +kernel
theorem dX7_shine_36 : decode cX7_shine 36 = .ok (.ifCond .ne 5, 3) := by decide +kernel
theorem dX7_shine_39 : decode cX7_shine 39 = .ok (.iconst 0, 1) := by decide +kernel
theorem dX7_shine_40 : decode cX7_shine 40 = .ok (.ireturn, 1) := by decide +kernel
theorem dX7_shine_41 : decode cX7_shine 41 = .ok (.aload_n 0, 1) := by decide +kernel
theorem dX7_shine_42 : decode cX7_shine 42 = .ok (.getfield 10, 3) := by decide +kernel
theorem dX7_shine_45 : decode cX7_shine 45 = .ok (.aload_n 3, 1) := by decide +kernel
theorem dX7_shine_46 : decode cX7_shine 46 = .ok (.iload_n 2, 1) := by decide +kernel
theorem dX7_shine_47 : decode cX7_shine 47 = .ok (.invokevirtual 131, 3) := by decide +kernel
theorem dX7_shine_50 : decode cX7_shine 50 = .ok (.iconst 1, 1) := by decide +kernel
theorem dX7_shine_51 : decode cX7_shine 51 = .ok (.ireturn, 1) := by decide +kernel
theorem dX7_isNewComet_0 : decode cX7_isNewComet 0 = .ok (.iload_n 0, 1) := by decide +kernel
theorem dX7_isNewComet_1 : decode cX7_isNewComet 1 = .ok (.invokestatic 105, 3) := by decide +kernel
theorem dX7_isNewComet_4 : decode cX7_isNewComet 4 = .ok (.ifCond .eq 25, 3) := by decide +kernel
theorem dX7_isNewComet_7 : decode cX7_isNewComet 7 = .ok (.iload_n 1, 1) := by decide +kernel
theorem dX7_isNewComet_8 : decode cX7_isNewComet 8 = .ok (.invokestatic 138, 3) := by decide +kernel
theorem dX7_isNewComet_11 : decode cX7_isNewComet 11 = .ok (.ifCond .eq 18, 3) := by decide +kernel
theorem dX7_isNewComet_14 : decode cX7_isNewComet 14 = .ok (.iload_n 2, 1) := by decide +kernel
theorem dX7_isNewComet_15 : decode cX7_isNewComet 15 = .ok (.iconst 1, 1) := by decide +kernel
theorem dX7_isNewComet_16 : decode cX7_isNewComet 16 = .ok (.if_icmp .lt 13, 3) := by decide +kernel
theorem dX7_isNewComet_19 : decode cX7_isNewComet 19 = .ok (.iload_n 2, 1) := by decide +kernel
theorem dX7_isNewComet_20 : decode cX7_isNewComet 20 = .ok (.bipush 20, 2) := by decide +kernel
theorem dX7_isNewComet_22 : decode cX7_isNewComet 22 = .ok (.if_icmp .gt 7, 3) := by decide +kernel
theorem dX7_isNewComet_25 : decode cX7_isNewComet 25 = .ok (.iconst 1, 1) := by decide +kernel
theorem dX7_isNewComet_26 : decode cX7_isNewComet 26 = .ok (.goto 4, 3) := by decide +kernel
theorem dX7_isNewComet_29 : decode cX7_isNewComet 29 = .ok (.iconst 0, 1) := by decide +kernel
theorem dX7_isNewComet_30 : decode cX7_isNewComet 30 = .ok (.ireturn, 1) := by decide +kernel
theorem dX7_isPeriod_0 : decode cX7_isPeriod 0 = .ok (.iload_n 0, 1) := by decide +kernel
theorem dX7_isPeriod_1 : decode cX7_isPeriod 1 = .ok (.iconst 2, 1) := by decide +kernel
theorem dX7_isPeriod_2 : decode cX7_isPeriod 2 = .ok (.if_icmp .lt 13, 3) := by decide +kernel
theorem dX7_isPeriod_5 : decode cX7_isPeriod 5 = .ok (.iload_n 0, 1) := by decide +kernel
theorem dX7_isPeriod_6 : decode cX7_isPeriod 6 = .ok (.bipush 60, 2) := by decide +kernel
theorem dX7_isPeriod_8 : decode cX7_isPeriod 8 = .ok (.if_icmp .gt 7, 3) := by decide +kernel
theorem dX7_isPeriod_11 : decode cX7_isPeriod 11 = .ok (.iconst 1, 1) := by decide +kernel
theorem dX7_isPeriod_12 : decode cX7_isPeriod 12 = .ok (.goto 4, 3) := by decide +kernel
theorem dX7_isPeriod_15 : decode cX7_isPeriod 15 = .ok (.iconst 0, 1) := by decide +kernel
theorem dX7_isPeriod_16 : decode cX7_isPeriod 16 = .ok (.ireturn, 1) := by decide +kernel
theorem dX7_isAmount_0 : decode cX7_isAmount 0 = .ok (.iload_n 0, 1) := by decide +kernel
theorem dX7_isAmount_1 : decode cX7_isAmount 1 = .ok (.iconst 1, 1) := by decide +kernel
theorem dX7_isAmount_2 : decode cX7_isAmount 2 = .ok (.if_icmp .lt 13, 3) := by decide +kernel
theorem dX7_isAmount_5 : decode cX7_isAmount 5 = .ok (.iload_n 0, 1) := by decide +kernel
theorem dX7_isAmount_6 : decode cX7_isAmount 6 = .ok (.bipush 20, 2) := by decide +kernel
theorem dX7_isAmount_8 : decode cX7_isAmount 8 = .ok (.if_icmp .ge 7, 3) := by decide +kernel
theorem dX7_isAmount_11 : decode cX7_isAmount 11 = .ok (.iconst 1, 1) := by decide +kernel
theorem dX7_isAmount_12 : decode cX7_isAmount 12 = .ok (.goto 4, 3) := by decide +kernel
theorem dX7_isAmount_15 : decode cX7_isAmount 15 = .ok (.iconst 0, 1) := by decide +kernel
theorem dX7_isAmount_16 : decode cX7_isAmount 16 = .ok (.ireturn, 1) := by decide +kernel
theorem dX7_isSpanOfDays_0 : decode cX7_isSpanOfDays 0 = .ok (.iload_n 0, 1) := by decide +kernel
theorem dX7_isSpanOfDays_1 : decode cX7_isSpanOfDays 1 = .ok (.iconst 1, 1) := by decide +kernel
theorem dX7_isSpanOfDays_2 : decode cX7_isSpanOfDays 2 = .ok (.if_icmp .lt 13, 3) := by decide +kernel
theorem dX7_isSpanOfDays_5 : decode cX7_isSpanOfDays 5 = .ok (.iload_n 0, 1) := by decide +kernel
theorem dX7_isSpanOfDays_6 : decode cX7_isSpanOfDays 6 = .ok (.bipush 60, 2) := by decide +kernel
theorem dX7_isSpanOfDays_8 : decode cX7_isSpanOfDays 8 = .ok (.if_icmp .gt 7, 3) := by decide +kernel
theorem dX7_isSpanOfDays_11 : decode cX7_isSpanOfDays 11 = .ok (.iconst 1, 1) := by decide +kernel
theorem dX7_isSpanOfDays_12 : decode cX7_isSpanOfDays 12 = .ok (.goto 4, 3) := by decide +kernel
theorem dX7_isSpanOfDays_15 : decode cX7_isSpanOfDays 15 = .ok (.iconst 0, 1) := by decide +kernel
theorem dX7_isSpanOfDays_16 : decode cX7_isSpanOfDays 16 = .ok (.ireturn, 1) := by decide +kernel
theorem dX7_isSpanToLookAt_0 : decode cX7_isSpanToLookAt 0 = .ok (.iload_n 0, 1) := by decide +kernel
theorem dX7_isSpanToLookAt_1 : decode cX7_isSpanToLookAt 1 = .ok (.ifCond .lt 13, 3) := by decide +kernel
theorem dX7_isSpanToLookAt_4 : decode cX7_isSpanToLookAt 4 = .ok (.iload_n 0, 1) := by decide +kernel
theorem dX7_isSpanToLookAt_5 : decode cX7_isSpanToLookAt 5 = .ok (.bipush 60, 2) := by decide +kernel
theorem dX7_isSpanToLookAt_7 : decode cX7_isSpanToLookAt 7 = .ok (.if_icmp .gt 7, 3) := by decide +kernel
theorem dX7_isSpanToLookAt_10 : decode cX7_isSpanToLookAt 10 = .ok (.iconst 1, 1) := by decide +kernel
theorem dX7_isSpanToLookAt_11 : decode cX7_isSpanToLookAt 11 = .ok (.goto 4, 3) := by decide +kernel
theorem dX7_isSpanToLookAt_14 : decode cX7_isSpanToLookAt 14 = .ok (.iconst 0, 1) := by decide +kernel
theorem dX7_isSpanToLookAt_15 : decode cX7_isSpanToLookAt 15 = .ok (.ireturn, 1) := by decide +kernel
theorem dX7_isPlace_0 : decode cX7_isPlace 0 = .ok (.iload_n 0, 1) := by decide +kernel
theorem dX7_isPlace_1 : decode cX7_isPlace 1 = .ok (.ifCond .lt 13, 3) := by decide +kernel
theorem dX7_isPlace_4 : decode cX7_isPlace 4 = .ok (.iload_n 0, 1) := by decide +kernel
theorem dX7_isPlace_5 : decode cX7_isPlace 5 = .ok (.bipush 12, 2) := by decide +kernel
theorem dX7_isPlace_7 : decode cX7_isPlace 7 = .ok (.if_icmp .ge 7, 3) := by decide +kernel
theorem dX7_isPlace_10 : decode cX7_isPlace 10 = .ok (.iconst 1, 1) := by decide +kernel
theorem dX7_isPlace_11 : decode cX7_isPlace 11 = .ok (.goto 4, 3) := by decide +kernel
theorem dX7_isPlace_14 : decode cX7_isPlace 14 = .ok (.iconst 0, 1) := by decide +kernel
theorem dX7_isPlace_15 : decode cX7_isPlace 15 = .ok (.ireturn, 1) := by decide +kernel
theorem dX7_isLengthOfArc_0 : decode cX7_isLengthOfArc 0 = .ok (.iload_n 0, 1) := by decide +kernel
theorem dX7_isLengthOfArc_1 : decode cX7_isLengthOfArc 1 = .ok (.iconst 1, 1) := by decide +kernel
theorem dX7_isLengthOfArc_2 : decode cX7_isLengthOfArc 2 = .ok (.if_icmp .lt 13, 3) := by decide +kernel
theorem dX7_isLengthOfArc_5 : decode cX7_isLengthOfArc 5 = .ok (.iload_n 0, 1) := by decide +kernel
theorem dX7_isLengthOfArc_6 : decode cX7_isLengthOfArc 6 = .ok (.bipush 12, 2) := by decide +kernel
theorem dX7_isLengthOfArc_8 : decode cX7_isLengthOfArc 8 = .ok (.if_icmp .gt 7, 3) := by decide +kernel
theorem dX7_isLengthOfArc_11 : decode cX7_isLengthOfArc 11 = .ok (.iconst 1, 1) := by decide +kernel
theorem dX7_isLengthOfArc_12 : decode cX7_isLengthOfArc 12 = .ok (.goto 4, 3) := by decide +kernel
theorem dX7_isLengthOfArc_15 : decode cX7_isLengthOfArc 15 = .ok (.iconst 0, 1) := by decide +kernel
theorem dX7_isLengthOfArc_16 : decode cX7_isLengthOfArc 16 = .ok (.ireturn, 1) := by decide +kernel
theorem dX7_isRate_0 : decode cX7_isRate 0 = .ok (.iload_n 0, 1) := by decide +kernel
theorem dX7_isRate_1 : decode cX7_isRate 1 = .ok (.ifCond .lt 13, 3) := by decide +kernel
theorem dX7_isRate_4 : decode cX7_isRate 4 = .ok (.iload_n 0, 1) := by decide +kernel
theorem dX7_isRate_5 : decode cX7_isRate 5 = .ok (.bipush 9, 2) := by decide +kernel
theorem dX7_isRate_7 : decode cX7_isRate 7 = .ok (.if_icmp .gt 7, 3) := by decide +kernel
theorem dX7_isRate_10 : decode cX7_isRate 10 = .ok (.iconst 1, 1) := by decide +kernel
theorem dX7_isRate_11 : decode cX7_isRate 11 = .ok (.goto 4, 3) := by decide +kernel
theorem dX7_isRate_14 : decode cX7_isRate 14 = .ok (.iconst 0, 1) := by decide +kernel
theorem dX7_isRate_15 : decode cX7_isRate 15 = .ok (.ireturn, 1) := by decide +kernel
theorem dX7_tailAt_0 : decode cX7_tailAt 0 = .ok (.iconst 1, 1) := by decide +kernel
theorem dX7_tailAt_1 : decode cX7_tailAt 1 = .ok (.iload_n 0, 1) := by decide +kernel
theorem dX7_tailAt_2 : decode cX7_tailAt 2 = .ok (.iconst 5, 1) := by decide +kernel
theorem dX7_tailAt_3 : decode cX7_tailAt 3 = .ok (.idiv, 1) := by decide +kernel
theorem dX7_tailAt_4 : decode cX7_tailAt 4 = .ok (.iadd, 1) := by decide +kernel
theorem dX7_tailAt_5 : decode cX7_tailAt 5 = .ok (.ireturn, 1) := by decide +kernel
theorem dX8_init_0 : decode cX8_init 0 = .ok (.aload_n 0, 1) := by decide +kernel
theorem dX8_init_1 : decode cX8_init 1 = .ok (.invokespecial 1, 3) := by decide +kernel
theorem dX8_init_4 : decode cX8_init 4 = .ok (.aload_n 0, 1) := by decide +kernel
theorem dX8_init_5 : decode cX8_init 5 = .ok (.sipush 539, 3) := by decide +kernel
theorem dX8_init_8 : decode cX8_init 8 = .ok (.newarray .int, 2) := by decide +kernel
theorem dX8_init_10 : decode cX8_init 10 = .ok (.putfield 9, 3) := by decide +kernel
theorem dX8_init_13 : decode cX8_init 13 = .ok (.aload_n 0, 1) := by decide +kernel
theorem dX8_init_14 : decode cX8_init 14 = .ok (.bipush 62, 2) := by decide +kernel
theorem dX8_init_16 : decode cX8_init 16 = .ok (.newarray .int, 2) := by decide +kernel
theorem dX8_init_18 : decode cX8_init 18 = .ok (.putfield 13, 3) := by decide +kernel
theorem dX8_init_21 : decode cX8_init 21 = .ok (.aload_n 0, 1) := by decide +kernel
theorem dX8_init_22 : decode cX8_init 22 = .ok (.bipush 62, 2) := by decide +kernel
theorem dX8_init_24 : decode cX8_init 24 = .ok (.newarray .int, 2) := by decide +kernel
theorem dX8_init_26 : decode cX8_init 26 = .ok (.putfield 16, 3) := by decide +kernel
theorem dX8_init_29 : decode cX8_init 29 = .ok (.aload_n 0, 1) := by decide +kernel
theorem dX8_init_30 : decode cX8_init 30 = .ok (.bipush 60, 2) := by decide +kernel
theorem dX8_init_32 : decode cX8_init 32 = .ok (.newarray .char, 2) := by decide +kernel
theorem dX8_init_34 : decode cX8_init 34 = .ok (.putfield 19, 3) := by decide +kernel
theorem dX8_init_37 : decode cX8_init 37 = .ok (.aload_n 0, 1) := by decide +kernel
theorem dX8_init_38 : decode cX8_init 38 = .ok (.iconst (-1), 1) := by decide +kernel
theorem dX8_init_39 : decode cX8_init 39 = .ok (.putfield 23, 3) := by decide +kernel
theorem dX8_init_42 : decode cX8_init 42 = .ok (.aload_n 0, 1) := by decide +kernel
theorem dX8_init_43 : decode cX8_init 43 = .ok (.iconst (-1), 1) := by decide +kernel
theorem dX8_init_44 : decode cX8_init 44 = .ok (.putfield 27, 3) := by decide +kernel
theorem dX8_init_47 : decode cX8_init 47 = .ok (.aload_n 0, 1) := by decide +kernel
theorem dX8_init_48 : decode cX8_init 48 = .ok (.sipush 244, 3) := by decide +kernel
theorem dX8_init_51 : decode cX8_init 51 = .ok (.newarray .int, 2) := by decide +kernel
theorem dX8_init_53 : decode cX8_init 53 = .ok (.putfield 30, 3) := by decide +kernel
theorem dX8_init_56 : decode cX8_init 56 = .ok (.aload_n 0, 1) := by decide +kernel
theorem dX8_init_57 : decode cX8_init 57 = .ok (.sipush 160, 3) := by decide +kernel
theorem dX8_init_60 : decode cX8_init 60 = .ok (.newarray .char, 2) := by decide +kernel
theorem dX8_init_62 : decode cX8_init 62 = .ok (.putfield 33, 3) := by decide +kernel
theorem dX8_init_65 : decode cX8_init 65 = .ok (.aload_n 0, 1) := by decide +kernel
theorem dX8_init_66 : decode cX8_init 66 = .ok (.getfield 9, 3) := by decide +kernel
theorem dX8_init_69 : decode cX8_init 69 = .ok (.iconst 3, 1) := by decide +kernel
theorem dX8_init_70 : decode cX8_init 70 = .ok (.bipush 20, 2) := by decide +kernel
theorem dX8_init_72 : decode cX8_init 72 = .ok (.iastore, 1) := by decide +kernel
theorem dX8_init_73 : decode cX8_init 73 = .ok (.aload_n 0, 1) := by decide +kernel
theorem dX8_init_74 : decode cX8_init 74 = .ok (.getfield 9, 3) := by decide +kernel
theorem dX8_init_77 : decode cX8_init 77 = .ok (.iconst 4, 1) := by decide +kernel
theorem dX8_init_78 : decode cX8_init 78 = .ok (.iconst 2, 1) := by decide +kernel
theorem dX8_init_79 : decode cX8_init 79 = .ok (.iastore, 1) := by decide +kernel
theorem dX8_init_80 : decode cX8_init 80 = .ok (.return_, 1) := by decide +kernel
theorem dX8_thrown_0 : decode cX8_thrown 0 = .ok (.aload_n 0, 1) := by decide +kernel
theorem dX8_thrown_1 : decode cX8_thrown 1 = .ok (.getfield 36, 3) := by decide +kernel
theorem dX8_thrown_4 : decode cX8_thrown 4 = .ok (.ireturn, 1) := by decide +kernel
theorem dX8_in_0 : decode cX8_in 0 = .ok (.iload_n 0, 1) := by decide +kernel
theorem dX8_in_1 : decode cX8_in 1 = .ok (.iload_n 1, 1) := by decide +kernel
theorem dX8_in_2 : decode cX8_in 2 = .ok (.if_icmp .lt 12, 3) := by decide +kernel
theorem dX8_in_5 : decode cX8_in 5 = .ok (.iload_n 0, 1) := by decide +kernel
theorem dX8_in_6 : decode cX8_in 6 = .ok (.iload_n 2, 1) := by decide +kernel
theorem dX8_in_7 : decode cX8_in 7 = .ok (.if_icmp .gt 7, 3) := by decide +kernel
theorem dX8_in_10 : decode cX8_in 10 = .ok (.iconst 1, 1) := by decide +kernel
theorem dX8_in_11 : decode cX8_in 11 = .ok (.goto 4, 3) := by decide +kernel
theorem dX8_in_14 : decode cX8_in 14 = .ok (.iconst 0, 1) := by decide +kernel
theorem dX8_in_15 : decode cX8_in 15 = .ok (.ireturn, 1) := by decide +kernel
theorem dX8_copies_0 : decode cX8_copies 0 = .ok (.iconst 0, 1) := by decide +kernel
theorem dX8_copies_1 : decode cX8_copies 1 = .ok (.istore_n 3, 1) := by decide +kernel
theorem dX8_copies_2 : decode cX8_copies 2 = .ok (.iload_n 3, 1) := by decide +kernel
theorem dX8_copies_3 : decode cX8_copies 3 = .ok (.bipush 49, 2) := by decide +kernel
theorem dX8_copies_5 : decode cX8_copies 5 = .ok (.if_icmp .ge 31, 3) := by decide +kernel
theorem dX8_copies_8 : decode cX8_copies 8 = .ok (.aload_n 0, 1) := by decide +kernel
theorem dX8_copies_9 : decode cX8_copies 9 = .ok (.getfield 9, 3) := by decide +kernel
theorem dX8_copies_12 : decode cX8_copies 12 = .ok (.bipush 49, 2) := by decide +kernel
theorem dX8_copies_14 : decode cX8_copies 14 = .ok (.iload_n 2, 1) := by decide +kernel
theorem dX8_copies_15 : decode cX8_copies 15 = .ok (.imul, 1) := by decide +kernel
theorem dX8_copies_16 : decode cX8_copies 16 = .ok (.iload_n 3, 1) := by decide +kernel
theorem dX8_copies_17 : decode cX8_copies 17 = .ok (.iadd, 1) := by decide +kernel
theorem dX8_copies_18 : decode cX8_copies 18 = .ok (.aload_n 0, 1) := by decide +kernel
theorem dX8_copies_19 : decode cX8_copies 19 = .ok (.getfield 9, 3) := by decide +kernel
theorem dX8_copies_22 : decode cX8_copies 22 = .ok (.bipush 49, 2) := by decide +kernel
theorem dX8_copies_24 : decode cX8_copies 24 = .ok (.iload_n 1, 1) := by decide +kernel
theorem dX8_copies_25 : decode cX8_copies 25 = .ok (.imul, 1) := by decide +kernel
theorem dX8_copies_26 : decode cX8_copies 26 = .ok (.iload_n 3, 1) := by decide +kernel
theorem dX8_copies_27 : decode cX8_copies 27 = .ok (.iadd, 1) := by decide +kernel
theorem dX8_copies_28 : decode cX8_copies 28 = .ok (.iaload, 1) := by decide +kernel
theorem dX8_copies_29 : decode cX8_copies 29 = .ok (.iastore, 1) := by decide +kernel
theorem dX8_copies_30 : decode cX8_copies 30 = .ok (.iinc 3 1, 3) := by decide +kernel
theorem dX8_copies_33 : decode cX8_copies 33 = .ok (.goto (-31), 3) := by decide +kernel
theorem dX8_copies_36 : decode cX8_copies 36 = .ok (.return_, 1) := by decide +kernel
theorem dX8_begins_0 : decode cX8_begins 0 = .ok (.aload_n 0, 1) := by decide +kernel
theorem dX8_begins_1 : decode cX8_begins 1 = .ok (.iconst 0, 1) := by decide +kernel
theorem dX8_begins_2 : decode cX8_begins 2 = .ok (.bipush 10, 2) := by decide +kernel
theorem dX8_begins_4 : decode cX8_begins 4 = .ok (.invokevirtual 39, 3) := by decide +kernel
theorem dX8_begins_7 : decode cX8_begins 7 = .ok (.return_, 1) := by decide +kernel
theorem dX8_ends_0 : decode cX8_ends 0 = .ok (.aload_n 0, 1) := by decide +kernel
theorem dX8_ends_1 : decode cX8_ends 1 = .ok (.iload_n 1, 1) := by decide +kernel
theorem dX8_ends_2 : decode cX8_ends 2 = .ok (.iconst 1, 1) := by decide +kernel
theorem dX8_ends_3 : decode cX8_ends 3 = .ok (.if_icmp .ne 7, 3) := by decide +kernel
theorem dX8_ends_6 : decode cX8_ends 6 = .ok (.iload_n 2, 1) := by decide +kernel
theorem dX8_ends_7 : decode cX8_ends 7 = .ok (.goto 33, 3) := by decide +kernel
theorem dX8_ends_10 : decode cX8_ends 10 = .ok (.iload_n 1, 1) := by decide +kernel
theorem dX8_ends_11 : decode cX8_ends 11 = .ok (.iconst 2, 1) := by decide +kernel
theorem dX8_ends_12 : decode cX8_ends 12 = .ok (.if_icmp .ne 7, 3) := by decide +kernel
theorem dX8_ends_15 : decode cX8_ends 15 = .ok (.iload_n 3, 1) := by decide +kernel
theorem dX8_ends_16 : decode cX8_ends 16 = .ok (.goto 24, 3) := by decide +kernel
theorem dX8_ends_19 : decode cX8_ends 19 = .ok (.iload_n 1, 1) := by decide +kernel
theorem dX8_ends_20 : decode cX8_ends 20 = .ok (.iconst 3, 1) := by decide +kernel
theorem dX8_ends_21 : decode cX8_ends 21 = .ok (.if_icmp .ne 8, 3) := by decide +kernel
theorem dX8_ends_24 : decode cX8_ends 24 = .ok (.iload 4, 2) := by decide +kernel
theorem dX8_ends_26 : decode cX8_ends 26 = .ok (.goto 14, 3) := by decide +kernel
theorem dX8_ends_29 : decode cX8_ends 29 = .ok (.iload_n 1, 1) := by decide +kernel
theorem dX8_ends_30 : decode cX8_ends 30 = .ok (.iconst 4, 1) := by decide +kernel
theorem dX8_ends_31 : decode cX8_ends 31 = .ok (.if_icmp .ne 8, 3) := by decide +kernel
theorem dX8_ends_34 : decode cX8_ends 34 = .ok (.iload 5, 2) := by decide +kernel
theorem dX8_ends_36 : decode cX8_ends 36 = .ok (.goto 4, 3) := by decide +kernel
theorem dX8_ends_39 : decode cX8_ends 39 = .ok (.iconst 0, 1) := by decide +kernel
theorem dX8_ends_40 : decode cX8_ends 40 = .ok (.putfield 36, 3) := by decide +kernel
theorem dX8_ends_43 : decode cX8_ends 43 = .ok (.aload_n 0, 1) := by decide +kernel
theorem dX8_ends_44 : decode cX8_ends 44 = .ok (.getfield 36, 3) := by decide +kernel
theorem dX8_ends_47 : decode cX8_ends 47 = .ok (.ifCond .eq 12, 3) := by decide +kernel
theorem dX8_ends_50 : decode cX8_ends 50 = .ok (.aload_n 0, 1) := by decide +kernel
theorem dX8_ends_51 : decode cX8_ends 51 = .ok (.bipush 10, 2) := by decide +kernel
theorem dX8_ends_53 : decode cX8_ends 53 = .ok (.iconst 0, 1) := by decide +kernel
theorem dX8_ends_54 : decode cX8_ends 54 = .ok (.invokevirtual 39, 3) := by decide +kernel
theorem dX8_ends_57 : decode cX8_ends 57 = .ok (.iconst 0, 1) := by decide +kernel
theorem dX8_ends_58 : decode cX8_ends 58 = .ok (.ireturn, 1) := by decide +kernel
theorem dX8_ends_59 : decode cX8_ends 59 = .ok (.aload_n 0, 1) := by decide +kernel
theorem dX8_ends_60 : decode cX8_ends 60 = .ok (.getfield 43, 3) := by decide +kernel
theorem dX8_ends_63 : decode cX8_ends 63 = .ok (.bipush 8, 2) := by decide +kernel
theorem dX8_ends_65 : decode cX8_ends 65 = .ok (.if_icmp .ne 39, 3) := by decide +kernel
theorem dX8_ends_68 : decode cX8_ends 68 = .ok (.iconst 1, 1) := by decide +kernel
theorem dX8_ends_69 : decode cX8_ends 69 = .ok (.istore 6, 2) := by decide +kernel
theorem dX8_ends_71 : decode cX8_ends 71 = .ok (.iload 6, 2) := by decide +kernel
theorem dX8_ends_73 : decode cX8_ends 73 = .ok (.bipush 8, 2) := by decide +kernel
theorem dX8_ends_75 : decode cX8_ends 75 = .ok (.if_icmp .ge 19, 3) := by decide +kernel
theorem dX8_ends_78 : decode cX8_ends 78 = .ok (.aload_n 0, 1) := by decide +kernel
theorem dX8_ends_79 : decode cX8_ends 79 = .ok (.iload 6, 2) := by decide +kernel
theorem dX8_ends_81 : decode cX8_ends 81 = .ok (.iconst 1, 1) := by decide +kernel
theorem dX8_ends_82 : decode cX8_ends 82 = .ok (.iadd, 1) := by decide +kernel
theorem dX8_ends_83 : decode cX8_ends 83 = .ok (.iload 6, 2) := by decide +kernel
theorem dX8_ends_85 : decode cX8_ends 85 = .ok (.invokevirtual 39, 3) := by decide +kernel
theorem dX8_ends_88 : decode cX8_ends 88 = .ok (.iinc 6 1, 3) := by decide +kernel
theorem dX8_ends_91 : decode cX8_ends 91 = .ok (.goto (-20), 3) := by decide +kernel
theorem dX8_ends_94 : decode cX8_ends 94 = .ok (.aload_n 0, 1) := by decide +kernel
theorem dX8_ends_95 : decode cX8_ends 95 = .ok (.dup, 1) := by decide +kernel
theorem dX8_ends_96 : decode cX8_ends 96 = .ok (.getfield 43, 3) := by decide +kernel
theorem dX8_ends_99 : decode cX8_ends 99 = .ok (.iconst 1, 1) := by decide +kernel
theorem dX8_ends_100 : decode cX8_ends 100 = .ok (.isub, 1) := by decide +kernel
theorem dX8_ends_101 : decode cX8_ends 101 = .ok (.putfield 43, 3) := by decide +kernel
theorem dX8_ends_104 : decode cX8_ends 104 = .ok (.aload_n 0, 1) := by decide +kernel
theorem dX8_ends_105 : decode cX8_ends 105 = .ok (.dup, 1) := by decide +kernel
theorem dX8_ends_106 : decode cX8_ends 106 = .ok (.getfield 43, 3) := by decide +kernel
theorem dX8_ends_109 : decode cX8_ends 109 = .ok (.iconst 1, 1) := by decide +kernel
theorem dX8_ends_110 : decode cX8_ends 110 = .ok (.iadd, 1) := by decide +kernel
theorem dX8_ends_111 : decode cX8_ends 111 = .ok (.putfield 43, 3) := by decide +kernel
theorem dX8_ends_114 : decode cX8_ends 114 = .ok (.aload_n 0, 1) := by decide +kernel
theorem dX8_ends_115 : decode cX8_ends 115 = .ok (.bipush 10, 2) := by decide +kernel
theorem dX8_ends_117 : decode cX8_ends 117 = .ok (.aload_n 0, 1) := by decide +kernel
theorem dX8_ends_118 : decode cX8_ends 118 = .ok (.getfield 43, 3) := by decide +kernel
theorem dX8_ends_121 : decode cX8_ends 121 = .ok (.invokevirtual 39, 3) := by decide +kernel
theorem dX8_ends_124 : decode cX8_ends 124 = .ok (.aload_n 0, 1) := by decide +kernel
theorem dX8_ends_125 : decode cX8_ends 125 = .ok (.getfield 46, 3) := by decide +kernel
theorem dX8_ends_128 : decode cX8_ends 128 = .ok (.ireturn, 1) := by decide +kernel
theorem dX8_isFine_0 : decode cX8_isFine 0 = .ok (.aload_n 0, 1) := by decide +kernel
theorem dX8_isFine_1 : decode cX8_isFine 1 = .ok (.iload_n 1, 1) := by decide +kernel
theorem dX8_isFine_2 : decode cX8_isFine 2 = .ok (.ifCond .eq 7, 3) := by decide +kernel
theorem dX8_isFine_5 : decode cX8_isFine 5 = .ok (.iconst 0, 1) := by decide +kernel
theorem dX8_isFine_6 : decode cX8_isFine 6 = .ok (.goto 4, 3) := by decide +kernel
theorem dX8_isFine_9 : decode cX8_isFine 9 = .ok (.iconst 1, 1) := by decide +kernel
theorem dX8_isFine_10 : decode cX8_isFine 10 = .ok (.putfield 36, 3) := by decide +kernel
theorem dX8_isFine_13 : decode cX8_isFine 13 = .ok (.iload_n 1, 1) := by decide +kernel
theorem dX8_isFine_14 : decode cX8_isFine 14 = .ok (.ireturn, 1) := by decide +kernel
theorem dX8_c_0 : decode cX8_c 0 = .ok (.aload_n 0, 1) := by decide +kernel
theorem dX8_c_1 : decode cX8_c 1 = .ok (.getfield 9, 3) := by decide +kernel
theorem dX8_c_4 : decode cX8_c 4 = .ok (.bipush 7, 2) := by decide +kernel
theorem dX8_c_6 : decode cX8_c 6 = .ok (.iconst 5, 1) := by decide +kernel
theorem dX8_c_7 : decode cX8_c 7 = .ok (.iload_n 1, 1) := by decide +kernel
theorem dX8_c_8 : decode cX8_c 8 = .ok (.imul, 1) := by decide +kernel
theorem dX8_c_9 : decode cX8_c 9 = .ok (.iadd, 1) := by decide +kernel
theorem dX8_c_10 : decode cX8_c 10 = .ok (.iload_n 2, 1) := by decide +kernel
theorem dX8_c_11 : decode cX8_c 11 = .ok (.iadd, 1) := by decide +kernel
theorem dX8_c_12 : decode cX8_c 12 = .ok (.iaload, 1) := by decide +kernel
theorem dX8_c_13 : decode cX8_c 13 = .ok (.ireturn, 1) := by decide +kernel
theorem dX8_set_0 : decode cX8_set 0 = .ok (.aload_n 0, 1) := by decide +kernel
theorem dX8_set_1 : decode cX8_set 1 = .ok (.getfield 9, 3) := by decide +kernel
theorem dX8_set_4 : decode cX8_set 4 = .ok (.bipush 7, 2) := by decide +kernel
theorem dX8_set_6 : decode cX8_set 6 = .ok (.iconst 5, 1) := by decide +kernel
theorem dX8_set_7 : decode cX8_set 7 = .ok (.iload_n 1, 1) := by decide +kernel
theorem dX8_set_8 : decode cX8_set 8 = .ok (.imul, 1) := by decide +kernel
theorem dX8_set_9 : decode cX8_set 9 = .ok (.iadd, 1) := by decide +kernel
theorem dX8_set_10 : decode cX8_set 10 = .ok (.iload_n 2, 1) := by decide +kernel
theorem dX8_set_11 : decode cX8_set 11 = .ok (.iadd, 1) := by decide +kernel
theorem dX8_set_12 : decode cX8_set 12 = .ok (.iload_n 3, 1) := by decide +kernel
theorem dX8_set_13 : decode cX8_set 13 = .ok (.iastore, 1) := by decide +kernel
theorem dX8_set_14 : decode cX8_set 14 = .ok (.return_, 1) := by decide +kernel
theorem dX8_place_0 : decode cX8_place 0 = .ok (.iconst 0, 1) := by decide +kernel
theorem dX8_place_1 : decode cX8_place 1 = .ok (.istore_n 2, 1) := by decide +kernel
theorem dX8_place_2 : decode cX8_place 2 = .ok (.iload_n 2, 1) := by decide +kernel
theorem dX8_place_3 : decode cX8_place 3 = .ok (.aload_n 0, 1) := by decide +kernel
theorem dX8_place_4 : decode cX8_place 4 = .ok (.getfield 9, 3) := by decide +kernel
theorem dX8_place_7 : decode cX8_place 7 = .ok (.iconst 0, 1) := by decide +kernel
theorem dX8_place_8 : decode cX8_place 8 = .ok (.iaload, 1) := by decide +kernel
theorem dX8_place_9 : decode cX8_place 9 = .ok (.if_icmp .ge 21, 3) := by decide +kernel
theorem dX8_place_12 : decode cX8_place 12 = .ok (.aload_n 0, 1) := by decide +kernel
theorem dX8_place_13 : decode cX8_place 13 = .ok (.iload_n 2, 1) := by decide +kernel
theorem dX8_place_14 : decode cX8_place 14 = .ok (.iconst 0, 1) := by decide +kernel
theorem dX8_place_15 : decode cX8_place 15 = .ok (.invokevirtual 49, 3) := by decide +kernel
theorem dX8_place_18 : decode cX8_place 18 = .ok (.iload_n 1, 1) := by decide +kernel
theorem dX8_place_19 : decode cX8_place 19 = .ok (.if_icmp .ne 5, 3) := by decide +kernel
theorem dX8_place_22 : decode cX8_place 22 = .ok (.iload_n 2, 1) := by decide +kernel
theorem dX8_place_23 : decode cX8_place 23 = .ok (.ireturn, 1) := by decide +kernel
theorem dX8_place_24 : decode cX8_place 24 = .ok (.iinc 2 1, 3) := by decide +kernel
theorem dX8_place_27 : decode cX8_place 27 = .ok (.goto (-25), 3) := by decide +kernel
theorem dX8_place_30 : decode cX8_place 30 = .ok (.iconst (-1), 1) := by decide +kernel
theorem dX8_place_31 : decode cX8_place 31 = .ok (.ireturn, 1) := by decide +kernel
theorem dX8_isThere_0 : decode cX8_isThere 0 = .ok (.aload_n 0, 1) := by decide +kernel
theorem dX8_isThere_1 : decode cX8_isThere 1 = .ok (.iload_n 1, 1) := by decide +kernel
theorem dX8_isThere_2 : decode cX8_isThere 2 = .ok (.invokevirtual 53, 3) := by decide +kernel
theorem dX8_isThere_5 : decode cX8_isThere 5 = .ok (.ifCond .lt 7, 3) := by decide +kernel
theorem dX8_isThere_8 : decode cX8_isThere 8 = .ok (.iconst 1, 1) := by decide +kernel
theorem dX8_isThere_9 : decode cX8_isThere 9 = .ok (.goto 4, 3) := by decide +kernel
theorem dX8_isThere_12 : decode cX8_isThere 12 = .ok (.iconst 0, 1) := by decide +kernel
theorem dX8_isThere_13 : decode cX8_isThere 13 = .ok (.ireturn, 1) := by decide +kernel
theorem dX8_goes_0 : decode cX8_goes 0 = .ok (.aload_n 0, 1) := by decide +kernel
theorem dX8_goes_1 : decode cX8_goes 1 = .ok (.getfield 9, 3) := by decide +kernel
theorem dX8_goes_4 : decode cX8_goes 4 = .ok (.iconst 0, 1) := by decide +kernel
theorem dX8_goes_5 : decode cX8_goes 5 = .ok (.iaload, 1) := by decide +kernel
theorem dX8_goes_6 : decode cX8_goes 6 = .ok (.iconst 1, 1) := by decide +kernel
theorem dX8_goes_7 : decode cX8_goes 7 = .ok (.isub, 1) := by decide +kernel
theorem dX8_goes_8 : decode cX8_goes 8 = .ok (.istore_n 2, 1) := by decide +kernel
theorem dX8_goes_9 : decode cX8_goes 9 = .ok (.bipush 7, 2) := by decide +kernel
theorem dX8_goes_11 : decode cX8_goes 11 = .ok (.iconst 5, 1) := by decide +kernel
theorem dX8_goes_12 : decode cX8_goes 12 = .ok (.iload_n 1, 1) := by decide +kernel
theorem dX8_goes_13 : decode cX8_goes 13 = .ok (.imul, 1) := by decide +kernel
theorem dX8_goes_14 : decode cX8_goes 14 = .ok (.iadd, 1) := by decide +kernel
theorem dX8_goes_15 : decode cX8_goes 15 = .ok (.istore_n 3, 1) := by decide +kernel
theorem dX8_goes_16 : decode cX8_goes 16 = .ok (.iload_n 3, 1) := by decide +kernel
theorem dX8_goes_17 : decode cX8_goes 17 = .ok (.bipush 7, 2) := by decide +kernel
theorem dX8_goes_19 : decode cX8_goes 19 = .ok (.iconst 5, 1) := by decide +kernel
theorem dX8_goes_20 : decode cX8_goes 20 = .ok (.iload_n 2, 1) := by decide +kernel
theorem dX8_goes_21 : decode cX8_goes 21 = .ok (.imul, 1) := by decide +kernel
theorem dX8_goes_22 : decode cX8_goes 22 = .ok (.iadd, 1) := by decide +kernel
theorem dX8_goes_23 : decode cX8_goes 23 = .ok (.if_icmp .ge 23, 3) := by decide +kernel
theorem dX8_goes_26 : decode cX8_goes 26 = .ok (.aload_n 0, 1) := by decide +kernel
theorem dX8_goes_27 : decode cX8_goes 27 = .ok (.getfield 9, 3) := by decide +kernel
theorem dX8_goes_30 : decode cX8_goes 30 = .ok (.iload_n 3, 1) := by decide +kernel
theorem dX8_goes_31 : decode cX8_goes 31 = .ok (.aload_n 0, 1) := by decide +kernel
theorem dX8_goes_32 : decode cX8_goes 32 = .ok (.getfield 9, 3) := by decide +kernel
theorem dX8_goes_35 : decode cX8_goes 35 = .ok (.iload_n 3, 1) := by decide +kernel
theorem dX8_goes_36 : decode cX8_goes 36 = .ok (.iconst 5, 1) := by decide +kernel
theorem dX8_goes_37 : decode cX8_goes 37 = .ok (.iadd, 1) := by decide +kernel
theorem dX8_goes_38 : decode cX8_goes 38 = .ok (.iaload, 1) := by decide +kernel
theorem dX8_goes_39 : decode cX8_goes 39 = .ok (.iastore, 1) := by decide +kernel
theorem dX8_goes_40 : decode cX8_goes 40 = .ok (.iinc 3 1, 3) := by decide +kernel
theorem dX8_goes_43 : decode cX8_goes 43 = .ok (.goto (-27), 3) := by decide +kernel
theorem dX8_goes_46 : decode cX8_goes 46 = .ok (.iconst 0, 1) := by decide +kernel
theorem dX8_goes_47 : decode cX8_goes 47 = .ok (.istore_n 3, 1) := by decide +kernel
theorem dX8_goes_48 : decode cX8_goes 48 = .ok (.iload_n 3, 1) := by decide +kernel
theorem dX8_goes_49 : decode cX8_goes 49 = .ok (.iconst 5, 1) := by decide +kernel
theorem dX8_goes_50 : decode cX8_goes 50 = .ok (.if_icmp .ge 16, 3) := by decide +kernel
theorem dX8_goes_53 : decode cX8_goes 53 = .ok (.aload_n 0, 1) := by decide +kernel
theorem dX8_goes_54 : decode cX8_goes 54 = .ok (.iload_n 2, 1) := by decide +kernel
theorem dX8_goes_55 : decode cX8_goes 55 = .ok (.iload_n 3, 1) := by decide +kernel
theorem dX8_goes_56 : decode cX8_goes 56 = .ok (.iconst 0, 1) := by decide +kernel
theorem dX8_goes_57 : decode cX8_goes 57 = .ok (.invokevirtual 57, 3) := by decide +kernel
theorem dX8_goes_60 : decode cX8_goes 60 = .ok (.iinc 3 1, 3) := by decide +kernel
theorem dX8_goes_63 : decode cX8_goes 63 = .ok (.goto (-15), 3) := by decide +kernel
theorem dX8_goes_66 : decode cX8_goes 66 = .ok (.aload_n 0, 1) := by decide +kernel
theorem dX8_goes_67 : decode cX8_goes 67 = .ok (.getfield 9, 3) := by decide +kernel
theorem dX8_goes_70 : decode cX8_goes 70 = .ok (.iconst 0, 1) := by decide +kernel
theorem dX8_goes_71 : decode cX8_goes 71 = .ok (.iload_n 2, 1) := by decide +kernel
theorem dX8_goes_72 : decode cX8_goes 72 = .ok (.iastore, 1) := by decide +kernel
theorem dX8_goes_73 : decode cX8_goes 73 = .ok (.return_, 1) := by decide +kernel
theorem dX8_tailOf_0 : decode cX8_tailOf 0 = .ok (.iconst 1, 1) := by decide +kernel
theorem dX8_tailOf_1 : decode cX8_tailOf 1 = .ok (.iload_n 0, 1) := by decide +kernel
theorem dX8_tailOf_2 : decode cX8_tailOf 2 = .ok (.iconst 5, 1) := by decide +kernel
theorem dX8_tailOf_3 : decode cX8_tailOf 3 = .ok (.idiv, 1) := by decide +kernel
theorem dX8_tailOf_4 : decode cX8_tailOf 4 = .ok (.iadd, 1) := by decide +kernel
theorem dX8_tailOf_5 : decode cX8_tailOf 5 = .ok (.ireturn, 1) := by decide +kernel
theorem dX8_passes_0 : decode cX8_passes 0 = .ok (.aload_n 0, 1) := by decide +kernel
theorem dX8_passes_1 : decode cX8_passes 1 = .ok (.iload_n 1, 1) := by decide +kernel
theorem dX8_passes_2 : decode cX8_passes 2 = .ok (.iconst 2, 1) := by decide +kernel
theorem dX8_passes_3 : decode cX8_passes 3 = .ok (.invokevirtual 49, 3) := by decide +kernel
theorem dX8_passes_6 : decode cX8_passes 6 = .ok (.istore_n 2, 1) := by decide +kernel
theorem dX8_passes_7 : decode cX8_passes 7 = .ok (.aload_n 0, 1) := by decide +kernel
theorem dX8_passes_8 : decode cX8_passes 8 = .ok (.getfield 9, 3) := by decide +kernel
theorem dX8_passes_11 : decode cX8_passes 11 = .ok (.bipush 37, 2) := by decide +kernel
theorem dX8_passes_13 : decode cX8_passes 13 = .ok (.aload_n 0, 1) := by decide +kernel
theorem dX8_passes_14 : decode cX8_passes 14 = .ok (.getfield 9, 3) := by decide +kernel
theorem dX8_passes_17 : decode cX8_passes 17 = .ok (.iconst 2, 1) := by decide +kernel
theorem dX8_passes_18 : decode cX8_passes 18 = .ok (.iaload, 1) := by decide +kernel
theorem dX8_passes_19 : decode cX8_passes 19 = .ok (.bipush 12, 2) := by decide +kernel
theorem dX8_passes_21 : decode cX8_passes 21 = .ok (.irem, 1) := by decide +kernel
theorem dX8_passes_22 : decode cX8_passes 22 = .ok (.iadd, 1) := by decide +kernel
theorem dX8_passes_23 : decode cX8_passes 23 = .ok (.dup2, 1) := by decide +kernel
theorem dX8_passes_24 : decode cX8_passes 24 = .ok (.iaload, 1) := by decide +kernel
theorem dX8_passes_25 : decode cX8_passes 25 = .ok (.iload_n 2, 1) := by decide +kernel
theorem dX8_passes_26 : decode cX8_passes 26 = .ok (.iadd, 1) := by decide +kernel
theorem dX8_passes_27 : decode cX8_passes 27 = .ok (.iastore, 1) := by decide +kernel
theorem dX8_passes_28 : decode cX8_passes 28 = .ok (.aload_n 0, 1) := by decide +kernel
theorem dX8_passes_29 : decode cX8_passes 29 = .ok (.getfield 9, 3) := by decide +kernel
theorem dX8_passes_32 : decode cX8_passes 32 = .ok (.iconst 5, 1) := by decide +kernel
theorem dX8_passes_33 : decode cX8_passes 33 = .ok (.dup2, 1) := by decide +kernel
theorem dX8_passes_34 : decode cX8_passes 34 = .ok (.iaload, 1) := by decide +kernel
theorem dX8_passes_35 : decode cX8_passes 35 = .ok (.iconst 1, 1) := by decide +kernel
theorem dX8_passes_36 : decode cX8_passes 36 = .ok (.iadd, 1) := by decide +kernel
theorem dX8_passes_37 : decode cX8_passes 37 = .ok (.iastore, 1) := by decide +kernel
theorem dX8_passes_38 : decode cX8_passes 38 = .ok (.aload_n 0, 1) := by decide +kernel
theorem dX8_passes_39 : decode cX8_passes 39 = .ok (.iload_n 1, 1) := by decide +kernel
theorem dX8_passes_40 : decode cX8_passes 40 = .ok (.iconst 4, 1) := by decide +kernel
theorem dX8_passes_41 : decode cX8_passes 41 = .ok (.aload_n 0, 1) := by decide +kernel
theorem dX8_passes_42 : decode cX8_passes 42 = .ok (.iload_n 1, 1) := by decide +kernel
theorem dX8_passes_43 : decode cX8_passes 43 = .ok (.iconst 4, 1) := by decide +kernel
theorem dX8_passes_44 : decode cX8_passes 44 = .ok (.invokevirtual 49, 3) := by decide +kernel
theorem dX8_passes_47 : decode cX8_passes 47 = .ok (.iconst 1, 1) := by decide +kernel
theorem dX8_passes_48 : decode cX8_passes 48 = .ok (.iadd, 1) := by decide +kernel
theorem dX8_passes_49 : decode cX8_passes 49 = .ok (.invokevirtual 57, 3) := by decide +kernel
theorem dX8_passes_52 : decode cX8_passes 52 = .ok (.aload_n 0, 1) := by decide +kernel
theorem dX8_passes_53 : decode cX8_passes 53 = .ok (.iload_n 1, 1) := by decide +kernel
theorem dX8_passes_54 : decode cX8_passes 54 = .ok (.iconst 2, 1) := by decide +kernel
theorem dX8_passes_55 : decode cX8_passes 55 = .ok (.iload_n 2, 1) := by decide +kernel
theorem dX8_passes_56 : decode cX8_passes 56 = .ok (.iconst 1, 1) := by decide +kernel
theorem dX8_passes_57 : decode cX8_passes 57 = .ok (.isub, 1) := by decide +kernel
theorem dX8_passes_58 : decode cX8_passes 58 = .ok (.invokevirtual 57, 3) := by decide +kernel
theorem dX8_passes_61 : decode cX8_passes 61 = .ok (.aload_n 0, 1) := by decide +kernel
theorem dX8_passes_62 : decode cX8_passes 62 = .ok (.iload_n 1, 1) := by decide +kernel
theorem dX8_passes_63 : decode cX8_passes 63 = .ok (.iconst 3, 1) := by decide +kernel
theorem dX8_passes_64 : decode cX8_passes 64 = .ok (.aload_n 0, 1) := by decide +kernel
theorem dX8_passes_65 : decode cX8_passes 65 = .ok (.getfield 9, 3) := by decide +kernel
theorem dX8_passes_68 : decode cX8_passes 68 = .ok (.iconst 2, 1) := by decide +kernel
theorem dX8_passes_69 : decode cX8_passes 69 = .ok (.iaload, 1) := by decide +kernel
theorem dX8_passes_70 : decode cX8_passes 70 = .ok (.aload_n 0, 1) := by decide +kernel
theorem dX8_passes_71 : decode cX8_passes 71 = .ok (.iload_n 1, 1) := by decide +kernel
theorem dX8_passes_72 : decode cX8_passes 72 = .ok (.iconst 1, 1) := by decide +kernel
theorem dX8_passes_73 : decode cX8_passes 73 = .ok (.invokevirtual 49, 3) := by decide +kernel
theorem dX8_passes_76 : decode cX8_passes 76 = .ok (.iadd, 1) := by decide +kernel
theorem dX8_passes_77 : decode cX8_passes 77 = .ok (.invokevirtual 57, 3) := by decide +kernel
theorem dX8_passes_80 : decode cX8_passes 80 = .ok (.iload_n 2, 1) := by decide +kernel
theorem dX8_passes_81 : decode cX8_passes 81 = .ok (.iconst 1, 1) := by decide +kernel
theorem dX8_passes_82 : decode cX8_passes 82 = .ok (.if_icmp .ne 7, 3) := by decide +kernel
theorem dX8_passes_85 : decode cX8_passes 85 = .ok (.iconst 1, 1) := by decide +kernel
theorem dX8_passes_86 : decode cX8_passes 86 = .ok (.goto 4, 3) := by decide +kernel
theorem dX8_passes_89 : decode cX8_passes 89 = .ok (.iconst 0, 1) := by decide +kernel
theorem dX8_passes_90 : decode cX8_passes 90 = .ok (.ireturn, 1) := by decide +kernel
theorem dX8_goesBy_0 : decode cX8_goesBy 0 = .ok (.iconst 0, 1) := by decide +kernel
theorem dX8_goesBy_1 : decode cX8_goesBy 1 = .ok (.istore_n 1, 1) := by decide +kernel
theorem dX8_goesBy_2 : decode cX8_goesBy 2 = .ok (.iconst 0, 1) := by decide +kernel
theorem dX8_goesBy_3 : decode cX8_goesBy 3 = .ok (.istore_n 2, 1) := by decide +kernel
theorem dX8_goesBy_4 : decode cX8_goesBy 4 = .ok (.aload_n 0, 1) := by decide +kernel
theorem dX8_goesBy_5 : decode cX8_goesBy 5 = .ok (.getfield 9, 3) := by decide +kernel
theorem dX8_goesBy_8 : decode cX8_goesBy 8 = .ok (.iconst 2, 1) := by decide +kernel
theorem dX8_goesBy_9 : decode cX8_goesBy 9 = .ok (.dup2, 1) := by decide +kernel
theorem dX8_goesBy_10 : decode cX8_goesBy 10 = .ok (.iaload, 1) := by decide +kernel
theorem dX8_goesBy_11 : decode cX8_goesBy 11 = .ok (.iconst 1, 1) := by decide +kernel
theorem dX8_goesBy_12 : decode cX8_goesBy 12 = .ok (.iadd, 1) := by decide +kernel
theorem dX8_goesBy_13 : decode cX8_goesBy 13 = .ok (.iastore, 1) := by decide +kernel
theorem dX8_goesBy_14 : decode cX8_goesBy 14 = .ok (.iload_n 2, 1) := by decide +kernel
theorem dX8_goesBy_15 : decode cX8_goesBy 15 = .ok (.aload_n 0, 1) := by decide +kernel
theorem dX8_goesBy_16 : decode cX8_goesBy 16 = .ok (.getfield 9, 3) := by decide +kernel
theorem dX8_goesBy_19 : decode cX8_goesBy 19 = .ok (.iconst 0, 1) := by decide +kernel
theorem dX8_goesBy_20 : decode cX8_goesBy 20 = .ok (.iaload, 1) := by decide +kernel
theorem dX8_goesBy_21 : decode cX8_goesBy 21 = .ok (.if_icmp .ge 73, 3) := by decide +kernel
theorem dX8_goesBy_24 : decode cX8_goesBy 24 = .ok (.aload_n 0, 1) := by decide +kernel
theorem dX8_goesBy_25 : decode cX8_goesBy 25 = .ok (.iload_n 2, 1) := by decide +kernel
theorem dX8_goesBy_26 : decode cX8_goesBy 26 = .ok (.iconst 3, 1) := by decide +kernel
theorem dX8_goesBy_27 : decode cX8_goesBy 27 = .ok (.invokevirtual 49, 3) := by decide +kernel
theorem dX8_goesBy_30 : decode cX8_goesBy 30 = .ok (.aload_n 0, 1) := by decide +kernel
theorem dX8_goesBy_31 : decode cX8_goesBy 31 = .ok (.getfield 9, 3) := by decide +kernel
theorem dX8_goesBy_34 : decode cX8_goesBy 34 = .ok (.iconst 2, 1) := by decide +kernel
theorem dX8_goesBy_35 : decode cX8_goesBy 35 = .ok (.iaload, 1) := by decide +kernel
theorem dX8_goesBy_36 : decode cX8_goesBy 36 = .ok (.if_icmp .ne 7, 3) := by decide +kernel
theorem dX8_goesBy_39 : decode cX8_goesBy 39 = .ok (.iconst 1, 1) := by decide +kernel
theorem dX8_goesBy_40 : decode cX8_goesBy 40 = .ok (.goto 4, 3) := by decide +kernel
theorem dX8_goesBy_43 : decode cX8_goesBy 43 = .ok (.iconst 0, 1) := by decide +kernel
theorem dX8_goesBy_44 : decode cX8_goesBy 44 = .ok (.istore_n 3, 1) := by decide +kernel
theorem dX8_goesBy_45 : decode cX8_goesBy 45 = .ok (.iload_n 1, 1) := by decide +kernel
theorem dX8_goesBy_46 : decode cX8_goesBy 46 = .ok (.iload_n 3, 1) := by decide +kernel
theorem dX8_goesBy_47 : decode cX8_goesBy 47 = .ok (.ifCond .eq 7, 3) := by decide +kernel
theorem dX8_goesBy_50 : decode cX8_goesBy 50 = .ok (.iconst 1, 1) := by decide +kernel
theorem dX8_goesBy_51 : decode cX8_goesBy 51 = .ok (.goto 4, 3) := by decide +kernel
theorem dX8_goesBy_54 : decode cX8_goesBy 54 = .ok (.iconst 0, 1) := by decide +kernel
theorem dX8_goesBy_55 : decode cX8_goesBy 55 = .ok (.iadd, 1) := by decide +kernel
theorem dX8_goesBy_56 : decode cX8_goesBy 56 = .ok (.istore_n 1, 1) := by decide +kernel
theorem dX8_goesBy_57 : decode cX8_goesBy 57 = .ok (.iload_n 3, 1) := by decide +kernel
theorem dX8_goesBy_58 : decode cX8_goesBy 58 = .ok (.ifCond .eq 30, 3) := by decide +kernel
theorem dX8_goesBy_61 : decode cX8_goesBy 61 = .ok (.aload_n 0, 1) := by decide +kernel
theorem dX8_goesBy_62 : decode cX8_goesBy 62 = .ok (.iload_n 2, 1) := by decide +kernel
theorem dX8_goesBy_63 : decode cX8_goesBy 63 = .ok (.invokevirtual 61, 3) := by decide +kernel
theorem dX8_goesBy_66 : decode cX8_goesBy 66 = .ok (.ifCond .eq 22, 3) := by decide +kernel
theorem dX8_goesBy_69 : decode cX8_goesBy 69 = .ok (.aload_n 0, 1) := by decide +kernel
theorem dX8_goesBy_70 : decode cX8_goesBy 70 = .ok (.iload_n 2, 1) := by decide +kernel
theorem dX8_goesBy_71 : decode cX8_goesBy 71 = .ok (.invokevirtual 65, 3) := by decide +kernel
theorem dX8_goesBy_74 : decode cX8_goesBy 74 = .ok (.aload_n 0, 1) := by decide +kernel
theorem dX8_goesBy_75 : decode cX8_goesBy 75 = .ok (.getfield 9, 3) := by decide +kernel
theorem dX8_goesBy_78 : decode cX8_goesBy 78 = .ok (.bipush 6, 2) := by decide +kernel
theorem dX8_goesBy_80 : decode cX8_goesBy 80 = .ok (.dup2, 1) := by decide +kernel
theorem dX8_goesBy_81 : decode cX8_goesBy 81 = .ok (.iaload, 1) := by decide +kernel
theorem dX8_goesBy_82 : decode cX8_goesBy 82 = .ok (.iconst 1, 1) := by decide +kernel
theorem dX8_goesBy_83 : decode cX8_goesBy 83 = .ok (.iadd, 1) := by decide +kernel
theorem dX8_goesBy_84 : decode cX8_goesBy 84 = .ok (.iastore, 1) := by decide +kernel
theorem dX8_goesBy_85 : decode cX8_goesBy 85 = .ok (.goto 6, 3) := by decide +kernel
theorem dX8_goesBy_88 : decode cX8_goesBy 88 = .ok (.iinc 2 1, 3) := by decide +kernel
theorem dX8_goesBy_91 : decode cX8_goesBy 91 = .ok (.goto (-77), 3) := by decide +kernel
theorem dX8_goesBy_94 : decode cX8_goesBy 94 = .ok (.iload_n 1, 1) := by decide +kernel
theorem dX8_goesBy_95 : decode cX8_goesBy 95 = .ok (.ireturn, 1) := by decide +kernel
theorem dX8_comes_0 : decode cX8_comes 0 = .ok (.iload_n 1, 1) := by decide +kernel
theorem dX8_comes_1 : decode cX8_comes 1 = .ok (.iconst 2, 1) := by decide +kernel
theorem dX8_comes_2 : decode cX8_comes 2 = .ok (.bipush 60, 2) := by decide +kernel
theorem dX8_comes_4 : decode cX8_comes 4 = .ok (.invokestatic 69, 3) := by decide +kernel
theorem dX8_comes_7 : decode cX8_comes 7 = .ok (.ifCond .eq 23, 3) := by decide +kernel
theorem dX8_comes_10 : decode cX8_comes 10 = .ok (.iload_n 2, 1) := by decide +kernel
theorem dX8_comes_11 : decode cX8_comes 11 = .ok (.iconst 1, 1) := by decide +kernel
theorem dX8_comes_12 : decode cX8_comes 12 = .ok (.bipush 60, 2) := by decide +kernel
theorem dX8_comes_14 : decode cX8_comes 14 = .ok (.invokestatic 69, 3) := by decide +kernel
theorem dX8_comes_17 : decode cX8_comes 17 = .ok (.ifCond .eq 13, 3) := by decide +kernel
theorem dX8_comes_20 : decode cX8_comes 20 = .ok (.iload_n 3, 1) := by decide +kernel
theorem dX8_comes_21 : decode cX8_comes 21 = .ok (.iconst 1, 1) := by decide +kernel
theorem dX8_comes_22 : decode cX8_comes 22 = .ok (.bipush 20, 2) := by decide +kernel
theorem dX8_comes_24 : decode cX8_comes 24 = .ok (.invokestatic 69, 3) := by decide +kernel
theorem dX8_comes_27 : decode cX8_comes 27 = .ok (.ifCond .ne 5, 3) := by decide +kernel
theorem dX8_comes_30 : decode cX8_comes 30 = .ok (.iconst 2, 1) := by decide +kernel
theorem dX8_comes_31 : decode cX8_comes 31 = .ok (.ireturn, 1) := by decide +kernel
theorem dX8_comes_32 : decode cX8_comes 32 = .ok (.aload_n 0, 1) := by decide +kernel
theorem dX8_comes_33 : decode cX8_comes 33 = .ok (.getfield 9, 3) := by decide +kernel
theorem dX8_comes_36 : decode cX8_comes 36 = .ok (.iconst 0, 1) := by decide +kernel
theorem dX8_comes_37 : decode cX8_comes 37 = .ok (.iaload, 1) := by decide +kernel
theorem dX8_comes_38 : decode cX8_comes 38 = .ok (.istore 4, 2) := by decide +kernel
theorem dX8_comes_40 : decode cX8_comes 40 = .ok (.iload 4, 2) := by decide +kernel
theorem dX8_comes_42 : decode cX8_comes 42 = .ok (.bipush 6, 2) := by decide +kernel
theorem dX8_comes_44 : decode cX8_comes 44 = .ok (.if_icmp .ne 5, 3) := by decide +kernel
theorem dX8_comes_47 : decode cX8_comes 47 = .ok (.iconst 3, 1) := by decide +kernel
theorem dX8_comes_48 : decode cX8_comes 48 = .ok (.ireturn, 1) := by decide +kernel
theorem dX8_comes_49 : decode cX8_comes 49 = .ok (.aload_n 0, 1) := by decide +kernel
theorem dX8_comes_50 : decode cX8_comes 50 = .ok (.getfield 9, 3) := by decide +kernel
theorem dX8_comes_53 : decode cX8_comes 53 = .ok (.iconst 0, 1) := by decide +kernel
theorem dX8_comes_54 : decode cX8_comes 54 = .ok (.dup2, 1) := by decide +kernel
theorem dX8_comes_55 : decode cX8_comes 55 = .ok (.iaload, 1) := by decide +kernel
theorem dX8_comes_56 : decode cX8_comes 56 = .ok (.iconst 1, 1) := by decide +kernel
theorem dX8_comes_57 : decode cX8_comes 57 = .ok (.iadd, 1) := by decide +kernel
theorem dX8_comes_58 : decode cX8_comes 58 = .ok (.iastore, 1) := by decide +kernel
theorem dX8_comes_59 : decode cX8_comes 59 = .ok (.aload_n 0, 1) := by decide +kernel
theorem dX8_comes_60 : decode cX8_comes 60 = .ok (.iload 4, 2) := by decide +kernel
theorem dX8_comes_62 : decode cX8_comes 62 = .ok (.iconst 0, 1) := by decide +kernel
theorem dX8_comes_63 : decode cX8_comes 63 = .ok (.aload_n 0, 1) := by decide +kernel
theorem dX8_comes_64 : decode cX8_comes 64 = .ok (.getfield 9, 3) := by decide +kernel
theorem dX8_comes_67 : decode cX8_comes 67 = .ok (.iconst 1, 1) := by decide +kernel
theorem dX8_comes_68 : decode cX8_comes 68 = .ok (.iaload, 1) := by decide +kernel
theorem dX8_comes_69 : decode cX8_comes 69 = .ok (.invokevirtual 57, 3) := by decide +kernel
theorem dX8_comes_72 : decode cX8_comes 72 = .ok (.aload_n 0, 1) := by decide +kernel
theorem dX8_comes_73 : decode cX8_comes 73 = .ok (.iload 4, 2) := by decide +kernel
theorem dX8_comes_75 : decode cX8_comes 75 = .ok (.iconst 1, 1) := by decide +kernel
theorem dX8_comes_76 : decode cX8_comes 76 = .ok (.iload_n 1, 1) := by decide +kernel
theorem dX8_comes_77 : decode cX8_comes 77 = .ok (.invokevirtual 57, 3) := by decide +kernel
theorem dX8_comes_80 : decode cX8_comes 80 = .ok (.aload_n 0, 1) := by decide +kernel
theorem dX8_comes_81 : decode cX8_comes 81 = .ok (.iload 4, 2) := by decide +kernel
theorem dX8_comes_83 : decode cX8_comes 83 = .ok (.iconst 2, 1) := by decide +kernel
theorem dX8_comes_84 : decode cX8_comes 84 = .ok (.iload_n 3, 1) := by decide +kernel
theorem dX8_comes_85 : decode cX8_comes 85 = .ok (.invokevirtual 57, 3) := by decide +kernel
theorem dX8_comes_88 : decode cX8_comes 88 = .ok (.aload_n 0, 1) := by decide +kernel
theorem dX8_comes_89 : decode cX8_comes 89 = .ok (.iload 4, 2) := by decide +kernel
theorem dX8_comes_91 : decode cX8_comes 91 = .ok (.iconst 3, 1) := by decide +kernel
theorem dX8_comes_92 : decode cX8_comes 92 = .ok (.aload_n 0, 1) := by decide +kernel
theorem dX8_comes_93 : decode cX8_comes 93 = .ok (.getfield 9, 3) := by decide +kernel
theorem dX8_comes_96 : decode cX8_comes 96 = .ok (.iconst 2, 1) := by decide +kernel
theorem dX8_comes_97 : decode cX8_comes 97 = .ok (.iaload, 1) := by decide +kernel
theorem dX8_comes_98 : decode cX8_comes 98 = .ok (.iload_n 2, 1) := by decide +kernel
theorem dX8_comes_99 : decode cX8_comes 99 = .ok (.iadd, 1) := by decide +kernel
theorem dX8_comes_100 : decode cX8_comes 100 = .ok (.invokevirtual 57, 3) := by decide +kernel
theorem dX8_comes_103 : decode cX8_comes 103 = .ok (.aload_n 0, 1) := by decide +kernel
theorem dX8_comes_104 : decode cX8_comes 104 = .ok (.iload 4, 2) := by decide +kernel
theorem dX8_comes_106 : decode cX8_comes 106 = .ok (.iconst 4, 1) := by decide +kernel
theorem dX8_comes_107 : decode cX8_comes 107 = .ok (.iconst 0, 1) := by decide +kernel
theorem dX8_comes_108 : decode cX8_comes 108 = .ok (.invokevirtual 57, 3) := by decide +kernel
theorem dX8_comes_111 : decode cX8_comes 111 = .ok (.aload_n 0, 1) := by decide +kernel
theorem dX8_comes_112 : decode cX8_comes 112 = .ok (.aload_n 0, 1) := by decide +kernel
theorem dX8_comes_113 : decode cX8_comes 113 = .ok (.getfield 9, 3) := by decide +kernel
theorem dX8_comes_116 : decode cX8_comes 116 = .ok (.iconst 1, 1) := by decide +kernel
theorem dX8_comes_117 : decode cX8_comes 117 = .ok (.iaload, 1) := by decide +kernel
theorem dX8_comes_118 : decode cX8_comes 118 = .ok (.putfield 46, 3) := by decide +kernel
theorem dX8_comes_121 : decode cX8_comes 121 = .ok (.aload_n 0, 1) := by decide +kernel
theorem dX8_comes_122 : decode cX8_comes 122 = .ok (.getfield 9, 3) := by decide +kernel
theorem dX8_comes_125 : decode cX8_comes 125 = .ok (.iconst 1, 1) := by decide +kernel
theorem dX8_comes_126 : decode cX8_comes 126 = .ok (.dup2, 1) := by decide +kernel
theorem dX8_comes_127 : decode cX8_comes 127 = .ok (.iaload, 1) := by decide +kernel
theorem dX8_comes_128 : decode cX8_comes 128 = .ok (.iconst 1, 1) := by decide +kernel
theorem dX8_comes_129 : decode cX8_comes 129 = .ok (.iadd, 1) := by decide +kernel
theorem dX8_comes_130 : decode cX8_comes 130 = .ok (.iastore, 1) := by decide +kernel
theorem dX8_comes_131 : decode cX8_comes 131 = .ok (.iconst 0, 1) := by decide +kernel
theorem dX8_comes_132 : decode cX8_comes 132 = .ok (.ireturn, 1) := by decide +kernel
theorem dX8_addComet_0 : decode cX8_addComet 0 = .ok (.aload_n 0, 1) := by decide +kernel
theorem dX8_addComet_1 : decode cX8_addComet 1 = .ok (.invokevirtual 73, 3) := by decide +kernel
theorem dX8_addComet_4 : decode cX8_addComet 4 = .ok (.aload_n 0, 1) := by decide +kernel
theorem dX8_addComet_5 : decode cX8_addComet 5 = .ok (.aload_n 0, 1) := by decide +kernel
theorem dX8_addComet_6 : decode cX8_addComet 6 = .ok (.iload_n 1, 1) := by decide +kernel
theorem dX8_addComet_7 : decode cX8_addComet 7 = .ok (.iload_n 2, 1) := by decide +kernel
theorem dX8_addComet_8 : decode cX8_addComet 8 = .ok (.iload_n 3, 1) := by decide +kernel
theorem dX8_addComet_9 : decode cX8_addComet 9 = .ok (.invokevirtual 76, 3) := by decide +kernel
theorem dX8_addComet_12 : decode cX8_addComet 12 = .ok (.iconst 0, 1) := by decide +kernel
theorem dX8_addComet_13 : decode cX8_addComet 13 = .ok (.iconst 1, 1) := by decide +kernel
theorem dX8_addComet_14 : decode cX8_addComet 14 = .ok (.iconst 2, 1) := by decide +kernel
theorem dX8_addComet_15 : decode cX8_addComet 15 = .ok (.iconst 0, 1) := by decide +kernel
theorem dX8_addComet_16 : decode cX8_addComet 16 = .ok (.invokevirtual 80, 3) := by decide +kernel
theorem dX8_addComet_19 : decode cX8_addComet 19 = .ok (.ireturn, 1) := by decide +kernel
theorem dX8_drops_0 : decode cX8_drops 0 = .ok (.aload_n 0, 1) := by decide +kernel
theorem dX8_drops_1 : decode cX8_drops 1 = .ok (.iload_n 1, 1) := by decide +kernel
theorem dX8_drops_2 : decode cX8_drops 2 = .ok (.invokevirtual 84, 3) := by decide +kernel
theorem dX8_drops_5 : decode cX8_drops 5 = .ok (.ifCond .ne 5, 3) := by decide +kernel
theorem dX8_drops_8 : decode cX8_drops 8 = .ok (.iconst 1, 1) := by decide +kernel
theorem dX8_drops_9 : decode cX8_drops 9 = .ok (.ireturn, 1) := by decide +kernel
theorem dX8_drops_10 : decode cX8_drops 10 = .ok (.aload_n 0, 1) := by decide +kernel
theorem dX8_drops_11 : decode cX8_drops 11 = .ok (.getfield 9, 3) := by decide +kernel
theorem dX8_drops_14 : decode cX8_drops 14 = .ok (.iconst 3, 1) := by decide +kernel
theorem dX8_drops_15 : decode cX8_drops 15 = .ok (.dup2, 1) := by decide +kernel
theorem dX8_drops_16 : decode cX8_drops 16 = .ok (.iaload, 1) := by decide +kernel
theorem dX8_drops_17 : decode cX8_drops 17 = .ok (.aload_n 0, 1) := by decide +kernel
theorem dX8_drops_18 : decode cX8_drops 18 = .ok (.aload_n 0, 1) := by decide +kernel
theorem dX8_drops_19 : decode cX8_drops 19 = .ok (.iload_n 1, 1) := by decide +kernel
theorem dX8_drops_20 : decode cX8_drops 20 = .ok (.invokevirtual 53, 3) := by decide +kernel
theorem dX8_drops_23 : decode cX8_drops 23 = .ok (.iconst 2, 1) := by decide +kernel
theorem dX8_drops_24 : decode cX8_drops 24 = .ok (.invokevirtual 49, 3) := by decide +kernel
theorem dX8_drops_27 : decode cX8_drops 27 = .ok (.iadd, 1) := by decide +kernel
theorem dX8_drops_28 : decode cX8_drops 28 = .ok (.iastore, 1) := by decide +kernel
theorem dX8_drops_29 : decode cX8_drops 29 = .ok (.aload_n 0, 1) := by decide +kernel
theorem dX8_drops_30 : decode cX8_drops 30 = .ok (.aload_n 0, 1) := by decide +kernel
theorem dX8_drops_31 : decode cX8_drops 31 = .ok (.iload_n 1, 1) := by decide +kernel
theorem dX8_drops_32 : decode cX8_drops 32 = .ok (.invokevirtual 53, 3) := by decide +kernel
theorem dX8_drops_35 : decode cX8_drops 35 = .ok (.invokevirtual 65, 3) := by decide +kernel
theorem dX8_drops_38 : decode cX8_drops 38 = .ok (.aload_n 0, 1) := by decide +kernel
theorem dX8_drops_39 : decode cX8_drops 39 = .ok (.aload_n 0, 1) := by decide +kernel
theorem dX8_drops_40 : decode cX8_drops 40 = .ok (.getfield 9, 3) := by decide +kernel
theorem dX8_drops_43 : decode cX8_drops 43 = .ok (.iconst 3, 1) := by decide +kernel
theorem dX8_drops_44 : decode cX8_drops 44 = .ok (.iaload, 1) := by decide +kernel
theorem dX8_drops_45 : decode cX8_drops 45 = .ok (.putfield 46, 3) := by decide +kernel
theorem dX8_drops_48 : decode cX8_drops 48 = .ok (.iconst 0, 1) := by decide +kernel
theorem dX8_drops_49 : decode cX8_drops 49 = .ok (.ireturn, 1) := by decide +kernel
theorem dX8_remove_0 : decode cX8_remove 0 = .ok (.aload_n 0, 1) := by decide +kernel
theorem dX8_remove_1 : decode cX8_remove 1 = .ok (.invokevirtual 73, 3) := by decide +kernel
theorem dX8_remove_4 : decode cX8_remove 4 = .ok (.aload_n 0, 1) := by decide +kernel
theorem dX8_remove_5 : decode cX8_remove 5 = .ok (.aload_n 0, 1) := by decide +kernel
theorem dX8_remove_6 : decode cX8_remove 6 = .ok (.iload_n 1, 1) := by decide +kernel
theorem dX8_remove_7 : decode cX8_remove 7 = .ok (.invokevirtual 87, 3) := by decide +kernel
theorem dX8_remove_10 : decode cX8_remove 10 = .ok (.iconst 1, 1) := by decide +kernel
theorem dX8_remove_11 : decode cX8_remove 11 = .ok (.iconst 0, 1) := by decide +kernel
theorem dX8_remove_12 : decode cX8_remove 12 = .ok (.iconst 0, 1) := by decide +kernel
theorem dX8_remove_13 : decode cX8_remove 13 = .ok (.iconst 0, 1) := by decide +kernel
theorem dX8_remove_14 : decode cX8_remove 14 = .ok (.invokevirtual 80, 3) := by decide +kernel
theorem dX8_remove_17 : decode cX8_remove 17 = .ok (.ireturn, 1) := by decide +kernel
theorem dX8_turns_0 : decode cX8_turns 0 = .ok (.aload_n 0, 1) := by decide +kernel
theorem dX8_turns_1 : decode cX8_turns 1 = .ok (.iload_n 1, 1) := by decide +kernel
theorem dX8_turns_2 : decode cX8_turns 2 = .ok (.invokevirtual 84, 3) := by decide +kernel
theorem dX8_turns_5 : decode cX8_turns 5 = .ok (.ifCond .ne 5, 3) := by decide +kernel
theorem dX8_turns_8 : decode cX8_turns 8 = .ok (.iconst 1, 1) := by decide +kernel
theorem dX8_turns_9 : decode cX8_turns 9 = .ok (.ireturn, 1) := by decide +kernel
theorem dX8_turns_10 : decode cX8_turns 10 = .ok (.iload_n 2, 1) := by decide +kernel
theorem dX8_turns_11 : decode cX8_turns 11 = .ok (.iconst 2, 1) := by decide +kernel
theorem dX8_turns_12 : decode cX8_turns 12 = .ok (.bipush 60, 2) := by decide +kernel
theorem dX8_turns_14 : decode cX8_turns 14 = .ok (.invokestatic 69, 3) := by decide +kernel
theorem dX8_turns_17 : decode cX8_turns 17 = .ok (.ifCond .ne 5, 3) := by decide +kernel
theorem dX8_turns_20 : decode cX8_turns 20 = .ok (.iconst 2, 1) := by decide +kernel
theorem dX8_turns_21 : decode cX8_turns 21 = .ok (.ireturn, 1) := by decide +kernel
theorem dX8_turns_22 : decode cX8_turns 22 = .ok (.aload_n 0, 1) := by decide +kernel
theorem dX8_turns_23 : decode cX8_turns 23 = .ok (.aload_n 0, 1) := by decide +kernel
theorem dX8_turns_24 : decode cX8_turns 24 = .ok (.aload_n 0, 1) := by decide +kernel
theorem dX8_turns_25 : decode cX8_turns 25 = .ok (.iload_n 1, 1) := by decide +kernel
theorem dX8_turns_26 : decode cX8_turns 26 = .ok (.invokevirtual 53, 3) := by decide +kernel
theorem dX8_turns_29 : decode cX8_turns 29 = .ok (.iconst 1, 1) := by decide +kernel
theorem dX8_turns_30 : decode cX8_turns 30 = .ok (.invokevirtual 49, 3) := by decide +kernel
theorem dX8_turns_33 : decode cX8_turns 33 = .ok (.putfield 46, 3) := by decide +kernel
theorem dX8_turns_36 : decode cX8_turns 36 = .ok (.aload_n 0, 1) := by decide +kernel
theorem dX8_turns_37 : decode cX8_turns 37 = .ok (.aload_n 0, 1) := by decide +kernel
theorem dX8_turns_38 : decode cX8_turns 38 = .ok (.iload_n 1, 1) := by decide +kernel
theorem dX8_turns_39 : decode cX8_turns 39 = .ok (.invokevirtual 53, 3) := by decide +kernel
theorem dX8_turns_42 : decode cX8_turns 42 = .ok (.iconst 1, 1) := by decide +kernel
theorem dX8_turns_43 : decode cX8_turns 43 = .ok (.iload_n 2, 1) := by decide +kernel
theorem dX8_turns_44 : decode cX8_turns 44 = .ok (.invokevirtual 57, 3) := by decide +kernel
theorem dX8_turns_47 : decode cX8_turns 47 = .ok (.iconst 0, 1) := by decide +kernel
theorem dX8_turns_48 : decode cX8_turns 48 = .ok (.ireturn, 1) := by decide +kernel
theorem dX8_setPeriod_0 : decode cX8_setPeriod 0 = .ok (.aload_n 0, 1) := by decide +kernel
theorem dX8_setPeriod_1 : decode cX8_setPeriod 1 = .ok (.invokevirtual 73, 3) := by decide +kernel
theorem dX8_setPeriod_4 : decode cX8_setPeriod 4 = .ok (.aload_n 0, 1) := by decide +kernel
theorem dX8_setPeriod_5 : decode cX8_setPeriod 5 = .ok (.aload_n 0, 1) := by decide +kernel
theorem dX8_setPeriod_6 : decode cX8_setPeriod 6 = .ok (.iload_n 1, 1) := by decide +kernel
theorem dX8_setPeriod_7 : decode cX8_setPeriod 7 = .ok (.iload_n 2, 1) := by decide +kernel
theorem dX8_setPeriod_8 : decode cX8_setPeriod 8 = .ok (.invokevirtual 90, 3) := by decide +kernel
theorem dX8_setPeriod_11 : decode cX8_setPeriod 11 = .ok (.iconst 1, 1) := by decide +kernel
theorem dX8_setPeriod_12 : decode cX8_setPeriod 12 = .ok (.iconst 2, 1) := by decide +kernel
theorem dX8_setPeriod_13 : decode cX8_setPeriod 13 = .ok (.iconst 0, 1) := by decide +kernel
theorem dX8_setPeriod_14 : decode cX8_setPeriod 14 = .ok (.iconst 0, 1) := by decide +kernel
theorem dX8_setPeriod_15 : decode cX8_setPeriod 15 = .ok (.invokevirtual 80, 3) := by decide +kernel
theorem dX8_setPeriod_18 : decode cX8_setPeriod 18 = .ok (.ireturn, 1) := by decide +kernel
theorem dX8_shines_0 : decode cX8_shines 0 = .ok (.aload_n 0, 1) := by decide +kernel
theorem dX8_shines_1 : decode cX8_shines 1 = .ok (.iload_n 1, 1) := by decide +kernel
theorem dX8_shines_2 : decode cX8_shines 2 = .ok (.invokevirtual 84, 3) := by decide +kernel
theorem dX8_shines_5 : decode cX8_shines 5 = .ok (.ifCond .ne 5, 3) := by decide +kernel
theorem dX8_shines_8 : decode cX8_shines 8 = .ok (.iconst 1, 1) := by decide +kernel
theorem dX8_shines_9 : decode cX8_shines 9 = .ok (.ireturn, 1) := by decide +kernel
theorem dX8_shines_10 : decode cX8_shines 10 = .ok (.iload_n 2, 1) := by decide +kernel
theorem dX8_shines_11 : decode cX8_shines 11 = .ok (.iconst 1, 1) := by decide +kernel
theorem dX8_shines_12 : decode cX8_shines 12 = .ok (.bipush 19, 2) := by decide +kernel
theorem dX8_shines_14 : decode cX8_shines 14 = .ok (.invokestatic 69, 3) := by decide +kernel
theorem dX8_shines_17 : decode cX8_shines 17 = .ok (.ifCond .ne 5, 3) := by decide +kernel
theorem dX8_shines_20 : decode cX8_shines 20 = .ok (.iconst 2, 1) := by decide +kernel
theorem dX8_shines_21 : decode cX8_shines 21 = .ok (.ireturn, 1) := by decide +kernel
theorem dX8_shines_22 : decode cX8_shines 22 = .ok (.aload_n 0, 1) := by decide +kernel
theorem dX8_shines_23 : decode cX8_shines 23 = .ok (.aload_n 0, 1) := by decide +kernel
theorem dX8_shines_24 : decode cX8_shines 24 = .ok (.iload_n 1, 1) := by decide +kernel
theorem dX8_shines_25 : decode cX8_shines 25 = .ok (.invokevirtual 53, 3) := by decide +kernel
theorem dX8_shines_28 : decode cX8_shines 28 = .ok (.iconst 2, 1) := by decide +kernel
theorem dX8_shines_29 : decode cX8_shines 29 = .ok (.invokevirtual 49, 3) := by decide +kernel
theorem dX8_shines_32 : decode cX8_shines 32 = .ok (.iload_n 2, 1) := by decide +kernel
theorem dX8_shines_33 : decode cX8_shines 33 = .ok (.iadd, 1) := by decide +kernel
theorem dX8_shines_34 : decode cX8_shines 34 = .ok (.istore_n 3, 1) := by decide +kernel
theorem dX8_shines_35 : decode cX8_shines 35 = .ok (.iload_n 3, 1) := by decide +kernel
theorem dX8_shines_36 : decode cX8_shines 36 = .ok (.bipush 20, 2) := by decide +kernel
theorem dX8_shines_38 : decode cX8_shines 38 = .ok (.if_icmp .le 5, 3) := by decide +kernel
theorem dX8_shines_41 : decode cX8_shines 41 = .ok (.iconst 3, 1) := by decide +kernel
theorem dX8_shines_42 : decode cX8_shines 42 = .ok (.ireturn, 1) := by decide +kernel
theorem dX8_shines_43 : decode cX8_shines 43 = .ok (.aload_n 0, 1) := by decide +kernel
theorem dX8_shines_44 : decode cX8_shines 44 = .ok (.getfield 9, 3) := by decide +kernel
theorem dX8_shines_47 : decode cX8_shines 47 = .ok (.iconst 3, 1) := by decide +kernel
theorem dX8_shines_48 : decode cX8_shines 48 = .ok (.iaload, 1) := by decide +kernel
theorem dX8_shines_49 : decode cX8_shines 49 = .ok (.iconst 3, 1) := by decide +kernel
theorem dX8_shines_50 : decode cX8_shines 50 = .ok (.iload_n 2, 1) := by decide +kernel
theorem dX8_shines_51 : decode cX8_shines 51 = .ok (.imul, 1) := by decide +kernel
theorem dX8_shines_52 : decode cX8_shines 52 = .ok (.if_icmp .ge 5, 3) := by decide +kernel
theorem dX8_shines_55 : decode cX8_shines 55 = .ok (.iconst 4, 1) := by decide +kernel
theorem dX8_shines_56 : decode cX8_shines 56 = .ok (.ireturn, 1) := by decide +kernel
theorem dX8_shines_57 : decode cX8_shines 57 = .ok (.aload_n 0, 1) := by decide +kernel
theorem dX8_shines_58 : decode cX8_shines 58 = .ok (.getfield 9, 3) := by decide +kernel
theorem dX8_shines_61 : decode cX8_shines 61 = .ok (.iconst 3, 1) := by decide +kernel
theorem dX8_shines_62 : decode cX8_shines 62 = .ok (.dup2, 1) := by decide +kernel
theorem dX8_shines_63 : decode cX8_shines 63 = .ok (.iaload, 1) := by decide +kernel
theorem dX8_shines_64 : decode cX8_shines 64 = .ok (.iconst 3, 1) := by decide +kernel
theorem dX8_shines_65 : decode cX8_shines 65 = .ok (.iload_n 2, 1) := by decide +kernel
theorem dX8_shines_66 : decode cX8_shines 66 = .ok (.imul, 1) := by decide +kernel
theorem dX8_shines_67 : decode cX8_shines 67 = .ok (.isub, 1) := by decide +kernel
theorem dX8_shines_68 : decode cX8_shines 68 = .ok (.iastore, 1) := by decide +kernel
theorem dX8_shines_69 : decode cX8_shines 69 = .ok (.aload_n 0, 1) := by decide +kernel
theorem dX8_shines_70 : decode cX8_shines 70 = .ok (.aload_n 0, 1) := by decide +kernel
theorem dX8_shines_71 : decode cX8_shines 71 = .ok (.iload_n 1, 1) := by decide +kernel
theorem dX8_shines_72 : decode cX8_shines 72 = .ok (.invokevirtual 53, 3) := by decide +kernel
theorem dX8_shines_75 : decode cX8_shines 75 = .ok (.iconst 2, 1) := by decide +kernel
theorem dX8_shines_76 : decode cX8_shines 76 = .ok (.iload_n 3, 1) := by decide +kernel
theorem dX8_shines_77 : decode cX8_shines 77 = .ok (.invokevirtual 57, 3) := by decide +kernel
theorem dX8_shines_80 : decode cX8_shines 80 = .ok (.aload_n 0, 1) := by decide +kernel
theorem dX8_shines_81 : decode cX8_shines 81 = .ok (.iload_n 3, 1) := by decide +kernel
theorem dX8_shines_82 : decode cX8_shines 82 = .ok (.putfield 46, 3) := by decide +kernel
theorem dX8_shines_85 : decode cX8_shines 85 = .ok (.iconst 0, 1) := by decide +kernel
theorem dX8_shines_86 : decode cX8_shines 86 = .ok (.ireturn, 1) := by decide +kernel
theorem dX8_brighten_0 : decode cX8_brighten 0 = .ok (.aload_n 0, 1) := by decide +kernel
theorem dX8_brighten_1 : decode cX8_brighten 1 = .ok (.invokevirtual 73, 3) := by decide +kernel
theorem dX8_brighten_4 : decode cX8_brighten 4 = .ok (.aload_n 0, 1) := by decide +kernel
theorem dX8_brighten_5 : decode cX8_brighten 5 = .ok (.aload_n 0, 1) := by decide +kernel
theorem dX8_brighten_6 : decode cX8_brighten 6 = .ok (.iload_n 1, 1) := by decide +kernel
theorem dX8_brighten_7 : decode cX8_brighten 7 = .ok (.iload_n 2, 1) := by decide +kernel
theorem dX8_brighten_8 : decode cX8_brighten 8 = .ok (.invokevirtual 93, 3) := by decide +kernel
theorem dX8_brighten_11 : decode cX8_brighten 11 = .ok (.iconst 1, 1) := by decide +kernel
theorem dX8_brighten_12 : decode cX8_brighten 12 = .ok (.iconst 2, 1) := by decide +kernel
theorem dX8_brighten_13 : decode cX8_brighten 13 = .ok (.iconst 3, 1) := by decide +kernel
theorem dX8_brighten_14 : decode cX8_brighten 14 = .ok (.iconst 4, 1) := by decide +kernel
theorem dX8_brighten_15 : decode cX8_brighten 15 = .ok (.invokevirtual 80, 3) := by decide +kernel
theorem dX8_brighten_18 : decode cX8_brighten 18 = .ok (.ireturn, 1) := by decide +kernel
theorem dX8_goOn_0 : decode cX8_goOn 0 = .ok (.iload_n 1, 1) := by decide +kernel
theorem dX8_goOn_1 : decode cX8_goOn 1 = .ok (.iconst 1, 1) := by decide +kernel
theorem dX8_goOn_2 : decode cX8_goOn 2 = .ok (.bipush 60, 2) := by decide +kernel
theorem dX8_goOn_4 : decode cX8_goOn 4 = .ok (.invokestatic 69, 3) := by decide +kernel
theorem dX8_goOn_7 : decode cX8_goOn 7 = .ok (.ifCond .ne 5, 3) := by decide +kernel
theorem dX8_goOn_10 : decode cX8_goOn 10 = .ok (.iconst 2, 1) := by decide +kernel
theorem dX8_goOn_11 : decode cX8_goOn 11 = .ok (.ireturn, 1) := by decide +kernel
theorem dX8_goOn_12 : decode cX8_goOn 12 = .ok (.aload_n 0, 1) := by decide +kernel
theorem dX8_goOn_13 : decode cX8_goOn 13 = .ok (.iconst 0, 1) := by decide +kernel
theorem dX8_goOn_14 : decode cX8_goOn 14 = .ok (.putfield 46, 3) := by decide +kernel
theorem dX8_goOn_17 : decode cX8_goOn 17 = .ok (.iconst 0, 1) := by decide +kernel
theorem dX8_goOn_18 : decode cX8_goOn 18 = .ok (.istore_n 2, 1) := by decide +kernel
theorem dX8_goOn_19 : decode cX8_goOn 19 = .ok (.iload_n 2, 1) := by decide +kernel
theorem dX8_goOn_20 : decode cX8_goOn 20 = .ok (.iload_n 1, 1) := by decide +kernel
theorem dX8_goOn_21 : decode cX8_goOn 21 = .ok (.if_icmp .ge 22, 3) := by decide +kernel
theorem dX8_goOn_24 : decode cX8_goOn 24 = .ok (.aload_n 0, 1) := by decide +kernel
theorem dX8_goOn_25 : decode cX8_goOn 25 = .ok (.dup, 1) := by decide +kernel
theorem dX8_goOn_26 : decode cX8_goOn 26 = .ok (.getfield 46, 3) := by decide +kernel
theorem dX8_goOn_29 : decode cX8_goOn 29 = .ok (.aload_n 0, 1) := by decide +kernel
theorem dX8_goOn_30 : decode cX8_goOn 30 = .ok (.invokevirtual 96, 3) := by decide +kernel
theorem dX8_goOn_33 : decode cX8_goOn 33 = .ok (.iadd, 1) := by decide +kernel
theorem dX8_goOn_34 : decode cX8_goOn 34 = .ok (.putfield 46, 3) := by decide +kernel
theorem dX8_goOn_37 : decode cX8_goOn 37 = .ok (.iinc 2 1, 3) := by decide +kernel
theorem dX8_goOn_40 : decode cX8_goOn 40 = .ok (.goto (-21), 3) := by decide +kernel
theorem dX8_goOn_43 : decode cX8_goOn 43 = .ok (.iconst 0, 1) := by decide +kernel
theorem dX8_goOn_44 : decode cX8_goOn 44 = .ok (.ireturn, 1) := by decide +kernel
theorem dX8_passDays_0 : decode cX8_passDays 0 = .ok (.aload_n 0, 1) := by decide +kernel
theorem dX8_passDays_1 : decode cX8_passDays 1 = .ok (.invokevirtual 73, 3) := by decide +kernel
theorem dX8_passDays_4 : decode cX8_passDays 4 = .ok (.aload_n 0, 1) := by decide +kernel
theorem dX8_passDays_5 : decode cX8_passDays 5 = .ok (.aload_n 0, 1) := by decide +kernel
theorem dX8_passDays_6 : decode cX8_passDays 6 = .ok (.iload_n 1, 1) := by decide +kernel
theorem dX8_passDays_7 : decode cX8_passDays 7 = .ok (.invokevirtual 100, 3) := by decide +kernel
theorem dX8_passDays_10 : decode cX8_passDays 10 = .ok (.iconst 0, 1) := by decide +kernel
theorem dX8_passDays_11 : decode cX8_passDays 11 = .ok (.iconst 1, 1) := by decide +kernel
theorem dX8_passDays_12 : decode cX8_passDays 12 = .ok (.iconst 0, 1) := by decide +kernel
theorem dX8_passDays_13 : decode cX8_passDays 13 = .ok (.iconst 0, 1) := by decide +kernel
theorem dX8_passDays_14 : decode cX8_passDays 14 = .ok (.invokevirtual 80, 3) := by decide +kernel
theorem dX8_passDays_17 : decode cX8_passDays 17 = .ok (.ireturn, 1) := by decide +kernel
theorem dX8_dustOf_0 : decode cX8_dustOf 0 = .ok (.iconst 0, 1) := by decide +kernel
theorem dX8_dustOf_1 : decode cX8_dustOf 1 = .ok (.istore_n 3, 1) := by decide +kernel
theorem dX8_dustOf_2 : decode cX8_dustOf 2 = .ok (.iconst 0, 1) := by decide +kernel
theorem dX8_dustOf_3 : decode cX8_dustOf 3 = .ok (.istore 4, 2) := by decide +kernel
theorem dX8_dustOf_5 : decode cX8_dustOf 5 = .ok (.iload 4, 2) := by decide +kernel
theorem dX8_dustOf_7 : decode cX8_dustOf 7 = .ok (.iload_n 2, 1) := by decide +kernel
theorem dX8_dustOf_8 : decode cX8_dustOf 8 = .ok (.if_icmp .ge 27, 3) := by decide +kernel
theorem dX8_dustOf_11 : decode cX8_dustOf 11 = .ok (.iload_n 3, 1) := by decide +kernel
theorem dX8_dustOf_12 : decode cX8_dustOf 12 = .ok (.aload_n 0, 1) := by decide +kernel
theorem dX8_dustOf_13 : decode cX8_dustOf 13 = .ok (.getfield 9, 3) := by decide +kernel
theorem dX8_dustOf_16 : decode cX8_dustOf 16 = .ok (.bipush 37, 2) := by decide +kernel
theorem dX8_dustOf_18 : decode cX8_dustOf 18 = .ok (.iload_n 1, 1) := by decide +kernel
theorem dX8_dustOf_19 : decode cX8_dustOf 19 = .ok (.iload 4, 2) := by decide +kernel
theorem dX8_dustOf_21 : decode cX8_dustOf 21 = .ok (.iadd, 1) := by decide +kernel
theorem dX8_dustOf_22 : decode cX8_dustOf 22 = .ok (.bipush 12, 2) := by decide +kernel
theorem dX8_dustOf_24 : decode cX8_dustOf 24 = .ok (.irem, 1) := by decide +kernel
theorem dX8_dustOf_25 : decode cX8_dustOf 25 = .ok (.iadd, 1) := by decide +kernel
theorem dX8_dustOf_26 : decode cX8_dustOf 26 = .ok (.iaload, 1) := by decide +kernel
theorem dX8_dustOf_27 : decode cX8_dustOf 27 = .ok (.iadd, 1) := by decide +kernel
theorem dX8_dustOf_28 : decode cX8_dustOf 28 = .ok (.istore_n 3, 1) := by decide +kernel
theorem dX8_dustOf_29 : decode cX8_dustOf 29 = .ok (.iinc 4 1, 3) := by decide +kernel
theorem dX8_dustOf_32 : decode cX8_dustOf 32 = .ok (.goto (-27), 3) := by decide +kernel
theorem dX8_dustOf_35 : decode cX8_dustOf 35 = .ok (.iload_n 3, 1) := by decide +kernel
theorem dX8_dustOf_36 : decode cX8_dustOf 36 = .ok (.ireturn, 1) := by decide +kernel
theorem dX8_cleans_0 : decode cX8_cleans 0 = .ok (.iload_n 1, 1) := by decide +kernel
theorem dX8_cleans_1 : decode cX8_cleans 1 = .ok (.iconst 0, 1) := by decide +kernel
theorem dX8_cleans_2 : decode cX8_cleans 2 = .ok (.bipush 11, 2) := by decide +kernel
theorem dX8_cleans_4 : decode cX8_cleans 4 = .ok (.invokestatic 69, 3) := by decide +kernel
theorem dX8_cleans_7 : decode cX8_cleans 7 = .ok (.ifCond .ne 5, 3) := by decide +kernel
theorem dX8_cleans_10 : decode cX8_cleans 10 = .ok (.iconst 1, 1) := by decide +kernel
theorem dX8_cleans_11 : decode cX8_cleans 11 = .ok (.ireturn, 1) := by decide +kernel
theorem dX8_cleans_12 : decode cX8_cleans 12 = .ok (.iload_n 2, 1) := by decide +kernel
theorem dX8_cleans_13 : decode cX8_cleans 13 = .ok (.iconst 1, 1) := by decide +kernel
theorem dX8_cleans_14 : decode cX8_cleans 14 = .ok (.bipush 12, 2) := by decide +kernel
theorem dX8_cleans_16 : decode cX8_cleans 16 = .ok (.invokestatic 69, 3) := by decide +kernel
theorem dX8_cleans_19 : decode cX8_cleans 19 = .ok (.ifCond .ne 5, 3) := by decide +kernel
theorem dX8_cleans_22 : decode cX8_cleans 22 = .ok (.iconst 2, 1) := by decide +kernel
theorem dX8_cleans_23 : decode cX8_cleans 23 = .ok (.ireturn, 1) := by decide +kernel
theorem dX8_cleans_24 : decode cX8_cleans 24 = .ok (.aload_n 0, 1) := by decide +kernel
theorem dX8_cleans_25 : decode cX8_cleans 25 = .ok (.iload_n 1, 1) := by decide +kernel
theorem dX8_cleans_26 : decode cX8_cleans 26 = .ok (.iload_n 2, 1) := by decide +kernel
theorem dX8_cleans_27 : decode cX8_cleans 27 = .ok (.invokevirtual 103, 3) := by decide +kernel
theorem dX8_cleans_30 : decode cX8_cleans 30 = .ok (.istore_n 3, 1) := by decide +kernel
theorem dX8_cleans_31 : decode cX8_cleans 31 = .ok (.aload_n 0, 1) := by decide +kernel
theorem dX8_cleans_32 : decode cX8_cleans 32 = .ok (.getfield 9, 3) := by decide +kernel
theorem dX8_cleans_35 : decode cX8_cleans 35 = .ok (.iconst 3, 1) := by decide +kernel
theorem dX8_cleans_36 : decode cX8_cleans 36 = .ok (.iaload, 1) := by decide +kernel
theorem dX8_cleans_37 : decode cX8_cleans 37 = .ok (.iload_n 3, 1) := by decide +kernel
theorem dX8_cleans_38 : decode cX8_cleans 38 = .ok (.iadd, 1) := by decide +kernel
theorem dX8_cleans_39 : decode cX8_cleans 39 = .ok (.aload_n 0, 1) := by decide +kernel
theorem dX8_cleans_40 : decode cX8_cleans 40 = .ok (.getfield 9, 3) := by decide +kernel
theorem dX8_cleans_43 : decode cX8_cleans 43 = .ok (.iconst 4, 1) := by decide +kernel
theorem dX8_cleans_44 : decode cX8_cleans 44 = .ok (.iaload, 1) := by decide +kernel
theorem dX8_cleans_45 : decode cX8_cleans 45 = .ok (.iload_n 2, 1) := by decide +kernel
theorem dX8_cleans_46 : decode cX8_cleans 46 = .ok (.imul, 1) := by decide +kernel
theorem dX8_cleans_47 : decode cX8_cleans 47 = .ok (.isub, 1) := by decide +kernel
theorem dX8_cleans_48 : decode cX8_cleans 48 = .ok (.ifCond .ge 5, 3) := by decide +kernel
theorem dX8_cleans_51 : decode cX8_cleans 51 = .ok (.iconst 3, 1) := by decide +kernel
theorem dX8_cleans_52 : decode cX8_cleans 52 = .ok (.ireturn, 1) := by decide +kernel
theorem dX8_cleans_53 : decode cX8_cleans 53 = .ok (.aload_n 0, 1) := by decide +kernel
theorem dX8_cleans_54 : decode cX8_cleans 54 = .ok (.getfield 9, 3) := by decide +kernel
theorem dX8_cleans_57 : decode cX8_cleans 57 = .ok (.iconst 3, 1) := by decide +kernel
theorem dX8_cleans_58 : decode cX8_cleans 58 = .ok (.dup2, 1) := by decide +kernel
theorem dX8_cleans_59 : decode cX8_cleans 59 = .ok (.iaload, 1) := by decide +kernel
theorem dX8_cleans_60 : decode cX8_cleans 60 = .ok (.iload_n 3, 1) := by decide +kernel
theorem dX8_cleans_61 : decode cX8_cleans 61 = .ok (.aload_n 0, 1) := by decide +kernel
theorem dX8_cleans_62 : decode cX8_cleans 62 = .ok (.getfield 9, 3) := by decide +kernel
theorem dX8_cleans_65 : decode cX8_cleans 65 = .ok (.iconst 4, 1) := by decide +kernel
theorem dX8_cleans_66 : decode cX8_cleans 66 = .ok (.iaload, 1) := by decide +kernel
theorem dX8_cleans_67 : decode cX8_cleans 67 = .ok (.iload_n 2, 1) := by decide +kernel
theorem dX8_cleans_68 : decode cX8_cleans 68 = .ok (.imul, 1) := by decide +kernel
theorem dX8_cleans_69 : decode cX8_cleans 69 = .ok (.isub, 1) := by decide +kernel
theorem dX8_cleans_70 : decode cX8_cleans 70 = .ok (.iadd, 1) := by decide +kernel
theorem dX8_cleans_71 : decode cX8_cleans 71 = .ok (.iastore, 1) := by decide +kernel
theorem dX8_cleans_72 : decode cX8_cleans 72 = .ok (.iconst 0, 1) := by decide +kernel
theorem dX8_cleans_73 : decode cX8_cleans 73 = .ok (.istore 4, 2) := by decide +kernel
theorem dX8_cleans_75 : decode cX8_cleans 75 = .ok (.iload 4, 2) := by decide +kernel
theorem dX8_cleans_77 : decode cX8_cleans 77 = .ok (.iload_n 2, 1) := by decide +kernel
theorem dX8_cleans_78 : decode cX8_cleans 78 = .ok (.if_icmp .ge 25, 3) := by decide +kernel
theorem dX8_cleans_81 : decode cX8_cleans 81 = .ok (.aload_n 0, 1) := by decide +kernel
theorem dX8_cleans_82 : decode cX8_cleans 82 = .ok (.getfield 9, 3) := by decide +kernel
theorem dX8_cleans_85 : decode cX8_cleans 85 = .ok (.bipush 37, 2) := by decide +kernel
theorem dX8_cleans_87 : decode cX8_cleans 87 = .ok (.iload_n 1, 1) := by decide +kernel
theorem dX8_cleans_88 : decode cX8_cleans 88 = .ok (.iload 4, 2) := by decide +kernel
theorem dX8_cleans_90 : decode cX8_cleans 90 = .ok (.iadd, 1) := by decide +kernel
theorem dX8_cleans_91 : decode cX8_cleans 91 = .ok (.bipush 12, 2) := by decide +kernel
theorem dX8_cleans_93 : decode cX8_cleans 93 = .ok (.irem, 1) := by decide +kernel
theorem dX8_cleans_94 : decode cX8_cleans 94 = .ok (.iadd, 1) := by decide +kernel
theorem dX8_cleans_95 : decode cX8_cleans 95 = .ok (.iconst 0, 1) := by decide +kernel
theorem dX8_cleans_96 : decode cX8_cleans 96 = .ok (.iastore, 1) := by decide +kernel
theorem dX8_cleans_97 : decode cX8_cleans 97 = .ok (.iinc 4 1, 3) := by decide +kernel
theorem dX8_cleans_100 : decode cX8_cleans 100 = .ok (.goto (-25), 3) := by decide +kernel
theorem dX8_cleans_103 : decode cX8_cleans 103 = .ok (.aload_n 0, 1) := by decide +kernel
theorem dX8_cleans_104 : decode cX8_cleans 104 = .ok (.iload_n 3, 1) := by decide +kernel
theorem dX8_cleans_105 : decode cX8_cleans 105 = .ok (.putfield 46, 3) := by decide +kernel
theorem dX8_cleans_108 : decode cX8_cleans 108 = .ok (.iconst 0, 1) := by decide +kernel
theorem dX8_cleans_109 : decode cX8_cleans 109 = .ok (.ireturn, 1) := by decide +kernel
theorem dX8_clean_0 : decode cX8_clean 0 = .ok (.aload_n 0, 1) := by decide +kernel
theorem dX8_clean_1 : decode cX8_clean 1 = .ok (.invokevirtual 73, 3) := by decide +kernel
theorem dX8_clean_4 : decode cX8_clean 4 = .ok (.aload_n 0, 1) := by decide +kernel
theorem dX8_clean_5 : decode cX8_clean 5 = .ok (.aload_n 0, 1) := by decide +kernel
theorem dX8_clean_6 : decode cX8_clean 6 = .ok (.iload_n 1, 1) := by decide +kernel
theorem dX8_clean_7 : decode cX8_clean 7 = .ok (.iload_n 2, 1) := by decide +kernel
theorem dX8_clean_8 : decode cX8_clean 8 = .ok (.invokevirtual 106, 3) := by decide +kernel
theorem dX8_clean_11 : decode cX8_clean 11 = .ok (.iconst 1, 1) := by decide +kernel
theorem dX8_clean_12 : decode cX8_clean 12 = .ok (.iconst 2, 1) := by decide +kernel
theorem dX8_clean_13 : decode cX8_clean 13 = .ok (.iconst 3, 1) := by decide +kernel
theorem dX8_clean_14 : decode cX8_clean 14 = .ok (.iconst 0, 1) := by decide +kernel
theorem dX8_clean_15 : decode cX8_clean 15 = .ok (.invokevirtual 80, 3) := by decide +kernel
theorem dX8_clean_18 : decode cX8_clean 18 = .ok (.ireturn, 1) := by decide +kernel
theorem dX8_rates_0 : decode cX8_rates 0 = .ok (.iload_n 1, 1) := by decide +kernel
theorem dX8_rates_1 : decode cX8_rates 1 = .ok (.iconst 0, 1) := by decide +kernel
theorem dX8_rates_2 : decode cX8_rates 2 = .ok (.bipush 9, 2) := by decide +kernel
theorem dX8_rates_4 : decode cX8_rates 4 = .ok (.invokestatic 69, 3) := by decide +kernel
theorem dX8_rates_7 : decode cX8_rates 7 = .ok (.ifCond .ne 5, 3) := by decide +kernel
theorem dX8_rates_10 : decode cX8_rates 10 = .ok (.iconst 2, 1) := by decide +kernel
theorem dX8_rates_11 : decode cX8_rates 11 = .ok (.ireturn, 1) := by decide +kernel
theorem dX8_rates_12 : decode cX8_rates 12 = .ok (.aload_n 0, 1) := by decide +kernel
theorem dX8_rates_13 : decode cX8_rates 13 = .ok (.aload_n 0, 1) := by decide +kernel
theorem dX8_rates_14 : decode cX8_rates 14 = .ok (.getfield 9, 3) := by decide +kernel
theorem dX8_rates_17 : decode cX8_rates 17 = .ok (.iconst 4, 1) := by decide +kernel
theorem dX8_rates_18 : decode cX8_rates 18 = .ok (.iaload, 1) := by decide +kernel
theorem dX8_rates_19 : decode cX8_rates 19 = .ok (.putfield 46, 3) := by decide +kernel
theorem dX8_rates_22 : decode cX8_rates 22 = .ok (.aload_n 0, 1) := by decide +kernel
theorem dX8_rates_23 : decode cX8_rates 23 = .ok (.getfield 9, 3) := by decide +kernel
theorem dX8_rates_26 : decode cX8_rates 26 = .ok (.iconst 4, 1) := by decide +kernel
theorem dX8_rates_27 : decode cX8_rates 27 = .ok (.iload_n 1, 1) := by decide +kernel
theorem dX8_rates_28 : decode cX8_rates 28 = .ok (.iastore, 1) := by decide +kernel
theorem dX8_rates_29 : decode cX8_rates 29 = .ok (.iconst 0, 1) := by decide +kernel
theorem dX8_rates_30 : decode cX8_rates 30 = .ok (.ireturn, 1) := by decide +kernel
theorem dX8_setRate_0 : decode cX8_setRate 0 = .ok (.aload_n 0, 1) := by decide +kernel
theorem dX8_setRate_1 : decode cX8_setRate 1 = .ok (.invokevirtual 73, 3) := by decide +kernel
theorem dX8_setRate_4 : decode cX8_setRate 4 = .ok (.aload_n 0, 1) := by decide +kernel
theorem dX8_setRate_5 : decode cX8_setRate 5 = .ok (.aload_n 0, 1) := by decide +kernel
theorem dX8_setRate_6 : decode cX8_setRate 6 = .ok (.iload_n 1, 1) := by decide +kernel
theorem dX8_setRate_7 : decode cX8_setRate 7 = .ok (.invokevirtual 109, 3) := by decide +kernel
theorem dX8_setRate_10 : decode cX8_setRate 10 = .ok (.iconst 0, 1) := by decide +kernel
theorem dX8_setRate_11 : decode cX8_setRate 11 = .ok (.iconst 1, 1) := by decide +kernel
theorem dX8_setRate_12 : decode cX8_setRate 12 = .ok (.iconst 0, 1) := by decide +kernel
theorem dX8_setRate_13 : decode cX8_setRate 13 = .ok (.iconst 0, 1) := by decide +kernel
theorem dX8_setRate_14 : decode cX8_setRate 14 = .ok (.invokevirtual 80, 3) := by decide +kernel
theorem dX8_setRate_17 : decode cX8_setRate 17 = .ok (.ireturn, 1) := by decide +kernel
theorem dX8_told_0 : decode cX8_told 0 = .ok (.aload_n 0, 1) := by decide +kernel
theorem dX8_told_1 : decode cX8_told 1 = .ok (.iconst 0, 1) := by decide +kernel
theorem dX8_told_2 : decode cX8_told 2 = .ok (.putfield 36, 3) := by decide +kernel
theorem dX8_told_5 : decode cX8_told 5 = .ok (.aload_n 0, 1) := by decide +kernel
theorem dX8_told_6 : decode cX8_told 6 = .ok (.getfield 9, 3) := by decide +kernel
theorem dX8_told_9 : decode cX8_told 9 = .ok (.iload_n 1, 1) := by decide +kernel
theorem dX8_told_10 : decode cX8_told 10 = .ok (.iaload, 1) := by decide +kernel
theorem dX8_told_11 : decode cX8_told 11 = .ok (.ireturn, 1) := by decide +kernel
theorem dX8_cometCount_0 : decode cX8_cometCount 0 = .ok (.aload_n 0, 1) := by decide +kernel
theorem dX8_cometCount_1 : decode cX8_cometCount 1 = .ok (.iconst 0, 1) := by decide +kernel
theorem dX8_cometCount_2 : decode cX8_cometCount 2 = .ok (.invokevirtual 112, 3) := by decide +kernel
theorem dX8_cometCount_5 : decode cX8_cometCount 5 = .ok (.ireturn, 1) := by decide +kernel
theorem dX8_cometAt_0 : decode cX8_cometAt 0 = .ok (.aload_n 0, 1) := by decide +kernel
theorem dX8_cometAt_1 : decode cX8_cometAt 1 = .ok (.iload_n 1, 1) := by decide +kernel
theorem dX8_cometAt_2 : decode cX8_cometAt 2 = .ok (.iconst 0, 1) := by decide +kernel
theorem dX8_cometAt_3 : decode cX8_cometAt 3 = .ok (.aload_n 0, 1) := by decide +kernel
theorem dX8_cometAt_4 : decode cX8_cometAt 4 = .ok (.getfield 9, 3) := by decide +kernel
theorem dX8_cometAt_7 : decode cX8_cometAt 7 = .ok (.iconst 0, 1) := by decide +kernel
theorem dX8_cometAt_8 : decode cX8_cometAt 8 = .ok (.iaload, 1) := by decide +kernel
theorem dX8_cometAt_9 : decode cX8_cometAt 9 = .ok (.iconst 1, 1) := by decide +kernel
theorem dX8_cometAt_10 : decode cX8_cometAt 10 = .ok (.isub, 1) := by decide +kernel
theorem dX8_cometAt_11 : decode cX8_cometAt 11 = .ok (.invokestatic 69, 3) := by decide +kernel
theorem dX8_cometAt_14 : decode cX8_cometAt 14 = .ok (.invokevirtual 115, 3) := by decide +kernel
theorem dX8_cometAt_17 : decode cX8_cometAt 17 = .ok (.ifCond .eq 12, 3) := by decide +kernel
theorem dX8_cometAt_20 : decode cX8_cometAt 20 = .ok (.aload_n 0, 1) := by decide +kernel
theorem dX8_cometAt_21 : decode cX8_cometAt 21 = .ok (.iload_n 1, 1) := by decide +kernel
theorem dX8_cometAt_22 : decode cX8_cometAt 22 = .ok (.iconst 0, 1) := by decide +kernel
theorem dX8_cometAt_23 : decode cX8_cometAt 23 = .ok (.invokevirtual 49, 3) := by decide +kernel
theorem dX8_cometAt_26 : decode cX8_cometAt 26 = .ok (.goto 4, 3) := by decide +kernel
theorem dX8_cometAt_29 : decode cX8_cometAt 29 = .ok (.iconst 0, 1) := by decide +kernel
theorem dX8_cometAt_30 : decode cX8_cometAt 30 = .ok (.ireturn, 1) := by decide +kernel
theorem dX8_exists_0 : decode cX8_exists 0 = .ok (.aload_n 0, 1) := by decide +kernel
theorem dX8_exists_1 : decode cX8_exists 1 = .ok (.iconst 0, 1) := by decide +kernel
theorem dX8_exists_2 : decode cX8_exists 2 = .ok (.putfield 36, 3) := by decide +kernel
theorem dX8_exists_5 : decode cX8_exists 5 = .ok (.aload_n 0, 1) := by decide +kernel
theorem dX8_exists_6 : decode cX8_exists 6 = .ok (.iload_n 1, 1) := by decide +kernel
theorem dX8_exists_7 : decode cX8_exists 7 = .ok (.invokevirtual 84, 3) := by decide +kernel
theorem dX8_exists_10 : decode cX8_exists 10 = .ok (.ireturn, 1) := by decide +kernel
theorem dX8_ofComet_0 : decode cX8_ofComet 0 = .ok (.aload_n 0, 1) := by decide +kernel
theorem dX8_ofComet_1 : decode cX8_ofComet 1 = .ok (.aload_n 0, 1) := by decide +kernel
theorem dX8_ofComet_2 : decode cX8_ofComet 2 = .ok (.iload_n 1, 1) := by decide +kernel
theorem dX8_ofComet_3 : decode cX8_ofComet 3 = .ok (.invokevirtual 84, 3) := by decide +kernel
theorem dX8_ofComet_6 : decode cX8_ofComet 6 = .ok (.invokevirtual 115, 3) := by decide +kernel
theorem dX8_ofComet_9 : decode cX8_ofComet 9 = .ok (.ifCond .eq 16, 3) := by decide +kernel
theorem dX8_ofComet_12 : decode cX8_ofComet 12 = .ok (.aload_n 0, 1) := by decide +kernel
theorem dX8_ofComet_13 : decode cX8_ofComet 13 = .ok (.aload_n 0, 1) := by decide +kernel
theorem dX8_ofComet_14 : decode cX8_ofComet 14 = .ok (.iload_n 1, 1) := by decide +kernel
theorem dX8_ofComet_15 : decode cX8_ofComet 15 = .ok (.invokevirtual 53, 3) := by decide +kernel
theorem dX8_ofComet_18 : decode cX8_ofComet 18 = .ok (.iload_n 2, 1) := by decide +kernel
theorem dX8_ofComet_19 : decode cX8_ofComet 19 = .ok (.invokevirtual 49, 3) := by decide +kernel
theorem dX8_ofComet_22 : decode cX8_ofComet 22 = .ok (.goto 4, 3) := by decide +kernel
theorem dX8_ofComet_25 : decode cX8_ofComet 25 = .ok (.iconst 0, 1) := by decide +kernel
theorem dX8_ofComet_26 : decode cX8_ofComet 26 = .ok (.ireturn, 1) := by decide +kernel
theorem dX8_period_0 : decode cX8_period 0 = .ok (.aload_n 0, 1) := by decide +kernel
theorem dX8_period_1 : decode cX8_period 1 = .ok (.iload_n 1, 1) := by decide +kernel
theorem dX8_period_2 : decode cX8_period 2 = .ok (.iconst 1, 1) := by decide +kernel
theorem dX8_period_3 : decode cX8_period 3 = .ok (.invokevirtual 119, 3) := by decide +kernel
theorem dX8_period_6 : decode cX8_period 6 = .ok (.ireturn, 1) := by decide +kernel
theorem dX8_brightness_0 : decode cX8_brightness 0 = .ok (.aload_n 0, 1) := by decide +kernel
theorem dX8_brightness_1 : decode cX8_brightness 1 = .ok (.iload_n 1, 1) := by decide +kernel
theorem dX8_brightness_2 : decode cX8_brightness 2 = .ok (.iconst 2, 1) := by decide +kernel
theorem dX8_brightness_3 : decode cX8_brightness 3 = .ok (.invokevirtual 119, 3) := by decide +kernel
theorem dX8_brightness_6 : decode cX8_brightness 6 = .ok (.ireturn, 1) := by decide +kernel
theorem dX8_tail_0 : decode cX8_tail 0 = .ok (.aload_n 0, 1) := by decide +kernel
theorem dX8_tail_1 : decode cX8_tail 1 = .ok (.iload_n 1, 1) := by decide +kernel
theorem dX8_tail_2 : decode cX8_tail 2 = .ok (.invokevirtual 122, 3) := by decide +kernel
theorem dX8_tail_5 : decode cX8_tail 5 = .ok (.istore_n 2, 1) := by decide +kernel
theorem dX8_tail_6 : decode cX8_tail 6 = .ok (.aload_n 0, 1) := by decide +kernel
theorem dX8_tail_7 : decode cX8_tail 7 = .ok (.getfield 36, 3) := by decide +kernel
theorem dX8_tail_10 : decode cX8_tail 10 = .ok (.ifCond .ne 10, 3) := by decide +kernel
theorem dX8_tail_13 : decode cX8_tail 13 = .ok (.iload_n 2, 1) := by decide +kernel
theorem dX8_tail_14 : decode cX8_tail 14 = .ok (.invokestatic 125, 3) := by decide +kernel
theorem dX8_tail_17 : decode cX8_tail 17 = .ok (.goto 4, 3) := by decide +kernel
theorem dX8_tail_20 : decode cX8_tail 20 = .ok (.iconst 0, 1) := by decide +kernel
theorem dX8_tail_21 : decode cX8_tail 21 = .ok (.ireturn, 1) := by decide +kernel
theorem dX8_nextPass_0 : decode cX8_nextPass 0 = .ok (.aload_n 0, 1) := by decide +kernel
theorem dX8_nextPass_1 : decode cX8_nextPass 1 = .ok (.iload_n 1, 1) := by decide +kernel
theorem dX8_nextPass_2 : decode cX8_nextPass 2 = .ok (.iconst 3, 1) := by decide +kernel
theorem dX8_nextPass_3 : decode cX8_nextPass 3 = .ok (.invokevirtual 119, 3) := by decide +kernel
theorem dX8_nextPass_6 : decode cX8_nextPass 6 = .ok (.ireturn, 1) := by decide +kernel
theorem dX8_passesOf_0 : decode cX8_passesOf 0 = .ok (.aload_n 0, 1) := by decide +kernel
theorem dX8_passesOf_1 : decode cX8_passesOf 1 = .ok (.iload_n 1, 1) := by decide +kernel
theorem dX8_passesOf_2 : decode cX8_passesOf 2 = .ok (.iconst 4, 1) := by decide +kernel
theorem dX8_passesOf_3 : decode cX8_passesOf 3 = .ok (.invokevirtual 119, 3) := by decide +kernel
theorem dX8_passesOf_6 : decode cX8_passesOf 6 = .ok (.ireturn, 1) := by decide +kernel
theorem dX8_lastPass_0 : decode cX8_lastPass 0 = .ok (.aload_n 0, 1) := by decide +kernel
theorem dX8_lastPass_1 : decode cX8_lastPass 1 = .ok (.aload_n 0, 1) := by decide +kernel
theorem dX8_lastPass_2 : decode cX8_lastPass 2 = .ok (.iload_n 1, 1) := by decide +kernel
theorem dX8_lastPass_3 : decode cX8_lastPass 3 = .ok (.invokevirtual 84, 3) := by decide +kernel
theorem dX8_lastPass_6 : decode cX8_lastPass 6 = .ok (.invokevirtual 115, 3) := by decide +kernel
theorem dX8_lastPass_9 : decode cX8_lastPass 9 = .ok (.ifCond .eq 40, 3) := by decide +kernel
theorem dX8_lastPass_12 : decode cX8_lastPass 12 = .ok (.aload_n 0, 1) := by decide +kernel
theorem dX8_lastPass_13 : decode cX8_lastPass 13 = .ok (.aload_n 0, 1) := by decide +kernel
theorem dX8_lastPass_14 : decode cX8_lastPass 14 = .ok (.iload_n 1, 1) := by decide +kernel
theorem dX8_lastPass_15 : decode cX8_lastPass 15 = .ok (.invokevirtual 53, 3) := by decide +kernel
theorem dX8_lastPass_18 : decode cX8_lastPass 18 = .ok (.iconst 3, 1) := by decide +kernel
theorem dX8_lastPass_19 : decode cX8_lastPass 19 = .ok (.invokevirtual 49, 3) := by decide +kernel
theorem dX8_lastPass_22 : decode cX8_lastPass 22 = .ok (.aload_n 0, 1) := by decide +kernel
theorem dX8_lastPass_23 : decode cX8_lastPass 23 = .ok (.aload_n 0, 1) := by decide +kernel
theorem dX8_lastPass_24 : decode cX8_lastPass 24 = .ok (.iload_n 1, 1) := by decide +kernel
theorem dX8_lastPass_25 : decode cX8_lastPass 25 = .ok (.invokevirtual 53, 3) := by decide +kernel
theorem dX8_lastPass_28 : decode cX8_lastPass 28 = .ok (.iconst 2, 1) := by decide +kernel
theorem dX8_lastPass_29 : decode cX8_lastPass 29 = .ok (.invokevirtual 49, 3) := by decide +kernel
theorem dX8_lastPass_32 : decode cX8_lastPass 32 = .ok (.iconst 1, 1) := by decide +kernel
theorem dX8_lastPass_33 : decode cX8_lastPass 33 = .ok (.isub, 1) := by decide +kernel
theorem dX8_lastPass_34 : decode cX8_lastPass 34 = .ok (.aload_n 0, 1) := by decide +kernel
theorem dX8_lastPass_35 : decode cX8_lastPass 35 = .ok (.aload_n 0, 1) := by decide +kernel
theorem dX8_lastPass_36 : decode cX8_lastPass 36 = .ok (.iload_n 1, 1) := by decide +kernel
theorem dX8_lastPass_37 : decode cX8_lastPass 37 = .ok (.invokevirtual 53, 3) := by decide +kernel
theorem dX8_lastPass_40 : decode cX8_lastPass 40 = .ok (.iconst 1, 1) := by decide +kernel
theorem dX8_lastPass_41 : decode cX8_lastPass 41 = .ok (.invokevirtual 49, 3) := by decide +kernel
theorem dX8_lastPass_44 : decode cX8_lastPass 44 = .ok (.imul, 1) := by decide +kernel
theorem dX8_lastPass_45 : decode cX8_lastPass 45 = .ok (.iadd, 1) := by decide +kernel
theorem dX8_lastPass_46 : decode cX8_lastPass 46 = .ok (.goto 4, 3) := by decide +kernel
theorem dX8_lastPass_49 : decode cX8_lastPass 49 = .ok (.iconst 0, 1) := by decide +kernel
theorem dX8_lastPass_50 : decode cX8_lastPass 50 = .ok (.ireturn, 1) := by decide +kernel
theorem dX8_isAhead_0 : decode cX8_isAhead 0 = .ok (.aload_n 0, 1) := by decide +kernel
theorem dX8_isAhead_1 : decode cX8_isAhead 1 = .ok (.iload_n 1, 1) := by decide +kernel
theorem dX8_isAhead_2 : decode cX8_isAhead 2 = .ok (.iconst 2, 1) := by decide +kernel
theorem dX8_isAhead_3 : decode cX8_isAhead 3 = .ok (.invokevirtual 49, 3) := by decide +kernel
theorem dX8_isAhead_6 : decode cX8_isAhead 6 = .ok (.aload_n 0, 1) := by decide +kernel
theorem dX8_isAhead_7 : decode cX8_isAhead 7 = .ok (.iload_n 2, 1) := by decide +kernel
theorem dX8_isAhead_8 : decode cX8_isAhead 8 = .ok (.iconst 2, 1) := by decide +kernel
theorem dX8_isAhead_9 : decode cX8_isAhead 9 = .ok (.invokevirtual 49, 3) := by decide +kernel
theorem dX8_isAhead_12 : decode cX8_isAhead 12 = .ok (.isub, 1) := by decide +kernel
theorem dX8_isAhead_13 : decode cX8_isAhead 13 = .ok (.istore_n 3, 1) := by decide +kernel
theorem dX8_isAhead_14 : decode cX8_isAhead 14 = .ok (.aload_n 0, 1) := by decide +kernel
theorem dX8_isAhead_15 : decode cX8_isAhead 15 = .ok (.iload_n 2, 1) := by decide +kernel
theorem dX8_isAhead_16 : decode cX8_isAhead 16 = .ok (.iconst 3, 1) := by decide +kernel
theorem dX8_isAhead_17 : decode cX8_isAhead 17 = .ok (.invokevirtual 49, 3) := by decide +kernel
theorem dX8_isAhead_20 : decode cX8_isAhead 20 = .ok (.aload_n 0, 1) := by decide +kernel
theorem dX8_isAhead_21 : decode cX8_isAhead 21 = .ok (.iload_n 1, 1) := by decide +kernel
theorem dX8_isAhead_22 : decode cX8_isAhead 22 = .ok (.iconst 3, 1) := by decide +kernel
theorem dX8_isAhead_23 : decode cX8_isAhead 23 = .ok (.invokevirtual 49, 3) := by decide +kernel
theorem dX8_isAhead_26 : decode cX8_isAhead 26 = .ok (.isub, 1) := by decide +kernel
theorem dX8_isAhead_27 : decode cX8_isAhead 27 = .ok (.istore 4, 2) := by decide +kernel
theorem dX8_isAhead_29 : decode cX8_isAhead 29 = .ok (.iload_n 3, 1) := by decide +kernel
theorem dX8_isAhead_30 : decode cX8_isAhead 30 = .ok (.ifCond .gt 22, 3) := by decide +kernel
theorem dX8_isAhead_33 : decode cX8_isAhead 33 = .ok (.iload_n 3, 1) := by decide +kernel
theorem dX8_isAhead_34 : decode cX8_isAhead 34 = .ok (.ifCond .ne 22, 3) := by decide +kernel
theorem dX8_isAhead_37 : decode cX8_isAhead 37 = .ok (.iload 4, 2) := by decide +kernel
theorem dX8_isAhead_39 : decode cX8_isAhead 39 = .ok (.ifCond .gt 13, 3) := by decide +kernel
theorem dX8_isAhead_42 : decode cX8_isAhead 42 = .ok (.iload 4, 2) := by decide +kernel
theorem dX8_isAhead_44 : decode cX8_isAhead 44 = .ok (.ifCond .ne 12, 3) := by decide +kernel
theorem dX8_isAhead_47 : decode cX8_isAhead 47 = .ok (.iload_n 1, 1) := by decide +kernel
theorem dX8_isAhead_48 : decode cX8_isAhead 48 = .ok (.iload_n 2, 1) := by decide +kernel
theorem dX8_isAhead_49 : decode cX8_isAhead 49 = .ok (.if_icmp .ge 7, 3) := by decide +kernel
theorem dX8_isAhead_52 : decode cX8_isAhead 52 = .ok (.iconst 1, 1) := by decide +kernel
theorem dX8_isAhead_53 : decode cX8_isAhead 53 = .ok (.goto 4, 3) := by decide +kernel
theorem dX8_isAhead_56 : decode cX8_isAhead 56 = .ok (.iconst 0, 1) := by decide +kernel
theorem dX8_isAhead_57 : decode cX8_isAhead 57 = .ok (.ireturn, 1) := by decide +kernel
theorem dX8_cometAtRank_0 : decode cX8_cometAtRank 0 = .ok (.iconst 0, 1) := by decide +kernel
theorem dX8_cometAtRank_1 : decode cX8_cometAtRank 1 = .ok (.istore_n 2, 1) := by decide +kernel
theorem dX8_cometAtRank_2 : decode cX8_cometAtRank 2 = .ok (.iload_n 2, 1) := by decide +kernel
theorem dX8_cometAtRank_3 : decode cX8_cometAtRank 3 = .ok (.aload_n 0, 1) := by decide +kernel
theorem dX8_cometAtRank_4 : decode cX8_cometAtRank 4 = .ok (.getfield 9, 3) := by decide +kernel
theorem dX8_cometAtRank_7 : decode cX8_cometAtRank 7 = .ok (.iconst 0, 1) := by decide +kernel
theorem dX8_cometAtRank_8 : decode cX8_cometAtRank 8 = .ok (.iaload, 1) := by decide +kernel
theorem dX8_cometAtRank_9 : decode cX8_cometAtRank 9 = .ok (.if_icmp .ge 73, 3) := by decide +kernel
theorem dX8_cometAtRank_12 : decode cX8_cometAtRank 12 = .ok (.iconst 0, 1) := by decide +kernel
theorem dX8_cometAtRank_13 : decode cX8_cometAtRank 13 = .ok (.istore_n 3, 1) := by decide +kernel
theorem dX8_cometAtRank_14 : decode cX8_cometAtRank 14 = .ok (.iconst 0, 1) := by decide +kernel
theorem dX8_cometAtRank_15 : decode cX8_cometAtRank 15 = .ok (.istore 4, 2) := by decide +kernel
theorem dX8_cometAtRank_17 : decode cX8_cometAtRank 17 = .ok (.iload 4, 2) := by decide +kernel
theorem dX8_cometAtRank_19 : decode cX8_cometAtRank 19 = .ok (.aload_n 0, 1) := by decide +kernel
theorem dX8_cometAtRank_20 : decode cX8_cometAtRank 20 = .ok (.getfield 9, 3) := by decide +kernel
theorem dX8_cometAtRank_23 : decode cX8_cometAtRank 23 = .ok (.iconst 0, 1) := by decide +kernel
theorem dX8_cometAtRank_24 : decode cX8_cometAtRank 24 = .ok (.iaload, 1) := by decide +kernel
theorem dX8_cometAtRank_25 : decode cX8_cometAtRank 25 = .ok (.if_icmp .ge 27, 3) := by decide +kernel
theorem dX8_cometAtRank_28 : decode cX8_cometAtRank 28 = .ok (.iload_n 3, 1) := by decide +kernel
theorem dX8_cometAtRank_29 : decode cX8_cometAtRank 29 = .ok (.aload_n 0, 1) := by decide +kernel
theorem dX8_cometAtRank_30 : decode cX8_cometAtRank 30 = .ok (.iload 4, 2) := by decide +kernel
theorem dX8_cometAtRank_32 : decode cX8_cometAtRank 32 = .ok (.iload_n 2, 1) := by decide +kernel
theorem dX8_cometAtRank_33 : decode cX8_cometAtRank 33 = .ok (.invokevirtual 128, 3) := by decide +kernel
theorem dX8_cometAtRank_36 : decode cX8_cometAtRank 36 = .ok (.ifCond .eq 7, 3) := by decide +kernel
theorem dX8_cometAtRank_39 : decode cX8_cometAtRank 39 = .ok (.iconst 1, 1) := by decide +kernel
theorem dX8_cometAtRank_40 : decode cX8_cometAtRank 40 = .ok (.goto 4, 3) := by decide +kernel
theorem dX8_cometAtRank_43 : decode cX8_cometAtRank 43 = .ok (.iconst 0, 1) := by decide +kernel
theorem dX8_cometAtRank_44 : decode cX8_cometAtRank 44 = .ok (.iadd, 1) := by decide +kernel
theorem dX8_cometAtRank_45 : decode cX8_cometAtRank 45 = .ok (.istore_n 3, 1) := by decide +kernel
theorem dX8_cometAtRank_46 : decode cX8_cometAtRank 46 = .ok (.iinc 4 1, 3) := by decide +kernel
theorem dX8_cometAtRank_49 : decode cX8_cometAtRank 49 = .ok (.goto (-32), 3) := by decide +kernel
theorem dX8_cometAtRank_52 : decode cX8_cometAtRank 52 = .ok (.aload_n 0, 1) := by decide +kernel
theorem dX8_cometAtRank_53 : decode cX8_cometAtRank 53 = .ok (.iload_n 3, 1) := by decide +kernel
theorem dX8_cometAtRank_54 : decode cX8_cometAtRank 54 = .ok (.iload_n 1, 1) := by decide +kernel
theorem dX8_cometAtRank_55 : decode cX8_cometAtRank 55 = .ok (.if_icmp .ne 7, 3) := by decide +kernel
theorem dX8_cometAtRank_58 : decode cX8_cometAtRank 58 = .ok (.iconst 1, 1) := by decide +kernel
theorem dX8_cometAtRank_59 : decode cX8_cometAtRank 59 = .ok (.goto 4, 3) := by decide +kernel
theorem dX8_cometAtRank_62 : decode cX8_cometAtRank 62 = .ok (.iconst 0, 1) := by decide +kernel
theorem dX8_cometAtRank_63 : decode cX8_cometAtRank 63 = .ok (.invokevirtual 115, 3) := by decide +kernel
theorem dX8_cometAtRank_66 : decode cX8_cometAtRank 66 = .ok (.ifCond .eq 10, 3) := by decide +kernel
theorem dX8_cometAtRank_69 : decode cX8_cometAtRank 69 = .ok (.aload_n 0, 1) := by decide +kernel
theorem dX8_cometAtRank_70 : decode cX8_cometAtRank 70 = .ok (.iload_n 2, 1) := by decide +kernel
theorem dX8_cometAtRank_71 : decode cX8_cometAtRank 71 = .ok (.iconst 0, 1) := by decide +kernel
theorem dX8_cometAtRank_72 : decode cX8_cometAtRank 72 = .ok (.invokevirtual 49, 3) := by decide +kernel
theorem dX8_cometAtRank_75 : decode cX8_cometAtRank 75 = .ok (.ireturn, 1) := by decide +kernel
theorem dX8_cometAtRank_76 : decode cX8_cometAtRank 76 = .ok (.iinc 2 1, 3) := by decide +kernel
theorem dX8_cometAtRank_79 : decode cX8_cometAtRank 79 = .ok (.goto (-77), 3) := by decide +kernel
theorem dX8_cometAtRank_82 : decode cX8_cometAtRank 82 = .ok (.aload_n 0, 1) := by decide +kernel
theorem dX8_cometAtRank_83 : decode cX8_cometAtRank 83 = .ok (.iconst 1, 1) := by decide +kernel
theorem dX8_cometAtRank_84 : decode cX8_cometAtRank 84 = .ok (.putfield 36, 3) := by decide +kernel
theorem dX8_cometAtRank_87 : decode cX8_cometAtRank 87 = .ok (.iconst 0, 1) := by decide +kernel
theorem dX8_cometAtRank_88 : decode cX8_cometAtRank 88 = .ok (.ireturn, 1) := by decide +kernel
theorem dX8_brightIn_0 : decode cX8_brightIn 0 = .ok (.aload_n 0, 1) := by decide +kernel
theorem dX8_brightIn_1 : decode cX8_brightIn 1 = .ok (.getfield 9, 3) := by decide +kernel
theorem dX8_brightIn_4 : decode cX8_brightIn 4 = .ok (.iconst 2, 1) := by decide +kernel
theorem dX8_brightIn_5 : decode cX8_brightIn 5 = .ok (.iaload, 1) := by decide +kernel
theorem dX8_brightIn_6 : decode cX8_brightIn 6 = .ok (.iload_n 2, 1) := by decide +kernel
theorem dX8_brightIn_7 : decode cX8_brightIn 7 = .ok (.iadd, 1) := by decide +kernel
theorem dX8_brightIn_8 : decode cX8_brightIn 8 = .ok (.aload_n 0, 1) := by decide +kernel
theorem dX8_brightIn_9 : decode cX8_brightIn 9 = .ok (.iload_n 1, 1) := by decide +kernel
theorem dX8_brightIn_10 : decode cX8_brightIn 10 = .ok (.iconst 3, 1) := by decide +kernel
theorem dX8_brightIn_11 : decode cX8_brightIn 11 = .ok (.invokevirtual 49, 3) := by decide +kernel
theorem dX8_brightIn_14 : decode cX8_brightIn 14 = .ok (.isub, 1) := by decide +kernel
theorem dX8_brightIn_15 : decode cX8_brightIn 15 = .ok (.istore_n 3, 1) := by decide +kernel
theorem dX8_brightIn_16 : decode cX8_brightIn 16 = .ok (.iload_n 3, 1) := by decide +kernel
theorem dX8_brightIn_17 : decode cX8_brightIn 17 = .ok (.ifCond .lt 14, 3) := by decide +kernel
theorem dX8_brightIn_20 : decode cX8_brightIn 20 = .ok (.iload_n 3, 1) := by decide +kernel
theorem dX8_brightIn_21 : decode cX8_brightIn 21 = .ok (.aload_n 0, 1) := by decide +kernel
theorem dX8_brightIn_22 : decode cX8_brightIn 22 = .ok (.iload_n 1, 1) := by decide +kernel
theorem dX8_brightIn_23 : decode cX8_brightIn 23 = .ok (.iconst 1, 1) := by decide +kernel
theorem dX8_brightIn_24 : decode cX8_brightIn 24 = .ok (.invokevirtual 49, 3) := by decide +kernel
theorem dX8_brightIn_27 : decode cX8_brightIn 27 = .ok (.irem, 1) := by decide +kernel
theorem dX8_brightIn_28 : decode cX8_brightIn 28 = .ok (.ifCond .eq 5, 3) := by decide +kernel
theorem dX8_brightIn_31 : decode cX8_brightIn 31 = .ok (.iconst 0, 1) := by decide +kernel
theorem dX8_brightIn_32 : decode cX8_brightIn 32 = .ok (.ireturn, 1) := by decide +kernel
theorem dX8_brightIn_33 : decode cX8_brightIn 33 = .ok (.aload_n 0, 1) := by decide +kernel
theorem dX8_brightIn_34 : decode cX8_brightIn 34 = .ok (.iload_n 1, 1) := by decide +kernel
theorem dX8_brightIn_35 : decode cX8_brightIn 35 = .ok (.iconst 2, 1) := by decide +kernel
theorem dX8_brightIn_36 : decode cX8_brightIn 36 = .ok (.invokevirtual 49, 3) := by decide +kernel
theorem dX8_brightIn_39 : decode cX8_brightIn 39 = .ok (.iload_n 3, 1) := by decide +kernel
theorem dX8_brightIn_40 : decode cX8_brightIn 40 = .ok (.aload_n 0, 1) := by decide +kernel
theorem dX8_brightIn_41 : decode cX8_brightIn 41 = .ok (.iload_n 1, 1) := by decide +kernel
theorem dX8_brightIn_42 : decode cX8_brightIn 42 = .ok (.iconst 1, 1) := by decide +kernel
theorem dX8_brightIn_43 : decode cX8_brightIn 43 = .ok (.invokevirtual 49, 3) := by decide +kernel
theorem dX8_brightIn_46 : decode cX8_brightIn 46 = .ok (.idiv, 1) := by decide +kernel
theorem dX8_brightIn_47 : decode cX8_brightIn 47 = .ok (.isub, 1) := by decide +kernel
theorem dX8_brightIn_48 : decode cX8_brightIn 48 = .ok (.istore 4, 2) := by decide +kernel
theorem dX8_brightIn_50 : decode cX8_brightIn 50 = .ok (.iload 4, 2) := by decide +kernel
theorem dX8_brightIn_52 : decode cX8_brightIn 52 = .ok (.ifCond .ge 7, 3) := by decide +kernel
theorem dX8_brightIn_55 : decode cX8_brightIn 55 = .ok (.iconst 0, 1) := by decide +kernel
theorem dX8_brightIn_56 : decode cX8_brightIn 56 = .ok (.goto 5, 3) := by decide +kernel
theorem dX8_brightIn_59 : decode cX8_brightIn 59 = .ok (.iload 4, 2) := by decide +kernel
theorem dX8_brightIn_61 : decode cX8_brightIn 61 = .ok (.ireturn, 1) := by decide +kernel
theorem dX8_passesIn_0 : decode cX8_passesIn 0 = .ok (.iconst 0, 1) := by decide +kernel
theorem dX8_passesIn_1 : decode cX8_passesIn 1 = .ok (.istore_n 2, 1) := by decide +kernel
theorem dX8_passesIn_2 : decode cX8_passesIn 2 = .ok (.aload_n 0, 1) := by decide +kernel
theorem dX8_passesIn_3 : decode cX8_passesIn 3 = .ok (.iload_n 1, 1) := by decide +kernel
theorem dX8_passesIn_4 : decode cX8_passesIn 4 = .ok (.iconst 0, 1) := by decide +kernel
theorem dX8_passesIn_5 : decode cX8_passesIn 5 = .ok (.bipush 60, 2) := by decide +kernel
theorem dX8_passesIn_7 : decode cX8_passesIn 7 = .ok (.invokestatic 69, 3) := by decide +kernel
theorem dX8_passesIn_10 : decode cX8_passesIn 10 = .ok (.invokevirtual 115, 3) := by decide +kernel
theorem dX8_passesIn_13 : decode cX8_passesIn 13 = .ok (.istore_n 3, 1) := by decide +kernel
theorem dX8_passesIn_14 : decode cX8_passesIn 14 = .ok (.iconst 1, 1) := by decide +kernel
theorem dX8_passesIn_15 : decode cX8_passesIn 15 = .ok (.istore 4, 2) := by decide +kernel
theorem dX8_passesIn_17 : decode cX8_passesIn 17 = .ok (.iload 4, 2) := by decide +kernel
theorem dX8_passesIn_19 : decode cX8_passesIn 19 = .ok (.iload_n 1, 1) := by decide +kernel
theorem dX8_passesIn_20 : decode cX8_passesIn 20 = .ok (.if_icmp .gt 52, 3) := by decide +kernel
theorem dX8_passesIn_23 : decode cX8_passesIn 23 = .ok (.iload_n 3, 1) := by decide +kernel
theorem dX8_passesIn_24 : decode cX8_passesIn 24 = .ok (.ifCond .eq 48, 3) := by decide +kernel
theorem dX8_passesIn_27 : decode cX8_passesIn 27 = .ok (.iconst 0, 1) := by decide +kernel
theorem dX8_passesIn_28 : decode cX8_passesIn 28 = .ok (.istore 5, 2) := by decide +kernel
theorem dX8_passesIn_30 : decode cX8_passesIn 30 = .ok (.iload 5, 2) := by decide +kernel
theorem dX8_passesIn_32 : decode cX8_passesIn 32 = .ok (.aload_n 0, 1) := by decide +kernel
theorem dX8_passesIn_33 : decode cX8_passesIn 33 = .ok (.getfield 9, 3) := by decide +kernel
theorem dX8_passesIn_36 : decode cX8_passesIn 36 = .ok (.iconst 0, 1) := by decide +kernel
theorem dX8_passesIn_37 : decode cX8_passesIn 37 = .ok (.iaload, 1) := by decide +kernel
theorem dX8_passesIn_38 : decode cX8_passesIn 38 = .ok (.if_icmp .ge 28, 3) := by decide +kernel
theorem dX8_passesIn_41 : decode cX8_passesIn 41 = .ok (.iload_n 2, 1) := by decide +kernel
theorem dX8_passesIn_42 : decode cX8_passesIn 42 = .ok (.aload_n 0, 1) := by decide +kernel
theorem dX8_passesIn_43 : decode cX8_passesIn 43 = .ok (.iload 5, 2) := by decide +kernel
theorem dX8_passesIn_45 : decode cX8_passesIn 45 = .ok (.iload 4, 2) := by decide +kernel
theorem dX8_passesIn_47 : decode cX8_passesIn 47 = .ok (.invokevirtual 132, 3) := by decide +kernel
theorem dX8_passesIn_50 : decode cX8_passesIn 50 = .ok (.ifCond .le 7, 3) := by decide +kernel
theorem dX8_passesIn_53 : decode cX8_passesIn 53 = .ok (.iconst 1, 1) := by decide +kernel
theorem dX8_passesIn_54 : decode cX8_passesIn 54 = .ok (.goto 4, 3) := by decide +kernel
theorem dX8_passesIn_57 : decode cX8_passesIn 57 = .ok (.iconst 0, 1) := by decide +kernel
theorem dX8_passesIn_58 : decode cX8_passesIn 58 = .ok (.iadd, 1) := by decide +kernel
theorem dX8_passesIn_59 : decode cX8_passesIn 59 = .ok (.istore_n 2, 1) := by decide +kernel
theorem dX8_passesIn_60 : decode cX8_passesIn 60 = .ok (.iinc 5 1, 3) := by decide +kernel
theorem dX8_passesIn_63 : decode cX8_passesIn 63 = .ok (.goto (-33), 3) := by decide +kernel
theorem dX8_passesIn_66 : decode cX8_passesIn 66 = .ok (.iinc 4 1, 3) := by decide +kernel
theorem dX8_passesIn_69 : decode cX8_passesIn 69 = .ok (.goto (-52), 3) := by decide +kernel
theorem dX8_passesIn_72 : decode cX8_passesIn 72 = .ok (.iload_n 2, 1) := by decide +kernel
theorem dX8_passesIn_73 : decode cX8_passesIn 73 = .ok (.ireturn, 1) := by decide +kernel
theorem dX8_passesOn_0 : decode cX8_passesOn 0 = .ok (.iload_n 2, 1) := by decide +kernel
theorem dX8_passesOn_1 : decode cX8_passesOn 1 = .ok (.aload_n 0, 1) := by decide +kernel
theorem dX8_passesOn_2 : decode cX8_passesOn 2 = .ok (.iload_n 1, 1) := by decide +kernel
theorem dX8_passesOn_3 : decode cX8_passesOn 3 = .ok (.iconst 3, 1) := by decide +kernel
theorem dX8_passesOn_4 : decode cX8_passesOn 4 = .ok (.invokevirtual 49, 3) := by decide +kernel
theorem dX8_passesOn_7 : decode cX8_passesOn 7 = .ok (.if_icmp .lt 25, 3) := by decide +kernel
theorem dX8_passesOn_10 : decode cX8_passesOn 10 = .ok (.iload_n 2, 1) := by decide +kernel
theorem dX8_passesOn_11 : decode cX8_passesOn 11 = .ok (.aload_n 0, 1) := by decide +kernel
theorem dX8_passesOn_12 : decode cX8_passesOn 12 = .ok (.iload_n 1, 1) := by decide +kernel
theorem dX8_passesOn_13 : decode cX8_passesOn 13 = .ok (.iconst 3, 1) := by decide +kernel
theorem dX8_passesOn_14 : decode cX8_passesOn 14 = .ok (.invokevirtual 49, 3) := by decide +kernel
theorem dX8_passesOn_17 : decode cX8_passesOn 17 = .ok (.isub, 1) := by decide +kernel
theorem dX8_passesOn_18 : decode cX8_passesOn 18 = .ok (.aload_n 0, 1) := by decide +kernel
theorem dX8_passesOn_19 : decode cX8_passesOn 19 = .ok (.iload_n 1, 1) := by decide +kernel
theorem dX8_passesOn_20 : decode cX8_passesOn 20 = .ok (.iconst 1, 1) := by decide +kernel
theorem dX8_passesOn_21 : decode cX8_passesOn 21 = .ok (.invokevirtual 49, 3) := by decide +kernel
theorem dX8_passesOn_24 : decode cX8_passesOn 24 = .ok (.irem, 1) := by decide +kernel
theorem dX8_passesOn_25 : decode cX8_passesOn 25 = .ok (.ifCond .ne 7, 3) := by decide +kernel
theorem dX8_passesOn_28 : decode cX8_passesOn 28 = .ok (.iconst 1, 1) := by decide +kernel
theorem dX8_passesOn_29 : decode cX8_passesOn 29 = .ok (.goto 4, 3) := by decide +kernel
theorem dX8_passesOn_32 : decode cX8_passesOn 32 = .ok (.iconst 0, 1) := by decide +kernel
theorem dX8_passesOn_33 : decode cX8_passesOn 33 = .ok (.ireturn, 1) := by decide +kernel
theorem dX8_nextMeeting_0 : decode cX8_nextMeeting 0 = .ok (.aload_n 0, 1) := by decide +kernel
theorem dX8_nextMeeting_1 : decode cX8_nextMeeting 1 = .ok (.aload_n 0, 1) := by decide +kernel
theorem dX8_nextMeeting_2 : decode cX8_nextMeeting 2 = .ok (.iload_n 1, 1) := by decide +kernel
theorem dX8_nextMeeting_3 : decode cX8_nextMeeting 3 = .ok (.invokevirtual 84, 3) := by decide +kernel
theorem dX8_nextMeeting_6 : decode cX8_nextMeeting 6 = .ok (.ifCond .eq 11, 3) := by decide +kernel
theorem dX8_nextMeeting_9 : decode cX8_nextMeeting 9 = .ok (.aload_n 0, 1) := by decide +kernel
theorem dX8_nextMeeting_10 : decode cX8_nextMeeting 10 = .ok (.iload_n 2, 1) := by decide +kernel
theorem dX8_nextMeeting_11 : decode cX8_nextMeeting 11 = .ok (.invokevirtual 84, 3) := by decide +kernel
theorem dX8_nextMeeting_14 : decode cX8_nextMeeting 14 = .ok (.ifCond .ne 7, 3) := by decide +kernel
theorem dX8_nextMeeting_17 : decode cX8_nextMeeting 17 = .ok (.iconst 1, 1) := by decide +kernel
theorem dX8_nextMeeting_18 : decode cX8_nextMeeting 18 = .ok (.goto 13, 3) := by decide +kernel
theorem dX8_nextMeeting_21 : decode cX8_nextMeeting 21 = .ok (.iload_n 1, 1) := by decide +kernel
theorem dX8_nextMeeting_22 : decode cX8_nextMeeting 22 = .ok (.iload_n 2, 1) := by decide +kernel
theorem dX8_nextMeeting_23 : decode cX8_nextMeeting 23 = .ok (.if_icmp .ne 7, 3) := by decide +kernel
theorem dX8_nextMeeting_26 : decode cX8_nextMeeting 26 = .ok (.iconst 2, 1) := by decide +kernel
theorem dX8_nextMeeting_27 : decode cX8_nextMeeting 27 = .ok (.goto 4, 3) := by decide +kernel
theorem dX8_nextMeeting_30 : decode cX8_nextMeeting 30 = .ok (.iconst 0, 1) := by decide +kernel
theorem dX8_nextMeeting_31 : decode cX8_nextMeeting 31 = .ok (.putfield 36, 3) := by decide +kernel
theorem dX8_nextMeeting_34 : decode cX8_nextMeeting 34 = .ok (.aload_n 0, 1) := by decide +kernel
theorem dX8_nextMeeting_35 : decode cX8_nextMeeting 35 = .ok (.getfield 36, 3) := by decide +kernel
theorem dX8_nextMeeting_38 : decode cX8_nextMeeting 38 = .ok (.ifCond .eq 5, 3) := by decide +kernel
theorem dX8_nextMeeting_41 : decode cX8_nextMeeting 41 = .ok (.iconst 0, 1) := by decide +kernel
theorem dX8_nextMeeting_42 : decode cX8_nextMeeting 42 = .ok (.ireturn, 1) := by decide +kernel
theorem dX8_nextMeeting_43 : decode cX8_nextMeeting 43 = .ok (.aload_n 0, 1) := by decide +kernel
theorem dX8_nextMeeting_44 : decode cX8_nextMeeting 44 = .ok (.iload_n 1, 1) := by decide +kernel
theorem dX8_nextMeeting_45 : decode cX8_nextMeeting 45 = .ok (.invokevirtual 53, 3) := by decide +kernel
theorem dX8_nextMeeting_48 : decode cX8_nextMeeting 48 = .ok (.istore_n 3, 1) := by decide +kernel
theorem dX8_nextMeeting_49 : decode cX8_nextMeeting 49 = .ok (.aload_n 0, 1) := by decide +kernel
theorem dX8_nextMeeting_50 : decode cX8_nextMeeting 50 = .ok (.iload_n 2, 1) := by decide +kernel
theorem dX8_nextMeeting_51 : decode cX8_nextMeeting 51 = .ok (.invokevirtual 53, 3) := by decide +kernel
theorem dX8_nextMeeting_54 : decode cX8_nextMeeting 54 = .ok (.istore 4, 2) := by decide +kernel
theorem dX8_nextMeeting_56 : decode cX8_nextMeeting 56 = .ok (.aload_n 0, 1) := by decide +kernel
theorem dX8_nextMeeting_57 : decode cX8_nextMeeting 57 = .ok (.iload_n 3, 1) := by decide +kernel
theorem dX8_nextMeeting_58 : decode cX8_nextMeeting 58 = .ok (.iconst 3, 1) := by decide +kernel
theorem dX8_nextMeeting_59 : decode cX8_nextMeeting 59 = .ok (.invokevirtual 49, 3) := by decide +kernel
theorem dX8_nextMeeting_62 : decode cX8_nextMeeting 62 = .ok (.istore 5, 2) := by decide +kernel
theorem dX8_nextMeeting_64 : decode cX8_nextMeeting 64 = .ok (.iload 5, 2) := by decide +kernel
theorem dX8_nextMeeting_66 : decode cX8_nextMeeting 66 = .ok (.aload_n 0, 1) := by decide +kernel
theorem dX8_nextMeeting_67 : decode cX8_nextMeeting 67 = .ok (.iload 4, 2) := by decide +kernel
theorem dX8_nextMeeting_69 : decode cX8_nextMeeting 69 = .ok (.iconst 3, 1) := by decide +kernel
theorem dX8_nextMeeting_70 : decode cX8_nextMeeting 70 = .ok (.invokevirtual 49, 3) := by decide +kernel
theorem dX8_nextMeeting_73 : decode cX8_nextMeeting 73 = .ok (.iadd, 1) := by decide +kernel
theorem dX8_nextMeeting_74 : decode cX8_nextMeeting 74 = .ok (.aload_n 0, 1) := by decide +kernel
theorem dX8_nextMeeting_75 : decode cX8_nextMeeting 75 = .ok (.iload_n 3, 1) := by decide +kernel
theorem dX8_nextMeeting_76 : decode cX8_nextMeeting 76 = .ok (.iconst 1, 1) := by decide +kernel
theorem dX8_nextMeeting_77 : decode cX8_nextMeeting 77 = .ok (.invokevirtual 49, 3) := by decide +kernel
theorem dX8_nextMeeting_80 : decode cX8_nextMeeting 80 = .ok (.aload_n 0, 1) := by decide +kernel
theorem dX8_nextMeeting_81 : decode cX8_nextMeeting 81 = .ok (.iload 4, 2) := by decide +kernel
theorem dX8_nextMeeting_83 : decode cX8_nextMeeting 83 = .ok (.iconst 1, 1) := by decide +kernel
theorem dX8_nextMeeting_84 : decode cX8_nextMeeting 84 = .ok (.invokevirtual 49, 3) := by decide +kernel
theorem dX8_nextMeeting_87 : decode cX8_nextMeeting 87 = .ok (.imul, 1) := by decide +kernel
theorem dX8_nextMeeting_88 : decode cX8_nextMeeting 88 = .ok (.iadd, 1) := by decide +kernel
theorem dX8_nextMeeting_89 : decode cX8_nextMeeting 89 = .ok (.istore 6, 2) := by decide +kernel
theorem dX8_nextMeeting_91 : decode cX8_nextMeeting 91 = .ok (.iload 5, 2) := by decide +kernel
theorem dX8_nextMeeting_93 : decode cX8_nextMeeting 93 = .ok (.iload 6, 2) := by decide +kernel
theorem dX8_nextMeeting_95 : decode cX8_nextMeeting 95 = .ok (.if_icmp .gt 28, 3) := by decide +kernel
theorem dX8_nextMeeting_98 : decode cX8_nextMeeting 98 = .ok (.aload_n 0, 1) := by decide +kernel
theorem dX8_nextMeeting_99 : decode cX8_nextMeeting 99 = .ok (.iload 4, 2) := by decide +kernel
theorem dX8_nextMeeting_101 : decode cX8_nextMeeting 101 = .ok (.iload 5, 2) := by decide +kernel
theorem dX8_nextMeeting_103 : decode cX8_nextMeeting 103 = .ok (.invokevirtual 135, 3) := by decide +kernel
theorem dX8_nextMeeting_106 : decode cX8_nextMeeting 106 = .ok (.ifCond .ne 17, 3) := by decide +kernel
theorem dX8_nextMeeting_109 : decode cX8_nextMeeting 109 = .ok (.iload 5, 2) := by decide +kernel
theorem dX8_nextMeeting_111 : decode cX8_nextMeeting 111 = .ok (.aload_n 0, 1) := by decide +kernel
theorem dX8_nextMeeting_112 : decode cX8_nextMeeting 112 = .ok (.iload_n 3, 1) := by decide +kernel
theorem dX8_nextMeeting_113 : decode cX8_nextMeeting 113 = .ok (.iconst 1, 1) := by decide +kernel
theorem dX8_nextMeeting_114 : decode cX8_nextMeeting 114 = .ok (.invokevirtual 49, 3) := by decide +kernel
theorem dX8_nextMeeting_117 : decode cX8_nextMeeting 117 = .ok (.iadd, 1) := by decide +kernel
theorem dX8_nextMeeting_118 : decode cX8_nextMeeting 118 = .ok (.istore 5, 2) := by decide +kernel
theorem dX8_nextMeeting_120 : decode cX8_nextMeeting 120 = .ok (.goto (-29), 3) := by decide +kernel
theorem dX8_nextMeeting_123 : decode cX8_nextMeeting 123 = .ok (.aload_n 0, 1) := by decide +kernel
theorem dX8_nextMeeting_124 : decode cX8_nextMeeting 124 = .ok (.iload 5, 2) := by decide +kernel
theorem dX8_nextMeeting_126 : decode cX8_nextMeeting 126 = .ok (.iload 6, 2) := by decide +kernel
theorem dX8_nextMeeting_128 : decode cX8_nextMeeting 128 = .ok (.if_icmp .gt 7, 3) := by decide +kernel
theorem dX8_nextMeeting_131 : decode cX8_nextMeeting 131 = .ok (.iconst 0, 1) := by decide +kernel
theorem dX8_nextMeeting_132 : decode cX8_nextMeeting 132 = .ok (.goto 4, 3) := by decide +kernel
theorem dX8_nextMeeting_135 : decode cX8_nextMeeting 135 = .ok (.iconst 3, 1) := by decide +kernel
theorem dX8_nextMeeting_136 : decode cX8_nextMeeting 136 = .ok (.putfield 36, 3) := by decide +kernel
theorem dX8_nextMeeting_139 : decode cX8_nextMeeting 139 = .ok (.aload_n 0, 1) := by decide +kernel
theorem dX8_nextMeeting_140 : decode cX8_nextMeeting 140 = .ok (.getfield 36, 3) := by decide +kernel
theorem dX8_nextMeeting_143 : decode cX8_nextMeeting 143 = .ok (.ifCond .ne 8, 3) := by decide +kernel
theorem dX8_nextMeeting_146 : decode cX8_nextMeeting 146 = .ok (.iload 5, 2) := by decide +kernel
theorem dX8_nextMeeting_148 : decode cX8_nextMeeting 148 = .ok (.goto 4, 3) := by decide +kernel
theorem dX8_nextMeeting_151 : decode cX8_nextMeeting 151 = .ok (.iconst 0, 1) := by decide +kernel
theorem dX8_nextMeeting_152 : decode cX8_nextMeeting 152 = .ok (.ireturn, 1) := by decide +kernel
theorem dX8_nextMeetingByRemainders_0 : decode cX8_nextMeetingByRemainders 0 = .ok (.aload_n 0, 1) := by decide +kernel
theorem dX8_nextMeetingByRemainders_1 : decode cX8_nextMeetingByRemainders 1 = .ok (.iload_n 1, 1) := by decide +kernel
theorem dX8_nextMeetingByRemainders_2 : decode cX8_nextMeetingByRemainders 2 = .ok (.iload_n 2, 1) := by decide +kernel
theorem dX8_nextMeetingByRemainders_3 : decode cX8_nextMeetingByRemainders 3 = .ok (.invokevirtual 138, 3) := by decide +kernel
theorem dX8_nextMeetingByRemainders_6 : decode cX8_nextMeetingByRemainders 6 = .ok (.ireturn, 1) := by decide +kernel
theorem dX8_alignment_0 : decode cX8_alignment 0 = .ok (.lconst 1, 1) := by decide +kernel
theorem dX8_alignment_1 : decode cX8_alignment 1 = .ok (.lstore_n 1, 1) := by decide +kernel
theorem dX8_alignment_2 : decode cX8_alignment 2 = .ok (.iconst 0, 1) := by decide +kernel
theorem dX8_alignment_3 : decode cX8_alignment 3 = .ok (.istore_n 3, 1) := by decide +kernel
theorem dX8_alignment_4 : decode cX8_alignment 4 = .ok (.iload_n 3, 1) := by decide +kernel
theorem dX8_alignment_5 : decode cX8_alignment 5 = .ok (.aload_n 0, 1) := by decide +kernel
theorem dX8_alignment_6 : decode cX8_alignment 6 = .ok (.getfield 9, 3) := by decide +kernel
theorem dX8_alignment_9 : decode cX8_alignment 9 = .ok (.iconst 0, 1) := by decide +kernel
theorem dX8_alignment_10 : decode cX8_alignment 10 = .ok (.iaload, 1) := by decide +kernel
theorem dX8_alignment_11 : decode cX8_alignment 11 = .ok (.if_icmp .ge 34, 3) := by decide +kernel
theorem dX8_alignment_14 : decode cX8_alignment 14 = .ok (.lload_n 1, 1) := by decide +kernel
theorem dX8_alignment_15 : decode cX8_alignment 15 = .ok (.lstore 4, 2) := by decide +kernel
theorem dX8_alignment_17 : decode cX8_alignment 17 = .ok (.lload_n 1, 1) := by decide +kernel
theorem dX8_alignment_18 : decode cX8_alignment 18 = .ok (.aload_n 0, 1) := by decide +kernel
theorem dX8_alignment_19 : decode cX8_alignment 19 = .ok (.iload_n 3, 1) := by decide +kernel
theorem dX8_alignment_20 : decode cX8_alignment 20 = .ok (.iconst 1, 1) := by decide +kernel
theorem dX8_alignment_21 : decode cX8_alignment 21 = .ok (.invokevirtual 49, 3) := by decide +kernel
theorem dX8_alignment_24 : decode cX8_alignment 24 = .ok (.i2l, 1) := by decide +kernel
theorem dX8_alignment_25 : decode cX8_alignment 25 = .ok (.lrem, 1) := by decide +kernel
theorem dX8_alignment_26 : decode cX8_alignment 26 = .ok (.lconst 0, 1) := by decide +kernel
theorem dX8_alignment_27 : decode cX8_alignment 27 = .ok (.lcmp, 1) := by decide +kernel
theorem dX8_alignment_28 : decode cX8_alignment 28 = .ok (.ifCond .eq 11, 3) := by decide +kernel
theorem dX8_alignment_31 : decode cX8_alignment 31 = .ok (.lload_n 1, 1) := by decide +kernel
theorem dX8_alignment_32 : decode cX8_alignment 32 = .ok (.lload 4, 2) := by decide +kernel
theorem dX8_alignment_34 : decode cX8_alignment 34 = .ok (.ladd, 1) := by decide +kernel
theorem dX8_alignment_35 : decode cX8_alignment 35 = .ok (.lstore_n 1, 1) := by decide +kernel
theorem dX8_alignment_36 : decode cX8_alignment 36 = .ok (.goto (-19), 3) := by decide +kernel
theorem dX8_alignment_39 : decode cX8_alignment 39 = .ok (.iinc 3 1, 3) := by decide +kernel
theorem dX8_alignment_42 : decode cX8_alignment 42 = .ok (.goto (-38), 3) := by decide +kernel
theorem dX8_alignment_45 : decode cX8_alignment 45 = .ok (.aload_n 0, 1) := by decide +kernel
theorem dX8_alignment_46 : decode cX8_alignment 46 = .ok (.aload_n 0, 1) := by decide +kernel
theorem dX8_alignment_47 : decode cX8_alignment 47 = .ok (.getfield 9, 3) := by decide +kernel
theorem dX8_alignment_50 : decode cX8_alignment 50 = .ok (.iconst 0, 1) := by decide +kernel
theorem dX8_alignment_51 : decode cX8_alignment 51 = .ok (.iaload, 1) := by decide +kernel
theorem dX8_alignment_52 : decode cX8_alignment 52 = .ok (.ifCond .le 7, 3) := by decide +kernel
theorem dX8_alignment_55 : decode cX8_alignment 55 = .ok (.iconst 1, 1) := by decide +kernel
theorem dX8_alignment_56 : decode cX8_alignment 56 = .ok (.goto 4, 3) := by decide +kernel
theorem dX8_alignment_59 : decode cX8_alignment 59 = .ok (.iconst 0, 1) := by decide +kernel
theorem dX8_alignment_60 : decode cX8_alignment 60 = .ok (.invokevirtual 115, 3) := by decide +kernel
theorem dX8_alignment_63 : decode cX8_alignment 63 = .ok (.ifCond .eq 7, 3) := by decide +kernel
theorem dX8_alignment_66 : decode cX8_alignment 66 = .ok (.lload_n 1, 1) := by decide +kernel
theorem dX8_alignment_67 : decode cX8_alignment 67 = .ok (.goto 4, 3) := by decide +kernel
theorem dX8_alignment_70 : decode cX8_alignment 70 = .ok (.lconst 0, 1) := by decide +kernel
theorem dX8_alignment_71 : decode cX8_alignment 71 = .ok (.lreturn, 1) := by decide +kernel
theorem dX8_plans_0 : decode cX8_plans 0 = .ok (.aload_n 0, 1) := by decide +kernel
theorem dX8_plans_1 : decode cX8_plans 1 = .ok (.getfield 13, 3) := by decide +kernel
theorem dX8_plans_4 : decode cX8_plans 4 = .ok (.iload_n 1, 1) := by decide +kernel
theorem dX8_plans_5 : decode cX8_plans 5 = .ok (.iconst 1, 1) := by decide +kernel
theorem dX8_plans_6 : decode cX8_plans 6 = .ok (.iadd, 1) := by decide +kernel
theorem dX8_plans_7 : decode cX8_plans 7 = .ok (.iconst 0, 1) := by decide +kernel
theorem dX8_plans_8 : decode cX8_plans 8 = .ok (.iastore, 1) := by decide +kernel
theorem dX8_plans_9 : decode cX8_plans 9 = .ok (.aload_n 0, 1) := by decide +kernel
theorem dX8_plans_10 : decode cX8_plans 10 = .ok (.getfield 16, 3) := by decide +kernel
theorem dX8_plans_13 : decode cX8_plans 13 = .ok (.iload_n 1, 1) := by decide +kernel
theorem dX8_plans_14 : decode cX8_plans 14 = .ok (.iconst 1, 1) := by decide +kernel
theorem dX8_plans_15 : decode cX8_plans 15 = .ok (.iadd, 1) := by decide +kernel
theorem dX8_plans_16 : decode cX8_plans 16 = .ok (.iconst 0, 1) := by decide +kernel
theorem dX8_plans_17 : decode cX8_plans 17 = .ok (.iastore, 1) := by decide +kernel
theorem dX8_plans_18 : decode cX8_plans 18 = .ok (.iload_n 1, 1) := by decide +kernel
theorem dX8_plans_19 : decode cX8_plans 19 = .ok (.istore_n 2, 1) := by decide +kernel
theorem dX8_plans_20 : decode cX8_plans 20 = .ok (.iload_n 2, 1) := by decide +kernel
theorem dX8_plans_21 : decode cX8_plans 21 = .ok (.iconst 1, 1) := by decide +kernel
theorem dX8_plans_22 : decode cX8_plans 22 = .ok (.if_icmp .lt 67, 3) := by decide +kernel
theorem dX8_plans_25 : decode cX8_plans 25 = .ok (.aload_n 0, 1) := by decide +kernel
theorem dX8_plans_26 : decode cX8_plans 26 = .ok (.getfield 13, 3) := by decide +kernel
theorem dX8_plans_29 : decode cX8_plans 29 = .ok (.iload_n 2, 1) := by decide +kernel
theorem dX8_plans_30 : decode cX8_plans 30 = .ok (.aload_n 0, 1) := by decide +kernel
theorem dX8_plans_31 : decode cX8_plans 31 = .ok (.getfield 13, 3) := by decide +kernel
theorem dX8_plans_34 : decode cX8_plans 34 = .ok (.iload_n 2, 1) := by decide +kernel
theorem dX8_plans_35 : decode cX8_plans 35 = .ok (.iconst 1, 1) := by decide +kernel
theorem dX8_plans_36 : decode cX8_plans 36 = .ok (.iadd, 1) := by decide +kernel
theorem dX8_plans_37 : decode cX8_plans 37 = .ok (.iaload, 1) := by decide +kernel
theorem dX8_plans_38 : decode cX8_plans 38 = .ok (.iastore, 1) := by decide +kernel
theorem dX8_plans_39 : decode cX8_plans 39 = .ok (.aload_n 0, 1) := by decide +kernel
theorem dX8_plans_40 : decode cX8_plans 40 = .ok (.getfield 16, 3) := by decide +kernel
theorem dX8_plans_43 : decode cX8_plans 43 = .ok (.iload_n 2, 1) := by decide +kernel
theorem dX8_plans_44 : decode cX8_plans 44 = .ok (.aload_n 0, 1) := by decide +kernel
theorem dX8_plans_45 : decode cX8_plans 45 = .ok (.getfield 16, 3) := by decide +kernel
theorem dX8_plans_48 : decode cX8_plans 48 = .ok (.iload_n 2, 1) := by decide +kernel
theorem dX8_plans_49 : decode cX8_plans 49 = .ok (.iconst 1, 1) := by decide +kernel
theorem dX8_plans_50 : decode cX8_plans 50 = .ok (.iadd, 1) := by decide +kernel
theorem dX8_plans_51 : decode cX8_plans 51 = .ok (.iaload, 1) := by decide +kernel
theorem dX8_plans_52 : decode cX8_plans 52 = .ok (.iastore, 1) := by decide +kernel
theorem dX8_plans_53 : decode cX8_plans 53 = .ok (.iconst 0, 1) := by decide +kernel
theorem dX8_plans_54 : decode cX8_plans 54 = .ok (.istore_n 3, 1) := by decide +kernel
theorem dX8_plans_55 : decode cX8_plans 55 = .ok (.iload_n 3, 1) := by decide +kernel
theorem dX8_plans_56 : decode cX8_plans 56 = .ok (.aload_n 0, 1) := by decide +kernel
theorem dX8_plans_57 : decode cX8_plans 57 = .ok (.getfield 9, 3) := by decide +kernel
theorem dX8_plans_60 : decode cX8_plans 60 = .ok (.iconst 0, 1) := by decide +kernel
theorem dX8_plans_61 : decode cX8_plans 61 = .ok (.iaload, 1) := by decide +kernel
theorem dX8_plans_62 : decode cX8_plans 62 = .ok (.if_icmp .ge 21, 3) := by decide +kernel
theorem dX8_plans_65 : decode cX8_plans 65 = .ok (.aload_n 0, 1) := by decide +kernel
theorem dX8_plans_66 : decode cX8_plans 66 = .ok (.aload_n 0, 1) := by decide +kernel
theorem dX8_plans_67 : decode cX8_plans 67 = .ok (.iload_n 3, 1) := by decide +kernel
theorem dX8_plans_68 : decode cX8_plans 68 = .ok (.iload_n 2, 1) := by decide +kernel
theorem dX8_plans_69 : decode cX8_plans 69 = .ok (.invokevirtual 132, 3) := by decide +kernel
theorem dX8_plans_72 : decode cX8_plans 72 = .ok (.iload_n 2, 1) := by decide +kernel
theorem dX8_plans_73 : decode cX8_plans 73 = .ok (.iload_n 1, 1) := by decide +kernel
theorem dX8_plans_74 : decode cX8_plans 74 = .ok (.invokevirtual 141, 3) := by decide +kernel
theorem dX8_plans_77 : decode cX8_plans 77 = .ok (.iinc 3 1, 3) := by decide +kernel
theorem dX8_plans_80 : decode cX8_plans 80 = .ok (.goto (-25), 3) := by decide +kernel
theorem dX8_plans_83 : decode cX8_plans 83 = .ok (.iinc 2 (-1), 3) := by decide +kernel
theorem dX8_plans_86 : decode cX8_plans 86 = .ok (.goto (-66), 3) := by decide +kernel
theorem dX8_plans_89 : decode cX8_plans 89 = .ok (.return_, 1) := by decide +kernel
theorem dX8_follows_0 : decode cX8_follows 0 = .ok (.iload_n 2, 1) := by decide +kernel
theorem dX8_follows_1 : decode cX8_follows 1 = .ok (.iload_n 1, 1) := by decide +kernel
theorem dX8_follows_2 : decode cX8_follows 2 = .ok (.invokestatic 125, 3) := by decide +kernel
theorem dX8_follows_5 : decode cX8_follows 5 = .ok (.iadd, 1) := by decide +kernel
theorem dX8_follows_6 : decode cX8_follows 6 = .ok (.istore 4, 2) := by decide +kernel
theorem dX8_follows_8 : decode cX8_follows 8 = .ok (.iload_n 1, 1) := by decide +kernel
theorem dX8_follows_9 : decode cX8_follows 9 = .ok (.ifCond .eq 11, 3) := by decide +kernel
theorem dX8_follows_12 : decode cX8_follows 12 = .ok (.iload 4, 2) := by decide +kernel
theorem dX8_follows_14 : decode cX8_follows 14 = .ok (.iload_n 3, 1) := by decide +kernel
theorem dX8_follows_15 : decode cX8_follows 15 = .ok (.iconst 1, 1) := by decide +kernel
theorem dX8_follows_16 : decode cX8_follows 16 = .ok (.iadd, 1) := by decide +kernel
theorem dX8_follows_17 : decode cX8_follows 17 = .ok (.if_icmp .le 4, 3) := by decide +kernel
theorem dX8_follows_20 : decode cX8_follows 20 = .ok (.return_, 1) := by decide +kernel
theorem dX8_follows_21 : decode cX8_follows 21 = .ok (.iload_n 1, 1) := by decide +kernel
theorem dX8_follows_22 : decode cX8_follows 22 = .ok (.aload_n 0, 1) := by decide +kernel
theorem dX8_follows_23 : decode cX8_follows 23 = .ok (.getfield 13, 3) := by decide +kernel
theorem dX8_follows_26 : decode cX8_follows 26 = .ok (.iload 4, 2) := by decide +kernel
theorem dX8_follows_28 : decode cX8_follows 28 = .ok (.iaload, 1) := by decide +kernel
theorem dX8_follows_29 : decode cX8_follows 29 = .ok (.iadd, 1) := by decide +kernel
theorem dX8_follows_30 : decode cX8_follows 30 = .ok (.istore 5, 2) := by decide +kernel
theorem dX8_follows_32 : decode cX8_follows 32 = .ok (.iconst 1, 1) := by decide +kernel
theorem dX8_follows_33 : decode cX8_follows 33 = .ok (.aload_n 0, 1) := by decide +kernel
theorem dX8_follows_34 : decode cX8_follows 34 = .ok (.getfield 16, 3) := by decide +kernel
theorem dX8_follows_37 : decode cX8_follows 37 = .ok (.iload 4, 2) := by decide +kernel
theorem dX8_follows_39 : decode cX8_follows 39 = .ok (.iaload, 1) := by decide +kernel
theorem dX8_follows_40 : decode cX8_follows 40 = .ok (.iadd, 1) := by decide +kernel
theorem dX8_follows_41 : decode cX8_follows 41 = .ok (.istore 6, 2) := by decide +kernel
theorem dX8_follows_43 : decode cX8_follows 43 = .ok (.iload 5, 2) := by decide +kernel
theorem dX8_follows_45 : decode cX8_follows 45 = .ok (.aload_n 0, 1) := by decide +kernel
theorem dX8_follows_46 : decode cX8_follows 46 = .ok (.getfield 13, 3) := by decide +kernel
theorem dX8_follows_49 : decode cX8_follows 49 = .ok (.iload_n 2, 1) := by decide +kernel
theorem dX8_follows_50 : decode cX8_follows 50 = .ok (.iaload, 1) := by decide +kernel
theorem dX8_follows_51 : decode cX8_follows 51 = .ok (.if_icmp .lt 25, 3) := by decide +kernel
theorem dX8_follows_54 : decode cX8_follows 54 = .ok (.iload 5, 2) := by decide +kernel
theorem dX8_follows_56 : decode cX8_follows 56 = .ok (.aload_n 0, 1) := by decide +kernel
theorem dX8_follows_57 : decode cX8_follows 57 = .ok (.getfield 13, 3) := by decide +kernel
theorem dX8_follows_60 : decode cX8_follows 60 = .ok (.iload_n 2, 1) := by decide +kernel
theorem dX8_follows_61 : decode cX8_follows 61 = .ok (.iaload, 1) := by decide +kernel
theorem dX8_follows_62 : decode cX8_follows 62 = .ok (.if_icmp .ne 15, 3) := by decide +kernel
theorem dX8_follows_65 : decode cX8_follows 65 = .ok (.iload 6, 2) := by decide +kernel
theorem dX8_follows_67 : decode cX8_follows 67 = .ok (.aload_n 0, 1) := by decide +kernel
theorem dX8_follows_68 : decode cX8_follows 68 = .ok (.getfield 16, 3) := by decide +kernel
theorem dX8_follows_71 : decode cX8_follows 71 = .ok (.iload_n 2, 1) := by decide +kernel
theorem dX8_follows_72 : decode cX8_follows 72 = .ok (.iaload, 1) := by decide +kernel
theorem dX8_follows_73 : decode cX8_follows 73 = .ok (.if_icmp .lt 4, 3) := by decide +kernel
theorem dX8_follows_76 : decode cX8_follows 76 = .ok (.return_, 1) := by decide +kernel
theorem dX8_follows_77 : decode cX8_follows 77 = .ok (.aload_n 0, 1) := by decide +kernel
theorem dX8_follows_78 : decode cX8_follows 78 = .ok (.getfield 13, 3) := by decide +kernel
theorem dX8_follows_81 : decode cX8_follows 81 = .ok (.iload_n 2, 1) := by decide +kernel
theorem dX8_follows_82 : decode cX8_follows 82 = .ok (.iload 5, 2) := by decide +kernel
theorem dX8_follows_84 : decode cX8_follows 84 = .ok (.iastore, 1) := by decide +kernel
theorem dX8_follows_85 : decode cX8_follows 85 = .ok (.aload_n 0, 1) := by decide +kernel
theorem dX8_follows_86 : decode cX8_follows 86 = .ok (.getfield 16, 3) := by decide +kernel
theorem dX8_follows_89 : decode cX8_follows 89 = .ok (.iload_n 2, 1) := by decide +kernel
theorem dX8_follows_90 : decode cX8_follows 90 = .ok (.iload 6, 2) := by decide +kernel
theorem dX8_follows_92 : decode cX8_follows 92 = .ok (.iastore, 1) := by decide +kernel
theorem dX8_follows_93 : decode cX8_follows 93 = .ok (.return_, 1) := by decide +kernel
theorem dX8_bestWorth_0 : decode cX8_bestWorth 0 = .ok (.aload_n 0, 1) := by decide +kernel
theorem dX8_bestWorth_1 : decode cX8_bestWorth 1 = .ok (.iload_n 1, 1) := by decide +kernel
theorem dX8_bestWorth_2 : decode cX8_bestWorth 2 = .ok (.iconst 0, 1) := by decide +kernel
theorem dX8_bestWorth_3 : decode cX8_bestWorth 3 = .ok (.bipush 60, 2) := by decide +kernel
theorem dX8_bestWorth_5 : decode cX8_bestWorth 5 = .ok (.invokestatic 69, 3) := by decide +kernel
theorem dX8_bestWorth_8 : decode cX8_bestWorth 8 = .ok (.invokevirtual 115, 3) := by decide +kernel
theorem dX8_bestWorth_11 : decode cX8_bestWorth 11 = .ok (.ifCond .ne 5, 3) := by decide +kernel
theorem dX8_bestWorth_14 : decode cX8_bestWorth 14 = .ok (.iconst 0, 1) := by decide +kernel
theorem dX8_bestWorth_15 : decode cX8_bestWorth 15 = .ok (.ireturn, 1) := by decide +kernel
theorem dX8_bestWorth_16 : decode cX8_bestWorth 16 = .ok (.aload_n 0, 1) := by decide +kernel
theorem dX8_bestWorth_17 : decode cX8_bestWorth 17 = .ok (.iload_n 1, 1) := by decide +kernel
theorem dX8_bestWorth_18 : decode cX8_bestWorth 18 = .ok (.invokevirtual 144, 3) := by decide +kernel
theorem dX8_bestWorth_21 : decode cX8_bestWorth 21 = .ok (.iload_n 1, 1) := by decide +kernel
theorem dX8_bestWorth_22 : decode cX8_bestWorth 22 = .ok (.ifCond .ne 7, 3) := by decide +kernel
theorem dX8_bestWorth_25 : decode cX8_bestWorth 25 = .ok (.iconst 0, 1) := by decide +kernel
theorem dX8_bestWorth_26 : decode cX8_bestWorth 26 = .ok (.goto 9, 3) := by decide +kernel
theorem dX8_bestWorth_29 : decode cX8_bestWorth 29 = .ok (.aload_n 0, 1) := by decide +kernel
theorem dX8_bestWorth_30 : decode cX8_bestWorth 30 = .ok (.getfield 13, 3) := by decide +kernel
theorem dX8_bestWorth_33 : decode cX8_bestWorth 33 = .ok (.iconst 1, 1) := by decide +kernel
theorem dX8_bestWorth_34 : decode cX8_bestWorth 34 = .ok (.iaload, 1) := by decide +kernel
theorem dX8_bestWorth_35 : decode cX8_bestWorth 35 = .ok (.ireturn, 1) := by decide +kernel
theorem dX8_bestWorthByDays_0 : decode cX8_bestWorthByDays 0 = .ok (.aload_n 0, 1) := by decide +kernel
theorem dX8_bestWorthByDays_1 : decode cX8_bestWorthByDays 1 = .ok (.iload_n 1, 1) := by decide +kernel
theorem dX8_bestWorthByDays_2 : decode cX8_bestWorthByDays 2 = .ok (.invokevirtual 147, 3) := by decide +kernel
theorem dX8_bestWorthByDays_5 : decode cX8_bestWorthByDays 5 = .ok (.ireturn, 1) := by decide +kernel
theorem dX8_fewestPasses_0 : decode cX8_fewestPasses 0 = .ok (.aload_n 0, 1) := by decide +kernel
theorem dX8_fewestPasses_1 : decode cX8_fewestPasses 1 = .ok (.iload_n 1, 1) := by decide +kernel
theorem dX8_fewestPasses_2 : decode cX8_fewestPasses 2 = .ok (.invokevirtual 147, 3) := by decide +kernel
theorem dX8_fewestPasses_5 : decode cX8_fewestPasses 5 = .ok (.istore_n 2, 1) := by decide +kernel
theorem dX8_fewestPasses_6 : decode cX8_fewestPasses 6 = .ok (.aload_n 0, 1) := by decide +kernel
theorem dX8_fewestPasses_7 : decode cX8_fewestPasses 7 = .ok (.getfield 36, 3) := by decide +kernel
theorem dX8_fewestPasses_10 : decode cX8_fewestPasses 10 = .ok (.ifCond .ne 16, 3) := by decide +kernel
theorem dX8_fewestPasses_13 : decode cX8_fewestPasses 13 = .ok (.iload_n 1, 1) := by decide +kernel
theorem dX8_fewestPasses_14 : decode cX8_fewestPasses 14 = .ok (.ifCond .le 12, 3) := by decide +kernel
theorem dX8_fewestPasses_17 : decode cX8_fewestPasses 17 = .ok (.aload_n 0, 1) := by decide +kernel
theorem dX8_fewestPasses_18 : decode cX8_fewestPasses 18 = .ok (.getfield 16, 3) := by decide +kernel
theorem dX8_fewestPasses_21 : decode cX8_fewestPasses 21 = .ok (.iconst 1, 1) := by decide +kernel
theorem dX8_fewestPasses_22 : decode cX8_fewestPasses 22 = .ok (.iaload, 1) := by decide +kernel
theorem dX8_fewestPasses_23 : decode cX8_fewestPasses 23 = .ok (.goto 4, 3) := by decide +kernel
theorem dX8_fewestPasses_26 : decode cX8_fewestPasses 26 = .ok (.iconst 0, 1) := by decide +kernel
theorem dX8_fewestPasses_27 : decode cX8_fewestPasses 27 = .ok (.ireturn, 1) := by decide +kernel
theorem dX8_dust_0 : decode cX8_dust 0 = .ok (.aload_n 0, 1) := by decide +kernel
theorem dX8_dust_1 : decode cX8_dust 1 = .ok (.iload_n 1, 1) := by decide +kernel
theorem dX8_dust_2 : decode cX8_dust 2 = .ok (.iconst 0, 1) := by decide +kernel
theorem dX8_dust_3 : decode cX8_dust 3 = .ok (.bipush 11, 2) := by decide +kernel
theorem dX8_dust_5 : decode cX8_dust 5 = .ok (.invokestatic 69, 3) := by decide +kernel
theorem dX8_dust_8 : decode cX8_dust 8 = .ok (.invokevirtual 115, 3) := by decide +kernel
theorem dX8_dust_11 : decode cX8_dust 11 = .ok (.ifCond .eq 15, 3) := by decide +kernel
theorem dX8_dust_14 : decode cX8_dust 14 = .ok (.aload_n 0, 1) := by decide +kernel
theorem dX8_dust_15 : decode cX8_dust 15 = .ok (.getfield 9, 3) := by decide +kernel
theorem dX8_dust_18 : decode cX8_dust 18 = .ok (.bipush 37, 2) := by decide +kernel
theorem dX8_dust_20 : decode cX8_dust 20 = .ok (.iload_n 1, 1) := by decide +kernel
theorem dX8_dust_21 : decode cX8_dust 21 = .ok (.iadd, 1) := by decide +kernel
theorem dX8_dust_22 : decode cX8_dust 22 = .ok (.iaload, 1) := by decide +kernel
theorem dX8_dust_23 : decode cX8_dust 23 = .ok (.goto 4, 3) := by decide +kernel
theorem dX8_dust_26 : decode cX8_dust 26 = .ok (.iconst 0, 1) := by decide +kernel
theorem dX8_dust_27 : decode cX8_dust 27 = .ok (.ireturn, 1) := by decide +kernel
theorem dX8_gains_0 : decode cX8_gains 0 = .ok (.aload_n 0, 1) := by decide +kernel
theorem dX8_gains_1 : decode cX8_gains 1 = .ok (.iload_n 1, 1) := by decide +kernel
theorem dX8_gains_2 : decode cX8_gains 2 = .ok (.iload_n 2, 1) := by decide +kernel
theorem dX8_gains_3 : decode cX8_gains 3 = .ok (.invokevirtual 103, 3) := by decide +kernel
theorem dX8_gains_6 : decode cX8_gains 6 = .ok (.aload_n 0, 1) := by decide +kernel
theorem dX8_gains_7 : decode cX8_gains 7 = .ok (.getfield 9, 3) := by decide +kernel
theorem dX8_gains_10 : decode cX8_gains 10 = .ok (.iconst 4, 1) := by decide +kernel
theorem dX8_gains_11 : decode cX8_gains 11 = .ok (.iaload, 1) := by decide +kernel
theorem dX8_gains_12 : decode cX8_gains 12 = .ok (.iload_n 2, 1) := by decide +kernel
theorem dX8_gains_13 : decode cX8_gains 13 = .ok (.imul, 1) := by decide +kernel
theorem dX8_gains_14 : decode cX8_gains 14 = .ok (.isub, 1) := by decide +kernel
theorem dX8_gains_15 : decode cX8_gains 15 = .ok (.ireturn, 1) := by decide +kernel
theorem dX8_gain_0 : decode cX8_gain 0 = .ok (.aload_n 0, 1) := by decide +kernel
theorem dX8_gain_1 : decode cX8_gain 1 = .ok (.iload_n 1, 1) := by decide +kernel
theorem dX8_gain_2 : decode cX8_gain 2 = .ok (.iconst 0, 1) := by decide +kernel
theorem dX8_gain_3 : decode cX8_gain 3 = .ok (.bipush 11, 2) := by decide +kernel
theorem dX8_gain_5 : decode cX8_gain 5 = .ok (.invokestatic 69, 3) := by decide +kernel
theorem dX8_gain_8 : decode cX8_gain 8 = .ok (.ifCond .ne 7, 3) := by decide +kernel
theorem dX8_gain_11 : decode cX8_gain 11 = .ok (.iconst 1, 1) := by decide +kernel
theorem dX8_gain_12 : decode cX8_gain 12 = .ok (.goto 18, 3) := by decide +kernel
theorem dX8_gain_15 : decode cX8_gain 15 = .ok (.iload_n 2, 1) := by decide +kernel
theorem dX8_gain_16 : decode cX8_gain 16 = .ok (.iconst 1, 1) := by decide +kernel
theorem dX8_gain_17 : decode cX8_gain 17 = .ok (.bipush 12, 2) := by decide +kernel
theorem dX8_gain_19 : decode cX8_gain 19 = .ok (.invokestatic 69, 3) := by decide +kernel
theorem dX8_gain_22 : decode cX8_gain 22 = .ok (.ifCond .ne 7, 3) := by decide +kernel
theorem dX8_gain_25 : decode cX8_gain 25 = .ok (.iconst 2, 1) := by decide +kernel
theorem dX8_gain_26 : decode cX8_gain 26 = .ok (.goto 4, 3) := by decide +kernel
theorem dX8_gain_29 : decode cX8_gain 29 = .ok (.iconst 0, 1) := by decide +kernel
theorem dX8_gain_30 : decode cX8_gain 30 = .ok (.putfield 36, 3) := by decide +kernel
theorem dX8_gain_33 : decode cX8_gain 33 = .ok (.aload_n 0, 1) := by decide +kernel
theorem dX8_gain_34 : decode cX8_gain 34 = .ok (.getfield 36, 3) := by decide +kernel
theorem dX8_gain_37 : decode cX8_gain 37 = .ok (.ifCond .ne 12, 3) := by decide +kernel
theorem dX8_gain_40 : decode cX8_gain 40 = .ok (.aload_n 0, 1) := by decide +kernel
theorem dX8_gain_41 : decode cX8_gain 41 = .ok (.iload_n 1, 1) := by decide +kernel
theorem dX8_gain_42 : decode cX8_gain 42 = .ok (.iload_n 2, 1) := by decide +kernel
theorem dX8_gain_43 : decode cX8_gain 43 = .ok (.invokevirtual 150, 3) := by decide +kernel
theorem dX8_gain_46 : decode cX8_gain 46 = .ok (.goto 4, 3) := by decide +kernel
theorem dX8_gain_49 : decode cX8_gain 49 = .ok (.iconst 0, 1) := by decide +kernel
theorem dX8_gain_50 : decode cX8_gain 50 = .ok (.ireturn, 1) := by decide +kernel
theorem dX8_bestArc_0 : decode cX8_bestArc 0 = .ok (.bipush 16, 2) := by decide +kernel
theorem dX8_bestArc_2 : decode cX8_bestArc 2 = .ok (.istore_n 1, 1) := by decide +kernel
theorem dX8_bestArc_3 : decode cX8_bestArc 3 = .ok (.iconst 1, 1) := by decide +kernel
theorem dX8_bestArc_4 : decode cX8_bestArc 4 = .ok (.istore_n 2, 1) := by decide +kernel
theorem dX8_bestArc_5 : decode cX8_bestArc 5 = .ok (.iload_n 2, 1) := by decide +kernel
theorem dX8_bestArc_6 : decode cX8_bestArc 6 = .ok (.bipush 12, 2) := by decide +kernel
theorem dX8_bestArc_8 : decode cX8_bestArc 8 = .ok (.if_icmp .gt 55, 3) := by decide +kernel
theorem dX8_bestArc_11 : decode cX8_bestArc 11 = .ok (.iconst 0, 1) := by decide +kernel
theorem dX8_bestArc_12 : decode cX8_bestArc 12 = .ok (.istore_n 3, 1) := by decide +kernel
theorem dX8_bestArc_13 : decode cX8_bestArc 13 = .ok (.iload_n 3, 1) := by decide +kernel
theorem dX8_bestArc_14 : decode cX8_bestArc 14 = .ok (.bipush 12, 2) := by decide +kernel
theorem dX8_bestArc_16 : decode cX8_bestArc 16 = .ok (.if_icmp .ge 41, 3) := by decide +kernel
theorem dX8_bestArc_19 : decode cX8_bestArc 19 = .ok (.aload_n 0, 1) := by decide +kernel
theorem dX8_bestArc_20 : decode cX8_bestArc 20 = .ok (.iload_n 3, 1) := by decide +kernel
theorem dX8_bestArc_21 : decode cX8_bestArc 21 = .ok (.iload_n 2, 1) := by decide +kernel
theorem dX8_bestArc_22 : decode cX8_bestArc 22 = .ok (.invokevirtual 150, 3) := by decide +kernel
theorem dX8_bestArc_25 : decode cX8_bestArc 25 = .ok (.aload_n 0, 1) := by decide +kernel
theorem dX8_bestArc_26 : decode cX8_bestArc 26 = .ok (.iload_n 1, 1) := by decide +kernel
theorem dX8_bestArc_27 : decode cX8_bestArc 27 = .ok (.bipush 16, 2) := by decide +kernel
theorem dX8_bestArc_29 : decode cX8_bestArc 29 = .ok (.irem, 1) := by decide +kernel
theorem dX8_bestArc_30 : decode cX8_bestArc 30 = .ok (.iload_n 1, 1) := by decide +kernel
theorem dX8_bestArc_31 : decode cX8_bestArc 31 = .ok (.bipush 16, 2) := by decide +kernel
theorem dX8_bestArc_33 : decode cX8_bestArc 33 = .ok (.idiv, 1) := by decide +kernel
theorem dX8_bestArc_34 : decode cX8_bestArc 34 = .ok (.invokevirtual 150, 3) := by decide +kernel
theorem dX8_bestArc_37 : decode cX8_bestArc 37 = .ok (.if_icmp .le 12, 3) := by decide +kernel
theorem dX8_bestArc_40 : decode cX8_bestArc 40 = .ok (.bipush 16, 2) := by decide +kernel
theorem dX8_bestArc_42 : decode cX8_bestArc 42 = .ok (.iload_n 2, 1) := by decide +kernel
theorem dX8_bestArc_43 : decode cX8_bestArc 43 = .ok (.imul, 1) := by decide +kernel
theorem dX8_bestArc_44 : decode cX8_bestArc 44 = .ok (.iload_n 3, 1) := by decide +kernel
theorem dX8_bestArc_45 : decode cX8_bestArc 45 = .ok (.iadd, 1) := by decide +kernel
theorem dX8_bestArc_46 : decode cX8_bestArc 46 = .ok (.goto 4, 3) := by decide +kernel
theorem dX8_bestArc_49 : decode cX8_bestArc 49 = .ok (.iload_n 1, 1) := by decide +kernel
theorem dX8_bestArc_50 : decode cX8_bestArc 50 = .ok (.istore_n 1, 1) := by decide +kernel
theorem dX8_bestArc_51 : decode cX8_bestArc 51 = .ok (.iinc 3 1, 3) := by decide +kernel
theorem dX8_bestArc_54 : decode cX8_bestArc 54 = .ok (.goto (-41), 3) := by decide +kernel
theorem dX8_bestArc_57 : decode cX8_bestArc 57 = .ok (.iinc 2 1, 3) := by decide +kernel
theorem dX8_bestArc_60 : decode cX8_bestArc 60 = .ok (.goto (-55), 3) := by decide +kernel
theorem dX8_bestArc_63 : decode cX8_bestArc 63 = .ok (.iload_n 1, 1) := by decide +kernel
theorem dX8_bestArc_64 : decode cX8_bestArc 64 = .ok (.ireturn, 1) := by decide +kernel
theorem dX8_bestGain_0 : decode cX8_bestGain 0 = .ok (.aload_n 0, 1) := by decide +kernel
theorem dX8_bestGain_1 : decode cX8_bestGain 1 = .ok (.iconst 0, 1) := by decide +kernel
theorem dX8_bestGain_2 : decode cX8_bestGain 2 = .ok (.putfield 36, 3) := by decide +kernel
theorem dX8_bestGain_5 : decode cX8_bestGain 5 = .ok (.aload_n 0, 1) := by decide +kernel
theorem dX8_bestGain_6 : decode cX8_bestGain 6 = .ok (.invokevirtual 153, 3) := by decide +kernel
theorem dX8_bestGain_9 : decode cX8_bestGain 9 = .ok (.istore_n 1, 1) := by decide +kernel
theorem dX8_bestGain_10 : decode cX8_bestGain 10 = .ok (.aload_n 0, 1) := by decide +kernel
theorem dX8_bestGain_11 : decode cX8_bestGain 11 = .ok (.iload_n 1, 1) := by decide +kernel
theorem dX8_bestGain_12 : decode cX8_bestGain 12 = .ok (.bipush 16, 2) := by decide +kernel
theorem dX8_bestGain_14 : decode cX8_bestGain 14 = .ok (.irem, 1) := by decide +kernel
theorem dX8_bestGain_15 : decode cX8_bestGain 15 = .ok (.iload_n 1, 1) := by decide +kernel
theorem dX8_bestGain_16 : decode cX8_bestGain 16 = .ok (.bipush 16, 2) := by decide +kernel
theorem dX8_bestGain_18 : decode cX8_bestGain 18 = .ok (.idiv, 1) := by decide +kernel
theorem dX8_bestGain_19 : decode cX8_bestGain 19 = .ok (.invokevirtual 150, 3) := by decide +kernel
theorem dX8_bestGain_22 : decode cX8_bestGain 22 = .ok (.ireturn, 1) := by decide +kernel
theorem dX8_bestGainByArcs_0 : decode cX8_bestGainByArcs 0 = .ok (.aload_n 0, 1) := by decide +kernel
theorem dX8_bestGainByArcs_1 : decode cX8_bestGainByArcs 1 = .ok (.invokevirtual 156, 3) := by decide +kernel
theorem dX8_bestGainByArcs_4 : decode cX8_bestGainByArcs 4 = .ok (.ireturn, 1) := by decide +kernel
theorem dX8_bestStart_0 : decode cX8_bestStart 0 = .ok (.aload_n 0, 1) := by decide +kernel
theorem dX8_bestStart_1 : decode cX8_bestStart 1 = .ok (.iconst 0, 1) := by decide +kernel
theorem dX8_bestStart_2 : decode cX8_bestStart 2 = .ok (.putfield 36, 3) := by decide +kernel
theorem dX8_bestStart_5 : decode cX8_bestStart 5 = .ok (.aload_n 0, 1) := by decide +kernel
theorem dX8_bestStart_6 : decode cX8_bestStart 6 = .ok (.invokevirtual 153, 3) := by decide +kernel
theorem dX8_bestStart_9 : decode cX8_bestStart 9 = .ok (.bipush 16, 2) := by decide +kernel
theorem dX8_bestStart_11 : decode cX8_bestStart 11 = .ok (.irem, 1) := by decide +kernel
theorem dX8_bestStart_12 : decode cX8_bestStart 12 = .ok (.ireturn, 1) := by decide +kernel
theorem dX8_bestPlaces_0 : decode cX8_bestPlaces 0 = .ok (.aload_n 0, 1) := by decide +kernel
theorem dX8_bestPlaces_1 : decode cX8_bestPlaces 1 = .ok (.iconst 0, 1) := by decide +kernel
theorem dX8_bestPlaces_2 : decode cX8_bestPlaces 2 = .ok (.putfield 36, 3) := by decide +kernel
theorem dX8_bestPlaces_5 : decode cX8_bestPlaces 5 = .ok (.aload_n 0, 1) := by decide +kernel
theorem dX8_bestPlaces_6 : decode cX8_bestPlaces 6 = .ok (.invokevirtual 153, 3) := by decide +kernel
theorem dX8_bestPlaces_9 : decode cX8_bestPlaces 9 = .ok (.bipush 16, 2) := by decide +kernel
theorem dX8_bestPlaces_11 : decode cX8_bestPlaces 11 = .ok (.idiv, 1) := by decide +kernel
theorem dX8_bestPlaces_12 : decode cX8_bestPlaces 12 = .ok (.ireturn, 1) := by decide +kernel
theorem dX8_day_0 : decode cX8_day 0 = .ok (.aload_n 0, 1) := by decide +kernel
theorem dX8_day_1 : decode cX8_day 1 = .ok (.iconst 2, 1) := by decide +kernel
theorem dX8_day_2 : decode cX8_day 2 = .ok (.invokevirtual 112, 3) := by decide +kernel
theorem dX8_day_5 : decode cX8_day 5 = .ok (.ireturn, 1) := by decide +kernel
theorem dX8_coins_0 : decode cX8_coins 0 = .ok (.aload_n 0, 1) := by decide +kernel
theorem dX8_coins_1 : decode cX8_coins 1 = .ok (.iconst 3, 1) := by decide +kernel
theorem dX8_coins_2 : decode cX8_coins 2 = .ok (.invokevirtual 112, 3) := by decide +kernel
theorem dX8_coins_5 : decode cX8_coins 5 = .ok (.ireturn, 1) := by decide +kernel
theorem dX8_rate_0 : decode cX8_rate 0 = .ok (.aload_n 0, 1) := by decide +kernel
theorem dX8_rate_1 : decode cX8_rate 1 = .ok (.iconst 4, 1) := by decide +kernel
theorem dX8_rate_2 : decode cX8_rate 2 = .ok (.invokevirtual 112, 3) := by decide +kernel
theorem dX8_rate_5 : decode cX8_rate 5 = .ok (.ireturn, 1) := by decide +kernel
theorem dX8_dustTotal_0 : decode cX8_dustTotal 0 = .ok (.aload_n 0, 1) := by decide +kernel
theorem dX8_dustTotal_1 : decode cX8_dustTotal 1 = .ok (.iconst 0, 1) := by decide +kernel
theorem dX8_dustTotal_2 : decode cX8_dustTotal 2 = .ok (.putfield 36, 3) := by decide +kernel
theorem dX8_dustTotal_5 : decode cX8_dustTotal 5 = .ok (.aload_n 0, 1) := by decide +kernel
theorem dX8_dustTotal_6 : decode cX8_dustTotal 6 = .ok (.iconst 0, 1) := by decide +kernel
theorem dX8_dustTotal_7 : decode cX8_dustTotal 7 = .ok (.bipush 12, 2) := by decide +kernel
theorem dX8_dustTotal_9 : decode cX8_dustTotal 9 = .ok (.invokevirtual 103, 3) := by decide +kernel
theorem dX8_dustTotal_12 : decode cX8_dustTotal 12 = .ok (.ireturn, 1) := by decide +kernel
theorem dX8_dustByAccounts_0 : decode cX8_dustByAccounts 0 = .ok (.aload_n 0, 1) := by decide +kernel
theorem dX8_dustByAccounts_1 : decode cX8_dustByAccounts 1 = .ok (.invokevirtual 159, 3) := by decide +kernel
theorem dX8_dustByAccounts_4 : decode cX8_dustByAccounts 4 = .ok (.ireturn, 1) := by decide +kernel
theorem dX8_passTotal_0 : decode cX8_passTotal 0 = .ok (.aload_n 0, 1) := by decide +kernel
theorem dX8_passTotal_1 : decode cX8_passTotal 1 = .ok (.iconst 5, 1) := by decide +kernel
theorem dX8_passTotal_2 : decode cX8_passTotal 2 = .ok (.invokevirtual 112, 3) := by decide +kernel
theorem dX8_passTotal_5 : decode cX8_passTotal 5 = .ok (.ireturn, 1) := by decide +kernel
theorem dX8_burntTotal_0 : decode cX8_burntTotal 0 = .ok (.aload_n 0, 1) := by decide +kernel
theorem dX8_burntTotal_1 : decode cX8_burntTotal 1 = .ok (.bipush 6, 2) := by decide +kernel
theorem dX8_burntTotal_3 : decode cX8_burntTotal 3 = .ok (.invokevirtual 112, 3) := by decide +kernel
theorem dX8_burntTotal_6 : decode cX8_burntTotal 6 = .ok (.ireturn, 1) := by decide +kernel
theorem dX8_meanBrightness_0 : decode cX8_meanBrightness 0 = .ok (.iconst 0, 1) := by decide +kernel
theorem dX8_meanBrightness_1 : decode cX8_meanBrightness 1 = .ok (.istore_n 1, 1) := by decide +kernel
theorem dX8_meanBrightness_2 : decode cX8_meanBrightness 2 = .ok (.iconst 0, 1) := by decide +kernel
theorem dX8_meanBrightness_3 : decode cX8_meanBrightness 3 = .ok (.istore_n 2, 1) := by decide +kernel
theorem dX8_meanBrightness_4 : decode cX8_meanBrightness 4 = .ok (.iload_n 2, 1) := by decide +kernel
theorem dX8_meanBrightness_5 : decode cX8_meanBrightness 5 = .ok (.aload_n 0, 1) := by decide +kernel
theorem dX8_meanBrightness_6 : decode cX8_meanBrightness 6 = .ok (.getfield 9, 3) := by decide +kernel
theorem dX8_meanBrightness_9 : decode cX8_meanBrightness 9 = .ok (.iconst 0, 1) := by decide +kernel
theorem dX8_meanBrightness_10 : decode cX8_meanBrightness 10 = .ok (.iaload, 1) := by decide +kernel
theorem dX8_meanBrightness_11 : decode cX8_meanBrightness 11 = .ok (.if_icmp .ge 18, 3) := by decide +kernel
theorem dX8_meanBrightness_14 : decode cX8_meanBrightness 14 = .ok (.iload_n 1, 1) := by decide +kernel
theorem dX8_meanBrightness_15 : decode cX8_meanBrightness 15 = .ok (.aload_n 0, 1) := by decide +kernel
theorem dX8_meanBrightness_16 : decode cX8_meanBrightness 16 = .ok (.iload_n 2, 1) := by decide +kernel
theorem dX8_meanBrightness_17 : decode cX8_meanBrightness 17 = .ok (.iconst 2, 1) := by decide +kernel
theorem dX8_meanBrightness_18 : decode cX8_meanBrightness 18 = .ok (.invokevirtual 49, 3) := by decide +kernel
theorem dX8_meanBrightness_21 : decode cX8_meanBrightness 21 = .ok (.iadd, 1) := by decide +kernel
theorem dX8_meanBrightness_22 : decode cX8_meanBrightness 22 = .ok (.istore_n 1, 1) := by decide +kernel
theorem dX8_meanBrightness_23 : decode cX8_meanBrightness 23 = .ok (.iinc 2 1, 3) := by decide +kernel
theorem dX8_meanBrightness_26 : decode cX8_meanBrightness 26 = .ok (.goto (-22), 3) := by decide +kernel
theorem dX8_meanBrightness_29 : decode cX8_meanBrightness 29 = .ok (.aload_n 0, 1) := by decide +kernel
theorem dX8_meanBrightness_30 : decode cX8_meanBrightness 30 = .ok (.aload_n 0, 1) := by decide +kernel
theorem dX8_meanBrightness_31 : decode cX8_meanBrightness 31 = .ok (.getfield 9, 3) := by decide +kernel
theorem dX8_meanBrightness_34 : decode cX8_meanBrightness 34 = .ok (.iconst 0, 1) := by decide +kernel
theorem dX8_meanBrightness_35 : decode cX8_meanBrightness 35 = .ok (.iaload, 1) := by decide +kernel
theorem dX8_meanBrightness_36 : decode cX8_meanBrightness 36 = .ok (.ifCond .le 7, 3) := by decide +kernel
theorem dX8_meanBrightness_39 : decode cX8_meanBrightness 39 = .ok (.iconst 1, 1) := by decide +kernel
theorem dX8_meanBrightness_40 : decode cX8_meanBrightness 40 = .ok (.goto 4, 3) := by decide +kernel
theorem dX8_meanBrightness_43 : decode cX8_meanBrightness 43 = .ok (.iconst 0, 1) := by decide +kernel
theorem dX8_meanBrightness_44 : decode cX8_meanBrightness 44 = .ok (.invokevirtual 115, 3) := by decide +kernel
theorem dX8_meanBrightness_47 : decode cX8_meanBrightness 47 = .ok (.ifCond .eq 16, 3) := by decide +kernel
theorem dX8_meanBrightness_50 : decode cX8_meanBrightness 50 = .ok (.iload_n 1, 1) := by decide +kernel
theorem dX8_meanBrightness_51 : decode cX8_meanBrightness 51 = .ok (.i2d, 1) := by decide +kernel
theorem dX8_meanBrightness_52 : decode cX8_meanBrightness 52 = .ok (.aload_n 0, 1) := by decide +kernel
theorem dX8_meanBrightness_53 : decode cX8_meanBrightness 53 = .ok (.getfield 9, 3) := by decide +kernel
theorem dX8_meanBrightness_56 : decode cX8_meanBrightness 56 = .ok (.iconst 0, 1) := by decide +kernel
theorem dX8_meanBrightness_57 : decode cX8_meanBrightness 57 = .ok (.iaload, 1) := by decide +kernel
theorem dX8_meanBrightness_58 : decode cX8_meanBrightness 58 = .ok (.i2d, 1) := by decide +kernel
theorem dX8_meanBrightness_59 : decode cX8_meanBrightness 59 = .ok (.ddiv, 1) := by decide +kernel
theorem dX8_meanBrightness_60 : decode cX8_meanBrightness 60 = .ok (.goto 4, 3) := by decide +kernel
theorem dX8_meanBrightness_63 : decode cX8_meanBrightness 63 = .ok (.dconst 0, 1) := by decide +kernel
theorem dX8_meanBrightness_64 : decode cX8_meanBrightness 64 = .ok (.dreturn, 1) := by decide +kernel
theorem dX8_dustyShare_0 : decode cX8_dustyShare 0 = .ok (.aload_n 0, 1) := by decide +kernel
theorem dX8_dustyShare_1 : decode cX8_dustyShare 1 = .ok (.iconst 0, 1) := by decide +kernel
theorem dX8_dustyShare_2 : decode cX8_dustyShare 2 = .ok (.putfield 36, 3) := by decide +kernel
theorem dX8_dustyShare_5 : decode cX8_dustyShare 5 = .ok (.iconst 0, 1) := by decide +kernel
theorem dX8_dustyShare_6 : decode cX8_dustyShare 6 = .ok (.istore_n 1, 1) := by decide +kernel
theorem dX8_dustyShare_7 : decode cX8_dustyShare 7 = .ok (.iconst 0, 1) := by decide +kernel
theorem dX8_dustyShare_8 : decode cX8_dustyShare 8 = .ok (.istore_n 2, 1) := by decide +kernel
theorem dX8_dustyShare_9 : decode cX8_dustyShare 9 = .ok (.iload_n 2, 1) := by decide +kernel
theorem dX8_dustyShare_10 : decode cX8_dustyShare 10 = .ok (.bipush 12, 2) := by decide +kernel
theorem dX8_dustyShare_12 : decode cX8_dustyShare 12 = .ok (.if_icmp .ge 29, 3) := by decide +kernel
theorem dX8_dustyShare_15 : decode cX8_dustyShare 15 = .ok (.iload_n 1, 1) := by decide +kernel
theorem dX8_dustyShare_16 : decode cX8_dustyShare 16 = .ok (.aload_n 0, 1) := by decide +kernel
theorem dX8_dustyShare_17 : decode cX8_dustyShare 17 = .ok (.getfield 9, 3) := by decide +kernel
theorem dX8_dustyShare_20 : decode cX8_dustyShare 20 = .ok (.bipush 37, 2) := by decide +kernel
theorem dX8_dustyShare_22 : decode cX8_dustyShare 22 = .ok (.iload_n 2, 1) := by decide +kernel
theorem dX8_dustyShare_23 : decode cX8_dustyShare 23 = .ok (.iadd, 1) := by decide +kernel
theorem dX8_dustyShare_24 : decode cX8_dustyShare 24 = .ok (.iaload, 1) := by decide +kernel
theorem dX8_dustyShare_25 : decode cX8_dustyShare 25 = .ok (.ifCond .le 7, 3) := by decide +kernel
theorem dX8_dustyShare_28 : decode cX8_dustyShare 28 = .ok (.iconst 1, 1) := by decide +kernel
theorem dX8_dustyShare_29 : decode cX8_dustyShare 29 = .ok (.goto 4, 3) := by decide +kernel
theorem dX8_dustyShare_32 : decode cX8_dustyShare 32 = .ok (.iconst 0, 1) := by decide +kernel
theorem dX8_dustyShare_33 : decode cX8_dustyShare 33 = .ok (.iadd, 1) := by decide +kernel
theorem dX8_dustyShare_34 : decode cX8_dustyShare 34 = .ok (.istore_n 1, 1) := by decide +kernel
theorem dX8_dustyShare_35 : decode cX8_dustyShare 35 = .ok (.iinc 2 1, 3) := by decide +kernel
theorem dX8_dustyShare_38 : decode cX8_dustyShare 38 = .ok (.goto (-29), 3) := by decide +kernel
theorem dX8_dustyShare_41 : decode cX8_dustyShare 41 = .ok (.iload_n 1, 1) := by decide +kernel
theorem dX8_dustyShare_42 : decode cX8_dustyShare 42 = .ok (.i2f, 1) := by decide +kernel
theorem dX8_dustyShare_43 : decode cX8_dustyShare 43 = .ok (.ldc 162, 2) := by decide +kernel
theorem dX8_dustyShare_45 : decode cX8_dustyShare 45 = .ok (.fdiv, 1) := by decide +kernel
theorem dX8_dustyShare_46 : decode cX8_dustyShare 46 = .ok (.freturn, 1) := by decide +kernel
theorem dX8_isConsistent_0 : decode cX8_isConsistent 0 = .ok (.aload_n 0, 1) := by decide +kernel
theorem dX8_isConsistent_1 : decode cX8_isConsistent 1 = .ok (.iconst 0, 1) := by decide +kernel
theorem dX8_isConsistent_2 : decode cX8_isConsistent 2 = .ok (.putfield 36, 3) := by decide +kernel
theorem dX8_isConsistent_5 : decode cX8_isConsistent 5 = .ok (.iconst 1, 1) := by decide +kernel
theorem dX8_isConsistent_6 : decode cX8_isConsistent 6 = .ok (.ireturn, 1) := by decide +kernel
theorem dX8_append_0 : decode cX8_append 0 = .ok (.aload_n 0, 1) := by decide +kernel
theorem dX8_append_1 : decode cX8_append 1 = .ok (.aload_n 0, 1) := by decide +kernel
theorem dX8_append_2 : decode cX8_append 2 = .ok (.getfield 163, 3) := by decide +kernel
theorem dX8_append_5 : decode cX8_append 5 = .ok (.bipush 60, 2) := by decide +kernel
theorem dX8_append_7 : decode cX8_append 7 = .ok (.if_icmp .ge 7, 3) := by decide +kernel
theorem dX8_append_10 : decode cX8_append 10 = .ok (.iconst 1, 1) := by decide +kernel
theorem dX8_append_11 : decode cX8_append 11 = .ok (.goto 4, 3) := by decide +kernel
theorem dX8_append_14 : decode cX8_append 14 = .ok (.iconst 0, 1) := by decide +kernel
theorem dX8_append_15 : decode cX8_append 15 = .ok (.invokevirtual 115, 3) := by decide +kernel
theorem dX8_append_18 : decode cX8_append 18 = .ok (.ifCond .ne 5, 3) := by decide +kernel
theorem dX8_append_21 : decode cX8_append 21 = .ok (.iconst 0, 1) := by decide +kernel
theorem dX8_append_22 : decode cX8_append 22 = .ok (.ireturn, 1) := by decide +kernel
theorem dX8_append_23 : decode cX8_append 23 = .ok (.aload_n 0, 1) := by decide +kernel
theorem dX8_append_24 : decode cX8_append 24 = .ok (.getfield 19, 3) := by decide +kernel
theorem dX8_append_27 : decode cX8_append 27 = .ok (.aload_n 0, 1) := by decide +kernel
theorem dX8_append_28 : decode cX8_append 28 = .ok (.getfield 163, 3) := by decide +kernel
theorem dX8_append_31 : decode cX8_append 31 = .ok (.iload_n 1, 1) := by decide +kernel
theorem dX8_append_32 : decode cX8_append 32 = .ok (.castore, 1) := by decide +kernel
theorem dX8_append_33 : decode cX8_append 33 = .ok (.aload_n 0, 1) := by decide +kernel
theorem dX8_append_34 : decode cX8_append 34 = .ok (.dup, 1) := by decide +kernel
theorem dX8_append_35 : decode cX8_append 35 = .ok (.getfield 163, 3) := by decide +kernel
theorem dX8_append_38 : decode cX8_append 38 = .ok (.iconst 1, 1) := by decide +kernel
theorem dX8_append_39 : decode cX8_append 39 = .ok (.iadd, 1) := by decide +kernel
theorem dX8_append_40 : decode cX8_append 40 = .ok (.putfield 163, 3) := by decide +kernel
theorem dX8_append_43 : decode cX8_append 43 = .ok (.aload_n 0, 1) := by decide +kernel
theorem dX8_append_44 : decode cX8_append 44 = .ok (.getfield 163, 3) := by decide +kernel
theorem dX8_append_47 : decode cX8_append 47 = .ok (.ireturn, 1) := by decide +kernel
theorem dX8_sign_0 : decode cX8_sign 0 = .ok (.aload_n 0, 1) := by decide +kernel
theorem dX8_sign_1 : decode cX8_sign 1 = .ok (.getfield 166, 3) := by decide +kernel
theorem dX8_sign_4 : decode cX8_sign 4 = .ok (.aload_n 0, 1) := by decide +kernel
theorem dX8_sign_5 : decode cX8_sign 5 = .ok (.getfield 163, 3) := by decide +kernel
theorem dX8_sign_8 : decode cX8_sign 8 = .ok (.if_icmp .ge 15, 3) := by decide +kernel
theorem dX8_sign_11 : decode cX8_sign 11 = .ok (.aload_n 0, 1) := by decide +kernel
theorem dX8_sign_12 : decode cX8_sign 12 = .ok (.getfield 19, 3) := by decide +kernel
theorem dX8_sign_15 : decode cX8_sign 15 = .ok (.aload_n 0, 1) := by decide +kernel
theorem dX8_sign_16 : decode cX8_sign 16 = .ok (.getfield 166, 3) := by decide +kernel
theorem dX8_sign_19 : decode cX8_sign 19 = .ok (.caload, 1) := by decide +kernel
theorem dX8_sign_20 : decode cX8_sign 20 = .ok (.goto 4, 3) := by decide +kernel
theorem dX8_sign_23 : decode cX8_sign 23 = .ok (.iconst (-1), 1) := by decide +kernel
theorem dX8_sign_24 : decode cX8_sign 24 = .ok (.ireturn, 1) := by decide +kernel
theorem dX8_needs_0 : decode cX8_needs 0 = .ok (.aload_n 0, 1) := by decide +kernel
theorem dX8_needs_1 : decode cX8_needs 1 = .ok (.getfield 169, 3) := by decide +kernel
theorem dX8_needs_4 : decode cX8_needs 4 = .ok (.ifCond .lt 4, 3) := by decide +kernel
theorem dX8_needs_7 : decode cX8_needs 7 = .ok (.return_, 1) := by decide +kernel
theorem dX8_needs_8 : decode cX8_needs 8 = .ok (.aload_n 0, 1) := by decide +kernel
theorem dX8_needs_9 : decode cX8_needs 9 = .ok (.invokevirtual 172, 3) := by decide +kernel
theorem dX8_needs_12 : decode cX8_needs 12 = .ok (.iload_n 1, 1) := by decide +kernel
theorem dX8_needs_13 : decode cX8_needs 13 = .ok (.if_icmp .eq 12, 3) := by decide +kernel
theorem dX8_needs_16 : decode cX8_needs 16 = .ok (.aload_n 0, 1) := by decide +kernel
theorem dX8_needs_17 : decode cX8_needs 17 = .ok (.aload_n 0, 1) := by decide +kernel
theorem dX8_needs_18 : decode cX8_needs 18 = .ok (.getfield 166, 3) := by decide +kernel
theorem dX8_needs_21 : decode cX8_needs 21 = .ok (.putfield 169, 3) := by decide +kernel
theorem dX8_needs_24 : decode cX8_needs 24 = .ok (.return_, 1) := by decide +kernel
theorem dX8_needs_25 : decode cX8_needs 25 = .ok (.aload_n 0, 1) := by decide +kernel
theorem dX8_needs_26 : decode cX8_needs 26 = .ok (.dup, 1) := by decide +kernel
theorem dX8_needs_27 : decode cX8_needs 27 = .ok (.getfield 166, 3) := by decide +kernel
theorem dX8_needs_30 : decode cX8_needs 30 = .ok (.iconst 1, 1) := by decide +kernel
theorem dX8_needs_31 : decode cX8_needs 31 = .ok (.iadd, 1) := by decide +kernel
theorem dX8_needs_32 : decode cX8_needs 32 = .ok (.putfield 166, 3) := by decide +kernel
theorem dX8_needs_35 : decode cX8_needs 35 = .ok (.return_, 1) := by decide +kernel
theorem dX8_letters_0 : decode cX8_letters 0 = .ok (.aload_n 0, 1) := by decide +kernel
theorem dX8_letters_1 : decode cX8_letters 1 = .ok (.iload_n 1, 1) := by decide +kernel
theorem dX8_letters_2 : decode cX8_letters 2 = .ok (.invokevirtual 175, 3) := by decide +kernel
theorem dX8_letters_5 : decode cX8_letters 5 = .ok (.aload_n 0, 1) := by decide +kernel
theorem dX8_letters_6 : decode cX8_letters 6 = .ok (.iload_n 2, 1) := by decide +kernel
theorem dX8_letters_7 : decode cX8_letters 7 = .ok (.invokevirtual 175, 3) := by decide +kernel
theorem dX8_letters_10 : decode cX8_letters 10 = .ok (.aload_n 0, 1) := by decide +kernel
theorem dX8_letters_11 : decode cX8_letters 11 = .ok (.iload_n 3, 1) := by decide +kernel
theorem dX8_letters_12 : decode cX8_letters 12 = .ok (.invokevirtual 175, 3) := by decide +kernel
theorem dX8_letters_15 : decode cX8_letters 15 = .ok (.return_, 1) := by decide +kernel
theorem dX8_number_0 : decode cX8_number 0 = .ok (.aload_n 0, 1) := by decide +kernel
theorem dX8_number_1 : decode cX8_number 1 = .ok (.bipush 32, 2) := by decide +kernel
theorem dX8_number_3 : decode cX8_number 3 = .ok (.invokevirtual 175, 3) := by decide +kernel
theorem dX8_number_6 : decode cX8_number 6 = .ok (.aload_n 0, 1) := by decide +kernel
theorem dX8_number_7 : decode cX8_number 7 = .ok (.getfield 169, 3) := by decide +kernel
theorem dX8_number_10 : decode cX8_number 10 = .ok (.ifCond .lt 5, 3) := by decide +kernel
theorem dX8_number_13 : decode cX8_number 13 = .ok (.iconst 0, 1) := by decide +kernel
theorem dX8_number_14 : decode cX8_number 14 = .ok (.ireturn, 1) := by decide +kernel
theorem dX8_number_15 : decode cX8_number 15 = .ok (.aload_n 0, 1) := by decide +kernel
theorem dX8_number_16 : decode cX8_number 16 = .ok (.invokevirtual 172, 3) := by decide +kernel
theorem dX8_number_19 : decode cX8_number 19 = .ok (.bipush 48, 2) := by decide +kernel
theorem dX8_number_21 : decode cX8_number 21 = .ok (.bipush 57, 2) := by decide +kernel
theorem dX8_number_23 : decode cX8_number 23 = .ok (.invokestatic 69, 3) := by decide +kernel
theorem dX8_number_26 : decode cX8_number 26 = .ok (.ifCond .ne 13, 3) := by decide +kernel
theorem dX8_number_29 : decode cX8_number 29 = .ok (.aload_n 0, 1) := by decide +kernel
theorem dX8_number_30 : decode cX8_number 30 = .ok (.aload_n 0, 1) := by decide +kernel
theorem dX8_number_31 : decode cX8_number 31 = .ok (.getfield 166, 3) := by decide +kernel
theorem dX8_number_34 : decode cX8_number 34 = .ok (.putfield 169, 3) := by decide +kernel
theorem dX8_number_37 : decode cX8_number 37 = .ok (.iconst 0, 1) := by decide +kernel
theorem dX8_number_38 : decode cX8_number 38 = .ok (.ireturn, 1) := by decide +kernel
theorem dX8_number_39 : decode cX8_number 39 = .ok (.iconst 0, 1) := by decide +kernel
theorem dX8_number_40 : decode cX8_number 40 = .ok (.istore_n 2, 1) := by decide +kernel
theorem dX8_number_41 : decode cX8_number 41 = .ok (.iconst 0, 1) := by decide +kernel
theorem dX8_number_42 : decode cX8_number 42 = .ok (.istore_n 3, 1) := by decide +kernel
theorem dX8_number_43 : decode cX8_number 43 = .ok (.iload_n 3, 1) := by decide +kernel
theorem dX8_number_44 : decode cX8_number 44 = .ok (.iload_n 1, 1) := by decide +kernel
theorem dX8_number_45 : decode cX8_number 45 = .ok (.if_icmp .ge 46, 3) := by decide +kernel
theorem dX8_number_48 : decode cX8_number 48 = .ok (.aload_n 0, 1) := by decide +kernel
theorem dX8_number_49 : decode cX8_number 49 = .ok (.invokevirtual 172, 3) := by decide +kernel
theorem dX8_number_52 : decode cX8_number 52 = .ok (.bipush 48, 2) := by decide +kernel
theorem dX8_number_54 : decode cX8_number 54 = .ok (.bipush 57, 2) := by decide +kernel
theorem dX8_number_56 : decode cX8_number 56 = .ok (.invokestatic 69, 3) := by decide +kernel
theorem dX8_number_59 : decode cX8_number 59 = .ok (.ifCond .eq 32, 3) := by decide +kernel
theorem dX8_number_62 : decode cX8_number 62 = .ok (.bipush 10, 2) := by decide +kernel
theorem dX8_number_64 : decode cX8_number 64 = .ok (.iload_n 2, 1) := by decide +kernel
end
section
theorem dX8_number_65 : decode cX8_number 65 = .ok (.imul, 1) := by decide +kernel
theorem dX8_number_66 : decode cX8_number 66 = .ok (.aload_n 0, 1) := by decide +kernel
theorem dX8_number_67 : decode cX8_number 67 = .ok (.invokevirtual 172, 3) := by decide +kernel
theorem dX8_number_70 : decode cX8_number 70 = .ok (.iadd, 1) := by decide +kernel
theorem dX8_number_71 : decode cX8_number 71 = .ok (.bipush 48, 2) := by decide +kernel
theorem dX8_number_73 : decode cX8_number 73 = .ok (.isub, 1) := by decide +kernel
theorem dX8_number_74 : decode cX8_number 74 = .ok (.istore_n 2, 1) := by decide +kernel
theorem dX8_number_75 : decode cX8_number 75 = .ok (.aload_n 0, 1) := by decide +kernel
theorem dX8_number_76 : decode cX8_number 76 = .ok (.dup, 1) := by decide +kernel
theorem dX8_number_77 : decode cX8_number 77 = .ok (.getfield 166, 3) := by decide +kernel
theorem dX8_number_80 : decode cX8_number 80 = .ok (.iconst 1, 1) := by decide +kernel
theorem dX8_number_81 : decode cX8_number 81 = .ok (.iadd, 1) := by decide +kernel
theorem dX8_number_82 : decode cX8_number 82 = .ok (.putfield 166, 3) := by decide +kernel
theorem dX8_number_85 : decode cX8_number 85 = .ok (.iinc 3 1, 3) := by decide +kernel
theorem dX8_number_88 : decode cX8_number 88 = .ok (.goto (-45), 3) := by decide +kernel
theorem dX8_number_91 : decode cX8_number 91 = .ok (.iload_n 2, 1) := by decide +kernel
theorem dX8_number_92 : decode cX8_number 92 = .ok (.ireturn, 1) := by decide +kernel
theorem dX8_numbers_0 : decode cX8_numbers 0 = .ok (.iconst 1, 1) := by decide +kernel
theorem dX8_numbers_1 : decode cX8_numbers 1 = .ok (.istore_n 3, 1) := by decide +kernel
theorem dX8_numbers_2 : decode cX8_numbers 2 = .ok (.iload_n 3, 1) := by decide +kernel
theorem dX8_numbers_3 : decode cX8_numbers 3 = .ok (.iload_n 2, 1) := by decide +kernel
theorem dX8_numbers_4 : decode cX8_numbers 4 = .ok (.if_icmp .gt 22, 3) := by decide +kernel
theorem dX8_numbers_7 : decode cX8_numbers 7 = .ok (.aload_n 0, 1) := by decide +kernel
theorem dX8_numbers_8 : decode cX8_numbers 8 = .ok (.getfield 30, 3) := by decide +kernel
theorem dX8_numbers_11 : decode cX8_numbers 11 = .ok (.iload_n 1, 1) := by decide +kernel
theorem dX8_numbers_12 : decode cX8_numbers 12 = .ok (.iload_n 3, 1) := by decide +kernel
theorem dX8_numbers_13 : decode cX8_numbers 13 = .ok (.iadd, 1) := by decide +kernel
theorem dX8_numbers_14 : decode cX8_numbers 14 = .ok (.aload_n 0, 1) := by decide +kernel
theorem dX8_numbers_15 : decode cX8_numbers 15 = .ok (.iconst 2, 1) := by decide +kernel
theorem dX8_numbers_16 : decode cX8_numbers 16 = .ok (.invokevirtual 178, 3) := by decide +kernel
theorem dX8_numbers_19 : decode cX8_numbers 19 = .ok (.iastore, 1) := by decide +kernel
theorem dX8_numbers_20 : decode cX8_numbers 20 = .ok (.iinc 3 1, 3) := by decide +kernel
theorem dX8_numbers_23 : decode cX8_numbers 23 = .ok (.goto (-21), 3) := by decide +kernel
theorem dX8_numbers_26 : decode cX8_numbers 26 = .ok (.return_, 1) := by decide +kernel
theorem dX8_command_0 : decode cX8_command 0 = .ok (.iconst 4, 1) := by decide +kernel
theorem dX8_command_1 : decode cX8_command 1 = .ok (.aload_n 0, 1) := by decide +kernel
theorem dX8_command_2 : decode cX8_command 2 = .ok (.getfield 181, 3) := by decide +kernel
theorem dX8_command_5 : decode cX8_command 5 = .ok (.imul, 1) := by decide +kernel
theorem dX8_command_6 : decode cX8_command 6 = .ok (.istore_n 1, 1) := by decide +kernel
theorem dX8_command_7 : decode cX8_command 7 = .ok (.aload_n 0, 1) := by decide +kernel
theorem dX8_command_8 : decode cX8_command 8 = .ok (.getfield 166, 3) := by decide +kernel
theorem dX8_command_11 : decode cX8_command 11 = .ok (.istore_n 2, 1) := by decide +kernel
theorem dX8_command_12 : decode cX8_command 12 = .ok (.aload_n 0, 1) := by decide +kernel
theorem dX8_command_13 : decode cX8_command 13 = .ok (.dup, 1) := by decide +kernel
theorem dX8_command_14 : decode cX8_command 14 = .ok (.getfield 181, 3) := by decide +kernel
theorem dX8_command_17 : decode cX8_command 17 = .ok (.iconst 1, 1) := by decide +kernel
theorem dX8_command_18 : decode cX8_command 18 = .ok (.iadd, 1) := by decide +kernel
theorem dX8_command_19 : decode cX8_command 19 = .ok (.putfield 181, 3) := by decide +kernel
theorem dX8_command_22 : decode cX8_command 22 = .ok (.aload_n 0, 1) := by decide +kernel
theorem dX8_command_23 : decode cX8_command 23 = .ok (.invokevirtual 172, 3) := by decide +kernel
theorem dX8_command_26 : decode cX8_command 26 = .ok (.istore_n 3, 1) := by decide +kernel
theorem dX8_command_27 : decode cX8_command 27 = .ok (.iconst 0, 1) := by decide +kernel
theorem dX8_command_28 : decode cX8_command 28 = .ok (.istore 4, 2) := by decide +kernel
theorem dX8_command_30 : decode cX8_command 30 = .ok (.iload 4, 2) := by decide +kernel
theorem dX8_command_32 : decode cX8_command 32 = .ok (.iconst 4, 1) := by decide +kernel
theorem dX8_command_33 : decode cX8_command 33 = .ok (.if_icmp .ge 19, 3) := by decide +kernel
theorem dX8_command_36 : decode cX8_command 36 = .ok (.aload_n 0, 1) := by decide +kernel
theorem dX8_command_37 : decode cX8_command 37 = .ok (.getfield 30, 3) := by decide +kernel
theorem dX8_command_40 : decode cX8_command 40 = .ok (.iload_n 1, 1) := by decide +kernel
theorem dX8_command_41 : decode cX8_command 41 = .ok (.iload 4, 2) := by decide +kernel
theorem dX8_command_43 : decode cX8_command 43 = .ok (.iadd, 1) := by decide +kernel
theorem dX8_command_44 : decode cX8_command 44 = .ok (.iconst 0, 1) := by decide +kernel
theorem dX8_command_45 : decode cX8_command 45 = .ok (.iastore, 1) := by decide +kernel
theorem dX8_command_46 : decode cX8_command 46 = .ok (.iinc 4 1, 3) := by decide +kernel
theorem dX8_command_49 : decode cX8_command 49 = .ok (.goto (-19), 3) := by decide +kernel
theorem dX8_command_52 : decode cX8_command 52 = .ok (.aload_n 0, 1) := by decide +kernel
theorem dX8_command_53 : decode cX8_command 53 = .ok (.getfield 30, 3) := by decide +kernel
theorem dX8_command_56 : decode cX8_command 56 = .ok (.iload_n 1, 1) := by decide +kernel
theorem dX8_command_57 : decode cX8_command 57 = .ok (.iload_n 3, 1) := by decide +kernel
theorem dX8_command_58 : decode cX8_command 58 = .ok (.iastore, 1) := by decide +kernel
theorem dX8_command_59 : decode cX8_command 59 = .ok (.aload_n 0, 1) := by decide +kernel
theorem dX8_command_60 : decode cX8_command 60 = .ok (.dup, 1) := by decide +kernel
theorem dX8_command_61 : decode cX8_command 61 = .ok (.getfield 166, 3) := by decide +kernel
theorem dX8_command_64 : decode cX8_command 64 = .ok (.iconst 1, 1) := by decide +kernel
theorem dX8_command_65 : decode cX8_command 65 = .ok (.iadd, 1) := by decide +kernel
theorem dX8_command_66 : decode cX8_command 66 = .ok (.putfield 166, 3) := by decide +kernel
theorem dX8_command_69 : decode cX8_command 69 = .ok (.iload_n 3, 1) := by decide +kernel
theorem dX8_command_70 : decode cX8_command 70 = .ok (.tableswitch 261 99 118 #[94, 119, 261, 261, 261, 261, 261, 261, 261, 261, 261, 261, 261, 261, 261, 235, 189, 170, 261, 214], 94) := by decide +kernel
theorem dX8_command_164 : decode cX8_command 164 = .ok (.aload_n 0, 1) := by decide +kernel
theorem dX8_command_165 : decode cX8_command 165 = .ok (.bipush 111, 2) := by decide +kernel
theorem dX8_command_167 : decode cX8_command 167 = .ok (.bipush 109, 2) := by decide +kernel
theorem dX8_command_169 : decode cX8_command 169 = .ok (.bipush 101, 2) := by decide +kernel
theorem dX8_command_171 : decode cX8_command 171 = .ok (.invokevirtual 184, 3) := by decide +kernel
theorem dX8_command_174 : decode cX8_command 174 = .ok (.aload_n 0, 1) := by decide +kernel
theorem dX8_command_175 : decode cX8_command 175 = .ok (.bipush 116, 2) := by decide +kernel
theorem dX8_command_177 : decode cX8_command 177 = .ok (.invokevirtual 175, 3) := by decide +kernel
theorem dX8_command_180 : decode cX8_command 180 = .ok (.aload_n 0, 1) := by decide +kernel
theorem dX8_command_181 : decode cX8_command 181 = .ok (.iload_n 1, 1) := by decide +kernel
theorem dX8_command_182 : decode cX8_command 182 = .ok (.iconst 3, 1) := by decide +kernel
theorem dX8_command_183 : decode cX8_command 183 = .ok (.invokevirtual 187, 3) := by decide +kernel
theorem dX8_command_186 : decode cX8_command 186 = .ok (.goto 155, 3) := by decide +kernel
theorem dX8_command_189 : decode cX8_command 189 = .ok (.aload_n 0, 1) := by decide +kernel
theorem dX8_command_190 : decode cX8_command 190 = .ok (.invokevirtual 172, 3) := by decide +kernel
theorem dX8_command_193 : decode cX8_command 193 = .ok (.bipush 97, 2) := by decide +kernel
theorem dX8_command_195 : decode cX8_command 195 = .ok (.if_icmp .ne 26, 3) := by decide +kernel
theorem dX8_command_198 : decode cX8_command 198 = .ok (.aload_n 0, 1) := by decide +kernel
theorem dX8_command_199 : decode cX8_command 199 = .ok (.bipush 97, 2) := by decide +kernel
theorem dX8_command_201 : decode cX8_command 201 = .ok (.invokevirtual 175, 3) := by decide +kernel
theorem dX8_command_204 : decode cX8_command 204 = .ok (.aload_n 0, 1) := by decide +kernel
theorem dX8_command_205 : decode cX8_command 205 = .ok (.bipush 121, 2) := by decide +kernel
theorem dX8_command_207 : decode cX8_command 207 = .ok (.invokevirtual 175, 3) := by decide +kernel
theorem dX8_command_210 : decode cX8_command 210 = .ok (.aload_n 0, 1) := by decide +kernel
theorem dX8_command_211 : decode cX8_command 211 = .ok (.getfield 30, 3) := by decide +kernel
theorem dX8_command_214 : decode cX8_command 214 = .ok (.iload_n 1, 1) := by decide +kernel
theorem dX8_command_215 : decode cX8_command 215 = .ok (.bipush 121, 2) := by decide +kernel
theorem dX8_command_217 : decode cX8_command 217 = .ok (.iastore, 1) := by decide +kernel
theorem dX8_command_218 : decode cX8_command 218 = .ok (.goto 13, 3) := by decide +kernel
theorem dX8_command_221 : decode cX8_command 221 = .ok (.aload_n 0, 1) := by decide +kernel
theorem dX8_command_222 : decode cX8_command 222 = .ok (.bipush 114, 2) := by decide +kernel
theorem dX8_command_224 : decode cX8_command 224 = .ok (.bipush 111, 2) := by decide +kernel
theorem dX8_command_226 : decode cX8_command 226 = .ok (.bipush 112, 2) := by decide +kernel
theorem dX8_command_228 : decode cX8_command 228 = .ok (.invokevirtual 184, 3) := by decide +kernel
theorem dX8_command_231 : decode cX8_command 231 = .ok (.aload_n 0, 1) := by decide +kernel
theorem dX8_command_232 : decode cX8_command 232 = .ok (.iload_n 1, 1) := by decide +kernel
theorem dX8_command_233 : decode cX8_command 233 = .ok (.iconst 1, 1) := by decide +kernel
theorem dX8_command_234 : decode cX8_command 234 = .ok (.invokevirtual 187, 3) := by decide +kernel
theorem dX8_command_237 : decode cX8_command 237 = .ok (.goto 104, 3) := by decide +kernel
theorem dX8_command_240 : decode cX8_command 240 = .ok (.aload_n 0, 1) := by decide +kernel
theorem dX8_command_241 : decode cX8_command 241 = .ok (.bipush 117, 2) := by decide +kernel
theorem dX8_command_243 : decode cX8_command 243 = .ok (.bipush 114, 2) := by decide +kernel
theorem dX8_command_245 : decode cX8_command 245 = .ok (.bipush 110, 2) := by decide +kernel
theorem dX8_command_247 : decode cX8_command 247 = .ok (.invokevirtual 184, 3) := by decide +kernel
theorem dX8_command_250 : decode cX8_command 250 = .ok (.aload_n 0, 1) := by decide +kernel
theorem dX8_command_251 : decode cX8_command 251 = .ok (.iload_n 1, 1) := by decide +kernel
theorem dX8_command_252 : decode cX8_command 252 = .ok (.iconst 2, 1) := by decide +kernel
theorem dX8_command_253 : decode cX8_command 253 = .ok (.invokevirtual 187, 3) := by decide +kernel
theorem dX8_command_256 : decode cX8_command 256 = .ok (.goto 85, 3) := by decide +kernel
theorem dX8_command_259 : decode cX8_command 259 = .ok (.aload_n 0, 1) := by decide +kernel
theorem dX8_command_260 : decode cX8_command 260 = .ok (.bipush 104, 2) := by decide +kernel
theorem dX8_command_262 : decode cX8_command 262 = .ok (.bipush 105, 2) := by decide +kernel
theorem dX8_command_264 : decode cX8_command 264 = .ok (.bipush 110, 2) := by decide +kernel
theorem dX8_command_266 : decode cX8_command 266 = .ok (.invokevirtual 184, 3) := by decide +kernel
theorem dX8_command_269 : decode cX8_command 269 = .ok (.aload_n 0, 1) := by decide +kernel
theorem dX8_command_270 : decode cX8_command 270 = .ok (.bipush 101, 2) := by decide +kernel
theorem dX8_command_272 : decode cX8_command 272 = .ok (.invokevirtual 175, 3) := by decide +kernel
theorem dX8_command_275 : decode cX8_command 275 = .ok (.aload_n 0, 1) := by decide +kernel
theorem dX8_command_276 : decode cX8_command 276 = .ok (.iload_n 1, 1) := by decide +kernel
theorem dX8_command_277 : decode cX8_command 277 = .ok (.iconst 2, 1) := by decide +kernel
theorem dX8_command_278 : decode cX8_command 278 = .ok (.invokevirtual 187, 3) := by decide +kernel
theorem dX8_command_281 : decode cX8_command 281 = .ok (.goto 60, 3) := by decide +kernel
theorem dX8_command_284 : decode cX8_command 284 = .ok (.aload_n 0, 1) := by decide +kernel
theorem dX8_command_285 : decode cX8_command 285 = .ok (.bipush 97, 2) := by decide +kernel
theorem dX8_command_287 : decode cX8_command 287 = .ok (.invokevirtual 175, 3) := by decide +kernel
theorem dX8_command_290 : decode cX8_command 290 = .ok (.aload_n 0, 1) := by decide +kernel
theorem dX8_command_291 : decode cX8_command 291 = .ok (.bipush 99, 2) := by decide +kernel
theorem dX8_command_293 : decode cX8_command 293 = .ok (.invokevirtual 175, 3) := by decide +kernel
theorem dX8_command_296 : decode cX8_command 296 = .ok (.aload_n 0, 1) := by decide +kernel
theorem dX8_command_297 : decode cX8_command 297 = .ok (.iload_n 1, 1) := by decide +kernel
theorem dX8_command_298 : decode cX8_command 298 = .ok (.iconst 2, 1) := by decide +kernel
theorem dX8_command_299 : decode cX8_command 299 = .ok (.invokevirtual 187, 3) := by decide +kernel
theorem dX8_command_302 : decode cX8_command 302 = .ok (.goto 39, 3) := by decide +kernel
theorem dX8_command_305 : decode cX8_command 305 = .ok (.aload_n 0, 1) := by decide +kernel
theorem dX8_command_306 : decode cX8_command 306 = .ok (.bipush 97, 2) := by decide +kernel
theorem dX8_command_308 : decode cX8_command 308 = .ok (.bipush 116, 2) := by decide +kernel
theorem dX8_command_310 : decode cX8_command 310 = .ok (.bipush 101, 2) := by decide +kernel
theorem dX8_command_312 : decode cX8_command 312 = .ok (.invokevirtual 184, 3) := by decide +kernel
theorem dX8_command_315 : decode cX8_command 315 = .ok (.aload_n 0, 1) := by decide +kernel
theorem dX8_command_316 : decode cX8_command 316 = .ok (.getfield 30, 3) := by decide +kernel
theorem dX8_command_319 : decode cX8_command 319 = .ok (.iload_n 1, 1) := by decide +kernel
theorem dX8_command_320 : decode cX8_command 320 = .ok (.iconst 1, 1) := by decide +kernel
theorem dX8_command_321 : decode cX8_command 321 = .ok (.iadd, 1) := by decide +kernel
theorem dX8_command_322 : decode cX8_command 322 = .ok (.aload_n 0, 1) := by decide +kernel
theorem dX8_command_323 : decode cX8_command 323 = .ok (.iconst 1, 1) := by decide +kernel
theorem dX8_command_324 : decode cX8_command 324 = .ok (.invokevirtual 178, 3) := by decide +kernel
theorem dX8_command_327 : decode cX8_command 327 = .ok (.iastore, 1) := by decide +kernel
theorem dX8_command_328 : decode cX8_command 328 = .ok (.goto 13, 3) := by decide +kernel
theorem dX8_command_331 : decode cX8_command 331 = .ok (.aload_n 0, 1) := by decide +kernel
theorem dX8_command_332 : decode cX8_command 332 = .ok (.iload_n 2, 1) := by decide +kernel
theorem dX8_command_333 : decode cX8_command 333 = .ok (.putfield 166, 3) := by decide +kernel
theorem dX8_command_336 : decode cX8_command 336 = .ok (.aload_n 0, 1) := by decide +kernel
theorem dX8_command_337 : decode cX8_command 337 = .ok (.iload_n 2, 1) := by decide +kernel
theorem dX8_command_338 : decode cX8_command 338 = .ok (.putfield 169, 3) := by decide +kernel
theorem dX8_command_341 : decode cX8_command 341 = .ok (.return_, 1) := by decide +kernel
theorem dX8_parse_0 : decode cX8_parse 0 = .ok (.aload_n 0, 1) := by decide +kernel
theorem dX8_parse_1 : decode cX8_parse 1 = .ok (.iconst 0, 1) := by decide +kernel
theorem dX8_parse_2 : decode cX8_parse 2 = .ok (.putfield 166, 3) := by decide +kernel
theorem dX8_parse_5 : decode cX8_parse 5 = .ok (.aload_n 0, 1) := by decide +kernel
theorem dX8_parse_6 : decode cX8_parse 6 = .ok (.iconst (-1), 1) := by decide +kernel
theorem dX8_parse_7 : decode cX8_parse 7 = .ok (.putfield 169, 3) := by decide +kernel
theorem dX8_parse_10 : decode cX8_parse 10 = .ok (.aload_n 0, 1) := by decide +kernel
theorem dX8_parse_11 : decode cX8_parse 11 = .ok (.iconst 0, 1) := by decide +kernel
theorem dX8_parse_12 : decode cX8_parse 12 = .ok (.putfield 181, 3) := by decide +kernel
theorem dX8_parse_15 : decode cX8_parse 15 = .ok (.aload_n 0, 1) := by decide +kernel
theorem dX8_parse_16 : decode cX8_parse 16 = .ok (.invokevirtual 190, 3) := by decide +kernel
theorem dX8_parse_19 : decode cX8_parse 19 = .ok (.aload_n 0, 1) := by decide +kernel
theorem dX8_parse_20 : decode cX8_parse 20 = .ok (.getfield 169, 3) := by decide +kernel
theorem dX8_parse_23 : decode cX8_parse 23 = .ok (.ifCond .ge 29, 3) := by decide +kernel
theorem dX8_parse_26 : decode cX8_parse 26 = .ok (.aload_n 0, 1) := by decide +kernel
theorem dX8_parse_27 : decode cX8_parse 27 = .ok (.invokevirtual 172, 3) := by decide +kernel
theorem dX8_parse_30 : decode cX8_parse 30 = .ok (.bipush 59, 2) := by decide +kernel
theorem dX8_parse_32 : decode cX8_parse 32 = .ok (.if_icmp .ne 20, 3) := by decide +kernel
theorem dX8_parse_35 : decode cX8_parse 35 = .ok (.aload_n 0, 1) := by decide +kernel
theorem dX8_parse_36 : decode cX8_parse 36 = .ok (.dup, 1) := by decide +kernel
theorem dX8_parse_37 : decode cX8_parse 37 = .ok (.getfield 166, 3) := by decide +kernel
theorem dX8_parse_40 : decode cX8_parse 40 = .ok (.iconst 1, 1) := by decide +kernel
theorem dX8_parse_41 : decode cX8_parse 41 = .ok (.iadd, 1) := by decide +kernel
theorem dX8_parse_42 : decode cX8_parse 42 = .ok (.putfield 166, 3) := by decide +kernel
theorem dX8_parse_45 : decode cX8_parse 45 = .ok (.aload_n 0, 1) := by decide +kernel
theorem dX8_parse_46 : decode cX8_parse 46 = .ok (.invokevirtual 190, 3) := by decide +kernel
theorem dX8_parse_49 : decode cX8_parse 49 = .ok (.goto (-30), 3) := by decide +kernel
theorem dX8_parse_52 : decode cX8_parse 52 = .ok (.aload_n 0, 1) := by decide +kernel
theorem dX8_parse_53 : decode cX8_parse 53 = .ok (.getfield 169, 3) := by decide +kernel
theorem dX8_parse_56 : decode cX8_parse 56 = .ok (.ifCond .ge 22, 3) := by decide +kernel
theorem dX8_parse_59 : decode cX8_parse 59 = .ok (.aload_n 0, 1) := by decide +kernel
theorem dX8_parse_60 : decode cX8_parse 60 = .ok (.getfield 166, 3) := by decide +kernel
theorem dX8_parse_63 : decode cX8_parse 63 = .ok (.aload_n 0, 1) := by decide +kernel
theorem dX8_parse_64 : decode cX8_parse 64 = .ok (.getfield 163, 3) := by decide +kernel
theorem dX8_parse_67 : decode cX8_parse 67 = .ok (.if_icmp .ge 11, 3) := by decide +kernel
theorem dX8_parse_70 : decode cX8_parse 70 = .ok (.aload_n 0, 1) := by decide +kernel
theorem dX8_parse_71 : decode cX8_parse 71 = .ok (.aload_n 0, 1) := by decide +kernel
theorem dX8_parse_72 : decode cX8_parse 72 = .ok (.getfield 166, 3) := by decide +kernel
theorem dX8_parse_75 : decode cX8_parse 75 = .ok (.putfield 169, 3) := by decide +kernel
theorem dX8_parse_78 : decode cX8_parse 78 = .ok (.return_, 1) := by decide +kernel
theorem dX8_does_0 : decode cX8_does 0 = .ok (.aload_n 0, 1) := by decide +kernel
theorem dX8_does_1 : decode cX8_does 1 = .ok (.getfield 30, 3) := by decide +kernel
theorem dX8_does_4 : decode cX8_does 4 = .ok (.iload_n 1, 1) := by decide +kernel
theorem dX8_does_5 : decode cX8_does 5 = .ok (.iconst 1, 1) := by decide +kernel
theorem dX8_does_6 : decode cX8_does 6 = .ok (.iadd, 1) := by decide +kernel
theorem dX8_does_7 : decode cX8_does 7 = .ok (.iaload, 1) := by decide +kernel
theorem dX8_does_8 : decode cX8_does 8 = .ok (.istore_n 2, 1) := by decide +kernel
theorem dX8_does_9 : decode cX8_does 9 = .ok (.aload_n 0, 1) := by decide +kernel
theorem dX8_does_10 : decode cX8_does 10 = .ok (.getfield 30, 3) := by decide +kernel
theorem dX8_does_13 : decode cX8_does 13 = .ok (.iload_n 1, 1) := by decide +kernel
theorem dX8_does_14 : decode cX8_does 14 = .ok (.iconst 2, 1) := by decide +kernel
theorem dX8_does_15 : decode cX8_does 15 = .ok (.iadd, 1) := by decide +kernel
theorem dX8_does_16 : decode cX8_does 16 = .ok (.iaload, 1) := by decide +kernel
theorem dX8_does_17 : decode cX8_does 17 = .ok (.istore_n 3, 1) := by decide +kernel
theorem dX8_does_18 : decode cX8_does 18 = .ok (.aload_n 0, 1) := by decide +kernel
theorem dX8_does_19 : decode cX8_does 19 = .ok (.getfield 30, 3) := by decide +kernel
theorem dX8_does_22 : decode cX8_does 22 = .ok (.iload_n 1, 1) := by decide +kernel
theorem dX8_does_23 : decode cX8_does 23 = .ok (.iaload, 1) := by decide +kernel
theorem dX8_does_24 : decode cX8_does 24 = .ok (.lookupswitch 108 #[(99, 60), (100, 75), (115, 88), (116, 81), (118, 101), (121, 95)], 60) := by decide +kernel
theorem dX8_does_84 : decode cX8_does 84 = .ok (.aload_n 0, 1) := by decide +kernel
theorem dX8_does_85 : decode cX8_does 85 = .ok (.iload_n 2, 1) := by decide +kernel
theorem dX8_does_86 : decode cX8_does 86 = .ok (.iload_n 3, 1) := by decide +kernel
theorem dX8_does_87 : decode cX8_does 87 = .ok (.aload_n 0, 1) := by decide +kernel
theorem dX8_does_88 : decode cX8_does 88 = .ok (.getfield 30, 3) := by decide +kernel
theorem dX8_does_91 : decode cX8_does 91 = .ok (.iload_n 1, 1) := by decide +kernel
theorem dX8_does_92 : decode cX8_does 92 = .ok (.iconst 3, 1) := by decide +kernel
theorem dX8_does_93 : decode cX8_does 93 = .ok (.iadd, 1) := by decide +kernel
theorem dX8_does_94 : decode cX8_does 94 = .ok (.iaload, 1) := by decide +kernel
theorem dX8_does_95 : decode cX8_does 95 = .ok (.invokevirtual 76, 3) := by decide +kernel
theorem dX8_does_98 : decode cX8_does 98 = .ok (.ireturn, 1) := by decide +kernel
theorem dX8_does_99 : decode cX8_does 99 = .ok (.aload_n 0, 1) := by decide +kernel
theorem dX8_does_100 : decode cX8_does 100 = .ok (.iload_n 2, 1) := by decide +kernel
theorem dX8_does_101 : decode cX8_does 101 = .ok (.invokevirtual 87, 3) := by decide +kernel
theorem dX8_does_104 : decode cX8_does 104 = .ok (.ireturn, 1) := by decide +kernel
theorem dX8_does_105 : decode cX8_does 105 = .ok (.aload_n 0, 1) := by decide +kernel
theorem dX8_does_106 : decode cX8_does 106 = .ok (.iload_n 2, 1) := by decide +kernel
theorem dX8_does_107 : decode cX8_does 107 = .ok (.iload_n 3, 1) := by decide +kernel
theorem dX8_does_108 : decode cX8_does 108 = .ok (.invokevirtual 90, 3) := by decide +kernel
theorem dX8_does_111 : decode cX8_does 111 = .ok (.ireturn, 1) := by decide +kernel
theorem dX8_does_112 : decode cX8_does 112 = .ok (.aload_n 0, 1) := by decide +kernel
theorem dX8_does_113 : decode cX8_does 113 = .ok (.iload_n 2, 1) := by decide +kernel
theorem dX8_does_114 : decode cX8_does 114 = .ok (.iload_n 3, 1) := by decide +kernel
theorem dX8_does_115 : decode cX8_does 115 = .ok (.invokevirtual 93, 3) := by decide +kernel
theorem dX8_does_118 : decode cX8_does 118 = .ok (.ireturn, 1) := by decide +kernel
theorem dX8_does_119 : decode cX8_does 119 = .ok (.aload_n 0, 1) := by decide +kernel
theorem dX8_does_120 : decode cX8_does 120 = .ok (.iload_n 2, 1) := by decide +kernel
theorem dX8_does_121 : decode cX8_does 121 = .ok (.invokevirtual 100, 3) := by decide +kernel
theorem dX8_does_124 : decode cX8_does 124 = .ok (.ireturn, 1) := by decide +kernel
theorem dX8_does_125 : decode cX8_does 125 = .ok (.aload_n 0, 1) := by decide +kernel
theorem dX8_does_126 : decode cX8_does 126 = .ok (.iload_n 2, 1) := by decide +kernel
theorem dX8_does_127 : decode cX8_does 127 = .ok (.iload_n 3, 1) := by decide +kernel
theorem dX8_does_128 : decode cX8_does 128 = .ok (.invokevirtual 106, 3) := by decide +kernel
theorem dX8_does_131 : decode cX8_does 131 = .ok (.ireturn, 1) := by decide +kernel
theorem dX8_does_132 : decode cX8_does 132 = .ok (.aload_n 0, 1) := by decide +kernel
theorem dX8_does_133 : decode cX8_does 133 = .ok (.iload_n 2, 1) := by decide +kernel
theorem dX8_does_134 : decode cX8_does 134 = .ok (.invokevirtual 109, 3) := by decide +kernel
theorem dX8_does_137 : decode cX8_does 137 = .ok (.ireturn, 1) := by decide +kernel
theorem dX8_run_0 : decode cX8_run 0 = .ok (.aload_n 0, 1) := by decide +kernel
theorem dX8_run_1 : decode cX8_run 1 = .ok (.invokevirtual 193, 3) := by decide +kernel
theorem dX8_run_4 : decode cX8_run 4 = .ok (.aload_n 0, 1) := by decide +kernel
theorem dX8_run_5 : decode cX8_run 5 = .ok (.iconst 0, 1) := by decide +kernel
theorem dX8_run_6 : decode cX8_run 6 = .ok (.putfield 163, 3) := by decide +kernel
theorem dX8_run_9 : decode cX8_run 9 = .ok (.aload_n 0, 1) := by decide +kernel
theorem dX8_run_10 : decode cX8_run 10 = .ok (.getfield 169, 3) := by decide +kernel
theorem dX8_run_13 : decode cX8_run 13 = .ok (.ifCond .lt 18, 3) := by decide +kernel
theorem dX8_run_16 : decode cX8_run 16 = .ok (.aload_n 0, 1) := by decide +kernel
theorem dX8_run_17 : decode cX8_run 17 = .ok (.aload_n 0, 1) := by decide +kernel
theorem dX8_run_18 : decode cX8_run 18 = .ok (.getfield 169, 3) := by decide +kernel
theorem dX8_run_21 : decode cX8_run 21 = .ok (.putfield 23, 3) := by decide +kernel
theorem dX8_run_24 : decode cX8_run 24 = .ok (.aload_n 0, 1) := by decide +kernel
theorem dX8_run_25 : decode cX8_run 25 = .ok (.iconst 1, 1) := by decide +kernel
theorem dX8_run_26 : decode cX8_run 26 = .ok (.putfield 36, 3) := by decide +kernel
theorem dX8_run_29 : decode cX8_run 29 = .ok (.iconst 0, 1) := by decide +kernel
theorem dX8_run_30 : decode cX8_run 30 = .ok (.ireturn, 1) := by decide +kernel
theorem dX8_run_31 : decode cX8_run 31 = .ok (.aload_n 0, 1) := by decide +kernel
theorem dX8_run_32 : decode cX8_run 32 = .ok (.invokevirtual 73, 3) := by decide +kernel
theorem dX8_run_35 : decode cX8_run 35 = .ok (.iconst 0, 1) := by decide +kernel
theorem dX8_run_36 : decode cX8_run 36 = .ok (.istore_n 1, 1) := by decide +kernel
theorem dX8_run_37 : decode cX8_run 37 = .ok (.iload_n 1, 1) := by decide +kernel
theorem dX8_run_38 : decode cX8_run 38 = .ok (.aload_n 0, 1) := by decide +kernel
theorem dX8_run_39 : decode cX8_run 39 = .ok (.getfield 181, 3) := by decide +kernel
theorem dX8_run_42 : decode cX8_run 42 = .ok (.if_icmp .ge 19, 3) := by decide +kernel
theorem dX8_run_45 : decode cX8_run 45 = .ok (.aload_n 0, 1) := by decide +kernel
theorem dX8_run_46 : decode cX8_run 46 = .ok (.iconst 4, 1) := by decide +kernel
theorem dX8_run_47 : decode cX8_run 47 = .ok (.iload_n 1, 1) := by decide +kernel
theorem dX8_run_48 : decode cX8_run 48 = .ok (.imul, 1) := by decide +kernel
theorem dX8_run_49 : decode cX8_run 49 = .ok (.invokevirtual 196, 3) := by decide +kernel
theorem dX8_run_52 : decode cX8_run 52 = .ok (.ifCond .ne 9, 3) := by decide +kernel
theorem dX8_run_55 : decode cX8_run 55 = .ok (.iinc 1 1, 3) := by decide +kernel
theorem dX8_run_58 : decode cX8_run 58 = .ok (.goto (-21), 3) := by decide +kernel
theorem dX8_run_61 : decode cX8_run 61 = .ok (.iload_n 1, 1) := by decide +kernel
theorem dX8_run_62 : decode cX8_run 62 = .ok (.aload_n 0, 1) := by decide +kernel
theorem dX8_run_63 : decode cX8_run 63 = .ok (.getfield 181, 3) := by decide +kernel
theorem dX8_run_66 : decode cX8_run 66 = .ok (.if_icmp .ne 7, 3) := by decide +kernel
theorem dX8_run_69 : decode cX8_run 69 = .ok (.iconst 1, 1) := by decide +kernel
theorem dX8_run_70 : decode cX8_run 70 = .ok (.goto 4, 3) := by decide +kernel
theorem dX8_run_73 : decode cX8_run 73 = .ok (.iconst 0, 1) := by decide +kernel
theorem dX8_run_74 : decode cX8_run 74 = .ok (.istore_n 2, 1) := by decide +kernel
theorem dX8_run_75 : decode cX8_run 75 = .ok (.aload_n 0, 1) := by decide +kernel
theorem dX8_run_76 : decode cX8_run 76 = .ok (.iload_n 2, 1) := by decide +kernel
theorem dX8_run_77 : decode cX8_run 77 = .ok (.ifCond .eq 10, 3) := by decide +kernel
theorem dX8_run_80 : decode cX8_run 80 = .ok (.aload_n 0, 1) := by decide +kernel
theorem dX8_run_81 : decode cX8_run 81 = .ok (.getfield 27, 3) := by decide +kernel
theorem dX8_run_84 : decode cX8_run 84 = .ok (.goto 4, 3) := by decide +kernel
theorem dX8_run_87 : decode cX8_run 87 = .ok (.iload_n 1, 1) := by decide +kernel
theorem dX8_run_88 : decode cX8_run 88 = .ok (.putfield 27, 3) := by decide +kernel
theorem dX8_run_91 : decode cX8_run 91 = .ok (.aload_n 0, 1) := by decide +kernel
theorem dX8_run_92 : decode cX8_run 92 = .ok (.aload_n 0, 1) := by decide +kernel
theorem dX8_run_93 : decode cX8_run 93 = .ok (.getfield 181, 3) := by decide +kernel
theorem dX8_run_96 : decode cX8_run 96 = .ok (.putfield 46, 3) := by decide +kernel
theorem dX8_run_99 : decode cX8_run 99 = .ok (.aload_n 0, 1) := by decide +kernel
theorem dX8_run_100 : decode cX8_run 100 = .ok (.iload_n 2, 1) := by decide +kernel
theorem dX8_run_101 : decode cX8_run 101 = .ok (.ifCond .eq 7, 3) := by decide +kernel
theorem dX8_run_104 : decode cX8_run 104 = .ok (.iconst 0, 1) := by decide +kernel
theorem dX8_run_105 : decode cX8_run 105 = .ok (.goto 4, 3) := by decide +kernel
theorem dX8_run_108 : decode cX8_run 108 = .ok (.iconst 4, 1) := by decide +kernel
theorem dX8_run_109 : decode cX8_run 109 = .ok (.iconst 0, 1) := by decide +kernel
theorem dX8_run_110 : decode cX8_run 110 = .ok (.iconst 0, 1) := by decide +kernel
theorem dX8_run_111 : decode cX8_run 111 = .ok (.iconst 0, 1) := by decide +kernel
theorem dX8_run_112 : decode cX8_run 112 = .ok (.iconst 2, 1) := by decide +kernel
theorem dX8_run_113 : decode cX8_run 113 = .ok (.invokevirtual 80, 3) := by decide +kernel
theorem dX8_run_116 : decode cX8_run 116 = .ok (.ireturn, 1) := by decide +kernel
theorem dX8_errorPosition_0 : decode cX8_errorPosition 0 = .ok (.aload_n 0, 1) := by decide +kernel
theorem dX8_errorPosition_1 : decode cX8_errorPosition 1 = .ok (.aload_n 0, 1) := by decide +kernel
theorem dX8_errorPosition_2 : decode cX8_errorPosition 2 = .ok (.getfield 23, 3) := by decide +kernel
theorem dX8_errorPosition_5 : decode cX8_errorPosition 5 = .ok (.iconst (-1), 1) := by decide +kernel
theorem dX8_errorPosition_6 : decode cX8_errorPosition 6 = .ok (.if_icmp .eq 7, 3) := by decide +kernel
theorem dX8_errorPosition_9 : decode cX8_errorPosition 9 = .ok (.iconst 1, 1) := by decide +kernel
theorem dX8_errorPosition_10 : decode cX8_errorPosition 10 = .ok (.goto 4, 3) := by decide +kernel
theorem dX8_errorPosition_13 : decode cX8_errorPosition 13 = .ok (.iconst 0, 1) := by decide +kernel
theorem dX8_errorPosition_14 : decode cX8_errorPosition 14 = .ok (.invokevirtual 115, 3) := by decide +kernel
theorem dX8_errorPosition_17 : decode cX8_errorPosition 17 = .ok (.ifCond .eq 10, 3) := by decide +kernel
theorem dX8_errorPosition_20 : decode cX8_errorPosition 20 = .ok (.aload_n 0, 1) := by decide +kernel
theorem dX8_errorPosition_21 : decode cX8_errorPosition 21 = .ok (.getfield 23, 3) := by decide +kernel
theorem dX8_errorPosition_24 : decode cX8_errorPosition 24 = .ok (.goto 4, 3) := by decide +kernel
theorem dX8_errorPosition_27 : decode cX8_errorPosition 27 = .ok (.iconst 0, 1) := by decide +kernel
theorem dX8_errorPosition_28 : decode cX8_errorPosition 28 = .ok (.ireturn, 1) := by decide +kernel
theorem dX8_failedCommand_0 : decode cX8_failedCommand 0 = .ok (.aload_n 0, 1) := by decide +kernel
theorem dX8_failedCommand_1 : decode cX8_failedCommand 1 = .ok (.aload_n 0, 1) := by decide +kernel
theorem dX8_failedCommand_2 : decode cX8_failedCommand 2 = .ok (.getfield 27, 3) := by decide +kernel
theorem dX8_failedCommand_5 : decode cX8_failedCommand 5 = .ok (.iconst (-1), 1) := by decide +kernel
theorem dX8_failedCommand_6 : decode cX8_failedCommand 6 = .ok (.if_icmp .eq 7, 3) := by decide +kernel
theorem dX8_failedCommand_9 : decode cX8_failedCommand 9 = .ok (.iconst 1, 1) := by decide +kernel
theorem dX8_failedCommand_10 : decode cX8_failedCommand 10 = .ok (.goto 4, 3) := by decide +kernel
theorem dX8_failedCommand_13 : decode cX8_failedCommand 13 = .ok (.iconst 0, 1) := by decide +kernel
theorem dX8_failedCommand_14 : decode cX8_failedCommand 14 = .ok (.invokevirtual 115, 3) := by decide +kernel
theorem dX8_failedCommand_17 : decode cX8_failedCommand 17 = .ok (.ifCond .eq 10, 3) := by decide +kernel
theorem dX8_failedCommand_20 : decode cX8_failedCommand 20 = .ok (.aload_n 0, 1) := by decide +kernel
theorem dX8_failedCommand_21 : decode cX8_failedCommand 21 = .ok (.getfield 27, 3) := by decide +kernel
theorem dX8_failedCommand_24 : decode cX8_failedCommand 24 = .ok (.goto 4, 3) := by decide +kernel
theorem dX8_failedCommand_27 : decode cX8_failedCommand 27 = .ok (.iconst 0, 1) := by decide +kernel
theorem dX8_failedCommand_28 : decode cX8_failedCommand 28 = .ok (.ireturn, 1) := by decide +kernel
theorem dX8_writes_0 : decode cX8_writes 0 = .ok (.aload_n 0, 1) := by decide +kernel
theorem dX8_writes_1 : decode cX8_writes 1 = .ok (.getfield 33, 3) := by decide +kernel
theorem dX8_writes_4 : decode cX8_writes 4 = .ok (.aload_n 0, 1) := by decide +kernel
theorem dX8_writes_5 : decode cX8_writes 5 = .ok (.getfield 199, 3) := by decide +kernel
theorem dX8_writes_8 : decode cX8_writes 8 = .ok (.iload_n 1, 1) := by decide +kernel
theorem dX8_writes_9 : decode cX8_writes 9 = .ok (.i2c, 1) := by decide +kernel
theorem dX8_writes_10 : decode cX8_writes 10 = .ok (.castore, 1) := by decide +kernel
theorem dX8_writes_11 : decode cX8_writes 11 = .ok (.aload_n 0, 1) := by decide +kernel
theorem dX8_writes_12 : decode cX8_writes 12 = .ok (.dup, 1) := by decide +kernel
theorem dX8_writes_13 : decode cX8_writes 13 = .ok (.getfield 199, 3) := by decide +kernel
theorem dX8_writes_16 : decode cX8_writes 16 = .ok (.iconst 1, 1) := by decide +kernel
theorem dX8_writes_17 : decode cX8_writes 17 = .ok (.iadd, 1) := by decide +kernel
theorem dX8_writes_18 : decode cX8_writes 18 = .ok (.putfield 199, 3) := by decide +kernel
theorem dX8_writes_21 : decode cX8_writes 21 = .ok (.return_, 1) := by decide +kernel
theorem dX8_writesNumber_0 : decode cX8_writesNumber 0 = .ok (.iload_n 1, 1) := by decide +kernel
theorem dX8_writesNumber_1 : decode cX8_writesNumber 1 = .ok (.bipush 9, 2) := by decide +kernel
theorem dX8_writesNumber_3 : decode cX8_writesNumber 3 = .ok (.if_icmp .le 11, 3) := by decide +kernel
theorem dX8_writesNumber_6 : decode cX8_writesNumber 6 = .ok (.aload_n 0, 1) := by decide +kernel
theorem dX8_writesNumber_7 : decode cX8_writesNumber 7 = .ok (.iload_n 1, 1) := by decide +kernel
theorem dX8_writesNumber_8 : decode cX8_writesNumber 8 = .ok (.bipush 10, 2) := by decide +kernel
theorem dX8_writesNumber_10 : decode cX8_writesNumber 10 = .ok (.idiv, 1) := by decide +kernel
theorem dX8_writesNumber_11 : decode cX8_writesNumber 11 = .ok (.invokevirtual 202, 3) := by decide +kernel
theorem dX8_writesNumber_14 : decode cX8_writesNumber 14 = .ok (.aload_n 0, 1) := by decide +kernel
theorem dX8_writesNumber_15 : decode cX8_writesNumber 15 = .ok (.bipush 48, 2) := by decide +kernel
theorem dX8_writesNumber_17 : decode cX8_writesNumber 17 = .ok (.iload_n 1, 1) := by decide +kernel
theorem dX8_writesNumber_18 : decode cX8_writesNumber 18 = .ok (.bipush 10, 2) := by decide +kernel
theorem dX8_writesNumber_20 : decode cX8_writesNumber 20 = .ok (.irem, 1) := by decide +kernel
theorem dX8_writesNumber_21 : decode cX8_writesNumber 21 = .ok (.iadd, 1) := by decide +kernel
theorem dX8_writesNumber_22 : decode cX8_writesNumber 22 = .ok (.invokevirtual 205, 3) := by decide +kernel
theorem dX8_writesNumber_25 : decode cX8_writesNumber 25 = .ok (.return_, 1) := by decide +kernel
theorem dX8_writesBehind_0 : decode cX8_writesBehind 0 = .ok (.aload_n 0, 1) := by decide +kernel
theorem dX8_writesBehind_1 : decode cX8_writesBehind 1 = .ok (.iload_n 1, 1) := by decide +kernel
theorem dX8_writesBehind_2 : decode cX8_writesBehind 2 = .ok (.invokevirtual 205, 3) := by decide +kernel
theorem dX8_writesBehind_5 : decode cX8_writesBehind 5 = .ok (.aload_n 0, 1) := by decide +kernel
theorem dX8_writesBehind_6 : decode cX8_writesBehind 6 = .ok (.iload_n 2, 1) := by decide +kernel
theorem dX8_writesBehind_7 : decode cX8_writesBehind 7 = .ok (.invokevirtual 202, 3) := by decide +kernel
theorem dX8_writesBehind_10 : decode cX8_writesBehind 10 = .ok (.return_, 1) := by decide +kernel
theorem dX8_writeComet_0 : decode cX8_writeComet 0 = .ok (.aload_n 0, 1) := by decide +kernel
theorem dX8_writeComet_1 : decode cX8_writeComet 1 = .ok (.aload_n 0, 1) := by decide +kernel
theorem dX8_writeComet_2 : decode cX8_writeComet 2 = .ok (.iload_n 1, 1) := by decide +kernel
theorem dX8_writeComet_3 : decode cX8_writeComet 3 = .ok (.invokevirtual 84, 3) := by decide +kernel
theorem dX8_writeComet_6 : decode cX8_writeComet 6 = .ok (.invokevirtual 115, 3) := by decide +kernel
theorem dX8_writeComet_9 : decode cX8_writeComet 9 = .ok (.ifCond .ne 5, 3) := by decide +kernel
theorem dX8_writeComet_12 : decode cX8_writeComet 12 = .ok (.iconst 0, 1) := by decide +kernel
theorem dX8_writeComet_13 : decode cX8_writeComet 13 = .ok (.ireturn, 1) := by decide +kernel
theorem dX8_writeComet_14 : decode cX8_writeComet 14 = .ok (.aload_n 0, 1) := by decide +kernel
theorem dX8_writeComet_15 : decode cX8_writeComet 15 = .ok (.iload_n 1, 1) := by decide +kernel
theorem dX8_writeComet_16 : decode cX8_writeComet 16 = .ok (.invokevirtual 53, 3) := by decide +kernel
theorem dX8_writeComet_19 : decode cX8_writeComet 19 = .ok (.istore_n 2, 1) := by decide +kernel
theorem dX8_writeComet_20 : decode cX8_writeComet 20 = .ok (.aload_n 0, 1) := by decide +kernel
theorem dX8_writeComet_21 : decode cX8_writeComet 21 = .ok (.iconst 0, 1) := by decide +kernel
theorem dX8_writeComet_22 : decode cX8_writeComet 22 = .ok (.putfield 199, 3) := by decide +kernel
theorem dX8_writeComet_25 : decode cX8_writeComet 25 = .ok (.aload_n 0, 1) := by decide +kernel
theorem dX8_writeComet_26 : decode cX8_writeComet 26 = .ok (.iload_n 1, 1) := by decide +kernel
theorem dX8_writeComet_27 : decode cX8_writeComet 27 = .ok (.invokevirtual 202, 3) := by decide +kernel
theorem dX8_writeComet_30 : decode cX8_writeComet 30 = .ok (.aload_n 0, 1) := by decide +kernel
theorem dX8_writeComet_31 : decode cX8_writeComet 31 = .ok (.bipush 42, 2) := by decide +kernel
theorem dX8_writeComet_33 : decode cX8_writeComet 33 = .ok (.aload_n 0, 1) := by decide +kernel
theorem dX8_writeComet_34 : decode cX8_writeComet 34 = .ok (.iload_n 2, 1) := by decide +kernel
theorem dX8_writeComet_35 : decode cX8_writeComet 35 = .ok (.iconst 2, 1) := by decide +kernel
theorem dX8_writeComet_36 : decode cX8_writeComet 36 = .ok (.invokevirtual 49, 3) := by decide +kernel
theorem dX8_writeComet_39 : decode cX8_writeComet 39 = .ok (.invokevirtual 208, 3) := by decide +kernel
theorem dX8_writeComet_42 : decode cX8_writeComet 42 = .ok (.aload_n 0, 1) := by decide +kernel
theorem dX8_writeComet_43 : decode cX8_writeComet 43 = .ok (.bipush 47, 2) := by decide +kernel
theorem dX8_writeComet_45 : decode cX8_writeComet 45 = .ok (.aload_n 0, 1) := by decide +kernel
theorem dX8_writeComet_46 : decode cX8_writeComet 46 = .ok (.iload_n 2, 1) := by decide +kernel
theorem dX8_writeComet_47 : decode cX8_writeComet 47 = .ok (.iconst 1, 1) := by decide +kernel
theorem dX8_writeComet_48 : decode cX8_writeComet 48 = .ok (.invokevirtual 49, 3) := by decide +kernel
theorem dX8_writeComet_51 : decode cX8_writeComet 51 = .ok (.invokevirtual 208, 3) := by decide +kernel
theorem dX8_writeComet_54 : decode cX8_writeComet 54 = .ok (.aload_n 0, 1) := by decide +kernel
theorem dX8_writeComet_55 : decode cX8_writeComet 55 = .ok (.bipush 64, 2) := by decide +kernel
theorem dX8_writeComet_57 : decode cX8_writeComet 57 = .ok (.aload_n 0, 1) := by decide +kernel
theorem dX8_writeComet_58 : decode cX8_writeComet 58 = .ok (.iload_n 2, 1) := by decide +kernel
theorem dX8_writeComet_59 : decode cX8_writeComet 59 = .ok (.iconst 3, 1) := by decide +kernel
theorem dX8_writeComet_60 : decode cX8_writeComet 60 = .ok (.invokevirtual 49, 3) := by decide +kernel
theorem dX8_writeComet_63 : decode cX8_writeComet 63 = .ok (.invokevirtual 208, 3) := by decide +kernel
theorem dX8_writeComet_66 : decode cX8_writeComet 66 = .ok (.aload_n 0, 1) := by decide +kernel
theorem dX8_writeComet_67 : decode cX8_writeComet 67 = .ok (.getfield 199, 3) := by decide +kernel
theorem dX8_writeComet_70 : decode cX8_writeComet 70 = .ok (.ireturn, 1) := by decide +kernel
theorem dX8_writeRing_0 : decode cX8_writeRing 0 = .ok (.aload_n 0, 1) := by decide +kernel
theorem dX8_writeRing_1 : decode cX8_writeRing 1 = .ok (.iconst 0, 1) := by decide +kernel
theorem dX8_writeRing_2 : decode cX8_writeRing 2 = .ok (.putfield 36, 3) := by decide +kernel
theorem dX8_writeRing_5 : decode cX8_writeRing 5 = .ok (.aload_n 0, 1) := by decide +kernel
theorem dX8_writeRing_6 : decode cX8_writeRing 6 = .ok (.iconst 0, 1) := by decide +kernel
theorem dX8_writeRing_7 : decode cX8_writeRing 7 = .ok (.putfield 199, 3) := by decide +kernel
theorem dX8_writeRing_10 : decode cX8_writeRing 10 = .ok (.iconst 0, 1) := by decide +kernel
theorem dX8_writeRing_11 : decode cX8_writeRing 11 = .ok (.istore_n 1, 1) := by decide +kernel
theorem dX8_writeRing_12 : decode cX8_writeRing 12 = .ok (.iload_n 1, 1) := by decide +kernel
theorem dX8_writeRing_13 : decode cX8_writeRing 13 = .ok (.bipush 12, 2) := by decide +kernel
theorem dX8_writeRing_15 : decode cX8_writeRing 15 = .ok (.if_icmp .ge 32, 3) := by decide +kernel
theorem dX8_writeRing_18 : decode cX8_writeRing 18 = .ok (.iload_n 1, 1) := by decide +kernel
theorem dX8_writeRing_19 : decode cX8_writeRing 19 = .ok (.ifCond .le 9, 3) := by decide +kernel
theorem dX8_writeRing_22 : decode cX8_writeRing 22 = .ok (.aload_n 0, 1) := by decide +kernel
theorem dX8_writeRing_23 : decode cX8_writeRing 23 = .ok (.bipush 44, 2) := by decide +kernel
theorem dX8_writeRing_25 : decode cX8_writeRing 25 = .ok (.invokevirtual 205, 3) := by decide +kernel
theorem dX8_writeRing_28 : decode cX8_writeRing 28 = .ok (.aload_n 0, 1) := by decide +kernel
theorem dX8_writeRing_29 : decode cX8_writeRing 29 = .ok (.aload_n 0, 1) := by decide +kernel
theorem dX8_writeRing_30 : decode cX8_writeRing 30 = .ok (.getfield 9, 3) := by decide +kernel
theorem dX8_writeRing_33 : decode cX8_writeRing 33 = .ok (.bipush 37, 2) := by decide +kernel
theorem dX8_writeRing_35 : decode cX8_writeRing 35 = .ok (.iload_n 1, 1) := by decide +kernel
theorem dX8_writeRing_36 : decode cX8_writeRing 36 = .ok (.iadd, 1) := by decide +kernel
theorem dX8_writeRing_37 : decode cX8_writeRing 37 = .ok (.iaload, 1) := by decide +kernel
theorem dX8_writeRing_38 : decode cX8_writeRing 38 = .ok (.invokevirtual 202, 3) := by decide +kernel
theorem dX8_writeRing_41 : decode cX8_writeRing 41 = .ok (.iinc 1 1, 3) := by decide +kernel
theorem dX8_writeRing_44 : decode cX8_writeRing 44 = .ok (.goto (-32), 3) := by decide +kernel
theorem dX8_writeRing_47 : decode cX8_writeRing 47 = .ok (.aload_n 0, 1) := by decide +kernel
theorem dX8_writeRing_48 : decode cX8_writeRing 48 = .ok (.getfield 199, 3) := by decide +kernel
theorem dX8_writeRing_51 : decode cX8_writeRing 51 = .ok (.ireturn, 1) := by decide +kernel
theorem dX8_outputAt_0 : decode cX8_outputAt 0 = .ok (.aload_n 0, 1) := by decide +kernel
theorem dX8_outputAt_1 : decode cX8_outputAt 1 = .ok (.iload_n 1, 1) := by decide +kernel
theorem dX8_outputAt_2 : decode cX8_outputAt 2 = .ok (.iconst 0, 1) := by decide +kernel
theorem dX8_outputAt_3 : decode cX8_outputAt 3 = .ok (.aload_n 0, 1) := by decide +kernel
theorem dX8_outputAt_4 : decode cX8_outputAt 4 = .ok (.getfield 199, 3) := by decide +kernel
theorem dX8_outputAt_7 : decode cX8_outputAt 7 = .ok (.iconst 1, 1) := by decide +kernel
theorem dX8_outputAt_8 : decode cX8_outputAt 8 = .ok (.isub, 1) := by decide +kernel
theorem dX8_outputAt_9 : decode cX8_outputAt 9 = .ok (.invokestatic 69, 3) := by decide +kernel
theorem dX8_outputAt_12 : decode cX8_outputAt 12 = .ok (.invokevirtual 115, 3) := by decide +kernel
theorem dX8_outputAt_15 : decode cX8_outputAt 15 = .ok (.ifCond .eq 12, 3) := by decide +kernel
theorem dX8_outputAt_18 : decode cX8_outputAt 18 = .ok (.aload_n 0, 1) := by decide +kernel
theorem dX8_outputAt_19 : decode cX8_outputAt 19 = .ok (.getfield 33, 3) := by decide +kernel
theorem dX8_outputAt_22 : decode cX8_outputAt 22 = .ok (.iload_n 1, 1) := by decide +kernel
theorem dX8_outputAt_23 : decode cX8_outputAt 23 = .ok (.caload, 1) := by decide +kernel
theorem dX8_outputAt_24 : decode cX8_outputAt 24 = .ok (.goto 4, 3) := by decide +kernel
theorem dX8_outputAt_27 : decode cX8_outputAt 27 = .ok (.iconst 0, 1) := by decide +kernel
theorem dX8_outputAt_28 : decode cX8_outputAt 28 = .ok (.ireturn, 1) := by decide +kernel
theorem dX8_undo_0 : decode cX8_undo 0 = .ok (.aload_n 0, 1) := by decide +kernel
theorem dX8_undo_1 : decode cX8_undo 1 = .ok (.aload_n 0, 1) := by decide +kernel
theorem dX8_undo_2 : decode cX8_undo 2 = .ok (.getfield 43, 3) := by decide +kernel
theorem dX8_undo_5 : decode cX8_undo 5 = .ok (.ifCond .le 7, 3) := by decide +kernel
theorem dX8_undo_8 : decode cX8_undo 8 = .ok (.iconst 1, 1) := by decide +kernel
theorem dX8_undo_9 : decode cX8_undo 9 = .ok (.goto 4, 3) := by decide +kernel
theorem dX8_undo_12 : decode cX8_undo 12 = .ok (.iconst 0, 1) := by decide +kernel
theorem dX8_undo_13 : decode cX8_undo 13 = .ok (.invokevirtual 115, 3) := by decide +kernel
theorem dX8_undo_16 : decode cX8_undo 16 = .ok (.ifCond .ne 5, 3) := by decide +kernel
theorem dX8_undo_19 : decode cX8_undo 19 = .ok (.iconst 0, 1) := by decide +kernel
theorem dX8_undo_20 : decode cX8_undo 20 = .ok (.ireturn, 1) := by decide +kernel
theorem dX8_undo_21 : decode cX8_undo 21 = .ok (.aload_n 0, 1) := by decide +kernel
theorem dX8_undo_22 : decode cX8_undo 22 = .ok (.aload_n 0, 1) := by decide +kernel
theorem dX8_undo_23 : decode cX8_undo 23 = .ok (.getfield 43, 3) := by decide +kernel
theorem dX8_undo_26 : decode cX8_undo 26 = .ok (.iconst 0, 1) := by decide +kernel
theorem dX8_undo_27 : decode cX8_undo 27 = .ok (.invokevirtual 39, 3) := by decide +kernel
theorem dX8_undo_30 : decode cX8_undo 30 = .ok (.aload_n 0, 1) := by decide +kernel
theorem dX8_undo_31 : decode cX8_undo 31 = .ok (.dup, 1) := by decide +kernel
theorem dX8_undo_32 : decode cX8_undo 32 = .ok (.getfield 43, 3) := by decide +kernel
theorem dX8_undo_35 : decode cX8_undo 35 = .ok (.iconst 1, 1) := by decide +kernel
theorem dX8_undo_36 : decode cX8_undo 36 = .ok (.isub, 1) := by decide +kernel
theorem dX8_undo_37 : decode cX8_undo 37 = .ok (.putfield 43, 3) := by decide +kernel
theorem dX8_undo_40 : decode cX8_undo 40 = .ok (.aload_n 0, 1) := by decide +kernel
theorem dX8_undo_41 : decode cX8_undo 41 = .ok (.getfield 43, 3) := by decide +kernel
theorem dX8_undo_44 : decode cX8_undo 44 = .ok (.ireturn, 1) := by decide +kernel
theorem dX8_save_0 : decode cX8_save 0 = .ok (.aload_n 0, 1) := by decide +kernel
theorem dX8_save_1 : decode cX8_save 1 = .ok (.iconst 0, 1) := by decide +kernel
theorem dX8_save_2 : decode cX8_save 2 = .ok (.putfield 36, 3) := by decide +kernel
theorem dX8_save_5 : decode cX8_save 5 = .ok (.aload_n 0, 1) := by decide +kernel
theorem dX8_save_6 : decode cX8_save 6 = .ok (.iconst 1, 1) := by decide +kernel
theorem dX8_save_7 : decode cX8_save 7 = .ok (.putfield 211, 3) := by decide +kernel
theorem dX8_save_10 : decode cX8_save 10 = .ok (.aload_n 0, 1) := by decide +kernel
theorem dX8_save_11 : decode cX8_save 11 = .ok (.iconst 0, 1) := by decide +kernel
theorem dX8_save_12 : decode cX8_save 12 = .ok (.bipush 9, 2) := by decide +kernel
theorem dX8_save_14 : decode cX8_save 14 = .ok (.invokevirtual 39, 3) := by decide +kernel
theorem dX8_save_17 : decode cX8_save 17 = .ok (.return_, 1) := by decide +kernel
theorem dX8_restore_0 : decode cX8_restore 0 = .ok (.aload_n 0, 1) := by decide +kernel
theorem dX8_restore_1 : decode cX8_restore 1 = .ok (.aload_n 0, 1) := by decide +kernel
theorem dX8_restore_2 : decode cX8_restore 2 = .ok (.getfield 211, 3) := by decide +kernel
theorem dX8_restore_5 : decode cX8_restore 5 = .ok (.invokevirtual 115, 3) := by decide +kernel
theorem dX8_restore_8 : decode cX8_restore 8 = .ok (.ifCond .ne 4, 3) := by decide +kernel
theorem dX8_restore_11 : decode cX8_restore 11 = .ok (.return_, 1) := by decide +kernel
theorem dX8_restore_12 : decode cX8_restore 12 = .ok (.aload_n 0, 1) := by decide +kernel
theorem dX8_restore_13 : decode cX8_restore 13 = .ok (.bipush 9, 2) := by decide +kernel
theorem dX8_restore_15 : decode cX8_restore 15 = .ok (.iconst 0, 1) := by decide +kernel
theorem dX8_restore_16 : decode cX8_restore 16 = .ok (.invokevirtual 39, 3) := by decide +kernel
theorem dX8_restore_19 : decode cX8_restore 19 = .ok (.aload_n 0, 1) := by decide +kernel
theorem dX8_restore_20 : decode cX8_restore 20 = .ok (.iconst 0, 1) := by decide +kernel
theorem dX8_restore_21 : decode cX8_restore 21 = .ok (.putfield 43, 3) := by decide +kernel
theorem dX8_restore_24 : decode cX8_restore 24 = .ok (.return_, 1) := by decide +kernel
theorem dJ5_init_d00df_0 : decode cJ5_init_d00df 0 = .ok (.aload_n 0, 1) := by decide +kernel
theorem dJ5_init_d00df_1 : decode cJ5_init_d00df 1 = .ok (.invokespecial 3, 3) := by decide +kernel
theorem dJ5_init_d00df_4 : decode cJ5_init_d00df 4 = .ok (.getstatic 18, 3) := by decide +kernel
theorem dJ5_init_d00df_7 : decode cJ5_init_d00df 7 = .ok (.ifCond .eq 18, 3) := by decide +kernel
theorem dJ5_init_d00df_10 : decode cJ5_init_d00df 10 = .ok (.aload_n 0, 1) := by decide +kernel
theorem dJ5_init_d00df_11 : decode cJ5_init_d00df 11 = .ok (.iload_n 1, 1) := by decide +kernel
theorem dJ5_init_d00df_12 : decode cJ5_init_d00df 12 = .ok (.newarray .byte, 2) := by decide +kernel
theorem dJ5_init_d00df_14 : decode cJ5_init_d00df 14 = .ok (.putfield 15, 3) := by decide +kernel
theorem dJ5_init_d00df_17 : decode cJ5_init_d00df 17 = .ok (.aload_n 0, 1) := by decide +kernel
theorem dJ5_init_d00df_18 : decode cJ5_init_d00df 18 = .ok (.iconst 0, 1) := by decide +kernel
theorem dJ5_init_d00df_19 : decode cJ5_init_d00df 19 = .ok (.putfield 22, 3) := by decide +kernel
theorem dJ5_init_d00df_22 : decode cJ5_init_d00df 22 = .ok (.goto 16, 3) := by decide +kernel
theorem dJ5_init_d00df_25 : decode cJ5_init_d00df 25 = .ok (.aload_n 0, 1) := by decide +kernel
theorem dJ5_init_d00df_26 : decode cJ5_init_d00df 26 = .ok (.iload_n 1, 1) := by decide +kernel
theorem dJ5_init_d00df_27 : decode cJ5_init_d00df 27 = .ok (.invokestatic 26, 3) := by decide +kernel
theorem dJ5_init_d00df_30 : decode cJ5_init_d00df 30 = .ok (.putfield 15, 3) := by decide +kernel
theorem dJ5_init_d00df_33 : decode cJ5_init_d00df 33 = .ok (.aload_n 0, 1) := by decide +kernel
theorem dJ5_init_d00df_34 : decode cJ5_init_d00df 34 = .ok (.iconst 1, 1) := by decide +kernel
theorem dJ5_init_d00df_35 : decode cJ5_init_d00df 35 = .ok (.putfield 22, 3) := by decide +kernel
theorem dJ5_init_d00df_38 : decode cJ5_init_d00df 38 = .ok (.return_, 1) := by decide +kernel
theorem dJ5_length_8abf5_0 : decode cJ5_length_8abf5 0 = .ok (.aload_n 0, 1) := by decide +kernel
theorem dJ5_length_8abf5_1 : decode cJ5_length_8abf5 1 = .ok (.getfield 79, 3) := by decide +kernel
theorem dJ5_length_8abf5_4 : decode cJ5_length_8abf5 4 = .ok (.ireturn, 1) := by decide +kernel
theorem dJ5_ensureCapacityInternal_d00df_0 : decode cJ5_ensureCapacityInternal_d00df 0 = .ok (.aload_n 0, 1) := by decide +kernel
theorem dJ5_ensureCapacityInternal_d00df_1 : decode cJ5_ensureCapacityInternal_d00df 1 = .ok (.getfield 15, 3) := by decide +kernel
theorem dJ5_ensureCapacityInternal_d00df_4 : decode cJ5_ensureCapacityInternal_d00df 4 = .ok (.arraylength, 1) := by decide +kernel
theorem dJ5_ensureCapacityInternal_d00df_5 : decode cJ5_ensureCapacityInternal_d00df 5 = .ok (.aload_n 0, 1) := by decide +kernel
theorem dJ5_ensureCapacityInternal_d00df_6 : decode cJ5_ensureCapacityInternal_d00df 6 = .ok (.getfield 22, 3) := by decide +kernel
theorem dJ5_ensureCapacityInternal_d00df_9 : decode cJ5_ensureCapacityInternal_d00df 9 = .ok (.ishr, 1) := by decide +kernel
theorem dJ5_ensureCapacityInternal_d00df_10 : decode cJ5_ensureCapacityInternal_d00df 10 = .ok (.istore_n 2, 1) := by decide +kernel
theorem dJ5_ensureCapacityInternal_d00df_11 : decode cJ5_ensureCapacityInternal_d00df 11 = .ok (.iload_n 1, 1) := by decide +kernel
theorem dJ5_ensureCapacityInternal_d00df_12 : decode cJ5_ensureCapacityInternal_d00df 12 = .ok (.iload_n 2, 1) := by decide +kernel
theorem dJ5_ensureCapacityInternal_d00df_13 : decode cJ5_ensureCapacityInternal_d00df 13 = .ok (.isub, 1) := by decide +kernel
theorem dJ5_ensureCapacityInternal_d00df_14 : decode cJ5_ensureCapacityInternal_d00df 14 = .ok (.ifCond .le 24, 3) := by decide +kernel
theorem dJ5_ensureCapacityInternal_d00df_17 : decode cJ5_ensureCapacityInternal_d00df 17 = .ok (.aload_n 0, 1) := by decide +kernel
theorem dJ5_ensureCapacityInternal_d00df_18 : decode cJ5_ensureCapacityInternal_d00df 18 = .ok (.aload_n 0, 1) := by decide +kernel
theorem dJ5_ensureCapacityInternal_d00df_19 : decode cJ5_ensureCapacityInternal_d00df 19 = .ok (.getfield 15, 3) := by decide +kernel
theorem dJ5_ensureCapacityInternal_d00df_22 : decode cJ5_ensureCapacityInternal_d00df 22 = .ok (.aload_n 0, 1) := by decide +kernel
theorem dJ5_ensureCapacityInternal_d00df_23 : decode cJ5_ensureCapacityInternal_d00df 23 = .ok (.iload_n 1, 1) := by decide +kernel
theorem dJ5_ensureCapacityInternal_d00df_24 : decode cJ5_ensureCapacityInternal_d00df 24 = .ok (.invokevirtual 104, 3) := by decide +kernel
theorem dJ5_ensureCapacityInternal_d00df_27 : decode cJ5_ensureCapacityInternal_d00df 27 = .ok (.aload_n 0, 1) := by decide +kernel
theorem dJ5_ensureCapacityInternal_d00df_28 : decode cJ5_ensureCapacityInternal_d00df 28 = .ok (.getfield 22, 3) := by decide +kernel
theorem dJ5_ensureCapacityInternal_d00df_31 : decode cJ5_ensureCapacityInternal_d00df 31 = .ok (.ishl, 1) := by decide +kernel
theorem dJ5_ensureCapacityInternal_d00df_32 : decode cJ5_ensureCapacityInternal_d00df 32 = .ok (.invokestatic 108, 3) := by decide +kernel
theorem dJ5_ensureCapacityInternal_d00df_35 : decode cJ5_ensureCapacityInternal_d00df 35 = .ok (.putfield 15, 3) := by decide +kernel
theorem dJ5_ensureCapacityInternal_d00df_38 : decode cJ5_ensureCapacityInternal_d00df 38 = .ok (.return_, 1) := by decide +kernel
theorem dJ5_newCapacity_0f7a4_0 : decode cJ5_newCapacity_0f7a4 0 = .ok (.aload_n 0, 1) := by decide +kernel
theorem dJ5_newCapacity_0f7a4_1 : decode cJ5_newCapacity_0f7a4 1 = .ok (.getfield 15, 3) := by decide +kernel
theorem dJ5_newCapacity_0f7a4_4 : decode cJ5_newCapacity_0f7a4 4 = .ok (.arraylength, 1) := by decide +kernel
theorem dJ5_newCapacity_0f7a4_5 : decode cJ5_newCapacity_0f7a4 5 = .ok (.istore_n 2, 1) := by decide +kernel
theorem dJ5_newCapacity_0f7a4_6 : decode cJ5_newCapacity_0f7a4 6 = .ok (.iload_n 1, 1) := by decide +kernel
theorem dJ5_newCapacity_0f7a4_7 : decode cJ5_newCapacity_0f7a4 7 = .ok (.aload_n 0, 1) := by decide +kernel
theorem dJ5_newCapacity_0f7a4_8 : decode cJ5_newCapacity_0f7a4 8 = .ok (.getfield 22, 3) := by decide +kernel
theorem dJ5_newCapacity_0f7a4_11 : decode cJ5_newCapacity_0f7a4 11 = .ok (.ishl, 1) := by decide +kernel
theorem dJ5_newCapacity_0f7a4_12 : decode cJ5_newCapacity_0f7a4 12 = .ok (.istore_n 3, 1) := by decide +kernel
theorem dJ5_newCapacity_0f7a4_13 : decode cJ5_newCapacity_0f7a4 13 = .ok (.iload_n 3, 1) := by decide +kernel
theorem dJ5_newCapacity_0f7a4_14 : decode cJ5_newCapacity_0f7a4 14 = .ok (.iload_n 2, 1) := by decide +kernel
theorem dJ5_newCapacity_0f7a4_15 : decode cJ5_newCapacity_0f7a4 15 = .ok (.isub, 1) := by decide +kernel
theorem dJ5_newCapacity_0f7a4_16 : decode cJ5_newCapacity_0f7a4 16 = .ok (.istore 4, 2) := by decide +kernel
theorem dJ5_newCapacity_0f7a4_18 : decode cJ5_newCapacity_0f7a4 18 = .ok (.iload_n 2, 1) := by decide +kernel
theorem dJ5_newCapacity_0f7a4_19 : decode cJ5_newCapacity_0f7a4 19 = .ok (.iload 4, 2) := by decide +kernel
theorem dJ5_newCapacity_0f7a4_21 : decode cJ5_newCapacity_0f7a4 21 = .ok (.iload_n 2, 1) := by decide +kernel
theorem dJ5_newCapacity_0f7a4_22 : decode cJ5_newCapacity_0f7a4 22 = .ok (.iconst 2, 1) := by decide +kernel
theorem dJ5_newCapacity_0f7a4_23 : decode cJ5_newCapacity_0f7a4 23 = .ok (.aload_n 0, 1) := by decide +kernel
theorem dJ5_newCapacity_0f7a4_24 : decode cJ5_newCapacity_0f7a4 24 = .ok (.getfield 22, 3) := by decide +kernel
theorem dJ5_newCapacity_0f7a4_27 : decode cJ5_newCapacity_0f7a4 27 = .ok (.ishl, 1) := by decide +kernel
theorem dJ5_newCapacity_0f7a4_28 : decode cJ5_newCapacity_0f7a4 28 = .ok (.iadd, 1) := by decide +kernel
theorem dJ5_newCapacity_0f7a4_29 : decode cJ5_newCapacity_0f7a4 29 = .ok (.invokestatic 114, 3) := by decide +kernel
theorem dJ5_newCapacity_0f7a4_32 : decode cJ5_newCapacity_0f7a4 32 = .ok (.istore 5, 2) := by decide +kernel
theorem dJ5_newCapacity_0f7a4_34 : decode cJ5_newCapacity_0f7a4 34 = .ok (.iload 5, 2) := by decide +kernel
theorem dJ5_newCapacity_0f7a4_36 : decode cJ5_newCapacity_0f7a4 36 = .ok (.ldc 39, 2) := by decide +kernel
theorem dJ5_newCapacity_0f7a4_38 : decode cJ5_newCapacity_0f7a4 38 = .ok (.if_icmp .ne 13, 3) := by decide +kernel
theorem dJ5_newCapacity_0f7a4_41 : decode cJ5_newCapacity_0f7a4 41 = .ok (.new 120, 3) := by decide +kernel
theorem dJ5_newCapacity_0f7a4_44 : decode cJ5_newCapacity_0f7a4 44 = .ok (.dup, 1) := by decide +kernel
theorem dJ5_newCapacity_0f7a4_45 : decode cJ5_newCapacity_0f7a4 45 = .ok (.ldc 122, 2) := by decide +kernel
theorem dJ5_newCapacity_0f7a4_47 : decode cJ5_newCapacity_0f7a4 47 = .ok (.invokespecial 124, 3) := by decide +kernel
theorem dJ5_newCapacity_0f7a4_50 : decode cJ5_newCapacity_0f7a4 50 = .ok (.athrow, 1) := by decide +kernel
theorem dJ5_newCapacity_0f7a4_51 : decode cJ5_newCapacity_0f7a4 51 = .ok (.iload 5, 2) := by decide +kernel
theorem dJ5_newCapacity_0f7a4_53 : decode cJ5_newCapacity_0f7a4 53 = .ok (.aload_n 0, 1) := by decide +kernel
theorem dJ5_newCapacity_0f7a4_54 : decode cJ5_newCapacity_0f7a4 54 = .ok (.getfield 22, 3) := by decide +kernel
theorem dJ5_newCapacity_0f7a4_57 : decode cJ5_newCapacity_0f7a4 57 = .ok (.ishr, 1) := by decide +kernel
theorem dJ5_newCapacity_0f7a4_58 : decode cJ5_newCapacity_0f7a4 58 = .ok (.ireturn, 1) := by decide +kernel
theorem dJ5_inflate_da8c8_0 : decode cJ5_inflate_da8c8 0 = .ok (.aload_n 0, 1) := by decide +kernel
theorem dJ5_inflate_da8c8_1 : decode cJ5_inflate_da8c8 1 = .ok (.invokevirtual 83, 3) := by decide +kernel
theorem dJ5_inflate_da8c8_4 : decode cJ5_inflate_da8c8 4 = .ok (.ifCond .ne 4, 3) := by decide +kernel
theorem dJ5_inflate_da8c8_7 : decode cJ5_inflate_da8c8 7 = .ok (.return_, 1) := by decide +kernel
theorem dJ5_inflate_da8c8_8 : decode cJ5_inflate_da8c8 8 = .ok (.aload_n 0, 1) := by decide +kernel
theorem dJ5_inflate_da8c8_9 : decode cJ5_inflate_da8c8 9 = .ok (.getfield 15, 3) := by decide +kernel
theorem dJ5_inflate_da8c8_12 : decode cJ5_inflate_da8c8 12 = .ok (.arraylength, 1) := by decide +kernel
theorem dJ5_inflate_da8c8_13 : decode cJ5_inflate_da8c8 13 = .ok (.invokestatic 26, 3) := by decide +kernel
theorem dJ5_inflate_da8c8_16 : decode cJ5_inflate_da8c8 16 = .ok (.astore_n 1, 1) := by decide +kernel
theorem dJ5_inflate_da8c8_17 : decode cJ5_inflate_da8c8 17 = .ok (.aload_n 0, 1) := by decide +kernel
theorem dJ5_inflate_da8c8_18 : decode cJ5_inflate_da8c8 18 = .ok (.getfield 15, 3) := by decide +kernel
theorem dJ5_inflate_da8c8_21 : decode cJ5_inflate_da8c8 21 = .ok (.iconst 0, 1) := by decide +kernel
theorem dJ5_inflate_da8c8_22 : decode cJ5_inflate_da8c8 22 = .ok (.aload_n 1, 1) := by decide +kernel
theorem dJ5_inflate_da8c8_23 : decode cJ5_inflate_da8c8 23 = .ok (.iconst 0, 1) := by decide +kernel
theorem dJ5_inflate_da8c8_24 : decode cJ5_inflate_da8c8 24 = .ok (.aload_n 0, 1) := by decide +kernel
theorem dJ5_inflate_da8c8_25 : decode cJ5_inflate_da8c8 25 = .ok (.getfield 79, 3) := by decide +kernel
theorem dJ5_inflate_da8c8_28 : decode cJ5_inflate_da8c8 28 = .ok (.invokestatic 125, 3) := by decide +kernel
theorem dJ5_inflate_da8c8_31 : decode cJ5_inflate_da8c8 31 = .ok (.aload_n 0, 1) := by decide +kernel
theorem dJ5_inflate_da8c8_32 : decode cJ5_inflate_da8c8 32 = .ok (.aload_n 1, 1) := by decide +kernel
theorem dJ5_inflate_da8c8_33 : decode cJ5_inflate_da8c8 33 = .ok (.putfield 15, 3) := by decide +kernel
theorem dJ5_inflate_da8c8_36 : decode cJ5_inflate_da8c8 36 = .ok (.aload_n 0, 1) := by decide +kernel
theorem dJ5_inflate_da8c8_37 : decode cJ5_inflate_da8c8 37 = .ok (.iconst 1, 1) := by decide +kernel
theorem dJ5_inflate_da8c8_38 : decode cJ5_inflate_da8c8 38 = .ok (.putfield 22, 3) := by decide +kernel
theorem dJ5_inflate_da8c8_41 : decode cJ5_inflate_da8c8 41 = .ok (.return_, 1) := by decide +kernel
theorem dJ5_setLength_d00df_0 : decode cJ5_setLength_d00df 0 = .ok (.iload_n 1, 1) := by decide +kernel
theorem dJ5_setLength_d00df_1 : decode cJ5_setLength_d00df 1 = .ok (.ifCond .ge 12, 3) := by decide +kernel
theorem dJ5_setLength_d00df_4 : decode cJ5_setLength_d00df 4 = .ok (.new 129, 3) := by decide +kernel
theorem dJ5_setLength_d00df_7 : decode cJ5_setLength_d00df 7 = .ok (.dup, 1) := by decide +kernel
theorem dJ5_setLength_d00df_8 : decode cJ5_setLength_d00df 8 = .ok (.iload_n 1, 1) := by decide +kernel
theorem dJ5_setLength_d00df_9 : decode cJ5_setLength_d00df 9 = .ok (.invokespecial 131, 3) := by decide +kernel
theorem dJ5_setLength_d00df_12 : decode cJ5_setLength_d00df 12 = .ok (.athrow, 1) := by decide +kernel
theorem dJ5_setLength_d00df_13 : decode cJ5_setLength_d00df 13 = .ok (.aload_n 0, 1) := by decide +kernel
theorem dJ5_setLength_d00df_14 : decode cJ5_setLength_d00df 14 = .ok (.iload_n 1, 1) := by decide +kernel
theorem dJ5_setLength_d00df_15 : decode cJ5_setLength_d00df 15 = .ok (.invokevirtual 100, 3) := by decide +kernel
theorem dJ5_setLength_d00df_18 : decode cJ5_setLength_d00df 18 = .ok (.aload_n 0, 1) := by decide +kernel
theorem dJ5_setLength_d00df_19 : decode cJ5_setLength_d00df 19 = .ok (.getfield 79, 3) := by decide +kernel
theorem dJ5_setLength_d00df_22 : decode cJ5_setLength_d00df 22 = .ok (.iload_n 1, 1) := by decide +kernel
theorem dJ5_setLength_d00df_23 : decode cJ5_setLength_d00df 23 = .ok (.if_icmp .ge 40, 3) := by decide +kernel
theorem dJ5_setLength_d00df_26 : decode cJ5_setLength_d00df 26 = .ok (.aload_n 0, 1) := by decide +kernel
theorem dJ5_setLength_d00df_27 : decode cJ5_setLength_d00df 27 = .ok (.invokevirtual 83, 3) := by decide +kernel
theorem dJ5_setLength_d00df_30 : decode cJ5_setLength_d00df 30 = .ok (.ifCond .eq 18, 3) := by decide +kernel
theorem dJ5_setLength_d00df_33 : decode cJ5_setLength_d00df 33 = .ok (.aload_n 0, 1) := by decide +kernel
theorem dJ5_setLength_d00df_34 : decode cJ5_setLength_d00df 34 = .ok (.getfield 15, 3) := by decide +kernel
theorem dJ5_setLength_d00df_37 : decode cJ5_setLength_d00df 37 = .ok (.aload_n 0, 1) := by decide +kernel
theorem dJ5_setLength_d00df_38 : decode cJ5_setLength_d00df 38 = .ok (.getfield 79, 3) := by decide +kernel
theorem dJ5_setLength_d00df_41 : decode cJ5_setLength_d00df 41 = .ok (.iload_n 1, 1) := by decide +kernel
theorem dJ5_setLength_d00df_42 : decode cJ5_setLength_d00df 42 = .ok (.invokestatic 133, 3) := by decide +kernel
theorem dJ5_setLength_d00df_45 : decode cJ5_setLength_d00df 45 = .ok (.goto 31, 3) := by decide +kernel
theorem dJ5_setLength_d00df_48 : decode cJ5_setLength_d00df 48 = .ok (.aload_n 0, 1) := by decide +kernel
theorem dJ5_setLength_d00df_49 : decode cJ5_setLength_d00df 49 = .ok (.getfield 15, 3) := by decide +kernel
theorem dJ5_setLength_d00df_52 : decode cJ5_setLength_d00df 52 = .ok (.aload_n 0, 1) := by decide +kernel
theorem dJ5_setLength_d00df_53 : decode cJ5_setLength_d00df 53 = .ok (.getfield 79, 3) := by decide +kernel
theorem dJ5_setLength_d00df_56 : decode cJ5_setLength_d00df 56 = .ok (.iload_n 1, 1) := by decide +kernel
theorem dJ5_setLength_d00df_57 : decode cJ5_setLength_d00df 57 = .ok (.invokestatic 137, 3) := by decide +kernel
theorem dJ5_setLength_d00df_60 : decode cJ5_setLength_d00df 60 = .ok (.goto 16, 3) := by decide +kernel
theorem dJ5_setLength_d00df_63 : decode cJ5_setLength_d00df 63 = .ok (.aload_n 0, 1) := by decide +kernel
theorem dJ5_setLength_d00df_64 : decode cJ5_setLength_d00df 64 = .ok (.getfield 79, 3) := by decide +kernel
theorem dJ5_setLength_d00df_67 : decode cJ5_setLength_d00df 67 = .ok (.iload_n 1, 1) := by decide +kernel
theorem dJ5_setLength_d00df_68 : decode cJ5_setLength_d00df 68 = .ok (.if_icmp .le 8, 3) := by decide +kernel
theorem dJ5_setLength_d00df_71 : decode cJ5_setLength_d00df 71 = .ok (.aload_n 0, 1) := by decide +kernel
theorem dJ5_setLength_d00df_72 : decode cJ5_setLength_d00df 72 = .ok (.iconst 1, 1) := by decide +kernel
theorem dJ5_setLength_d00df_73 : decode cJ5_setLength_d00df 73 = .ok (.putfield 73, 3) := by decide +kernel
theorem dJ5_setLength_d00df_76 : decode cJ5_setLength_d00df 76 = .ok (.aload_n 0, 1) := by decide +kernel
theorem dJ5_setLength_d00df_77 : decode cJ5_setLength_d00df 77 = .ok (.iload_n 1, 1) := by decide +kernel
theorem dJ5_setLength_d00df_78 : decode cJ5_setLength_d00df 78 = .ok (.putfield 79, 3) := by decide +kernel
theorem dJ5_setLength_d00df_81 : decode cJ5_setLength_d00df 81 = .ok (.return_, 1) := by decide +kernel
theorem dJ5_charAt_5068e_0 : decode cJ5_charAt_5068e 0 = .ok (.aload_n 0, 1) := by decide +kernel
theorem dJ5_charAt_5068e_1 : decode cJ5_charAt_5068e 1 = .ok (.getfield 22, 3) := by decide +kernel
theorem dJ5_charAt_5068e_4 : decode cJ5_charAt_5068e 4 = .ok (.istore_n 2, 1) := by decide +kernel
theorem dJ5_charAt_5068e_5 : decode cJ5_charAt_5068e 5 = .ok (.aload_n 0, 1) := by decide +kernel
theorem dJ5_charAt_5068e_6 : decode cJ5_charAt_5068e 6 = .ok (.getfield 15, 3) := by decide +kernel
theorem dJ5_charAt_5068e_9 : decode cJ5_charAt_5068e 9 = .ok (.astore_n 3, 1) := by decide +kernel
theorem dJ5_charAt_5068e_10 : decode cJ5_charAt_5068e 10 = .ok (.aload_n 0, 1) := by decide +kernel
theorem dJ5_charAt_5068e_11 : decode cJ5_charAt_5068e 11 = .ok (.getfield 79, 3) := by decide +kernel
theorem dJ5_charAt_5068e_14 : decode cJ5_charAt_5068e 14 = .ok (.aload_n 3, 1) := by decide +kernel
theorem dJ5_charAt_5068e_15 : decode cJ5_charAt_5068e 15 = .ok (.arraylength, 1) := by decide +kernel
theorem dJ5_charAt_5068e_16 : decode cJ5_charAt_5068e 16 = .ok (.iload_n 2, 1) := by decide +kernel
theorem dJ5_charAt_5068e_17 : decode cJ5_charAt_5068e 17 = .ok (.ishr, 1) := by decide +kernel
theorem dJ5_charAt_5068e_18 : decode cJ5_charAt_5068e 18 = .ok (.invokestatic 138, 3) := by decide +kernel
theorem dJ5_charAt_5068e_21 : decode cJ5_charAt_5068e 21 = .ok (.istore 4, 2) := by decide +kernel
theorem dJ5_charAt_5068e_23 : decode cJ5_charAt_5068e 23 = .ok (.iload_n 1, 1) := by decide +kernel
theorem dJ5_charAt_5068e_24 : decode cJ5_charAt_5068e 24 = .ok (.iload 4, 2) := by decide +kernel
theorem dJ5_charAt_5068e_26 : decode cJ5_charAt_5068e 26 = .ok (.invokestatic 144, 3) := by decide +kernel
theorem dJ5_charAt_5068e_29 : decode cJ5_charAt_5068e 29 = .ok (.iload_n 2, 1) := by decide +kernel
theorem dJ5_charAt_5068e_30 : decode cJ5_charAt_5068e 30 = .ok (.ifCond .ne 12, 3) := by decide +kernel
theorem dJ5_charAt_5068e_33 : decode cJ5_charAt_5068e 33 = .ok (.aload_n 3, 1) := by decide +kernel
theorem dJ5_charAt_5068e_34 : decode cJ5_charAt_5068e 34 = .ok (.iload_n 1, 1) := by decide +kernel
theorem dJ5_charAt_5068e_35 : decode cJ5_charAt_5068e 35 = .ok (.baload, 1) := by decide +kernel
theorem dJ5_charAt_5068e_36 : decode cJ5_charAt_5068e 36 = .ok (.sipush 255, 3) := by decide +kernel
theorem dJ5_charAt_5068e_39 : decode cJ5_charAt_5068e 39 = .ok (.iand, 1) := by decide +kernel
theorem dJ5_charAt_5068e_40 : decode cJ5_charAt_5068e 40 = .ok (.i2c, 1) := by decide +kernel
theorem dJ5_charAt_5068e_41 : decode cJ5_charAt_5068e 41 = .ok (.ireturn, 1) := by decide +kernel
theorem dJ5_charAt_5068e_42 : decode cJ5_charAt_5068e 42 = .ok (.aload_n 3, 1) := by decide +kernel
theorem dJ5_charAt_5068e_43 : decode cJ5_charAt_5068e 43 = .ok (.iload_n 1, 1) := by decide +kernel
theorem dJ5_charAt_5068e_44 : decode cJ5_charAt_5068e 44 = .ok (.invokestatic 148, 3) := by decide +kernel
theorem dJ5_charAt_5068e_47 : decode cJ5_charAt_5068e 47 = .ok (.ireturn, 1) := by decide +kernel
theorem dJ5_append_cf1ce_0 : decode cJ5_append_cf1ce 0 = .ok (.aload_n 1, 1) := by decide +kernel
theorem dJ5_append_cf1ce_1 : decode cJ5_append_cf1ce 1 = .ok (.ifnonnull 8, 3) := by decide +kernel
theorem dJ5_append_cf1ce_4 : decode cJ5_append_cf1ce 4 = .ok (.aload_n 0, 1) := by decide +kernel
theorem dJ5_append_cf1ce_5 : decode cJ5_append_cf1ce 5 = .ok (.invokevirtual 204, 3) := by decide +kernel
theorem dJ5_append_cf1ce_8 : decode cJ5_append_cf1ce 8 = .ok (.areturn, 1) := by decide +kernel
theorem dJ5_append_cf1ce_9 : decode cJ5_append_cf1ce 9 = .ok (.aload_n 1, 1) := by decide +kernel
theorem dJ5_append_cf1ce_10 : decode cJ5_append_cf1ce 10 = .ok (.invokevirtual 32, 3) := by decide +kernel
theorem dJ5_append_cf1ce_13 : decode cJ5_append_cf1ce 13 = .ok (.istore_n 2, 1) := by decide +kernel
theorem dJ5_append_cf1ce_14 : decode cJ5_append_cf1ce 14 = .ok (.aload_n 0, 1) := by decide +kernel
theorem dJ5_append_cf1ce_15 : decode cJ5_append_cf1ce 15 = .ok (.aload_n 0, 1) := by decide +kernel
theorem dJ5_append_cf1ce_16 : decode cJ5_append_cf1ce 16 = .ok (.getfield 79, 3) := by decide +kernel
theorem dJ5_append_cf1ce_19 : decode cJ5_append_cf1ce 19 = .ok (.iload_n 2, 1) := by decide +kernel
theorem dJ5_append_cf1ce_20 : decode cJ5_append_cf1ce 20 = .ok (.iadd, 1) := by decide +kernel
theorem dJ5_append_cf1ce_21 : decode cJ5_append_cf1ce 21 = .ok (.invokevirtual 100, 3) := by decide +kernel
theorem dJ5_append_cf1ce_24 : decode cJ5_append_cf1ce 24 = .ok (.aload_n 0, 1) := by decide +kernel
theorem dJ5_append_cf1ce_25 : decode cJ5_append_cf1ce 25 = .ok (.aload_n 0, 1) := by decide +kernel
theorem dJ5_append_cf1ce_26 : decode cJ5_append_cf1ce 26 = .ok (.getfield 79, 3) := by decide +kernel
theorem dJ5_append_cf1ce_29 : decode cJ5_append_cf1ce 29 = .ok (.aload_n 1, 1) := by decide +kernel
theorem dJ5_append_cf1ce_30 : decode cJ5_append_cf1ce 30 = .ok (.invokevirtual 208, 3) := by decide +kernel
theorem dJ5_append_cf1ce_33 : decode cJ5_append_cf1ce 33 = .ok (.aload_n 0, 1) := by decide +kernel
theorem dJ5_append_cf1ce_34 : decode cJ5_append_cf1ce 34 = .ok (.dup, 1) := by decide +kernel
theorem dJ5_append_cf1ce_35 : decode cJ5_append_cf1ce 35 = .ok (.getfield 79, 3) := by decide +kernel
theorem dJ5_append_cf1ce_38 : decode cJ5_append_cf1ce 38 = .ok (.iload_n 2, 1) := by decide +kernel
theorem dJ5_append_cf1ce_39 : decode cJ5_append_cf1ce 39 = .ok (.iadd, 1) := by decide +kernel
theorem dJ5_append_cf1ce_40 : decode cJ5_append_cf1ce 40 = .ok (.putfield 79, 3) := by decide +kernel
theorem dJ5_append_cf1ce_43 : decode cJ5_append_cf1ce 43 = .ok (.aload_n 0, 1) := by decide +kernel
theorem dJ5_append_cf1ce_44 : decode cJ5_append_cf1ce 44 = .ok (.areturn, 1) := by decide +kernel
theorem dJ5_appendNull_278bc_0 : decode cJ5_appendNull_278bc 0 = .ok (.aload_n 0, 1) := by decide +kernel
theorem dJ5_appendNull_278bc_1 : decode cJ5_appendNull_278bc 1 = .ok (.aload_n 0, 1) := by decide +kernel
theorem dJ5_appendNull_278bc_2 : decode cJ5_appendNull_278bc 2 = .ok (.getfield 79, 3) := by decide +kernel
theorem dJ5_appendNull_278bc_5 : decode cJ5_appendNull_278bc 5 = .ok (.iconst 4, 1) := by decide +kernel
theorem dJ5_appendNull_278bc_6 : decode cJ5_appendNull_278bc 6 = .ok (.iadd, 1) := by decide +kernel
theorem dJ5_appendNull_278bc_7 : decode cJ5_appendNull_278bc 7 = .ok (.invokevirtual 100, 3) := by decide +kernel
theorem dJ5_appendNull_278bc_10 : decode cJ5_appendNull_278bc 10 = .ok (.aload_n 0, 1) := by decide +kernel
theorem dJ5_appendNull_278bc_11 : decode cJ5_appendNull_278bc 11 = .ok (.getfield 79, 3) := by decide +kernel
theorem dJ5_appendNull_278bc_14 : decode cJ5_appendNull_278bc 14 = .ok (.istore_n 1, 1) := by decide +kernel
theorem dJ5_appendNull_278bc_15 : decode cJ5_appendNull_278bc 15 = .ok (.aload_n 0, 1) := by decide +kernel
theorem dJ5_appendNull_278bc_16 : decode cJ5_appendNull_278bc 16 = .ok (.getfield 15, 3) := by decide +kernel
theorem dJ5_appendNull_278bc_19 : decode cJ5_appendNull_278bc 19 = .ok (.astore_n 2, 1) := by decide +kernel
theorem dJ5_appendNull_278bc_20 : decode cJ5_appendNull_278bc 20 = .ok (.aload_n 0, 1) := by decide +kernel
theorem dJ5_appendNull_278bc_21 : decode cJ5_appendNull_278bc 21 = .ok (.invokevirtual 83, 3) := by decide +kernel
theorem dJ5_appendNull_278bc_24 : decode cJ5_appendNull_278bc 24 = .ok (.ifCond .eq 38, 3) := by decide +kernel
theorem dJ5_appendNull_278bc_27 : decode cJ5_appendNull_278bc 27 = .ok (.aload_n 2, 1) := by decide +kernel
theorem dJ5_appendNull_278bc_28 : decode cJ5_appendNull_278bc 28 = .ok (.iload_n 1, 1) := by decide +kernel
theorem dJ5_appendNull_278bc_29 : decode cJ5_appendNull_278bc 29 = .ok (.iinc 1 1, 3) := by decide +kernel
theorem dJ5_appendNull_278bc_32 : decode cJ5_appendNull_278bc 32 = .ok (.bipush 110, 2) := by decide +kernel
theorem dJ5_appendNull_278bc_34 : decode cJ5_appendNull_278bc 34 = .ok (.bastore, 1) := by decide +kernel
theorem dJ5_appendNull_278bc_35 : decode cJ5_appendNull_278bc 35 = .ok (.aload_n 2, 1) := by decide +kernel
theorem dJ5_appendNull_278bc_36 : decode cJ5_appendNull_278bc 36 = .ok (.iload_n 1, 1) := by decide +kernel
theorem dJ5_appendNull_278bc_37 : decode cJ5_appendNull_278bc 37 = .ok (.iinc 1 1, 3) := by decide +kernel
theorem dJ5_appendNull_278bc_40 : decode cJ5_appendNull_278bc 40 = .ok (.bipush 117, 2) := by decide +kernel
theorem dJ5_appendNull_278bc_42 : decode cJ5_appendNull_278bc 42 = .ok (.bastore, 1) := by decide +kernel
theorem dJ5_appendNull_278bc_43 : decode cJ5_appendNull_278bc 43 = .ok (.aload_n 2, 1) := by decide +kernel
theorem dJ5_appendNull_278bc_44 : decode cJ5_appendNull_278bc 44 = .ok (.iload_n 1, 1) := by decide +kernel
theorem dJ5_appendNull_278bc_45 : decode cJ5_appendNull_278bc 45 = .ok (.iinc 1 1, 3) := by decide +kernel
theorem dJ5_appendNull_278bc_48 : decode cJ5_appendNull_278bc 48 = .ok (.bipush 108, 2) := by decide +kernel
theorem dJ5_appendNull_278bc_50 : decode cJ5_appendNull_278bc 50 = .ok (.bastore, 1) := by decide +kernel
theorem dJ5_appendNull_278bc_51 : decode cJ5_appendNull_278bc 51 = .ok (.aload_n 2, 1) := by decide +kernel
theorem dJ5_appendNull_278bc_52 : decode cJ5_appendNull_278bc 52 = .ok (.iload_n 1, 1) := by decide +kernel
theorem dJ5_appendNull_278bc_53 : decode cJ5_appendNull_278bc 53 = .ok (.iinc 1 1, 3) := by decide +kernel
theorem dJ5_appendNull_278bc_56 : decode cJ5_appendNull_278bc 56 = .ok (.bipush 108, 2) := by decide +kernel
theorem dJ5_appendNull_278bc_58 : decode cJ5_appendNull_278bc 58 = .ok (.bastore, 1) := by decide +kernel
theorem dJ5_appendNull_278bc_59 : decode cJ5_appendNull_278bc 59 = .ok (.goto 17, 3) := by decide +kernel
theorem dJ5_appendNull_278bc_62 : decode cJ5_appendNull_278bc 62 = .ok (.aload_n 2, 1) := by decide +kernel
theorem dJ5_appendNull_278bc_63 : decode cJ5_appendNull_278bc 63 = .ok (.iload_n 1, 1) := by decide +kernel
theorem dJ5_appendNull_278bc_64 : decode cJ5_appendNull_278bc 64 = .ok (.bipush 110, 2) := by decide +kernel
theorem dJ5_appendNull_278bc_66 : decode cJ5_appendNull_278bc 66 = .ok (.bipush 117, 2) := by decide +kernel
theorem dJ5_appendNull_278bc_68 : decode cJ5_appendNull_278bc 68 = .ok (.bipush 108, 2) := by decide +kernel
theorem dJ5_appendNull_278bc_70 : decode cJ5_appendNull_278bc 70 = .ok (.bipush 108, 2) := by decide +kernel
theorem dJ5_appendNull_278bc_72 : decode cJ5_appendNull_278bc 72 = .ok (.invokestatic 226, 3) := by decide +kernel
theorem dJ5_appendNull_278bc_75 : decode cJ5_appendNull_278bc 75 = .ok (.istore_n 1, 1) := by decide +kernel
theorem dJ5_appendNull_278bc_76 : decode cJ5_appendNull_278bc 76 = .ok (.aload_n 0, 1) := by decide +kernel
theorem dJ5_appendNull_278bc_77 : decode cJ5_appendNull_278bc 77 = .ok (.iload_n 1, 1) := by decide +kernel
theorem dJ5_appendNull_278bc_78 : decode cJ5_appendNull_278bc 78 = .ok (.putfield 79, 3) := by decide +kernel
theorem dJ5_appendNull_278bc_81 : decode cJ5_appendNull_278bc 81 = .ok (.aload_n 0, 1) := by decide +kernel
theorem dJ5_appendNull_278bc_82 : decode cJ5_appendNull_278bc 82 = .ok (.areturn, 1) := by decide +kernel
theorem dJ5_append_3fe6f_0 : decode cJ5_append_3fe6f 0 = .ok (.aload_n 0, 1) := by decide +kernel
theorem dJ5_append_3fe6f_1 : decode cJ5_append_3fe6f 1 = .ok (.aload_n 0, 1) := by decide +kernel
theorem dJ5_append_3fe6f_2 : decode cJ5_append_3fe6f 2 = .ok (.getfield 79, 3) := by decide +kernel
theorem dJ5_append_3fe6f_5 : decode cJ5_append_3fe6f 5 = .ok (.iconst 1, 1) := by decide +kernel
theorem dJ5_append_3fe6f_6 : decode cJ5_append_3fe6f 6 = .ok (.iadd, 1) := by decide +kernel
theorem dJ5_append_3fe6f_7 : decode cJ5_append_3fe6f 7 = .ok (.invokevirtual 100, 3) := by decide +kernel
theorem dJ5_append_3fe6f_10 : decode cJ5_append_3fe6f 10 = .ok (.aload_n 0, 1) := by decide +kernel
theorem dJ5_append_3fe6f_11 : decode cJ5_append_3fe6f 11 = .ok (.invokevirtual 83, 3) := by decide +kernel
theorem dJ5_append_3fe6f_14 : decode cJ5_append_3fe6f 14 = .ok (.ifCond .eq 31, 3) := by decide +kernel
theorem dJ5_append_3fe6f_17 : decode cJ5_append_3fe6f 17 = .ok (.iload_n 1, 1) := by decide +kernel
theorem dJ5_append_3fe6f_18 : decode cJ5_append_3fe6f 18 = .ok (.invokestatic 191, 3) := by decide +kernel
theorem dJ5_append_3fe6f_21 : decode cJ5_append_3fe6f 21 = .ok (.ifCond .eq 24, 3) := by decide +kernel
theorem dJ5_append_3fe6f_24 : decode cJ5_append_3fe6f 24 = .ok (.aload_n 0, 1) := by decide +kernel
theorem dJ5_append_3fe6f_25 : decode cJ5_append_3fe6f 25 = .ok (.getfield 15, 3) := by decide +kernel
theorem dJ5_append_3fe6f_28 : decode cJ5_append_3fe6f 28 = .ok (.aload_n 0, 1) := by decide +kernel
theorem dJ5_append_3fe6f_29 : decode cJ5_append_3fe6f 29 = .ok (.dup, 1) := by decide +kernel
theorem dJ5_append_3fe6f_30 : decode cJ5_append_3fe6f 30 = .ok (.getfield 79, 3) := by decide +kernel
theorem dJ5_append_3fe6f_33 : decode cJ5_append_3fe6f 33 = .ok (.dup_x1, 1) := by decide +kernel
theorem dJ5_append_3fe6f_34 : decode cJ5_append_3fe6f 34 = .ok (.iconst 1, 1) := by decide +kernel
theorem dJ5_append_3fe6f_35 : decode cJ5_append_3fe6f 35 = .ok (.iadd, 1) := by decide +kernel
theorem dJ5_append_3fe6f_36 : decode cJ5_append_3fe6f 36 = .ok (.putfield 79, 3) := by decide +kernel
theorem dJ5_append_3fe6f_39 : decode cJ5_append_3fe6f 39 = .ok (.iload_n 1, 1) := by decide +kernel
theorem dJ5_append_3fe6f_40 : decode cJ5_append_3fe6f 40 = .ok (.i2b, 1) := by decide +kernel
theorem dJ5_append_3fe6f_41 : decode cJ5_append_3fe6f 41 = .ok (.bastore, 1) := by decide +kernel
theorem dJ5_append_3fe6f_42 : decode cJ5_append_3fe6f 42 = .ok (.goto 33, 3) := by decide +kernel
theorem dJ5_append_3fe6f_45 : decode cJ5_append_3fe6f 45 = .ok (.aload_n 0, 1) := by decide +kernel
theorem dJ5_append_3fe6f_46 : decode cJ5_append_3fe6f 46 = .ok (.invokevirtual 83, 3) := by decide +kernel
theorem dJ5_append_3fe6f_49 : decode cJ5_append_3fe6f 49 = .ok (.ifCond .eq 7, 3) := by decide +kernel
theorem dJ5_append_3fe6f_52 : decode cJ5_append_3fe6f 52 = .ok (.aload_n 0, 1) := by decide +kernel
theorem dJ5_append_3fe6f_53 : decode cJ5_append_3fe6f 53 = .ok (.invokevirtual 195, 3) := by decide +kernel
theorem dJ5_append_3fe6f_56 : decode cJ5_append_3fe6f 56 = .ok (.aload_n 0, 1) := by decide +kernel
theorem dJ5_append_3fe6f_57 : decode cJ5_append_3fe6f 57 = .ok (.getfield 15, 3) := by decide +kernel
theorem dJ5_append_3fe6f_60 : decode cJ5_append_3fe6f 60 = .ok (.aload_n 0, 1) := by decide +kernel
theorem dJ5_append_3fe6f_61 : decode cJ5_append_3fe6f 61 = .ok (.dup, 1) := by decide +kernel
theorem dJ5_append_3fe6f_62 : decode cJ5_append_3fe6f 62 = .ok (.getfield 79, 3) := by decide +kernel
theorem dJ5_append_3fe6f_65 : decode cJ5_append_3fe6f 65 = .ok (.dup_x1, 1) := by decide +kernel
theorem dJ5_append_3fe6f_66 : decode cJ5_append_3fe6f 66 = .ok (.iconst 1, 1) := by decide +kernel
theorem dJ5_append_3fe6f_67 : decode cJ5_append_3fe6f 67 = .ok (.iadd, 1) := by decide +kernel
theorem dJ5_append_3fe6f_68 : decode cJ5_append_3fe6f 68 = .ok (.putfield 79, 3) := by decide +kernel
theorem dJ5_append_3fe6f_71 : decode cJ5_append_3fe6f 71 = .ok (.iload_n 1, 1) := by decide +kernel
theorem dJ5_append_3fe6f_72 : decode cJ5_append_3fe6f 72 = .ok (.invokestatic 197, 3) := by decide +kernel
theorem dJ5_append_3fe6f_75 : decode cJ5_append_3fe6f 75 = .ok (.aload_n 0, 1) := by decide +kernel
theorem dJ5_append_3fe6f_76 : decode cJ5_append_3fe6f 76 = .ok (.areturn, 1) := by decide +kernel
theorem dJ5_append_c97b9_0 : decode cJ5_append_c97b9 0 = .ok (.aload_n 0, 1) := by decide +kernel
theorem dJ5_append_c97b9_1 : decode cJ5_append_c97b9 1 = .ok (.getfield 79, 3) := by decide +kernel
theorem dJ5_append_c97b9_4 : decode cJ5_append_c97b9 4 = .ok (.istore_n 2, 1) := by decide +kernel
theorem dJ5_append_c97b9_5 : decode cJ5_append_c97b9 5 = .ok (.iload_n 2, 1) := by decide +kernel
theorem dJ5_append_c97b9_6 : decode cJ5_append_c97b9 6 = .ok (.iload_n 1, 1) := by decide +kernel
theorem dJ5_append_c97b9_7 : decode cJ5_append_c97b9 7 = .ok (.invokestatic 245, 3) := by decide +kernel
theorem dJ5_append_c97b9_10 : decode cJ5_append_c97b9 10 = .ok (.iadd, 1) := by decide +kernel
theorem dJ5_append_c97b9_11 : decode cJ5_append_c97b9 11 = .ok (.istore_n 3, 1) := by decide +kernel
theorem dJ5_append_c97b9_12 : decode cJ5_append_c97b9 12 = .ok (.aload_n 0, 1) := by decide +kernel
theorem dJ5_append_c97b9_13 : decode cJ5_append_c97b9 13 = .ok (.iload_n 3, 1) := by decide +kernel
theorem dJ5_append_c97b9_14 : decode cJ5_append_c97b9 14 = .ok (.invokevirtual 100, 3) := by decide +kernel
theorem dJ5_append_c97b9_17 : decode cJ5_append_c97b9 17 = .ok (.aload_n 0, 1) := by decide +kernel
theorem dJ5_append_c97b9_18 : decode cJ5_append_c97b9 18 = .ok (.invokevirtual 83, 3) := by decide +kernel
theorem dJ5_append_c97b9_21 : decode cJ5_append_c97b9 21 = .ok (.ifCond .eq 16, 3) := by decide +kernel
theorem dJ5_append_c97b9_24 : decode cJ5_append_c97b9 24 = .ok (.iload_n 1, 1) := by decide +kernel
theorem dJ5_append_c97b9_25 : decode cJ5_append_c97b9 25 = .ok (.iload_n 3, 1) := by decide +kernel
theorem dJ5_append_c97b9_26 : decode cJ5_append_c97b9 26 = .ok (.aload_n 0, 1) := by decide +kernel
theorem dJ5_append_c97b9_27 : decode cJ5_append_c97b9 27 = .ok (.getfield 15, 3) := by decide +kernel
theorem dJ5_append_c97b9_30 : decode cJ5_append_c97b9 30 = .ok (.invokestatic 248, 3) := by decide +kernel
theorem dJ5_append_c97b9_33 : decode cJ5_append_c97b9 33 = .ok (.pop, 1) := by decide +kernel
theorem dJ5_append_c97b9_34 : decode cJ5_append_c97b9 34 = .ok (.goto 14, 3) := by decide +kernel
theorem dJ5_append_c97b9_37 : decode cJ5_append_c97b9 37 = .ok (.iload_n 1, 1) := by decide +kernel
theorem dJ5_append_c97b9_38 : decode cJ5_append_c97b9 38 = .ok (.iload_n 2, 1) := by decide +kernel
theorem dJ5_append_c97b9_39 : decode cJ5_append_c97b9 39 = .ok (.iload_n 3, 1) := by decide +kernel
theorem dJ5_append_c97b9_40 : decode cJ5_append_c97b9 40 = .ok (.aload_n 0, 1) := by decide +kernel
theorem dJ5_append_c97b9_41 : decode cJ5_append_c97b9 41 = .ok (.getfield 15, 3) := by decide +kernel
theorem dJ5_append_c97b9_44 : decode cJ5_append_c97b9 44 = .ok (.invokestatic 251, 3) := by decide +kernel
theorem dJ5_append_c97b9_47 : decode cJ5_append_c97b9 47 = .ok (.pop, 1) := by decide +kernel
theorem dJ5_append_c97b9_48 : decode cJ5_append_c97b9 48 = .ok (.aload_n 0, 1) := by decide +kernel
theorem dJ5_append_c97b9_49 : decode cJ5_append_c97b9 49 = .ok (.iload_n 3, 1) := by decide +kernel
theorem dJ5_append_c97b9_50 : decode cJ5_append_c97b9 50 = .ok (.putfield 79, 3) := by decide +kernel
theorem dJ5_append_c97b9_53 : decode cJ5_append_c97b9 53 = .ok (.aload_n 0, 1) := by decide +kernel
theorem dJ5_append_c97b9_54 : decode cJ5_append_c97b9 54 = .ok (.areturn, 1) := by decide +kernel
theorem dJ5_getValue_6d5f1_0 : decode cJ5_getValue_6d5f1 0 = .ok (.aload_n 0, 1) := by decide +kernel
theorem dJ5_getValue_6d5f1_1 : decode cJ5_getValue_6d5f1 1 = .ok (.getfield 15, 3) := by decide +kernel
theorem dJ5_getValue_6d5f1_4 : decode cJ5_getValue_6d5f1 4 = .ok (.areturn, 1) := by decide +kernel
theorem dJ5_isLatin1_aae02_0 : decode cJ5_isLatin1_aae02 0 = .ok (.getstatic 18, 3) := by decide +kernel
theorem dJ5_isLatin1_aae02_3 : decode cJ5_isLatin1_aae02 3 = .ok (.ifCond .eq 14, 3) := by decide +kernel
theorem dJ5_isLatin1_aae02_6 : decode cJ5_isLatin1_aae02 6 = .ok (.aload_n 0, 1) := by decide +kernel
theorem dJ5_isLatin1_aae02_7 : decode cJ5_isLatin1_aae02 7 = .ok (.getfield 22, 3) := by decide +kernel
theorem dJ5_isLatin1_aae02_10 : decode cJ5_isLatin1_aae02 10 = .ok (.ifCond .ne 7, 3) := by decide +kernel
theorem dJ5_isLatin1_aae02_13 : decode cJ5_isLatin1_aae02 13 = .ok (.iconst 1, 1) := by decide +kernel
theorem dJ5_isLatin1_aae02_14 : decode cJ5_isLatin1_aae02 14 = .ok (.goto 4, 3) := by decide +kernel
theorem dJ5_isLatin1_aae02_17 : decode cJ5_isLatin1_aae02 17 = .ok (.iconst 0, 1) := by decide +kernel
theorem dJ5_isLatin1_aae02_18 : decode cJ5_isLatin1_aae02 18 = .ok (.ireturn, 1) := by decide +kernel
theorem dJ5_inflateIfNeededFor_a7421_0 : decode cJ5_inflateIfNeededFor_a7421 0 = .ok (.getstatic 18, 3) := by decide +kernel
theorem dJ5_inflateIfNeededFor_a7421_3 : decode cJ5_inflateIfNeededFor_a7421 3 = .ok (.ifCond .eq 18, 3) := by decide +kernel
theorem dJ5_inflateIfNeededFor_a7421_6 : decode cJ5_inflateIfNeededFor_a7421 6 = .ok (.aload_n 0, 1) := by decide +kernel
theorem dJ5_inflateIfNeededFor_a7421_7 : decode cJ5_inflateIfNeededFor_a7421 7 = .ok (.getfield 22, 3) := by decide +kernel
theorem dJ5_inflateIfNeededFor_a7421_10 : decode cJ5_inflateIfNeededFor_a7421 10 = .ok (.aload_n 1, 1) := by decide +kernel
theorem dJ5_inflateIfNeededFor_a7421_11 : decode cJ5_inflateIfNeededFor_a7421 11 = .ok (.invokevirtual 40, 3) := by decide +kernel
theorem dJ5_inflateIfNeededFor_a7421_14 : decode cJ5_inflateIfNeededFor_a7421 14 = .ok (.if_icmp .eq 7, 3) := by decide +kernel
theorem dJ5_inflateIfNeededFor_a7421_17 : decode cJ5_inflateIfNeededFor_a7421 17 = .ok (.aload_n 0, 1) := by decide +kernel
theorem dJ5_inflateIfNeededFor_a7421_18 : decode cJ5_inflateIfNeededFor_a7421 18 = .ok (.invokevirtual 195, 3) := by decide +kernel
theorem dJ5_inflateIfNeededFor_a7421_21 : decode cJ5_inflateIfNeededFor_a7421 21 = .ok (.return_, 1) := by decide +kernel
theorem dJ5_putStringAt_47b60_0 : decode cJ5_putStringAt_47b60 0 = .ok (.aload_n 0, 1) := by decide +kernel
theorem dJ5_putStringAt_47b60_1 : decode cJ5_putStringAt_47b60 1 = .ok (.aload_n 2, 1) := by decide +kernel
theorem dJ5_putStringAt_47b60_2 : decode cJ5_putStringAt_47b60 2 = .ok (.invokevirtual 397, 3) := by decide +kernel
theorem dJ5_putStringAt_47b60_5 : decode cJ5_putStringAt_47b60 5 = .ok (.aload_n 2, 1) := by decide +kernel
theorem dJ5_putStringAt_47b60_6 : decode cJ5_putStringAt_47b60 6 = .ok (.aload_n 0, 1) := by decide +kernel
theorem dJ5_putStringAt_47b60_7 : decode cJ5_putStringAt_47b60 7 = .ok (.getfield 15, 3) := by decide +kernel
theorem dJ5_putStringAt_47b60_10 : decode cJ5_putStringAt_47b60 10 = .ok (.iload_n 1, 1) := by decide +kernel
theorem dJ5_putStringAt_47b60_11 : decode cJ5_putStringAt_47b60 11 = .ok (.aload_n 0, 1) := by decide +kernel
theorem dJ5_putStringAt_47b60_12 : decode cJ5_putStringAt_47b60 12 = .ok (.getfield 22, 3) := by decide +kernel
theorem dJ5_putStringAt_47b60_15 : decode cJ5_putStringAt_47b60 15 = .ok (.invokevirtual 399, 3) := by decide +kernel
theorem dJ5_putStringAt_47b60_18 : decode cJ5_putStringAt_47b60 18 = .ok (.return_, 1) := by decide +kernel
theorem dJx00060_init_a7421_0 : decode cJx00060_init_a7421 0 = .ok (.aload_n 0, 1) := by decide +kernel
theorem dJx00060_init_a7421_1 : decode cJx00060_init_a7421 1 = .ok (.aload_n 1, 1) := by decide +kernel
theorem dJx00060_init_a7421_2 : decode cJx00060_init_a7421 2 = .ok (.invokespecial 7, 3) := by decide +kernel
theorem dJx00060_init_a7421_5 : decode cJx00060_init_a7421 5 = .ok (.return_, 1) := by decide +kernel
theorem dJx00060_init_d00df_0 : decode cJx00060_init_d00df 0 = .ok (.aload_n 0, 1) := by decide +kernel
theorem dJx00060_init_d00df_1 : decode cJx00060_init_d00df 1 = .ok (.new 10, 3) := by decide +kernel
theorem dJx00060_init_d00df_4 : decode cJx00060_init_d00df 4 = .ok (.dup, 1) := by decide +kernel
theorem dJx00060_init_d00df_5 : decode cJx00060_init_d00df 5 = .ok (.invokespecial 12, 3) := by decide +kernel
theorem dJx00060_init_d00df_8 : decode cJx00060_init_d00df 8 = .ok (.ldc 13, 2) := by decide +kernel
theorem dJx00060_init_d00df_10 : decode cJx00060_init_d00df 10 = .ok (.invokevirtual 15, 3) := by decide +kernel
theorem dJx00060_init_d00df_13 : decode cJx00060_init_d00df 13 = .ok (.iload_n 1, 1) := by decide +kernel
theorem dJx00060_init_d00df_14 : decode cJx00060_init_d00df 14 = .ok (.invokevirtual 19, 3) := by decide +kernel
theorem dJx00060_init_d00df_17 : decode cJx00060_init_d00df 17 = .ok (.invokevirtual 22, 3) := by decide +kernel
theorem dJx00060_init_d00df_20 : decode cJx00060_init_d00df 20 = .ok (.invokespecial 7, 3) := by decide +kernel
theorem dJx00060_init_d00df_23 : decode cJx00060_init_d00df 23 = .ok (.return_, 1) := by decide +kernel
theorem dJ6_getChars_ba4f3_0 : decode cJ6_getChars_ba4f3 0 = .ok (.iload_n 1, 1) := by decide +kernel
theorem dJ6_getChars_ba4f3_1 : decode cJ6_getChars_ba4f3 1 = .ok (.istore 5, 2) := by decide +kernel
theorem dJ6_getChars_ba4f3_3 : decode cJ6_getChars_ba4f3 3 = .ok (.iload_n 0, 1) := by decide +kernel
theorem dJ6_getChars_ba4f3_4 : decode cJ6_getChars_ba4f3 4 = .ok (.ifCond .ge 7, 3) := by decide +kernel
theorem dJ6_getChars_ba4f3_7 : decode cJ6_getChars_ba4f3 7 = .ok (.iconst 1, 1) := by decide +kernel
theorem dJ6_getChars_ba4f3_8 : decode cJ6_getChars_ba4f3 8 = .ok (.goto 4, 3) := by decide +kernel
theorem dJ6_getChars_ba4f3_11 : decode cJ6_getChars_ba4f3 11 = .ok (.iconst 0, 1) := by decide +kernel
theorem dJ6_getChars_ba4f3_12 : decode cJ6_getChars_ba4f3 12 = .ok (.istore 6, 2) := by decide +kernel
theorem dJ6_getChars_ba4f3_14 : decode cJ6_getChars_ba4f3 14 = .ok (.iload 6, 2) := by decide +kernel
theorem dJ6_getChars_ba4f3_16 : decode cJ6_getChars_ba4f3 16 = .ok (.ifCond .ne 6, 3) := by decide +kernel
theorem dJ6_getChars_ba4f3_19 : decode cJ6_getChars_ba4f3 19 = .ok (.iload_n 0, 1) := by decide +kernel
theorem dJ6_getChars_ba4f3_20 : decode cJ6_getChars_ba4f3 20 = .ok (.ineg, 1) := by decide +kernel
theorem dJ6_getChars_ba4f3_21 : decode cJ6_getChars_ba4f3 21 = .ok (.istore_n 0, 1) := by decide +kernel
theorem dJ6_getChars_ba4f3_22 : decode cJ6_getChars_ba4f3 22 = .ok (.iload_n 0, 1) := by decide +kernel
theorem dJ6_getChars_ba4f3_23 : decode cJ6_getChars_ba4f3 23 = .ok (.bipush (-100), 2) := by decide +kernel
theorem dJ6_getChars_ba4f3_25 : decode cJ6_getChars_ba4f3 25 = .ok (.if_icmp .gt 47, 3) := by decide +kernel
theorem dJ6_getChars_ba4f3_28 : decode cJ6_getChars_ba4f3 28 = .ok (.iload_n 0, 1) := by decide +kernel
theorem dJ6_getChars_ba4f3_29 : decode cJ6_getChars_ba4f3 29 = .ok (.bipush 100, 2) := by decide +kernel
theorem dJ6_getChars_ba4f3_31 : decode cJ6_getChars_ba4f3 31 = .ok (.idiv, 1) := by decide +kernel
theorem dJ6_getChars_ba4f3_32 : decode cJ6_getChars_ba4f3 32 = .ok (.istore_n 3, 1) := by decide +kernel
theorem dJ6_getChars_ba4f3_33 : decode cJ6_getChars_ba4f3 33 = .ok (.iload_n 3, 1) := by decide +kernel
theorem dJ6_getChars_ba4f3_34 : decode cJ6_getChars_ba4f3 34 = .ok (.bipush 100, 2) := by decide +kernel
theorem dJ6_getChars_ba4f3_36 : decode cJ6_getChars_ba4f3 36 = .ok (.imul, 1) := by decide +kernel
theorem dJ6_getChars_ba4f3_37 : decode cJ6_getChars_ba4f3 37 = .ok (.iload_n 0, 1) := by decide +kernel
theorem dJ6_getChars_ba4f3_38 : decode cJ6_getChars_ba4f3 38 = .ok (.isub, 1) := by decide +kernel
theorem dJ6_getChars_ba4f3_39 : decode cJ6_getChars_ba4f3 39 = .ok (.istore 4, 2) := by decide +kernel
theorem dJ6_getChars_ba4f3_41 : decode cJ6_getChars_ba4f3 41 = .ok (.iload_n 3, 1) := by decide +kernel
theorem dJ6_getChars_ba4f3_42 : decode cJ6_getChars_ba4f3 42 = .ok (.istore_n 0, 1) := by decide +kernel
theorem dJ6_getChars_ba4f3_43 : decode cJ6_getChars_ba4f3 43 = .ok (.aload_n 2, 1) := by decide +kernel
theorem dJ6_getChars_ba4f3_44 : decode cJ6_getChars_ba4f3 44 = .ok (.iinc 5 (-1), 3) := by decide +kernel
theorem dJ6_getChars_ba4f3_47 : decode cJ6_getChars_ba4f3 47 = .ok (.iload 5, 2) := by decide +kernel
theorem dJ6_getChars_ba4f3_49 : decode cJ6_getChars_ba4f3 49 = .ok (.getstatic 83, 3) := by decide +kernel
theorem dJ6_getChars_ba4f3_52 : decode cJ6_getChars_ba4f3 52 = .ok (.iload 4, 2) := by decide +kernel
theorem dJ6_getChars_ba4f3_54 : decode cJ6_getChars_ba4f3 54 = .ok (.baload, 1) := by decide +kernel
theorem dJ6_getChars_ba4f3_55 : decode cJ6_getChars_ba4f3 55 = .ok (.bastore, 1) := by decide +kernel
theorem dJ6_getChars_ba4f3_56 : decode cJ6_getChars_ba4f3 56 = .ok (.aload_n 2, 1) := by decide +kernel
theorem dJ6_getChars_ba4f3_57 : decode cJ6_getChars_ba4f3 57 = .ok (.iinc 5 (-1), 3) := by decide +kernel
theorem dJ6_getChars_ba4f3_60 : decode cJ6_getChars_ba4f3 60 = .ok (.iload 5, 2) := by decide +kernel
theorem dJ6_getChars_ba4f3_62 : decode cJ6_getChars_ba4f3 62 = .ok (.getstatic 87, 3) := by decide +kernel
theorem dJ6_getChars_ba4f3_65 : decode cJ6_getChars_ba4f3 65 = .ok (.iload 4, 2) := by decide +kernel
theorem dJ6_getChars_ba4f3_67 : decode cJ6_getChars_ba4f3 67 = .ok (.baload, 1) := by decide +kernel
theorem dJ6_getChars_ba4f3_68 : decode cJ6_getChars_ba4f3 68 = .ok (.bastore, 1) := by decide +kernel
theorem dJ6_getChars_ba4f3_69 : decode cJ6_getChars_ba4f3 69 = .ok (.goto (-47), 3) := by decide +kernel
theorem dJ6_getChars_ba4f3_72 : decode cJ6_getChars_ba4f3 72 = .ok (.aload_n 2, 1) := by decide +kernel
theorem dJ6_getChars_ba4f3_73 : decode cJ6_getChars_ba4f3 73 = .ok (.iinc 5 (-1), 3) := by decide +kernel
theorem dJ6_getChars_ba4f3_76 : decode cJ6_getChars_ba4f3 76 = .ok (.iload 5, 2) := by decide +kernel
theorem dJ6_getChars_ba4f3_78 : decode cJ6_getChars_ba4f3 78 = .ok (.getstatic 83, 3) := by decide +kernel
theorem dJ6_getChars_ba4f3_81 : decode cJ6_getChars_ba4f3 81 = .ok (.iload_n 0, 1) := by decide +kernel
theorem dJ6_getChars_ba4f3_82 : decode cJ6_getChars_ba4f3 82 = .ok (.ineg, 1) := by decide +kernel
theorem dJ6_getChars_ba4f3_83 : decode cJ6_getChars_ba4f3 83 = .ok (.baload, 1) := by decide +kernel
theorem dJ6_getChars_ba4f3_84 : decode cJ6_getChars_ba4f3 84 = .ok (.bastore, 1) := by decide +kernel
theorem dJ6_getChars_ba4f3_85 : decode cJ6_getChars_ba4f3 85 = .ok (.iload_n 0, 1) := by decide +kernel
theorem dJ6_getChars_ba4f3_86 : decode cJ6_getChars_ba4f3 86 = .ok (.bipush (-9), 2) := by decide +kernel
theorem dJ6_getChars_ba4f3_88 : decode cJ6_getChars_ba4f3 88 = .ok (.if_icmp .ge 16, 3) := by decide +kernel
theorem dJ6_getChars_ba4f3_91 : decode cJ6_getChars_ba4f3 91 = .ok (.aload_n 2, 1) := by decide +kernel
theorem dJ6_getChars_ba4f3_92 : decode cJ6_getChars_ba4f3 92 = .ok (.iinc 5 (-1), 3) := by decide +kernel
theorem dJ6_getChars_ba4f3_95 : decode cJ6_getChars_ba4f3 95 = .ok (.iload 5, 2) := by decide +kernel
theorem dJ6_getChars_ba4f3_97 : decode cJ6_getChars_ba4f3 97 = .ok (.getstatic 87, 3) := by decide +kernel
theorem dJ6_getChars_ba4f3_100 : decode cJ6_getChars_ba4f3 100 = .ok (.iload_n 0, 1) := by decide +kernel
theorem dJ6_getChars_ba4f3_101 : decode cJ6_getChars_ba4f3 101 = .ok (.ineg, 1) := by decide +kernel
theorem dJ6_getChars_ba4f3_102 : decode cJ6_getChars_ba4f3 102 = .ok (.baload, 1) := by decide +kernel
theorem dJ6_getChars_ba4f3_103 : decode cJ6_getChars_ba4f3 103 = .ok (.bastore, 1) := by decide +kernel
theorem dJ6_getChars_ba4f3_104 : decode cJ6_getChars_ba4f3 104 = .ok (.iload 6, 2) := by decide +kernel
theorem dJ6_getChars_ba4f3_106 : decode cJ6_getChars_ba4f3 106 = .ok (.ifCond .eq 12, 3) := by decide +kernel
theorem dJ6_getChars_ba4f3_109 : decode cJ6_getChars_ba4f3 109 = .ok (.aload_n 2, 1) := by decide +kernel
theorem dJ6_getChars_ba4f3_110 : decode cJ6_getChars_ba4f3 110 = .ok (.iinc 5 (-1), 3) := by decide +kernel
theorem dJ6_getChars_ba4f3_113 : decode cJ6_getChars_ba4f3 113 = .ok (.iload 5, 2) := by decide +kernel
theorem dJ6_getChars_ba4f3_115 : decode cJ6_getChars_ba4f3 115 = .ok (.bipush 45, 2) := by decide +kernel
theorem dJ6_getChars_ba4f3_117 : decode cJ6_getChars_ba4f3 117 = .ok (.bastore, 1) := by decide +kernel
theorem dJ6_getChars_ba4f3_118 : decode cJ6_getChars_ba4f3 118 = .ok (.iload 5, 2) := by decide +kernel
theorem dJ6_getChars_ba4f3_120 : decode cJ6_getChars_ba4f3 120 = .ok (.ireturn, 1) := by decide +kernel
theorem dJ6_stringSize_0f7a4_0 : decode cJ6_stringSize_0f7a4 0 = .ok (.iconst 1, 1) := by decide +kernel
theorem dJ6_stringSize_0f7a4_1 : decode cJ6_stringSize_0f7a4 1 = .ok (.istore_n 1, 1) := by decide +kernel
theorem dJ6_stringSize_0f7a4_2 : decode cJ6_stringSize_0f7a4 2 = .ok (.iload_n 0, 1) := by decide +kernel
theorem dJ6_stringSize_0f7a4_3 : decode cJ6_stringSize_0f7a4 3 = .ok (.ifCond .lt 8, 3) := by decide +kernel
theorem dJ6_stringSize_0f7a4_6 : decode cJ6_stringSize_0f7a4 6 = .ok (.iconst 0, 1) := by decide +kernel
theorem dJ6_stringSize_0f7a4_7 : decode cJ6_stringSize_0f7a4 7 = .ok (.istore_n 1, 1) := by decide +kernel
theorem dJ6_stringSize_0f7a4_8 : decode cJ6_stringSize_0f7a4 8 = .ok (.iload_n 0, 1) := by decide +kernel
theorem dJ6_stringSize_0f7a4_9 : decode cJ6_stringSize_0f7a4 9 = .ok (.ineg, 1) := by decide +kernel
theorem dJ6_stringSize_0f7a4_10 : decode cJ6_stringSize_0f7a4 10 = .ok (.istore_n 0, 1) := by decide +kernel
theorem dJ6_stringSize_0f7a4_11 : decode cJ6_stringSize_0f7a4 11 = .ok (.bipush (-10), 2) := by decide +kernel
theorem dJ6_stringSize_0f7a4_13 : decode cJ6_stringSize_0f7a4 13 = .ok (.istore_n 2, 1) := by decide +kernel
theorem dJ6_stringSize_0f7a4_14 : decode cJ6_stringSize_0f7a4 14 = .ok (.iconst 1, 1) := by decide +kernel
theorem dJ6_stringSize_0f7a4_15 : decode cJ6_stringSize_0f7a4 15 = .ok (.istore_n 3, 1) := by decide +kernel
theorem dJ6_stringSize_0f7a4_16 : decode cJ6_stringSize_0f7a4 16 = .ok (.iload_n 3, 1) := by decide +kernel
theorem dJ6_stringSize_0f7a4_17 : decode cJ6_stringSize_0f7a4 17 = .ok (.bipush 10, 2) := by decide +kernel
theorem dJ6_stringSize_0f7a4_19 : decode cJ6_stringSize_0f7a4 19 = .ok (.if_icmp .ge 23, 3) := by decide +kernel
theorem dJ6_stringSize_0f7a4_22 : decode cJ6_stringSize_0f7a4 22 = .ok (.iload_n 0, 1) := by decide +kernel
theorem dJ6_stringSize_0f7a4_23 : decode cJ6_stringSize_0f7a4 23 = .ok (.iload_n 2, 1) := by decide +kernel
theorem dJ6_stringSize_0f7a4_24 : decode cJ6_stringSize_0f7a4 24 = .ok (.if_icmp .le 7, 3) := by decide +kernel
theorem dJ6_stringSize_0f7a4_27 : decode cJ6_stringSize_0f7a4 27 = .ok (.iload_n 3, 1) := by decide +kernel
theorem dJ6_stringSize_0f7a4_28 : decode cJ6_stringSize_0f7a4 28 = .ok (.iload_n 1, 1) := by decide +kernel
theorem dJ6_stringSize_0f7a4_29 : decode cJ6_stringSize_0f7a4 29 = .ok (.iadd, 1) := by decide +kernel
theorem dJ6_stringSize_0f7a4_30 : decode cJ6_stringSize_0f7a4 30 = .ok (.ireturn, 1) := by decide +kernel
theorem dJ6_stringSize_0f7a4_31 : decode cJ6_stringSize_0f7a4 31 = .ok (.bipush 10, 2) := by decide +kernel
theorem dJ6_stringSize_0f7a4_33 : decode cJ6_stringSize_0f7a4 33 = .ok (.iload_n 2, 1) := by decide +kernel
theorem dJ6_stringSize_0f7a4_34 : decode cJ6_stringSize_0f7a4 34 = .ok (.imul, 1) := by decide +kernel
theorem dJ6_stringSize_0f7a4_35 : decode cJ6_stringSize_0f7a4 35 = .ok (.istore_n 2, 1) := by decide +kernel
theorem dJ6_stringSize_0f7a4_36 : decode cJ6_stringSize_0f7a4 36 = .ok (.iinc 3 1, 3) := by decide +kernel
theorem dJ6_stringSize_0f7a4_39 : decode cJ6_stringSize_0f7a4 39 = .ok (.goto (-23), 3) := by decide +kernel
theorem dJ6_stringSize_0f7a4_42 : decode cJ6_stringSize_0f7a4 42 = .ok (.bipush 10, 2) := by decide +kernel
theorem dJ6_stringSize_0f7a4_44 : decode cJ6_stringSize_0f7a4 44 = .ok (.iload_n 1, 1) := by decide +kernel
theorem dJ6_stringSize_0f7a4_45 : decode cJ6_stringSize_0f7a4 45 = .ok (.iadd, 1) := by decide +kernel
theorem dJ6_stringSize_0f7a4_46 : decode cJ6_stringSize_0f7a4 46 = .ok (.ireturn, 1) := by decide +kernel
theorem dJ9_floorMod_7cf53_0 : decode cJ9_floorMod_7cf53 0 = .ok (.iload_n 0, 1) := by decide +kernel
theorem dJ9_floorMod_7cf53_1 : decode cJ9_floorMod_7cf53 1 = .ok (.iload_n 1, 1) := by decide +kernel
theorem dJ9_floorMod_7cf53_2 : decode cJ9_floorMod_7cf53 2 = .ok (.irem, 1) := by decide +kernel
theorem dJ9_floorMod_7cf53_3 : decode cJ9_floorMod_7cf53 3 = .ok (.istore_n 2, 1) := by decide +kernel
theorem dJ9_floorMod_7cf53_4 : decode cJ9_floorMod_7cf53 4 = .ok (.iload_n 0, 1) := by decide +kernel
theorem dJ9_floorMod_7cf53_5 : decode cJ9_floorMod_7cf53 5 = .ok (.iload_n 1, 1) := by decide +kernel
theorem dJ9_floorMod_7cf53_6 : decode cJ9_floorMod_7cf53 6 = .ok (.ixor, 1) := by decide +kernel
theorem dJ9_floorMod_7cf53_7 : decode cJ9_floorMod_7cf53 7 = .ok (.ifCond .ge 11, 3) := by decide +kernel
theorem dJ9_floorMod_7cf53_10 : decode cJ9_floorMod_7cf53 10 = .ok (.iload_n 2, 1) := by decide +kernel
theorem dJ9_floorMod_7cf53_11 : decode cJ9_floorMod_7cf53 11 = .ok (.ifCond .eq 7, 3) := by decide +kernel
theorem dJ9_floorMod_7cf53_14 : decode cJ9_floorMod_7cf53 14 = .ok (.iload_n 2, 1) := by decide +kernel
theorem dJ9_floorMod_7cf53_15 : decode cJ9_floorMod_7cf53 15 = .ok (.iload_n 1, 1) := by decide +kernel
theorem dJ9_floorMod_7cf53_16 : decode cJ9_floorMod_7cf53 16 = .ok (.iadd, 1) := by decide +kernel
theorem dJ9_floorMod_7cf53_17 : decode cJ9_floorMod_7cf53 17 = .ok (.ireturn, 1) := by decide +kernel
theorem dJ9_floorMod_7cf53_18 : decode cJ9_floorMod_7cf53 18 = .ok (.iload_n 2, 1) := by decide +kernel
theorem dJ9_floorMod_7cf53_19 : decode cJ9_floorMod_7cf53 19 = .ok (.ireturn, 1) := by decide +kernel
theorem dJ9_abs_0f7a4_0 : decode cJ9_abs_0f7a4 0 = .ok (.iload_n 0, 1) := by decide +kernel
theorem dJ9_abs_0f7a4_1 : decode cJ9_abs_0f7a4 1 = .ok (.ifCond .ge 8, 3) := by decide +kernel
theorem dJ9_abs_0f7a4_4 : decode cJ9_abs_0f7a4 4 = .ok (.iload_n 0, 1) := by decide +kernel
theorem dJ9_abs_0f7a4_5 : decode cJ9_abs_0f7a4 5 = .ok (.ineg, 1) := by decide +kernel
theorem dJ9_abs_0f7a4_6 : decode cJ9_abs_0f7a4 6 = .ok (.goto 4, 3) := by decide +kernel
theorem dJ9_abs_0f7a4_9 : decode cJ9_abs_0f7a4 9 = .ok (.iload_n 0, 1) := by decide +kernel
theorem dJ9_abs_0f7a4_10 : decode cJ9_abs_0f7a4 10 = .ok (.ireturn, 1) := by decide +kernel
theorem dJ9_max_7cf53_0 : decode cJ9_max_7cf53 0 = .ok (.iload_n 0, 1) := by decide +kernel
theorem dJ9_max_7cf53_1 : decode cJ9_max_7cf53 1 = .ok (.iload_n 1, 1) := by decide +kernel
theorem dJ9_max_7cf53_2 : decode cJ9_max_7cf53 2 = .ok (.if_icmp .lt 7, 3) := by decide +kernel
theorem dJ9_max_7cf53_5 : decode cJ9_max_7cf53 5 = .ok (.iload_n 0, 1) := by decide +kernel
theorem dJ9_max_7cf53_6 : decode cJ9_max_7cf53 6 = .ok (.goto 4, 3) := by decide +kernel
theorem dJ9_max_7cf53_9 : decode cJ9_max_7cf53 9 = .ok (.iload_n 1, 1) := by decide +kernel
theorem dJ9_max_7cf53_10 : decode cJ9_max_7cf53 10 = .ok (.ireturn, 1) := by decide +kernel
theorem dJ9_min_7cf53_0 : decode cJ9_min_7cf53 0 = .ok (.iload_n 0, 1) := by decide +kernel
theorem dJ9_min_7cf53_1 : decode cJ9_min_7cf53 1 = .ok (.iload_n 1, 1) := by decide +kernel
theorem dJ9_min_7cf53_2 : decode cJ9_min_7cf53 2 = .ok (.if_icmp .gt 7, 3) := by decide +kernel
theorem dJ9_min_7cf53_5 : decode cJ9_min_7cf53 5 = .ok (.iload_n 0, 1) := by decide +kernel
theorem dJ9_min_7cf53_6 : decode cJ9_min_7cf53 6 = .ok (.goto 4, 3) := by decide +kernel
theorem dJ9_min_7cf53_9 : decode cJ9_min_7cf53 9 = .ok (.iload_n 1, 1) := by decide +kernel
theorem dJ9_min_7cf53_10 : decode cJ9_min_7cf53 10 = .ok (.ireturn, 1) := by decide +kernel
theorem dJ0_init_81219_0 : decode cJ0_init_81219 0 = .ok (.aload_n 0, 1) := by decide +kernel
theorem dJ0_init_81219_1 : decode cJ0_init_81219 1 = .ok (.aload_n 1, 1) := by decide +kernel
theorem dJ0_init_81219_2 : decode cJ0_init_81219 2 = .ok (.aconst_null, 1) := by decide +kernel
theorem dJ0_init_81219_3 : decode cJ0_init_81219 3 = .ok (.invokespecial 489, 3) := by decide +kernel
theorem dJ0_init_81219_6 : decode cJ0_init_81219 6 = .ok (.return_, 1) := by decide +kernel
theorem dJ0_length_8abf5_0 : decode cJ0_length_8abf5 0 = .ok (.aload_n 0, 1) := by decide +kernel
theorem dJ0_length_8abf5_1 : decode cJ0_length_8abf5 1 = .ok (.getfield 9, 3) := by decide +kernel
theorem dJ0_length_8abf5_4 : decode cJ0_length_8abf5 4 = .ok (.arraylength, 1) := by decide +kernel
theorem dJ0_length_8abf5_5 : decode cJ0_length_8abf5 5 = .ok (.aload_n 0, 1) := by decide +kernel
theorem dJ0_length_8abf5_6 : decode cJ0_length_8abf5 6 = .ok (.invokevirtual 335, 3) := by decide +kernel
theorem dJ0_length_8abf5_9 : decode cJ0_length_8abf5 9 = .ok (.ishr, 1) := by decide +kernel
theorem dJ0_length_8abf5_10 : decode cJ0_length_8abf5 10 = .ok (.ireturn, 1) := by decide +kernel
theorem dJ0_charAt_5068e_0 : decode cJ0_charAt_5068e 0 = .ok (.aload_n 0, 1) := by decide +kernel
theorem dJ0_charAt_5068e_1 : decode cJ0_charAt_5068e 1 = .ok (.invokevirtual 492, 3) := by decide +kernel
theorem dJ0_charAt_5068e_4 : decode cJ0_charAt_5068e 4 = .ok (.ifCond .eq 12, 3) := by decide +kernel
theorem dJ0_charAt_5068e_7 : decode cJ0_charAt_5068e 7 = .ok (.aload_n 0, 1) := by decide +kernel
theorem dJ0_charAt_5068e_8 : decode cJ0_charAt_5068e 8 = .ok (.getfield 9, 3) := by decide +kernel
theorem dJ0_charAt_5068e_11 : decode cJ0_charAt_5068e 11 = .ok (.iload_n 1, 1) := by decide +kernel
theorem dJ0_charAt_5068e_12 : decode cJ0_charAt_5068e 12 = .ok (.invokestatic 495, 3) := by decide +kernel
theorem dJ0_charAt_5068e_15 : decode cJ0_charAt_5068e 15 = .ok (.ireturn, 1) := by decide +kernel
theorem dJ0_charAt_5068e_16 : decode cJ0_charAt_5068e 16 = .ok (.aload_n 0, 1) := by decide +kernel
theorem dJ0_charAt_5068e_17 : decode cJ0_charAt_5068e 17 = .ok (.getfield 9, 3) := by decide +kernel
theorem dJ0_charAt_5068e_20 : decode cJ0_charAt_5068e 20 = .ok (.iload_n 1, 1) := by decide +kernel
theorem dJ0_charAt_5068e_21 : decode cJ0_charAt_5068e 21 = .ok (.invokestatic 498, 3) := by decide +kernel
theorem dJ0_charAt_5068e_24 : decode cJ0_charAt_5068e 24 = .ok (.ireturn, 1) := by decide +kernel
theorem dJ0_getBytes_840e7_0 : decode cJ0_getBytes_840e7 0 = .ok (.aload_n 0, 1) := by decide +kernel
theorem dJ0_getBytes_840e7_1 : decode cJ0_getBytes_840e7 1 = .ok (.invokevirtual 335, 3) := by decide +kernel
theorem dJ0_getBytes_840e7_4 : decode cJ0_getBytes_840e7 4 = .ok (.iload_n 3, 1) := by decide +kernel
theorem dJ0_getBytes_840e7_5 : decode cJ0_getBytes_840e7 5 = .ok (.if_icmp .ne 23, 3) := by decide +kernel
theorem dJ0_getBytes_840e7_8 : decode cJ0_getBytes_840e7 8 = .ok (.aload_n 0, 1) := by decide +kernel
theorem dJ0_getBytes_840e7_9 : decode cJ0_getBytes_840e7 9 = .ok (.getfield 9, 3) := by decide +kernel
theorem dJ0_getBytes_840e7_12 : decode cJ0_getBytes_840e7 12 = .ok (.iconst 0, 1) := by decide +kernel
theorem dJ0_getBytes_840e7_13 : decode cJ0_getBytes_840e7 13 = .ok (.aload_n 1, 1) := by decide +kernel
theorem dJ0_getBytes_840e7_14 : decode cJ0_getBytes_840e7 14 = .ok (.iload_n 2, 1) := by decide +kernel
theorem dJ0_getBytes_840e7_15 : decode cJ0_getBytes_840e7 15 = .ok (.iload_n 3, 1) := by decide +kernel
theorem dJ0_getBytes_840e7_16 : decode cJ0_getBytes_840e7 16 = .ok (.ishl, 1) := by decide +kernel
theorem dJ0_getBytes_840e7_17 : decode cJ0_getBytes_840e7 17 = .ok (.aload_n 0, 1) := by decide +kernel
theorem dJ0_getBytes_840e7_18 : decode cJ0_getBytes_840e7 18 = .ok (.getfield 9, 3) := by decide +kernel
theorem dJ0_getBytes_840e7_21 : decode cJ0_getBytes_840e7 21 = .ok (.arraylength, 1) := by decide +kernel
theorem dJ0_getBytes_840e7_22 : decode cJ0_getBytes_840e7 22 = .ok (.invokestatic 212, 3) := by decide +kernel
theorem dJ0_getBytes_840e7_25 : decode cJ0_getBytes_840e7 25 = .ok (.goto 18, 3) := by decide +kernel
theorem dJ0_getBytes_840e7_28 : decode cJ0_getBytes_840e7 28 = .ok (.aload_n 0, 1) := by decide +kernel
theorem dJ0_getBytes_840e7_29 : decode cJ0_getBytes_840e7 29 = .ok (.getfield 9, 3) := by decide +kernel
theorem dJ0_getBytes_840e7_32 : decode cJ0_getBytes_840e7 32 = .ok (.iconst 0, 1) := by decide +kernel
theorem dJ0_getBytes_840e7_33 : decode cJ0_getBytes_840e7 33 = .ok (.aload_n 1, 1) := by decide +kernel
theorem dJ0_getBytes_840e7_34 : decode cJ0_getBytes_840e7 34 = .ok (.iload_n 2, 1) := by decide +kernel
theorem dJ0_getBytes_840e7_35 : decode cJ0_getBytes_840e7 35 = .ok (.aload_n 0, 1) := by decide +kernel
theorem dJ0_getBytes_840e7_36 : decode cJ0_getBytes_840e7 36 = .ok (.getfield 9, 3) := by decide +kernel
theorem dJ0_getBytes_840e7_39 : decode cJ0_getBytes_840e7 39 = .ok (.arraylength, 1) := by decide +kernel
theorem dJ0_getBytes_840e7_40 : decode cJ0_getBytes_840e7 40 = .ok (.invokestatic 106, 3) := by decide +kernel
theorem dJ0_getBytes_840e7_43 : decode cJ0_getBytes_840e7 43 = .ok (.return_, 1) := by decide +kernel
theorem dJ0_init_db425_0 : decode cJ0_init_db425 0 = .ok (.aload_n 0, 1) := by decide +kernel
theorem dJ0_init_db425_1 : decode cJ0_init_db425 1 = .ok (.invokespecial 1, 3) := by decide +kernel
theorem dJ0_init_db425_4 : decode cJ0_init_db425 4 = .ok (.aload_n 1, 1) := by decide +kernel
theorem dJ0_init_db425_5 : decode cJ0_init_db425 5 = .ok (.invokevirtual 552, 3) := by decide +kernel
theorem dJ0_init_db425_8 : decode cJ0_init_db425 8 = .ok (.astore_n 3, 1) := by decide +kernel
theorem dJ0_init_db425_9 : decode cJ0_init_db425 9 = .ok (.aload_n 1, 1) := by decide +kernel
theorem dJ0_init_db425_10 : decode cJ0_init_db425 10 = .ok (.invokevirtual 549, 3) := by decide +kernel
theorem dJ0_init_db425_13 : decode cJ0_init_db425 13 = .ok (.istore 4, 2) := by decide +kernel
theorem dJ0_init_db425_15 : decode cJ0_init_db425 15 = .ok (.aload_n 1, 1) := by decide +kernel
theorem dJ0_init_db425_16 : decode cJ0_init_db425 16 = .ok (.invokevirtual 1047, 3) := by decide +kernel
theorem dJ0_init_db425_19 : decode cJ0_init_db425 19 = .ok (.ifCond .eq 22, 3) := by decide +kernel
theorem dJ0_init_db425_22 : decode cJ0_init_db425 22 = .ok (.aload_n 0, 1) := by decide +kernel
theorem dJ0_init_db425_23 : decode cJ0_init_db425 23 = .ok (.iconst 0, 1) := by decide +kernel
theorem dJ0_init_db425_24 : decode cJ0_init_db425 24 = .ok (.putfield 15, 3) := by decide +kernel
theorem dJ0_init_db425_27 : decode cJ0_init_db425 27 = .ok (.aload_n 0, 1) := by decide +kernel
theorem dJ0_init_db425_28 : decode cJ0_init_db425 28 = .ok (.aload_n 3, 1) := by decide +kernel
theorem dJ0_init_db425_29 : decode cJ0_init_db425 29 = .ok (.iconst 0, 1) := by decide +kernel
theorem dJ0_init_db425_30 : decode cJ0_init_db425 30 = .ok (.iload 4, 2) := by decide +kernel
theorem dJ0_init_db425_32 : decode cJ0_init_db425 32 = .ok (.invokestatic 54, 3) := by decide +kernel
theorem dJ0_init_db425_35 : decode cJ0_init_db425 35 = .ok (.putfield 9, 3) := by decide +kernel
theorem dJ0_init_db425_38 : decode cJ0_init_db425 38 = .ok (.goto 59, 3) := by decide +kernel
theorem dJ0_init_db425_41 : decode cJ0_init_db425 41 = .ok (.getstatic 38, 3) := by decide +kernel
theorem dJ0_init_db425_44 : decode cJ0_init_db425 44 = .ok (.ifCond .eq 35, 3) := by decide +kernel
theorem dJ0_init_db425_47 : decode cJ0_init_db425 47 = .ok (.aload_n 1, 1) := by decide +kernel
theorem dJ0_init_db425_48 : decode cJ0_init_db425 48 = .ok (.getfield 1048, 3) := by decide +kernel
theorem dJ0_init_db425_51 : decode cJ0_init_db425 51 = .ok (.ifCond .eq 28, 3) := by decide +kernel
theorem dJ0_init_db425_54 : decode cJ0_init_db425 54 = .ok (.aload_n 0, 1) := by decide +kernel
theorem dJ0_init_db425_55 : decode cJ0_init_db425 55 = .ok (.aload_n 3, 1) := by decide +kernel
theorem dJ0_init_db425_56 : decode cJ0_init_db425 56 = .ok (.iconst 0, 1) := by decide +kernel
theorem dJ0_init_db425_57 : decode cJ0_init_db425 57 = .ok (.iload 4, 2) := by decide +kernel
theorem dJ0_init_db425_59 : decode cJ0_init_db425 59 = .ok (.invokestatic 1051, 3) := by decide +kernel
theorem dJ0_init_db425_62 : decode cJ0_init_db425 62 = .ok (.putfield 9, 3) := by decide +kernel
theorem dJ0_init_db425_65 : decode cJ0_init_db425 65 = .ok (.aload_n 0, 1) := by decide +kernel
theorem dJ0_init_db425_66 : decode cJ0_init_db425 66 = .ok (.aload_n 0, 1) := by decide +kernel
theorem dJ0_init_db425_67 : decode cJ0_init_db425 67 = .ok (.getfield 9, 3) := by decide +kernel
theorem dJ0_init_db425_70 : decode cJ0_init_db425 70 = .ok (.iload 4, 2) := by decide +kernel
theorem dJ0_init_db425_72 : decode cJ0_init_db425 72 = .ok (.invokestatic 47, 3) := by decide +kernel
theorem dJ0_init_db425_75 : decode cJ0_init_db425 75 = .ok (.putfield 15, 3) := by decide +kernel
theorem dJ0_init_db425_78 : decode cJ0_init_db425 78 = .ok (.return_, 1) := by decide +kernel
theorem dJ0_init_db425_79 : decode cJ0_init_db425 79 = .ok (.aload_n 0, 1) := by decide +kernel
theorem dJ0_init_db425_80 : decode cJ0_init_db425 80 = .ok (.iconst 1, 1) := by decide +kernel
theorem dJ0_init_db425_81 : decode cJ0_init_db425 81 = .ok (.putfield 15, 3) := by decide +kernel
theorem dJ0_init_db425_84 : decode cJ0_init_db425 84 = .ok (.aload_n 0, 1) := by decide +kernel
theorem dJ0_init_db425_85 : decode cJ0_init_db425 85 = .ok (.aload_n 3, 1) := by decide +kernel
theorem dJ0_init_db425_86 : decode cJ0_init_db425 86 = .ok (.iconst 0, 1) := by decide +kernel
theorem dJ0_init_db425_87 : decode cJ0_init_db425 87 = .ok (.iload 4, 2) := by decide +kernel
theorem dJ0_init_db425_89 : decode cJ0_init_db425 89 = .ok (.iconst 1, 1) := by decide +kernel
theorem dJ0_init_db425_90 : decode cJ0_init_db425 90 = .ok (.ishl, 1) := by decide +kernel
theorem dJ0_init_db425_91 : decode cJ0_init_db425 91 = .ok (.invokestatic 54, 3) := by decide +kernel
theorem dJ0_init_db425_94 : decode cJ0_init_db425 94 = .ok (.putfield 9, 3) := by decide +kernel
theorem dJ0_init_db425_97 : decode cJ0_init_db425 97 = .ok (.return_, 1) := by decide +kernel
theorem dJ0_coder_7d493_0 : decode cJ0_coder_7d493 0 = .ok (.getstatic 38, 3) := by decide +kernel
theorem dJ0_coder_7d493_3 : decode cJ0_coder_7d493 3 = .ok (.ifCond .eq 10, 3) := by decide +kernel
theorem dJ0_coder_7d493_6 : decode cJ0_coder_7d493 6 = .ok (.aload_n 0, 1) := by decide +kernel
theorem dJ0_coder_7d493_7 : decode cJ0_coder_7d493 7 = .ok (.getfield 15, 3) := by decide +kernel
theorem dJ0_coder_7d493_10 : decode cJ0_coder_7d493 10 = .ok (.goto 4, 3) := by decide +kernel
theorem dJ0_coder_7d493_13 : decode cJ0_coder_7d493 13 = .ok (.iconst 1, 1) := by decide +kernel
theorem dJ0_coder_7d493_14 : decode cJ0_coder_7d493 14 = .ok (.ireturn, 1) := by decide +kernel
theorem dJ0_isLatin1_aae02_0 : decode cJ0_isLatin1_aae02 0 = .ok (.getstatic 38, 3) := by decide +kernel
theorem dJ0_isLatin1_aae02_3 : decode cJ0_isLatin1_aae02 3 = .ok (.ifCond .eq 14, 3) := by decide +kernel
theorem dJ0_isLatin1_aae02_6 : decode cJ0_isLatin1_aae02 6 = .ok (.aload_n 0, 1) := by decide +kernel
theorem dJ0_isLatin1_aae02_7 : decode cJ0_isLatin1_aae02 7 = .ok (.getfield 15, 3) := by decide +kernel
theorem dJ0_isLatin1_aae02_10 : decode cJ0_isLatin1_aae02 10 = .ok (.ifCond .ne 7, 3) := by decide +kernel
theorem dJ0_isLatin1_aae02_13 : decode cJ0_isLatin1_aae02 13 = .ok (.iconst 1, 1) := by decide +kernel
theorem dJ0_isLatin1_aae02_14 : decode cJ0_isLatin1_aae02 14 = .ok (.goto 4, 3) := by decide +kernel
theorem dJ0_isLatin1_aae02_17 : decode cJ0_isLatin1_aae02 17 = .ok (.iconst 0, 1) := by decide +kernel
theorem dJ0_isLatin1_aae02_18 : decode cJ0_isLatin1_aae02 18 = .ok (.ireturn, 1) := by decide +kernel
theorem dJ0_checkIndex_df160_0 : decode cJ0_checkIndex_df160 0 = .ok (.iload_n 0, 1) := by decide +kernel
theorem dJ0_checkIndex_df160_1 : decode cJ0_checkIndex_df160 1 = .ok (.iload_n 1, 1) := by decide +kernel
theorem dJ0_checkIndex_df160_2 : decode cJ0_checkIndex_df160 2 = .ok (.getstatic 1053, 3) := by decide +kernel
theorem dJ0_checkIndex_df160_5 : decode cJ0_checkIndex_df160 5 = .ok (.invokestatic 1059, 3) := by decide +kernel
theorem dJ0_checkIndex_df160_8 : decode cJ0_checkIndex_df160 8 = .ok (.pop, 1) := by decide +kernel
theorem dJ0_checkIndex_df160_9 : decode cJ0_checkIndex_df160 9 = .ok (.return_, 1) := by decide +kernel
theorem dJ0_checkBoundsOffCount_cabcc_0 : decode cJ0_checkBoundsOffCount_cabcc 0 = .ok (.iload_n 0, 1) := by decide +kernel
theorem dJ0_checkBoundsOffCount_cabcc_1 : decode cJ0_checkBoundsOffCount_cabcc 1 = .ok (.iload_n 1, 1) := by decide +kernel
theorem dJ0_checkBoundsOffCount_cabcc_2 : decode cJ0_checkBoundsOffCount_cabcc 2 = .ok (.iload_n 2, 1) := by decide +kernel
theorem dJ0_checkBoundsOffCount_cabcc_3 : decode cJ0_checkBoundsOffCount_cabcc 3 = .ok (.getstatic 1053, 3) := by decide +kernel
theorem dJ0_checkBoundsOffCount_cabcc_6 : decode cJ0_checkBoundsOffCount_cabcc 6 = .ok (.invokestatic 1065, 3) := by decide +kernel
theorem dJ0_checkBoundsOffCount_cabcc_9 : decode cJ0_checkBoundsOffCount_cabcc 9 = .ok (.ireturn, 1) := by decide +kernel
theorem dJ0_checkBoundsBeginEnd_23922_0 : decode cJ0_checkBoundsBeginEnd_23922 0 = .ok (.iload_n 0, 1) := by decide +kernel
theorem dJ0_checkBoundsBeginEnd_23922_1 : decode cJ0_checkBoundsBeginEnd_23922 1 = .ok (.iload_n 1, 1) := by decide +kernel
theorem dJ0_checkBoundsBeginEnd_23922_2 : decode cJ0_checkBoundsBeginEnd_23922 2 = .ok (.iload_n 2, 1) := by decide +kernel
theorem dJ0_checkBoundsBeginEnd_23922_3 : decode cJ0_checkBoundsBeginEnd_23922 3 = .ok (.getstatic 1053, 3) := by decide +kernel
theorem dJ0_checkBoundsBeginEnd_23922_6 : decode cJ0_checkBoundsBeginEnd_23922 6 = .ok (.invokestatic 1062, 3) := by decide +kernel
theorem dJ0_checkBoundsBeginEnd_23922_9 : decode cJ0_checkBoundsBeginEnd_23922 9 = .ok (.pop, 1) := by decide +kernel
theorem dJ0_checkBoundsBeginEnd_23922_10 : decode cJ0_checkBoundsBeginEnd_23922 10 = .ok (.return_, 1) := by decide +kernel
theorem dJ4_init_da8c8_0 : decode cJ4_init_da8c8 0 = .ok (.aload_n 0, 1) := by decide +kernel
theorem dJ4_init_da8c8_1 : decode cJ4_init_da8c8 1 = .ok (.bipush 16, 2) := by decide +kernel
theorem dJ4_init_da8c8_3 : decode cJ4_init_da8c8 3 = .ok (.invokespecial 1, 3) := by decide +kernel
theorem dJ4_init_da8c8_6 : decode cJ4_init_da8c8 6 = .ok (.return_, 1) := by decide +kernel
theorem dJ4_append_15ec4_0 : decode cJ4_append_15ec4 0 = .ok (.aload_n 0, 1) := by decide +kernel
theorem dJ4_append_15ec4_1 : decode cJ4_append_15ec4 1 = .ok (.aload_n 1, 1) := by decide +kernel
theorem dJ4_append_15ec4_2 : decode cJ4_append_15ec4 2 = .ok (.invokespecial 29, 3) := by decide +kernel
theorem dJ4_append_15ec4_5 : decode cJ4_append_15ec4 5 = .ok (.pop, 1) := by decide +kernel
theorem dJ4_append_15ec4_6 : decode cJ4_append_15ec4 6 = .ok (.aload_n 0, 1) := by decide +kernel
theorem dJ4_append_15ec4_7 : decode cJ4_append_15ec4 7 = .ok (.areturn, 1) := by decide +kernel
theorem dJ4_append_cf468_0 : decode cJ4_append_cf468 0 = .ok (.aload_n 0, 1) := by decide +kernel
theorem dJ4_append_cf468_1 : decode cJ4_append_cf468 1 = .ok (.iload_n 1, 1) := by decide +kernel
theorem dJ4_append_cf468_2 : decode cJ4_append_cf468 2 = .ok (.invokespecial 50, 3) := by decide +kernel
theorem dJ4_append_cf468_5 : decode cJ4_append_cf468 5 = .ok (.pop, 1) := by decide +kernel
theorem dJ4_append_cf468_6 : decode cJ4_append_cf468 6 = .ok (.aload_n 0, 1) := by decide +kernel
theorem dJ4_append_cf468_7 : decode cJ4_append_cf468 7 = .ok (.areturn, 1) := by decide +kernel
theorem dJ4_append_bf812_0 : decode cJ4_append_bf812 0 = .ok (.aload_n 0, 1) := by decide +kernel
theorem dJ4_append_bf812_1 : decode cJ4_append_bf812 1 = .ok (.iload_n 1, 1) := by decide +kernel
theorem dJ4_append_bf812_2 : decode cJ4_append_bf812 2 = .ok (.invokespecial 53, 3) := by decide +kernel
theorem dJ4_append_bf812_5 : decode cJ4_append_bf812 5 = .ok (.pop, 1) := by decide +kernel
theorem dJ4_append_bf812_6 : decode cJ4_append_bf812 6 = .ok (.aload_n 0, 1) := by decide +kernel
theorem dJ4_append_bf812_7 : decode cJ4_append_bf812 7 = .ok (.areturn, 1) := by decide +kernel
theorem dJ4_toString_0e30d_0 : decode cJ4_toString_0e30d 0 = .ok (.new 18, 3) := by decide +kernel
theorem dJ4_toString_0e30d_3 : decode cJ4_toString_0e30d 3 = .ok (.dup, 1) := by decide +kernel
theorem dJ4_toString_0e30d_4 : decode cJ4_toString_0e30d 4 = .ok (.aload_n 0, 1) := by decide +kernel
theorem dJ4_toString_0e30d_5 : decode cJ4_toString_0e30d 5 = .ok (.invokespecial 137, 3) := by decide +kernel
theorem dJ4_toString_0e30d_8 : decode cJ4_toString_0e30d 8 = .ok (.areturn, 1) := by decide +kernel
theorem dJ4_charAt_5068e_0 : decode cJ4_charAt_5068e 0 = .ok (.aload_n 0, 1) := by decide +kernel
theorem dJ4_charAt_5068e_1 : decode cJ4_charAt_5068e 1 = .ok (.iload_n 1, 1) := by decide +kernel
theorem dJ4_charAt_5068e_2 : decode cJ4_charAt_5068e 2 = .ok (.invokespecial 329, 3) := by decide +kernel
theorem dJ4_charAt_5068e_5 : decode cJ4_charAt_5068e 5 = .ok (.ireturn, 1) := by decide +kernel
theorem dJ4_setLength_d00df_0 : decode cJ4_setLength_d00df 0 = .ok (.aload_n 0, 1) := by decide +kernel
theorem dJ4_setLength_d00df_1 : decode cJ4_setLength_d00df 1 = .ok (.iload_n 1, 1) := by decide +kernel
theorem dJ4_setLength_d00df_2 : decode cJ4_setLength_d00df 2 = .ok (.invokespecial 333, 3) := by decide +kernel
theorem dJ4_setLength_d00df_5 : decode cJ4_setLength_d00df 5 = .ok (.return_, 1) := by decide +kernel
theorem dJ4_length_8abf5_0 : decode cJ4_length_8abf5 0 = .ok (.aload_n 0, 1) := by decide +kernel
theorem dJ4_length_8abf5_1 : decode cJ4_length_8abf5 1 = .ok (.invokespecial 343, 3) := by decide +kernel
theorem dJ4_length_8abf5_4 : decode cJ4_length_8abf5 4 = .ok (.ireturn, 1) := by decide +kernel
theorem dJx7c733_init_d00df_0 : decode cJx7c733_init_d00df 0 = .ok (.aload_n 0, 1) := by decide +kernel
theorem dJx7c733_init_d00df_1 : decode cJx7c733_init_d00df 1 = .ok (.new 10, 3) := by decide +kernel
theorem dJx7c733_init_d00df_4 : decode cJx7c733_init_d00df 4 = .ok (.dup, 1) := by decide +kernel
theorem dJx7c733_init_d00df_5 : decode cJx7c733_init_d00df 5 = .ok (.invokespecial 12, 3) := by decide +kernel
theorem dJx7c733_init_d00df_8 : decode cJx7c733_init_d00df 8 = .ok (.ldc 13, 2) := by decide +kernel
theorem dJx7c733_init_d00df_10 : decode cJx7c733_init_d00df 10 = .ok (.invokevirtual 15, 3) := by decide +kernel
theorem dJx7c733_init_d00df_13 : decode cJx7c733_init_d00df 13 = .ok (.iload_n 1, 1) := by decide +kernel
theorem dJx7c733_init_d00df_14 : decode cJx7c733_init_d00df 14 = .ok (.invokevirtual 19, 3) := by decide +kernel
theorem dJx7c733_init_d00df_17 : decode cJx7c733_init_d00df 17 = .ok (.invokevirtual 22, 3) := by decide +kernel
theorem dJx7c733_init_d00df_20 : decode cJx7c733_init_d00df 20 = .ok (.invokespecial 7, 3) := by decide +kernel
theorem dJx7c733_init_d00df_23 : decode cJx7c733_init_d00df 23 = .ok (.return_, 1) := by decide +kernel
theorem dJ1_charAt_3b067_0 : decode cJ1_charAt_3b067 0 = .ok (.iload_n 1, 1) := by decide +kernel
theorem dJ1_charAt_3b067_1 : decode cJ1_charAt_3b067 1 = .ok (.aload_n 0, 1) := by decide +kernel
theorem dJ1_charAt_3b067_2 : decode cJ1_charAt_3b067 2 = .ok (.arraylength, 1) := by decide +kernel
theorem dJ1_charAt_3b067_3 : decode cJ1_charAt_3b067 3 = .ok (.invokestatic 9, 3) := by decide +kernel
theorem dJ1_charAt_3b067_6 : decode cJ1_charAt_3b067 6 = .ok (.aload_n 0, 1) := by decide +kernel
theorem dJ1_charAt_3b067_7 : decode cJ1_charAt_3b067 7 = .ok (.iload_n 1, 1) := by decide +kernel
theorem dJ1_charAt_3b067_8 : decode cJ1_charAt_3b067 8 = .ok (.baload, 1) := by decide +kernel
theorem dJ1_charAt_3b067_9 : decode cJ1_charAt_3b067 9 = .ok (.sipush 255, 3) := by decide +kernel
theorem dJ1_charAt_3b067_12 : decode cJ1_charAt_3b067 12 = .ok (.iand, 1) := by decide +kernel
theorem dJ1_charAt_3b067_13 : decode cJ1_charAt_3b067 13 = .ok (.i2c, 1) := by decide +kernel
theorem dJ1_charAt_3b067_14 : decode cJ1_charAt_3b067 14 = .ok (.ireturn, 1) := by decide +kernel
theorem dJ1_canEncode_fc78d_0 : decode cJ1_canEncode_fc78d 0 = .ok (.iload_n 0, 1) := by decide +kernel
theorem dJ1_canEncode_fc78d_1 : decode cJ1_canEncode_fc78d 1 = .ok (.sipush 255, 3) := by decide +kernel
theorem dJ1_canEncode_fc78d_4 : decode cJ1_canEncode_fc78d 4 = .ok (.if_icmp .gt 7, 3) := by decide +kernel
theorem dJ1_canEncode_fc78d_7 : decode cJ1_canEncode_fc78d 7 = .ok (.iconst 1, 1) := by decide +kernel
theorem dJ1_canEncode_fc78d_8 : decode cJ1_canEncode_fc78d 8 = .ok (.goto 4, 3) := by decide +kernel
theorem dJ1_canEncode_fc78d_11 : decode cJ1_canEncode_fc78d 11 = .ok (.iconst 0, 1) := by decide +kernel
theorem dJ1_canEncode_fc78d_12 : decode cJ1_canEncode_fc78d 12 = .ok (.ireturn, 1) := by decide +kernel
theorem dJ1_fillNull_b72d1_0 : decode cJ1_fillNull_b72d1 0 = .ok (.aload_n 0, 1) := by decide +kernel
theorem dJ1_fillNull_b72d1_1 : decode cJ1_fillNull_b72d1 1 = .ok (.iload_n 1, 1) := by decide +kernel
theorem dJ1_fillNull_b72d1_2 : decode cJ1_fillNull_b72d1 2 = .ok (.iload_n 2, 1) := by decide +kernel
theorem dJ1_fillNull_b72d1_3 : decode cJ1_fillNull_b72d1 3 = .ok (.iconst 0, 1) := by decide +kernel
theorem dJ1_fillNull_b72d1_4 : decode cJ1_fillNull_b72d1 4 = .ok (.invokestatic 236, 3) := by decide +kernel
theorem dJ1_fillNull_b72d1_7 : decode cJ1_fillNull_b72d1 7 = .ok (.return_, 1) := by decide +kernel
theorem dJ1_inflate_0e8fd_0 : decode cJ1_inflate_0e8fd 0 = .ok (.aload_n 0, 1) := by decide +kernel
theorem dJ1_inflate_0e8fd_1 : decode cJ1_inflate_0e8fd 1 = .ok (.iload_n 1, 1) := by decide +kernel
theorem dJ1_inflate_0e8fd_2 : decode cJ1_inflate_0e8fd 2 = .ok (.aload_n 2, 1) := by decide +kernel
theorem dJ1_inflate_0e8fd_3 : decode cJ1_inflate_0e8fd 3 = .ok (.iload_n 3, 1) := by decide +kernel
theorem dJ1_inflate_0e8fd_4 : decode cJ1_inflate_0e8fd 4 = .ok (.iload 4, 2) := by decide +kernel
theorem dJ1_inflate_0e8fd_6 : decode cJ1_inflate_0e8fd 6 = .ok (.invokestatic 240, 3) := by decide +kernel
theorem dJ1_inflate_0e8fd_9 : decode cJ1_inflate_0e8fd 9 = .ok (.return_, 1) := by decide +kernel
theorem dJ2_newBytesFor_77867_0 : decode cJ2_newBytesFor_77867 0 = .ok (.iload_n 0, 1) := by decide +kernel
theorem dJ2_newBytesFor_77867_1 : decode cJ2_newBytesFor_77867 1 = .ok (.invokestatic 11, 3) := by decide +kernel
theorem dJ2_newBytesFor_77867_4 : decode cJ2_newBytesFor_77867 4 = .ok (.newarray .byte, 2) := by decide +kernel
theorem dJ2_newBytesFor_77867_6 : decode cJ2_newBytesFor_77867 6 = .ok (.areturn, 1) := by decide +kernel
theorem dJ2_newBytesLength_0f7a4_0 : decode cJ2_newBytesLength_0f7a4 0 = .ok (.iload_n 0, 1) := by decide +kernel
theorem dJ2_newBytesLength_0f7a4_1 : decode cJ2_newBytesLength_0f7a4 1 = .ok (.ifCond .ge 11, 3) := by decide +kernel
theorem dJ2_newBytesLength_0f7a4_4 : decode cJ2_newBytesLength_0f7a4 4 = .ok (.new 17, 3) := by decide +kernel
theorem dJ2_newBytesLength_0f7a4_7 : decode cJ2_newBytesLength_0f7a4 7 = .ok (.dup, 1) := by decide +kernel
theorem dJ2_newBytesLength_0f7a4_8 : decode cJ2_newBytesLength_0f7a4 8 = .ok (.invokespecial 19, 3) := by decide +kernel
theorem dJ2_newBytesLength_0f7a4_11 : decode cJ2_newBytesLength_0f7a4 11 = .ok (.athrow, 1) := by decide +kernel
theorem dJ2_newBytesLength_0f7a4_12 : decode cJ2_newBytesLength_0f7a4 12 = .ok (.iload_n 0, 1) := by decide +kernel
theorem dJ2_newBytesLength_0f7a4_13 : decode cJ2_newBytesLength_0f7a4 13 = .ok (.ldc 20, 2) := by decide +kernel
theorem dJ2_newBytesLength_0f7a4_15 : decode cJ2_newBytesLength_0f7a4 15 = .ok (.if_icmp .lt 40, 3) := by decide +kernel
theorem dJ2_newBytesLength_0f7a4_18 : decode cJ2_newBytesLength_0f7a4 18 = .ok (.new 21, 3) := by decide +kernel
theorem dJ2_newBytesLength_0f7a4_21 : decode cJ2_newBytesLength_0f7a4 21 = .ok (.dup, 1) := by decide +kernel
theorem dJ2_newBytesLength_0f7a4_22 : decode cJ2_newBytesLength_0f7a4 22 = .ok (.new 23, 3) := by decide +kernel
theorem dJ2_newBytesLength_0f7a4_25 : decode cJ2_newBytesLength_0f7a4 25 = .ok (.dup, 1) := by decide +kernel
theorem dJ2_newBytesLength_0f7a4_26 : decode cJ2_newBytesLength_0f7a4 26 = .ok (.invokespecial 25, 3) := by decide +kernel
theorem dJ2_newBytesLength_0f7a4_29 : decode cJ2_newBytesLength_0f7a4 29 = .ok (.ldc 26, 2) := by decide +kernel
theorem dJ2_newBytesLength_0f7a4_31 : decode cJ2_newBytesLength_0f7a4 31 = .ok (.invokevirtual 28, 3) := by decide +kernel
theorem dJ2_newBytesLength_0f7a4_34 : decode cJ2_newBytesLength_0f7a4 34 = .ok (.iload_n 0, 1) := by decide +kernel
theorem dJ2_newBytesLength_0f7a4_35 : decode cJ2_newBytesLength_0f7a4 35 = .ok (.invokevirtual 32, 3) := by decide +kernel
theorem dJ2_newBytesLength_0f7a4_38 : decode cJ2_newBytesLength_0f7a4 38 = .ok (.ldc 35, 2) := by decide +kernel
theorem dJ2_newBytesLength_0f7a4_40 : decode cJ2_newBytesLength_0f7a4 40 = .ok (.invokevirtual 28, 3) := by decide +kernel
theorem dJ2_newBytesLength_0f7a4_43 : decode cJ2_newBytesLength_0f7a4 43 = .ok (.ldc 20, 2) := by decide +kernel
theorem dJ2_newBytesLength_0f7a4_45 : decode cJ2_newBytesLength_0f7a4 45 = .ok (.invokevirtual 32, 3) := by decide +kernel
theorem dJ2_newBytesLength_0f7a4_48 : decode cJ2_newBytesLength_0f7a4 48 = .ok (.invokevirtual 37, 3) := by decide +kernel
theorem dJ2_newBytesLength_0f7a4_51 : decode cJ2_newBytesLength_0f7a4 51 = .ok (.invokespecial 41, 3) := by decide +kernel
theorem dJ2_newBytesLength_0f7a4_54 : decode cJ2_newBytesLength_0f7a4 54 = .ok (.athrow, 1) := by decide +kernel
theorem dJ2_newBytesLength_0f7a4_55 : decode cJ2_newBytesLength_0f7a4 55 = .ok (.iload_n 0, 1) := by decide +kernel
theorem dJ2_newBytesLength_0f7a4_56 : decode cJ2_newBytesLength_0f7a4 56 = .ok (.iconst 1, 1) := by decide +kernel
theorem dJ2_newBytesLength_0f7a4_57 : decode cJ2_newBytesLength_0f7a4 57 = .ok (.ishl, 1) := by decide +kernel
theorem dJ2_newBytesLength_0f7a4_58 : decode cJ2_newBytesLength_0f7a4 58 = .ok (.ireturn, 1) := by decide +kernel
theorem dJ2_putChar_b72d1_0 : decode cJ2_putChar_b72d1 0 = .ok (.getstatic 44, 3) := by decide +kernel
theorem dJ2_putChar_b72d1_3 : decode cJ2_putChar_b72d1 3 = .ok (.ifCond .ne 25, 3) := by decide +kernel
theorem dJ2_putChar_b72d1_6 : decode cJ2_putChar_b72d1 6 = .ok (.iload_n 1, 1) := by decide +kernel
theorem dJ2_putChar_b72d1_7 : decode cJ2_putChar_b72d1 7 = .ok (.ifCond .lt 11, 3) := by decide +kernel
theorem dJ2_putChar_b72d1_10 : decode cJ2_putChar_b72d1 10 = .ok (.iload_n 1, 1) := by decide +kernel
theorem dJ2_putChar_b72d1_11 : decode cJ2_putChar_b72d1 11 = .ok (.aload_n 0, 1) := by decide +kernel
theorem dJ2_putChar_b72d1_12 : decode cJ2_putChar_b72d1 12 = .ok (.invokestatic 48, 3) := by decide +kernel
theorem dJ2_putChar_b72d1_15 : decode cJ2_putChar_b72d1 15 = .ok (.if_icmp .lt 13, 3) := by decide +kernel
theorem dJ2_putChar_b72d1_18 : decode cJ2_putChar_b72d1 18 = .ok (.new 52, 3) := by decide +kernel
theorem dJ2_putChar_b72d1_21 : decode cJ2_putChar_b72d1 21 = .ok (.dup, 1) := by decide +kernel
theorem dJ2_putChar_b72d1_22 : decode cJ2_putChar_b72d1 22 = .ok (.ldc 54, 2) := by decide +kernel
theorem dJ2_putChar_b72d1_24 : decode cJ2_putChar_b72d1 24 = .ok (.invokespecial 56, 3) := by decide +kernel
theorem dJ2_putChar_b72d1_27 : decode cJ2_putChar_b72d1 27 = .ok (.athrow, 1) := by decide +kernel
theorem dJ2_putChar_b72d1_28 : decode cJ2_putChar_b72d1 28 = .ok (.iload_n 1, 1) := by decide +kernel
theorem dJ2_putChar_b72d1_29 : decode cJ2_putChar_b72d1 29 = .ok (.iconst 1, 1) := by decide +kernel
theorem dJ2_putChar_b72d1_30 : decode cJ2_putChar_b72d1 30 = .ok (.ishl, 1) := by decide +kernel
theorem dJ2_putChar_b72d1_31 : decode cJ2_putChar_b72d1 31 = .ok (.istore_n 1, 1) := by decide +kernel
theorem dJ2_putChar_b72d1_32 : decode cJ2_putChar_b72d1 32 = .ok (.aload_n 0, 1) := by decide +kernel
theorem dJ2_putChar_b72d1_33 : decode cJ2_putChar_b72d1 33 = .ok (.iload_n 1, 1) := by decide +kernel
theorem dJ2_putChar_b72d1_34 : decode cJ2_putChar_b72d1 34 = .ok (.iinc 1 1, 3) := by decide +kernel
theorem dJ2_putChar_b72d1_37 : decode cJ2_putChar_b72d1 37 = .ok (.iload_n 2, 1) := by decide +kernel
theorem dJ2_putChar_b72d1_38 : decode cJ2_putChar_b72d1 38 = .ok (.getstatic 59, 3) := by decide +kernel
theorem dJ2_putChar_b72d1_41 : decode cJ2_putChar_b72d1 41 = .ok (.ishr, 1) := by decide +kernel
theorem dJ2_putChar_b72d1_42 : decode cJ2_putChar_b72d1 42 = .ok (.i2b, 1) := by decide +kernel
theorem dJ2_putChar_b72d1_43 : decode cJ2_putChar_b72d1 43 = .ok (.bastore, 1) := by decide +kernel
theorem dJ2_putChar_b72d1_44 : decode cJ2_putChar_b72d1 44 = .ok (.aload_n 0, 1) := by decide +kernel
theorem dJ2_putChar_b72d1_45 : decode cJ2_putChar_b72d1 45 = .ok (.iload_n 1, 1) := by decide +kernel
theorem dJ2_putChar_b72d1_46 : decode cJ2_putChar_b72d1 46 = .ok (.iload_n 2, 1) := by decide +kernel
theorem dJ2_putChar_b72d1_47 : decode cJ2_putChar_b72d1 47 = .ok (.getstatic 63, 3) := by decide +kernel
theorem dJ2_putChar_b72d1_50 : decode cJ2_putChar_b72d1 50 = .ok (.ishr, 1) := by decide +kernel
theorem dJ2_putChar_b72d1_51 : decode cJ2_putChar_b72d1 51 = .ok (.i2b, 1) := by decide +kernel
theorem dJ2_putChar_b72d1_52 : decode cJ2_putChar_b72d1 52 = .ok (.bastore, 1) := by decide +kernel
theorem dJ2_putChar_b72d1_53 : decode cJ2_putChar_b72d1 53 = .ok (.return_, 1) := by decide +kernel
theorem dJ2_getChar_3b067_0 : decode cJ2_getChar_3b067 0 = .ok (.getstatic 44, 3) := by decide +kernel
theorem dJ2_getChar_3b067_3 : decode cJ2_getChar_3b067 3 = .ok (.ifCond .ne 25, 3) := by decide +kernel
theorem dJ2_getChar_3b067_6 : decode cJ2_getChar_3b067 6 = .ok (.iload_n 1, 1) := by decide +kernel
theorem dJ2_getChar_3b067_7 : decode cJ2_getChar_3b067 7 = .ok (.ifCond .lt 11, 3) := by decide +kernel
theorem dJ2_getChar_3b067_10 : decode cJ2_getChar_3b067 10 = .ok (.iload_n 1, 1) := by decide +kernel
theorem dJ2_getChar_3b067_11 : decode cJ2_getChar_3b067 11 = .ok (.aload_n 0, 1) := by decide +kernel
theorem dJ2_getChar_3b067_12 : decode cJ2_getChar_3b067 12 = .ok (.invokestatic 48, 3) := by decide +kernel
theorem dJ2_getChar_3b067_15 : decode cJ2_getChar_3b067 15 = .ok (.if_icmp .lt 13, 3) := by decide +kernel
theorem dJ2_getChar_3b067_18 : decode cJ2_getChar_3b067 18 = .ok (.new 52, 3) := by decide +kernel
theorem dJ2_getChar_3b067_21 : decode cJ2_getChar_3b067 21 = .ok (.dup, 1) := by decide +kernel
theorem dJ2_getChar_3b067_22 : decode cJ2_getChar_3b067 22 = .ok (.ldc 54, 2) := by decide +kernel
theorem dJ2_getChar_3b067_24 : decode cJ2_getChar_3b067 24 = .ok (.invokespecial 56, 3) := by decide +kernel
theorem dJ2_getChar_3b067_27 : decode cJ2_getChar_3b067 27 = .ok (.athrow, 1) := by decide +kernel
theorem dJ2_getChar_3b067_28 : decode cJ2_getChar_3b067 28 = .ok (.iload_n 1, 1) := by decide +kernel
theorem dJ2_getChar_3b067_29 : decode cJ2_getChar_3b067 29 = .ok (.iconst 1, 1) := by decide +kernel
theorem dJ2_getChar_3b067_30 : decode cJ2_getChar_3b067 30 = .ok (.ishl, 1) := by decide +kernel
theorem dJ2_getChar_3b067_31 : decode cJ2_getChar_3b067 31 = .ok (.istore_n 1, 1) := by decide +kernel
theorem dJ2_getChar_3b067_32 : decode cJ2_getChar_3b067 32 = .ok (.aload_n 0, 1) := by decide +kernel
theorem dJ2_getChar_3b067_33 : decode cJ2_getChar_3b067 33 = .ok (.iload_n 1, 1) := by decide +kernel
theorem dJ2_getChar_3b067_34 : decode cJ2_getChar_3b067 34 = .ok (.iinc 1 1, 3) := by decide +kernel
theorem dJ2_getChar_3b067_37 : decode cJ2_getChar_3b067 37 = .ok (.baload, 1) := by decide +kernel
theorem dJ2_getChar_3b067_38 : decode cJ2_getChar_3b067 38 = .ok (.sipush 255, 3) := by decide +kernel
theorem dJ2_getChar_3b067_41 : decode cJ2_getChar_3b067 41 = .ok (.iand, 1) := by decide +kernel
theorem dJ2_getChar_3b067_42 : decode cJ2_getChar_3b067 42 = .ok (.getstatic 59, 3) := by decide +kernel
theorem dJ2_getChar_3b067_45 : decode cJ2_getChar_3b067 45 = .ok (.ishl, 1) := by decide +kernel
theorem dJ2_getChar_3b067_46 : decode cJ2_getChar_3b067 46 = .ok (.aload_n 0, 1) := by decide +kernel
theorem dJ2_getChar_3b067_47 : decode cJ2_getChar_3b067 47 = .ok (.iload_n 1, 1) := by decide +kernel
theorem dJ2_getChar_3b067_48 : decode cJ2_getChar_3b067 48 = .ok (.baload, 1) := by decide +kernel
theorem dJ2_getChar_3b067_49 : decode cJ2_getChar_3b067 49 = .ok (.sipush 255, 3) := by decide +kernel
theorem dJ2_getChar_3b067_52 : decode cJ2_getChar_3b067 52 = .ok (.iand, 1) := by decide +kernel
theorem dJ2_getChar_3b067_53 : decode cJ2_getChar_3b067 53 = .ok (.getstatic 63, 3) := by decide +kernel
theorem dJ2_getChar_3b067_56 : decode cJ2_getChar_3b067 56 = .ok (.ishl, 1) := by decide +kernel
theorem dJ2_getChar_3b067_57 : decode cJ2_getChar_3b067 57 = .ok (.ior, 1) := by decide +kernel
theorem dJ2_getChar_3b067_58 : decode cJ2_getChar_3b067 58 = .ok (.i2c, 1) := by decide +kernel
theorem dJ2_getChar_3b067_59 : decode cJ2_getChar_3b067 59 = .ok (.ireturn, 1) := by decide +kernel
theorem dJ2_length_9d52b_0 : decode cJ2_length_9d52b 0 = .ok (.aload_n 0, 1) := by decide +kernel
theorem dJ2_length_9d52b_1 : decode cJ2_length_9d52b 1 = .ok (.arraylength, 1) := by decide +kernel
theorem dJ2_length_9d52b_2 : decode cJ2_length_9d52b 2 = .ok (.iconst 1, 1) := by decide +kernel
theorem dJ2_length_9d52b_3 : decode cJ2_length_9d52b 3 = .ok (.ishr, 1) := by decide +kernel
theorem dJ2_length_9d52b_4 : decode cJ2_length_9d52b 4 = .ok (.ireturn, 1) := by decide +kernel
theorem dJ2_coderFromArrayLen_85cad_0 : decode cJ2_coderFromArrayLen_85cad 0 = .ok (.iload_n 1, 1) := by decide +kernel
theorem dJ2_coderFromArrayLen_85cad_1 : decode cJ2_coderFromArrayLen_85cad 1 = .ok (.aload_n 0, 1) := by decide +kernel
theorem dJ2_coderFromArrayLen_85cad_2 : decode cJ2_coderFromArrayLen_85cad 2 = .ok (.arraylength, 1) := by decide +kernel
theorem dJ2_coderFromArrayLen_85cad_3 : decode cJ2_coderFromArrayLen_85cad 3 = .ok (.isub, 1) := by decide +kernel
theorem dJ2_coderFromArrayLen_85cad_4 : decode cJ2_coderFromArrayLen_85cad 4 = .ok (.bipush 31, 2) := by decide +kernel
theorem dJ2_coderFromArrayLen_85cad_6 : decode cJ2_coderFromArrayLen_85cad 6 = .ok (.iushr, 1) := by decide +kernel
theorem dJ2_coderFromArrayLen_85cad_7 : decode cJ2_coderFromArrayLen_85cad 7 = .ok (.i2b, 1) := by decide +kernel
theorem dJ2_coderFromArrayLen_85cad_8 : decode cJ2_coderFromArrayLen_85cad 8 = .ok (.ireturn, 1) := by decide +kernel
theorem dJ2_compress_39247_0 : decode cJ2_compress_39247 0 = .ok (.iload_n 2, 1) := by decide +kernel
theorem dJ2_compress_39247_1 : decode cJ2_compress_39247 1 = .ok (.newarray .byte, 2) := by decide +kernel
theorem dJ2_compress_39247_3 : decode cJ2_compress_39247 3 = .ok (.astore_n 3, 1) := by decide +kernel
theorem dJ2_compress_39247_4 : decode cJ2_compress_39247 4 = .ok (.aload_n 0, 1) := by decide +kernel
theorem dJ2_compress_39247_5 : decode cJ2_compress_39247 5 = .ok (.iload_n 1, 1) := by decide +kernel
theorem dJ2_compress_39247_6 : decode cJ2_compress_39247 6 = .ok (.aload_n 3, 1) := by decide +kernel
theorem dJ2_compress_39247_7 : decode cJ2_compress_39247 7 = .ok (.iconst 0, 1) := by decide +kernel
theorem dJ2_compress_39247_8 : decode cJ2_compress_39247 8 = .ok (.iload_n 2, 1) := by decide +kernel
theorem dJ2_compress_39247_9 : decode cJ2_compress_39247 9 = .ok (.invokestatic 123, 3) := by decide +kernel
theorem dJ2_compress_39247_12 : decode cJ2_compress_39247 12 = .ok (.istore 4, 2) := by decide +kernel
theorem dJ2_compress_39247_14 : decode cJ2_compress_39247 14 = .ok (.iload 4, 2) := by decide +kernel
theorem dJ2_compress_39247_16 : decode cJ2_compress_39247 16 = .ok (.iload_n 2, 1) := by decide +kernel
theorem dJ2_compress_39247_17 : decode cJ2_compress_39247 17 = .ok (.if_icmp .eq 47, 3) := by decide +kernel
theorem dJ2_compress_39247_20 : decode cJ2_compress_39247 20 = .ok (.aload_n 0, 1) := by decide +kernel
theorem dJ2_compress_39247_21 : decode cJ2_compress_39247 21 = .ok (.iload_n 1, 1) := by decide +kernel
theorem dJ2_compress_39247_22 : decode cJ2_compress_39247 22 = .ok (.iconst 1, 1) := by decide +kernel
theorem dJ2_compress_39247_23 : decode cJ2_compress_39247 23 = .ok (.ishl, 1) := by decide +kernel
theorem dJ2_compress_39247_24 : decode cJ2_compress_39247 24 = .ok (.iload_n 1, 1) := by decide +kernel
theorem dJ2_compress_39247_25 : decode cJ2_compress_39247 25 = .ok (.iload_n 2, 1) := by decide +kernel
theorem dJ2_compress_39247_26 : decode cJ2_compress_39247 26 = .ok (.iadd, 1) := by decide +kernel
theorem dJ2_compress_39247_27 : decode cJ2_compress_39247 27 = .ok (.invokestatic 11, 3) := by decide +kernel
theorem dJ2_compress_39247_30 : decode cJ2_compress_39247 30 = .ok (.invokestatic 126, 3) := by decide +kernel
theorem dJ2_compress_39247_33 : decode cJ2_compress_39247 33 = .ok (.astore 5, 2) := by decide +kernel
theorem dJ2_compress_39247_35 : decode cJ2_compress_39247 35 = .ok (.aload 5, 2) := by decide +kernel
theorem dJ2_compress_39247_37 : decode cJ2_compress_39247 37 = .ok (.iload 4, 2) := by decide +kernel
theorem dJ2_compress_39247_39 : decode cJ2_compress_39247 39 = .ok (.invokestatic 71, 3) := by decide +kernel
theorem dJ2_compress_39247_42 : decode cJ2_compress_39247 42 = .ok (.sipush 255, 3) := by decide +kernel
theorem dJ2_compress_39247_45 : decode cJ2_compress_39247 45 = .ok (.if_icmp .gt 16, 3) := by decide +kernel
theorem dJ2_compress_39247_48 : decode cJ2_compress_39247 48 = .ok (.aload 5, 2) := by decide +kernel
theorem dJ2_compress_39247_50 : decode cJ2_compress_39247 50 = .ok (.iconst 0, 1) := by decide +kernel
theorem dJ2_compress_39247_51 : decode cJ2_compress_39247 51 = .ok (.aload_n 3, 1) := by decide +kernel
theorem dJ2_compress_39247_52 : decode cJ2_compress_39247 52 = .ok (.iconst 0, 1) := by decide +kernel
theorem dJ2_compress_39247_53 : decode cJ2_compress_39247 53 = .ok (.iload_n 2, 1) := by decide +kernel
theorem dJ2_compress_39247_54 : decode cJ2_compress_39247 54 = .ok (.invokestatic 123, 3) := by decide +kernel
theorem dJ2_compress_39247_57 : decode cJ2_compress_39247 57 = .ok (.iload_n 2, 1) := by decide +kernel
theorem dJ2_compress_39247_58 : decode cJ2_compress_39247 58 = .ok (.if_icmp .eq 6, 3) := by decide +kernel
theorem dJ2_compress_39247_61 : decode cJ2_compress_39247 61 = .ok (.aload 5, 2) := by decide +kernel
theorem dJ2_compress_39247_63 : decode cJ2_compress_39247 63 = .ok (.areturn, 1) := by decide +kernel
theorem dJ2_compress_39247_64 : decode cJ2_compress_39247 64 = .ok (.aload_n 3, 1) := by decide +kernel
theorem dJ2_compress_39247_65 : decode cJ2_compress_39247 65 = .ok (.areturn, 1) := by decide +kernel
theorem dJ2_compress_5af95_0 : decode cJ2_compress_5af95 0 = .ok (.iload_n 1, 1) := by decide +kernel
theorem dJ2_compress_5af95_1 : decode cJ2_compress_5af95 1 = .ok (.iload 4, 2) := by decide +kernel
theorem dJ2_compress_5af95_3 : decode cJ2_compress_5af95 3 = .ok (.aload_n 0, 1) := by decide +kernel
theorem dJ2_compress_5af95_4 : decode cJ2_compress_5af95 4 = .ok (.invokestatic 173, 3) := by decide +kernel
theorem dJ2_compress_5af95_7 : decode cJ2_compress_5af95 7 = .ok (.iconst 0, 1) := by decide +kernel
theorem dJ2_compress_5af95_8 : decode cJ2_compress_5af95 8 = .ok (.istore 5, 2) := by decide +kernel
theorem dJ2_compress_5af95_10 : decode cJ2_compress_5af95 10 = .ok (.iload 5, 2) := by decide +kernel
theorem dJ2_compress_5af95_12 : decode cJ2_compress_5af95 12 = .ok (.iload 4, 2) := by decide +kernel
theorem dJ2_compress_5af95_14 : decode cJ2_compress_5af95 14 = .ok (.if_icmp .ge 39, 3) := by decide +kernel
theorem dJ2_compress_5af95_17 : decode cJ2_compress_5af95 17 = .ok (.aload_n 0, 1) := by decide +kernel
theorem dJ2_compress_5af95_18 : decode cJ2_compress_5af95 18 = .ok (.iload_n 1, 1) := by decide +kernel
theorem dJ2_compress_5af95_19 : decode cJ2_compress_5af95 19 = .ok (.invokestatic 71, 3) := by decide +kernel
theorem dJ2_compress_5af95_22 : decode cJ2_compress_5af95 22 = .ok (.istore 6, 2) := by decide +kernel
theorem dJ2_compress_5af95_24 : decode cJ2_compress_5af95 24 = .ok (.iload 6, 2) := by decide +kernel
theorem dJ2_compress_5af95_26 : decode cJ2_compress_5af95 26 = .ok (.sipush 255, 3) := by decide +kernel
theorem dJ2_compress_5af95_29 : decode cJ2_compress_5af95 29 = .ok (.if_icmp .le 6, 3) := by decide +kernel
theorem dJ2_compress_5af95_32 : decode cJ2_compress_5af95 32 = .ok (.iload 5, 2) := by decide +kernel
theorem dJ2_compress_5af95_34 : decode cJ2_compress_5af95 34 = .ok (.ireturn, 1) := by decide +kernel
theorem dJ2_compress_5af95_35 : decode cJ2_compress_5af95 35 = .ok (.aload_n 2, 1) := by decide +kernel
theorem dJ2_compress_5af95_36 : decode cJ2_compress_5af95 36 = .ok (.iload_n 3, 1) := by decide +kernel
theorem dJ2_compress_5af95_37 : decode cJ2_compress_5af95 37 = .ok (.iload 6, 2) := by decide +kernel
theorem dJ2_compress_5af95_39 : decode cJ2_compress_5af95 39 = .ok (.i2b, 1) := by decide +kernel
theorem dJ2_compress_5af95_40 : decode cJ2_compress_5af95 40 = .ok (.bastore, 1) := by decide +kernel
theorem dJ2_compress_5af95_41 : decode cJ2_compress_5af95 41 = .ok (.iinc 1 1, 3) := by decide +kernel
theorem dJ2_compress_5af95_44 : decode cJ2_compress_5af95 44 = .ok (.iinc 3 1, 3) := by decide +kernel
theorem dJ2_compress_5af95_47 : decode cJ2_compress_5af95 47 = .ok (.iinc 5 1, 3) := by decide +kernel
theorem dJ2_compress_5af95_50 : decode cJ2_compress_5af95 50 = .ok (.goto (-40), 3) := by decide +kernel
theorem dJ2_compress_5af95_53 : decode cJ2_compress_5af95 53 = .ok (.iload 4, 2) := by decide +kernel
theorem dJ2_compress_5af95_55 : decode cJ2_compress_5af95 55 = .ok (.ireturn, 1) := by decide +kernel
theorem dJ2_fillNull_b72d1_0 : decode cJ2_fillNull_b72d1 0 = .ok (.aload_n 0, 1) := by decide +kernel
theorem dJ2_fillNull_b72d1_1 : decode cJ2_fillNull_b72d1 1 = .ok (.iload_n 1, 1) := by decide +kernel
theorem dJ2_fillNull_b72d1_2 : decode cJ2_fillNull_b72d1 2 = .ok (.iconst 1, 1) := by decide +kernel
theorem dJ2_fillNull_b72d1_3 : decode cJ2_fillNull_b72d1 3 = .ok (.ishl, 1) := by decide +kernel
theorem dJ2_fillNull_b72d1_4 : decode cJ2_fillNull_b72d1 4 = .ok (.iload_n 2, 1) := by decide +kernel
theorem dJ2_fillNull_b72d1_5 : decode cJ2_fillNull_b72d1 5 = .ok (.iconst 1, 1) := by decide +kernel
theorem dJ2_fillNull_b72d1_6 : decode cJ2_fillNull_b72d1 6 = .ok (.ishl, 1) := by decide +kernel
theorem dJ2_fillNull_b72d1_7 : decode cJ2_fillNull_b72d1 7 = .ok (.iconst 0, 1) := by decide +kernel
theorem dJ2_fillNull_b72d1_8 : decode cJ2_fillNull_b72d1 8 = .ok (.invokestatic 380, 3) := by decide +kernel
theorem dJ2_fillNull_b72d1_11 : decode cJ2_fillNull_b72d1 11 = .ok (.return_, 1) := by decide +kernel
theorem dJ2_putCharSB_b72d1_0 : decode cJ2_putCharSB_b72d1 0 = .ok (.iload_n 1, 1) := by decide +kernel
theorem dJ2_putCharSB_b72d1_1 : decode cJ2_putCharSB_b72d1 1 = .ok (.aload_n 0, 1) := by decide +kernel
theorem dJ2_putCharSB_b72d1_2 : decode cJ2_putCharSB_b72d1 2 = .ok (.invokestatic 67, 3) := by decide +kernel
theorem dJ2_putCharSB_b72d1_5 : decode cJ2_putCharSB_b72d1 5 = .ok (.aload_n 0, 1) := by decide +kernel
theorem dJ2_putCharSB_b72d1_6 : decode cJ2_putCharSB_b72d1 6 = .ok (.iload_n 1, 1) := by decide +kernel
theorem dJ2_putCharSB_b72d1_7 : decode cJ2_putCharSB_b72d1 7 = .ok (.iload_n 2, 1) := by decide +kernel
theorem dJ2_putCharSB_b72d1_8 : decode cJ2_putCharSB_b72d1 8 = .ok (.invokestatic 111, 3) := by decide +kernel
theorem dJ2_putCharSB_b72d1_11 : decode cJ2_putCharSB_b72d1 11 = .ok (.return_, 1) := by decide +kernel
theorem dJ2_getChars_46870_0 : decode cJ2_getChars_46870 0 = .ok (.iload_n 1, 1) := by decide +kernel
theorem dJ2_getChars_46870_1 : decode cJ2_getChars_46870 1 = .ok (.iload_n 2, 1) := by decide +kernel
theorem dJ2_getChars_46870_2 : decode cJ2_getChars_46870 2 = .ok (.aload_n 3, 1) := by decide +kernel
theorem dJ2_getChars_46870_3 : decode cJ2_getChars_46870 3 = .ok (.invokestatic 96, 3) := by decide +kernel
theorem dJ2_getChars_46870_6 : decode cJ2_getChars_46870 6 = .ok (.iload_n 0, 1) := by decide +kernel
theorem dJ2_getChars_46870_7 : decode cJ2_getChars_46870 7 = .ok (.iload_n 2, 1) := by decide +kernel
theorem dJ2_getChars_46870_8 : decode cJ2_getChars_46870 8 = .ok (.aload_n 3, 1) := by decide +kernel
theorem dJ2_getChars_46870_9 : decode cJ2_getChars_46870 9 = .ok (.invokestatic 393, 3) := by decide +kernel
theorem dJ2_getChars_46870_12 : decode cJ2_getChars_46870 12 = .ok (.istore 4, 2) := by decide +kernel
theorem dJ2_getChars_46870_14 : decode cJ2_getChars_46870 14 = .ok (.getstatic 44, 3) := by decide +kernel
theorem dJ2_getChars_46870_17 : decode cJ2_getChars_46870 17 = .ok (.ifCond .ne 17, 3) := by decide +kernel
theorem dJ2_getChars_46870_20 : decode cJ2_getChars_46870 20 = .ok (.iload_n 1, 1) := by decide +kernel
theorem dJ2_getChars_46870_21 : decode cJ2_getChars_46870 21 = .ok (.iload 4, 2) := by decide +kernel
theorem dJ2_getChars_46870_23 : decode cJ2_getChars_46870 23 = .ok (.if_icmp .eq 11, 3) := by decide +kernel
theorem dJ2_getChars_46870_26 : decode cJ2_getChars_46870 26 = .ok (.new 52, 3) := by decide +kernel
theorem dJ2_getChars_46870_29 : decode cJ2_getChars_46870 29 = .ok (.dup, 1) := by decide +kernel
theorem dJ2_getChars_46870_30 : decode cJ2_getChars_46870 30 = .ok (.invokespecial 66, 3) := by decide +kernel
theorem dJ2_getChars_46870_33 : decode cJ2_getChars_46870 33 = .ok (.athrow, 1) := by decide +kernel
theorem dJ2_getChars_46870_34 : decode cJ2_getChars_46870 34 = .ok (.iload 4, 2) := by decide +kernel
theorem dJ2_getChars_46870_36 : decode cJ2_getChars_46870 36 = .ok (.ireturn, 1) := by decide +kernel
theorem dJ2_putCharsAt_cd4e5_0 : decode cJ2_putCharsAt_cd4e5 0 = .ok (.iload_n 1, 1) := by decide +kernel
theorem dJ2_putCharsAt_cd4e5_1 : decode cJ2_putCharsAt_cd4e5 1 = .ok (.iconst 4, 1) := by decide +kernel
theorem dJ2_putCharsAt_cd4e5_2 : decode cJ2_putCharsAt_cd4e5 2 = .ok (.iadd, 1) := by decide +kernel
theorem dJ2_putCharsAt_cd4e5_3 : decode cJ2_putCharsAt_cd4e5 3 = .ok (.istore 6, 2) := by decide +kernel
theorem dJ2_putCharsAt_cd4e5_5 : decode cJ2_putCharsAt_cd4e5 5 = .ok (.iload_n 1, 1) := by decide +kernel
theorem dJ2_putCharsAt_cd4e5_6 : decode cJ2_putCharsAt_cd4e5 6 = .ok (.iload 6, 2) := by decide +kernel
theorem dJ2_putCharsAt_cd4e5_8 : decode cJ2_putCharsAt_cd4e5 8 = .ok (.aload_n 0, 1) := by decide +kernel
theorem dJ2_putCharsAt_cd4e5_9 : decode cJ2_putCharsAt_cd4e5 9 = .ok (.invokestatic 96, 3) := by decide +kernel
theorem dJ2_putCharsAt_cd4e5_12 : decode cJ2_putCharsAt_cd4e5 12 = .ok (.aload_n 0, 1) := by decide +kernel
theorem dJ2_putCharsAt_cd4e5_13 : decode cJ2_putCharsAt_cd4e5 13 = .ok (.iload_n 1, 1) := by decide +kernel
theorem dJ2_putCharsAt_cd4e5_14 : decode cJ2_putCharsAt_cd4e5 14 = .ok (.iinc 1 1, 3) := by decide +kernel
theorem dJ2_putCharsAt_cd4e5_17 : decode cJ2_putCharsAt_cd4e5 17 = .ok (.iload_n 2, 1) := by decide +kernel
theorem dJ2_putCharsAt_cd4e5_18 : decode cJ2_putCharsAt_cd4e5 18 = .ok (.invokestatic 111, 3) := by decide +kernel
theorem dJ2_putCharsAt_cd4e5_21 : decode cJ2_putCharsAt_cd4e5 21 = .ok (.aload_n 0, 1) := by decide +kernel
theorem dJ2_putCharsAt_cd4e5_22 : decode cJ2_putCharsAt_cd4e5 22 = .ok (.iload_n 1, 1) := by decide +kernel
theorem dJ2_putCharsAt_cd4e5_23 : decode cJ2_putCharsAt_cd4e5 23 = .ok (.iinc 1 1, 3) := by decide +kernel
theorem dJ2_putCharsAt_cd4e5_26 : decode cJ2_putCharsAt_cd4e5 26 = .ok (.iload_n 3, 1) := by decide +kernel
theorem dJ2_putCharsAt_cd4e5_27 : decode cJ2_putCharsAt_cd4e5 27 = .ok (.invokestatic 111, 3) := by decide +kernel
theorem dJ2_putCharsAt_cd4e5_30 : decode cJ2_putCharsAt_cd4e5 30 = .ok (.aload_n 0, 1) := by decide +kernel
theorem dJ2_putCharsAt_cd4e5_31 : decode cJ2_putCharsAt_cd4e5 31 = .ok (.iload_n 1, 1) := by decide +kernel
theorem dJ2_putCharsAt_cd4e5_32 : decode cJ2_putCharsAt_cd4e5 32 = .ok (.iinc 1 1, 3) := by decide +kernel
theorem dJ2_putCharsAt_cd4e5_35 : decode cJ2_putCharsAt_cd4e5 35 = .ok (.iload 4, 2) := by decide +kernel
theorem dJ2_putCharsAt_cd4e5_37 : decode cJ2_putCharsAt_cd4e5 37 = .ok (.invokestatic 111, 3) := by decide +kernel
theorem dJ2_putCharsAt_cd4e5_40 : decode cJ2_putCharsAt_cd4e5 40 = .ok (.aload_n 0, 1) := by decide +kernel
theorem dJ2_putCharsAt_cd4e5_41 : decode cJ2_putCharsAt_cd4e5 41 = .ok (.iload_n 1, 1) := by decide +kernel
theorem dJ2_putCharsAt_cd4e5_42 : decode cJ2_putCharsAt_cd4e5 42 = .ok (.iinc 1 1, 3) := by decide +kernel
theorem dJ2_putCharsAt_cd4e5_45 : decode cJ2_putCharsAt_cd4e5 45 = .ok (.iload 5, 2) := by decide +kernel
theorem dJ2_putCharsAt_cd4e5_47 : decode cJ2_putCharsAt_cd4e5 47 = .ok (.invokestatic 111, 3) := by decide +kernel
theorem dJ2_putCharsAt_cd4e5_50 : decode cJ2_putCharsAt_cd4e5 50 = .ok (.getstatic 44, 3) := by decide +kernel
theorem dJ2_putCharsAt_cd4e5_53 : decode cJ2_putCharsAt_cd4e5 53 = .ok (.ifCond .ne 17, 3) := by decide +kernel
theorem dJ2_putCharsAt_cd4e5_56 : decode cJ2_putCharsAt_cd4e5 56 = .ok (.iload_n 1, 1) := by decide +kernel
theorem dJ2_putCharsAt_cd4e5_57 : decode cJ2_putCharsAt_cd4e5 57 = .ok (.iload 6, 2) := by decide +kernel
theorem dJ2_putCharsAt_cd4e5_59 : decode cJ2_putCharsAt_cd4e5 59 = .ok (.if_icmp .eq 11, 3) := by decide +kernel
theorem dJ2_putCharsAt_cd4e5_62 : decode cJ2_putCharsAt_cd4e5 62 = .ok (.new 52, 3) := by decide +kernel
theorem dJ2_putCharsAt_cd4e5_65 : decode cJ2_putCharsAt_cd4e5 65 = .ok (.dup, 1) := by decide +kernel
theorem dJ2_putCharsAt_cd4e5_66 : decode cJ2_putCharsAt_cd4e5 66 = .ok (.invokespecial 66, 3) := by decide +kernel
theorem dJ2_putCharsAt_cd4e5_69 : decode cJ2_putCharsAt_cd4e5 69 = .ok (.athrow, 1) := by decide +kernel
theorem dJ2_putCharsAt_cd4e5_70 : decode cJ2_putCharsAt_cd4e5 70 = .ok (.iload 6, 2) := by decide +kernel
theorem dJ2_putCharsAt_cd4e5_72 : decode cJ2_putCharsAt_cd4e5 72 = .ok (.ireturn, 1) := by decide +kernel
theorem dJ2_charAt_3b067_0 : decode cJ2_charAt_3b067 0 = .ok (.iload_n 1, 1) := by decide +kernel
theorem dJ2_charAt_3b067_1 : decode cJ2_charAt_3b067 1 = .ok (.aload_n 0, 1) := by decide +kernel
theorem dJ2_charAt_3b067_2 : decode cJ2_charAt_3b067 2 = .ok (.invokestatic 67, 3) := by decide +kernel
theorem dJ2_charAt_3b067_5 : decode cJ2_charAt_3b067 5 = .ok (.aload_n 0, 1) := by decide +kernel
theorem dJ2_charAt_3b067_6 : decode cJ2_charAt_3b067 6 = .ok (.iload_n 1, 1) := by decide +kernel
theorem dJ2_charAt_3b067_7 : decode cJ2_charAt_3b067 7 = .ok (.invokestatic 71, 3) := by decide +kernel
theorem dJ2_charAt_3b067_10 : decode cJ2_charAt_3b067 10 = .ok (.ireturn, 1) := by decide +kernel
theorem dJ2_inflate_0e8fd_0 : decode cJ2_inflate_0e8fd 0 = .ok (.iload_n 3, 1) := by decide +kernel
theorem dJ2_inflate_0e8fd_1 : decode cJ2_inflate_0e8fd 1 = .ok (.iload 4, 2) := by decide +kernel
theorem dJ2_inflate_0e8fd_3 : decode cJ2_inflate_0e8fd 3 = .ok (.aload_n 2, 1) := by decide +kernel
theorem dJ2_inflate_0e8fd_4 : decode cJ2_inflate_0e8fd 4 = .ok (.invokestatic 173, 3) := by decide +kernel
theorem dJ2_inflate_0e8fd_7 : decode cJ2_inflate_0e8fd 7 = .ok (.iconst 0, 1) := by decide +kernel
theorem dJ2_inflate_0e8fd_8 : decode cJ2_inflate_0e8fd 8 = .ok (.istore 5, 2) := by decide +kernel
theorem dJ2_inflate_0e8fd_10 : decode cJ2_inflate_0e8fd 10 = .ok (.iload 5, 2) := by decide +kernel
theorem dJ2_inflate_0e8fd_12 : decode cJ2_inflate_0e8fd 12 = .ok (.iload 4, 2) := by decide +kernel
theorem dJ2_inflate_0e8fd_14 : decode cJ2_inflate_0e8fd 14 = .ok (.if_icmp .ge 27, 3) := by decide +kernel
theorem dJ2_inflate_0e8fd_17 : decode cJ2_inflate_0e8fd 17 = .ok (.aload_n 2, 1) := by decide +kernel
theorem dJ2_inflate_0e8fd_18 : decode cJ2_inflate_0e8fd 18 = .ok (.iload_n 3, 1) := by decide +kernel
theorem dJ2_inflate_0e8fd_19 : decode cJ2_inflate_0e8fd 19 = .ok (.iinc 3 1, 3) := by decide +kernel
theorem dJ2_inflate_0e8fd_22 : decode cJ2_inflate_0e8fd 22 = .ok (.aload_n 0, 1) := by decide +kernel
theorem dJ2_inflate_0e8fd_23 : decode cJ2_inflate_0e8fd 23 = .ok (.iload_n 1, 1) := by decide +kernel
theorem dJ2_inflate_0e8fd_24 : decode cJ2_inflate_0e8fd 24 = .ok (.iinc 1 1, 3) := by decide +kernel
theorem dJ2_inflate_0e8fd_27 : decode cJ2_inflate_0e8fd 27 = .ok (.baload, 1) := by decide +kernel
theorem dJ2_inflate_0e8fd_28 : decode cJ2_inflate_0e8fd 28 = .ok (.sipush 255, 3) := by decide +kernel
theorem dJ2_inflate_0e8fd_31 : decode cJ2_inflate_0e8fd 31 = .ok (.iand, 1) := by decide +kernel
theorem dJ2_inflate_0e8fd_32 : decode cJ2_inflate_0e8fd 32 = .ok (.invokestatic 111, 3) := by decide +kernel
theorem dJ2_inflate_0e8fd_35 : decode cJ2_inflate_0e8fd 35 = .ok (.iinc 5 1, 3) := by decide +kernel
theorem dJ2_inflate_0e8fd_38 : decode cJ2_inflate_0e8fd 38 = .ok (.goto (-28), 3) := by decide +kernel
theorem dJ2_inflate_0e8fd_41 : decode cJ2_inflate_0e8fd 41 = .ok (.return_, 1) := by decide +kernel
theorem dJ2_getChars_ba4f3_0 : decode cJ2_getChars_ba4f3 0 = .ok (.iload_n 1, 1) := by decide +kernel
theorem dJ2_getChars_ba4f3_1 : decode cJ2_getChars_ba4f3 1 = .ok (.istore 5, 2) := by decide +kernel
theorem dJ2_getChars_ba4f3_3 : decode cJ2_getChars_ba4f3 3 = .ok (.iload_n 0, 1) := by decide +kernel
theorem dJ2_getChars_ba4f3_4 : decode cJ2_getChars_ba4f3 4 = .ok (.ifCond .ge 7, 3) := by decide +kernel
theorem dJ2_getChars_ba4f3_7 : decode cJ2_getChars_ba4f3 7 = .ok (.iconst 1, 1) := by decide +kernel
theorem dJ2_getChars_ba4f3_8 : decode cJ2_getChars_ba4f3 8 = .ok (.goto 4, 3) := by decide +kernel
theorem dJ2_getChars_ba4f3_11 : decode cJ2_getChars_ba4f3 11 = .ok (.iconst 0, 1) := by decide +kernel
theorem dJ2_getChars_ba4f3_12 : decode cJ2_getChars_ba4f3 12 = .ok (.istore 6, 2) := by decide +kernel
theorem dJ2_getChars_ba4f3_14 : decode cJ2_getChars_ba4f3 14 = .ok (.iload 6, 2) := by decide +kernel
theorem dJ2_getChars_ba4f3_16 : decode cJ2_getChars_ba4f3 16 = .ok (.ifCond .ne 6, 3) := by decide +kernel
theorem dJ2_getChars_ba4f3_19 : decode cJ2_getChars_ba4f3 19 = .ok (.iload_n 0, 1) := by decide +kernel
theorem dJ2_getChars_ba4f3_20 : decode cJ2_getChars_ba4f3 20 = .ok (.ineg, 1) := by decide +kernel
theorem dJ2_getChars_ba4f3_21 : decode cJ2_getChars_ba4f3 21 = .ok (.istore_n 0, 1) := by decide +kernel
theorem dJ2_getChars_ba4f3_22 : decode cJ2_getChars_ba4f3 22 = .ok (.iload_n 0, 1) := by decide +kernel
theorem dJ2_getChars_ba4f3_23 : decode cJ2_getChars_ba4f3 23 = .ok (.bipush (-100), 2) := by decide +kernel
theorem dJ2_getChars_ba4f3_25 : decode cJ2_getChars_ba4f3 25 = .ok (.if_icmp .gt 51, 3) := by decide +kernel
theorem dJ2_getChars_ba4f3_28 : decode cJ2_getChars_ba4f3 28 = .ok (.iload_n 0, 1) := by decide +kernel
theorem dJ2_getChars_ba4f3_29 : decode cJ2_getChars_ba4f3 29 = .ok (.bipush 100, 2) := by decide +kernel
theorem dJ2_getChars_ba4f3_31 : decode cJ2_getChars_ba4f3 31 = .ok (.idiv, 1) := by decide +kernel
theorem dJ2_getChars_ba4f3_32 : decode cJ2_getChars_ba4f3 32 = .ok (.istore_n 3, 1) := by decide +kernel
theorem dJ2_getChars_ba4f3_33 : decode cJ2_getChars_ba4f3 33 = .ok (.iload_n 3, 1) := by decide +kernel
theorem dJ2_getChars_ba4f3_34 : decode cJ2_getChars_ba4f3 34 = .ok (.bipush 100, 2) := by decide +kernel
theorem dJ2_getChars_ba4f3_36 : decode cJ2_getChars_ba4f3 36 = .ok (.imul, 1) := by decide +kernel
theorem dJ2_getChars_ba4f3_37 : decode cJ2_getChars_ba4f3 37 = .ok (.iload_n 0, 1) := by decide +kernel
theorem dJ2_getChars_ba4f3_38 : decode cJ2_getChars_ba4f3 38 = .ok (.isub, 1) := by decide +kernel
theorem dJ2_getChars_ba4f3_39 : decode cJ2_getChars_ba4f3 39 = .ok (.istore 4, 2) := by decide +kernel
theorem dJ2_getChars_ba4f3_41 : decode cJ2_getChars_ba4f3 41 = .ok (.iload_n 3, 1) := by decide +kernel
theorem dJ2_getChars_ba4f3_42 : decode cJ2_getChars_ba4f3 42 = .ok (.istore_n 0, 1) := by decide +kernel
theorem dJ2_getChars_ba4f3_43 : decode cJ2_getChars_ba4f3 43 = .ok (.aload_n 2, 1) := by decide +kernel
theorem dJ2_getChars_ba4f3_44 : decode cJ2_getChars_ba4f3 44 = .ok (.iinc 5 (-1), 3) := by decide +kernel
theorem dJ2_getChars_ba4f3_47 : decode cJ2_getChars_ba4f3 47 = .ok (.iload 5, 2) := by decide +kernel
theorem dJ2_getChars_ba4f3_49 : decode cJ2_getChars_ba4f3 49 = .ok (.getstatic 403, 3) := by decide +kernel
theorem dJ2_getChars_ba4f3_52 : decode cJ2_getChars_ba4f3 52 = .ok (.iload 4, 2) := by decide +kernel
theorem dJ2_getChars_ba4f3_54 : decode cJ2_getChars_ba4f3 54 = .ok (.baload, 1) := by decide +kernel
theorem dJ2_getChars_ba4f3_55 : decode cJ2_getChars_ba4f3 55 = .ok (.invokestatic 111, 3) := by decide +kernel
theorem dJ2_getChars_ba4f3_58 : decode cJ2_getChars_ba4f3 58 = .ok (.aload_n 2, 1) := by decide +kernel
theorem dJ2_getChars_ba4f3_59 : decode cJ2_getChars_ba4f3 59 = .ok (.iinc 5 (-1), 3) := by decide +kernel
theorem dJ2_getChars_ba4f3_62 : decode cJ2_getChars_ba4f3 62 = .ok (.iload 5, 2) := by decide +kernel
theorem dJ2_getChars_ba4f3_64 : decode cJ2_getChars_ba4f3 64 = .ok (.getstatic 407, 3) := by decide +kernel
theorem dJ2_getChars_ba4f3_67 : decode cJ2_getChars_ba4f3 67 = .ok (.iload 4, 2) := by decide +kernel
theorem dJ2_getChars_ba4f3_69 : decode cJ2_getChars_ba4f3 69 = .ok (.baload, 1) := by decide +kernel
theorem dJ2_getChars_ba4f3_70 : decode cJ2_getChars_ba4f3 70 = .ok (.invokestatic 111, 3) := by decide +kernel
theorem dJ2_getChars_ba4f3_73 : decode cJ2_getChars_ba4f3 73 = .ok (.goto (-51), 3) := by decide +kernel
theorem dJ2_getChars_ba4f3_76 : decode cJ2_getChars_ba4f3 76 = .ok (.aload_n 2, 1) := by decide +kernel
theorem dJ2_getChars_ba4f3_77 : decode cJ2_getChars_ba4f3 77 = .ok (.iinc 5 (-1), 3) := by decide +kernel
theorem dJ2_getChars_ba4f3_80 : decode cJ2_getChars_ba4f3 80 = .ok (.iload 5, 2) := by decide +kernel
theorem dJ2_getChars_ba4f3_82 : decode cJ2_getChars_ba4f3 82 = .ok (.getstatic 403, 3) := by decide +kernel
theorem dJ2_getChars_ba4f3_85 : decode cJ2_getChars_ba4f3 85 = .ok (.iload_n 0, 1) := by decide +kernel
theorem dJ2_getChars_ba4f3_86 : decode cJ2_getChars_ba4f3 86 = .ok (.ineg, 1) := by decide +kernel
theorem dJ2_getChars_ba4f3_87 : decode cJ2_getChars_ba4f3 87 = .ok (.baload, 1) := by decide +kernel
theorem dJ2_getChars_ba4f3_88 : decode cJ2_getChars_ba4f3 88 = .ok (.invokestatic 111, 3) := by decide +kernel
theorem dJ2_getChars_ba4f3_91 : decode cJ2_getChars_ba4f3 91 = .ok (.iload_n 0, 1) := by decide +kernel
theorem dJ2_getChars_ba4f3_92 : decode cJ2_getChars_ba4f3 92 = .ok (.bipush (-9), 2) := by decide +kernel
theorem dJ2_getChars_ba4f3_94 : decode cJ2_getChars_ba4f3 94 = .ok (.if_icmp .ge 18, 3) := by decide +kernel
theorem dJ2_getChars_ba4f3_97 : decode cJ2_getChars_ba4f3 97 = .ok (.aload_n 2, 1) := by decide +kernel
theorem dJ2_getChars_ba4f3_98 : decode cJ2_getChars_ba4f3 98 = .ok (.iinc 5 (-1), 3) := by decide +kernel
theorem dJ2_getChars_ba4f3_101 : decode cJ2_getChars_ba4f3 101 = .ok (.iload 5, 2) := by decide +kernel
theorem dJ2_getChars_ba4f3_103 : decode cJ2_getChars_ba4f3 103 = .ok (.getstatic 407, 3) := by decide +kernel
theorem dJ2_getChars_ba4f3_106 : decode cJ2_getChars_ba4f3 106 = .ok (.iload_n 0, 1) := by decide +kernel
theorem dJ2_getChars_ba4f3_107 : decode cJ2_getChars_ba4f3 107 = .ok (.ineg, 1) := by decide +kernel
theorem dJ2_getChars_ba4f3_108 : decode cJ2_getChars_ba4f3 108 = .ok (.baload, 1) := by decide +kernel
theorem dJ2_getChars_ba4f3_109 : decode cJ2_getChars_ba4f3 109 = .ok (.invokestatic 111, 3) := by decide +kernel
theorem dJ2_getChars_ba4f3_112 : decode cJ2_getChars_ba4f3 112 = .ok (.iload 6, 2) := by decide +kernel
theorem dJ2_getChars_ba4f3_114 : decode cJ2_getChars_ba4f3 114 = .ok (.ifCond .eq 14, 3) := by decide +kernel
theorem dJ2_getChars_ba4f3_117 : decode cJ2_getChars_ba4f3 117 = .ok (.aload_n 2, 1) := by decide +kernel
theorem dJ2_getChars_ba4f3_118 : decode cJ2_getChars_ba4f3 118 = .ok (.iinc 5 (-1), 3) := by decide +kernel
theorem dJ2_getChars_ba4f3_121 : decode cJ2_getChars_ba4f3 121 = .ok (.iload 5, 2) := by decide +kernel
theorem dJ2_getChars_ba4f3_123 : decode cJ2_getChars_ba4f3 123 = .ok (.bipush 45, 2) := by decide +kernel
theorem dJ2_getChars_ba4f3_125 : decode cJ2_getChars_ba4f3 125 = .ok (.invokestatic 111, 3) := by decide +kernel
theorem dJ2_getChars_ba4f3_128 : decode cJ2_getChars_ba4f3 128 = .ok (.iload 5, 2) := by decide +kernel
theorem dJ2_getChars_ba4f3_130 : decode cJ2_getChars_ba4f3 130 = .ok (.ireturn, 1) := by decide +kernel
theorem dJ2_checkIndex_2214a_0 : decode cJ2_checkIndex_2214a 0 = .ok (.iload_n 0, 1) := by decide +kernel
theorem dJ2_checkIndex_2214a_1 : decode cJ2_checkIndex_2214a 1 = .ok (.aload_n 1, 1) := by decide +kernel
theorem dJ2_checkIndex_2214a_2 : decode cJ2_checkIndex_2214a 2 = .ok (.invokestatic 48, 3) := by decide +kernel
theorem dJ2_checkIndex_2214a_5 : decode cJ2_checkIndex_2214a 5 = .ok (.invokestatic 414, 3) := by decide +kernel
theorem dJ2_checkIndex_2214a_8 : decode cJ2_checkIndex_2214a 8 = .ok (.return_, 1) := by decide +kernel
theorem dJ2_checkBoundsBeginEnd_d044e_0 : decode cJ2_checkBoundsBeginEnd_d044e 0 = .ok (.iload_n 0, 1) := by decide +kernel
theorem dJ2_checkBoundsBeginEnd_d044e_1 : decode cJ2_checkBoundsBeginEnd_d044e 1 = .ok (.iload_n 1, 1) := by decide +kernel
theorem dJ2_checkBoundsBeginEnd_d044e_2 : decode cJ2_checkBoundsBeginEnd_d044e 2 = .ok (.aload_n 2, 1) := by decide +kernel
theorem dJ2_checkBoundsBeginEnd_d044e_3 : decode cJ2_checkBoundsBeginEnd_d044e 3 = .ok (.invokestatic 48, 3) := by decide +kernel
theorem dJ2_checkBoundsBeginEnd_d044e_6 : decode cJ2_checkBoundsBeginEnd_d044e 6 = .ok (.invokestatic 241, 3) := by decide +kernel
theorem dJ2_checkBoundsBeginEnd_d044e_9 : decode cJ2_checkBoundsBeginEnd_d044e 9 = .ok (.return_, 1) := by decide +kernel
theorem dJ2_checkBoundsOffCount_d044e_0 : decode cJ2_checkBoundsOffCount_d044e 0 = .ok (.iload_n 0, 1) := by decide +kernel
theorem dJ2_checkBoundsOffCount_d044e_1 : decode cJ2_checkBoundsOffCount_d044e 1 = .ok (.iload_n 1, 1) := by decide +kernel
theorem dJ2_checkBoundsOffCount_d044e_2 : decode cJ2_checkBoundsOffCount_d044e 2 = .ok (.aload_n 2, 1) := by decide +kernel
theorem dJ2_checkBoundsOffCount_d044e_3 : decode cJ2_checkBoundsOffCount_d044e 3 = .ok (.invokestatic 48, 3) := by decide +kernel
theorem dJ2_checkBoundsOffCount_d044e_6 : decode cJ2_checkBoundsOffCount_d044e 6 = .ok (.invokestatic 419, 3) := by decide +kernel
theorem dJ2_checkBoundsOffCount_d044e_9 : decode cJ2_checkBoundsOffCount_d044e 9 = .ok (.pop, 1) := by decide +kernel
theorem dJ2_checkBoundsOffCount_d044e_10 : decode cJ2_checkBoundsOffCount_d044e 10 = .ok (.return_, 1) := by decide +kernel
theorem dJ7_rangeCheck_23922_0 : decode cJ7_rangeCheck_23922 0 = .ok (.iload_n 1, 1) := by decide +kernel
theorem dJ7_rangeCheck_23922_1 : decode cJ7_rangeCheck_23922 1 = .ok (.iload_n 2, 1) := by decide +kernel
theorem dJ7_rangeCheck_23922_2 : decode cJ7_rangeCheck_23922 2 = .ok (.if_icmp .le 44, 3) := by decide +kernel
theorem dJ7_rangeCheck_23922_5 : decode cJ7_rangeCheck_23922 5 = .ok (.new 43, 3) := by decide +kernel
theorem dJ7_rangeCheck_23922_8 : decode cJ7_rangeCheck_23922 8 = .ok (.dup, 1) := by decide +kernel
theorem dJ7_rangeCheck_23922_9 : decode cJ7_rangeCheck_23922 9 = .ok (.new 45, 3) := by decide +kernel
theorem dJ7_rangeCheck_23922_12 : decode cJ7_rangeCheck_23922 12 = .ok (.dup, 1) := by decide +kernel
theorem dJ7_rangeCheck_23922_13 : decode cJ7_rangeCheck_23922 13 = .ok (.invokespecial 47, 3) := by decide +kernel
theorem dJ7_rangeCheck_23922_16 : decode cJ7_rangeCheck_23922 16 = .ok (.ldc 48, 2) := by decide +kernel
theorem dJ7_rangeCheck_23922_18 : decode cJ7_rangeCheck_23922 18 = .ok (.invokevirtual 50, 3) := by decide +kernel
theorem dJ7_rangeCheck_23922_21 : decode cJ7_rangeCheck_23922 21 = .ok (.iload_n 1, 1) := by decide +kernel
theorem dJ7_rangeCheck_23922_22 : decode cJ7_rangeCheck_23922 22 = .ok (.invokevirtual 54, 3) := by decide +kernel
theorem dJ7_rangeCheck_23922_25 : decode cJ7_rangeCheck_23922 25 = .ok (.ldc 57, 2) := by decide +kernel
theorem dJ7_rangeCheck_23922_27 : decode cJ7_rangeCheck_23922 27 = .ok (.invokevirtual 50, 3) := by decide +kernel
theorem dJ7_rangeCheck_23922_30 : decode cJ7_rangeCheck_23922 30 = .ok (.iload_n 2, 1) := by decide +kernel
theorem dJ7_rangeCheck_23922_31 : decode cJ7_rangeCheck_23922 31 = .ok (.invokevirtual 54, 3) := by decide +kernel
theorem dJ7_rangeCheck_23922_34 : decode cJ7_rangeCheck_23922 34 = .ok (.ldc 59, 2) := by decide +kernel
theorem dJ7_rangeCheck_23922_36 : decode cJ7_rangeCheck_23922 36 = .ok (.invokevirtual 50, 3) := by decide +kernel
theorem dJ7_rangeCheck_23922_39 : decode cJ7_rangeCheck_23922 39 = .ok (.invokevirtual 61, 3) := by decide +kernel
theorem dJ7_rangeCheck_23922_42 : decode cJ7_rangeCheck_23922 42 = .ok (.invokespecial 65, 3) := by decide +kernel
theorem dJ7_rangeCheck_23922_45 : decode cJ7_rangeCheck_23922 45 = .ok (.athrow, 1) := by decide +kernel
theorem dJ7_rangeCheck_23922_46 : decode cJ7_rangeCheck_23922 46 = .ok (.iload_n 1, 1) := by decide +kernel
theorem dJ7_rangeCheck_23922_47 : decode cJ7_rangeCheck_23922 47 = .ok (.ifCond .ge 12, 3) := by decide +kernel
theorem dJ7_rangeCheck_23922_50 : decode cJ7_rangeCheck_23922 50 = .ok (.new 68, 3) := by decide +kernel
theorem dJ7_rangeCheck_23922_53 : decode cJ7_rangeCheck_23922 53 = .ok (.dup, 1) := by decide +kernel
theorem dJ7_rangeCheck_23922_54 : decode cJ7_rangeCheck_23922 54 = .ok (.iload_n 1, 1) := by decide +kernel
theorem dJ7_rangeCheck_23922_55 : decode cJ7_rangeCheck_23922 55 = .ok (.invokespecial 70, 3) := by decide +kernel
theorem dJ7_rangeCheck_23922_58 : decode cJ7_rangeCheck_23922 58 = .ok (.athrow, 1) := by decide +kernel
theorem dJ7_rangeCheck_23922_59 : decode cJ7_rangeCheck_23922 59 = .ok (.iload_n 2, 1) := by decide +kernel
theorem dJ7_rangeCheck_23922_60 : decode cJ7_rangeCheck_23922 60 = .ok (.iload_n 0, 1) := by decide +kernel
theorem dJ7_rangeCheck_23922_61 : decode cJ7_rangeCheck_23922 61 = .ok (.if_icmp .le 12, 3) := by decide +kernel
theorem dJ7_rangeCheck_23922_64 : decode cJ7_rangeCheck_23922 64 = .ok (.new 68, 3) := by decide +kernel
theorem dJ7_rangeCheck_23922_67 : decode cJ7_rangeCheck_23922 67 = .ok (.dup, 1) := by decide +kernel
theorem dJ7_rangeCheck_23922_68 : decode cJ7_rangeCheck_23922 68 = .ok (.iload_n 2, 1) := by decide +kernel
theorem dJ7_rangeCheck_23922_69 : decode cJ7_rangeCheck_23922 69 = .ok (.invokespecial 70, 3) := by decide +kernel
theorem dJ7_rangeCheck_23922_72 : decode cJ7_rangeCheck_23922 72 = .ok (.athrow, 1) := by decide +kernel
theorem dJ7_rangeCheck_23922_73 : decode cJ7_rangeCheck_23922 73 = .ok (.return_, 1) := by decide +kernel
theorem dJ7_fill_eb02e_0 : decode cJ7_fill_eb02e 0 = .ok (.aload_n 0, 1) := by decide +kernel
theorem dJ7_fill_eb02e_1 : decode cJ7_fill_eb02e 1 = .ok (.arraylength, 1) := by decide +kernel
theorem dJ7_fill_eb02e_2 : decode cJ7_fill_eb02e 2 = .ok (.iload_n 1, 1) := by decide +kernel
theorem dJ7_fill_eb02e_3 : decode cJ7_fill_eb02e 3 = .ok (.iload_n 2, 1) := by decide +kernel
theorem dJ7_fill_eb02e_4 : decode cJ7_fill_eb02e 4 = .ok (.invokestatic 13, 3) := by decide +kernel
theorem dJ7_fill_eb02e_7 : decode cJ7_fill_eb02e 7 = .ok (.iload_n 1, 1) := by decide +kernel
theorem dJ7_fill_eb02e_8 : decode cJ7_fill_eb02e 8 = .ok (.istore 4, 2) := by decide +kernel
theorem dJ7_fill_eb02e_10 : decode cJ7_fill_eb02e 10 = .ok (.iload 4, 2) := by decide +kernel
theorem dJ7_fill_eb02e_12 : decode cJ7_fill_eb02e 12 = .ok (.iload_n 2, 1) := by decide +kernel
theorem dJ7_fill_eb02e_13 : decode cJ7_fill_eb02e 13 = .ok (.if_icmp .ge 14, 3) := by decide +kernel
theorem dJ7_fill_eb02e_16 : decode cJ7_fill_eb02e 16 = .ok (.aload_n 0, 1) := by decide +kernel
theorem dJ7_fill_eb02e_17 : decode cJ7_fill_eb02e 17 = .ok (.iload 4, 2) := by decide +kernel
theorem dJ7_fill_eb02e_19 : decode cJ7_fill_eb02e 19 = .ok (.iload_n 3, 1) := by decide +kernel
theorem dJ7_fill_eb02e_20 : decode cJ7_fill_eb02e 20 = .ok (.bastore, 1) := by decide +kernel
theorem dJ7_fill_eb02e_21 : decode cJ7_fill_eb02e 21 = .ok (.iinc 4 1, 3) := by decide +kernel
theorem dJ7_fill_eb02e_24 : decode cJ7_fill_eb02e 24 = .ok (.goto (-14), 3) := by decide +kernel
theorem dJ7_fill_eb02e_27 : decode cJ7_fill_eb02e 27 = .ok (.return_, 1) := by decide +kernel
theorem dJ7_copyOf_9075b_0 : decode cJ7_copyOf_9075b 0 = .ok (.iload_n 1, 1) := by decide +kernel
theorem dJ7_copyOf_9075b_1 : decode cJ7_copyOf_9075b 1 = .ok (.aload_n 0, 1) := by decide +kernel
theorem dJ7_copyOf_9075b_2 : decode cJ7_copyOf_9075b 2 = .ok (.arraylength, 1) := by decide +kernel
theorem dJ7_copyOf_9075b_3 : decode cJ7_copyOf_9075b 3 = .ok (.if_icmp .ne 11, 3) := by decide +kernel
theorem dJ7_copyOf_9075b_6 : decode cJ7_copyOf_9075b 6 = .ok (.aload_n 0, 1) := by decide +kernel
theorem dJ7_copyOf_9075b_7 : decode cJ7_copyOf_9075b 7 = .ok (.invokevirtual 310, 3) := by decide +kernel
theorem dJ7_copyOf_9075b_10 : decode cJ7_copyOf_9075b 10 = .ok (.checkcast 311, 3) := by decide +kernel
theorem dJ7_copyOf_9075b_13 : decode cJ7_copyOf_9075b 13 = .ok (.areturn, 1) := by decide +kernel
theorem dJ7_copyOf_9075b_14 : decode cJ7_copyOf_9075b 14 = .ok (.iload_n 1, 1) := by decide +kernel
theorem dJ7_copyOf_9075b_15 : decode cJ7_copyOf_9075b 15 = .ok (.newarray .byte, 2) := by decide +kernel
theorem dJ7_copyOf_9075b_17 : decode cJ7_copyOf_9075b 17 = .ok (.astore_n 2, 1) := by decide +kernel
theorem dJ7_copyOf_9075b_18 : decode cJ7_copyOf_9075b 18 = .ok (.aload_n 0, 1) := by decide +kernel
theorem dJ7_copyOf_9075b_19 : decode cJ7_copyOf_9075b 19 = .ok (.iconst 0, 1) := by decide +kernel
theorem dJ7_copyOf_9075b_20 : decode cJ7_copyOf_9075b 20 = .ok (.aload_n 2, 1) := by decide +kernel
theorem dJ7_copyOf_9075b_21 : decode cJ7_copyOf_9075b 21 = .ok (.iconst 0, 1) := by decide +kernel
theorem dJ7_copyOf_9075b_22 : decode cJ7_copyOf_9075b 22 = .ok (.aload_n 0, 1) := by decide +kernel
theorem dJ7_copyOf_9075b_23 : decode cJ7_copyOf_9075b 23 = .ok (.arraylength, 1) := by decide +kernel
theorem dJ7_copyOf_9075b_24 : decode cJ7_copyOf_9075b 24 = .ok (.iload_n 1, 1) := by decide +kernel
theorem dJ7_copyOf_9075b_25 : decode cJ7_copyOf_9075b 25 = .ok (.invokestatic 304, 3) := by decide +kernel
theorem dJ7_copyOf_9075b_28 : decode cJ7_copyOf_9075b 28 = .ok (.invokestatic 150, 3) := by decide +kernel
theorem dJ7_copyOf_9075b_31 : decode cJ7_copyOf_9075b 31 = .ok (.aload_n 2, 1) := by decide +kernel
theorem dJ7_copyOf_9075b_32 : decode cJ7_copyOf_9075b 32 = .ok (.areturn, 1) := by decide +kernel
theorem dJ7_checkLength_df160_0 : decode cJ7_checkLength_df160 0 = .ok (.iload_n 1, 1) := by decide +kernel
theorem dJ7_checkLength_df160_1 : decode cJ7_checkLength_df160 1 = .ok (.iload_n 0, 1) := by decide +kernel
theorem dJ7_checkLength_df160_2 : decode cJ7_checkLength_df160 2 = .ok (.if_icmp .ge 35, 3) := by decide +kernel
theorem dJ7_checkLength_df160_5 : decode cJ7_checkLength_df160 5 = .ok (.new 43, 3) := by decide +kernel
theorem dJ7_checkLength_df160_8 : decode cJ7_checkLength_df160 8 = .ok (.dup, 1) := by decide +kernel
theorem dJ7_checkLength_df160_9 : decode cJ7_checkLength_df160 9 = .ok (.new 45, 3) := by decide +kernel
theorem dJ7_checkLength_df160_12 : decode cJ7_checkLength_df160 12 = .ok (.dup, 1) := by decide +kernel
theorem dJ7_checkLength_df160_13 : decode cJ7_checkLength_df160 13 = .ok (.invokespecial 47, 3) := by decide +kernel
theorem dJ7_checkLength_df160_16 : decode cJ7_checkLength_df160 16 = .ok (.iload_n 0, 1) := by decide +kernel
theorem dJ7_checkLength_df160_17 : decode cJ7_checkLength_df160 17 = .ok (.invokevirtual 54, 3) := by decide +kernel
theorem dJ7_checkLength_df160_20 : decode cJ7_checkLength_df160 20 = .ok (.ldc_w 337, 3) := by decide +kernel
theorem dJ7_checkLength_df160_23 : decode cJ7_checkLength_df160 23 = .ok (.invokevirtual 50, 3) := by decide +kernel
theorem dJ7_checkLength_df160_26 : decode cJ7_checkLength_df160 26 = .ok (.iload_n 1, 1) := by decide +kernel
theorem dJ7_checkLength_df160_27 : decode cJ7_checkLength_df160 27 = .ok (.invokevirtual 54, 3) := by decide +kernel
theorem dJ7_checkLength_df160_30 : decode cJ7_checkLength_df160 30 = .ok (.invokevirtual 61, 3) := by decide +kernel
theorem dJ7_checkLength_df160_33 : decode cJ7_checkLength_df160 33 = .ok (.invokespecial 65, 3) := by decide +kernel
theorem dJ7_checkLength_df160_36 : decode cJ7_checkLength_df160 36 = .ok (.athrow, 1) := by decide +kernel
theorem dJ7_checkLength_df160_37 : decode cJ7_checkLength_df160 37 = .ok (.return_, 1) := by decide +kernel
theorem dJ7_copyOfRange_39247_0 : decode cJ7_copyOfRange_39247 0 = .ok (.iload_n 1, 1) := by decide +kernel
theorem dJ7_copyOfRange_39247_1 : decode cJ7_copyOfRange_39247 1 = .ok (.ifCond .ne 9, 3) := by decide +kernel
theorem dJ7_copyOfRange_39247_4 : decode cJ7_copyOfRange_39247 4 = .ok (.iload_n 2, 1) := by decide +kernel
theorem dJ7_copyOfRange_39247_5 : decode cJ7_copyOfRange_39247 5 = .ok (.aload_n 0, 1) := by decide +kernel
theorem dJ7_copyOfRange_39247_6 : decode cJ7_copyOfRange_39247 6 = .ok (.arraylength, 1) := by decide +kernel
theorem dJ7_copyOfRange_39247_7 : decode cJ7_copyOfRange_39247 7 = .ok (.if_icmp .eq 10, 3) := by decide +kernel
theorem dJ7_copyOfRange_39247_10 : decode cJ7_copyOfRange_39247 10 = .ok (.aload_n 0, 1) := by decide +kernel
theorem dJ7_copyOfRange_39247_11 : decode cJ7_copyOfRange_39247 11 = .ok (.iload_n 1, 1) := by decide +kernel
theorem dJ7_copyOfRange_39247_12 : decode cJ7_copyOfRange_39247 12 = .ok (.iload_n 2, 1) := by decide +kernel
theorem dJ7_copyOfRange_39247_13 : decode cJ7_copyOfRange_39247 13 = .ok (.invokestatic 339, 3) := by decide +kernel
theorem dJ7_copyOfRange_39247_16 : decode cJ7_copyOfRange_39247 16 = .ok (.areturn, 1) := by decide +kernel
theorem dJ7_copyOfRange_39247_17 : decode cJ7_copyOfRange_39247 17 = .ok (.aload_n 0, 1) := by decide +kernel
theorem dJ7_copyOfRange_39247_18 : decode cJ7_copyOfRange_39247 18 = .ok (.invokevirtual 310, 3) := by decide +kernel
theorem dJ7_copyOfRange_39247_21 : decode cJ7_copyOfRange_39247 21 = .ok (.checkcast 311, 3) := by decide +kernel
theorem dJ7_copyOfRange_39247_24 : decode cJ7_copyOfRange_39247 24 = .ok (.areturn, 1) := by decide +kernel
theorem dJ7_copyOfRangeByte_39247_0 : decode cJ7_copyOfRangeByte_39247 0 = .ok (.iload_n 1, 1) := by decide +kernel
theorem dJ7_copyOfRangeByte_39247_1 : decode cJ7_copyOfRangeByte_39247 1 = .ok (.iload_n 2, 1) := by decide +kernel
theorem dJ7_copyOfRangeByte_39247_2 : decode cJ7_copyOfRangeByte_39247 2 = .ok (.invokestatic 343, 3) := by decide +kernel
theorem dJ7_copyOfRangeByte_39247_5 : decode cJ7_copyOfRangeByte_39247 5 = .ok (.iload_n 2, 1) := by decide +kernel
theorem dJ7_copyOfRangeByte_39247_6 : decode cJ7_copyOfRangeByte_39247 6 = .ok (.iload_n 1, 1) := by decide +kernel
theorem dJ7_copyOfRangeByte_39247_7 : decode cJ7_copyOfRangeByte_39247 7 = .ok (.isub, 1) := by decide +kernel
theorem dJ7_copyOfRangeByte_39247_8 : decode cJ7_copyOfRangeByte_39247 8 = .ok (.istore_n 3, 1) := by decide +kernel
theorem dJ7_copyOfRangeByte_39247_9 : decode cJ7_copyOfRangeByte_39247 9 = .ok (.iload_n 3, 1) := by decide +kernel
theorem dJ7_copyOfRangeByte_39247_10 : decode cJ7_copyOfRangeByte_39247 10 = .ok (.newarray .byte, 2) := by decide +kernel
theorem dJ7_copyOfRangeByte_39247_12 : decode cJ7_copyOfRangeByte_39247 12 = .ok (.astore 4, 2) := by decide +kernel
theorem dJ7_copyOfRangeByte_39247_14 : decode cJ7_copyOfRangeByte_39247 14 = .ok (.aload_n 0, 1) := by decide +kernel
theorem dJ7_copyOfRangeByte_39247_15 : decode cJ7_copyOfRangeByte_39247 15 = .ok (.iload_n 1, 1) := by decide +kernel
theorem dJ7_copyOfRangeByte_39247_16 : decode cJ7_copyOfRangeByte_39247 16 = .ok (.aload 4, 2) := by decide +kernel
theorem dJ7_copyOfRangeByte_39247_18 : decode cJ7_copyOfRangeByte_39247 18 = .ok (.iconst 0, 1) := by decide +kernel
theorem dJ7_copyOfRangeByte_39247_19 : decode cJ7_copyOfRangeByte_39247 19 = .ok (.aload_n 0, 1) := by decide +kernel
theorem dJ7_copyOfRangeByte_39247_20 : decode cJ7_copyOfRangeByte_39247 20 = .ok (.arraylength, 1) := by decide +kernel
theorem dJ7_copyOfRangeByte_39247_21 : decode cJ7_copyOfRangeByte_39247 21 = .ok (.iload_n 1, 1) := by decide +kernel
theorem dJ7_copyOfRangeByte_39247_22 : decode cJ7_copyOfRangeByte_39247 22 = .ok (.isub, 1) := by decide +kernel
theorem dJ7_copyOfRangeByte_39247_23 : decode cJ7_copyOfRangeByte_39247 23 = .ok (.iload_n 3, 1) := by decide +kernel
theorem dJ7_copyOfRangeByte_39247_24 : decode cJ7_copyOfRangeByte_39247 24 = .ok (.invokestatic 304, 3) := by decide +kernel
theorem dJ7_copyOfRangeByte_39247_27 : decode cJ7_copyOfRangeByte_39247 27 = .ok (.invokestatic 150, 3) := by decide +kernel
theorem dJ7_copyOfRangeByte_39247_30 : decode cJ7_copyOfRangeByte_39247 30 = .ok (.aload 4, 2) := by decide +kernel
theorem dJ7_copyOfRangeByte_39247_32 : decode cJ7_copyOfRangeByte_39247 32 = .ok (.areturn, 1) := by decide +kernel
theorem dJ8_newLength_cabcc_0 : decode cJ8_newLength_cabcc 0 = .ok (.iload_n 0, 1) := by decide +kernel
theorem dJ8_newLength_cabcc_1 : decode cJ8_newLength_cabcc 1 = .ok (.iload_n 1, 1) := by decide +kernel
theorem dJ8_newLength_cabcc_2 : decode cJ8_newLength_cabcc 2 = .ok (.iload_n 2, 1) := by decide +kernel
theorem dJ8_newLength_cabcc_3 : decode cJ8_newLength_cabcc 3 = .ok (.invokestatic 194, 3) := by decide +kernel
theorem dJ8_newLength_cabcc_6 : decode cJ8_newLength_cabcc 6 = .ok (.iadd, 1) := by decide +kernel
theorem dJ8_newLength_cabcc_7 : decode cJ8_newLength_cabcc 7 = .ok (.istore_n 3, 1) := by decide +kernel
theorem dJ8_newLength_cabcc_8 : decode cJ8_newLength_cabcc 8 = .ok (.iconst 0, 1) := by decide +kernel
theorem dJ8_newLength_cabcc_9 : decode cJ8_newLength_cabcc 9 = .ok (.iload_n 3, 1) := by decide +kernel
theorem dJ8_newLength_cabcc_10 : decode cJ8_newLength_cabcc 10 = .ok (.if_icmp .ge 11, 3) := by decide +kernel
theorem dJ8_newLength_cabcc_13 : decode cJ8_newLength_cabcc 13 = .ok (.iload_n 3, 1) := by decide +kernel
theorem dJ8_newLength_cabcc_14 : decode cJ8_newLength_cabcc 14 = .ok (.ldc 200, 2) := by decide +kernel
theorem dJ8_newLength_cabcc_16 : decode cJ8_newLength_cabcc 16 = .ok (.if_icmp .gt 5, 3) := by decide +kernel
theorem dJ8_newLength_cabcc_19 : decode cJ8_newLength_cabcc 19 = .ok (.iload_n 3, 1) := by decide +kernel
theorem dJ8_newLength_cabcc_20 : decode cJ8_newLength_cabcc 20 = .ok (.ireturn, 1) := by decide +kernel
theorem dJ8_newLength_cabcc_21 : decode cJ8_newLength_cabcc 21 = .ok (.iload_n 0, 1) := by decide +kernel
theorem dJ8_newLength_cabcc_22 : decode cJ8_newLength_cabcc 22 = .ok (.iload_n 1, 1) := by decide +kernel
theorem dJ8_newLength_cabcc_23 : decode cJ8_newLength_cabcc 23 = .ok (.invokestatic 201, 3) := by decide +kernel
theorem dJ8_newLength_cabcc_26 : decode cJ8_newLength_cabcc 26 = .ok (.ireturn, 1) := by decide +kernel
theorem dJ8_hugeLength_7cf53_0 : decode cJ8_hugeLength_7cf53 0 = .ok (.iload_n 0, 1) := by decide +kernel
theorem dJ8_hugeLength_7cf53_1 : decode cJ8_hugeLength_7cf53 1 = .ok (.iload_n 1, 1) := by decide +kernel
theorem dJ8_hugeLength_7cf53_2 : decode cJ8_hugeLength_7cf53 2 = .ok (.iadd, 1) := by decide +kernel
theorem dJ8_hugeLength_7cf53_3 : decode cJ8_hugeLength_7cf53 3 = .ok (.istore_n 2, 1) := by decide +kernel
theorem dJ8_hugeLength_7cf53_4 : decode cJ8_hugeLength_7cf53 4 = .ok (.iload_n 2, 1) := by decide +kernel
theorem dJ8_hugeLength_7cf53_5 : decode cJ8_hugeLength_7cf53 5 = .ok (.ifCond .ge 44, 3) := by decide +kernel
theorem dJ8_hugeLength_7cf53_8 : decode cJ8_hugeLength_7cf53 8 = .ok (.new 204, 3) := by decide +kernel
theorem dJ8_hugeLength_7cf53_11 : decode cJ8_hugeLength_7cf53 11 = .ok (.dup, 1) := by decide +kernel
theorem dJ8_hugeLength_7cf53_12 : decode cJ8_hugeLength_7cf53 12 = .ok (.new 89, 3) := by decide +kernel
theorem dJ8_hugeLength_7cf53_15 : decode cJ8_hugeLength_7cf53 15 = .ok (.dup, 1) := by decide +kernel
theorem dJ8_hugeLength_7cf53_16 : decode cJ8_hugeLength_7cf53 16 = .ok (.invokespecial 91, 3) := by decide +kernel
theorem dJ8_hugeLength_7cf53_19 : decode cJ8_hugeLength_7cf53 19 = .ok (.ldc 206, 2) := by decide +kernel
theorem dJ8_hugeLength_7cf53_21 : decode cJ8_hugeLength_7cf53 21 = .ok (.invokevirtual 94, 3) := by decide +kernel
theorem dJ8_hugeLength_7cf53_24 : decode cJ8_hugeLength_7cf53 24 = .ok (.iload_n 0, 1) := by decide +kernel
theorem dJ8_hugeLength_7cf53_25 : decode cJ8_hugeLength_7cf53 25 = .ok (.invokevirtual 98, 3) := by decide +kernel
theorem dJ8_hugeLength_7cf53_28 : decode cJ8_hugeLength_7cf53 28 = .ok (.ldc 208, 2) := by decide +kernel
theorem dJ8_hugeLength_7cf53_30 : decode cJ8_hugeLength_7cf53 30 = .ok (.invokevirtual 94, 3) := by decide +kernel
theorem dJ8_hugeLength_7cf53_33 : decode cJ8_hugeLength_7cf53 33 = .ok (.iload_n 1, 1) := by decide +kernel
theorem dJ8_hugeLength_7cf53_34 : decode cJ8_hugeLength_7cf53 34 = .ok (.invokevirtual 98, 3) := by decide +kernel
theorem dJ8_hugeLength_7cf53_37 : decode cJ8_hugeLength_7cf53 37 = .ok (.ldc 210, 2) := by decide +kernel
theorem dJ8_hugeLength_7cf53_39 : decode cJ8_hugeLength_7cf53 39 = .ok (.invokevirtual 94, 3) := by decide +kernel
theorem dJ8_hugeLength_7cf53_42 : decode cJ8_hugeLength_7cf53 42 = .ok (.invokevirtual 101, 3) := by decide +kernel
theorem dJ8_hugeLength_7cf53_45 : decode cJ8_hugeLength_7cf53 45 = .ok (.invokespecial 212, 3) := by decide +kernel
theorem dJ8_hugeLength_7cf53_48 : decode cJ8_hugeLength_7cf53 48 = .ok (.athrow, 1) := by decide +kernel
theorem dJ8_hugeLength_7cf53_49 : decode cJ8_hugeLength_7cf53 49 = .ok (.iload_n 2, 1) := by decide +kernel
theorem dJ8_hugeLength_7cf53_50 : decode cJ8_hugeLength_7cf53 50 = .ok (.ldc 200, 2) := by decide +kernel
theorem dJ8_hugeLength_7cf53_52 : decode cJ8_hugeLength_7cf53 52 = .ok (.if_icmp .gt 6, 3) := by decide +kernel
theorem dJ8_hugeLength_7cf53_55 : decode cJ8_hugeLength_7cf53 55 = .ok (.ldc 200, 2) := by decide +kernel
theorem dJ8_hugeLength_7cf53_57 : decode cJ8_hugeLength_7cf53 57 = .ok (.ireturn, 1) := by decide +kernel
theorem dJ8_hugeLength_7cf53_58 : decode cJ8_hugeLength_7cf53 58 = .ok (.iload_n 2, 1) := by decide +kernel
theorem dJ8_hugeLength_7cf53_59 : decode cJ8_hugeLength_7cf53 59 = .ok (.ireturn, 1) := by decide +kernel
theorem dJ3_checkIndex_8e157_0 : decode cJ3_checkIndex_8e157 0 = .ok (.iload_n 0, 1) := by decide +kernel
theorem dJ3_checkIndex_8e157_1 : decode cJ3_checkIndex_8e157 1 = .ok (.ifCond .lt 8, 3) := by decide +kernel
theorem dJ3_checkIndex_8e157_4 : decode cJ3_checkIndex_8e157 4 = .ok (.iload_n 0, 1) := by decide +kernel
theorem dJ3_checkIndex_8e157_5 : decode cJ3_checkIndex_8e157 5 = .ok (.iload_n 1, 1) := by decide +kernel
theorem dJ3_checkIndex_8e157_6 : decode cJ3_checkIndex_8e157 6 = .ok (.if_icmp .lt 10, 3) := by decide +kernel
theorem dJ3_checkIndex_8e157_9 : decode cJ3_checkIndex_8e157 9 = .ok (.aload_n 2, 1) := by decide +kernel
theorem dJ3_checkIndex_8e157_10 : decode cJ3_checkIndex_8e157 10 = .ok (.iload_n 0, 1) := by decide +kernel
theorem dJ3_checkIndex_8e157_11 : decode cJ3_checkIndex_8e157 11 = .ok (.iload_n 1, 1) := by decide +kernel
theorem dJ3_checkIndex_8e157_12 : decode cJ3_checkIndex_8e157 12 = .ok (.invokestatic 95, 3) := by decide +kernel
theorem dJ3_checkIndex_8e157_15 : decode cJ3_checkIndex_8e157 15 = .ok (.athrow, 1) := by decide +kernel
theorem dJ3_checkIndex_8e157_16 : decode cJ3_checkIndex_8e157 16 = .ok (.iload_n 0, 1) := by decide +kernel
theorem dJ3_checkIndex_8e157_17 : decode cJ3_checkIndex_8e157 17 = .ok (.ireturn, 1) := by decide +kernel
theorem dJ3_checkFromToIndex_8c36e_0 : decode cJ3_checkFromToIndex_8c36e 0 = .ok (.iload_n 0, 1) := by decide +kernel
theorem dJ3_checkFromToIndex_8c36e_1 : decode cJ3_checkFromToIndex_8c36e 1 = .ok (.ifCond .lt 13, 3) := by decide +kernel
theorem dJ3_checkFromToIndex_8c36e_4 : decode cJ3_checkFromToIndex_8c36e 4 = .ok (.iload_n 0, 1) := by decide +kernel
theorem dJ3_checkFromToIndex_8c36e_5 : decode cJ3_checkFromToIndex_8c36e 5 = .ok (.iload_n 1, 1) := by decide +kernel
theorem dJ3_checkFromToIndex_8c36e_6 : decode cJ3_checkFromToIndex_8c36e 6 = .ok (.if_icmp .gt 8, 3) := by decide +kernel
theorem dJ3_checkFromToIndex_8c36e_9 : decode cJ3_checkFromToIndex_8c36e 9 = .ok (.iload_n 1, 1) := by decide +kernel
theorem dJ3_checkFromToIndex_8c36e_10 : decode cJ3_checkFromToIndex_8c36e 10 = .ok (.iload_n 2, 1) := by decide +kernel
theorem dJ3_checkFromToIndex_8c36e_11 : decode cJ3_checkFromToIndex_8c36e 11 = .ok (.if_icmp .le 11, 3) := by decide +kernel
theorem dJ3_checkFromToIndex_8c36e_14 : decode cJ3_checkFromToIndex_8c36e 14 = .ok (.aload_n 3, 1) := by decide +kernel
theorem dJ3_checkFromToIndex_8c36e_15 : decode cJ3_checkFromToIndex_8c36e 15 = .ok (.iload_n 0, 1) := by decide +kernel
theorem dJ3_checkFromToIndex_8c36e_16 : decode cJ3_checkFromToIndex_8c36e 16 = .ok (.iload_n 1, 1) := by decide +kernel
theorem dJ3_checkFromToIndex_8c36e_17 : decode cJ3_checkFromToIndex_8c36e 17 = .ok (.iload_n 2, 1) := by decide +kernel
theorem dJ3_checkFromToIndex_8c36e_18 : decode cJ3_checkFromToIndex_8c36e 18 = .ok (.invokestatic 99, 3) := by decide +kernel
theorem dJ3_checkFromToIndex_8c36e_21 : decode cJ3_checkFromToIndex_8c36e 21 = .ok (.athrow, 1) := by decide +kernel
theorem dJ3_checkFromToIndex_8c36e_22 : decode cJ3_checkFromToIndex_8c36e 22 = .ok (.iload_n 0, 1) := by decide +kernel
theorem dJ3_checkFromToIndex_8c36e_23 : decode cJ3_checkFromToIndex_8c36e 23 = .ok (.ireturn, 1) := by decide +kernel
theorem dJ3_checkFromIndexSize_8c36e_0 : decode cJ3_checkFromIndexSize_8c36e 0 = .ok (.iload_n 2, 1) := by decide +kernel
theorem dJ3_checkFromIndexSize_8c36e_1 : decode cJ3_checkFromIndexSize_8c36e 1 = .ok (.iload_n 0, 1) := by decide +kernel
theorem dJ3_checkFromIndexSize_8c36e_2 : decode cJ3_checkFromIndexSize_8c36e 2 = .ok (.ior, 1) := by decide +kernel
theorem dJ3_checkFromIndexSize_8c36e_3 : decode cJ3_checkFromIndexSize_8c36e 3 = .ok (.iload_n 1, 1) := by decide +kernel
theorem dJ3_checkFromIndexSize_8c36e_4 : decode cJ3_checkFromIndexSize_8c36e 4 = .ok (.ior, 1) := by decide +kernel
theorem dJ3_checkFromIndexSize_8c36e_5 : decode cJ3_checkFromIndexSize_8c36e 5 = .ok (.ifCond .lt 10, 3) := by decide +kernel
theorem dJ3_checkFromIndexSize_8c36e_8 : decode cJ3_checkFromIndexSize_8c36e 8 = .ok (.iload_n 1, 1) := by decide +kernel
theorem dJ3_checkFromIndexSize_8c36e_9 : decode cJ3_checkFromIndexSize_8c36e 9 = .ok (.iload_n 2, 1) := by decide +kernel
theorem dJ3_checkFromIndexSize_8c36e_10 : decode cJ3_checkFromIndexSize_8c36e 10 = .ok (.iload_n 0, 1) := by decide +kernel
theorem dJ3_checkFromIndexSize_8c36e_11 : decode cJ3_checkFromIndexSize_8c36e 11 = .ok (.isub, 1) := by decide +kernel
theorem dJ3_checkFromIndexSize_8c36e_12 : decode cJ3_checkFromIndexSize_8c36e 12 = .ok (.if_icmp .le 11, 3) := by decide +kernel
theorem dJ3_checkFromIndexSize_8c36e_15 : decode cJ3_checkFromIndexSize_8c36e 15 = .ok (.aload_n 3, 1) := by decide +kernel
theorem dJ3_checkFromIndexSize_8c36e_16 : decode cJ3_checkFromIndexSize_8c36e 16 = .ok (.iload_n 0, 1) := by decide +kernel
theorem dJ3_checkFromIndexSize_8c36e_17 : decode cJ3_checkFromIndexSize_8c36e 17 = .ok (.iload_n 1, 1) := by decide +kernel
theorem dJ3_checkFromIndexSize_8c36e_18 : decode cJ3_checkFromIndexSize_8c36e 18 = .ok (.iload_n 2, 1) := by decide +kernel
theorem dJ3_checkFromIndexSize_8c36e_19 : decode cJ3_checkFromIndexSize_8c36e 19 = .ok (.invokestatic 103, 3) := by decide +kernel
theorem dJ3_checkFromIndexSize_8c36e_22 : decode cJ3_checkFromIndexSize_8c36e 22 = .ok (.athrow, 1) := by decide +kernel
theorem dJ3_checkFromIndexSize_8c36e_23 : decode cJ3_checkFromIndexSize_8c36e 23 = .ok (.iload_n 0, 1) := by decide +kernel
theorem dJ3_checkFromIndexSize_8c36e_24 : decode cJ3_checkFromIndexSize_8c36e 24 = .ok (.ireturn, 1) := by decide +kernel
theorem dL_addComet_0 : decode cL_addComet 0 = .ok (.aload 4, 2) := by decide +kernel
theorem dL_addComet_2 : decode cL_addComet 2 = .ok (.iconst 0, 1) := by decide +kernel
theorem dL_addComet_3 : decode cL_addComet 3 = .ok (.aload_n 0, 1) := by decide +kernel
theorem dL_addComet_4 : decode cL_addComet 4 = .ok (.iload_n 1, 1) := by decide +kernel
theorem dL_addComet_5 : decode cL_addComet 5 = .ok (.iload_n 2, 1) := by decide +kernel
theorem dL_addComet_6 : decode cL_addComet 6 = .ok (.iload_n 3, 1) := by decide +kernel
theorem dL_addComet_7 : decode cL_addComet 7 = .ok (.invokevirtual 7, 3) := by decide +kernel
theorem dL_addComet_10 : decode cL_addComet 10 = .ok (.i2l, 1) := by decide +kernel
theorem dL_addComet_11 : decode cL_addComet 11 = .ok (.lastore, 1) := by decide +kernel
theorem dL_addComet_12 : decode cL_addComet 12 = .ok (.goto 11, 3) := by decide +kernel
theorem dL_addComet_15 : decode cL_addComet 15 = .ok (.astore 5, 2) := by decide +kernel
theorem dL_addComet_17 : decode cL_addComet 17 = .ok (.iconst 1, 1) := by decide +kernel
theorem dL_addComet_18 : decode cL_addComet 18 = .ok (.ireturn, 1) := by decide +kernel
theorem dL_addComet_19 : decode cL_addComet 19 = .ok (.astore 5, 2) := by decide +kernel
theorem dL_addComet_21 : decode cL_addComet 21 = .ok (.iconst 2, 1) := by decide +kernel
theorem dL_addComet_22 : decode cL_addComet 22 = .ok (.ireturn, 1) := by decide +kernel
theorem dL_addComet_23 : decode cL_addComet 23 = .ok (.iconst 0, 1) := by decide +kernel
theorem dL_addComet_24 : decode cL_addComet 24 = .ok (.ireturn, 1) := by decide +kernel
theorem dL_remove_0 : decode cL_remove 0 = .ok (.aload_n 2, 1) := by decide +kernel
theorem dL_remove_1 : decode cL_remove 1 = .ok (.iconst 0, 1) := by decide +kernel
theorem dL_remove_2 : decode cL_remove 2 = .ok (.aload_n 0, 1) := by decide +kernel
theorem dL_remove_3 : decode cL_remove 3 = .ok (.iload_n 1, 1) := by decide +kernel
theorem dL_remove_4 : decode cL_remove 4 = .ok (.invokevirtual 17, 3) := by decide +kernel
theorem dL_remove_7 : decode cL_remove 7 = .ok (.i2l, 1) := by decide +kernel
theorem dL_remove_8 : decode cL_remove 8 = .ok (.lastore, 1) := by decide +kernel
theorem dL_remove_9 : decode cL_remove 9 = .ok (.goto 6, 3) := by decide +kernel
theorem dL_remove_12 : decode cL_remove 12 = .ok (.astore_n 3, 1) := by decide +kernel
theorem dL_remove_13 : decode cL_remove 13 = .ok (.iconst 1, 1) := by decide +kernel
theorem dL_remove_14 : decode cL_remove 14 = .ok (.ireturn, 1) := by decide +kernel
theorem dL_remove_15 : decode cL_remove 15 = .ok (.iconst 0, 1) := by decide +kernel
theorem dL_remove_16 : decode cL_remove 16 = .ok (.ireturn, 1) := by decide +kernel
theorem dL_setPeriod_0 : decode cL_setPeriod 0 = .ok (.aload_n 3, 1) := by decide +kernel
theorem dL_setPeriod_1 : decode cL_setPeriod 1 = .ok (.iconst 0, 1) := by decide +kernel
theorem dL_setPeriod_2 : decode cL_setPeriod 2 = .ok (.aload_n 0, 1) := by decide +kernel
theorem dL_setPeriod_3 : decode cL_setPeriod 3 = .ok (.iload_n 1, 1) := by decide +kernel
theorem dL_setPeriod_4 : decode cL_setPeriod 4 = .ok (.iload_n 2, 1) := by decide +kernel
theorem dL_setPeriod_5 : decode cL_setPeriod 5 = .ok (.invokevirtual 23, 3) := by decide +kernel
theorem dL_setPeriod_8 : decode cL_setPeriod 8 = .ok (.i2l, 1) := by decide +kernel
theorem dL_setPeriod_9 : decode cL_setPeriod 9 = .ok (.lastore, 1) := by decide +kernel
theorem dL_setPeriod_10 : decode cL_setPeriod 10 = .ok (.goto 11, 3) := by decide +kernel
theorem dL_setPeriod_13 : decode cL_setPeriod 13 = .ok (.astore 4, 2) := by decide +kernel
theorem dL_setPeriod_15 : decode cL_setPeriod 15 = .ok (.iconst 1, 1) := by decide +kernel
theorem dL_setPeriod_16 : decode cL_setPeriod 16 = .ok (.ireturn, 1) := by decide +kernel
theorem dL_setPeriod_17 : decode cL_setPeriod 17 = .ok (.astore 4, 2) := by decide +kernel
theorem dL_setPeriod_19 : decode cL_setPeriod 19 = .ok (.iconst 2, 1) := by decide +kernel
theorem dL_setPeriod_20 : decode cL_setPeriod 20 = .ok (.ireturn, 1) := by decide +kernel
theorem dL_setPeriod_21 : decode cL_setPeriod 21 = .ok (.iconst 0, 1) := by decide +kernel
theorem dL_setPeriod_22 : decode cL_setPeriod 22 = .ok (.ireturn, 1) := by decide +kernel
theorem dL_brighten_0 : decode cL_brighten 0 = .ok (.aload_n 3, 1) := by decide +kernel
theorem dL_brighten_1 : decode cL_brighten 1 = .ok (.iconst 0, 1) := by decide +kernel
theorem dL_brighten_2 : decode cL_brighten 2 = .ok (.aload_n 0, 1) := by decide +kernel
theorem dL_brighten_3 : decode cL_brighten 3 = .ok (.iload_n 1, 1) := by decide +kernel
theorem dL_brighten_4 : decode cL_brighten 4 = .ok (.iload_n 2, 1) := by decide +kernel
theorem dL_brighten_5 : decode cL_brighten 5 = .ok (.invokevirtual 27, 3) := by decide +kernel
theorem dL_brighten_8 : decode cL_brighten 8 = .ok (.i2l, 1) := by decide +kernel
theorem dL_brighten_9 : decode cL_brighten 9 = .ok (.lastore, 1) := by decide +kernel
theorem dL_brighten_10 : decode cL_brighten 10 = .ok (.goto 19, 3) := by decide +kernel
theorem dL_brighten_13 : decode cL_brighten 13 = .ok (.astore 4, 2) := by decide +kernel
theorem dL_brighten_15 : decode cL_brighten 15 = .ok (.iconst 1, 1) := by decide +kernel
theorem dL_brighten_16 : decode cL_brighten 16 = .ok (.ireturn, 1) := by decide +kernel
theorem dL_brighten_17 : decode cL_brighten 17 = .ok (.astore 4, 2) := by decide +kernel
theorem dL_brighten_19 : decode cL_brighten 19 = .ok (.iconst 2, 1) := by decide +kernel
theorem dL_brighten_20 : decode cL_brighten 20 = .ok (.ireturn, 1) := by decide +kernel
theorem dL_brighten_21 : decode cL_brighten 21 = .ok (.astore 4, 2) := by decide +kernel
theorem dL_brighten_23 : decode cL_brighten 23 = .ok (.iconst 3, 1) := by decide +kernel
theorem dL_brighten_24 : decode cL_brighten 24 = .ok (.ireturn, 1) := by decide +kernel
theorem dL_brighten_25 : decode cL_brighten 25 = .ok (.astore 4, 2) := by decide +kernel
theorem dL_brighten_27 : decode cL_brighten 27 = .ok (.iconst 4, 1) := by decide +kernel
theorem dL_brighten_28 : decode cL_brighten 28 = .ok (.ireturn, 1) := by decide +kernel
theorem dL_brighten_29 : decode cL_brighten 29 = .ok (.iconst 0, 1) := by decide +kernel
theorem dL_brighten_30 : decode cL_brighten 30 = .ok (.ireturn, 1) := by decide +kernel
theorem dL_passDays_0 : decode cL_passDays 0 = .ok (.aload_n 2, 1) := by decide +kernel
theorem dL_passDays_1 : decode cL_passDays 1 = .ok (.iconst 0, 1) := by decide +kernel
theorem dL_passDays_2 : decode cL_passDays 2 = .ok (.aload_n 0, 1) := by decide +kernel
theorem dL_passDays_3 : decode cL_passDays 3 = .ok (.iload_n 1, 1) := by decide +kernel
theorem dL_passDays_4 : decode cL_passDays 4 = .ok (.invokevirtual 32, 3) := by decide +kernel
theorem dL_passDays_7 : decode cL_passDays 7 = .ok (.i2l, 1) := by decide +kernel
theorem dL_passDays_8 : decode cL_passDays 8 = .ok (.lastore, 1) := by decide +kernel
theorem dL_passDays_9 : decode cL_passDays 9 = .ok (.goto 6, 3) := by decide +kernel
theorem dL_passDays_12 : decode cL_passDays 12 = .ok (.astore_n 3, 1) := by decide +kernel
theorem dL_passDays_13 : decode cL_passDays 13 = .ok (.iconst 1, 1) := by decide +kernel
theorem dL_passDays_14 : decode cL_passDays 14 = .ok (.ireturn, 1) := by decide +kernel
theorem dL_passDays_15 : decode cL_passDays 15 = .ok (.iconst 0, 1) := by decide +kernel
theorem dL_passDays_16 : decode cL_passDays 16 = .ok (.ireturn, 1) := by decide +kernel
theorem dL_clean_0 : decode cL_clean 0 = .ok (.aload_n 3, 1) := by decide +kernel
theorem dL_clean_1 : decode cL_clean 1 = .ok (.iconst 0, 1) := by decide +kernel
theorem dL_clean_2 : decode cL_clean 2 = .ok (.aload_n 0, 1) := by decide +kernel
theorem dL_clean_3 : decode cL_clean 3 = .ok (.iload_n 1, 1) := by decide +kernel
theorem dL_clean_4 : decode cL_clean 4 = .ok (.iload_n 2, 1) := by decide +kernel
theorem dL_clean_5 : decode cL_clean 5 = .ok (.invokevirtual 35, 3) := by decide +kernel
theorem dL_clean_8 : decode cL_clean 8 = .ok (.i2l, 1) := by decide +kernel
theorem dL_clean_9 : decode cL_clean 9 = .ok (.lastore, 1) := by decide +kernel
theorem dL_clean_10 : decode cL_clean 10 = .ok (.goto 15, 3) := by decide +kernel
theorem dL_clean_13 : decode cL_clean 13 = .ok (.astore 4, 2) := by decide +kernel
theorem dL_clean_15 : decode cL_clean 15 = .ok (.iconst 1, 1) := by decide +kernel
theorem dL_clean_16 : decode cL_clean 16 = .ok (.ireturn, 1) := by decide +kernel
theorem dL_clean_17 : decode cL_clean 17 = .ok (.astore 4, 2) := by decide +kernel
theorem dL_clean_19 : decode cL_clean 19 = .ok (.iconst 2, 1) := by decide +kernel
theorem dL_clean_20 : decode cL_clean 20 = .ok (.ireturn, 1) := by decide +kernel
theorem dL_clean_21 : decode cL_clean 21 = .ok (.astore 4, 2) := by decide +kernel
theorem dL_clean_23 : decode cL_clean 23 = .ok (.iconst 3, 1) := by decide +kernel
theorem dL_clean_24 : decode cL_clean 24 = .ok (.ireturn, 1) := by decide +kernel
theorem dL_clean_25 : decode cL_clean 25 = .ok (.iconst 0, 1) := by decide +kernel
theorem dL_clean_26 : decode cL_clean 26 = .ok (.ireturn, 1) := by decide +kernel
theorem dL_setRate_0 : decode cL_setRate 0 = .ok (.aload_n 2, 1) := by decide +kernel
theorem dL_setRate_1 : decode cL_setRate 1 = .ok (.iconst 0, 1) := by decide +kernel
theorem dL_setRate_2 : decode cL_setRate 2 = .ok (.aload_n 0, 1) := by decide +kernel
theorem dL_setRate_3 : decode cL_setRate 3 = .ok (.iload_n 1, 1) := by decide +kernel
theorem dL_setRate_4 : decode cL_setRate 4 = .ok (.invokevirtual 40, 3) := by decide +kernel
theorem dL_setRate_7 : decode cL_setRate 7 = .ok (.i2l, 1) := by decide +kernel
theorem dL_setRate_8 : decode cL_setRate 8 = .ok (.lastore, 1) := by decide +kernel
theorem dL_setRate_9 : decode cL_setRate 9 = .ok (.goto 6, 3) := by decide +kernel
theorem dL_setRate_12 : decode cL_setRate 12 = .ok (.astore_n 3, 1) := by decide +kernel
theorem dL_setRate_13 : decode cL_setRate 13 = .ok (.iconst 1, 1) := by decide +kernel
theorem dL_setRate_14 : decode cL_setRate 14 = .ok (.ireturn, 1) := by decide +kernel
theorem dL_setRate_15 : decode cL_setRate 15 = .ok (.iconst 0, 1) := by decide +kernel
theorem dL_setRate_16 : decode cL_setRate 16 = .ok (.ireturn, 1) := by decide +kernel
theorem dL_cometAt_0 : decode cL_cometAt 0 = .ok (.aload_n 2, 1) := by decide +kernel
theorem dL_cometAt_1 : decode cL_cometAt 1 = .ok (.iconst 0, 1) := by decide +kernel
theorem dL_cometAt_2 : decode cL_cometAt 2 = .ok (.aload_n 0, 1) := by decide +kernel
theorem dL_cometAt_3 : decode cL_cometAt 3 = .ok (.iload_n 1, 1) := by decide +kernel
theorem dL_cometAt_4 : decode cL_cometAt 4 = .ok (.invokevirtual 43, 3) := by decide +kernel
theorem dL_cometAt_7 : decode cL_cometAt 7 = .ok (.i2l, 1) := by decide +kernel
theorem dL_cometAt_8 : decode cL_cometAt 8 = .ok (.lastore, 1) := by decide +kernel
theorem dL_cometAt_9 : decode cL_cometAt 9 = .ok (.goto 6, 3) := by decide +kernel
theorem dL_cometAt_12 : decode cL_cometAt 12 = .ok (.astore_n 3, 1) := by decide +kernel
theorem dL_cometAt_13 : decode cL_cometAt 13 = .ok (.iconst 1, 1) := by decide +kernel
theorem dL_cometAt_14 : decode cL_cometAt 14 = .ok (.ireturn, 1) := by decide +kernel
theorem dL_cometAt_15 : decode cL_cometAt 15 = .ok (.iconst 0, 1) := by decide +kernel
theorem dL_cometAt_16 : decode cL_cometAt 16 = .ok (.ireturn, 1) := by decide +kernel
theorem dL_period_0 : decode cL_period 0 = .ok (.aload_n 2, 1) := by decide +kernel
theorem dL_period_1 : decode cL_period 1 = .ok (.iconst 0, 1) := by decide +kernel
theorem dL_period_2 : decode cL_period 2 = .ok (.aload_n 0, 1) := by decide +kernel
theorem dL_period_3 : decode cL_period 3 = .ok (.iload_n 1, 1) := by decide +kernel
theorem dL_period_4 : decode cL_period 4 = .ok (.invokevirtual 46, 3) := by decide +kernel
theorem dL_period_7 : decode cL_period 7 = .ok (.i2l, 1) := by decide +kernel
theorem dL_period_8 : decode cL_period 8 = .ok (.lastore, 1) := by decide +kernel
theorem dL_period_9 : decode cL_period 9 = .ok (.goto 6, 3) := by decide +kernel
theorem dL_period_12 : decode cL_period 12 = .ok (.astore_n 3, 1) := by decide +kernel
theorem dL_period_13 : decode cL_period 13 = .ok (.iconst 1, 1) := by decide +kernel
theorem dL_period_14 : decode cL_period 14 = .ok (.ireturn, 1) := by decide +kernel
theorem dL_period_15 : decode cL_period 15 = .ok (.iconst 0, 1) := by decide +kernel
theorem dL_period_16 : decode cL_period 16 = .ok (.ireturn, 1) := by decide +kernel
theorem dL_brightness_0 : decode cL_brightness 0 = .ok (.aload_n 2, 1) := by decide +kernel
theorem dL_brightness_1 : decode cL_brightness 1 = .ok (.iconst 0, 1) := by decide +kernel
theorem dL_brightness_2 : decode cL_brightness 2 = .ok (.aload_n 0, 1) := by decide +kernel
theorem dL_brightness_3 : decode cL_brightness 3 = .ok (.iload_n 1, 1) := by decide +kernel
theorem dL_brightness_4 : decode cL_brightness 4 = .ok (.invokevirtual 49, 3) := by decide +kernel
theorem dL_brightness_7 : decode cL_brightness 7 = .ok (.i2l, 1) := by decide +kernel
theorem dL_brightness_8 : decode cL_brightness 8 = .ok (.lastore, 1) := by decide +kernel
theorem dL_brightness_9 : decode cL_brightness 9 = .ok (.goto 6, 3) := by decide +kernel
theorem dL_brightness_12 : decode cL_brightness 12 = .ok (.astore_n 3, 1) := by decide +kernel
theorem dL_brightness_13 : decode cL_brightness 13 = .ok (.iconst 1, 1) := by decide +kernel
theorem dL_brightness_14 : decode cL_brightness 14 = .ok (.ireturn, 1) := by decide +kernel
theorem dL_brightness_15 : decode cL_brightness 15 = .ok (.iconst 0, 1) := by decide +kernel
theorem dL_brightness_16 : decode cL_brightness 16 = .ok (.ireturn, 1) := by decide +kernel
theorem dL_tail_0 : decode cL_tail 0 = .ok (.aload_n 2, 1) := by decide +kernel
theorem dL_tail_1 : decode cL_tail 1 = .ok (.iconst 0, 1) := by decide +kernel
theorem dL_tail_2 : decode cL_tail 2 = .ok (.aload_n 0, 1) := by decide +kernel
theorem dL_tail_3 : decode cL_tail 3 = .ok (.iload_n 1, 1) := by decide +kernel
theorem dL_tail_4 : decode cL_tail 4 = .ok (.invokevirtual 52, 3) := by decide +kernel
theorem dL_tail_7 : decode cL_tail 7 = .ok (.i2l, 1) := by decide +kernel
theorem dL_tail_8 : decode cL_tail 8 = .ok (.lastore, 1) := by decide +kernel
theorem dL_tail_9 : decode cL_tail 9 = .ok (.goto 6, 3) := by decide +kernel
theorem dL_tail_12 : decode cL_tail 12 = .ok (.astore_n 3, 1) := by decide +kernel
theorem dL_tail_13 : decode cL_tail 13 = .ok (.iconst 1, 1) := by decide +kernel
theorem dL_tail_14 : decode cL_tail 14 = .ok (.ireturn, 1) := by decide +kernel
theorem dL_tail_15 : decode cL_tail 15 = .ok (.iconst 0, 1) := by decide +kernel
theorem dL_tail_16 : decode cL_tail 16 = .ok (.ireturn, 1) := by decide +kernel
theorem dL_nextPass_0 : decode cL_nextPass 0 = .ok (.aload_n 2, 1) := by decide +kernel
theorem dL_nextPass_1 : decode cL_nextPass 1 = .ok (.iconst 0, 1) := by decide +kernel
theorem dL_nextPass_2 : decode cL_nextPass 2 = .ok (.aload_n 0, 1) := by decide +kernel
theorem dL_nextPass_3 : decode cL_nextPass 3 = .ok (.iload_n 1, 1) := by decide +kernel
theorem dL_nextPass_4 : decode cL_nextPass 4 = .ok (.invokevirtual 55, 3) := by decide +kernel
theorem dL_nextPass_7 : decode cL_nextPass 7 = .ok (.i2l, 1) := by decide +kernel
theorem dL_nextPass_8 : decode cL_nextPass 8 = .ok (.lastore, 1) := by decide +kernel
theorem dL_nextPass_9 : decode cL_nextPass 9 = .ok (.goto 6, 3) := by decide +kernel
theorem dL_nextPass_12 : decode cL_nextPass 12 = .ok (.astore_n 3, 1) := by decide +kernel
theorem dL_nextPass_13 : decode cL_nextPass 13 = .ok (.iconst 1, 1) := by decide +kernel
theorem dL_nextPass_14 : decode cL_nextPass 14 = .ok (.ireturn, 1) := by decide +kernel
theorem dL_nextPass_15 : decode cL_nextPass 15 = .ok (.iconst 0, 1) := by decide +kernel
theorem dL_nextPass_16 : decode cL_nextPass 16 = .ok (.ireturn, 1) := by decide +kernel
theorem dL_passesOf_0 : decode cL_passesOf 0 = .ok (.aload_n 2, 1) := by decide +kernel
theorem dL_passesOf_1 : decode cL_passesOf 1 = .ok (.iconst 0, 1) := by decide +kernel
theorem dL_passesOf_2 : decode cL_passesOf 2 = .ok (.aload_n 0, 1) := by decide +kernel
theorem dL_passesOf_3 : decode cL_passesOf 3 = .ok (.iload_n 1, 1) := by decide +kernel
theorem dL_passesOf_4 : decode cL_passesOf 4 = .ok (.invokevirtual 58, 3) := by decide +kernel
theorem dL_passesOf_7 : decode cL_passesOf 7 = .ok (.i2l, 1) := by decide +kernel
theorem dL_passesOf_8 : decode cL_passesOf 8 = .ok (.lastore, 1) := by decide +kernel
theorem dL_passesOf_9 : decode cL_passesOf 9 = .ok (.goto 6, 3) := by decide +kernel
theorem dL_passesOf_12 : decode cL_passesOf 12 = .ok (.astore_n 3, 1) := by decide +kernel
theorem dL_passesOf_13 : decode cL_passesOf 13 = .ok (.iconst 1, 1) := by decide +kernel
theorem dL_passesOf_14 : decode cL_passesOf 14 = .ok (.ireturn, 1) := by decide +kernel
theorem dL_passesOf_15 : decode cL_passesOf 15 = .ok (.iconst 0, 1) := by decide +kernel
theorem dL_passesOf_16 : decode cL_passesOf 16 = .ok (.ireturn, 1) := by decide +kernel
theorem dL_lastPass_0 : decode cL_lastPass 0 = .ok (.aload_n 2, 1) := by decide +kernel
theorem dL_lastPass_1 : decode cL_lastPass 1 = .ok (.iconst 0, 1) := by decide +kernel
theorem dL_lastPass_2 : decode cL_lastPass 2 = .ok (.aload_n 0, 1) := by decide +kernel
theorem dL_lastPass_3 : decode cL_lastPass 3 = .ok (.iload_n 1, 1) := by decide +kernel
theorem dL_lastPass_4 : decode cL_lastPass 4 = .ok (.invokevirtual 61, 3) := by decide +kernel
theorem dL_lastPass_7 : decode cL_lastPass 7 = .ok (.i2l, 1) := by decide +kernel
theorem dL_lastPass_8 : decode cL_lastPass 8 = .ok (.lastore, 1) := by decide +kernel
theorem dL_lastPass_9 : decode cL_lastPass 9 = .ok (.goto 6, 3) := by decide +kernel
theorem dL_lastPass_12 : decode cL_lastPass 12 = .ok (.astore_n 3, 1) := by decide +kernel
theorem dL_lastPass_13 : decode cL_lastPass 13 = .ok (.iconst 1, 1) := by decide +kernel
theorem dL_lastPass_14 : decode cL_lastPass 14 = .ok (.ireturn, 1) := by decide +kernel
theorem dL_lastPass_15 : decode cL_lastPass 15 = .ok (.iconst 0, 1) := by decide +kernel
theorem dL_lastPass_16 : decode cL_lastPass 16 = .ok (.ireturn, 1) := by decide +kernel
theorem dL_cometAtRank_0 : decode cL_cometAtRank 0 = .ok (.aload_n 2, 1) := by decide +kernel
theorem dL_cometAtRank_1 : decode cL_cometAtRank 1 = .ok (.iconst 0, 1) := by decide +kernel
theorem dL_cometAtRank_2 : decode cL_cometAtRank 2 = .ok (.aload_n 0, 1) := by decide +kernel
theorem dL_cometAtRank_3 : decode cL_cometAtRank 3 = .ok (.iload_n 1, 1) := by decide +kernel
theorem dL_cometAtRank_4 : decode cL_cometAtRank 4 = .ok (.invokevirtual 64, 3) := by decide +kernel
theorem dL_cometAtRank_7 : decode cL_cometAtRank 7 = .ok (.i2l, 1) := by decide +kernel
theorem dL_cometAtRank_8 : decode cL_cometAtRank 8 = .ok (.lastore, 1) := by decide +kernel
theorem dL_cometAtRank_9 : decode cL_cometAtRank 9 = .ok (.goto 6, 3) := by decide +kernel
theorem dL_cometAtRank_12 : decode cL_cometAtRank 12 = .ok (.astore_n 3, 1) := by decide +kernel
theorem dL_cometAtRank_13 : decode cL_cometAtRank 13 = .ok (.iconst 1, 1) := by decide +kernel
theorem dL_cometAtRank_14 : decode cL_cometAtRank 14 = .ok (.ireturn, 1) := by decide +kernel
theorem dL_cometAtRank_15 : decode cL_cometAtRank 15 = .ok (.iconst 0, 1) := by decide +kernel
theorem dL_cometAtRank_16 : decode cL_cometAtRank 16 = .ok (.ireturn, 1) := by decide +kernel
theorem dL_passesIn_0 : decode cL_passesIn 0 = .ok (.aload_n 2, 1) := by decide +kernel
theorem dL_passesIn_1 : decode cL_passesIn 1 = .ok (.iconst 0, 1) := by decide +kernel
theorem dL_passesIn_2 : decode cL_passesIn 2 = .ok (.aload_n 0, 1) := by decide +kernel
theorem dL_passesIn_3 : decode cL_passesIn 3 = .ok (.iload_n 1, 1) := by decide +kernel
theorem dL_passesIn_4 : decode cL_passesIn 4 = .ok (.invokevirtual 67, 3) := by decide +kernel
theorem dL_passesIn_7 : decode cL_passesIn 7 = .ok (.i2l, 1) := by decide +kernel
theorem dL_passesIn_8 : decode cL_passesIn 8 = .ok (.lastore, 1) := by decide +kernel
theorem dL_passesIn_9 : decode cL_passesIn 9 = .ok (.goto 6, 3) := by decide +kernel
theorem dL_passesIn_12 : decode cL_passesIn 12 = .ok (.astore_n 3, 1) := by decide +kernel
theorem dL_passesIn_13 : decode cL_passesIn 13 = .ok (.iconst 1, 1) := by decide +kernel
theorem dL_passesIn_14 : decode cL_passesIn 14 = .ok (.ireturn, 1) := by decide +kernel
theorem dL_passesIn_15 : decode cL_passesIn 15 = .ok (.iconst 0, 1) := by decide +kernel
theorem dL_passesIn_16 : decode cL_passesIn 16 = .ok (.ireturn, 1) := by decide +kernel
theorem dL_nextMeeting_0 : decode cL_nextMeeting 0 = .ok (.aload_n 3, 1) := by decide +kernel
theorem dL_nextMeeting_1 : decode cL_nextMeeting 1 = .ok (.iconst 0, 1) := by decide +kernel
theorem dL_nextMeeting_2 : decode cL_nextMeeting 2 = .ok (.aload_n 0, 1) := by decide +kernel
theorem dL_nextMeeting_3 : decode cL_nextMeeting 3 = .ok (.iload_n 1, 1) := by decide +kernel
theorem dL_nextMeeting_4 : decode cL_nextMeeting 4 = .ok (.iload_n 2, 1) := by decide +kernel
theorem dL_nextMeeting_5 : decode cL_nextMeeting 5 = .ok (.invokevirtual 70, 3) := by decide +kernel
theorem dL_nextMeeting_8 : decode cL_nextMeeting 8 = .ok (.i2l, 1) := by decide +kernel
theorem dL_nextMeeting_9 : decode cL_nextMeeting 9 = .ok (.lastore, 1) := by decide +kernel
theorem dL_nextMeeting_10 : decode cL_nextMeeting 10 = .ok (.goto 15, 3) := by decide +kernel
theorem dL_nextMeeting_13 : decode cL_nextMeeting 13 = .ok (.astore 4, 2) := by decide +kernel
theorem dL_nextMeeting_15 : decode cL_nextMeeting 15 = .ok (.iconst 1, 1) := by decide +kernel
theorem dL_nextMeeting_16 : decode cL_nextMeeting 16 = .ok (.ireturn, 1) := by decide +kernel
theorem dL_nextMeeting_17 : decode cL_nextMeeting 17 = .ok (.astore 4, 2) := by decide +kernel
theorem dL_nextMeeting_19 : decode cL_nextMeeting 19 = .ok (.iconst 2, 1) := by decide +kernel
theorem dL_nextMeeting_20 : decode cL_nextMeeting 20 = .ok (.ireturn, 1) := by decide +kernel
theorem dL_nextMeeting_21 : decode cL_nextMeeting 21 = .ok (.astore 4, 2) := by decide +kernel
theorem dL_nextMeeting_23 : decode cL_nextMeeting 23 = .ok (.iconst 3, 1) := by decide +kernel
theorem dL_nextMeeting_24 : decode cL_nextMeeting 24 = .ok (.ireturn, 1) := by decide +kernel
theorem dL_nextMeeting_25 : decode cL_nextMeeting 25 = .ok (.iconst 0, 1) := by decide +kernel
theorem dL_nextMeeting_26 : decode cL_nextMeeting 26 = .ok (.ireturn, 1) := by decide +kernel
theorem dL_nextMeetingByRemainders_0 : decode cL_nextMeetingByRemainders 0 = .ok (.aload_n 3, 1) := by decide +kernel
theorem dL_nextMeetingByRemainders_1 : decode cL_nextMeetingByRemainders 1 = .ok (.iconst 0, 1) := by decide +kernel
theorem dL_nextMeetingByRemainders_2 : decode cL_nextMeetingByRemainders 2 = .ok (.aload_n 0, 1) := by decide +kernel
theorem dL_nextMeetingByRemainders_3 : decode cL_nextMeetingByRemainders 3 = .ok (.iload_n 1, 1) := by decide +kernel
theorem dL_nextMeetingByRemainders_4 : decode cL_nextMeetingByRemainders 4 = .ok (.iload_n 2, 1) := by decide +kernel
theorem dL_nextMeetingByRemainders_5 : decode cL_nextMeetingByRemainders 5 = .ok (.invokevirtual 73, 3) := by decide +kernel
theorem dL_nextMeetingByRemainders_8 : decode cL_nextMeetingByRemainders 8 = .ok (.i2l, 1) := by decide +kernel
theorem dL_nextMeetingByRemainders_9 : decode cL_nextMeetingByRemainders 9 = .ok (.lastore, 1) := by decide +kernel
theorem dL_nextMeetingByRemainders_10 : decode cL_nextMeetingByRemainders 10 = .ok (.goto 15, 3) := by decide +kernel
theorem dL_nextMeetingByRemainders_13 : decode cL_nextMeetingByRemainders 13 = .ok (.astore 4, 2) := by decide +kernel
theorem dL_nextMeetingByRemainders_15 : decode cL_nextMeetingByRemainders 15 = .ok (.iconst 1, 1) := by decide +kernel
theorem dL_nextMeetingByRemainders_16 : decode cL_nextMeetingByRemainders 16 = .ok (.ireturn, 1) := by decide +kernel
theorem dL_nextMeetingByRemainders_17 : decode cL_nextMeetingByRemainders 17 = .ok (.astore 4, 2) := by decide +kernel
theorem dL_nextMeetingByRemainders_19 : decode cL_nextMeetingByRemainders 19 = .ok (.iconst 2, 1) := by decide +kernel
theorem dL_nextMeetingByRemainders_20 : decode cL_nextMeetingByRemainders 20 = .ok (.ireturn, 1) := by decide +kernel
theorem dL_nextMeetingByRemainders_21 : decode cL_nextMeetingByRemainders 21 = .ok (.astore 4, 2) := by decide +kernel
theorem dL_nextMeetingByRemainders_23 : decode cL_nextMeetingByRemainders 23 = .ok (.iconst 3, 1) := by decide +kernel
theorem dL_nextMeetingByRemainders_24 : decode cL_nextMeetingByRemainders 24 = .ok (.ireturn, 1) := by decide +kernel
theorem dL_nextMeetingByRemainders_25 : decode cL_nextMeetingByRemainders 25 = .ok (.iconst 0, 1) := by decide +kernel
theorem dL_nextMeetingByRemainders_26 : decode cL_nextMeetingByRemainders 26 = .ok (.ireturn, 1) := by decide +kernel
theorem dL_alignment_0 : decode cL_alignment 0 = .ok (.aload_n 1, 1) := by decide +kernel
theorem dL_alignment_1 : decode cL_alignment 1 = .ok (.iconst 0, 1) := by decide +kernel
theorem dL_alignment_2 : decode cL_alignment 2 = .ok (.aload_n 0, 1) := by decide +kernel
theorem dL_alignment_3 : decode cL_alignment 3 = .ok (.invokevirtual 76, 3) := by decide +kernel
theorem dL_alignment_6 : decode cL_alignment 6 = .ok (.lastore, 1) := by decide +kernel
theorem dL_alignment_7 : decode cL_alignment 7 = .ok (.goto 6, 3) := by decide +kernel
theorem dL_alignment_10 : decode cL_alignment 10 = .ok (.astore_n 2, 1) := by decide +kernel
theorem dL_alignment_11 : decode cL_alignment 11 = .ok (.iconst 1, 1) := by decide +kernel
theorem dL_alignment_12 : decode cL_alignment 12 = .ok (.ireturn, 1) := by decide +kernel
theorem dL_alignment_13 : decode cL_alignment 13 = .ok (.iconst 0, 1) := by decide +kernel
theorem dL_alignment_14 : decode cL_alignment 14 = .ok (.ireturn, 1) := by decide +kernel
theorem dL_bestWorth_0 : decode cL_bestWorth 0 = .ok (.aload_n 2, 1) := by decide +kernel
theorem dL_bestWorth_1 : decode cL_bestWorth 1 = .ok (.iconst 0, 1) := by decide +kernel
theorem dL_bestWorth_2 : decode cL_bestWorth 2 = .ok (.aload_n 0, 1) := by decide +kernel
theorem dL_bestWorth_3 : decode cL_bestWorth 3 = .ok (.iload_n 1, 1) := by decide +kernel
theorem dL_bestWorth_4 : decode cL_bestWorth 4 = .ok (.invokevirtual 82, 3) := by decide +kernel
theorem dL_bestWorth_7 : decode cL_bestWorth 7 = .ok (.i2l, 1) := by decide +kernel
theorem dL_bestWorth_8 : decode cL_bestWorth 8 = .ok (.lastore, 1) := by decide +kernel
theorem dL_bestWorth_9 : decode cL_bestWorth 9 = .ok (.goto 6, 3) := by decide +kernel
theorem dL_bestWorth_12 : decode cL_bestWorth 12 = .ok (.astore_n 3, 1) := by decide +kernel
theorem dL_bestWorth_13 : decode cL_bestWorth 13 = .ok (.iconst 1, 1) := by decide +kernel
theorem dL_bestWorth_14 : decode cL_bestWorth 14 = .ok (.ireturn, 1) := by decide +kernel
theorem dL_bestWorth_15 : decode cL_bestWorth 15 = .ok (.iconst 0, 1) := by decide +kernel
theorem dL_bestWorth_16 : decode cL_bestWorth 16 = .ok (.ireturn, 1) := by decide +kernel
theorem dL_bestWorthByDays_0 : decode cL_bestWorthByDays 0 = .ok (.aload_n 2, 1) := by decide +kernel
theorem dL_bestWorthByDays_1 : decode cL_bestWorthByDays 1 = .ok (.iconst 0, 1) := by decide +kernel
theorem dL_bestWorthByDays_2 : decode cL_bestWorthByDays 2 = .ok (.aload_n 0, 1) := by decide +kernel
theorem dL_bestWorthByDays_3 : decode cL_bestWorthByDays 3 = .ok (.iload_n 1, 1) := by decide +kernel
theorem dL_bestWorthByDays_4 : decode cL_bestWorthByDays 4 = .ok (.invokevirtual 85, 3) := by decide +kernel
theorem dL_bestWorthByDays_7 : decode cL_bestWorthByDays 7 = .ok (.i2l, 1) := by decide +kernel
theorem dL_bestWorthByDays_8 : decode cL_bestWorthByDays 8 = .ok (.lastore, 1) := by decide +kernel
theorem dL_bestWorthByDays_9 : decode cL_bestWorthByDays 9 = .ok (.goto 6, 3) := by decide +kernel
theorem dL_bestWorthByDays_12 : decode cL_bestWorthByDays 12 = .ok (.astore_n 3, 1) := by decide +kernel
theorem dL_bestWorthByDays_13 : decode cL_bestWorthByDays 13 = .ok (.iconst 1, 1) := by decide +kernel
theorem dL_bestWorthByDays_14 : decode cL_bestWorthByDays 14 = .ok (.ireturn, 1) := by decide +kernel
theorem dL_bestWorthByDays_15 : decode cL_bestWorthByDays 15 = .ok (.iconst 0, 1) := by decide +kernel
theorem dL_bestWorthByDays_16 : decode cL_bestWorthByDays 16 = .ok (.ireturn, 1) := by decide +kernel
theorem dL_fewestPasses_0 : decode cL_fewestPasses 0 = .ok (.aload_n 2, 1) := by decide +kernel
theorem dL_fewestPasses_1 : decode cL_fewestPasses 1 = .ok (.iconst 0, 1) := by decide +kernel
theorem dL_fewestPasses_2 : decode cL_fewestPasses 2 = .ok (.aload_n 0, 1) := by decide +kernel
theorem dL_fewestPasses_3 : decode cL_fewestPasses 3 = .ok (.iload_n 1, 1) := by decide +kernel
theorem dL_fewestPasses_4 : decode cL_fewestPasses 4 = .ok (.invokevirtual 88, 3) := by decide +kernel
theorem dL_fewestPasses_7 : decode cL_fewestPasses 7 = .ok (.i2l, 1) := by decide +kernel
theorem dL_fewestPasses_8 : decode cL_fewestPasses 8 = .ok (.lastore, 1) := by decide +kernel
theorem dL_fewestPasses_9 : decode cL_fewestPasses 9 = .ok (.goto 6, 3) := by decide +kernel
theorem dL_fewestPasses_12 : decode cL_fewestPasses 12 = .ok (.astore_n 3, 1) := by decide +kernel
theorem dL_fewestPasses_13 : decode cL_fewestPasses 13 = .ok (.iconst 1, 1) := by decide +kernel
theorem dL_fewestPasses_14 : decode cL_fewestPasses 14 = .ok (.ireturn, 1) := by decide +kernel
theorem dL_fewestPasses_15 : decode cL_fewestPasses 15 = .ok (.iconst 0, 1) := by decide +kernel
theorem dL_fewestPasses_16 : decode cL_fewestPasses 16 = .ok (.ireturn, 1) := by decide +kernel
theorem dL_dust_0 : decode cL_dust 0 = .ok (.aload_n 2, 1) := by decide +kernel
theorem dL_dust_1 : decode cL_dust 1 = .ok (.iconst 0, 1) := by decide +kernel
theorem dL_dust_2 : decode cL_dust 2 = .ok (.aload_n 0, 1) := by decide +kernel
theorem dL_dust_3 : decode cL_dust 3 = .ok (.iload_n 1, 1) := by decide +kernel
theorem dL_dust_4 : decode cL_dust 4 = .ok (.invokevirtual 91, 3) := by decide +kernel
theorem dL_dust_7 : decode cL_dust 7 = .ok (.i2l, 1) := by decide +kernel
theorem dL_dust_8 : decode cL_dust 8 = .ok (.lastore, 1) := by decide +kernel
theorem dL_dust_9 : decode cL_dust 9 = .ok (.goto 6, 3) := by decide +kernel
theorem dL_dust_12 : decode cL_dust 12 = .ok (.astore_n 3, 1) := by decide +kernel
theorem dL_dust_13 : decode cL_dust 13 = .ok (.iconst 1, 1) := by decide +kernel
theorem dL_dust_14 : decode cL_dust 14 = .ok (.ireturn, 1) := by decide +kernel
theorem dL_dust_15 : decode cL_dust 15 = .ok (.iconst 0, 1) := by decide +kernel
theorem dL_dust_16 : decode cL_dust 16 = .ok (.ireturn, 1) := by decide +kernel
theorem dL_gain_0 : decode cL_gain 0 = .ok (.aload_n 3, 1) := by decide +kernel
theorem dL_gain_1 : decode cL_gain 1 = .ok (.iconst 0, 1) := by decide +kernel
theorem dL_gain_2 : decode cL_gain 2 = .ok (.aload_n 0, 1) := by decide +kernel
theorem dL_gain_3 : decode cL_gain 3 = .ok (.iload_n 1, 1) := by decide +kernel
theorem dL_gain_4 : decode cL_gain 4 = .ok (.iload_n 2, 1) := by decide +kernel
theorem dL_gain_5 : decode cL_gain 5 = .ok (.invokevirtual 94, 3) := by decide +kernel
theorem dL_gain_8 : decode cL_gain 8 = .ok (.i2l, 1) := by decide +kernel
theorem dL_gain_9 : decode cL_gain 9 = .ok (.lastore, 1) := by decide +kernel
theorem dL_gain_10 : decode cL_gain 10 = .ok (.goto 11, 3) := by decide +kernel
theorem dL_gain_13 : decode cL_gain 13 = .ok (.astore 4, 2) := by decide +kernel
theorem dL_gain_15 : decode cL_gain 15 = .ok (.iconst 1, 1) := by decide +kernel
theorem dL_gain_16 : decode cL_gain 16 = .ok (.ireturn, 1) := by decide +kernel
theorem dL_gain_17 : decode cL_gain 17 = .ok (.astore 4, 2) := by decide +kernel
theorem dL_gain_19 : decode cL_gain 19 = .ok (.iconst 2, 1) := by decide +kernel
theorem dL_gain_20 : decode cL_gain 20 = .ok (.ireturn, 1) := by decide +kernel
theorem dL_gain_21 : decode cL_gain 21 = .ok (.iconst 0, 1) := by decide +kernel
theorem dL_gain_22 : decode cL_gain 22 = .ok (.ireturn, 1) := by decide +kernel
theorem dL_meanBrightness_0 : decode cL_meanBrightness 0 = .ok (.aload_n 1, 1) := by decide +kernel
theorem dL_meanBrightness_1 : decode cL_meanBrightness 1 = .ok (.iconst 0, 1) := by decide +kernel
theorem dL_meanBrightness_2 : decode cL_meanBrightness 2 = .ok (.aload_n 0, 1) := by decide +kernel
theorem dL_meanBrightness_3 : decode cL_meanBrightness 3 = .ok (.invokevirtual 97, 3) := by decide +kernel
theorem dL_meanBrightness_6 : decode cL_meanBrightness 6 = .ok (.dastore, 1) := by decide +kernel
theorem dL_meanBrightness_7 : decode cL_meanBrightness 7 = .ok (.goto 6, 3) := by decide +kernel
theorem dL_meanBrightness_10 : decode cL_meanBrightness 10 = .ok (.astore_n 2, 1) := by decide +kernel
theorem dL_meanBrightness_11 : decode cL_meanBrightness 11 = .ok (.iconst 1, 1) := by decide +kernel
theorem dL_meanBrightness_12 : decode cL_meanBrightness 12 = .ok (.ireturn, 1) := by decide +kernel
theorem dL_meanBrightness_13 : decode cL_meanBrightness 13 = .ok (.iconst 0, 1) := by decide +kernel
theorem dL_meanBrightness_14 : decode cL_meanBrightness 14 = .ok (.ireturn, 1) := by decide +kernel
theorem dL_append_0 : decode cL_append 0 = .ok (.aload_n 2, 1) := by decide +kernel
theorem dL_append_1 : decode cL_append 1 = .ok (.iconst 0, 1) := by decide +kernel
theorem dL_append_2 : decode cL_append 2 = .ok (.aload_n 0, 1) := by decide +kernel
theorem dL_append_3 : decode cL_append 3 = .ok (.iload_n 1, 1) := by decide +kernel
theorem dL_append_4 : decode cL_append 4 = .ok (.invokevirtual 101, 3) := by decide +kernel
theorem dL_append_7 : decode cL_append 7 = .ok (.i2l, 1) := by decide +kernel
theorem dL_append_8 : decode cL_append 8 = .ok (.lastore, 1) := by decide +kernel
theorem dL_append_9 : decode cL_append 9 = .ok (.goto 6, 3) := by decide +kernel
theorem dL_append_12 : decode cL_append 12 = .ok (.astore_n 3, 1) := by decide +kernel
theorem dL_append_13 : decode cL_append 13 = .ok (.iconst 1, 1) := by decide +kernel
theorem dL_append_14 : decode cL_append 14 = .ok (.ireturn, 1) := by decide +kernel
theorem dL_append_15 : decode cL_append 15 = .ok (.iconst 0, 1) := by decide +kernel
theorem dL_append_16 : decode cL_append 16 = .ok (.ireturn, 1) := by decide +kernel
theorem dL_run_0 : decode cL_run 0 = .ok (.aload_n 1, 1) := by decide +kernel
theorem dL_run_1 : decode cL_run 1 = .ok (.iconst 0, 1) := by decide +kernel
theorem dL_run_2 : decode cL_run 2 = .ok (.aload_n 0, 1) := by decide +kernel
theorem dL_run_3 : decode cL_run 3 = .ok (.invokevirtual 105, 3) := by decide +kernel
theorem dL_run_6 : decode cL_run 6 = .ok (.i2l, 1) := by decide +kernel
theorem dL_run_7 : decode cL_run 7 = .ok (.lastore, 1) := by decide +kernel
theorem dL_run_8 : decode cL_run 8 = .ok (.goto 9, 3) := by decide +kernel
theorem dL_run_11 : decode cL_run 11 = .ok (.astore_n 2, 1) := by decide +kernel
theorem dL_run_12 : decode cL_run 12 = .ok (.iconst 1, 1) := by decide +kernel
theorem dL_run_13 : decode cL_run 13 = .ok (.ireturn, 1) := by decide +kernel
theorem dL_run_14 : decode cL_run 14 = .ok (.astore_n 2, 1) := by decide +kernel
theorem dL_run_15 : decode cL_run 15 = .ok (.iconst 2, 1) := by decide +kernel
theorem dL_run_16 : decode cL_run 16 = .ok (.ireturn, 1) := by decide +kernel
theorem dL_run_17 : decode cL_run 17 = .ok (.iconst 0, 1) := by decide +kernel
theorem dL_run_18 : decode cL_run 18 = .ok (.ireturn, 1) := by decide +kernel
theorem dL_errorPosition_0 : decode cL_errorPosition 0 = .ok (.aload_n 1, 1) := by decide +kernel
theorem dL_errorPosition_1 : decode cL_errorPosition 1 = .ok (.iconst 0, 1) := by decide +kernel
theorem dL_errorPosition_2 : decode cL_errorPosition 2 = .ok (.aload_n 0, 1) := by decide +kernel
theorem dL_errorPosition_3 : decode cL_errorPosition 3 = .ok (.invokevirtual 109, 3) := by decide +kernel
theorem dL_errorPosition_6 : decode cL_errorPosition 6 = .ok (.i2l, 1) := by decide +kernel
theorem dL_errorPosition_7 : decode cL_errorPosition 7 = .ok (.lastore, 1) := by decide +kernel
theorem dL_errorPosition_8 : decode cL_errorPosition 8 = .ok (.goto 6, 3) := by decide +kernel
theorem dL_errorPosition_11 : decode cL_errorPosition 11 = .ok (.astore_n 2, 1) := by decide +kernel
theorem dL_errorPosition_12 : decode cL_errorPosition 12 = .ok (.iconst 1, 1) := by decide +kernel
theorem dL_errorPosition_13 : decode cL_errorPosition 13 = .ok (.ireturn, 1) := by decide +kernel
theorem dL_errorPosition_14 : decode cL_errorPosition 14 = .ok (.iconst 0, 1) := by decide +kernel
theorem dL_errorPosition_15 : decode cL_errorPosition 15 = .ok (.ireturn, 1) := by decide +kernel
theorem dL_failedCommand_0 : decode cL_failedCommand 0 = .ok (.aload_n 1, 1) := by decide +kernel
theorem dL_failedCommand_1 : decode cL_failedCommand 1 = .ok (.iconst 0, 1) := by decide +kernel
theorem dL_failedCommand_2 : decode cL_failedCommand 2 = .ok (.aload_n 0, 1) := by decide +kernel
theorem dL_failedCommand_3 : decode cL_failedCommand 3 = .ok (.invokevirtual 112, 3) := by decide +kernel
theorem dL_failedCommand_6 : decode cL_failedCommand 6 = .ok (.i2l, 1) := by decide +kernel
theorem dL_failedCommand_7 : decode cL_failedCommand 7 = .ok (.lastore, 1) := by decide +kernel
theorem dL_failedCommand_8 : decode cL_failedCommand 8 = .ok (.goto 6, 3) := by decide +kernel
theorem dL_failedCommand_11 : decode cL_failedCommand 11 = .ok (.astore_n 2, 1) := by decide +kernel
theorem dL_failedCommand_12 : decode cL_failedCommand 12 = .ok (.iconst 1, 1) := by decide +kernel
theorem dL_failedCommand_13 : decode cL_failedCommand 13 = .ok (.ireturn, 1) := by decide +kernel
theorem dL_failedCommand_14 : decode cL_failedCommand 14 = .ok (.iconst 0, 1) := by decide +kernel
theorem dL_failedCommand_15 : decode cL_failedCommand 15 = .ok (.ireturn, 1) := by decide +kernel
theorem dL_writeComet_0 : decode cL_writeComet 0 = .ok (.aload_n 2, 1) := by decide +kernel
theorem dL_writeComet_1 : decode cL_writeComet 1 = .ok (.iconst 0, 1) := by decide +kernel
theorem dL_writeComet_2 : decode cL_writeComet 2 = .ok (.aload_n 0, 1) := by decide +kernel
theorem dL_writeComet_3 : decode cL_writeComet 3 = .ok (.iload_n 1, 1) := by decide +kernel
theorem dL_writeComet_4 : decode cL_writeComet 4 = .ok (.invokevirtual 115, 3) := by decide +kernel
theorem dL_writeComet_7 : decode cL_writeComet 7 = .ok (.i2l, 1) := by decide +kernel
theorem dL_writeComet_8 : decode cL_writeComet 8 = .ok (.lastore, 1) := by decide +kernel
theorem dL_writeComet_9 : decode cL_writeComet 9 = .ok (.goto 6, 3) := by decide +kernel
theorem dL_writeComet_12 : decode cL_writeComet 12 = .ok (.astore_n 3, 1) := by decide +kernel
theorem dL_writeComet_13 : decode cL_writeComet 13 = .ok (.iconst 1, 1) := by decide +kernel
theorem dL_writeComet_14 : decode cL_writeComet 14 = .ok (.ireturn, 1) := by decide +kernel
theorem dL_writeComet_15 : decode cL_writeComet 15 = .ok (.iconst 0, 1) := by decide +kernel
theorem dL_writeComet_16 : decode cL_writeComet 16 = .ok (.ireturn, 1) := by decide +kernel
theorem dL_outputAt_0 : decode cL_outputAt 0 = .ok (.aload_n 2, 1) := by decide +kernel
theorem dL_outputAt_1 : decode cL_outputAt 1 = .ok (.iconst 0, 1) := by decide +kernel
theorem dL_outputAt_2 : decode cL_outputAt 2 = .ok (.aload_n 0, 1) := by decide +kernel
theorem dL_outputAt_3 : decode cL_outputAt 3 = .ok (.iload_n 1, 1) := by decide +kernel
theorem dL_outputAt_4 : decode cL_outputAt 4 = .ok (.invokevirtual 118, 3) := by decide +kernel
theorem dL_outputAt_7 : decode cL_outputAt 7 = .ok (.i2l, 1) := by decide +kernel
theorem dL_outputAt_8 : decode cL_outputAt 8 = .ok (.lastore, 1) := by decide +kernel
theorem dL_outputAt_9 : decode cL_outputAt 9 = .ok (.goto 6, 3) := by decide +kernel
theorem dL_outputAt_12 : decode cL_outputAt 12 = .ok (.astore_n 3, 1) := by decide +kernel
theorem dL_outputAt_13 : decode cL_outputAt 13 = .ok (.iconst 1, 1) := by decide +kernel
theorem dL_outputAt_14 : decode cL_outputAt 14 = .ok (.ireturn, 1) := by decide +kernel
theorem dL_outputAt_15 : decode cL_outputAt 15 = .ok (.iconst 0, 1) := by decide +kernel
theorem dL_outputAt_16 : decode cL_outputAt 16 = .ok (.ireturn, 1) := by decide +kernel
theorem dL_undo_0 : decode cL_undo 0 = .ok (.aload_n 1, 1) := by decide +kernel
theorem dL_undo_1 : decode cL_undo 1 = .ok (.iconst 0, 1) := by decide +kernel
theorem dL_undo_2 : decode cL_undo 2 = .ok (.aload_n 0, 1) := by decide +kernel
theorem dL_undo_3 : decode cL_undo 3 = .ok (.invokevirtual 122, 3) := by decide +kernel
theorem dL_undo_6 : decode cL_undo 6 = .ok (.i2l, 1) := by decide +kernel
theorem dL_undo_7 : decode cL_undo 7 = .ok (.lastore, 1) := by decide +kernel
theorem dL_undo_8 : decode cL_undo 8 = .ok (.goto 6, 3) := by decide +kernel
theorem dL_undo_11 : decode cL_undo 11 = .ok (.astore_n 2, 1) := by decide +kernel
theorem dL_undo_12 : decode cL_undo 12 = .ok (.iconst 1, 1) := by decide +kernel
theorem dL_undo_13 : decode cL_undo 13 = .ok (.ireturn, 1) := by decide +kernel
theorem dL_undo_14 : decode cL_undo 14 = .ok (.iconst 0, 1) := by decide +kernel
theorem dL_undo_15 : decode cL_undo 15 = .ok (.ireturn, 1) := by decide +kernel
theorem dL_restore_0 : decode cL_restore 0 = .ok (.aload_n 0, 1) := by decide +kernel
theorem dL_restore_1 : decode cL_restore 1 = .ok (.invokevirtual 125, 3) := by decide +kernel
theorem dL_restore_4 : decode cL_restore 4 = .ok (.goto 6, 3) := by decide +kernel
theorem dL_restore_7 : decode cL_restore 7 = .ok (.astore_n 1, 1) := by decide +kernel
theorem dL_restore_8 : decode cL_restore 8 = .ok (.iconst 1, 1) := by decide +kernel
theorem dL_restore_9 : decode cL_restore 9 = .ok (.ireturn, 1) := by decide +kernel
theorem dL_restore_10 : decode cL_restore 10 = .ok (.iconst 0, 1) := by decide +kernel
theorem dL_restore_11 : decode cL_restore 11 = .ok (.ireturn, 1) := by decide +kernel
end
section
theorem dL_law_0 : decode cL_law 0 = .ok (.new 8, 3) := by decide +kernel
theorem dL_law_3 : decode cL_law 3 = .ok (.dup, 1) := by decide +kernel
theorem dL_law_4 : decode cL_law 4 = .ok (.invokespecial 128, 3) := by decide +kernel
theorem dL_law_7 : decode cL_law 7 = .ok (.astore_n 1, 1) := by decide +kernel
theorem dL_law_8 : decode cL_law 8 = .ok (.new 129, 3) := by decide +kernel
theorem dL_law_11 : decode cL_law 11 = .ok (.dup, 1) := by decide +kernel
theorem dL_law_12 : decode cL_law 12 = .ok (.invokespecial 131, 3) := by decide +kernel
theorem dL_law_15 : decode cL_law 15 = .ok (.astore_n 2, 1) := by decide +kernel
theorem dL_law_16 : decode cL_law 16 = .ok (.iconst 1, 1) := by decide +kernel
theorem dL_law_17 : decode cL_law 17 = .ok (.newarray .long, 2) := by decide +kernel
theorem dL_law_19 : decode cL_law 19 = .ok (.astore_n 3, 1) := by decide +kernel
theorem dL_law_20 : decode cL_law 20 = .ok (.iconst 1, 1) := by decide +kernel
theorem dL_law_21 : decode cL_law 21 = .ok (.newarray .double, 2) := by decide +kernel
theorem dL_law_23 : decode cL_law 23 = .ok (.astore 4, 2) := by decide +kernel
theorem dL_law_25 : decode cL_law 25 = .ok (.iconst 0, 1) := by decide +kernel
theorem dL_law_26 : decode cL_law 26 = .ok (.istore 5, 2) := by decide +kernel
theorem dL_law_28 : decode cL_law 28 = .ok (.iload 5, 2) := by decide +kernel
theorem dL_law_30 : decode cL_law 30 = .ok (.aload_n 0, 1) := by decide +kernel
theorem dL_law_31 : decode cL_law 31 = .ok (.arraylength, 1) := by decide +kernel
theorem dL_law_32 : decode cL_law 32 = .ok (.iconst 4, 1) := by decide +kernel
theorem dL_law_33 : decode cL_law 33 = .ok (.isub, 1) := by decide +kernel
theorem dL_law_34 : decode cL_law 34 = .ok (.if_icmp .gt 2355, 3) := by decide +kernel
theorem dL_law_37 : decode cL_law 37 = .ok (.aload_n 0, 1) := by decide +kernel
theorem dL_law_38 : decode cL_law 38 = .ok (.iload 5, 2) := by decide +kernel
theorem dL_law_40 : decode cL_law 40 = .ok (.iaload, 1) := by decide +kernel
theorem dL_law_41 : decode cL_law 41 = .ok (.bipush 63, 2) := by decide +kernel
theorem dL_law_43 : decode cL_law 43 = .ok (.iand, 1) := by decide +kernel
theorem dL_law_44 : decode cL_law 44 = .ok (.tableswitch 2339 0 49 #[216, 296, 352, 420, 488, 544, 612, 668, 681, 737, 762, 818, 874, 930, 986, 1042, 1098, 1154, 1210, 1278, 1346, 1389, 1445, 1501, 1557, 1613, 1681, 1694, 1707, 1720, 1733, 1746, 1759, 1772, 1785, 1798, 1811, 1824, 1889, 1932, 1945, 2003, 2047, 2091, 2135, 2191, 2204, 2260, 2304, 2315], 216) := by decide +kernel
theorem dL_law_260 : decode cL_law 260 = .ok (.aload_n 1, 1) := by decide +kernel
theorem dL_law_261 : decode cL_law 261 = .ok (.aload_n 0, 1) := by decide +kernel
theorem dL_law_262 : decode cL_law 262 = .ok (.iload 5, 2) := by decide +kernel
theorem dL_law_264 : decode cL_law 264 = .ok (.iconst 1, 1) := by decide +kernel
theorem dL_law_265 : decode cL_law 265 = .ok (.iadd, 1) := by decide +kernel
theorem dL_law_266 : decode cL_law 266 = .ok (.iaload, 1) := by decide +kernel
theorem dL_law_267 : decode cL_law 267 = .ok (.aload_n 0, 1) := by decide +kernel
theorem dL_law_268 : decode cL_law 268 = .ok (.iload 5, 2) := by decide +kernel
theorem dL_law_270 : decode cL_law 270 = .ok (.iconst 2, 1) := by decide +kernel
theorem dL_law_271 : decode cL_law 271 = .ok (.iadd, 1) := by decide +kernel
theorem dL_law_272 : decode cL_law 272 = .ok (.iaload, 1) := by decide +kernel
theorem dL_law_273 : decode cL_law 273 = .ok (.aload_n 0, 1) := by decide +kernel
theorem dL_law_274 : decode cL_law 274 = .ok (.iload 5, 2) := by decide +kernel
theorem dL_law_276 : decode cL_law 276 = .ok (.iconst 3, 1) := by decide +kernel
theorem dL_law_277 : decode cL_law 277 = .ok (.iadd, 1) := by decide +kernel
theorem dL_law_278 : decode cL_law 278 = .ok (.iaload, 1) := by decide +kernel
theorem dL_law_279 : decode cL_law 279 = .ok (.aload_n 3, 1) := by decide +kernel
theorem dL_law_280 : decode cL_law 280 = .ok (.invokestatic 132, 3) := by decide +kernel
theorem dL_law_283 : decode cL_law 283 = .ok (.istore 6, 2) := by decide +kernel
theorem dL_law_285 : decode cL_law 285 = .ok (.aload_n 2, 1) := by decide +kernel
theorem dL_law_286 : decode cL_law 286 = .ok (.aload_n 0, 1) := by decide +kernel
theorem dL_law_287 : decode cL_law 287 = .ok (.iload 5, 2) := by decide +kernel
theorem dL_law_289 : decode cL_law 289 = .ok (.iconst 1, 1) := by decide +kernel
theorem dL_law_290 : decode cL_law 290 = .ok (.iadd, 1) := by decide +kernel
theorem dL_law_291 : decode cL_law 291 = .ok (.iaload, 1) := by decide +kernel
theorem dL_law_292 : decode cL_law 292 = .ok (.aload_n 0, 1) := by decide +kernel
theorem dL_law_293 : decode cL_law 293 = .ok (.iload 5, 2) := by decide +kernel
theorem dL_law_295 : decode cL_law 295 = .ok (.iconst 2, 1) := by decide +kernel
theorem dL_law_296 : decode cL_law 296 = .ok (.iadd, 1) := by decide +kernel
theorem dL_law_297 : decode cL_law 297 = .ok (.iaload, 1) := by decide +kernel
theorem dL_law_298 : decode cL_law 298 = .ok (.aload_n 0, 1) := by decide +kernel
theorem dL_law_299 : decode cL_law 299 = .ok (.iload 5, 2) := by decide +kernel
theorem dL_law_301 : decode cL_law 301 = .ok (.iconst 3, 1) := by decide +kernel
theorem dL_law_302 : decode cL_law 302 = .ok (.iadd, 1) := by decide +kernel
theorem dL_law_303 : decode cL_law 303 = .ok (.iaload, 1) := by decide +kernel
theorem dL_law_304 : decode cL_law 304 = .ok (.invokevirtual 137, 3) := by decide +kernel
theorem dL_law_307 : decode cL_law 307 = .ok (.istore 7, 2) := by decide +kernel
theorem dL_law_309 : decode cL_law 309 = .ok (.aload_n 2, 1) := by decide +kernel
theorem dL_law_310 : decode cL_law 310 = .ok (.invokevirtual 138, 3) := by decide +kernel
theorem dL_law_313 : decode cL_law 313 = .ok (.iload 6, 2) := by decide +kernel
theorem dL_law_315 : decode cL_law 315 = .ok (.if_icmp .eq 5, 3) := by decide +kernel
theorem dL_law_318 : decode cL_law 318 = .ok (.iconst 0, 1) := by decide +kernel
theorem dL_law_319 : decode cL_law 319 = .ok (.ireturn, 1) := by decide +kernel
theorem dL_law_320 : decode cL_law 320 = .ok (.iload 6, 2) := by decide +kernel
theorem dL_law_322 : decode cL_law 322 = .ok (.ifCond .ne 15, 3) := by decide +kernel
theorem dL_law_325 : decode cL_law 325 = .ok (.aload_n 3, 1) := by decide +kernel
theorem dL_law_326 : decode cL_law 326 = .ok (.iconst 0, 1) := by decide +kernel
theorem dL_law_327 : decode cL_law 327 = .ok (.laload, 1) := by decide +kernel
theorem dL_law_328 : decode cL_law 328 = .ok (.iload 7, 2) := by decide +kernel
theorem dL_law_330 : decode cL_law 330 = .ok (.i2l, 1) := by decide +kernel
theorem dL_law_331 : decode cL_law 331 = .ok (.lcmp, 1) := by decide +kernel
theorem dL_law_332 : decode cL_law 332 = .ok (.ifCond .eq 5, 3) := by decide +kernel
theorem dL_law_335 : decode cL_law 335 = .ok (.iconst 0, 1) := by decide +kernel
theorem dL_law_336 : decode cL_law 336 = .ok (.ireturn, 1) := by decide +kernel
theorem dL_law_337 : decode cL_law 337 = .ok (.goto 2046, 3) := by decide +kernel
theorem dL_law_340 : decode cL_law 340 = .ok (.aload_n 1, 1) := by decide +kernel
theorem dL_law_341 : decode cL_law 341 = .ok (.aload_n 0, 1) := by decide +kernel
theorem dL_law_342 : decode cL_law 342 = .ok (.iload 5, 2) := by decide +kernel
theorem dL_law_344 : decode cL_law 344 = .ok (.iconst 1, 1) := by decide +kernel
theorem dL_law_345 : decode cL_law 345 = .ok (.iadd, 1) := by decide +kernel
theorem dL_law_346 : decode cL_law 346 = .ok (.iaload, 1) := by decide +kernel
theorem dL_law_347 : decode cL_law 347 = .ok (.aload_n 3, 1) := by decide +kernel
theorem dL_law_348 : decode cL_law 348 = .ok (.invokestatic 141, 3) := by decide +kernel
theorem dL_law_351 : decode cL_law 351 = .ok (.istore 6, 2) := by decide +kernel
theorem dL_law_353 : decode cL_law 353 = .ok (.aload_n 2, 1) := by decide +kernel
theorem dL_law_354 : decode cL_law 354 = .ok (.aload_n 0, 1) := by decide +kernel
theorem dL_law_355 : decode cL_law 355 = .ok (.iload 5, 2) := by decide +kernel
theorem dL_law_357 : decode cL_law 357 = .ok (.iconst 1, 1) := by decide +kernel
theorem dL_law_358 : decode cL_law 358 = .ok (.iadd, 1) := by decide +kernel
theorem dL_law_359 : decode cL_law 359 = .ok (.iaload, 1) := by decide +kernel
theorem dL_law_360 : decode cL_law 360 = .ok (.invokevirtual 144, 3) := by decide +kernel
theorem dL_law_363 : decode cL_law 363 = .ok (.istore 7, 2) := by decide +kernel
theorem dL_law_365 : decode cL_law 365 = .ok (.aload_n 2, 1) := by decide +kernel
theorem dL_law_366 : decode cL_law 366 = .ok (.invokevirtual 138, 3) := by decide +kernel
theorem dL_law_369 : decode cL_law 369 = .ok (.iload 6, 2) := by decide +kernel
theorem dL_law_371 : decode cL_law 371 = .ok (.if_icmp .eq 5, 3) := by decide +kernel
theorem dL_law_374 : decode cL_law 374 = .ok (.iconst 0, 1) := by decide +kernel
theorem dL_law_375 : decode cL_law 375 = .ok (.ireturn, 1) := by decide +kernel
theorem dL_law_376 : decode cL_law 376 = .ok (.iload 6, 2) := by decide +kernel
theorem dL_law_378 : decode cL_law 378 = .ok (.ifCond .ne 15, 3) := by decide +kernel
theorem dL_law_381 : decode cL_law 381 = .ok (.aload_n 3, 1) := by decide +kernel
theorem dL_law_382 : decode cL_law 382 = .ok (.iconst 0, 1) := by decide +kernel
theorem dL_law_383 : decode cL_law 383 = .ok (.laload, 1) := by decide +kernel
theorem dL_law_384 : decode cL_law 384 = .ok (.iload 7, 2) := by decide +kernel
theorem dL_law_386 : decode cL_law 386 = .ok (.i2l, 1) := by decide +kernel
theorem dL_law_387 : decode cL_law 387 = .ok (.lcmp, 1) := by decide +kernel
theorem dL_law_388 : decode cL_law 388 = .ok (.ifCond .eq 5, 3) := by decide +kernel
theorem dL_law_391 : decode cL_law 391 = .ok (.iconst 0, 1) := by decide +kernel
theorem dL_law_392 : decode cL_law 392 = .ok (.ireturn, 1) := by decide +kernel
theorem dL_law_393 : decode cL_law 393 = .ok (.goto 1990, 3) := by decide +kernel
theorem dL_law_396 : decode cL_law 396 = .ok (.aload_n 1, 1) := by decide +kernel
theorem dL_law_397 : decode cL_law 397 = .ok (.aload_n 0, 1) := by decide +kernel
theorem dL_law_398 : decode cL_law 398 = .ok (.iload 5, 2) := by decide +kernel
theorem dL_law_400 : decode cL_law 400 = .ok (.iconst 1, 1) := by decide +kernel
theorem dL_law_401 : decode cL_law 401 = .ok (.iadd, 1) := by decide +kernel
theorem dL_law_402 : decode cL_law 402 = .ok (.iaload, 1) := by decide +kernel
theorem dL_law_403 : decode cL_law 403 = .ok (.aload_n 0, 1) := by decide +kernel
theorem dL_law_404 : decode cL_law 404 = .ok (.iload 5, 2) := by decide +kernel
theorem dL_law_406 : decode cL_law 406 = .ok (.iconst 2, 1) := by decide +kernel
theorem dL_law_407 : decode cL_law 407 = .ok (.iadd, 1) := by decide +kernel
theorem dL_law_408 : decode cL_law 408 = .ok (.iaload, 1) := by decide +kernel
theorem dL_law_409 : decode cL_law 409 = .ok (.aload_n 3, 1) := by decide +kernel
theorem dL_law_410 : decode cL_law 410 = .ok (.invokestatic 145, 3) := by decide +kernel
theorem dL_law_413 : decode cL_law 413 = .ok (.istore 6, 2) := by decide +kernel
theorem dL_law_415 : decode cL_law 415 = .ok (.aload_n 2, 1) := by decide +kernel
theorem dL_law_416 : decode cL_law 416 = .ok (.aload_n 0, 1) := by decide +kernel
theorem dL_law_417 : decode cL_law 417 = .ok (.iload 5, 2) := by decide +kernel
theorem dL_law_419 : decode cL_law 419 = .ok (.iconst 1, 1) := by decide +kernel
theorem dL_law_420 : decode cL_law 420 = .ok (.iadd, 1) := by decide +kernel
theorem dL_law_421 : decode cL_law 421 = .ok (.iaload, 1) := by decide +kernel
theorem dL_law_422 : decode cL_law 422 = .ok (.aload_n 0, 1) := by decide +kernel
theorem dL_law_423 : decode cL_law 423 = .ok (.iload 5, 2) := by decide +kernel
theorem dL_law_425 : decode cL_law 425 = .ok (.iconst 2, 1) := by decide +kernel
theorem dL_law_426 : decode cL_law 426 = .ok (.iadd, 1) := by decide +kernel
theorem dL_law_427 : decode cL_law 427 = .ok (.iaload, 1) := by decide +kernel
theorem dL_law_428 : decode cL_law 428 = .ok (.invokevirtual 148, 3) := by decide +kernel
theorem dL_law_431 : decode cL_law 431 = .ok (.istore 7, 2) := by decide +kernel
theorem dL_law_433 : decode cL_law 433 = .ok (.aload_n 2, 1) := by decide +kernel
theorem dL_law_434 : decode cL_law 434 = .ok (.invokevirtual 138, 3) := by decide +kernel
theorem dL_law_437 : decode cL_law 437 = .ok (.iload 6, 2) := by decide +kernel
theorem dL_law_439 : decode cL_law 439 = .ok (.if_icmp .eq 5, 3) := by decide +kernel
theorem dL_law_442 : decode cL_law 442 = .ok (.iconst 0, 1) := by decide +kernel
theorem dL_law_443 : decode cL_law 443 = .ok (.ireturn, 1) := by decide +kernel
theorem dL_law_444 : decode cL_law 444 = .ok (.iload 6, 2) := by decide +kernel
theorem dL_law_446 : decode cL_law 446 = .ok (.ifCond .ne 15, 3) := by decide +kernel
theorem dL_law_449 : decode cL_law 449 = .ok (.aload_n 3, 1) := by decide +kernel
theorem dL_law_450 : decode cL_law 450 = .ok (.iconst 0, 1) := by decide +kernel
theorem dL_law_451 : decode cL_law 451 = .ok (.laload, 1) := by decide +kernel
theorem dL_law_452 : decode cL_law 452 = .ok (.iload 7, 2) := by decide +kernel
theorem dL_law_454 : decode cL_law 454 = .ok (.i2l, 1) := by decide +kernel
theorem dL_law_455 : decode cL_law 455 = .ok (.lcmp, 1) := by decide +kernel
theorem dL_law_456 : decode cL_law 456 = .ok (.ifCond .eq 5, 3) := by decide +kernel
theorem dL_law_459 : decode cL_law 459 = .ok (.iconst 0, 1) := by decide +kernel
theorem dL_law_460 : decode cL_law 460 = .ok (.ireturn, 1) := by decide +kernel
theorem dL_law_461 : decode cL_law 461 = .ok (.goto 1922, 3) := by decide +kernel
theorem dL_law_464 : decode cL_law 464 = .ok (.aload_n 1, 1) := by decide +kernel
theorem dL_law_465 : decode cL_law 465 = .ok (.aload_n 0, 1) := by decide +kernel
theorem dL_law_466 : decode cL_law 466 = .ok (.iload 5, 2) := by decide +kernel
theorem dL_law_468 : decode cL_law 468 = .ok (.iconst 1, 1) := by decide +kernel
theorem dL_law_469 : decode cL_law 469 = .ok (.iadd, 1) := by decide +kernel
theorem dL_law_470 : decode cL_law 470 = .ok (.iaload, 1) := by decide +kernel
theorem dL_law_471 : decode cL_law 471 = .ok (.aload_n 0, 1) := by decide +kernel
theorem dL_law_472 : decode cL_law 472 = .ok (.iload 5, 2) := by decide +kernel
theorem dL_law_474 : decode cL_law 474 = .ok (.iconst 2, 1) := by decide +kernel
theorem dL_law_475 : decode cL_law 475 = .ok (.iadd, 1) := by decide +kernel
theorem dL_law_476 : decode cL_law 476 = .ok (.iaload, 1) := by decide +kernel
theorem dL_law_477 : decode cL_law 477 = .ok (.aload_n 3, 1) := by decide +kernel
theorem dL_law_478 : decode cL_law 478 = .ok (.invokestatic 149, 3) := by decide +kernel
theorem dL_law_481 : decode cL_law 481 = .ok (.istore 6, 2) := by decide +kernel
theorem dL_law_483 : decode cL_law 483 = .ok (.aload_n 2, 1) := by decide +kernel
theorem dL_law_484 : decode cL_law 484 = .ok (.aload_n 0, 1) := by decide +kernel
theorem dL_law_485 : decode cL_law 485 = .ok (.iload 5, 2) := by decide +kernel
theorem dL_law_487 : decode cL_law 487 = .ok (.iconst 1, 1) := by decide +kernel
theorem dL_law_488 : decode cL_law 488 = .ok (.iadd, 1) := by decide +kernel
theorem dL_law_489 : decode cL_law 489 = .ok (.iaload, 1) := by decide +kernel
theorem dL_law_490 : decode cL_law 490 = .ok (.aload_n 0, 1) := by decide +kernel
theorem dL_law_491 : decode cL_law 491 = .ok (.iload 5, 2) := by decide +kernel
theorem dL_law_493 : decode cL_law 493 = .ok (.iconst 2, 1) := by decide +kernel
theorem dL_law_494 : decode cL_law 494 = .ok (.iadd, 1) := by decide +kernel
theorem dL_law_495 : decode cL_law 495 = .ok (.iaload, 1) := by decide +kernel
theorem dL_law_496 : decode cL_law 496 = .ok (.invokevirtual 151, 3) := by decide +kernel
theorem dL_law_499 : decode cL_law 499 = .ok (.istore 7, 2) := by decide +kernel
theorem dL_law_501 : decode cL_law 501 = .ok (.aload_n 2, 1) := by decide +kernel
theorem dL_law_502 : decode cL_law 502 = .ok (.invokevirtual 138, 3) := by decide +kernel
theorem dL_law_505 : decode cL_law 505 = .ok (.iload 6, 2) := by decide +kernel
theorem dL_law_507 : decode cL_law 507 = .ok (.if_icmp .eq 5, 3) := by decide +kernel
theorem dL_law_510 : decode cL_law 510 = .ok (.iconst 0, 1) := by decide +kernel
theorem dL_law_511 : decode cL_law 511 = .ok (.ireturn, 1) := by decide +kernel
theorem dL_law_512 : decode cL_law 512 = .ok (.iload 6, 2) := by decide +kernel
theorem dL_law_514 : decode cL_law 514 = .ok (.ifCond .ne 15, 3) := by decide +kernel
theorem dL_law_517 : decode cL_law 517 = .ok (.aload_n 3, 1) := by decide +kernel
theorem dL_law_518 : decode cL_law 518 = .ok (.iconst 0, 1) := by decide +kernel
theorem dL_law_519 : decode cL_law 519 = .ok (.laload, 1) := by decide +kernel
theorem dL_law_520 : decode cL_law 520 = .ok (.iload 7, 2) := by decide +kernel
theorem dL_law_522 : decode cL_law 522 = .ok (.i2l, 1) := by decide +kernel
theorem dL_law_523 : decode cL_law 523 = .ok (.lcmp, 1) := by decide +kernel
theorem dL_law_524 : decode cL_law 524 = .ok (.ifCond .eq 5, 3) := by decide +kernel
theorem dL_law_527 : decode cL_law 527 = .ok (.iconst 0, 1) := by decide +kernel
theorem dL_law_528 : decode cL_law 528 = .ok (.ireturn, 1) := by decide +kernel
theorem dL_law_529 : decode cL_law 529 = .ok (.goto 1854, 3) := by decide +kernel
theorem dL_law_532 : decode cL_law 532 = .ok (.aload_n 1, 1) := by decide +kernel
theorem dL_law_533 : decode cL_law 533 = .ok (.aload_n 0, 1) := by decide +kernel
theorem dL_law_534 : decode cL_law 534 = .ok (.iload 5, 2) := by decide +kernel
theorem dL_law_536 : decode cL_law 536 = .ok (.iconst 1, 1) := by decide +kernel
theorem dL_law_537 : decode cL_law 537 = .ok (.iadd, 1) := by decide +kernel
theorem dL_law_538 : decode cL_law 538 = .ok (.iaload, 1) := by decide +kernel
theorem dL_law_539 : decode cL_law 539 = .ok (.aload_n 3, 1) := by decide +kernel
theorem dL_law_540 : decode cL_law 540 = .ok (.invokestatic 152, 3) := by decide +kernel
theorem dL_law_543 : decode cL_law 543 = .ok (.istore 6, 2) := by decide +kernel
theorem dL_law_545 : decode cL_law 545 = .ok (.aload_n 2, 1) := by decide +kernel
theorem dL_law_546 : decode cL_law 546 = .ok (.aload_n 0, 1) := by decide +kernel
theorem dL_law_547 : decode cL_law 547 = .ok (.iload 5, 2) := by decide +kernel
theorem dL_law_549 : decode cL_law 549 = .ok (.iconst 1, 1) := by decide +kernel
theorem dL_law_550 : decode cL_law 550 = .ok (.iadd, 1) := by decide +kernel
theorem dL_law_551 : decode cL_law 551 = .ok (.iaload, 1) := by decide +kernel
theorem dL_law_552 : decode cL_law 552 = .ok (.invokevirtual 154, 3) := by decide +kernel
theorem dL_law_555 : decode cL_law 555 = .ok (.istore 7, 2) := by decide +kernel
theorem dL_law_557 : decode cL_law 557 = .ok (.aload_n 2, 1) := by decide +kernel
theorem dL_law_558 : decode cL_law 558 = .ok (.invokevirtual 138, 3) := by decide +kernel
theorem dL_law_561 : decode cL_law 561 = .ok (.iload 6, 2) := by decide +kernel
theorem dL_law_563 : decode cL_law 563 = .ok (.if_icmp .eq 5, 3) := by decide +kernel
theorem dL_law_566 : decode cL_law 566 = .ok (.iconst 0, 1) := by decide +kernel
theorem dL_law_567 : decode cL_law 567 = .ok (.ireturn, 1) := by decide +kernel
theorem dL_law_568 : decode cL_law 568 = .ok (.iload 6, 2) := by decide +kernel
theorem dL_law_570 : decode cL_law 570 = .ok (.ifCond .ne 15, 3) := by decide +kernel
theorem dL_law_573 : decode cL_law 573 = .ok (.aload_n 3, 1) := by decide +kernel
theorem dL_law_574 : decode cL_law 574 = .ok (.iconst 0, 1) := by decide +kernel
theorem dL_law_575 : decode cL_law 575 = .ok (.laload, 1) := by decide +kernel
theorem dL_law_576 : decode cL_law 576 = .ok (.iload 7, 2) := by decide +kernel
theorem dL_law_578 : decode cL_law 578 = .ok (.i2l, 1) := by decide +kernel
theorem dL_law_579 : decode cL_law 579 = .ok (.lcmp, 1) := by decide +kernel
theorem dL_law_580 : decode cL_law 580 = .ok (.ifCond .eq 5, 3) := by decide +kernel
theorem dL_law_583 : decode cL_law 583 = .ok (.iconst 0, 1) := by decide +kernel
theorem dL_law_584 : decode cL_law 584 = .ok (.ireturn, 1) := by decide +kernel
theorem dL_law_585 : decode cL_law 585 = .ok (.goto 1798, 3) := by decide +kernel
theorem dL_law_588 : decode cL_law 588 = .ok (.aload_n 1, 1) := by decide +kernel
theorem dL_law_589 : decode cL_law 589 = .ok (.aload_n 0, 1) := by decide +kernel
theorem dL_law_590 : decode cL_law 590 = .ok (.iload 5, 2) := by decide +kernel
theorem dL_law_592 : decode cL_law 592 = .ok (.iconst 1, 1) := by decide +kernel
theorem dL_law_593 : decode cL_law 593 = .ok (.iadd, 1) := by decide +kernel
theorem dL_law_594 : decode cL_law 594 = .ok (.iaload, 1) := by decide +kernel
theorem dL_law_595 : decode cL_law 595 = .ok (.aload_n 0, 1) := by decide +kernel
theorem dL_law_596 : decode cL_law 596 = .ok (.iload 5, 2) := by decide +kernel
theorem dL_law_598 : decode cL_law 598 = .ok (.iconst 2, 1) := by decide +kernel
theorem dL_law_599 : decode cL_law 599 = .ok (.iadd, 1) := by decide +kernel
theorem dL_law_600 : decode cL_law 600 = .ok (.iaload, 1) := by decide +kernel
theorem dL_law_601 : decode cL_law 601 = .ok (.aload_n 3, 1) := by decide +kernel
theorem dL_law_602 : decode cL_law 602 = .ok (.invokestatic 155, 3) := by decide +kernel
theorem dL_law_605 : decode cL_law 605 = .ok (.istore 6, 2) := by decide +kernel
theorem dL_law_607 : decode cL_law 607 = .ok (.aload_n 2, 1) := by decide +kernel
theorem dL_law_608 : decode cL_law 608 = .ok (.aload_n 0, 1) := by decide +kernel
theorem dL_law_609 : decode cL_law 609 = .ok (.iload 5, 2) := by decide +kernel
theorem dL_law_611 : decode cL_law 611 = .ok (.iconst 1, 1) := by decide +kernel
theorem dL_law_612 : decode cL_law 612 = .ok (.iadd, 1) := by decide +kernel
theorem dL_law_613 : decode cL_law 613 = .ok (.iaload, 1) := by decide +kernel
theorem dL_law_614 : decode cL_law 614 = .ok (.aload_n 0, 1) := by decide +kernel
theorem dL_law_615 : decode cL_law 615 = .ok (.iload 5, 2) := by decide +kernel
theorem dL_law_617 : decode cL_law 617 = .ok (.iconst 2, 1) := by decide +kernel
theorem dL_law_618 : decode cL_law 618 = .ok (.iadd, 1) := by decide +kernel
theorem dL_law_619 : decode cL_law 619 = .ok (.iaload, 1) := by decide +kernel
theorem dL_law_620 : decode cL_law 620 = .ok (.invokevirtual 157, 3) := by decide +kernel
theorem dL_law_623 : decode cL_law 623 = .ok (.istore 7, 2) := by decide +kernel
theorem dL_law_625 : decode cL_law 625 = .ok (.aload_n 2, 1) := by decide +kernel
theorem dL_law_626 : decode cL_law 626 = .ok (.invokevirtual 138, 3) := by decide +kernel
theorem dL_law_629 : decode cL_law 629 = .ok (.iload 6, 2) := by decide +kernel
theorem dL_law_631 : decode cL_law 631 = .ok (.if_icmp .eq 5, 3) := by decide +kernel
theorem dL_law_634 : decode cL_law 634 = .ok (.iconst 0, 1) := by decide +kernel
theorem dL_law_635 : decode cL_law 635 = .ok (.ireturn, 1) := by decide +kernel
theorem dL_law_636 : decode cL_law 636 = .ok (.iload 6, 2) := by decide +kernel
theorem dL_law_638 : decode cL_law 638 = .ok (.ifCond .ne 15, 3) := by decide +kernel
theorem dL_law_641 : decode cL_law 641 = .ok (.aload_n 3, 1) := by decide +kernel
theorem dL_law_642 : decode cL_law 642 = .ok (.iconst 0, 1) := by decide +kernel
theorem dL_law_643 : decode cL_law 643 = .ok (.laload, 1) := by decide +kernel
theorem dL_law_644 : decode cL_law 644 = .ok (.iload 7, 2) := by decide +kernel
theorem dL_law_646 : decode cL_law 646 = .ok (.i2l, 1) := by decide +kernel
theorem dL_law_647 : decode cL_law 647 = .ok (.lcmp, 1) := by decide +kernel
theorem dL_law_648 : decode cL_law 648 = .ok (.ifCond .eq 5, 3) := by decide +kernel
theorem dL_law_651 : decode cL_law 651 = .ok (.iconst 0, 1) := by decide +kernel
theorem dL_law_652 : decode cL_law 652 = .ok (.ireturn, 1) := by decide +kernel
theorem dL_law_653 : decode cL_law 653 = .ok (.goto 1730, 3) := by decide +kernel
theorem dL_law_656 : decode cL_law 656 = .ok (.aload_n 1, 1) := by decide +kernel
theorem dL_law_657 : decode cL_law 657 = .ok (.aload_n 0, 1) := by decide +kernel
theorem dL_law_658 : decode cL_law 658 = .ok (.iload 5, 2) := by decide +kernel
theorem dL_law_660 : decode cL_law 660 = .ok (.iconst 1, 1) := by decide +kernel
theorem dL_law_661 : decode cL_law 661 = .ok (.iadd, 1) := by decide +kernel
theorem dL_law_662 : decode cL_law 662 = .ok (.iaload, 1) := by decide +kernel
theorem dL_law_663 : decode cL_law 663 = .ok (.aload_n 3, 1) := by decide +kernel
theorem dL_law_664 : decode cL_law 664 = .ok (.invokestatic 158, 3) := by decide +kernel
theorem dL_law_667 : decode cL_law 667 = .ok (.istore 6, 2) := by decide +kernel
theorem dL_law_669 : decode cL_law 669 = .ok (.aload_n 2, 1) := by decide +kernel
theorem dL_law_670 : decode cL_law 670 = .ok (.aload_n 0, 1) := by decide +kernel
theorem dL_law_671 : decode cL_law 671 = .ok (.iload 5, 2) := by decide +kernel
theorem dL_law_673 : decode cL_law 673 = .ok (.iconst 1, 1) := by decide +kernel
theorem dL_law_674 : decode cL_law 674 = .ok (.iadd, 1) := by decide +kernel
theorem dL_law_675 : decode cL_law 675 = .ok (.iaload, 1) := by decide +kernel
theorem dL_law_676 : decode cL_law 676 = .ok (.invokevirtual 160, 3) := by decide +kernel
theorem dL_law_679 : decode cL_law 679 = .ok (.istore 7, 2) := by decide +kernel
theorem dL_law_681 : decode cL_law 681 = .ok (.aload_n 2, 1) := by decide +kernel
theorem dL_law_682 : decode cL_law 682 = .ok (.invokevirtual 138, 3) := by decide +kernel
theorem dL_law_685 : decode cL_law 685 = .ok (.iload 6, 2) := by decide +kernel
theorem dL_law_687 : decode cL_law 687 = .ok (.if_icmp .eq 5, 3) := by decide +kernel
theorem dL_law_690 : decode cL_law 690 = .ok (.iconst 0, 1) := by decide +kernel
theorem dL_law_691 : decode cL_law 691 = .ok (.ireturn, 1) := by decide +kernel
theorem dL_law_692 : decode cL_law 692 = .ok (.iload 6, 2) := by decide +kernel
theorem dL_law_694 : decode cL_law 694 = .ok (.ifCond .ne 15, 3) := by decide +kernel
theorem dL_law_697 : decode cL_law 697 = .ok (.aload_n 3, 1) := by decide +kernel
theorem dL_law_698 : decode cL_law 698 = .ok (.iconst 0, 1) := by decide +kernel
theorem dL_law_699 : decode cL_law 699 = .ok (.laload, 1) := by decide +kernel
theorem dL_law_700 : decode cL_law 700 = .ok (.iload 7, 2) := by decide +kernel
theorem dL_law_702 : decode cL_law 702 = .ok (.i2l, 1) := by decide +kernel
theorem dL_law_703 : decode cL_law 703 = .ok (.lcmp, 1) := by decide +kernel
theorem dL_law_704 : decode cL_law 704 = .ok (.ifCond .eq 5, 3) := by decide +kernel
theorem dL_law_707 : decode cL_law 707 = .ok (.iconst 0, 1) := by decide +kernel
theorem dL_law_708 : decode cL_law 708 = .ok (.ireturn, 1) := by decide +kernel
theorem dL_law_709 : decode cL_law 709 = .ok (.goto 1674, 3) := by decide +kernel
theorem dL_law_712 : decode cL_law 712 = .ok (.aload_n 1, 1) := by decide +kernel
theorem dL_law_713 : decode cL_law 713 = .ok (.invokevirtual 161, 3) := by decide +kernel
theorem dL_law_716 : decode cL_law 716 = .ok (.aload_n 2, 1) := by decide +kernel
theorem dL_law_717 : decode cL_law 717 = .ok (.invokevirtual 164, 3) := by decide +kernel
theorem dL_law_720 : decode cL_law 720 = .ok (.if_icmp .eq 1663, 3) := by decide +kernel
theorem dL_law_723 : decode cL_law 723 = .ok (.iconst 0, 1) := by decide +kernel
theorem dL_law_724 : decode cL_law 724 = .ok (.ireturn, 1) := by decide +kernel
theorem dL_law_725 : decode cL_law 725 = .ok (.aload_n 1, 1) := by decide +kernel
theorem dL_law_726 : decode cL_law 726 = .ok (.aload_n 0, 1) := by decide +kernel
theorem dL_law_727 : decode cL_law 727 = .ok (.iload 5, 2) := by decide +kernel
theorem dL_law_729 : decode cL_law 729 = .ok (.iconst 1, 1) := by decide +kernel
theorem dL_law_730 : decode cL_law 730 = .ok (.iadd, 1) := by decide +kernel
theorem dL_law_731 : decode cL_law 731 = .ok (.iaload, 1) := by decide +kernel
theorem dL_law_732 : decode cL_law 732 = .ok (.aload_n 3, 1) := by decide +kernel
theorem dL_law_733 : decode cL_law 733 = .ok (.invokestatic 165, 3) := by decide +kernel
theorem dL_law_736 : decode cL_law 736 = .ok (.istore 6, 2) := by decide +kernel
theorem dL_law_738 : decode cL_law 738 = .ok (.aload_n 2, 1) := by decide +kernel
theorem dL_law_739 : decode cL_law 739 = .ok (.aload_n 0, 1) := by decide +kernel
theorem dL_law_740 : decode cL_law 740 = .ok (.iload 5, 2) := by decide +kernel
theorem dL_law_742 : decode cL_law 742 = .ok (.iconst 1, 1) := by decide +kernel
theorem dL_law_743 : decode cL_law 743 = .ok (.iadd, 1) := by decide +kernel
theorem dL_law_744 : decode cL_law 744 = .ok (.iaload, 1) := by decide +kernel
theorem dL_law_745 : decode cL_law 745 = .ok (.invokevirtual 167, 3) := by decide +kernel
theorem dL_law_748 : decode cL_law 748 = .ok (.istore 7, 2) := by decide +kernel
theorem dL_law_750 : decode cL_law 750 = .ok (.aload_n 2, 1) := by decide +kernel
theorem dL_law_751 : decode cL_law 751 = .ok (.invokevirtual 138, 3) := by decide +kernel
theorem dL_law_754 : decode cL_law 754 = .ok (.iload 6, 2) := by decide +kernel
theorem dL_law_756 : decode cL_law 756 = .ok (.if_icmp .eq 5, 3) := by decide +kernel
theorem dL_law_759 : decode cL_law 759 = .ok (.iconst 0, 1) := by decide +kernel
theorem dL_law_760 : decode cL_law 760 = .ok (.ireturn, 1) := by decide +kernel
theorem dL_law_761 : decode cL_law 761 = .ok (.iload 6, 2) := by decide +kernel
theorem dL_law_763 : decode cL_law 763 = .ok (.ifCond .ne 15, 3) := by decide +kernel
theorem dL_law_766 : decode cL_law 766 = .ok (.aload_n 3, 1) := by decide +kernel
theorem dL_law_767 : decode cL_law 767 = .ok (.iconst 0, 1) := by decide +kernel
theorem dL_law_768 : decode cL_law 768 = .ok (.laload, 1) := by decide +kernel
theorem dL_law_769 : decode cL_law 769 = .ok (.iload 7, 2) := by decide +kernel
theorem dL_law_771 : decode cL_law 771 = .ok (.i2l, 1) := by decide +kernel
theorem dL_law_772 : decode cL_law 772 = .ok (.lcmp, 1) := by decide +kernel
theorem dL_law_773 : decode cL_law 773 = .ok (.ifCond .eq 5, 3) := by decide +kernel
theorem dL_law_776 : decode cL_law 776 = .ok (.iconst 0, 1) := by decide +kernel
theorem dL_law_777 : decode cL_law 777 = .ok (.ireturn, 1) := by decide +kernel
theorem dL_law_778 : decode cL_law 778 = .ok (.goto 1605, 3) := by decide +kernel
theorem dL_law_781 : decode cL_law 781 = .ok (.aload_n 1, 1) := by decide +kernel
theorem dL_law_782 : decode cL_law 782 = .ok (.aload_n 0, 1) := by decide +kernel
theorem dL_law_783 : decode cL_law 783 = .ok (.iload 5, 2) := by decide +kernel
theorem dL_law_785 : decode cL_law 785 = .ok (.iconst 1, 1) := by decide +kernel
theorem dL_law_786 : decode cL_law 786 = .ok (.iadd, 1) := by decide +kernel
theorem dL_law_787 : decode cL_law 787 = .ok (.iaload, 1) := by decide +kernel
theorem dL_law_788 : decode cL_law 788 = .ok (.invokevirtual 168, 3) := by decide +kernel
theorem dL_law_791 : decode cL_law 791 = .ok (.aload_n 2, 1) := by decide +kernel
theorem dL_law_792 : decode cL_law 792 = .ok (.aload_n 0, 1) := by decide +kernel
theorem dL_law_793 : decode cL_law 793 = .ok (.iload 5, 2) := by decide +kernel
theorem dL_law_795 : decode cL_law 795 = .ok (.iconst 1, 1) := by decide +kernel
theorem dL_law_796 : decode cL_law 796 = .ok (.iadd, 1) := by decide +kernel
theorem dL_law_797 : decode cL_law 797 = .ok (.iaload, 1) := by decide +kernel
theorem dL_law_798 : decode cL_law 798 = .ok (.invokevirtual 172, 3) := by decide +kernel
theorem dL_law_801 : decode cL_law 801 = .ok (.if_icmp .eq 1582, 3) := by decide +kernel
theorem dL_law_804 : decode cL_law 804 = .ok (.iconst 0, 1) := by decide +kernel
theorem dL_law_805 : decode cL_law 805 = .ok (.ireturn, 1) := by decide +kernel
theorem dL_law_806 : decode cL_law 806 = .ok (.aload_n 1, 1) := by decide +kernel
theorem dL_law_807 : decode cL_law 807 = .ok (.aload_n 0, 1) := by decide +kernel
theorem dL_law_808 : decode cL_law 808 = .ok (.iload 5, 2) := by decide +kernel
theorem dL_law_810 : decode cL_law 810 = .ok (.iconst 1, 1) := by decide +kernel
theorem dL_law_811 : decode cL_law 811 = .ok (.iadd, 1) := by decide +kernel
theorem dL_law_812 : decode cL_law 812 = .ok (.iaload, 1) := by decide +kernel
theorem dL_law_813 : decode cL_law 813 = .ok (.aload_n 3, 1) := by decide +kernel
theorem dL_law_814 : decode cL_law 814 = .ok (.invokestatic 173, 3) := by decide +kernel
theorem dL_law_817 : decode cL_law 817 = .ok (.istore 6, 2) := by decide +kernel
theorem dL_law_819 : decode cL_law 819 = .ok (.aload_n 2, 1) := by decide +kernel
theorem dL_law_820 : decode cL_law 820 = .ok (.aload_n 0, 1) := by decide +kernel
theorem dL_law_821 : decode cL_law 821 = .ok (.iload 5, 2) := by decide +kernel
theorem dL_law_823 : decode cL_law 823 = .ok (.iconst 1, 1) := by decide +kernel
theorem dL_law_824 : decode cL_law 824 = .ok (.iadd, 1) := by decide +kernel
theorem dL_law_825 : decode cL_law 825 = .ok (.iaload, 1) := by decide +kernel
theorem dL_law_826 : decode cL_law 826 = .ok (.invokevirtual 175, 3) := by decide +kernel
theorem dL_law_829 : decode cL_law 829 = .ok (.istore 7, 2) := by decide +kernel
theorem dL_law_831 : decode cL_law 831 = .ok (.aload_n 2, 1) := by decide +kernel
theorem dL_law_832 : decode cL_law 832 = .ok (.invokevirtual 138, 3) := by decide +kernel
theorem dL_law_835 : decode cL_law 835 = .ok (.iload 6, 2) := by decide +kernel
theorem dL_law_837 : decode cL_law 837 = .ok (.if_icmp .eq 5, 3) := by decide +kernel
theorem dL_law_840 : decode cL_law 840 = .ok (.iconst 0, 1) := by decide +kernel
theorem dL_law_841 : decode cL_law 841 = .ok (.ireturn, 1) := by decide +kernel
theorem dL_law_842 : decode cL_law 842 = .ok (.iload 6, 2) := by decide +kernel
theorem dL_law_844 : decode cL_law 844 = .ok (.ifCond .ne 15, 3) := by decide +kernel
theorem dL_law_847 : decode cL_law 847 = .ok (.aload_n 3, 1) := by decide +kernel
theorem dL_law_848 : decode cL_law 848 = .ok (.iconst 0, 1) := by decide +kernel
theorem dL_law_849 : decode cL_law 849 = .ok (.laload, 1) := by decide +kernel
theorem dL_law_850 : decode cL_law 850 = .ok (.iload 7, 2) := by decide +kernel
theorem dL_law_852 : decode cL_law 852 = .ok (.i2l, 1) := by decide +kernel
theorem dL_law_853 : decode cL_law 853 = .ok (.lcmp, 1) := by decide +kernel
theorem dL_law_854 : decode cL_law 854 = .ok (.ifCond .eq 5, 3) := by decide +kernel
theorem dL_law_857 : decode cL_law 857 = .ok (.iconst 0, 1) := by decide +kernel
theorem dL_law_858 : decode cL_law 858 = .ok (.ireturn, 1) := by decide +kernel
theorem dL_law_859 : decode cL_law 859 = .ok (.goto 1524, 3) := by decide +kernel
theorem dL_law_862 : decode cL_law 862 = .ok (.aload_n 1, 1) := by decide +kernel
theorem dL_law_863 : decode cL_law 863 = .ok (.aload_n 0, 1) := by decide +kernel
theorem dL_law_864 : decode cL_law 864 = .ok (.iload 5, 2) := by decide +kernel
theorem dL_law_866 : decode cL_law 866 = .ok (.iconst 1, 1) := by decide +kernel
theorem dL_law_867 : decode cL_law 867 = .ok (.iadd, 1) := by decide +kernel
theorem dL_law_868 : decode cL_law 868 = .ok (.iaload, 1) := by decide +kernel
theorem dL_law_869 : decode cL_law 869 = .ok (.aload_n 3, 1) := by decide +kernel
theorem dL_law_870 : decode cL_law 870 = .ok (.invokestatic 176, 3) := by decide +kernel
theorem dL_law_873 : decode cL_law 873 = .ok (.istore 6, 2) := by decide +kernel
theorem dL_law_875 : decode cL_law 875 = .ok (.aload_n 2, 1) := by decide +kernel
theorem dL_law_876 : decode cL_law 876 = .ok (.aload_n 0, 1) := by decide +kernel
theorem dL_law_877 : decode cL_law 877 = .ok (.iload 5, 2) := by decide +kernel
theorem dL_law_879 : decode cL_law 879 = .ok (.iconst 1, 1) := by decide +kernel
theorem dL_law_880 : decode cL_law 880 = .ok (.iadd, 1) := by decide +kernel
theorem dL_law_881 : decode cL_law 881 = .ok (.iaload, 1) := by decide +kernel
theorem dL_law_882 : decode cL_law 882 = .ok (.invokevirtual 178, 3) := by decide +kernel
theorem dL_law_885 : decode cL_law 885 = .ok (.istore 7, 2) := by decide +kernel
theorem dL_law_887 : decode cL_law 887 = .ok (.aload_n 2, 1) := by decide +kernel
theorem dL_law_888 : decode cL_law 888 = .ok (.invokevirtual 138, 3) := by decide +kernel
theorem dL_law_891 : decode cL_law 891 = .ok (.iload 6, 2) := by decide +kernel
theorem dL_law_893 : decode cL_law 893 = .ok (.if_icmp .eq 5, 3) := by decide +kernel
theorem dL_law_896 : decode cL_law 896 = .ok (.iconst 0, 1) := by decide +kernel
theorem dL_law_897 : decode cL_law 897 = .ok (.ireturn, 1) := by decide +kernel
theorem dL_law_898 : decode cL_law 898 = .ok (.iload 6, 2) := by decide +kernel
theorem dL_law_900 : decode cL_law 900 = .ok (.ifCond .ne 15, 3) := by decide +kernel
theorem dL_law_903 : decode cL_law 903 = .ok (.aload_n 3, 1) := by decide +kernel
theorem dL_law_904 : decode cL_law 904 = .ok (.iconst 0, 1) := by decide +kernel
theorem dL_law_905 : decode cL_law 905 = .ok (.laload, 1) := by decide +kernel
theorem dL_law_906 : decode cL_law 906 = .ok (.iload 7, 2) := by decide +kernel
theorem dL_law_908 : decode cL_law 908 = .ok (.i2l, 1) := by decide +kernel
theorem dL_law_909 : decode cL_law 909 = .ok (.lcmp, 1) := by decide +kernel
theorem dL_law_910 : decode cL_law 910 = .ok (.ifCond .eq 5, 3) := by decide +kernel
theorem dL_law_913 : decode cL_law 913 = .ok (.iconst 0, 1) := by decide +kernel
theorem dL_law_914 : decode cL_law 914 = .ok (.ireturn, 1) := by decide +kernel
theorem dL_law_915 : decode cL_law 915 = .ok (.goto 1468, 3) := by decide +kernel
theorem dL_law_918 : decode cL_law 918 = .ok (.aload_n 1, 1) := by decide +kernel
theorem dL_law_919 : decode cL_law 919 = .ok (.aload_n 0, 1) := by decide +kernel
theorem dL_law_920 : decode cL_law 920 = .ok (.iload 5, 2) := by decide +kernel
theorem dL_law_922 : decode cL_law 922 = .ok (.iconst 1, 1) := by decide +kernel
theorem dL_law_923 : decode cL_law 923 = .ok (.iadd, 1) := by decide +kernel
theorem dL_law_924 : decode cL_law 924 = .ok (.iaload, 1) := by decide +kernel
theorem dL_law_925 : decode cL_law 925 = .ok (.aload_n 3, 1) := by decide +kernel
theorem dL_law_926 : decode cL_law 926 = .ok (.invokestatic 179, 3) := by decide +kernel
theorem dL_law_929 : decode cL_law 929 = .ok (.istore 6, 2) := by decide +kernel
theorem dL_law_931 : decode cL_law 931 = .ok (.aload_n 2, 1) := by decide +kernel
theorem dL_law_932 : decode cL_law 932 = .ok (.aload_n 0, 1) := by decide +kernel
theorem dL_law_933 : decode cL_law 933 = .ok (.iload 5, 2) := by decide +kernel
theorem dL_law_935 : decode cL_law 935 = .ok (.iconst 1, 1) := by decide +kernel
theorem dL_law_936 : decode cL_law 936 = .ok (.iadd, 1) := by decide +kernel
theorem dL_law_937 : decode cL_law 937 = .ok (.iaload, 1) := by decide +kernel
theorem dL_law_938 : decode cL_law 938 = .ok (.invokevirtual 181, 3) := by decide +kernel
theorem dL_law_941 : decode cL_law 941 = .ok (.istore 7, 2) := by decide +kernel
theorem dL_law_943 : decode cL_law 943 = .ok (.aload_n 2, 1) := by decide +kernel
theorem dL_law_944 : decode cL_law 944 = .ok (.invokevirtual 138, 3) := by decide +kernel
theorem dL_law_947 : decode cL_law 947 = .ok (.iload 6, 2) := by decide +kernel
theorem dL_law_949 : decode cL_law 949 = .ok (.if_icmp .eq 5, 3) := by decide +kernel
theorem dL_law_952 : decode cL_law 952 = .ok (.iconst 0, 1) := by decide +kernel
theorem dL_law_953 : decode cL_law 953 = .ok (.ireturn, 1) := by decide +kernel
theorem dL_law_954 : decode cL_law 954 = .ok (.iload 6, 2) := by decide +kernel
theorem dL_law_956 : decode cL_law 956 = .ok (.ifCond .ne 15, 3) := by decide +kernel
theorem dL_law_959 : decode cL_law 959 = .ok (.aload_n 3, 1) := by decide +kernel
theorem dL_law_960 : decode cL_law 960 = .ok (.iconst 0, 1) := by decide +kernel
theorem dL_law_961 : decode cL_law 961 = .ok (.laload, 1) := by decide +kernel
theorem dL_law_962 : decode cL_law 962 = .ok (.iload 7, 2) := by decide +kernel
theorem dL_law_964 : decode cL_law 964 = .ok (.i2l, 1) := by decide +kernel
theorem dL_law_965 : decode cL_law 965 = .ok (.lcmp, 1) := by decide +kernel
theorem dL_law_966 : decode cL_law 966 = .ok (.ifCond .eq 5, 3) := by decide +kernel
theorem dL_law_969 : decode cL_law 969 = .ok (.iconst 0, 1) := by decide +kernel
theorem dL_law_970 : decode cL_law 970 = .ok (.ireturn, 1) := by decide +kernel
theorem dL_law_971 : decode cL_law 971 = .ok (.goto 1412, 3) := by decide +kernel
theorem dL_law_974 : decode cL_law 974 = .ok (.aload_n 1, 1) := by decide +kernel
theorem dL_law_975 : decode cL_law 975 = .ok (.aload_n 0, 1) := by decide +kernel
theorem dL_law_976 : decode cL_law 976 = .ok (.iload 5, 2) := by decide +kernel
theorem dL_law_978 : decode cL_law 978 = .ok (.iconst 1, 1) := by decide +kernel
theorem dL_law_979 : decode cL_law 979 = .ok (.iadd, 1) := by decide +kernel
theorem dL_law_980 : decode cL_law 980 = .ok (.iaload, 1) := by decide +kernel
theorem dL_law_981 : decode cL_law 981 = .ok (.aload_n 3, 1) := by decide +kernel
theorem dL_law_982 : decode cL_law 982 = .ok (.invokestatic 182, 3) := by decide +kernel
theorem dL_law_985 : decode cL_law 985 = .ok (.istore 6, 2) := by decide +kernel
theorem dL_law_987 : decode cL_law 987 = .ok (.aload_n 2, 1) := by decide +kernel
theorem dL_law_988 : decode cL_law 988 = .ok (.aload_n 0, 1) := by decide +kernel
theorem dL_law_989 : decode cL_law 989 = .ok (.iload 5, 2) := by decide +kernel
theorem dL_law_991 : decode cL_law 991 = .ok (.iconst 1, 1) := by decide +kernel
theorem dL_law_992 : decode cL_law 992 = .ok (.iadd, 1) := by decide +kernel
theorem dL_law_993 : decode cL_law 993 = .ok (.iaload, 1) := by decide +kernel
theorem dL_law_994 : decode cL_law 994 = .ok (.invokevirtual 184, 3) := by decide +kernel
theorem dL_law_997 : decode cL_law 997 = .ok (.istore 7, 2) := by decide +kernel
theorem dL_law_999 : decode cL_law 999 = .ok (.aload_n 2, 1) := by decide +kernel
theorem dL_law_1000 : decode cL_law 1000 = .ok (.invokevirtual 138, 3) := by decide +kernel
theorem dL_law_1003 : decode cL_law 1003 = .ok (.iload 6, 2) := by decide +kernel
theorem dL_law_1005 : decode cL_law 1005 = .ok (.if_icmp .eq 5, 3) := by decide +kernel
theorem dL_law_1008 : decode cL_law 1008 = .ok (.iconst 0, 1) := by decide +kernel
theorem dL_law_1009 : decode cL_law 1009 = .ok (.ireturn, 1) := by decide +kernel
theorem dL_law_1010 : decode cL_law 1010 = .ok (.iload 6, 2) := by decide +kernel
theorem dL_law_1012 : decode cL_law 1012 = .ok (.ifCond .ne 15, 3) := by decide +kernel
theorem dL_law_1015 : decode cL_law 1015 = .ok (.aload_n 3, 1) := by decide +kernel
theorem dL_law_1016 : decode cL_law 1016 = .ok (.iconst 0, 1) := by decide +kernel
theorem dL_law_1017 : decode cL_law 1017 = .ok (.laload, 1) := by decide +kernel
theorem dL_law_1018 : decode cL_law 1018 = .ok (.iload 7, 2) := by decide +kernel
theorem dL_law_1020 : decode cL_law 1020 = .ok (.i2l, 1) := by decide +kernel
theorem dL_law_1021 : decode cL_law 1021 = .ok (.lcmp, 1) := by decide +kernel
theorem dL_law_1022 : decode cL_law 1022 = .ok (.ifCond .eq 5, 3) := by decide +kernel
theorem dL_law_1025 : decode cL_law 1025 = .ok (.iconst 0, 1) := by decide +kernel
theorem dL_law_1026 : decode cL_law 1026 = .ok (.ireturn, 1) := by decide +kernel
theorem dL_law_1027 : decode cL_law 1027 = .ok (.goto 1356, 3) := by decide +kernel
theorem dL_law_1030 : decode cL_law 1030 = .ok (.aload_n 1, 1) := by decide +kernel
theorem dL_law_1031 : decode cL_law 1031 = .ok (.aload_n 0, 1) := by decide +kernel
theorem dL_law_1032 : decode cL_law 1032 = .ok (.iload 5, 2) := by decide +kernel
theorem dL_law_1034 : decode cL_law 1034 = .ok (.iconst 1, 1) := by decide +kernel
theorem dL_law_1035 : decode cL_law 1035 = .ok (.iadd, 1) := by decide +kernel
theorem dL_law_1036 : decode cL_law 1036 = .ok (.iaload, 1) := by decide +kernel
theorem dL_law_1037 : decode cL_law 1037 = .ok (.aload_n 3, 1) := by decide +kernel
theorem dL_law_1038 : decode cL_law 1038 = .ok (.invokestatic 185, 3) := by decide +kernel
theorem dL_law_1041 : decode cL_law 1041 = .ok (.istore 6, 2) := by decide +kernel
theorem dL_law_1043 : decode cL_law 1043 = .ok (.aload_n 2, 1) := by decide +kernel
theorem dL_law_1044 : decode cL_law 1044 = .ok (.aload_n 0, 1) := by decide +kernel
theorem dL_law_1045 : decode cL_law 1045 = .ok (.iload 5, 2) := by decide +kernel
theorem dL_law_1047 : decode cL_law 1047 = .ok (.iconst 1, 1) := by decide +kernel
theorem dL_law_1048 : decode cL_law 1048 = .ok (.iadd, 1) := by decide +kernel
theorem dL_law_1049 : decode cL_law 1049 = .ok (.iaload, 1) := by decide +kernel
theorem dL_law_1050 : decode cL_law 1050 = .ok (.invokevirtual 187, 3) := by decide +kernel
theorem dL_law_1053 : decode cL_law 1053 = .ok (.istore 7, 2) := by decide +kernel
theorem dL_law_1055 : decode cL_law 1055 = .ok (.aload_n 2, 1) := by decide +kernel
theorem dL_law_1056 : decode cL_law 1056 = .ok (.invokevirtual 138, 3) := by decide +kernel
theorem dL_law_1059 : decode cL_law 1059 = .ok (.iload 6, 2) := by decide +kernel
theorem dL_law_1061 : decode cL_law 1061 = .ok (.if_icmp .eq 5, 3) := by decide +kernel
theorem dL_law_1064 : decode cL_law 1064 = .ok (.iconst 0, 1) := by decide +kernel
theorem dL_law_1065 : decode cL_law 1065 = .ok (.ireturn, 1) := by decide +kernel
theorem dL_law_1066 : decode cL_law 1066 = .ok (.iload 6, 2) := by decide +kernel
theorem dL_law_1068 : decode cL_law 1068 = .ok (.ifCond .ne 15, 3) := by decide +kernel
theorem dL_law_1071 : decode cL_law 1071 = .ok (.aload_n 3, 1) := by decide +kernel
theorem dL_law_1072 : decode cL_law 1072 = .ok (.iconst 0, 1) := by decide +kernel
theorem dL_law_1073 : decode cL_law 1073 = .ok (.laload, 1) := by decide +kernel
theorem dL_law_1074 : decode cL_law 1074 = .ok (.iload 7, 2) := by decide +kernel
theorem dL_law_1076 : decode cL_law 1076 = .ok (.i2l, 1) := by decide +kernel
theorem dL_law_1077 : decode cL_law 1077 = .ok (.lcmp, 1) := by decide +kernel
theorem dL_law_1078 : decode cL_law 1078 = .ok (.ifCond .eq 5, 3) := by decide +kernel
theorem dL_law_1081 : decode cL_law 1081 = .ok (.iconst 0, 1) := by decide +kernel
theorem dL_law_1082 : decode cL_law 1082 = .ok (.ireturn, 1) := by decide +kernel
theorem dL_law_1083 : decode cL_law 1083 = .ok (.goto 1300, 3) := by decide +kernel
theorem dL_law_1086 : decode cL_law 1086 = .ok (.aload_n 1, 1) := by decide +kernel
theorem dL_law_1087 : decode cL_law 1087 = .ok (.aload_n 0, 1) := by decide +kernel
theorem dL_law_1088 : decode cL_law 1088 = .ok (.iload 5, 2) := by decide +kernel
theorem dL_law_1090 : decode cL_law 1090 = .ok (.iconst 1, 1) := by decide +kernel
theorem dL_law_1091 : decode cL_law 1091 = .ok (.iadd, 1) := by decide +kernel
theorem dL_law_1092 : decode cL_law 1092 = .ok (.iaload, 1) := by decide +kernel
theorem dL_law_1093 : decode cL_law 1093 = .ok (.aload_n 3, 1) := by decide +kernel
theorem dL_law_1094 : decode cL_law 1094 = .ok (.invokestatic 188, 3) := by decide +kernel
theorem dL_law_1097 : decode cL_law 1097 = .ok (.istore 6, 2) := by decide +kernel
theorem dL_law_1099 : decode cL_law 1099 = .ok (.aload_n 2, 1) := by decide +kernel
theorem dL_law_1100 : decode cL_law 1100 = .ok (.aload_n 0, 1) := by decide +kernel
theorem dL_law_1101 : decode cL_law 1101 = .ok (.iload 5, 2) := by decide +kernel
theorem dL_law_1103 : decode cL_law 1103 = .ok (.iconst 1, 1) := by decide +kernel
theorem dL_law_1104 : decode cL_law 1104 = .ok (.iadd, 1) := by decide +kernel
theorem dL_law_1105 : decode cL_law 1105 = .ok (.iaload, 1) := by decide +kernel
theorem dL_law_1106 : decode cL_law 1106 = .ok (.invokevirtual 190, 3) := by decide +kernel
theorem dL_law_1109 : decode cL_law 1109 = .ok (.istore 7, 2) := by decide +kernel
theorem dL_law_1111 : decode cL_law 1111 = .ok (.aload_n 2, 1) := by decide +kernel
theorem dL_law_1112 : decode cL_law 1112 = .ok (.invokevirtual 138, 3) := by decide +kernel
theorem dL_law_1115 : decode cL_law 1115 = .ok (.iload 6, 2) := by decide +kernel
theorem dL_law_1117 : decode cL_law 1117 = .ok (.if_icmp .eq 5, 3) := by decide +kernel
theorem dL_law_1120 : decode cL_law 1120 = .ok (.iconst 0, 1) := by decide +kernel
theorem dL_law_1121 : decode cL_law 1121 = .ok (.ireturn, 1) := by decide +kernel
theorem dL_law_1122 : decode cL_law 1122 = .ok (.iload 6, 2) := by decide +kernel
theorem dL_law_1124 : decode cL_law 1124 = .ok (.ifCond .ne 15, 3) := by decide +kernel
theorem dL_law_1127 : decode cL_law 1127 = .ok (.aload_n 3, 1) := by decide +kernel
theorem dL_law_1128 : decode cL_law 1128 = .ok (.iconst 0, 1) := by decide +kernel
theorem dL_law_1129 : decode cL_law 1129 = .ok (.laload, 1) := by decide +kernel
theorem dL_law_1130 : decode cL_law 1130 = .ok (.iload 7, 2) := by decide +kernel
theorem dL_law_1132 : decode cL_law 1132 = .ok (.i2l, 1) := by decide +kernel
theorem dL_law_1133 : decode cL_law 1133 = .ok (.lcmp, 1) := by decide +kernel
theorem dL_law_1134 : decode cL_law 1134 = .ok (.ifCond .eq 5, 3) := by decide +kernel
theorem dL_law_1137 : decode cL_law 1137 = .ok (.iconst 0, 1) := by decide +kernel
theorem dL_law_1138 : decode cL_law 1138 = .ok (.ireturn, 1) := by decide +kernel
theorem dL_law_1139 : decode cL_law 1139 = .ok (.goto 1244, 3) := by decide +kernel
theorem dL_law_1142 : decode cL_law 1142 = .ok (.aload_n 1, 1) := by decide +kernel
theorem dL_law_1143 : decode cL_law 1143 = .ok (.aload_n 0, 1) := by decide +kernel
theorem dL_law_1144 : decode cL_law 1144 = .ok (.iload 5, 2) := by decide +kernel
theorem dL_law_1146 : decode cL_law 1146 = .ok (.iconst 1, 1) := by decide +kernel
theorem dL_law_1147 : decode cL_law 1147 = .ok (.iadd, 1) := by decide +kernel
theorem dL_law_1148 : decode cL_law 1148 = .ok (.iaload, 1) := by decide +kernel
theorem dL_law_1149 : decode cL_law 1149 = .ok (.aload_n 3, 1) := by decide +kernel
theorem dL_law_1150 : decode cL_law 1150 = .ok (.invokestatic 191, 3) := by decide +kernel
theorem dL_law_1153 : decode cL_law 1153 = .ok (.istore 6, 2) := by decide +kernel
theorem dL_law_1155 : decode cL_law 1155 = .ok (.aload_n 2, 1) := by decide +kernel
theorem dL_law_1156 : decode cL_law 1156 = .ok (.aload_n 0, 1) := by decide +kernel
theorem dL_law_1157 : decode cL_law 1157 = .ok (.iload 5, 2) := by decide +kernel
theorem dL_law_1159 : decode cL_law 1159 = .ok (.iconst 1, 1) := by decide +kernel
theorem dL_law_1160 : decode cL_law 1160 = .ok (.iadd, 1) := by decide +kernel
theorem dL_law_1161 : decode cL_law 1161 = .ok (.iaload, 1) := by decide +kernel
theorem dL_law_1162 : decode cL_law 1162 = .ok (.invokevirtual 193, 3) := by decide +kernel
theorem dL_law_1165 : decode cL_law 1165 = .ok (.istore 7, 2) := by decide +kernel
theorem dL_law_1167 : decode cL_law 1167 = .ok (.aload_n 2, 1) := by decide +kernel
theorem dL_law_1168 : decode cL_law 1168 = .ok (.invokevirtual 138, 3) := by decide +kernel
theorem dL_law_1171 : decode cL_law 1171 = .ok (.iload 6, 2) := by decide +kernel
theorem dL_law_1173 : decode cL_law 1173 = .ok (.if_icmp .eq 5, 3) := by decide +kernel
theorem dL_law_1176 : decode cL_law 1176 = .ok (.iconst 0, 1) := by decide +kernel
theorem dL_law_1177 : decode cL_law 1177 = .ok (.ireturn, 1) := by decide +kernel
theorem dL_law_1178 : decode cL_law 1178 = .ok (.iload 6, 2) := by decide +kernel
theorem dL_law_1180 : decode cL_law 1180 = .ok (.ifCond .ne 15, 3) := by decide +kernel
theorem dL_law_1183 : decode cL_law 1183 = .ok (.aload_n 3, 1) := by decide +kernel
theorem dL_law_1184 : decode cL_law 1184 = .ok (.iconst 0, 1) := by decide +kernel
theorem dL_law_1185 : decode cL_law 1185 = .ok (.laload, 1) := by decide +kernel
theorem dL_law_1186 : decode cL_law 1186 = .ok (.iload 7, 2) := by decide +kernel
theorem dL_law_1188 : decode cL_law 1188 = .ok (.i2l, 1) := by decide +kernel
theorem dL_law_1189 : decode cL_law 1189 = .ok (.lcmp, 1) := by decide +kernel
theorem dL_law_1190 : decode cL_law 1190 = .ok (.ifCond .eq 5, 3) := by decide +kernel
theorem dL_law_1193 : decode cL_law 1193 = .ok (.iconst 0, 1) := by decide +kernel
theorem dL_law_1194 : decode cL_law 1194 = .ok (.ireturn, 1) := by decide +kernel
theorem dL_law_1195 : decode cL_law 1195 = .ok (.goto 1188, 3) := by decide +kernel
theorem dL_law_1198 : decode cL_law 1198 = .ok (.aload_n 1, 1) := by decide +kernel
theorem dL_law_1199 : decode cL_law 1199 = .ok (.aload_n 0, 1) := by decide +kernel
theorem dL_law_1200 : decode cL_law 1200 = .ok (.iload 5, 2) := by decide +kernel
theorem dL_law_1202 : decode cL_law 1202 = .ok (.iconst 1, 1) := by decide +kernel
theorem dL_law_1203 : decode cL_law 1203 = .ok (.iadd, 1) := by decide +kernel
theorem dL_law_1204 : decode cL_law 1204 = .ok (.iaload, 1) := by decide +kernel
theorem dL_law_1205 : decode cL_law 1205 = .ok (.aload_n 3, 1) := by decide +kernel
theorem dL_law_1206 : decode cL_law 1206 = .ok (.invokestatic 194, 3) := by decide +kernel
theorem dL_law_1209 : decode cL_law 1209 = .ok (.istore 6, 2) := by decide +kernel
theorem dL_law_1211 : decode cL_law 1211 = .ok (.aload_n 2, 1) := by decide +kernel
theorem dL_law_1212 : decode cL_law 1212 = .ok (.aload_n 0, 1) := by decide +kernel
theorem dL_law_1213 : decode cL_law 1213 = .ok (.iload 5, 2) := by decide +kernel
theorem dL_law_1215 : decode cL_law 1215 = .ok (.iconst 1, 1) := by decide +kernel
theorem dL_law_1216 : decode cL_law 1216 = .ok (.iadd, 1) := by decide +kernel
theorem dL_law_1217 : decode cL_law 1217 = .ok (.iaload, 1) := by decide +kernel
theorem dL_law_1218 : decode cL_law 1218 = .ok (.invokevirtual 196, 3) := by decide +kernel
theorem dL_law_1221 : decode cL_law 1221 = .ok (.istore 7, 2) := by decide +kernel
theorem dL_law_1223 : decode cL_law 1223 = .ok (.aload_n 2, 1) := by decide +kernel
theorem dL_law_1224 : decode cL_law 1224 = .ok (.invokevirtual 138, 3) := by decide +kernel
theorem dL_law_1227 : decode cL_law 1227 = .ok (.iload 6, 2) := by decide +kernel
theorem dL_law_1229 : decode cL_law 1229 = .ok (.if_icmp .eq 5, 3) := by decide +kernel
theorem dL_law_1232 : decode cL_law 1232 = .ok (.iconst 0, 1) := by decide +kernel
theorem dL_law_1233 : decode cL_law 1233 = .ok (.ireturn, 1) := by decide +kernel
theorem dL_law_1234 : decode cL_law 1234 = .ok (.iload 6, 2) := by decide +kernel
theorem dL_law_1236 : decode cL_law 1236 = .ok (.ifCond .ne 15, 3) := by decide +kernel
theorem dL_law_1239 : decode cL_law 1239 = .ok (.aload_n 3, 1) := by decide +kernel
theorem dL_law_1240 : decode cL_law 1240 = .ok (.iconst 0, 1) := by decide +kernel
theorem dL_law_1241 : decode cL_law 1241 = .ok (.laload, 1) := by decide +kernel
theorem dL_law_1242 : decode cL_law 1242 = .ok (.iload 7, 2) := by decide +kernel
theorem dL_law_1244 : decode cL_law 1244 = .ok (.i2l, 1) := by decide +kernel
theorem dL_law_1245 : decode cL_law 1245 = .ok (.lcmp, 1) := by decide +kernel
theorem dL_law_1246 : decode cL_law 1246 = .ok (.ifCond .eq 5, 3) := by decide +kernel
theorem dL_law_1249 : decode cL_law 1249 = .ok (.iconst 0, 1) := by decide +kernel
theorem dL_law_1250 : decode cL_law 1250 = .ok (.ireturn, 1) := by decide +kernel
theorem dL_law_1251 : decode cL_law 1251 = .ok (.goto 1132, 3) := by decide +kernel
theorem dL_law_1254 : decode cL_law 1254 = .ok (.aload_n 1, 1) := by decide +kernel
theorem dL_law_1255 : decode cL_law 1255 = .ok (.aload_n 0, 1) := by decide +kernel
theorem dL_law_1256 : decode cL_law 1256 = .ok (.iload 5, 2) := by decide +kernel
theorem dL_law_1258 : decode cL_law 1258 = .ok (.iconst 1, 1) := by decide +kernel
theorem dL_law_1259 : decode cL_law 1259 = .ok (.iadd, 1) := by decide +kernel
theorem dL_law_1260 : decode cL_law 1260 = .ok (.iaload, 1) := by decide +kernel
theorem dL_law_1261 : decode cL_law 1261 = .ok (.aload_n 0, 1) := by decide +kernel
theorem dL_law_1262 : decode cL_law 1262 = .ok (.iload 5, 2) := by decide +kernel
theorem dL_law_1264 : decode cL_law 1264 = .ok (.iconst 2, 1) := by decide +kernel
theorem dL_law_1265 : decode cL_law 1265 = .ok (.iadd, 1) := by decide +kernel
theorem dL_law_1266 : decode cL_law 1266 = .ok (.iaload, 1) := by decide +kernel
theorem dL_law_1267 : decode cL_law 1267 = .ok (.aload_n 3, 1) := by decide +kernel
theorem dL_law_1268 : decode cL_law 1268 = .ok (.invokestatic 197, 3) := by decide +kernel
theorem dL_law_1271 : decode cL_law 1271 = .ok (.istore 6, 2) := by decide +kernel
theorem dL_law_1273 : decode cL_law 1273 = .ok (.aload_n 2, 1) := by decide +kernel
theorem dL_law_1274 : decode cL_law 1274 = .ok (.aload_n 0, 1) := by decide +kernel
theorem dL_law_1275 : decode cL_law 1275 = .ok (.iload 5, 2) := by decide +kernel
theorem dL_law_1277 : decode cL_law 1277 = .ok (.iconst 1, 1) := by decide +kernel
theorem dL_law_1278 : decode cL_law 1278 = .ok (.iadd, 1) := by decide +kernel
theorem dL_law_1279 : decode cL_law 1279 = .ok (.iaload, 1) := by decide +kernel
theorem dL_law_1280 : decode cL_law 1280 = .ok (.aload_n 0, 1) := by decide +kernel
theorem dL_law_1281 : decode cL_law 1281 = .ok (.iload 5, 2) := by decide +kernel
theorem dL_law_1283 : decode cL_law 1283 = .ok (.iconst 2, 1) := by decide +kernel
theorem dL_law_1284 : decode cL_law 1284 = .ok (.iadd, 1) := by decide +kernel
theorem dL_law_1285 : decode cL_law 1285 = .ok (.iaload, 1) := by decide +kernel
theorem dL_law_1286 : decode cL_law 1286 = .ok (.invokevirtual 199, 3) := by decide +kernel
theorem dL_law_1289 : decode cL_law 1289 = .ok (.istore 7, 2) := by decide +kernel
theorem dL_law_1291 : decode cL_law 1291 = .ok (.aload_n 2, 1) := by decide +kernel
theorem dL_law_1292 : decode cL_law 1292 = .ok (.invokevirtual 138, 3) := by decide +kernel
theorem dL_law_1295 : decode cL_law 1295 = .ok (.iload 6, 2) := by decide +kernel
theorem dL_law_1297 : decode cL_law 1297 = .ok (.if_icmp .eq 5, 3) := by decide +kernel
theorem dL_law_1300 : decode cL_law 1300 = .ok (.iconst 0, 1) := by decide +kernel
theorem dL_law_1301 : decode cL_law 1301 = .ok (.ireturn, 1) := by decide +kernel
theorem dL_law_1302 : decode cL_law 1302 = .ok (.iload 6, 2) := by decide +kernel
theorem dL_law_1304 : decode cL_law 1304 = .ok (.ifCond .ne 15, 3) := by decide +kernel
theorem dL_law_1307 : decode cL_law 1307 = .ok (.aload_n 3, 1) := by decide +kernel
theorem dL_law_1308 : decode cL_law 1308 = .ok (.iconst 0, 1) := by decide +kernel
theorem dL_law_1309 : decode cL_law 1309 = .ok (.laload, 1) := by decide +kernel
theorem dL_law_1310 : decode cL_law 1310 = .ok (.iload 7, 2) := by decide +kernel
theorem dL_law_1312 : decode cL_law 1312 = .ok (.i2l, 1) := by decide +kernel
theorem dL_law_1313 : decode cL_law 1313 = .ok (.lcmp, 1) := by decide +kernel
theorem dL_law_1314 : decode cL_law 1314 = .ok (.ifCond .eq 5, 3) := by decide +kernel
theorem dL_law_1317 : decode cL_law 1317 = .ok (.iconst 0, 1) := by decide +kernel
theorem dL_law_1318 : decode cL_law 1318 = .ok (.ireturn, 1) := by decide +kernel
theorem dL_law_1319 : decode cL_law 1319 = .ok (.goto 1064, 3) := by decide +kernel
theorem dL_law_1322 : decode cL_law 1322 = .ok (.aload_n 1, 1) := by decide +kernel
theorem dL_law_1323 : decode cL_law 1323 = .ok (.aload_n 0, 1) := by decide +kernel
theorem dL_law_1324 : decode cL_law 1324 = .ok (.iload 5, 2) := by decide +kernel
theorem dL_law_1326 : decode cL_law 1326 = .ok (.iconst 1, 1) := by decide +kernel
theorem dL_law_1327 : decode cL_law 1327 = .ok (.iadd, 1) := by decide +kernel
theorem dL_law_1328 : decode cL_law 1328 = .ok (.iaload, 1) := by decide +kernel
theorem dL_law_1329 : decode cL_law 1329 = .ok (.aload_n 0, 1) := by decide +kernel
theorem dL_law_1330 : decode cL_law 1330 = .ok (.iload 5, 2) := by decide +kernel
theorem dL_law_1332 : decode cL_law 1332 = .ok (.iconst 2, 1) := by decide +kernel
theorem dL_law_1333 : decode cL_law 1333 = .ok (.iadd, 1) := by decide +kernel
theorem dL_law_1334 : decode cL_law 1334 = .ok (.iaload, 1) := by decide +kernel
theorem dL_law_1335 : decode cL_law 1335 = .ok (.aload_n 3, 1) := by decide +kernel
theorem dL_law_1336 : decode cL_law 1336 = .ok (.invokestatic 200, 3) := by decide +kernel
theorem dL_law_1339 : decode cL_law 1339 = .ok (.istore 6, 2) := by decide +kernel
theorem dL_law_1341 : decode cL_law 1341 = .ok (.aload_n 2, 1) := by decide +kernel
theorem dL_law_1342 : decode cL_law 1342 = .ok (.aload_n 0, 1) := by decide +kernel
theorem dL_law_1343 : decode cL_law 1343 = .ok (.iload 5, 2) := by decide +kernel
theorem dL_law_1345 : decode cL_law 1345 = .ok (.iconst 1, 1) := by decide +kernel
theorem dL_law_1346 : decode cL_law 1346 = .ok (.iadd, 1) := by decide +kernel
theorem dL_law_1347 : decode cL_law 1347 = .ok (.iaload, 1) := by decide +kernel
theorem dL_law_1348 : decode cL_law 1348 = .ok (.aload_n 0, 1) := by decide +kernel
theorem dL_law_1349 : decode cL_law 1349 = .ok (.iload 5, 2) := by decide +kernel
theorem dL_law_1351 : decode cL_law 1351 = .ok (.iconst 2, 1) := by decide +kernel
theorem dL_law_1352 : decode cL_law 1352 = .ok (.iadd, 1) := by decide +kernel
theorem dL_law_1353 : decode cL_law 1353 = .ok (.iaload, 1) := by decide +kernel
theorem dL_law_1354 : decode cL_law 1354 = .ok (.invokevirtual 202, 3) := by decide +kernel
theorem dL_law_1357 : decode cL_law 1357 = .ok (.istore 7, 2) := by decide +kernel
theorem dL_law_1359 : decode cL_law 1359 = .ok (.aload_n 2, 1) := by decide +kernel
theorem dL_law_1360 : decode cL_law 1360 = .ok (.invokevirtual 138, 3) := by decide +kernel
theorem dL_law_1363 : decode cL_law 1363 = .ok (.iload 6, 2) := by decide +kernel
theorem dL_law_1365 : decode cL_law 1365 = .ok (.if_icmp .eq 5, 3) := by decide +kernel
theorem dL_law_1368 : decode cL_law 1368 = .ok (.iconst 0, 1) := by decide +kernel
theorem dL_law_1369 : decode cL_law 1369 = .ok (.ireturn, 1) := by decide +kernel
theorem dL_law_1370 : decode cL_law 1370 = .ok (.iload 6, 2) := by decide +kernel
theorem dL_law_1372 : decode cL_law 1372 = .ok (.ifCond .ne 15, 3) := by decide +kernel
theorem dL_law_1375 : decode cL_law 1375 = .ok (.aload_n 3, 1) := by decide +kernel
theorem dL_law_1376 : decode cL_law 1376 = .ok (.iconst 0, 1) := by decide +kernel
theorem dL_law_1377 : decode cL_law 1377 = .ok (.laload, 1) := by decide +kernel
theorem dL_law_1378 : decode cL_law 1378 = .ok (.iload 7, 2) := by decide +kernel
theorem dL_law_1380 : decode cL_law 1380 = .ok (.i2l, 1) := by decide +kernel
theorem dL_law_1381 : decode cL_law 1381 = .ok (.lcmp, 1) := by decide +kernel
theorem dL_law_1382 : decode cL_law 1382 = .ok (.ifCond .eq 5, 3) := by decide +kernel
theorem dL_law_1385 : decode cL_law 1385 = .ok (.iconst 0, 1) := by decide +kernel
theorem dL_law_1386 : decode cL_law 1386 = .ok (.ireturn, 1) := by decide +kernel
theorem dL_law_1387 : decode cL_law 1387 = .ok (.goto 996, 3) := by decide +kernel
theorem dL_law_1390 : decode cL_law 1390 = .ok (.aload_n 1, 1) := by decide +kernel
theorem dL_law_1391 : decode cL_law 1391 = .ok (.aload_n 3, 1) := by decide +kernel
theorem dL_law_1392 : decode cL_law 1392 = .ok (.invokestatic 203, 3) := by decide +kernel
theorem dL_law_1395 : decode cL_law 1395 = .ok (.istore 6, 2) := by decide +kernel
theorem dL_law_1397 : decode cL_law 1397 = .ok (.aload_n 2, 1) := by decide +kernel
theorem dL_law_1398 : decode cL_law 1398 = .ok (.invokevirtual 206, 3) := by decide +kernel
theorem dL_law_1401 : decode cL_law 1401 = .ok (.lstore 7, 2) := by decide +kernel
theorem dL_law_1403 : decode cL_law 1403 = .ok (.aload_n 2, 1) := by decide +kernel
theorem dL_law_1404 : decode cL_law 1404 = .ok (.invokevirtual 138, 3) := by decide +kernel
theorem dL_law_1407 : decode cL_law 1407 = .ok (.iload 6, 2) := by decide +kernel
theorem dL_law_1409 : decode cL_law 1409 = .ok (.if_icmp .eq 5, 3) := by decide +kernel
theorem dL_law_1412 : decode cL_law 1412 = .ok (.iconst 0, 1) := by decide +kernel
theorem dL_law_1413 : decode cL_law 1413 = .ok (.ireturn, 1) := by decide +kernel
theorem dL_law_1414 : decode cL_law 1414 = .ok (.iload 6, 2) := by decide +kernel
theorem dL_law_1416 : decode cL_law 1416 = .ok (.ifCond .ne 14, 3) := by decide +kernel
theorem dL_law_1419 : decode cL_law 1419 = .ok (.aload_n 3, 1) := by decide +kernel
theorem dL_law_1420 : decode cL_law 1420 = .ok (.iconst 0, 1) := by decide +kernel
theorem dL_law_1421 : decode cL_law 1421 = .ok (.laload, 1) := by decide +kernel
theorem dL_law_1422 : decode cL_law 1422 = .ok (.lload 7, 2) := by decide +kernel
theorem dL_law_1424 : decode cL_law 1424 = .ok (.lcmp, 1) := by decide +kernel
theorem dL_law_1425 : decode cL_law 1425 = .ok (.ifCond .eq 5, 3) := by decide +kernel
theorem dL_law_1428 : decode cL_law 1428 = .ok (.iconst 0, 1) := by decide +kernel
theorem dL_law_1429 : decode cL_law 1429 = .ok (.ireturn, 1) := by decide +kernel
theorem dL_law_1430 : decode cL_law 1430 = .ok (.goto 953, 3) := by decide +kernel
theorem dL_law_1433 : decode cL_law 1433 = .ok (.aload_n 1, 1) := by decide +kernel
theorem dL_law_1434 : decode cL_law 1434 = .ok (.aload_n 0, 1) := by decide +kernel
theorem dL_law_1435 : decode cL_law 1435 = .ok (.iload 5, 2) := by decide +kernel
theorem dL_law_1437 : decode cL_law 1437 = .ok (.iconst 1, 1) := by decide +kernel
theorem dL_law_1438 : decode cL_law 1438 = .ok (.iadd, 1) := by decide +kernel
theorem dL_law_1439 : decode cL_law 1439 = .ok (.iaload, 1) := by decide +kernel
theorem dL_law_1440 : decode cL_law 1440 = .ok (.aload_n 3, 1) := by decide +kernel
theorem dL_law_1441 : decode cL_law 1441 = .ok (.invokestatic 207, 3) := by decide +kernel
theorem dL_law_1444 : decode cL_law 1444 = .ok (.istore 6, 2) := by decide +kernel
theorem dL_law_1446 : decode cL_law 1446 = .ok (.aload_n 2, 1) := by decide +kernel
theorem dL_law_1447 : decode cL_law 1447 = .ok (.aload_n 0, 1) := by decide +kernel
theorem dL_law_1448 : decode cL_law 1448 = .ok (.iload 5, 2) := by decide +kernel
theorem dL_law_1450 : decode cL_law 1450 = .ok (.iconst 1, 1) := by decide +kernel
theorem dL_law_1451 : decode cL_law 1451 = .ok (.iadd, 1) := by decide +kernel
theorem dL_law_1452 : decode cL_law 1452 = .ok (.iaload, 1) := by decide +kernel
theorem dL_law_1453 : decode cL_law 1453 = .ok (.invokevirtual 209, 3) := by decide +kernel
theorem dL_law_1456 : decode cL_law 1456 = .ok (.istore 7, 2) := by decide +kernel
theorem dL_law_1458 : decode cL_law 1458 = .ok (.aload_n 2, 1) := by decide +kernel
theorem dL_law_1459 : decode cL_law 1459 = .ok (.invokevirtual 138, 3) := by decide +kernel
theorem dL_law_1462 : decode cL_law 1462 = .ok (.iload 6, 2) := by decide +kernel
theorem dL_law_1464 : decode cL_law 1464 = .ok (.if_icmp .eq 5, 3) := by decide +kernel
theorem dL_law_1467 : decode cL_law 1467 = .ok (.iconst 0, 1) := by decide +kernel
theorem dL_law_1468 : decode cL_law 1468 = .ok (.ireturn, 1) := by decide +kernel
theorem dL_law_1469 : decode cL_law 1469 = .ok (.iload 6, 2) := by decide +kernel
theorem dL_law_1471 : decode cL_law 1471 = .ok (.ifCond .ne 15, 3) := by decide +kernel
theorem dL_law_1474 : decode cL_law 1474 = .ok (.aload_n 3, 1) := by decide +kernel
theorem dL_law_1475 : decode cL_law 1475 = .ok (.iconst 0, 1) := by decide +kernel
theorem dL_law_1476 : decode cL_law 1476 = .ok (.laload, 1) := by decide +kernel
theorem dL_law_1477 : decode cL_law 1477 = .ok (.iload 7, 2) := by decide +kernel
theorem dL_law_1479 : decode cL_law 1479 = .ok (.i2l, 1) := by decide +kernel
theorem dL_law_1480 : decode cL_law 1480 = .ok (.lcmp, 1) := by decide +kernel
theorem dL_law_1481 : decode cL_law 1481 = .ok (.ifCond .eq 5, 3) := by decide +kernel
theorem dL_law_1484 : decode cL_law 1484 = .ok (.iconst 0, 1) := by decide +kernel
theorem dL_law_1485 : decode cL_law 1485 = .ok (.ireturn, 1) := by decide +kernel
theorem dL_law_1486 : decode cL_law 1486 = .ok (.goto 897, 3) := by decide +kernel
theorem dL_law_1489 : decode cL_law 1489 = .ok (.aload_n 1, 1) := by decide +kernel
theorem dL_law_1490 : decode cL_law 1490 = .ok (.aload_n 0, 1) := by decide +kernel
theorem dL_law_1491 : decode cL_law 1491 = .ok (.iload 5, 2) := by decide +kernel
theorem dL_law_1493 : decode cL_law 1493 = .ok (.iconst 1, 1) := by decide +kernel
theorem dL_law_1494 : decode cL_law 1494 = .ok (.iadd, 1) := by decide +kernel
theorem dL_law_1495 : decode cL_law 1495 = .ok (.iaload, 1) := by decide +kernel
theorem dL_law_1496 : decode cL_law 1496 = .ok (.aload_n 3, 1) := by decide +kernel
theorem dL_law_1497 : decode cL_law 1497 = .ok (.invokestatic 210, 3) := by decide +kernel
theorem dL_law_1500 : decode cL_law 1500 = .ok (.istore 6, 2) := by decide +kernel
theorem dL_law_1502 : decode cL_law 1502 = .ok (.aload_n 2, 1) := by decide +kernel
theorem dL_law_1503 : decode cL_law 1503 = .ok (.aload_n 0, 1) := by decide +kernel
theorem dL_law_1504 : decode cL_law 1504 = .ok (.iload 5, 2) := by decide +kernel
theorem dL_law_1506 : decode cL_law 1506 = .ok (.iconst 1, 1) := by decide +kernel
theorem dL_law_1507 : decode cL_law 1507 = .ok (.iadd, 1) := by decide +kernel
theorem dL_law_1508 : decode cL_law 1508 = .ok (.iaload, 1) := by decide +kernel
theorem dL_law_1509 : decode cL_law 1509 = .ok (.invokevirtual 212, 3) := by decide +kernel
theorem dL_law_1512 : decode cL_law 1512 = .ok (.istore 7, 2) := by decide +kernel
theorem dL_law_1514 : decode cL_law 1514 = .ok (.aload_n 2, 1) := by decide +kernel
theorem dL_law_1515 : decode cL_law 1515 = .ok (.invokevirtual 138, 3) := by decide +kernel
theorem dL_law_1518 : decode cL_law 1518 = .ok (.iload 6, 2) := by decide +kernel
theorem dL_law_1520 : decode cL_law 1520 = .ok (.if_icmp .eq 5, 3) := by decide +kernel
theorem dL_law_1523 : decode cL_law 1523 = .ok (.iconst 0, 1) := by decide +kernel
theorem dL_law_1524 : decode cL_law 1524 = .ok (.ireturn, 1) := by decide +kernel
theorem dL_law_1525 : decode cL_law 1525 = .ok (.iload 6, 2) := by decide +kernel
theorem dL_law_1527 : decode cL_law 1527 = .ok (.ifCond .ne 15, 3) := by decide +kernel
theorem dL_law_1530 : decode cL_law 1530 = .ok (.aload_n 3, 1) := by decide +kernel
theorem dL_law_1531 : decode cL_law 1531 = .ok (.iconst 0, 1) := by decide +kernel
theorem dL_law_1532 : decode cL_law 1532 = .ok (.laload, 1) := by decide +kernel
theorem dL_law_1533 : decode cL_law 1533 = .ok (.iload 7, 2) := by decide +kernel
theorem dL_law_1535 : decode cL_law 1535 = .ok (.i2l, 1) := by decide +kernel
theorem dL_law_1536 : decode cL_law 1536 = .ok (.lcmp, 1) := by decide +kernel
theorem dL_law_1537 : decode cL_law 1537 = .ok (.ifCond .eq 5, 3) := by decide +kernel
theorem dL_law_1540 : decode cL_law 1540 = .ok (.iconst 0, 1) := by decide +kernel
theorem dL_law_1541 : decode cL_law 1541 = .ok (.ireturn, 1) := by decide +kernel
theorem dL_law_1542 : decode cL_law 1542 = .ok (.goto 841, 3) := by decide +kernel
theorem dL_law_1545 : decode cL_law 1545 = .ok (.aload_n 1, 1) := by decide +kernel
theorem dL_law_1546 : decode cL_law 1546 = .ok (.aload_n 0, 1) := by decide +kernel
theorem dL_law_1547 : decode cL_law 1547 = .ok (.iload 5, 2) := by decide +kernel
theorem dL_law_1549 : decode cL_law 1549 = .ok (.iconst 1, 1) := by decide +kernel
theorem dL_law_1550 : decode cL_law 1550 = .ok (.iadd, 1) := by decide +kernel
theorem dL_law_1551 : decode cL_law 1551 = .ok (.iaload, 1) := by decide +kernel
theorem dL_law_1552 : decode cL_law 1552 = .ok (.aload_n 3, 1) := by decide +kernel
theorem dL_law_1553 : decode cL_law 1553 = .ok (.invokestatic 213, 3) := by decide +kernel
theorem dL_law_1556 : decode cL_law 1556 = .ok (.istore 6, 2) := by decide +kernel
theorem dL_law_1558 : decode cL_law 1558 = .ok (.aload_n 2, 1) := by decide +kernel
theorem dL_law_1559 : decode cL_law 1559 = .ok (.aload_n 0, 1) := by decide +kernel
theorem dL_law_1560 : decode cL_law 1560 = .ok (.iload 5, 2) := by decide +kernel
theorem dL_law_1562 : decode cL_law 1562 = .ok (.iconst 1, 1) := by decide +kernel
theorem dL_law_1563 : decode cL_law 1563 = .ok (.iadd, 1) := by decide +kernel
theorem dL_law_1564 : decode cL_law 1564 = .ok (.iaload, 1) := by decide +kernel
theorem dL_law_1565 : decode cL_law 1565 = .ok (.invokevirtual 215, 3) := by decide +kernel
theorem dL_law_1568 : decode cL_law 1568 = .ok (.istore 7, 2) := by decide +kernel
theorem dL_law_1570 : decode cL_law 1570 = .ok (.aload_n 2, 1) := by decide +kernel
theorem dL_law_1571 : decode cL_law 1571 = .ok (.invokevirtual 138, 3) := by decide +kernel
theorem dL_law_1574 : decode cL_law 1574 = .ok (.iload 6, 2) := by decide +kernel
theorem dL_law_1576 : decode cL_law 1576 = .ok (.if_icmp .eq 5, 3) := by decide +kernel
theorem dL_law_1579 : decode cL_law 1579 = .ok (.iconst 0, 1) := by decide +kernel
theorem dL_law_1580 : decode cL_law 1580 = .ok (.ireturn, 1) := by decide +kernel
theorem dL_law_1581 : decode cL_law 1581 = .ok (.iload 6, 2) := by decide +kernel
theorem dL_law_1583 : decode cL_law 1583 = .ok (.ifCond .ne 15, 3) := by decide +kernel
theorem dL_law_1586 : decode cL_law 1586 = .ok (.aload_n 3, 1) := by decide +kernel
theorem dL_law_1587 : decode cL_law 1587 = .ok (.iconst 0, 1) := by decide +kernel
theorem dL_law_1588 : decode cL_law 1588 = .ok (.laload, 1) := by decide +kernel
theorem dL_law_1589 : decode cL_law 1589 = .ok (.iload 7, 2) := by decide +kernel
theorem dL_law_1591 : decode cL_law 1591 = .ok (.i2l, 1) := by decide +kernel
theorem dL_law_1592 : decode cL_law 1592 = .ok (.lcmp, 1) := by decide +kernel
theorem dL_law_1593 : decode cL_law 1593 = .ok (.ifCond .eq 5, 3) := by decide +kernel
theorem dL_law_1596 : decode cL_law 1596 = .ok (.iconst 0, 1) := by decide +kernel
theorem dL_law_1597 : decode cL_law 1597 = .ok (.ireturn, 1) := by decide +kernel
theorem dL_law_1598 : decode cL_law 1598 = .ok (.goto 785, 3) := by decide +kernel
theorem dL_law_1601 : decode cL_law 1601 = .ok (.aload_n 1, 1) := by decide +kernel
theorem dL_law_1602 : decode cL_law 1602 = .ok (.aload_n 0, 1) := by decide +kernel
theorem dL_law_1603 : decode cL_law 1603 = .ok (.iload 5, 2) := by decide +kernel
theorem dL_law_1605 : decode cL_law 1605 = .ok (.iconst 1, 1) := by decide +kernel
theorem dL_law_1606 : decode cL_law 1606 = .ok (.iadd, 1) := by decide +kernel
theorem dL_law_1607 : decode cL_law 1607 = .ok (.iaload, 1) := by decide +kernel
theorem dL_law_1608 : decode cL_law 1608 = .ok (.aload_n 3, 1) := by decide +kernel
theorem dL_law_1609 : decode cL_law 1609 = .ok (.invokestatic 216, 3) := by decide +kernel
theorem dL_law_1612 : decode cL_law 1612 = .ok (.istore 6, 2) := by decide +kernel
theorem dL_law_1614 : decode cL_law 1614 = .ok (.aload_n 2, 1) := by decide +kernel
theorem dL_law_1615 : decode cL_law 1615 = .ok (.aload_n 0, 1) := by decide +kernel
theorem dL_law_1616 : decode cL_law 1616 = .ok (.iload 5, 2) := by decide +kernel
theorem dL_law_1618 : decode cL_law 1618 = .ok (.iconst 1, 1) := by decide +kernel
theorem dL_law_1619 : decode cL_law 1619 = .ok (.iadd, 1) := by decide +kernel
theorem dL_law_1620 : decode cL_law 1620 = .ok (.iaload, 1) := by decide +kernel
theorem dL_law_1621 : decode cL_law 1621 = .ok (.invokevirtual 218, 3) := by decide +kernel
theorem dL_law_1624 : decode cL_law 1624 = .ok (.istore 7, 2) := by decide +kernel
theorem dL_law_1626 : decode cL_law 1626 = .ok (.aload_n 2, 1) := by decide +kernel
theorem dL_law_1627 : decode cL_law 1627 = .ok (.invokevirtual 138, 3) := by decide +kernel
theorem dL_law_1630 : decode cL_law 1630 = .ok (.iload 6, 2) := by decide +kernel
theorem dL_law_1632 : decode cL_law 1632 = .ok (.if_icmp .eq 5, 3) := by decide +kernel
theorem dL_law_1635 : decode cL_law 1635 = .ok (.iconst 0, 1) := by decide +kernel
theorem dL_law_1636 : decode cL_law 1636 = .ok (.ireturn, 1) := by decide +kernel
theorem dL_law_1637 : decode cL_law 1637 = .ok (.iload 6, 2) := by decide +kernel
theorem dL_law_1639 : decode cL_law 1639 = .ok (.ifCond .ne 15, 3) := by decide +kernel
theorem dL_law_1642 : decode cL_law 1642 = .ok (.aload_n 3, 1) := by decide +kernel
theorem dL_law_1643 : decode cL_law 1643 = .ok (.iconst 0, 1) := by decide +kernel
theorem dL_law_1644 : decode cL_law 1644 = .ok (.laload, 1) := by decide +kernel
theorem dL_law_1645 : decode cL_law 1645 = .ok (.iload 7, 2) := by decide +kernel
theorem dL_law_1647 : decode cL_law 1647 = .ok (.i2l, 1) := by decide +kernel
theorem dL_law_1648 : decode cL_law 1648 = .ok (.lcmp, 1) := by decide +kernel
theorem dL_law_1649 : decode cL_law 1649 = .ok (.ifCond .eq 5, 3) := by decide +kernel
theorem dL_law_1652 : decode cL_law 1652 = .ok (.iconst 0, 1) := by decide +kernel
theorem dL_law_1653 : decode cL_law 1653 = .ok (.ireturn, 1) := by decide +kernel
theorem dL_law_1654 : decode cL_law 1654 = .ok (.goto 729, 3) := by decide +kernel
theorem dL_law_1657 : decode cL_law 1657 = .ok (.aload_n 1, 1) := by decide +kernel
theorem dL_law_1658 : decode cL_law 1658 = .ok (.aload_n 0, 1) := by decide +kernel
theorem dL_law_1659 : decode cL_law 1659 = .ok (.iload 5, 2) := by decide +kernel
theorem dL_law_1661 : decode cL_law 1661 = .ok (.iconst 1, 1) := by decide +kernel
theorem dL_law_1662 : decode cL_law 1662 = .ok (.iadd, 1) := by decide +kernel
theorem dL_law_1663 : decode cL_law 1663 = .ok (.iaload, 1) := by decide +kernel
theorem dL_law_1664 : decode cL_law 1664 = .ok (.aload_n 0, 1) := by decide +kernel
theorem dL_law_1665 : decode cL_law 1665 = .ok (.iload 5, 2) := by decide +kernel
theorem dL_law_1667 : decode cL_law 1667 = .ok (.iconst 2, 1) := by decide +kernel
theorem dL_law_1668 : decode cL_law 1668 = .ok (.iadd, 1) := by decide +kernel
theorem dL_law_1669 : decode cL_law 1669 = .ok (.iaload, 1) := by decide +kernel
theorem dL_law_1670 : decode cL_law 1670 = .ok (.aload_n 3, 1) := by decide +kernel
theorem dL_law_1671 : decode cL_law 1671 = .ok (.invokestatic 219, 3) := by decide +kernel
theorem dL_law_1674 : decode cL_law 1674 = .ok (.istore 6, 2) := by decide +kernel
theorem dL_law_1676 : decode cL_law 1676 = .ok (.aload_n 2, 1) := by decide +kernel
theorem dL_law_1677 : decode cL_law 1677 = .ok (.aload_n 0, 1) := by decide +kernel
theorem dL_law_1678 : decode cL_law 1678 = .ok (.iload 5, 2) := by decide +kernel
theorem dL_law_1680 : decode cL_law 1680 = .ok (.iconst 1, 1) := by decide +kernel
theorem dL_law_1681 : decode cL_law 1681 = .ok (.iadd, 1) := by decide +kernel
theorem dL_law_1682 : decode cL_law 1682 = .ok (.iaload, 1) := by decide +kernel
theorem dL_law_1683 : decode cL_law 1683 = .ok (.aload_n 0, 1) := by decide +kernel
theorem dL_law_1684 : decode cL_law 1684 = .ok (.iload 5, 2) := by decide +kernel
theorem dL_law_1686 : decode cL_law 1686 = .ok (.iconst 2, 1) := by decide +kernel
theorem dL_law_1687 : decode cL_law 1687 = .ok (.iadd, 1) := by decide +kernel
theorem dL_law_1688 : decode cL_law 1688 = .ok (.iaload, 1) := by decide +kernel
theorem dL_law_1689 : decode cL_law 1689 = .ok (.invokevirtual 221, 3) := by decide +kernel
theorem dL_law_1692 : decode cL_law 1692 = .ok (.istore 7, 2) := by decide +kernel
theorem dL_law_1694 : decode cL_law 1694 = .ok (.aload_n 2, 1) := by decide +kernel
theorem dL_law_1695 : decode cL_law 1695 = .ok (.invokevirtual 138, 3) := by decide +kernel
theorem dL_law_1698 : decode cL_law 1698 = .ok (.iload 6, 2) := by decide +kernel
theorem dL_law_1700 : decode cL_law 1700 = .ok (.if_icmp .eq 5, 3) := by decide +kernel
theorem dL_law_1703 : decode cL_law 1703 = .ok (.iconst 0, 1) := by decide +kernel
theorem dL_law_1704 : decode cL_law 1704 = .ok (.ireturn, 1) := by decide +kernel
theorem dL_law_1705 : decode cL_law 1705 = .ok (.iload 6, 2) := by decide +kernel
theorem dL_law_1707 : decode cL_law 1707 = .ok (.ifCond .ne 15, 3) := by decide +kernel
theorem dL_law_1710 : decode cL_law 1710 = .ok (.aload_n 3, 1) := by decide +kernel
theorem dL_law_1711 : decode cL_law 1711 = .ok (.iconst 0, 1) := by decide +kernel
theorem dL_law_1712 : decode cL_law 1712 = .ok (.laload, 1) := by decide +kernel
theorem dL_law_1713 : decode cL_law 1713 = .ok (.iload 7, 2) := by decide +kernel
theorem dL_law_1715 : decode cL_law 1715 = .ok (.i2l, 1) := by decide +kernel
theorem dL_law_1716 : decode cL_law 1716 = .ok (.lcmp, 1) := by decide +kernel
theorem dL_law_1717 : decode cL_law 1717 = .ok (.ifCond .eq 5, 3) := by decide +kernel
theorem dL_law_1720 : decode cL_law 1720 = .ok (.iconst 0, 1) := by decide +kernel
theorem dL_law_1721 : decode cL_law 1721 = .ok (.ireturn, 1) := by decide +kernel
theorem dL_law_1722 : decode cL_law 1722 = .ok (.goto 661, 3) := by decide +kernel
theorem dL_law_1725 : decode cL_law 1725 = .ok (.aload_n 1, 1) := by decide +kernel
theorem dL_law_1726 : decode cL_law 1726 = .ok (.invokevirtual 222, 3) := by decide +kernel
theorem dL_law_1729 : decode cL_law 1729 = .ok (.aload_n 2, 1) := by decide +kernel
theorem dL_law_1730 : decode cL_law 1730 = .ok (.invokevirtual 225, 3) := by decide +kernel
theorem dL_law_1733 : decode cL_law 1733 = .ok (.if_icmp .eq 650, 3) := by decide +kernel
theorem dL_law_1736 : decode cL_law 1736 = .ok (.iconst 0, 1) := by decide +kernel
theorem dL_law_1737 : decode cL_law 1737 = .ok (.ireturn, 1) := by decide +kernel
theorem dL_law_1738 : decode cL_law 1738 = .ok (.aload_n 1, 1) := by decide +kernel
theorem dL_law_1739 : decode cL_law 1739 = .ok (.invokevirtual 226, 3) := by decide +kernel
theorem dL_law_1742 : decode cL_law 1742 = .ok (.aload_n 2, 1) := by decide +kernel
theorem dL_law_1743 : decode cL_law 1743 = .ok (.invokevirtual 229, 3) := by decide +kernel
theorem dL_law_1746 : decode cL_law 1746 = .ok (.if_icmp .eq 637, 3) := by decide +kernel
theorem dL_law_1749 : decode cL_law 1749 = .ok (.iconst 0, 1) := by decide +kernel
theorem dL_law_1750 : decode cL_law 1750 = .ok (.ireturn, 1) := by decide +kernel
theorem dL_law_1751 : decode cL_law 1751 = .ok (.aload_n 1, 1) := by decide +kernel
theorem dL_law_1752 : decode cL_law 1752 = .ok (.invokevirtual 230, 3) := by decide +kernel
theorem dL_law_1755 : decode cL_law 1755 = .ok (.aload_n 2, 1) := by decide +kernel
theorem dL_law_1756 : decode cL_law 1756 = .ok (.invokevirtual 233, 3) := by decide +kernel
theorem dL_law_1759 : decode cL_law 1759 = .ok (.if_icmp .eq 624, 3) := by decide +kernel
theorem dL_law_1762 : decode cL_law 1762 = .ok (.iconst 0, 1) := by decide +kernel
theorem dL_law_1763 : decode cL_law 1763 = .ok (.ireturn, 1) := by decide +kernel
theorem dL_law_1764 : decode cL_law 1764 = .ok (.aload_n 1, 1) := by decide +kernel
theorem dL_law_1765 : decode cL_law 1765 = .ok (.invokevirtual 234, 3) := by decide +kernel
theorem dL_law_1768 : decode cL_law 1768 = .ok (.aload_n 2, 1) := by decide +kernel
theorem dL_law_1769 : decode cL_law 1769 = .ok (.invokevirtual 237, 3) := by decide +kernel
theorem dL_law_1772 : decode cL_law 1772 = .ok (.if_icmp .eq 611, 3) := by decide +kernel
theorem dL_law_1775 : decode cL_law 1775 = .ok (.iconst 0, 1) := by decide +kernel
theorem dL_law_1776 : decode cL_law 1776 = .ok (.ireturn, 1) := by decide +kernel
theorem dL_law_1777 : decode cL_law 1777 = .ok (.aload_n 1, 1) := by decide +kernel
theorem dL_law_1778 : decode cL_law 1778 = .ok (.invokevirtual 238, 3) := by decide +kernel
theorem dL_law_1781 : decode cL_law 1781 = .ok (.aload_n 2, 1) := by decide +kernel
theorem dL_law_1782 : decode cL_law 1782 = .ok (.invokevirtual 241, 3) := by decide +kernel
theorem dL_law_1785 : decode cL_law 1785 = .ok (.if_icmp .eq 598, 3) := by decide +kernel
theorem dL_law_1788 : decode cL_law 1788 = .ok (.iconst 0, 1) := by decide +kernel
theorem dL_law_1789 : decode cL_law 1789 = .ok (.ireturn, 1) := by decide +kernel
theorem dL_law_1790 : decode cL_law 1790 = .ok (.aload_n 1, 1) := by decide +kernel
theorem dL_law_1791 : decode cL_law 1791 = .ok (.invokevirtual 242, 3) := by decide +kernel
theorem dL_law_1794 : decode cL_law 1794 = .ok (.aload_n 2, 1) := by decide +kernel
theorem dL_law_1795 : decode cL_law 1795 = .ok (.invokevirtual 245, 3) := by decide +kernel
theorem dL_law_1798 : decode cL_law 1798 = .ok (.if_icmp .eq 585, 3) := by decide +kernel
theorem dL_law_1801 : decode cL_law 1801 = .ok (.iconst 0, 1) := by decide +kernel
theorem dL_law_1802 : decode cL_law 1802 = .ok (.ireturn, 1) := by decide +kernel
theorem dL_law_1803 : decode cL_law 1803 = .ok (.aload_n 1, 1) := by decide +kernel
theorem dL_law_1804 : decode cL_law 1804 = .ok (.invokevirtual 246, 3) := by decide +kernel
theorem dL_law_1807 : decode cL_law 1807 = .ok (.aload_n 2, 1) := by decide +kernel
theorem dL_law_1808 : decode cL_law 1808 = .ok (.invokevirtual 249, 3) := by decide +kernel
theorem dL_law_1811 : decode cL_law 1811 = .ok (.if_icmp .eq 572, 3) := by decide +kernel
theorem dL_law_1814 : decode cL_law 1814 = .ok (.iconst 0, 1) := by decide +kernel
theorem dL_law_1815 : decode cL_law 1815 = .ok (.ireturn, 1) := by decide +kernel
theorem dL_law_1816 : decode cL_law 1816 = .ok (.aload_n 1, 1) := by decide +kernel
theorem dL_law_1817 : decode cL_law 1817 = .ok (.invokevirtual 250, 3) := by decide +kernel
theorem dL_law_1820 : decode cL_law 1820 = .ok (.aload_n 2, 1) := by decide +kernel
theorem dL_law_1821 : decode cL_law 1821 = .ok (.invokevirtual 253, 3) := by decide +kernel
theorem dL_law_1824 : decode cL_law 1824 = .ok (.if_icmp .eq 559, 3) := by decide +kernel
theorem dL_law_1827 : decode cL_law 1827 = .ok (.iconst 0, 1) := by decide +kernel
theorem dL_law_1828 : decode cL_law 1828 = .ok (.ireturn, 1) := by decide +kernel
theorem dL_law_1829 : decode cL_law 1829 = .ok (.aload_n 1, 1) := by decide +kernel
theorem dL_law_1830 : decode cL_law 1830 = .ok (.invokevirtual 254, 3) := by decide +kernel
theorem dL_law_1833 : decode cL_law 1833 = .ok (.aload_n 2, 1) := by decide +kernel
theorem dL_law_1834 : decode cL_law 1834 = .ok (.invokevirtual 257, 3) := by decide +kernel
theorem dL_law_1837 : decode cL_law 1837 = .ok (.if_icmp .eq 546, 3) := by decide +kernel
theorem dL_law_1840 : decode cL_law 1840 = .ok (.iconst 0, 1) := by decide +kernel
theorem dL_law_1841 : decode cL_law 1841 = .ok (.ireturn, 1) := by decide +kernel
theorem dL_law_1842 : decode cL_law 1842 = .ok (.aload_n 1, 1) := by decide +kernel
theorem dL_law_1843 : decode cL_law 1843 = .ok (.invokevirtual 258, 3) := by decide +kernel
theorem dL_law_1846 : decode cL_law 1846 = .ok (.aload_n 2, 1) := by decide +kernel
theorem dL_law_1847 : decode cL_law 1847 = .ok (.invokevirtual 261, 3) := by decide +kernel
theorem dL_law_1850 : decode cL_law 1850 = .ok (.if_icmp .eq 533, 3) := by decide +kernel
theorem dL_law_1853 : decode cL_law 1853 = .ok (.iconst 0, 1) := by decide +kernel
theorem dL_law_1854 : decode cL_law 1854 = .ok (.ireturn, 1) := by decide +kernel
theorem dL_law_1855 : decode cL_law 1855 = .ok (.aload_n 1, 1) := by decide +kernel
theorem dL_law_1856 : decode cL_law 1856 = .ok (.invokevirtual 262, 3) := by decide +kernel
theorem dL_law_1859 : decode cL_law 1859 = .ok (.aload_n 2, 1) := by decide +kernel
theorem dL_law_1860 : decode cL_law 1860 = .ok (.invokevirtual 265, 3) := by decide +kernel
theorem dL_law_1863 : decode cL_law 1863 = .ok (.if_icmp .eq 520, 3) := by decide +kernel
theorem dL_law_1866 : decode cL_law 1866 = .ok (.iconst 0, 1) := by decide +kernel
theorem dL_law_1867 : decode cL_law 1867 = .ok (.ireturn, 1) := by decide +kernel
theorem dL_law_1868 : decode cL_law 1868 = .ok (.aload_n 1, 1) := by decide +kernel
theorem dL_law_1869 : decode cL_law 1869 = .ok (.aload 4, 2) := by decide +kernel
theorem dL_law_1871 : decode cL_law 1871 = .ok (.invokestatic 266, 3) := by decide +kernel
theorem dL_law_1874 : decode cL_law 1874 = .ok (.istore 6, 2) := by decide +kernel
theorem dL_law_1876 : decode cL_law 1876 = .ok (.aload_n 2, 1) := by decide +kernel
theorem dL_law_1877 : decode cL_law 1877 = .ok (.invokevirtual 269, 3) := by decide +kernel
theorem dL_law_1880 : decode cL_law 1880 = .ok (.dstore 7, 2) := by decide +kernel
theorem dL_law_1882 : decode cL_law 1882 = .ok (.aload_n 2, 1) := by decide +kernel
theorem dL_law_1883 : decode cL_law 1883 = .ok (.invokevirtual 138, 3) := by decide +kernel
theorem dL_law_1886 : decode cL_law 1886 = .ok (.iload 6, 2) := by decide +kernel
theorem dL_law_1888 : decode cL_law 1888 = .ok (.if_icmp .eq 5, 3) := by decide +kernel
theorem dL_law_1891 : decode cL_law 1891 = .ok (.iconst 0, 1) := by decide +kernel
theorem dL_law_1892 : decode cL_law 1892 = .ok (.ireturn, 1) := by decide +kernel
theorem dL_law_1893 : decode cL_law 1893 = .ok (.iload 6, 2) := by decide +kernel
theorem dL_law_1895 : decode cL_law 1895 = .ok (.ifCond .ne 35, 3) := by decide +kernel
theorem dL_law_1898 : decode cL_law 1898 = .ok (.aload 4, 2) := by decide +kernel
theorem dL_law_1900 : decode cL_law 1900 = .ok (.iconst 0, 1) := by decide +kernel
theorem dL_law_1901 : decode cL_law 1901 = .ok (.daload, 1) := by decide +kernel
theorem dL_law_1902 : decode cL_law 1902 = .ok (.dload 7, 2) := by decide +kernel
theorem dL_law_1904 : decode cL_law 1904 = .ok (.dcmp .l, 1) := by decide +kernel
theorem dL_law_1905 : decode cL_law 1905 = .ok (.ifCond .eq 25, 3) := by decide +kernel
theorem dL_law_1908 : decode cL_law 1908 = .ok (.aload 4, 2) := by decide +kernel
theorem dL_law_1910 : decode cL_law 1910 = .ok (.iconst 0, 1) := by decide +kernel
theorem dL_law_1911 : decode cL_law 1911 = .ok (.daload, 1) := by decide +kernel
theorem dL_law_1912 : decode cL_law 1912 = .ok (.aload 4, 2) := by decide +kernel
theorem dL_law_1914 : decode cL_law 1914 = .ok (.iconst 0, 1) := by decide +kernel
theorem dL_law_1915 : decode cL_law 1915 = .ok (.daload, 1) := by decide +kernel
theorem dL_law_1916 : decode cL_law 1916 = .ok (.dcmp .l, 1) := by decide +kernel
theorem dL_law_1917 : decode cL_law 1917 = .ok (.ifCond .eq 11, 3) := by decide +kernel
theorem dL_law_1920 : decode cL_law 1920 = .ok (.dload 7, 2) := by decide +kernel
theorem dL_law_1922 : decode cL_law 1922 = .ok (.dload 7, 2) := by decide +kernel
theorem dL_law_1924 : decode cL_law 1924 = .ok (.dcmp .l, 1) := by decide +kernel
theorem dL_law_1925 : decode cL_law 1925 = .ok (.ifCond .ne 5, 3) := by decide +kernel
theorem dL_law_1928 : decode cL_law 1928 = .ok (.iconst 0, 1) := by decide +kernel
theorem dL_law_1929 : decode cL_law 1929 = .ok (.ireturn, 1) := by decide +kernel
theorem dL_law_1930 : decode cL_law 1930 = .ok (.goto 453, 3) := by decide +kernel
theorem dL_law_1933 : decode cL_law 1933 = .ok (.aload_n 1, 1) := by decide +kernel
theorem dL_law_1934 : decode cL_law 1934 = .ok (.invokevirtual 270, 3) := by decide +kernel
theorem dL_law_1937 : decode cL_law 1937 = .ok (.f2d, 1) := by decide +kernel
theorem dL_law_1938 : decode cL_law 1938 = .ok (.dstore 6, 2) := by decide +kernel
theorem dL_law_1940 : decode cL_law 1940 = .ok (.aload_n 2, 1) := by decide +kernel
theorem dL_law_1941 : decode cL_law 1941 = .ok (.invokevirtual 274, 3) := by decide +kernel
theorem dL_law_1944 : decode cL_law 1944 = .ok (.f2d, 1) := by decide +kernel
theorem dL_law_1945 : decode cL_law 1945 = .ok (.dstore 8, 2) := by decide +kernel
theorem dL_law_1947 : decode cL_law 1947 = .ok (.dload 6, 2) := by decide +kernel
theorem dL_law_1949 : decode cL_law 1949 = .ok (.dload 8, 2) := by decide +kernel
theorem dL_law_1951 : decode cL_law 1951 = .ok (.dcmp .l, 1) := by decide +kernel
theorem dL_law_1952 : decode cL_law 1952 = .ok (.ifCond .eq 21, 3) := by decide +kernel
theorem dL_law_1955 : decode cL_law 1955 = .ok (.dload 6, 2) := by decide +kernel
theorem dL_law_1957 : decode cL_law 1957 = .ok (.dload 6, 2) := by decide +kernel
theorem dL_law_1959 : decode cL_law 1959 = .ok (.dcmp .l, 1) := by decide +kernel
theorem dL_law_1960 : decode cL_law 1960 = .ok (.ifCond .eq 11, 3) := by decide +kernel
theorem dL_law_1963 : decode cL_law 1963 = .ok (.dload 8, 2) := by decide +kernel
theorem dL_law_1965 : decode cL_law 1965 = .ok (.dload 8, 2) := by decide +kernel
theorem dL_law_1967 : decode cL_law 1967 = .ok (.dcmp .l, 1) := by decide +kernel
theorem dL_law_1968 : decode cL_law 1968 = .ok (.ifCond .ne 5, 3) := by decide +kernel
theorem dL_law_1971 : decode cL_law 1971 = .ok (.iconst 0, 1) := by decide +kernel
theorem dL_law_1972 : decode cL_law 1972 = .ok (.ireturn, 1) := by decide +kernel
theorem dL_law_1973 : decode cL_law 1973 = .ok (.goto 410, 3) := by decide +kernel
theorem dL_law_1976 : decode cL_law 1976 = .ok (.aload_n 1, 1) := by decide +kernel
theorem dL_law_1977 : decode cL_law 1977 = .ok (.invokevirtual 275, 3) := by decide +kernel
theorem dL_law_1980 : decode cL_law 1980 = .ok (.aload_n 2, 1) := by decide +kernel
theorem dL_law_1981 : decode cL_law 1981 = .ok (.invokevirtual 279, 3) := by decide +kernel
theorem dL_law_1984 : decode cL_law 1984 = .ok (.if_icmp .eq 399, 3) := by decide +kernel
theorem dL_law_1987 : decode cL_law 1987 = .ok (.iconst 0, 1) := by decide +kernel
theorem dL_law_1988 : decode cL_law 1988 = .ok (.ireturn, 1) := by decide +kernel
theorem dL_law_1989 : decode cL_law 1989 = .ok (.aload_n 1, 1) := by decide +kernel
theorem dL_law_1990 : decode cL_law 1990 = .ok (.aload_n 0, 1) := by decide +kernel
theorem dL_law_1991 : decode cL_law 1991 = .ok (.iload 5, 2) := by decide +kernel
theorem dL_law_1993 : decode cL_law 1993 = .ok (.iconst 1, 1) := by decide +kernel
theorem dL_law_1994 : decode cL_law 1994 = .ok (.iadd, 1) := by decide +kernel
theorem dL_law_1995 : decode cL_law 1995 = .ok (.iaload, 1) := by decide +kernel
theorem dL_law_1996 : decode cL_law 1996 = .ok (.i2c, 1) := by decide +kernel
theorem dL_law_1997 : decode cL_law 1997 = .ok (.aload_n 3, 1) := by decide +kernel
theorem dL_law_1998 : decode cL_law 1998 = .ok (.invokestatic 280, 3) := by decide +kernel
theorem dL_law_2001 : decode cL_law 2001 = .ok (.istore 6, 2) := by decide +kernel
theorem dL_law_2003 : decode cL_law 2003 = .ok (.aload_n 2, 1) := by decide +kernel
theorem dL_law_2004 : decode cL_law 2004 = .ok (.aload_n 0, 1) := by decide +kernel
theorem dL_law_2005 : decode cL_law 2005 = .ok (.iload 5, 2) := by decide +kernel
theorem dL_law_2007 : decode cL_law 2007 = .ok (.iconst 1, 1) := by decide +kernel
theorem dL_law_2008 : decode cL_law 2008 = .ok (.iadd, 1) := by decide +kernel
theorem dL_law_2009 : decode cL_law 2009 = .ok (.iaload, 1) := by decide +kernel
theorem dL_law_2010 : decode cL_law 2010 = .ok (.i2c, 1) := by decide +kernel
theorem dL_law_2011 : decode cL_law 2011 = .ok (.invokevirtual 283, 3) := by decide +kernel
theorem dL_law_2014 : decode cL_law 2014 = .ok (.istore 7, 2) := by decide +kernel
theorem dL_law_2016 : decode cL_law 2016 = .ok (.aload_n 2, 1) := by decide +kernel
theorem dL_law_2017 : decode cL_law 2017 = .ok (.invokevirtual 138, 3) := by decide +kernel
theorem dL_law_2020 : decode cL_law 2020 = .ok (.iload 6, 2) := by decide +kernel
theorem dL_law_2022 : decode cL_law 2022 = .ok (.if_icmp .eq 5, 3) := by decide +kernel
theorem dL_law_2025 : decode cL_law 2025 = .ok (.iconst 0, 1) := by decide +kernel
theorem dL_law_2026 : decode cL_law 2026 = .ok (.ireturn, 1) := by decide +kernel
theorem dL_law_2027 : decode cL_law 2027 = .ok (.iload 6, 2) := by decide +kernel
theorem dL_law_2029 : decode cL_law 2029 = .ok (.ifCond .ne 15, 3) := by decide +kernel
theorem dL_law_2032 : decode cL_law 2032 = .ok (.aload_n 3, 1) := by decide +kernel
theorem dL_law_2033 : decode cL_law 2033 = .ok (.iconst 0, 1) := by decide +kernel
theorem dL_law_2034 : decode cL_law 2034 = .ok (.laload, 1) := by decide +kernel
theorem dL_law_2035 : decode cL_law 2035 = .ok (.iload 7, 2) := by decide +kernel
theorem dL_law_2037 : decode cL_law 2037 = .ok (.i2l, 1) := by decide +kernel
theorem dL_law_2038 : decode cL_law 2038 = .ok (.lcmp, 1) := by decide +kernel
theorem dL_law_2039 : decode cL_law 2039 = .ok (.ifCond .eq 5, 3) := by decide +kernel
theorem dL_law_2042 : decode cL_law 2042 = .ok (.iconst 0, 1) := by decide +kernel
theorem dL_law_2043 : decode cL_law 2043 = .ok (.ireturn, 1) := by decide +kernel
theorem dL_law_2044 : decode cL_law 2044 = .ok (.goto 339, 3) := by decide +kernel
theorem dL_law_2047 : decode cL_law 2047 = .ok (.aload_n 1, 1) := by decide +kernel
theorem dL_law_2048 : decode cL_law 2048 = .ok (.aload_n 3, 1) := by decide +kernel
theorem dL_law_2049 : decode cL_law 2049 = .ok (.invokestatic 284, 3) := by decide +kernel
theorem dL_law_2052 : decode cL_law 2052 = .ok (.istore 6, 2) := by decide +kernel
theorem dL_law_2054 : decode cL_law 2054 = .ok (.aload_n 2, 1) := by decide +kernel
theorem dL_law_2055 : decode cL_law 2055 = .ok (.invokevirtual 286, 3) := by decide +kernel
theorem dL_law_2058 : decode cL_law 2058 = .ok (.istore 7, 2) := by decide +kernel
theorem dL_law_2060 : decode cL_law 2060 = .ok (.aload_n 2, 1) := by decide +kernel
theorem dL_law_2061 : decode cL_law 2061 = .ok (.invokevirtual 138, 3) := by decide +kernel
theorem dL_law_2064 : decode cL_law 2064 = .ok (.iload 6, 2) := by decide +kernel
theorem dL_law_2066 : decode cL_law 2066 = .ok (.if_icmp .eq 5, 3) := by decide +kernel
theorem dL_law_2069 : decode cL_law 2069 = .ok (.iconst 0, 1) := by decide +kernel
theorem dL_law_2070 : decode cL_law 2070 = .ok (.ireturn, 1) := by decide +kernel
theorem dL_law_2071 : decode cL_law 2071 = .ok (.iload 6, 2) := by decide +kernel
theorem dL_law_2073 : decode cL_law 2073 = .ok (.ifCond .ne 15, 3) := by decide +kernel
theorem dL_law_2076 : decode cL_law 2076 = .ok (.aload_n 3, 1) := by decide +kernel
theorem dL_law_2077 : decode cL_law 2077 = .ok (.iconst 0, 1) := by decide +kernel
theorem dL_law_2078 : decode cL_law 2078 = .ok (.laload, 1) := by decide +kernel
theorem dL_law_2079 : decode cL_law 2079 = .ok (.iload 7, 2) := by decide +kernel
theorem dL_law_2081 : decode cL_law 2081 = .ok (.i2l, 1) := by decide +kernel
theorem dL_law_2082 : decode cL_law 2082 = .ok (.lcmp, 1) := by decide +kernel
theorem dL_law_2083 : decode cL_law 2083 = .ok (.ifCond .eq 5, 3) := by decide +kernel
theorem dL_law_2086 : decode cL_law 2086 = .ok (.iconst 0, 1) := by decide +kernel
theorem dL_law_2087 : decode cL_law 2087 = .ok (.ireturn, 1) := by decide +kernel
theorem dL_law_2088 : decode cL_law 2088 = .ok (.goto 295, 3) := by decide +kernel
theorem dL_law_2091 : decode cL_law 2091 = .ok (.aload_n 1, 1) := by decide +kernel
theorem dL_law_2092 : decode cL_law 2092 = .ok (.aload_n 3, 1) := by decide +kernel
theorem dL_law_2093 : decode cL_law 2093 = .ok (.invokestatic 287, 3) := by decide +kernel
theorem dL_law_2096 : decode cL_law 2096 = .ok (.istore 6, 2) := by decide +kernel
theorem dL_law_2098 : decode cL_law 2098 = .ok (.aload_n 2, 1) := by decide +kernel
theorem dL_law_2099 : decode cL_law 2099 = .ok (.invokevirtual 289, 3) := by decide +kernel
theorem dL_law_2102 : decode cL_law 2102 = .ok (.istore 7, 2) := by decide +kernel
theorem dL_law_2104 : decode cL_law 2104 = .ok (.aload_n 2, 1) := by decide +kernel
theorem dL_law_2105 : decode cL_law 2105 = .ok (.invokevirtual 138, 3) := by decide +kernel
theorem dL_law_2108 : decode cL_law 2108 = .ok (.iload 6, 2) := by decide +kernel
theorem dL_law_2110 : decode cL_law 2110 = .ok (.if_icmp .eq 5, 3) := by decide +kernel
theorem dL_law_2113 : decode cL_law 2113 = .ok (.iconst 0, 1) := by decide +kernel
theorem dL_law_2114 : decode cL_law 2114 = .ok (.ireturn, 1) := by decide +kernel
theorem dL_law_2115 : decode cL_law 2115 = .ok (.iload 6, 2) := by decide +kernel
theorem dL_law_2117 : decode cL_law 2117 = .ok (.ifCond .ne 15, 3) := by decide +kernel
theorem dL_law_2120 : decode cL_law 2120 = .ok (.aload_n 3, 1) := by decide +kernel
theorem dL_law_2121 : decode cL_law 2121 = .ok (.iconst 0, 1) := by decide +kernel
theorem dL_law_2122 : decode cL_law 2122 = .ok (.laload, 1) := by decide +kernel
theorem dL_law_2123 : decode cL_law 2123 = .ok (.iload 7, 2) := by decide +kernel
theorem dL_law_2125 : decode cL_law 2125 = .ok (.i2l, 1) := by decide +kernel
theorem dL_law_2126 : decode cL_law 2126 = .ok (.lcmp, 1) := by decide +kernel
theorem dL_law_2127 : decode cL_law 2127 = .ok (.ifCond .eq 5, 3) := by decide +kernel
theorem dL_law_2130 : decode cL_law 2130 = .ok (.iconst 0, 1) := by decide +kernel
theorem dL_law_2131 : decode cL_law 2131 = .ok (.ireturn, 1) := by decide +kernel
theorem dL_law_2132 : decode cL_law 2132 = .ok (.goto 251, 3) := by decide +kernel
theorem dL_law_2135 : decode cL_law 2135 = .ok (.aload_n 1, 1) := by decide +kernel
theorem dL_law_2136 : decode cL_law 2136 = .ok (.aload_n 3, 1) := by decide +kernel
theorem dL_law_2137 : decode cL_law 2137 = .ok (.invokestatic 290, 3) := by decide +kernel
theorem dL_law_2140 : decode cL_law 2140 = .ok (.istore 6, 2) := by decide +kernel
theorem dL_law_2142 : decode cL_law 2142 = .ok (.aload_n 2, 1) := by decide +kernel
theorem dL_law_2143 : decode cL_law 2143 = .ok (.invokevirtual 292, 3) := by decide +kernel
theorem dL_law_2146 : decode cL_law 2146 = .ok (.istore 7, 2) := by decide +kernel
theorem dL_law_2148 : decode cL_law 2148 = .ok (.aload_n 2, 1) := by decide +kernel
theorem dL_law_2149 : decode cL_law 2149 = .ok (.invokevirtual 138, 3) := by decide +kernel
theorem dL_law_2152 : decode cL_law 2152 = .ok (.iload 6, 2) := by decide +kernel
theorem dL_law_2154 : decode cL_law 2154 = .ok (.if_icmp .eq 5, 3) := by decide +kernel
theorem dL_law_2157 : decode cL_law 2157 = .ok (.iconst 0, 1) := by decide +kernel
theorem dL_law_2158 : decode cL_law 2158 = .ok (.ireturn, 1) := by decide +kernel
theorem dL_law_2159 : decode cL_law 2159 = .ok (.iload 6, 2) := by decide +kernel
theorem dL_law_2161 : decode cL_law 2161 = .ok (.ifCond .ne 15, 3) := by decide +kernel
theorem dL_law_2164 : decode cL_law 2164 = .ok (.aload_n 3, 1) := by decide +kernel
theorem dL_law_2165 : decode cL_law 2165 = .ok (.iconst 0, 1) := by decide +kernel
theorem dL_law_2166 : decode cL_law 2166 = .ok (.laload, 1) := by decide +kernel
theorem dL_law_2167 : decode cL_law 2167 = .ok (.iload 7, 2) := by decide +kernel
theorem dL_law_2169 : decode cL_law 2169 = .ok (.i2l, 1) := by decide +kernel
theorem dL_law_2170 : decode cL_law 2170 = .ok (.lcmp, 1) := by decide +kernel
theorem dL_law_2171 : decode cL_law 2171 = .ok (.ifCond .eq 5, 3) := by decide +kernel
theorem dL_law_2174 : decode cL_law 2174 = .ok (.iconst 0, 1) := by decide +kernel
theorem dL_law_2175 : decode cL_law 2175 = .ok (.ireturn, 1) := by decide +kernel
theorem dL_law_2176 : decode cL_law 2176 = .ok (.goto 207, 3) := by decide +kernel
theorem dL_law_2179 : decode cL_law 2179 = .ok (.aload_n 1, 1) := by decide +kernel
theorem dL_law_2180 : decode cL_law 2180 = .ok (.aload_n 0, 1) := by decide +kernel
theorem dL_law_2181 : decode cL_law 2181 = .ok (.iload 5, 2) := by decide +kernel
theorem dL_law_2183 : decode cL_law 2183 = .ok (.iconst 1, 1) := by decide +kernel
theorem dL_law_2184 : decode cL_law 2184 = .ok (.iadd, 1) := by decide +kernel
theorem dL_law_2185 : decode cL_law 2185 = .ok (.iaload, 1) := by decide +kernel
theorem dL_law_2186 : decode cL_law 2186 = .ok (.aload_n 3, 1) := by decide +kernel
theorem dL_law_2187 : decode cL_law 2187 = .ok (.invokestatic 293, 3) := by decide +kernel
theorem dL_law_2190 : decode cL_law 2190 = .ok (.istore 6, 2) := by decide +kernel
theorem dL_law_2192 : decode cL_law 2192 = .ok (.aload_n 2, 1) := by decide +kernel
theorem dL_law_2193 : decode cL_law 2193 = .ok (.aload_n 0, 1) := by decide +kernel
theorem dL_law_2194 : decode cL_law 2194 = .ok (.iload 5, 2) := by decide +kernel
theorem dL_law_2196 : decode cL_law 2196 = .ok (.iconst 1, 1) := by decide +kernel
theorem dL_law_2197 : decode cL_law 2197 = .ok (.iadd, 1) := by decide +kernel
theorem dL_law_2198 : decode cL_law 2198 = .ok (.iaload, 1) := by decide +kernel
theorem dL_law_2199 : decode cL_law 2199 = .ok (.invokevirtual 295, 3) := by decide +kernel
theorem dL_law_2202 : decode cL_law 2202 = .ok (.istore 7, 2) := by decide +kernel
theorem dL_law_2204 : decode cL_law 2204 = .ok (.aload_n 2, 1) := by decide +kernel
theorem dL_law_2205 : decode cL_law 2205 = .ok (.invokevirtual 138, 3) := by decide +kernel
theorem dL_law_2208 : decode cL_law 2208 = .ok (.iload 6, 2) := by decide +kernel
theorem dL_law_2210 : decode cL_law 2210 = .ok (.if_icmp .eq 5, 3) := by decide +kernel
theorem dL_law_2213 : decode cL_law 2213 = .ok (.iconst 0, 1) := by decide +kernel
theorem dL_law_2214 : decode cL_law 2214 = .ok (.ireturn, 1) := by decide +kernel
theorem dL_law_2215 : decode cL_law 2215 = .ok (.iload 6, 2) := by decide +kernel
theorem dL_law_2217 : decode cL_law 2217 = .ok (.ifCond .ne 15, 3) := by decide +kernel
theorem dL_law_2220 : decode cL_law 2220 = .ok (.aload_n 3, 1) := by decide +kernel
theorem dL_law_2221 : decode cL_law 2221 = .ok (.iconst 0, 1) := by decide +kernel
theorem dL_law_2222 : decode cL_law 2222 = .ok (.laload, 1) := by decide +kernel
theorem dL_law_2223 : decode cL_law 2223 = .ok (.iload 7, 2) := by decide +kernel
theorem dL_law_2225 : decode cL_law 2225 = .ok (.i2l, 1) := by decide +kernel
theorem dL_law_2226 : decode cL_law 2226 = .ok (.lcmp, 1) := by decide +kernel
theorem dL_law_2227 : decode cL_law 2227 = .ok (.ifCond .eq 5, 3) := by decide +kernel
theorem dL_law_2230 : decode cL_law 2230 = .ok (.iconst 0, 1) := by decide +kernel
theorem dL_law_2231 : decode cL_law 2231 = .ok (.ireturn, 1) := by decide +kernel
theorem dL_law_2232 : decode cL_law 2232 = .ok (.goto 151, 3) := by decide +kernel
theorem dL_law_2235 : decode cL_law 2235 = .ok (.aload_n 1, 1) := by decide +kernel
theorem dL_law_2236 : decode cL_law 2236 = .ok (.invokevirtual 296, 3) := by decide +kernel
theorem dL_law_2239 : decode cL_law 2239 = .ok (.aload_n 2, 1) := by decide +kernel
theorem dL_law_2240 : decode cL_law 2240 = .ok (.invokevirtual 299, 3) := by decide +kernel
theorem dL_law_2243 : decode cL_law 2243 = .ok (.if_icmp .eq 140, 3) := by decide +kernel
theorem dL_law_2246 : decode cL_law 2246 = .ok (.iconst 0, 1) := by decide +kernel
theorem dL_law_2247 : decode cL_law 2247 = .ok (.ireturn, 1) := by decide +kernel
theorem dL_law_2248 : decode cL_law 2248 = .ok (.aload_n 1, 1) := by decide +kernel
theorem dL_law_2249 : decode cL_law 2249 = .ok (.aload_n 0, 1) := by decide +kernel
theorem dL_law_2250 : decode cL_law 2250 = .ok (.iload 5, 2) := by decide +kernel
theorem dL_law_2252 : decode cL_law 2252 = .ok (.iconst 1, 1) := by decide +kernel
theorem dL_law_2253 : decode cL_law 2253 = .ok (.iadd, 1) := by decide +kernel
theorem dL_law_2254 : decode cL_law 2254 = .ok (.iaload, 1) := by decide +kernel
theorem dL_law_2255 : decode cL_law 2255 = .ok (.aload_n 3, 1) := by decide +kernel
theorem dL_law_2256 : decode cL_law 2256 = .ok (.invokestatic 300, 3) := by decide +kernel
theorem dL_law_2259 : decode cL_law 2259 = .ok (.istore 6, 2) := by decide +kernel
theorem dL_law_2261 : decode cL_law 2261 = .ok (.aload_n 2, 1) := by decide +kernel
theorem dL_law_2262 : decode cL_law 2262 = .ok (.aload_n 0, 1) := by decide +kernel
theorem dL_law_2263 : decode cL_law 2263 = .ok (.iload 5, 2) := by decide +kernel
theorem dL_law_2265 : decode cL_law 2265 = .ok (.iconst 1, 1) := by decide +kernel
theorem dL_law_2266 : decode cL_law 2266 = .ok (.iadd, 1) := by decide +kernel
theorem dL_law_2267 : decode cL_law 2267 = .ok (.iaload, 1) := by decide +kernel
theorem dL_law_2268 : decode cL_law 2268 = .ok (.invokevirtual 302, 3) := by decide +kernel
theorem dL_law_2271 : decode cL_law 2271 = .ok (.istore 7, 2) := by decide +kernel
theorem dL_law_2273 : decode cL_law 2273 = .ok (.aload_n 2, 1) := by decide +kernel
theorem dL_law_2274 : decode cL_law 2274 = .ok (.invokevirtual 138, 3) := by decide +kernel
theorem dL_law_2277 : decode cL_law 2277 = .ok (.iload 6, 2) := by decide +kernel
theorem dL_law_2279 : decode cL_law 2279 = .ok (.if_icmp .eq 5, 3) := by decide +kernel
theorem dL_law_2282 : decode cL_law 2282 = .ok (.iconst 0, 1) := by decide +kernel
theorem dL_law_2283 : decode cL_law 2283 = .ok (.ireturn, 1) := by decide +kernel
theorem dL_law_2284 : decode cL_law 2284 = .ok (.iload 6, 2) := by decide +kernel
theorem dL_law_2286 : decode cL_law 2286 = .ok (.ifCond .ne 15, 3) := by decide +kernel
theorem dL_law_2289 : decode cL_law 2289 = .ok (.aload_n 3, 1) := by decide +kernel
theorem dL_law_2290 : decode cL_law 2290 = .ok (.iconst 0, 1) := by decide +kernel
theorem dL_law_2291 : decode cL_law 2291 = .ok (.laload, 1) := by decide +kernel
theorem dL_law_2292 : decode cL_law 2292 = .ok (.iload 7, 2) := by decide +kernel
theorem dL_law_2294 : decode cL_law 2294 = .ok (.i2l, 1) := by decide +kernel
theorem dL_law_2295 : decode cL_law 2295 = .ok (.lcmp, 1) := by decide +kernel
theorem dL_law_2296 : decode cL_law 2296 = .ok (.ifCond .eq 5, 3) := by decide +kernel
theorem dL_law_2299 : decode cL_law 2299 = .ok (.iconst 0, 1) := by decide +kernel
theorem dL_law_2300 : decode cL_law 2300 = .ok (.ireturn, 1) := by decide +kernel
theorem dL_law_2301 : decode cL_law 2301 = .ok (.goto 82, 3) := by decide +kernel
theorem dL_law_2304 : decode cL_law 2304 = .ok (.aload_n 1, 1) := by decide +kernel
theorem dL_law_2305 : decode cL_law 2305 = .ok (.aload_n 3, 1) := by decide +kernel
theorem dL_law_2306 : decode cL_law 2306 = .ok (.invokestatic 303, 3) := by decide +kernel
theorem dL_law_2309 : decode cL_law 2309 = .ok (.istore 6, 2) := by decide +kernel
theorem dL_law_2311 : decode cL_law 2311 = .ok (.aload_n 2, 1) := by decide +kernel
theorem dL_law_2312 : decode cL_law 2312 = .ok (.invokevirtual 305, 3) := by decide +kernel
theorem dL_law_2315 : decode cL_law 2315 = .ok (.istore 7, 2) := by decide +kernel
theorem dL_law_2317 : decode cL_law 2317 = .ok (.aload_n 2, 1) := by decide +kernel
theorem dL_law_2318 : decode cL_law 2318 = .ok (.invokevirtual 138, 3) := by decide +kernel
theorem dL_law_2321 : decode cL_law 2321 = .ok (.iload 6, 2) := by decide +kernel
theorem dL_law_2323 : decode cL_law 2323 = .ok (.if_icmp .eq 5, 3) := by decide +kernel
theorem dL_law_2326 : decode cL_law 2326 = .ok (.iconst 0, 1) := by decide +kernel
theorem dL_law_2327 : decode cL_law 2327 = .ok (.ireturn, 1) := by decide +kernel
theorem dL_law_2328 : decode cL_law 2328 = .ok (.iload 6, 2) := by decide +kernel
theorem dL_law_2330 : decode cL_law 2330 = .ok (.ifCond .ne 15, 3) := by decide +kernel
theorem dL_law_2333 : decode cL_law 2333 = .ok (.aload_n 3, 1) := by decide +kernel
theorem dL_law_2334 : decode cL_law 2334 = .ok (.iconst 0, 1) := by decide +kernel
theorem dL_law_2335 : decode cL_law 2335 = .ok (.laload, 1) := by decide +kernel
theorem dL_law_2336 : decode cL_law 2336 = .ok (.iload 7, 2) := by decide +kernel
theorem dL_law_2338 : decode cL_law 2338 = .ok (.i2l, 1) := by decide +kernel
theorem dL_law_2339 : decode cL_law 2339 = .ok (.lcmp, 1) := by decide +kernel
theorem dL_law_2340 : decode cL_law 2340 = .ok (.ifCond .eq 5, 3) := by decide +kernel
theorem dL_law_2343 : decode cL_law 2343 = .ok (.iconst 0, 1) := by decide +kernel
theorem dL_law_2344 : decode cL_law 2344 = .ok (.ireturn, 1) := by decide +kernel
theorem dL_law_2345 : decode cL_law 2345 = .ok (.goto 38, 3) := by decide +kernel
theorem dL_law_2348 : decode cL_law 2348 = .ok (.aload_n 1, 1) := by decide +kernel
theorem dL_law_2349 : decode cL_law 2349 = .ok (.invokevirtual 306, 3) := by decide +kernel
theorem dL_law_2352 : decode cL_law 2352 = .ok (.aload_n 2, 1) := by decide +kernel
theorem dL_law_2353 : decode cL_law 2353 = .ok (.invokevirtual 309, 3) := by decide +kernel
theorem dL_law_2356 : decode cL_law 2356 = .ok (.goto 27, 3) := by decide +kernel
theorem dL_law_2359 : decode cL_law 2359 = .ok (.aload_n 1, 1) := by decide +kernel
theorem dL_law_2360 : decode cL_law 2360 = .ok (.invokestatic 310, 3) := by decide +kernel
theorem dL_law_2363 : decode cL_law 2363 = .ok (.istore 6, 2) := by decide +kernel
theorem dL_law_2365 : decode cL_law 2365 = .ok (.aload_n 2, 1) := by decide +kernel
theorem dL_law_2366 : decode cL_law 2366 = .ok (.invokevirtual 313, 3) := by decide +kernel
theorem dL_law_2369 : decode cL_law 2369 = .ok (.aload_n 2, 1) := by decide +kernel
theorem dL_law_2370 : decode cL_law 2370 = .ok (.invokevirtual 138, 3) := by decide +kernel
theorem dL_law_2373 : decode cL_law 2373 = .ok (.iload 6, 2) := by decide +kernel
theorem dL_law_2375 : decode cL_law 2375 = .ok (.if_icmp .eq 5, 3) := by decide +kernel
theorem dL_law_2378 : decode cL_law 2378 = .ok (.iconst 0, 1) := by decide +kernel
theorem dL_law_2379 : decode cL_law 2379 = .ok (.ireturn, 1) := by decide +kernel
theorem dL_law_2380 : decode cL_law 2380 = .ok (.goto 3, 3) := by decide +kernel
theorem dL_law_2383 : decode cL_law 2383 = .ok (.iinc 5 4, 3) := by decide +kernel
theorem dL_law_2386 : decode cL_law 2386 = .ok (.goto (-2358), 3) := by decide +kernel
theorem dL_law_2389 : decode cL_law 2389 = .ok (.iconst 1, 1) := by decide +kernel
theorem dL_law_2390 : decode cL_law 2390 = .ok (.ireturn, 1) := by decide +kernel
end
