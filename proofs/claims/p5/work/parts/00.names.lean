/-- a private method of a class that the tables say can be made, by its rows of tables_1 -/
def lw_okq (q : MethodName × Nat) : Prop := (q.1.cls ≠ "java/lang/invoke/MethodHandle" ∧ q.1.cls ≠ "java/lang/invoke/VarHandle") ∧ Cond.instantiable q.1.cls q.2 ∈ tables_1 ∧ Cond.privateMethod q.1 ∈ tables_1 ∧ Cond.instanceMethod q.1 ∈ tables_1
theorem lw_p0 : lw_okq (⟨"java/lang/Throwable", "fillInStackTrace", "(I)Ljava/lang/Throwable;"⟩, 6) := ⟨⟨by decide +kernel, by decide +kernel⟩, List.mem_of_getElem? (i := 937) (by decide +kernel), List.mem_of_getElem? (i := 935) (by decide +kernel), List.mem_of_getElem? (i := 936) (by decide +kernel)⟩
theorem lw_p1 : lw_okq (⟨"Rasterbox", "snapshotOf", "(I)LRasterbox$Machine;"⟩, 6) := ⟨⟨by decide +kernel, by decide +kernel⟩, List.mem_of_getElem? (i := 36) (by decide +kernel), List.mem_of_getElem? (i := 1539) (by decide +kernel), List.mem_of_getElem? (i := 1540) (by decide +kernel)⟩
theorem lw_p2 : lw_okq (⟨"RasterboxModel", "fails", "(I)Z"⟩, 40) := ⟨⟨by decide +kernel, by decide +kernel⟩, List.mem_of_getElem? (i := 1599) (by decide +kernel), List.mem_of_getElem? (i := 1746) (by decide +kernel), List.mem_of_getElem? (i := 1747) (by decide +kernel)⟩
theorem lw_p3 : lw_okq (⟨"RasterboxModel", "reads", "(I)I"⟩, 40) := ⟨⟨by decide +kernel, by decide +kernel⟩, List.mem_of_getElem? (i := 1599) (by decide +kernel), List.mem_of_getElem? (i := 1750) (by decide +kernel), List.mem_of_getElem? (i := 1751) (by decide +kernel)⟩
theorem lw_p4 : lw_okq (⟨"RasterboxModel", "readRegister", "(I)I"⟩, 40) := ⟨⟨by decide +kernel, by decide +kernel⟩, List.mem_of_getElem? (i := 1599) (by decide +kernel), List.mem_of_getElem? (i := 1754) (by decide +kernel), List.mem_of_getElem? (i := 1755) (by decide +kernel)⟩
theorem lw_p5 : lw_okq (⟨"RasterboxModel", "lineNow", "()I"⟩, 40) := ⟨⟨by decide +kernel, by decide +kernel⟩, List.mem_of_getElem? (i := 1599) (by decide +kernel), List.mem_of_getElem? (i := 1758) (by decide +kernel), List.mem_of_getElem? (i := 1759) (by decide +kernel)⟩
theorem lw_p6 : lw_okq (⟨"RasterboxModel", "seenColumns", "(I)I"⟩, 40) := ⟨⟨by decide +kernel, by decide +kernel⟩, List.mem_of_getElem? (i := 1599) (by decide +kernel), List.mem_of_getElem? (i := 1764) (by decide +kernel), List.mem_of_getElem? (i := 1765) (by decide +kernel)⟩
theorem lw_p7 : lw_okq (⟨"RasterboxModel", "hasPulse", "()Z"⟩, 40) := ⟨⟨by decide +kernel, by decide +kernel⟩, List.mem_of_getElem? (i := 1599) (by decide +kernel), List.mem_of_getElem? (i := 1771) (by decide +kernel), List.mem_of_getElem? (i := 1772) (by decide +kernel)⟩
theorem lw_p8 : lw_okq (⟨"RasterboxModel", "writes", "(II)V"⟩, 40) := ⟨⟨by decide +kernel, by decide +kernel⟩, List.mem_of_getElem? (i := 1599) (by decide +kernel), List.mem_of_getElem? (i := 1775) (by decide +kernel), List.mem_of_getElem? (i := 1776) (by decide +kernel)⟩
theorem lw_p9 : lw_okq (⟨"RasterboxModel", "writeRegister", "(II)V"⟩, 40) := ⟨⟨by decide +kernel, by decide +kernel⟩, List.mem_of_getElem? (i := 1599) (by decide +kernel), List.mem_of_getElem? (i := 1779) (by decide +kernel), List.mem_of_getElem? (i := 1780) (by decide +kernel)⟩
theorem lw_p10 : lw_okq (⟨"RasterboxModel", "keeps", "()V"⟩, 40) := ⟨⟨by decide +kernel, by decide +kernel⟩, List.mem_of_getElem? (i := 1599) (by decide +kernel), List.mem_of_getElem? (i := 1786) (by decide +kernel), List.mem_of_getElem? (i := 1787) (by decide +kernel)⟩
theorem lw_p11 : lw_okq (⟨"RasterboxModel", "passes", "()Z"⟩, 40) := ⟨⟨by decide +kernel, by decide +kernel⟩, List.mem_of_getElem? (i := 1599) (by decide +kernel), List.mem_of_getElem? (i := 1817) (by decide +kernel), List.mem_of_getElem? (i := 1818) (by decide +kernel)⟩
theorem lw_p12 : lw_okq (⟨"RasterboxModel", "isOfPicture", "()Z"⟩, 40) := ⟨⟨by decide +kernel, by decide +kernel⟩, List.mem_of_getElem? (i := 1599) (by decide +kernel), List.mem_of_getElem? (i := 1821) (by decide +kernel), List.mem_of_getElem? (i := 1822) (by decide +kernel)⟩
theorem lw_p13 : lw_okq (⟨"RasterboxModel", "rowNow", "()I"⟩, 40) := ⟨⟨by decide +kernel, by decide +kernel⟩, List.mem_of_getElem? (i := 1599) (by decide +kernel), List.mem_of_getElem? (i := 1825) (by decide +kernel), List.mem_of_getElem? (i := 1826) (by decide +kernel)⟩
theorem lw_p14 : lw_okq (⟨"RasterboxModel", "isOn", "(I)Z"⟩, 40) := ⟨⟨by decide +kernel, by decide +kernel⟩, List.mem_of_getElem? (i := 1599) (by decide +kernel), List.mem_of_getElem? (i := 1829) (by decide +kernel), List.mem_of_getElem? (i := 1830) (by decide +kernel)⟩
theorem lw_p15 : lw_okq (⟨"RasterboxModel", "isAmong", "(II)Z"⟩, 40) := ⟨⟨by decide +kernel, by decide +kernel⟩, List.mem_of_getElem? (i := 1599) (by decide +kernel), List.mem_of_getElem? (i := 1833) (by decide +kernel), List.mem_of_getElem? (i := 1834) (by decide +kernel)⟩
def lw_privs_1 : List (MethodName × Nat) := [(⟨"java/lang/Throwable", "fillInStackTrace", "(I)Ljava/lang/Throwable;"⟩, 6), (⟨"Rasterbox", "snapshotOf", "(I)LRasterbox$Machine;"⟩, 6), (⟨"RasterboxModel", "fails", "(I)Z"⟩, 40), (⟨"RasterboxModel", "reads", "(I)I"⟩, 40), (⟨"RasterboxModel", "readRegister", "(I)I"⟩, 40), (⟨"RasterboxModel", "lineNow", "()I"⟩, 40), (⟨"RasterboxModel", "seenColumns", "(I)I"⟩, 40), (⟨"RasterboxModel", "hasPulse", "()Z"⟩, 40), (⟨"RasterboxModel", "writes", "(II)V"⟩, 40), (⟨"RasterboxModel", "writeRegister", "(II)V"⟩, 40), (⟨"RasterboxModel", "keeps", "()V"⟩, 40), (⟨"RasterboxModel", "passes", "()Z"⟩, 40), (⟨"RasterboxModel", "isOfPicture", "()Z"⟩, 40), (⟨"RasterboxModel", "rowNow", "()I"⟩, 40), (⟨"RasterboxModel", "isOn", "(I)Z"⟩, 40), (⟨"RasterboxModel", "isAmong", "(II)Z"⟩, 40)]
theorem lw_r1 : ∀ q ∈ lw_privs_1, lw_okq q := List.forall_mem_cons.mpr ⟨lw_p0, List.forall_mem_cons.mpr ⟨lw_p1, List.forall_mem_cons.mpr ⟨lw_p2, List.forall_mem_cons.mpr ⟨lw_p3, List.forall_mem_cons.mpr ⟨lw_p4, List.forall_mem_cons.mpr ⟨lw_p5, List.forall_mem_cons.mpr ⟨lw_p6, List.forall_mem_cons.mpr ⟨lw_p7, List.forall_mem_cons.mpr ⟨lw_p8, List.forall_mem_cons.mpr ⟨lw_p9, List.forall_mem_cons.mpr ⟨lw_p10, List.forall_mem_cons.mpr ⟨lw_p11, List.forall_mem_cons.mpr ⟨lw_p12, List.forall_mem_cons.mpr ⟨lw_p13, List.forall_mem_cons.mpr ⟨lw_p14, List.forall_mem_cons.mpr ⟨lw_p15, fun _ h => absurd h List.not_mem_nil⟩⟩⟩⟩⟩⟩⟩⟩⟩⟩⟩⟩⟩⟩⟩⟩
theorem lw_p16 : lw_okq (⟨"RasterboxModel", "draws", "(II)V"⟩, 40) := ⟨⟨by decide +kernel, by decide +kernel⟩, List.mem_of_getElem? (i := 1599) (by decide +kernel), List.mem_of_getElem? (i := 1837) (by decide +kernel), List.mem_of_getElem? (i := 1838) (by decide +kernel)⟩
theorem lw_p17 : lw_okq (⟨"RasterboxModel", "pictureAt", "(II)I"⟩, 40) := ⟨⟨by decide +kernel, by decide +kernel⟩, List.mem_of_getElem? (i := 1599) (by decide +kernel), List.mem_of_getElem? (i := 1841) (by decide +kernel), List.mem_of_getElem? (i := 1842) (by decide +kernel)⟩
theorem lw_p18 : lw_okq (⟨"RasterboxModel", "covers", "(III)Z"⟩, 40) := ⟨⟨by decide +kernel, by decide +kernel⟩, List.mem_of_getElem? (i := 1599) (by decide +kernel), List.mem_of_getElem? (i := 1845) (by decide +kernel), List.mem_of_getElem? (i := 1846) (by decide +kernel)⟩
theorem lw_p19 : lw_okq (⟨"RasterboxModel", "times", "()V"⟩, 40) := ⟨⟨by decide +kernel, by decide +kernel⟩, List.mem_of_getElem? (i := 1599) (by decide +kernel), List.mem_of_getElem? (i := 1849) (by decide +kernel), List.mem_of_getElem? (i := 1850) (by decide +kernel)⟩
theorem lw_p20 : lw_okq (⟨"RasterboxModel", "counts", "(I)Z"⟩, 40) := ⟨⟨by decide +kernel, by decide +kernel⟩, List.mem_of_getElem? (i := 1599) (by decide +kernel), List.mem_of_getElem? (i := 1853) (by decide +kernel), List.mem_of_getElem? (i := 1854) (by decide +kernel)⟩
theorem lw_p21 : lw_okq (⟨"RasterboxModel", "winds", "()V"⟩, 40) := ⟨⟨by decide +kernel, by decide +kernel⟩, List.mem_of_getElem? (i := 1599) (by decide +kernel), List.mem_of_getElem? (i := 1857) (by decide +kernel), List.mem_of_getElem? (i := 1858) (by decide +kernel)⟩
theorem lw_p22 : lw_okq (⟨"RasterboxModel", "makesSample", "()V"⟩, 40) := ⟨⟨by decide +kernel, by decide +kernel⟩, List.mem_of_getElem? (i := 1599) (by decide +kernel), List.mem_of_getElem? (i := 1861) (by decide +kernel), List.mem_of_getElem? (i := 1862) (by decide +kernel)⟩
theorem lw_p23 : lw_okq (⟨"RasterboxModel", "sounds", "(I)V"⟩, 40) := ⟨⟨by decide +kernel, by decide +kernel⟩, List.mem_of_getElem? (i := 1599) (by decide +kernel), List.mem_of_getElem? (i := 1865) (by decide +kernel), List.mem_of_getElem? (i := 1866) (by decide +kernel)⟩
theorem lw_p24 : lw_okq (⟨"RasterboxModel", "gives", "(I)I"⟩, 40) := ⟨⟨by decide +kernel, by decide +kernel⟩, List.mem_of_getElem? (i := 1599) (by decide +kernel), List.mem_of_getElem? (i := 1873) (by decide +kernel), List.mem_of_getElem? (i := 1874) (by decide +kernel)⟩
theorem lw_p25 : lw_okq (⟨"RasterboxModel", "goesOn", "()V"⟩, 40) := ⟨⟨by decide +kernel, by decide +kernel⟩, List.mem_of_getElem? (i := 1599) (by decide +kernel), List.mem_of_getElem? (i := 1878) (by decide +kernel), List.mem_of_getElem? (i := 1879) (by decide +kernel)⟩
theorem lw_p26 : lw_okq (⟨"RasterboxModel", "begins", "()V"⟩, 40) := ⟨⟨by decide +kernel, by decide +kernel⟩, List.mem_of_getElem? (i := 1599) (by decide +kernel), List.mem_of_getElem? (i := 1882) (by decide +kernel), List.mem_of_getElem? (i := 1883) (by decide +kernel)⟩
theorem lw_p27 : lw_okq (⟨"RasterboxModel", "cyclesOf", "(I)I"⟩, 40) := ⟨⟨by decide +kernel, by decide +kernel⟩, List.mem_of_getElem? (i := 1599) (by decide +kernel), List.mem_of_getElem? (i := 1886) (by decide +kernel), List.mem_of_getElem? (i := 1887) (by decide +kernel)⟩
theorem lw_p28 : lw_okq (⟨"RasterboxModel", "byteAt", "(I)I"⟩, 40) := ⟨⟨by decide +kernel, by decide +kernel⟩, List.mem_of_getElem? (i := 1599) (by decide +kernel), List.mem_of_getElem? (i := 1890) (by decide +kernel), List.mem_of_getElem? (i := 1891) (by decide +kernel)⟩
theorem lw_p29 : lw_okq (⟨"RasterboxModel", "modeCycles", "(III)I"⟩, 40) := ⟨⟨by decide +kernel, by decide +kernel⟩, List.mem_of_getElem? (i := 1599) (by decide +kernel), List.mem_of_getElem? (i := 1897) (by decide +kernel), List.mem_of_getElem? (i := 1898) (by decide +kernel)⟩
theorem lw_p30 : lw_okq (⟨"RasterboxModel", "baseOf", "(II)I"⟩, 40) := ⟨⟨by decide +kernel, by decide +kernel⟩, List.mem_of_getElem? (i := 1599) (by decide +kernel), List.mem_of_getElem? (i := 1901) (by decide +kernel), List.mem_of_getElem? (i := 1902) (by decide +kernel)⟩
theorem lw_p31 : lw_okq (⟨"RasterboxModel", "wordAt", "(I)I"⟩, 40) := ⟨⟨by decide +kernel, by decide +kernel⟩, List.mem_of_getElem? (i := 1599) (by decide +kernel), List.mem_of_getElem? (i := 1905) (by decide +kernel), List.mem_of_getElem? (i := 1906) (by decide +kernel)⟩
def lw_privs_2 : List (MethodName × Nat) := [(⟨"RasterboxModel", "draws", "(II)V"⟩, 40), (⟨"RasterboxModel", "pictureAt", "(II)I"⟩, 40), (⟨"RasterboxModel", "covers", "(III)Z"⟩, 40), (⟨"RasterboxModel", "times", "()V"⟩, 40), (⟨"RasterboxModel", "counts", "(I)Z"⟩, 40), (⟨"RasterboxModel", "winds", "()V"⟩, 40), (⟨"RasterboxModel", "makesSample", "()V"⟩, 40), (⟨"RasterboxModel", "sounds", "(I)V"⟩, 40), (⟨"RasterboxModel", "gives", "(I)I"⟩, 40), (⟨"RasterboxModel", "goesOn", "()V"⟩, 40), (⟨"RasterboxModel", "begins", "()V"⟩, 40), (⟨"RasterboxModel", "cyclesOf", "(I)I"⟩, 40), (⟨"RasterboxModel", "byteAt", "(I)I"⟩, 40), (⟨"RasterboxModel", "modeCycles", "(III)I"⟩, 40), (⟨"RasterboxModel", "baseOf", "(II)I"⟩, 40), (⟨"RasterboxModel", "wordAt", "(I)I"⟩, 40)]
theorem lw_r2 : ∀ q ∈ lw_privs_2, lw_okq q := List.forall_mem_cons.mpr ⟨lw_p16, List.forall_mem_cons.mpr ⟨lw_p17, List.forall_mem_cons.mpr ⟨lw_p18, List.forall_mem_cons.mpr ⟨lw_p19, List.forall_mem_cons.mpr ⟨lw_p20, List.forall_mem_cons.mpr ⟨lw_p21, List.forall_mem_cons.mpr ⟨lw_p22, List.forall_mem_cons.mpr ⟨lw_p23, List.forall_mem_cons.mpr ⟨lw_p24, List.forall_mem_cons.mpr ⟨lw_p25, List.forall_mem_cons.mpr ⟨lw_p26, List.forall_mem_cons.mpr ⟨lw_p27, List.forall_mem_cons.mpr ⟨lw_p28, List.forall_mem_cons.mpr ⟨lw_p29, List.forall_mem_cons.mpr ⟨lw_p30, List.forall_mem_cons.mpr ⟨lw_p31, fun _ h => absurd h List.not_mem_nil⟩⟩⟩⟩⟩⟩⟩⟩⟩⟩⟩⟩⟩⟩⟩⟩
theorem lw_p32 : lw_okq (⟨"RasterboxModel", "addressOf", "(II)I"⟩, 40) := ⟨⟨by decide +kernel, by decide +kernel⟩, List.mem_of_getElem? (i := 1599) (by decide +kernel), List.mem_of_getElem? (i := 1909) (by decide +kernel), List.mem_of_getElem? (i := 1910) (by decide +kernel)⟩
theorem lw_p33 : lw_okq (⟨"RasterboxModel", "isTaken", "(I)Z"⟩, 40) := ⟨⟨by decide +kernel, by decide +kernel⟩, List.mem_of_getElem? (i := 1599) (by decide +kernel), List.mem_of_getElem? (i := 1916) (by decide +kernel), List.mem_of_getElem? (i := 1917) (by decide +kernel)⟩
theorem lw_p34 : lw_okq (⟨"RasterboxModel", "targetOf", "(I)I"⟩, 40) := ⟨⟨by decide +kernel, by decide +kernel⟩, List.mem_of_getElem? (i := 1599) (by decide +kernel), List.mem_of_getElem? (i := 1920) (by decide +kernel), List.mem_of_getElem? (i := 1921) (by decide +kernel)⟩
theorem lw_p35 : lw_okq (⟨"RasterboxModel", "interrupts", "(III)V"⟩, 40) := ⟨⟨by decide +kernel, by decide +kernel⟩, List.mem_of_getElem? (i := 1599) (by decide +kernel), List.mem_of_getElem? (i := 1924) (by decide +kernel), List.mem_of_getElem? (i := 1925) (by decide +kernel)⟩
theorem lw_p36 : lw_okq (⟨"RasterboxModel", "pushes", "(I)V"⟩, 40) := ⟨⟨by decide +kernel, by decide +kernel⟩, List.mem_of_getElem? (i := 1599) (by decide +kernel), List.mem_of_getElem? (i := 1928) (by decide +kernel), List.mem_of_getElem? (i := 1929) (by decide +kernel)⟩
theorem lw_p37 : lw_okq (⟨"RasterboxModel", "statusWith", "(I)I"⟩, 40) := ⟨⟨by decide +kernel, by decide +kernel⟩, List.mem_of_getElem? (i := 1599) (by decide +kernel), List.mem_of_getElem? (i := 1932) (by decide +kernel), List.mem_of_getElem? (i := 1933) (by decide +kernel)⟩
theorem lw_p38 : lw_okq (⟨"RasterboxModel", "bit", "(II)I"⟩, 40) := ⟨⟨by decide +kernel, by decide +kernel⟩, List.mem_of_getElem? (i := 1599) (by decide +kernel), List.mem_of_getElem? (i := 1936) (by decide +kernel), List.mem_of_getElem? (i := 1937) (by decide +kernel)⟩
theorem lw_p39 : lw_okq (⟨"RasterboxModel", "does", "(I)V"⟩, 40) := ⟨⟨by decide +kernel, by decide +kernel⟩, List.mem_of_getElem? (i := 1599) (by decide +kernel), List.mem_of_getElem? (i := 1940) (by decide +kernel), List.mem_of_getElem? (i := 1941) (by decide +kernel)⟩
theorem lw_p40 : lw_okq (⟨"RasterboxModel", "doesMode", "(III)V"⟩, 40) := ⟨⟨by decide +kernel, by decide +kernel⟩, List.mem_of_getElem? (i := 1599) (by decide +kernel), List.mem_of_getElem? (i := 1947) (by decide +kernel), List.mem_of_getElem? (i := 1948) (by decide +kernel)⟩
theorem lw_p41 : lw_okq (⟨"RasterboxModel", "changes", "(II)V"⟩, 40) := ⟨⟨by decide +kernel, by decide +kernel⟩, List.mem_of_getElem? (i := 1599) (by decide +kernel), List.mem_of_getElem? (i := 1951) (by decide +kernel), List.mem_of_getElem? (i := 1952) (by decide +kernel)⟩
theorem lw_p42 : lw_okq (⟨"RasterboxModel", "takes", "(I)I"⟩, 40) := ⟨⟨by decide +kernel, by decide +kernel⟩, List.mem_of_getElem? (i := 1599) (by decide +kernel), List.mem_of_getElem? (i := 1955) (by decide +kernel), List.mem_of_getElem? (i := 1956) (by decide +kernel)⟩
theorem lw_p43 : lw_okq (⟨"RasterboxModel", "compares", "(II)V"⟩, 40) := ⟨⟨by decide +kernel, by decide +kernel⟩, List.mem_of_getElem? (i := 1599) (by decide +kernel), List.mem_of_getElem? (i := 1959) (by decide +kernel), List.mem_of_getElem? (i := 1960) (by decide +kernel)⟩
theorem lw_p44 : lw_okq (⟨"RasterboxModel", "sets", "(I)I"⟩, 40) := ⟨⟨by decide +kernel, by decide +kernel⟩, List.mem_of_getElem? (i := 1599) (by decide +kernel), List.mem_of_getElem? (i := 1963) (by decide +kernel), List.mem_of_getElem? (i := 1964) (by decide +kernel)⟩
theorem lw_p45 : lw_okq (⟨"RasterboxModel", "calculates", "(ZI)V"⟩, 40) := ⟨⟨by decide +kernel, by decide +kernel⟩, List.mem_of_getElem? (i := 1599) (by decide +kernel), List.mem_of_getElem? (i := 1967) (by decide +kernel), List.mem_of_getElem? (i := 1968) (by decide +kernel)⟩
theorem lw_p46 : lw_okq (⟨"RasterboxModel", "adds", "(I)V"⟩, 40) := ⟨⟨by decide +kernel, by decide +kernel⟩, List.mem_of_getElem? (i := 1599) (by decide +kernel), List.mem_of_getElem? (i := 1971) (by decide +kernel), List.mem_of_getElem? (i := 1972) (by decide +kernel)⟩
theorem lw_p47 : lw_okq (⟨"RasterboxModel", "addsDecimal", "(III)V"⟩, 40) := ⟨⟨by decide +kernel, by decide +kernel⟩, List.mem_of_getElem? (i := 1599) (by decide +kernel), List.mem_of_getElem? (i := 1975) (by decide +kernel), List.mem_of_getElem? (i := 1976) (by decide +kernel)⟩
def lw_privs_3 : List (MethodName × Nat) := [(⟨"RasterboxModel", "addressOf", "(II)I"⟩, 40), (⟨"RasterboxModel", "isTaken", "(I)Z"⟩, 40), (⟨"RasterboxModel", "targetOf", "(I)I"⟩, 40), (⟨"RasterboxModel", "interrupts", "(III)V"⟩, 40), (⟨"RasterboxModel", "pushes", "(I)V"⟩, 40), (⟨"RasterboxModel", "statusWith", "(I)I"⟩, 40), (⟨"RasterboxModel", "bit", "(II)I"⟩, 40), (⟨"RasterboxModel", "does", "(I)V"⟩, 40), (⟨"RasterboxModel", "doesMode", "(III)V"⟩, 40), (⟨"RasterboxModel", "changes", "(II)V"⟩, 40), (⟨"RasterboxModel", "takes", "(I)I"⟩, 40), (⟨"RasterboxModel", "compares", "(II)V"⟩, 40), (⟨"RasterboxModel", "sets", "(I)I"⟩, 40), (⟨"RasterboxModel", "calculates", "(ZI)V"⟩, 40), (⟨"RasterboxModel", "adds", "(I)V"⟩, 40), (⟨"RasterboxModel", "addsDecimal", "(III)V"⟩, 40)]
theorem lw_r3 : ∀ q ∈ lw_privs_3, lw_okq q := List.forall_mem_cons.mpr ⟨lw_p32, List.forall_mem_cons.mpr ⟨lw_p33, List.forall_mem_cons.mpr ⟨lw_p34, List.forall_mem_cons.mpr ⟨lw_p35, List.forall_mem_cons.mpr ⟨lw_p36, List.forall_mem_cons.mpr ⟨lw_p37, List.forall_mem_cons.mpr ⟨lw_p38, List.forall_mem_cons.mpr ⟨lw_p39, List.forall_mem_cons.mpr ⟨lw_p40, List.forall_mem_cons.mpr ⟨lw_p41, List.forall_mem_cons.mpr ⟨lw_p42, List.forall_mem_cons.mpr ⟨lw_p43, List.forall_mem_cons.mpr ⟨lw_p44, List.forall_mem_cons.mpr ⟨lw_p45, List.forall_mem_cons.mpr ⟨lw_p46, List.forall_mem_cons.mpr ⟨lw_p47, fun _ h => absurd h List.not_mem_nil⟩⟩⟩⟩⟩⟩⟩⟩⟩⟩⟩⟩⟩⟩⟩⟩
theorem lw_p48 : lw_okq (⟨"RasterboxModel", "takesDecimal", "(III)V"⟩, 40) := ⟨⟨by decide +kernel, by decide +kernel⟩, List.mem_of_getElem? (i := 1599) (by decide +kernel), List.mem_of_getElem? (i := 1979) (by decide +kernel), List.mem_of_getElem? (i := 1980) (by decide +kernel)⟩
theorem lw_p49 : lw_okq (⟨"RasterboxModel", "operates", "(II)V"⟩, 40) := ⟨⟨by decide +kernel, by decide +kernel⟩, List.mem_of_getElem? (i := 1599) (by decide +kernel), List.mem_of_getElem? (i := 1983) (by decide +kernel), List.mem_of_getElem? (i := 1984) (by decide +kernel)⟩
theorem lw_p50 : lw_okq (⟨"RasterboxModel", "becomes", "(II)V"⟩, 40) := ⟨⟨by decide +kernel, by decide +kernel⟩, List.mem_of_getElem? (i := 1599) (by decide +kernel), List.mem_of_getElem? (i := 1987) (by decide +kernel), List.mem_of_getElem? (i := 1988) (by decide +kernel)⟩
theorem lw_p51 : lw_okq (⟨"RasterboxModel", "pulls", "()I"⟩, 40) := ⟨⟨by decide +kernel, by decide +kernel⟩, List.mem_of_getElem? (i := 1599) (by decide +kernel), List.mem_of_getElem? (i := 1991) (by decide +kernel), List.mem_of_getElem? (i := 1992) (by decide +kernel)⟩
theorem lw_p52 : lw_okq (⟨"RasterboxModel", "becomesStatus", "(I)V"⟩, 40) := ⟨⟨by decide +kernel, by decide +kernel⟩, List.mem_of_getElem? (i := 1599) (by decide +kernel), List.mem_of_getElem? (i := 1995) (by decide +kernel), List.mem_of_getElem? (i := 1996) (by decide +kernel)⟩
theorem lw_p53 : lw_okq (⟨"RasterboxModel", "pulledAddress", "(I)I"⟩, 40) := ⟨⟨by decide +kernel, by decide +kernel⟩, List.mem_of_getElem? (i := 1599) (by decide +kernel), List.mem_of_getElem? (i := 1999) (by decide +kernel), List.mem_of_getElem? (i := 2000) (by decide +kernel)⟩
theorem lw_p54 : lw_okq (⟨"RasterboxModel", "jumps", "(II)V"⟩, 40) := ⟨⟨by decide +kernel, by decide +kernel⟩, List.mem_of_getElem? (i := 1599) (by decide +kernel), List.mem_of_getElem? (i := 2003) (by decide +kernel), List.mem_of_getElem? (i := 2004) (by decide +kernel)⟩
theorem lw_p55 : lw_okq (⟨"RasterboxModel", "doesOther", "(II)V"⟩, 40) := ⟨⟨by decide +kernel, by decide +kernel⟩, List.mem_of_getElem? (i := 1599) (by decide +kernel), List.mem_of_getElem? (i := 2007) (by decide +kernel), List.mem_of_getElem? (i := 2008) (by decide +kernel)⟩
theorem lw_p56 : lw_okq (⟨"RasterboxModel", "shifts", "(I)V"⟩, 40) := ⟨⟨by decide +kernel, by decide +kernel⟩, List.mem_of_getElem? (i := 1599) (by decide +kernel), List.mem_of_getElem? (i := 2011) (by decide +kernel), List.mem_of_getElem? (i := 2012) (by decide +kernel)⟩
theorem lw_p57 : lw_okq (⟨"RasterboxModel", "tells", "(I)I"⟩, 40) := ⟨⟨by decide +kernel, by decide +kernel⟩, List.mem_of_getElem? (i := 1599) (by decide +kernel), List.mem_of_getElem? (i := 2031) (by decide +kernel), List.mem_of_getElem? (i := 2032) (by decide +kernel)⟩
theorem lw_p58 : lw_okq (⟨"RasterboxModel", "putsNumber", "(I)V"⟩, 40) := ⟨⟨by decide +kernel, by decide +kernel⟩, List.mem_of_getElem? (i := 1599) (by decide +kernel), List.mem_of_getElem? (i := 2055) (by decide +kernel), List.mem_of_getElem? (i := 2056) (by decide +kernel)⟩
theorem lw_p59 : lw_okq (⟨"RasterboxModel", "puts", "(C)V"⟩, 40) := ⟨⟨by decide +kernel, by decide +kernel⟩, List.mem_of_getElem? (i := 1599) (by decide +kernel), List.mem_of_getElem? (i := 2059) (by decide +kernel), List.mem_of_getElem? (i := 2060) (by decide +kernel)⟩
theorem lw_p60 : lw_okq (⟨"RasterboxModel", "putsName", "(I)V"⟩, 40) := ⟨⟨by decide +kernel, by decide +kernel⟩, List.mem_of_getElem? (i := 1599) (by decide +kernel), List.mem_of_getElem? (i := 2066) (by decide +kernel), List.mem_of_getElem? (i := 2067) (by decide +kernel)⟩
theorem lw_p61 : lw_okq (⟨"RasterboxModel", "putsMode", "(II)V"⟩, 40) := ⟨⟨by decide +kernel, by decide +kernel⟩, List.mem_of_getElem? (i := 1599) (by decide +kernel), List.mem_of_getElem? (i := 2074) (by decide +kernel), List.mem_of_getElem? (i := 2075) (by decide +kernel)⟩
theorem lw_p62 : lw_okq (⟨"RasterboxModel", "putsOther", "(II)V"⟩, 40) := ⟨⟨by decide +kernel, by decide +kernel⟩, List.mem_of_getElem? (i := 1599) (by decide +kernel), List.mem_of_getElem? (i := 2078) (by decide +kernel), List.mem_of_getElem? (i := 2079) (by decide +kernel)⟩
theorem lw_p63 : lw_okq (⟨"RasterboxModel", "pixelAt", "(II)I"⟩, 40) := ⟨⟨by decide +kernel, by decide +kernel⟩, List.mem_of_getElem? (i := 1599) (by decide +kernel), List.mem_of_getElem? (i := 2110) (by decide +kernel), List.mem_of_getElem? (i := 2111) (by decide +kernel)⟩
def lw_privs_4 : List (MethodName × Nat) := [(⟨"RasterboxModel", "takesDecimal", "(III)V"⟩, 40), (⟨"RasterboxModel", "operates", "(II)V"⟩, 40), (⟨"RasterboxModel", "becomes", "(II)V"⟩, 40), (⟨"RasterboxModel", "pulls", "()I"⟩, 40), (⟨"RasterboxModel", "becomesStatus", "(I)V"⟩, 40), (⟨"RasterboxModel", "pulledAddress", "(I)I"⟩, 40), (⟨"RasterboxModel", "jumps", "(II)V"⟩, 40), (⟨"RasterboxModel", "doesOther", "(II)V"⟩, 40), (⟨"RasterboxModel", "shifts", "(I)V"⟩, 40), (⟨"RasterboxModel", "tells", "(I)I"⟩, 40), (⟨"RasterboxModel", "putsNumber", "(I)V"⟩, 40), (⟨"RasterboxModel", "puts", "(C)V"⟩, 40), (⟨"RasterboxModel", "putsName", "(I)V"⟩, 40), (⟨"RasterboxModel", "putsMode", "(II)V"⟩, 40), (⟨"RasterboxModel", "putsOther", "(II)V"⟩, 40), (⟨"RasterboxModel", "pixelAt", "(II)I"⟩, 40)]
theorem lw_r4 : ∀ q ∈ lw_privs_4, lw_okq q := List.forall_mem_cons.mpr ⟨lw_p48, List.forall_mem_cons.mpr ⟨lw_p49, List.forall_mem_cons.mpr ⟨lw_p50, List.forall_mem_cons.mpr ⟨lw_p51, List.forall_mem_cons.mpr ⟨lw_p52, List.forall_mem_cons.mpr ⟨lw_p53, List.forall_mem_cons.mpr ⟨lw_p54, List.forall_mem_cons.mpr ⟨lw_p55, List.forall_mem_cons.mpr ⟨lw_p56, List.forall_mem_cons.mpr ⟨lw_p57, List.forall_mem_cons.mpr ⟨lw_p58, List.forall_mem_cons.mpr ⟨lw_p59, List.forall_mem_cons.mpr ⟨lw_p60, List.forall_mem_cons.mpr ⟨lw_p61, List.forall_mem_cons.mpr ⟨lw_p62, List.forall_mem_cons.mpr ⟨lw_p63, fun _ h => absurd h List.not_mem_nil⟩⟩⟩⟩⟩⟩⟩⟩⟩⟩⟩⟩⟩⟩⟩⟩
theorem lw_p64 : lw_okq (⟨"RasterboxModel", "unlike", "(I)I"⟩, 40) := ⟨⟨by decide +kernel, by decide +kernel⟩, List.mem_of_getElem? (i := 1599) (by decide +kernel), List.mem_of_getElem? (i := 2164) (by decide +kernel), List.mem_of_getElem? (i := 2165) (by decide +kernel)⟩
def lw_privs_5 : List (MethodName × Nat) := [(⟨"RasterboxModel", "unlike", "(I)I"⟩, 40)]
theorem lw_r5 : ∀ q ∈ lw_privs_5, lw_okq q := List.forall_mem_cons.mpr ⟨lw_p64, fun _ h => absurd h List.not_mem_nil⟩
def lw_privs : List (MethodName × Nat) := lw_privs_1 ++ (lw_privs_2 ++ (lw_privs_3 ++ (lw_privs_4 ++ (lw_privs_5))))
def lw_tbl : List Cond := k2_sels lw_privs ++ tables_1
theorem lw_privs_ok : ∀ q ∈ lw_privs, lw_okq q := by
  show ∀ q ∈ lw_privs_1 ++ (lw_privs_2 ++ (lw_privs_3 ++ (lw_privs_4 ++ (lw_privs_5)))), lw_okq q
  exact List.forall_mem_append.mpr ⟨lw_r1, List.forall_mem_append.mpr ⟨lw_r2, List.forall_mem_append.mpr ⟨lw_r3, List.forall_mem_append.mpr ⟨lw_r4, lw_r5⟩⟩⟩⟩
/-- the streams that the claim lets the run draw from -/
abbrev lw_cs : List Choice := [Jvm.Choice.named "NaN.bits"]
theorem lw_bits : nanBits ∈ lw_cs := by first | decide | exact List.mem_cons_self | simp [lw_cs, nanBits]
def RX0 : String := "Rasterbox$Board"
def TX0 : u_T := fun k => match k with
  | 0 => ("Rasterbox$Board", "scene", "LRasterbox$Scene;", true)
  | 1 => ("Rasterbox$Board", "rom", "[I", true)
  | 2 => ("Rasterbox$Board", "cartridge", "[I", true)
  | 3 => ("Rasterbox$Board", "counts", "[I", true)
  | 4 => ("Rasterbox$Board", "tape", "LRasterbox$Tape;", true)
  | 5 => ("Rasterbox$Board", "keys", "LRasterbox$Keys;", true)
  | 6 => ("Rasterbox$Board", "even", "LRasterbox$Frame;", true)
  | 7 => ("Rasterbox$Board", "odd", "LRasterbox$Frame;", true)
  | _ => ("Rasterbox$Board", "cycle", "J", false)
def tyX0 : Nat → FieldType := fun k => match k with
  | 0 => .object "Rasterbox$Scene"
  | 1 => .array .int
  | 2 => .array .int
  | 3 => .array .int
  | 4 => .object "Rasterbox$Tape"
  | 5 => .object "Rasterbox$Keys"
  | 6 => .object "Rasterbox$Frame"
  | 7 => .object "Rasterbox$Frame"
  | _ => .long
abbrev wsX00 : List Cond := u_ws RX0 TX0 9
theorem nmX0 : ∀ a, a < 9 → ∀ b, b < 9 → a ≠ b → (TX0 a).2.1 ≠ (TX0 b).2.1 := by decide +kernel
theorem tyX0_ok : ∀ k, k < 9 → parseFieldDescriptor (TX0 k).2.2.1 = some (tyX0 k) := by decide +kernel
abbrev cX0_init : ByteArray := prog_2_method_1_code
def yX0_init : MethodName := ⟨RX0, "<init>", "()V"⟩
abbrev cX0_become : ByteArray := prog_2_method_2_code
def yX0_become : MethodName := ⟨RX0, "become", "(LRasterbox$Board;)V"⟩
abbrev cX0_position : ByteArray := prog_2_method_3_code
def yX0_position : MethodName := ⟨RX0, "position", "()I"⟩
abbrev cX0_column : ByteArray := prog_2_method_4_code
def yX0_column : MethodName := ⟨RX0, "column", "()I"⟩
abbrev cX0_present : ByteArray := prog_2_method_5_code
def yX0_present : MethodName := ⟨RX0, "present", "()LRasterbox$Frame;"⟩
abbrev cX0_last : ByteArray := prog_2_method_6_code
def yX0_last : MethodName := ⟨RX0, "last", "()LRasterbox$Frame;"⟩
abbrev cX0_read : ByteArray := prog_2_method_7_code
def yX0_read : MethodName := ⟨RX0, "read", "(I)I"⟩
abbrev cX0_readRegister : ByteArray := prog_2_method_8_code
def yX0_readRegister : MethodName := ⟨RX0, "readRegister", "(II)I"⟩
abbrev cX0_readWord : ByteArray := prog_2_method_9_code
def yX0_readWord : MethodName := ⟨RX0, "readWord", "(I)I"⟩
abbrev cX0_load : ByteArray := prog_2_method_10_code
def yX0_load : MethodName := ⟨RX0, "load", "(I)I"⟩
abbrev cX0_write : ByteArray := prog_2_method_11_code
def yX0_write : MethodName := ⟨RX0, "write", "(II)V"⟩
abbrev cX0_startTimers : ByteArray := prog_2_method_12_code
def yX0_startTimers : MethodName := ⟨RX0, "startTimers", "(I)V"⟩
abbrev cX0_clearRegisters : ByteArray := prog_2_method_13_code
def yX0_clearRegisters : MethodName := ⟨RX0, "clearRegisters", "()V"⟩
abbrev cX0_exchange : ByteArray := prog_2_method_14_code
def yX0_exchange : MethodName := ⟨RX0, "exchange", "(II)I"⟩
abbrev cX0_exchangeRom : ByteArray := prog_2_method_15_code
def yX0_exchangeRom : MethodName := ⟨RX0, "exchangeRom", "(II)I"⟩
abbrev cX0_exchangeCartridge : ByteArray := prog_2_method_16_code
def yX0_exchangeCartridge : MethodName := ⟨RX0, "exchangeCartridge", "(II)I"⟩
abbrev cX0_writeInstruction : ByteArray := prog_2_method_17_code
def yX0_writeInstruction : MethodName := ⟨RX0, "writeInstruction", "(III)I"⟩
abbrev cX0_meetLine : ByteArray := prog_2_method_18_code
def yX0_meetLine : MethodName := ⟨RX0, "meetLine", "()V"⟩
abbrev cX0_isPictureNext : ByteArray := prog_2_method_19_code
def yX0_isPictureNext : MethodName := ⟨RX0, "isPictureNext", "()Z"⟩
abbrev cX0_draw : ByteArray := prog_2_method_20_code
def yX0_draw : MethodName := ⟨RX0, "draw", "([I)V"⟩
abbrev cX0_countTimers : ByteArray := prog_2_method_21_code
def yX0_countTimers : MethodName := ⟨RX0, "countTimers", "()V"⟩
abbrev cX0_countDown : ByteArray := prog_2_method_22_code
def yX0_countDown : MethodName := ⟨RX0, "countDown", "(I)Z"⟩
abbrev cX0_moveTape : ByteArray := prog_2_method_23_code
def yX0_moveTape : MethodName := ⟨RX0, "moveTape", "()V"⟩
abbrev cX0_endCycle : ByteArray := prog_2_method_24_code
def yX0_endCycle : MethodName := ⟨RX0, "endCycle", "()V"⟩
abbrev cX0_drawnAgain : ByteArray := prog_2_method_25_code
def yX0_drawnAgain : MethodName := ⟨RX0, "drawnAgain", "(IILRasterbox$Scene;)I"⟩
def RX1 : String := "Rasterbox$Codes"
def TX1 : u_T := fun k => match k with
  | _ => ("", "", "", false)
def tyX1 : Nat → FieldType := fun k => match k with
  | _ => .int
abbrev wsX10 : List Cond := u_ws RX1 TX1 0
theorem nmX1 : ∀ a, a < 0 → ∀ b, b < 0 → a ≠ b → (TX1 a).2.1 ≠ (TX1 b).2.1 := by decide +kernel
theorem tyX1_ok : ∀ k, k < 0 → parseFieldDescriptor (TX1 k).2.2.1 = some (tyX1 k) := by decide +kernel
abbrev cX1_operationOf : ByteArray := prog_3_method_2_code
def yX1_operationOf : MethodName := ⟨RX1, "operationOf", "(I)I"⟩
abbrev cX1_isBranch : ByteArray := prog_3_method_3_code
def yX1_isBranch : MethodName := ⟨RX1, "isBranch", "(I)Z"⟩
abbrev cX1_isWriting : ByteArray := prog_3_method_4_code
def yX1_isWriting : MethodName := ⟨RX1, "isWriting", "(I)Z"⟩
abbrev cX1_isChanging : ByteArray := prog_3_method_5_code
def yX1_isChanging : MethodName := ⟨RX1, "isChanging", "(I)Z"⟩
abbrev cX1_lengthOf : ByteArray := prog_3_method_6_code
def yX1_lengthOf : MethodName := ⟨RX1, "lengthOf", "(I)I"⟩
abbrev cX1_cyclesOfMode : ByteArray := prog_3_method_7_code
def yX1_cyclesOfMode : MethodName := ⟨RX1, "cyclesOfMode", "(I)I"⟩
abbrev cX1_cyclesOf : ByteArray := prog_3_method_8_code
def yX1_cyclesOf : MethodName := ⟨RX1, "cyclesOf", "(I)I"⟩
abbrev cX1_targetOf : ByteArray := prog_3_method_9_code
def yX1_targetOf : MethodName := ⟨RX1, "targetOf", "(II)I"⟩
abbrev cX1_appendName : ByteArray := prog_3_method_10_code
def yX1_appendName : MethodName := ⟨RX1, "appendName", "(Ljava/lang/StringBuilder;I)V"⟩
def RX2 : String := "Rasterbox$Frame"
def TX2 : u_T := fun k => match k with
  | 0 => ("Rasterbox$Frame", "start", "LRasterbox$Scene;", true)
  | 1 => ("Rasterbox$Frame", "writes", "[I", true)
  | 2 => ("Rasterbox$Frame", "count", "I", false)
  | _ => ("Rasterbox$Frame", "time", "I", false)
def tyX2 : Nat → FieldType := fun k => match k with
  | 0 => .object "Rasterbox$Scene"
  | 1 => .array .int
  | 2 => .int
  | _ => .int
abbrev wsX20 : List Cond := u_ws RX2 TX2 4
theorem nmX2 : ∀ a, a < 4 → ∀ b, b < 4 → a ≠ b → (TX2 a).2.1 ≠ (TX2 b).2.1 := by decide +kernel
theorem tyX2_ok : ∀ k, k < 4 → parseFieldDescriptor (TX2 k).2.2.1 = some (tyX2 k) := by decide +kernel
abbrev cX2_init : ByteArray := prog_4_method_1_code
def yX2_init : MethodName := ⟨RX2, "<init>", "()V"⟩
abbrev cX2_become : ByteArray := prog_4_method_2_code
def yX2_become : MethodName := ⟨RX2, "become", "(LRasterbox$Frame;)V"⟩
abbrev cX2_begin : ByteArray := prog_4_method_3_code
def yX2_begin : MethodName := ⟨RX2, "begin", "(LRasterbox$Scene;)V"⟩
abbrev cX2_keep : ByteArray := prog_4_method_4_code
def yX2_keep : MethodName := ⟨RX2, "keep", "(II)V"⟩
abbrev cX2_replay : ByteArray := prog_4_method_5_code
def yX2_replay : MethodName := ⟨RX2, "replay", "(ILRasterbox$Scene;)V"⟩
def RX3 : String := "Rasterbox$Keys"
def TX3 : u_T := fun k => match k with
  | 0 => ("Rasterbox$Keys", "pressed", "[I", true)
  | 1 => ("Rasterbox$Keys", "seen", "[I", true)
  | _ => ("Rasterbox$Keys", "stick", "I", false)
def tyX3 : Nat → FieldType := fun k => match k with
  | 0 => .array .int
  | 1 => .array .int
  | _ => .int
abbrev wsX30 : List Cond := u_ws RX3 TX3 3
theorem nmX3 : ∀ a, a < 3 → ∀ b, b < 3 → a ≠ b → (TX3 a).2.1 ≠ (TX3 b).2.1 := by decide +kernel
theorem tyX3_ok : ∀ k, k < 3 → parseFieldDescriptor (TX3 k).2.2.1 = some (tyX3 k) := by decide +kernel
abbrev cX3_init : ByteArray := prog_5_method_1_code
def yX3_init : MethodName := ⟨RX3, "<init>", "()V"⟩
abbrev cX3_become : ByteArray := prog_5_method_2_code
def yX3_become : MethodName := ⟨RX3, "become", "(LRasterbox$Keys;)V"⟩
abbrev cX3_exchangeJoystick : ByteArray := prog_5_method_3_code
def yX3_exchangeJoystick : MethodName := ⟨RX3, "exchangeJoystick", "(I)I"⟩
abbrev cX3_press : ByteArray := prog_5_method_4_code
def yX3_press : MethodName := ⟨RX3, "press", "(III)I"⟩
abbrev cX3_columnsSeen : ByteArray := prog_5_method_5_code
def yX3_columnsSeen : MethodName := ⟨RX3, "columnsSeen", "(I)I"⟩
def RX4 : String := "Rasterbox$Machine"
def TX4 : u_T := fun k => match k with
  | 0 => ("Rasterbox$Machine", "board", "LRasterbox$Board;", true)
  | 1 => ("Rasterbox$Machine", "processor", "LRasterbox$Processor;", true)
  | 2 => ("Rasterbox$Machine", "voices", "LRasterbox$Voices;", true)
  | 3 => ("Rasterbox$Machine", "pixels", "[I", true)
  | _ => ("Rasterbox$Machine", "ofPicture", "J", false)
def tyX4 : Nat → FieldType := fun k => match k with
  | 0 => .object "Rasterbox$Board"
  | 1 => .object "Rasterbox$Processor"
  | 2 => .object "Rasterbox$Voices"
  | 3 => .array .int
  | _ => .long
abbrev wsX40 : List Cond := u_ws RX4 TX4 5
theorem nmX4 : ∀ a, a < 5 → ∀ b, b < 5 → a ≠ b → (TX4 a).2.1 ≠ (TX4 b).2.1 := by decide +kernel
theorem tyX4_ok : ∀ k, k < 5 → parseFieldDescriptor (TX4 k).2.2.1 = some (tyX4 k) := by decide +kernel
abbrev cX4_init : ByteArray := prog_6_method_1_code
def yX4_init : MethodName := ⟨RX4, "<init>", "()V"⟩
abbrev cX4_become : ByteArray := prog_6_method_2_code
def yX4_become : MethodName := ⟨RX4, "become", "(LRasterbox$Machine;)V"⟩
abbrev cX4_isLike : ByteArray := prog_6_method_3_code
def yX4_isLike : MethodName := ⟨RX4, "isLike", "(LRasterbox$Machine;)Z"⟩
abbrev cX4_perform : ByteArray := prog_6_method_4_code
def yX4_perform : MethodName := ⟨RX4, "perform", "(IIII)I"⟩
abbrev cX4_startAnew : ByteArray := prog_6_method_5_code
def yX4_startAnew : MethodName := ⟨RX4, "startAnew", "()I"⟩
abbrev cX4_pressFreeze : ByteArray := prog_6_method_6_code
def yX4_pressFreeze : MethodName := ⟨RX4, "pressFreeze", "()I"⟩
abbrev cX4_letPass : ByteArray := prog_6_method_7_code
def yX4_letPass : MethodName := ⟨RX4, "letPass", "(IZ)I"⟩
abbrev cX4_passPicture : ByteArray := prog_6_method_8_code
def yX4_passPicture : MethodName := ⟨RX4, "passPicture", "()Z"⟩
def RX5 : String := "Rasterbox$Monitor"
def TX5 : u_T := fun k => match k with
  | _ => ("", "", "", false)
def tyX5 : Nat → FieldType := fun k => match k with
  | _ => .int
abbrev wsX50 : List Cond := u_ws RX5 TX5 0
theorem nmX5 : ∀ a, a < 0 → ∀ b, b < 0 → a ≠ b → (TX5 a).2.1 ≠ (TX5 b).2.1 := by decide +kernel
theorem tyX5_ok : ∀ k, k < 0 → parseFieldDescriptor (TX5 k).2.2.1 = some (tyX5 k) := by decide +kernel
abbrev cX5_describe : ByteArray := prog_7_method_2_code
def yX5_describe : MethodName := ⟨RX5, "describe", "(Ljava/lang/StringBuilder;LRasterbox$Board;I)V"⟩
abbrev cX5_layoutOf : ByteArray := prog_7_method_3_code
def yX5_layoutOf : MethodName := ⟨RX5, "layoutOf", "(I)I"⟩
abbrev cX5_appendOperand : ByteArray := prog_7_method_4_code
def yX5_appendOperand : MethodName := ⟨RX5, "appendOperand", "(Ljava/lang/StringBuilder;II)V"⟩
def RX6 : String := "Rasterbox$Processor"
def TX6 : u_T := fun k => match k with
  | 0 => ("Rasterbox$Processor", "a", "I", false)
  | 1 => ("Rasterbox$Processor", "x", "I", false)
  | 2 => ("Rasterbox$Processor", "y", "I", false)
  | 3 => ("Rasterbox$Processor", "s", "I", false)
  | 4 => ("Rasterbox$Processor", "p", "I", false)
  | 5 => ("Rasterbox$Processor", "flags", "I", false)
  | 6 => ("Rasterbox$Processor", "isFreezing", "Z", false)
  | 7 => ("Rasterbox$Processor", "isJammed", "Z", false)
  | 8 => ("Rasterbox$Processor", "vector", "I", false)
  | 9 => ("Rasterbox$Processor", "left", "I", false)
  | 10 => ("Rasterbox$Processor", "done", "I", false)
  | 11 => ("Rasterbox$Processor", "instructions", "I", false)
  | _ => ("Rasterbox$Processor", "trace", "[I", true)
def tyX6 : Nat → FieldType := fun k => match k with
  | 0 => .int
  | 1 => .int
  | 2 => .int
  | 3 => .int
  | 4 => .int
  | 5 => .int
  | 6 => .boolean
  | 7 => .boolean
  | 8 => .int
  | 9 => .int
  | 10 => .int
  | 11 => .int
  | _ => .array .int
abbrev wsX60 : List Cond := u_ws RX6 TX6 13
theorem nmX6 : ∀ a, a < 13 → ∀ b, b < 13 → a ≠ b → (TX6 a).2.1 ≠ (TX6 b).2.1 := by decide +kernel
theorem tyX6_ok : ∀ k, k < 13 → parseFieldDescriptor (TX6 k).2.2.1 = some (tyX6 k) := by decide +kernel
abbrev cX6_init : ByteArray := prog_8_method_1_code
def yX6_init : MethodName := ⟨RX6, "<init>", "()V"⟩
abbrev cX6_become : ByteArray := prog_8_method_2_code
def yX6_become : MethodName := ⟨RX6, "become", "(LRasterbox$Processor;)V"⟩
abbrev cX6_isLike : ByteArray := prog_8_method_3_code
def yX6_isLike : MethodName := ⟨RX6, "isLike", "(LRasterbox$Processor;)Z"⟩
abbrev cX6_registerOf : ByteArray := prog_8_method_4_code
def yX6_registerOf : MethodName := ⟨RX6, "registerOf", "(I)I"⟩
abbrev cX6_exchange : ByteArray := prog_8_method_5_code
def yX6_exchange : MethodName := ⟨RX6, "exchange", "(II)I"⟩
abbrev cX6_startAnew : ByteArray := prog_8_method_6_code
def yX6_startAnew : MethodName := ⟨RX6, "startAnew", "(LRasterbox$Board;)V"⟩
abbrev cX6_begin : ByteArray := prog_8_method_7_code
def yX6_begin : MethodName := ⟨RX6, "begin", "(LRasterbox$Board;)V"⟩
abbrev cX6_cyclesAt : ByteArray := prog_8_method_8_code
def yX6_cyclesAt : MethodName := ⟨RX6, "cyclesAt", "(LRasterbox$Board;)I"⟩
abbrev cX6_cyclesOfBranch : ByteArray := prog_8_method_9_code
def yX6_cyclesOfBranch : MethodName := ⟨RX6, "cyclesOfBranch", "(II)I"⟩
abbrev cX6_targetOf : ByteArray := prog_8_method_10_code
def yX6_targetOf : MethodName := ⟨RX6, "targetOf", "(I)I"⟩
abbrev cX6_behind : ByteArray := prog_8_method_11_code
def yX6_behind : MethodName := ⟨RX6, "behind", "(I)I"⟩
abbrev cX6_isLastCycle : ByteArray := prog_8_method_12_code
def yX6_isLastCycle : MethodName := ⟨RX6, "isLastCycle", "()Z"⟩
abbrev cX6_finish : ByteArray := prog_8_method_13_code
def yX6_finish : MethodName := ⟨RX6, "finish", "(LRasterbox$Board;)V"⟩
abbrev cX6_indexOf : ByteArray := prog_8_method_14_code
def yX6_indexOf : MethodName := ⟨RX6, "indexOf", "(I)I"⟩
abbrev cX6_addressOf : ByteArray := prog_8_method_15_code
def yX6_addressOf : MethodName := ⟨RX6, "addressOf", "(LRasterbox$Board;I)I"⟩
abbrev cX6_baseOf : ByteArray := prog_8_method_16_code
def yX6_baseOf : MethodName := ⟨RX6, "baseOf", "(LRasterbox$Board;I)I"⟩
abbrev cX6_push : ByteArray := prog_8_method_17_code
def yX6_push : MethodName := ⟨RX6, "push", "(LRasterbox$Board;I)V"⟩
abbrev cX6_pull : ByteArray := prog_8_method_18_code
def yX6_pull : MethodName := ⟨RX6, "pull", "(LRasterbox$Board;)I"⟩
abbrev cX6_interrupt : ByteArray := prog_8_method_19_code
def yX6_interrupt : MethodName := ⟨RX6, "interrupt", "(LRasterbox$Board;III)V"⟩
abbrev cX6_setFlag : ByteArray := prog_8_method_20_code
def yX6_setFlag : MethodName := ⟨RX6, "setFlag", "(IZ)V"⟩
abbrev cX6_judge : ByteArray := prog_8_method_21_code
def yX6_judge : MethodName := ⟨RX6, "judge", "(I)I"⟩
abbrev cX6_match : ByteArray := prog_8_method_22_code
def yX6_match : MethodName := ⟨RX6, "match", "(II)V"⟩
abbrev cX6_calculate : ByteArray := prog_8_method_23_code
def yX6_calculate : MethodName := ⟨RX6, "calculate", "(II)V"⟩
abbrev cX6_store : ByteArray := prog_8_method_24_code
def yX6_store : MethodName := ⟨RX6, "store", "(LRasterbox$Board;II)V"⟩
abbrev cX6_add : ByteArray := prog_8_method_25_code
def yX6_add : MethodName := ⟨RX6, "add", "(I)V"⟩
abbrev cX6_subtract : ByteArray := prog_8_method_26_code
def yX6_subtract : MethodName := ⟨RX6, "subtract", "(I)V"⟩
abbrev cX6_addBinary : ByteArray := prog_8_method_27_code
def yX6_addBinary : MethodName := ⟨RX6, "addBinary", "(I)V"⟩
abbrev cX6_doPlain : ByteArray := prog_8_method_28_code
def yX6_doPlain : MethodName := ⟨RX6, "doPlain", "(LRasterbox$Board;I)V"⟩
abbrev cX6_jump : ByteArray := prog_8_method_29_code
def yX6_jump : MethodName := ⟨RX6, "jump", "(LRasterbox$Board;II)I"⟩
abbrev cX6_wordInPage : ByteArray := prog_8_method_30_code
def yX6_wordInPage : MethodName := ⟨RX6, "wordInPage", "(LRasterbox$Board;I)I"⟩
abbrev cX6_pullWord : ByteArray := prog_8_method_31_code
def yX6_pullWord : MethodName := ⟨RX6, "pullWord", "(LRasterbox$Board;)I"⟩
abbrev cX6_isTaken : ByteArray := prog_8_method_32_code
def yX6_isTaken : MethodName := ⟨RX6, "isTaken", "(I)Z"⟩
abbrev cX6_move : ByteArray := prog_8_method_33_code
def yX6_move : MethodName := ⟨RX6, "move", "(I)V"⟩
abbrev cX6_changeFlag : ByteArray := prog_8_method_34_code
def yX6_changeFlag : MethodName := ⟨RX6, "changeFlag", "(I)V"⟩
abbrev cX6_shift : ByteArray := prog_8_method_35_code
def yX6_shift : MethodName := ⟨RX6, "shift", "(I)V"⟩
def RX7 : String := "Rasterbox$Recording"
def TX7 : u_T := fun k => match k with
  | 0 => ("Rasterbox$Recording", "machine", "LRasterbox$Machine;", true)
  | 1 => ("Rasterbox$Recording", "kinds", "[I", true)
  | 2 => ("Rasterbox$Recording", "firsts", "[I", true)
  | 3 => ("Rasterbox$Recording", "seconds", "[I", true)
  | 4 => ("Rasterbox$Recording", "thirds", "[I", true)
  | 5 => ("Rasterbox$Recording", "count", "I", false)
  | 6 => ("Rasterbox$Recording", "played", "I", false)
  | _ => ("Rasterbox$Recording", "isOn", "Z", false)
def tyX7 : Nat → FieldType := fun k => match k with
  | 0 => .object "Rasterbox$Machine"
  | 1 => .array .int
  | 2 => .array .int
  | 3 => .array .int
  | 4 => .array .int
  | 5 => .int
  | 6 => .int
  | _ => .boolean
abbrev wsX70 : List Cond := u_ws RX7 TX7 8
theorem nmX7 : ∀ a, a < 8 → ∀ b, b < 8 → a ≠ b → (TX7 a).2.1 ≠ (TX7 b).2.1 := by decide +kernel
theorem tyX7_ok : ∀ k, k < 8 → parseFieldDescriptor (TX7 k).2.2.1 = some (tyX7 k) := by decide +kernel
abbrev cX7_init : ByteArray := prog_9_method_1_code
def yX7_init : MethodName := ⟨RX7, "<init>", "()V"⟩
abbrev cX7_begin : ByteArray := prog_9_method_2_code
def yX7_begin : MethodName := ⟨RX7, "begin", "(LRasterbox$Machine;)V"⟩
abbrev cX7_keep : ByteArray := prog_9_method_3_code
def yX7_keep : MethodName := ⟨RX7, "keep", "(IIII)V"⟩
def RX8 : String := "Rasterbox$Scene"
def TX8 : u_T := fun k => match k with
  | 0 => ("Rasterbox$Scene", "ram", "[I", true)
  | _ => ("Rasterbox$Scene", "registers", "[I", true)
def tyX8 : Nat → FieldType := fun k => match k with
  | 0 => .array .int
  | _ => .array .int
abbrev wsX80 : List Cond := u_ws RX8 TX8 2
theorem nmX8 : ∀ a, a < 2 → ∀ b, b < 2 → a ≠ b → (TX8 a).2.1 ≠ (TX8 b).2.1 := by decide +kernel
theorem tyX8_ok : ∀ k, k < 2 → parseFieldDescriptor (TX8 k).2.2.1 = some (tyX8 k) := by decide +kernel
abbrev cX8_init : ByteArray := prog_10_method_1_code
def yX8_init : MethodName := ⟨RX8, "<init>", "()V"⟩
abbrev cX8_become : ByteArray := prog_10_method_2_code
def yX8_become : MethodName := ⟨RX8, "become", "(LRasterbox$Scene;)V"⟩
abbrev cX8_bytesUnlike : ByteArray := prog_10_method_3_code
def yX8_bytesUnlike : MethodName := ⟨RX8, "bytesUnlike", "(LRasterbox$Scene;)I"⟩
abbrev cX8_put : ByteArray := prog_10_method_4_code
def yX8_put : MethodName := ⟨RX8, "put", "(II)V"⟩
abbrev cX8_clearRegisters : ByteArray := prog_10_method_5_code
def yX8_clearRegisters : MethodName := ⟨RX8, "clearRegisters", "()V"⟩
abbrev cX8_scrollLeft : ByteArray := prog_10_method_6_code
def yX8_scrollLeft : MethodName := ⟨RX8, "scrollLeft", "()I"⟩
abbrev cX8_scrollUp : ByteArray := prog_10_method_7_code
def yX8_scrollUp : MethodName := ⟨RX8, "scrollUp", "()I"⟩
abbrev cX8_takesCycle : ByteArray := prog_10_method_8_code
def yX8_takesCycle : MethodName := ⟨RX8, "takesCycle", "(II)Z"⟩
abbrev cX8_isAmongRows : ByteArray := prog_10_method_9_code
def yX8_isAmongRows : MethodName := ⟨RX8, "isAmongRows", "(II)Z"⟩
abbrev cX8_bitOf : ByteArray := prog_10_method_10_code
def yX8_bitOf : MethodName := ⟨RX8, "bitOf", "(II)I"⟩
abbrev cX8_valueAt : ByteArray := prog_10_method_11_code
def yX8_valueAt : MethodName := ⟨RX8, "valueAt", "(II)I"⟩
abbrev cX8_byteAt : ByteArray := prog_10_method_12_code
def yX8_byteAt : MethodName := ⟨RX8, "byteAt", "(I)I"⟩
abbrev cX8_isSolid : ByteArray := prog_10_method_13_code
def yX8_isSolid : MethodName := ⟨RX8, "isSolid", "(I)Z"⟩
abbrev cX8_spritesAt : ByteArray := prog_10_method_14_code
def yX8_spritesAt : MethodName := ⟨RX8, "spritesAt", "(II)I"⟩
abbrev cX8_colourOf : ByteArray := prog_10_method_15_code
def yX8_colourOf : MethodName := ⟨RX8, "colourOf", "(II)I"⟩
abbrev cX8_noteHits : ByteArray := prog_10_method_16_code
def yX8_noteHits : MethodName := ⟨RX8, "noteHits", "(II)V"⟩
def RX9 : String := "Rasterbox$Tape"
def TX9 : u_T := fun k => match k with
  | 0 => ("Rasterbox$Tape", "lengths", "[I", true)
  | 1 => ("Rasterbox$Tape", "count", "I", false)
  | 2 => ("Rasterbox$Tape", "over", "I", false)
  | 3 => ("Rasterbox$Tape", "elapsed", "I", false)
  | _ => ("Rasterbox$Tape", "level", "I", false)
def tyX9 : Nat → FieldType := fun k => match k with
  | 0 => .array .int
  | 1 => .int
  | 2 => .int
  | 3 => .int
  | _ => .int
abbrev wsX90 : List Cond := u_ws RX9 TX9 5
theorem nmX9 : ∀ a, a < 5 → ∀ b, b < 5 → a ≠ b → (TX9 a).2.1 ≠ (TX9 b).2.1 := by decide +kernel
theorem tyX9_ok : ∀ k, k < 5 → parseFieldDescriptor (TX9 k).2.2.1 = some (tyX9 k) := by decide +kernel
abbrev cX9_init : ByteArray := prog_11_method_1_code
def yX9_init : MethodName := ⟨RX9, "<init>", "()V"⟩
abbrev cX9_become : ByteArray := prog_11_method_2_code
def yX9_become : MethodName := ⟨RX9, "become", "(LRasterbox$Tape;)V"⟩
abbrev cX9_add : ByteArray := prog_11_method_3_code
def yX9_add : MethodName := ⟨RX9, "add", "(I)I"⟩
abbrev cX9_windBack : ByteArray := prog_11_method_4_code
def yX9_windBack : MethodName := ⟨RX9, "windBack", "()I"⟩
abbrev cX9_isPulseOver : ByteArray := prog_11_method_5_code
def yX9_isPulseOver : MethodName := ⟨RX9, "isPulseOver", "()Z"⟩
def RX10 : String := "Rasterbox$Voices"
def TX10 : u_T := fun k => match k with
  | 0 => ("Rasterbox$Voices", "phases", "[I", true)
  | 1 => ("Rasterbox$Voices", "levels", "[I", true)
  | 2 => ("Rasterbox$Voices", "waits", "[I", true)
  | 3 => ("Rasterbox$Voices", "noises", "[I", true)
  | _ => ("Rasterbox$Voices", "samples", "[I", true)
def tyX10 : Nat → FieldType := fun k => match k with
  | 0 => .array .int
  | 1 => .array .int
  | 2 => .array .int
  | 3 => .array .int
  | _ => .array .int
abbrev wsX100 : List Cond := u_ws RX10 TX10 5
theorem nmX10 : ∀ a, a < 5 → ∀ b, b < 5 → a ≠ b → (TX10 a).2.1 ≠ (TX10 b).2.1 := by decide +kernel
theorem tyX10_ok : ∀ k, k < 5 → parseFieldDescriptor (TX10 k).2.2.1 = some (tyX10 k) := by decide +kernel
abbrev cX10_init : ByteArray := prog_12_method_1_code
def yX10_init : MethodName := ⟨RX10, "<init>", "()V"⟩
abbrev cX10_become : ByteArray := prog_12_method_2_code
def yX10_become : MethodName := ⟨RX10, "become", "(LRasterbox$Voices;)V"⟩
abbrev cX10_isLike : ByteArray := prog_12_method_3_code
def yX10_isLike : MethodName := ⟨RX10, "isLike", "(LRasterbox$Voices;)Z"⟩
abbrev cX10_sound : ByteArray := prog_12_method_4_code
def yX10_sound : MethodName := ⟨RX10, "sound", "([II)V"⟩
abbrev cX10_turn : ByteArray := prog_12_method_5_code
def yX10_turn : MethodName := ⟨RX10, "turn", "(II)V"⟩
abbrev cX10_swell : ByteArray := prog_12_method_6_code
def yX10_swell : MethodName := ⟨RX10, "swell", "(IZI)V"⟩
abbrev cX10_outputOf : ByteArray := prog_12_method_7_code
def yX10_outputOf : MethodName := ⟨RX10, "outputOf", "(II)I"⟩
abbrev cX10_waveOf : ByteArray := prog_12_method_8_code
def yX10_waveOf : MethodName := ⟨RX10, "waveOf", "(III)I"⟩
def RX11 : String := "Rasterbox"
def TX11 : u_T := fun k => match k with
  | 0 => ("Rasterbox", "machine", "LRasterbox$Machine;", true)
  | 1 => ("Rasterbox", "snapshots", "[LRasterbox$Machine;", true)
  | 2 => ("Rasterbox", "saved", "I", false)
  | 3 => ("Rasterbox", "recording", "LRasterbox$Recording;", true)
  | 4 => ("Rasterbox", "monitorLine", "Ljava/lang/StringBuilder;", true)
  | _ => ("Rasterbox", "scratch", "LRasterbox$Scene;", true)
def tyX11 : Nat → FieldType := fun k => match k with
  | 0 => .object "Rasterbox$Machine"
  | 1 => .array (.object "Rasterbox$Machine")
  | 2 => .int
  | 3 => .object "Rasterbox$Recording"
  | 4 => .object "java/lang/StringBuilder"
  | _ => .object "Rasterbox$Scene"
abbrev wsX110 : List Cond := u_ws RX11 TX11 6
theorem nmX11 : ∀ a, a < 6 → ∀ b, b < 6 → a ≠ b → (TX11 a).2.1 ≠ (TX11 b).2.1 := by decide +kernel
theorem tyX11_ok : ∀ k, k < 6 → parseFieldDescriptor (TX11 k).2.2.1 = some (tyX11 k) := by decide +kernel
abbrev cX11_init : ByteArray := prog_1_method_1_code
def yX11_init : MethodName := ⟨RX11, "<init>", "()V"⟩
abbrev cX11_poke : ByteArray := prog_1_method_2_code
def yX11_poke : MethodName := ⟨RX11, "poke", "(II)I"⟩
abbrev cX11_pokeRom : ByteArray := prog_1_method_3_code
def yX11_pokeRom : MethodName := ⟨RX11, "pokeRom", "(II)I"⟩
abbrev cX11_pokeCartridge : ByteArray := prog_1_method_4_code
def yX11_pokeCartridge : MethodName := ⟨RX11, "pokeCartridge", "(III)I"⟩
abbrev cX11_peek : ByteArray := prog_1_method_5_code
def yX11_peek : MethodName := ⟨RX11, "peek", "(I)I"⟩
abbrev cX11_ram : ByteArray := prog_1_method_6_code
def yX11_ram : MethodName := ⟨RX11, "ram", "(I)I"⟩
abbrev cX11_assemble : ByteArray := prog_1_method_7_code
def yX11_assemble : MethodName := ⟨RX11, "assemble", "(III)I"⟩
abbrev cX11_writeLine : ByteArray := prog_1_method_8_code
def yX11_writeLine : MethodName := ⟨RX11, "writeLine", "(I)I"⟩
abbrev cX11_lineAt : ByteArray := prog_1_method_9_code
def yX11_lineAt : MethodName := ⟨RX11, "lineAt", "(I)C"⟩
abbrev cX11_compare : ByteArray := prog_1_method_10_code
def yX11_compare : MethodName := ⟨RX11, "compare", "(III)I"⟩
abbrev cX11_register : ByteArray := prog_1_method_11_code
def yX11_register : MethodName := ⟨RX11, "register", "(I)I"⟩
abbrev cX11_setRegister : ByteArray := prog_1_method_12_code
def yX11_setRegister : MethodName := ⟨RX11, "setRegister", "(II)I"⟩
abbrev cX11_status : ByteArray := prog_1_method_13_code
def yX11_status : MethodName := ⟨RX11, "status", "()I"⟩
abbrev cX11_reset : ByteArray := prog_1_method_14_code
def yX11_reset : MethodName := ⟨RX11, "reset", "()I"⟩
abbrev cX11_freeze : ByteArray := prog_1_method_15_code
def yX11_freeze : MethodName := ⟨RX11, "freeze", "()I"⟩
abbrev cX11_run : ByteArray := prog_1_method_16_code
def yX11_run : MethodName := ⟨RX11, "run", "(I)I"⟩
abbrev cX11_step : ByteArray := prog_1_method_17_code
def yX11_step : MethodName := ⟨RX11, "step", "()I"⟩
abbrev cX11_cycle : ByteArray := prog_1_method_18_code
def yX11_cycle : MethodName := ⟨RX11, "cycle", "()J"⟩
abbrev cX11_isPictures : ByteArray := prog_1_method_19_code
def yX11_isPictures : MethodName := ⟨RX11, "isPictures", "()Z"⟩
abbrev cX11_underWay : ByteArray := prog_1_method_20_code
def yX11_underWay : MethodName := ⟨RX11, "underWay", "()I"⟩
abbrev cX11_done : ByteArray := prog_1_method_21_code
def yX11_done : MethodName := ⟨RX11, "done", "()I"⟩
abbrev cX11_isJammed : ByteArray := prog_1_method_22_code
def yX11_isJammed : MethodName := ⟨RX11, "isJammed", "()Z"⟩
abbrev cX11_traceAt : ByteArray := prog_1_method_23_code
def yX11_traceAt : MethodName := ⟨RX11, "traceAt", "(I)I"⟩
abbrev cX11_pixel : ByteArray := prog_1_method_24_code
def yX11_pixel : MethodName := ⟨RX11, "pixel", "(II)I"⟩
abbrev cX11_pixelAgain : ByteArray := prog_1_method_25_code
def yX11_pixelAgain : MethodName := ⟨RX11, "pixelAgain", "(II)I"⟩
abbrev cX11_sample : ByteArray := prog_1_method_26_code
def yX11_sample : MethodName := ⟨RX11, "sample", "(I)I"⟩
abbrev cX11_level : ByteArray := prog_1_method_27_code
def yX11_level : MethodName := ⟨RX11, "level", "(I)I"⟩
abbrev cX11_key : ByteArray := prog_1_method_28_code
def yX11_key : MethodName := ⟨RX11, "key", "(IIZ)Z"⟩
abbrev cX11_columns : ByteArray := prog_1_method_29_code
def yX11_columns : MethodName := ⟨RX11, "columns", "(I)I"⟩
abbrev cX11_joystick : ByteArray := prog_1_method_30_code
def yX11_joystick : MethodName := ⟨RX11, "joystick", "(I)I"⟩
abbrev cX11_addPulse : ByteArray := prog_1_method_31_code
def yX11_addPulse : MethodName := ⟨RX11, "addPulse", "(I)I"⟩
abbrev cX11_rewind : ByteArray := prog_1_method_32_code
def yX11_rewind : MethodName := ⟨RX11, "rewind", "()I"⟩
abbrev cX11_pulsesLeft : ByteArray := prog_1_method_33_code
def yX11_pulsesLeft : MethodName := ⟨RX11, "pulsesLeft", "()I"⟩
abbrev cX11_save : ByteArray := prog_1_method_34_code
def yX11_save : MethodName := ⟨RX11, "save", "()I"⟩
abbrev cX11_restore : ByteArray := prog_1_method_35_code
def yX11_restore : MethodName := ⟨RX11, "restore", "(I)I"⟩
abbrev cX11_differences : ByteArray := prog_1_method_36_code
def yX11_differences : MethodName := ⟨RX11, "differences", "(I)I"⟩
abbrev cX11_startRecord : ByteArray := prog_1_method_37_code
def yX11_startRecord : MethodName := ⟨RX11, "startRecord", "()I"⟩
abbrev cX11_recorded : ByteArray := prog_1_method_38_code
def yX11_recorded : MethodName := ⟨RX11, "recorded", "()I"⟩
abbrev cX11_isSame : ByteArray := prog_1_method_39_code
def yX11_isSame : MethodName := ⟨RX11, "isSame", "()Z"⟩
abbrev cX11_sumOfPicture : ByteArray := prog_1_method_40_code
def yX11_sumOfPicture : MethodName := ⟨RX11, "sumOfPicture", "()I"⟩
abbrev cX11_pictures : ByteArray := prog_1_method_41_code
def yX11_pictures : MethodName := ⟨RX11, "pictures", "()J"⟩
abbrev cX11_solidShare : ByteArray := prog_1_method_42_code
def yX11_solidShare : MethodName := ⟨RX11, "solidShare", "()F"⟩
abbrev cX11_meanSample : ByteArray := prog_1_method_43_code
def yX11_meanSample : MethodName := ⟨RX11, "meanSample", "()D"⟩
abbrev cX11_checkAddress : ByteArray := prog_1_method_44_code
def yX11_checkAddress : MethodName := ⟨RX11, "checkAddress", "(I)V"⟩
abbrev cX11_checkIndex : ByteArray := prog_1_method_45_code
def yX11_checkIndex : MethodName := ⟨RX11, "checkIndex", "(II)V"⟩
abbrev cX11_checkByte : ByteArray := prog_1_method_46_code
def yX11_checkByte : MethodName := ⟨RX11, "checkByte", "(I)V"⟩
abbrev cX11_checkArgument : ByteArray := prog_1_method_47_code
def yX11_checkArgument : MethodName := ⟨RX11, "checkArgument", "(III)V"⟩
abbrev cX11_snapshotOf : ByteArray := prog_1_method_48_code
def yX11_snapshotOf : MethodName := ⟨RX11, "snapshotOf", "(I)LRasterbox$Machine;"⟩
def RX12 : String := "RasterboxModel"
def TX12 : u_T := fun k => match k with
  | 0 => ("RasterboxModel", "ram", "[I", true)
  | 1 => ("RasterboxModel", "rom", "[I", true)
  | 2 => ("RasterboxModel", "cartridge", "[I", true)
  | 3 => ("RasterboxModel", "registers", "[I", true)
  | 4 => ("RasterboxModel", "pixels", "[I", true)
  | 5 => ("RasterboxModel", "samples", "[I", true)
  | 6 => ("RasterboxModel", "keys", "[Z", true)
  | 7 => ("RasterboxModel", "pulses", "[I", true)
  | 8 => ("RasterboxModel", "trace", "[I", true)
  | 9 => ("RasterboxModel", "phases", "[I", true)
  | 10 => ("RasterboxModel", "levels", "[I", true)
  | 11 => ("RasterboxModel", "waits", "[I", true)
  | 12 => ("RasterboxModel", "noises", "[I", true)
  | 13 => ("RasterboxModel", "numbers", "[I", true)
  | 14 => ("RasterboxModel", "flags", "[Z", true)
  | 15 => ("RasterboxModel", "cycle", "J", false)
  | 16 => ("RasterboxModel", "pictured", "J", false)
  | 17 => ("RasterboxModel", "saved", "I", false)
  | 18 => ("RasterboxModel", "savedRam", "[I", true)
  | 19 => ("RasterboxModel", "savedRom", "[I", true)
  | 20 => ("RasterboxModel", "savedCartridge", "[I", true)
  | 21 => ("RasterboxModel", "savedRegisters", "[I", true)
  | 22 => ("RasterboxModel", "savedPixels", "[I", true)
  | 23 => ("RasterboxModel", "savedSamples", "[I", true)
  | 24 => ("RasterboxModel", "savedKeys", "[Z", true)
  | 25 => ("RasterboxModel", "savedPulses", "[I", true)
  | 26 => ("RasterboxModel", "savedTrace", "[I", true)
  | 27 => ("RasterboxModel", "savedPhases", "[I", true)
  | 28 => ("RasterboxModel", "savedLevels", "[I", true)
  | 29 => ("RasterboxModel", "savedWaits", "[I", true)
  | 30 => ("RasterboxModel", "savedNoises", "[I", true)
  | 31 => ("RasterboxModel", "savedNumbers", "[I", true)
  | 32 => ("RasterboxModel", "savedFlags", "[Z", true)
  | 33 => ("RasterboxModel", "savedCycles", "[J", true)
  | 34 => ("RasterboxModel", "recorded", "I", false)
  | 35 => ("RasterboxModel", "written", "I", false)
  | 36 => ("RasterboxModel", "line", "[C", true)
  | 37 => ("RasterboxModel", "live", "[Z", true)
  | 38 => ("RasterboxModel", "hasRunOut", "Z", false)
  | _ => ("RasterboxModel", "code", "I", false)
def tyX12 : Nat → FieldType := fun k => match k with
  | 0 => .array .int
  | 1 => .array .int
  | 2 => .array .int
  | 3 => .array .int
  | 4 => .array .int
  | 5 => .array .int
  | 6 => .array .boolean
  | 7 => .array .int
  | 8 => .array .int
  | 9 => .array .int
  | 10 => .array .int
  | 11 => .array .int
  | 12 => .array .int
  | 13 => .array .int
  | 14 => .array .boolean
  | 15 => .long
  | 16 => .long
  | 17 => .int
  | 18 => .array .int
  | 19 => .array .int
  | 20 => .array .int
  | 21 => .array .int
  | 22 => .array .int
  | 23 => .array .int
  | 24 => .array .boolean
  | 25 => .array .int
  | 26 => .array .int
  | 27 => .array .int
  | 28 => .array .int
  | 29 => .array .int
  | 30 => .array .int
  | 31 => .array .int
  | 32 => .array .boolean
  | 33 => .array .long
  | 34 => .int
  | 35 => .int
  | 36 => .array .char
  | 37 => .array .boolean
  | 38 => .boolean
  | _ => .int
abbrev wsX120 : List Cond := u_ws RX12 TX12 40
theorem nmX12 : ∀ a, a < 40 → ∀ b, b < 40 → a ≠ b → (TX12 a).2.1 ≠ (TX12 b).2.1 := by decide +kernel
theorem tyX12_ok : ∀ k, k < 40 → parseFieldDescriptor (TX12 k).2.2.1 = some (tyX12 k) := by decide +kernel
abbrev cX12_init : ByteArray := prog_14_method_1_code
def yX12_init : MethodName := ⟨RX12, "<init>", "()V"⟩
abbrev cX12_thrown : ByteArray := prog_14_method_2_code
def yX12_thrown : MethodName := ⟨RX12, "thrown", "()I"⟩
abbrev cX12_fails : ByteArray := prog_14_method_3_code
def yX12_fails : MethodName := ⟨RX12, "fails", "(I)Z"⟩
abbrev cX12_tells : ByteArray := prog_14_method_4_code
def yX12_tells : MethodName := ⟨RX12, "tells", "(I)I"⟩
abbrev cX12_in : ByteArray := prog_14_method_5_code
def yX12_in : MethodName := ⟨RX12, "in", "(III)Z"⟩
abbrev cX12_isNoByte : ByteArray := prog_14_method_6_code
def yX12_isNoByte : MethodName := ⟨RX12, "isNoByte", "(I)Z"⟩
abbrev cX12_isNoAddress : ByteArray := prog_14_method_7_code
def yX12_isNoAddress : MethodName := ⟨RX12, "isNoAddress", "(I)Z"⟩
abbrev cX12_keeps : ByteArray := prog_14_method_8_code
def yX12_keeps : MethodName := ⟨RX12, "keeps", "()V"⟩
abbrev cX12_has : ByteArray := prog_14_method_9_code
def yX12_has : MethodName := ⟨RX12, "has", "(II)Z"⟩
abbrev cX12_lineNow : ByteArray := prog_14_method_10_code
def yX12_lineNow : MethodName := ⟨RX12, "lineNow", "()I"⟩
abbrev cX12_seenColumns : ByteArray := prog_14_method_11_code
def yX12_seenColumns : MethodName := ⟨RX12, "seenColumns", "(I)I"⟩
abbrev cX12_hasPulse : ByteArray := prog_14_method_12_code
def yX12_hasPulse : MethodName := ⟨RX12, "hasPulse", "()Z"⟩
abbrev cX12_readRegister : ByteArray := prog_14_method_13_code
def yX12_readRegister : MethodName := ⟨RX12, "readRegister", "(I)I"⟩
abbrev cX12_bitsOf : ByteArray := prog_14_method_14_code
def yX12_bitsOf : MethodName := ⟨RX12, "bitsOf", "(I)I"⟩
abbrev cX12_writeRegister : ByteArray := prog_14_method_15_code
def yX12_writeRegister : MethodName := ⟨RX12, "writeRegister", "(II)V"⟩
abbrev cX12_wrap : ByteArray := prog_14_method_16_code
def yX12_wrap : MethodName := ⟨RX12, "wrap", "(I)I"⟩
abbrev cX12_reads : ByteArray := prog_14_method_17_code
def yX12_reads : MethodName := ⟨RX12, "reads", "(I)I"⟩
abbrev cX12_writes : ByteArray := prog_14_method_18_code
def yX12_writes : MethodName := ⟨RX12, "writes", "(II)V"⟩
abbrev cX12_poke : ByteArray := prog_14_method_19_code
def yX12_poke : MethodName := ⟨RX12, "poke", "(II)I"⟩
abbrev cX12_pokeRom : ByteArray := prog_14_method_20_code
def yX12_pokeRom : MethodName := ⟨RX12, "pokeRom", "(II)I"⟩
abbrev cX12_pokeCartridge : ByteArray := prog_14_method_21_code
def yX12_pokeCartridge : MethodName := ⟨RX12, "pokeCartridge", "(III)I"⟩
abbrev cX12_peek : ByteArray := prog_14_method_22_code
def yX12_peek : MethodName := ⟨RX12, "peek", "(I)I"⟩
abbrev cX12_ram : ByteArray := prog_14_method_23_code
def yX12_ram : MethodName := ⟨RX12, "ram", "(I)I"⟩
abbrev cX12_compare : ByteArray := prog_14_method_24_code
def yX12_compare : MethodName := ⟨RX12, "compare", "(III)I"⟩
abbrev cX12_rowNow : ByteArray := prog_14_method_25_code
def yX12_rowNow : MethodName := ⟨RX12, "rowNow", "()I"⟩
abbrev cX12_isOn : ByteArray := prog_14_method_26_code
def yX12_isOn : MethodName := ⟨RX12, "isOn", "(I)Z"⟩
abbrev cX12_isAmong : ByteArray := prog_14_method_27_code
def yX12_isAmong : MethodName := ⟨RX12, "isAmong", "(II)Z"⟩
abbrev cX12_isOfPicture : ByteArray := prog_14_method_28_code
def yX12_isOfPicture : MethodName := ⟨RX12, "isOfPicture", "()Z"⟩
abbrev cX12_pictureAt : ByteArray := prog_14_method_29_code
def yX12_pictureAt : MethodName := ⟨RX12, "pictureAt", "(II)I"⟩
abbrev cX12_covers : ByteArray := prog_14_method_30_code
def yX12_covers : MethodName := ⟨RX12, "covers", "(III)Z"⟩
abbrev cX12_draws : ByteArray := prog_14_method_31_code
def yX12_draws : MethodName := ⟨RX12, "draws", "(II)V"⟩
abbrev cX12_counts : ByteArray := prog_14_method_32_code
def yX12_counts : MethodName := ⟨RX12, "counts", "(I)Z"⟩
abbrev cX12_times : ByteArray := prog_14_method_33_code
def yX12_times : MethodName := ⟨RX12, "times", "()V"⟩
abbrev cX12_winds : ByteArray := prog_14_method_34_code
def yX12_winds : MethodName := ⟨RX12, "winds", "()V"⟩
abbrev cX12_sounds : ByteArray := prog_14_method_35_code
def yX12_sounds : MethodName := ⟨RX12, "sounds", "(I)V"⟩
abbrev cX12_gives : ByteArray := prog_14_method_36_code
def yX12_gives : MethodName := ⟨RX12, "gives", "(I)I"⟩
abbrev cX12_makesSample : ByteArray := prog_14_method_37_code
def yX12_makesSample : MethodName := ⟨RX12, "makesSample", "()V"⟩
abbrev cX12_passes : ByteArray := prog_14_method_38_code
def yX12_passes : MethodName := ⟨RX12, "passes", "()Z"⟩
abbrev cX12_run : ByteArray := prog_14_method_39_code
def yX12_run : MethodName := ⟨RX12, "run", "(I)I"⟩
abbrev cX12_step : ByteArray := prog_14_method_40_code
def yX12_step : MethodName := ⟨RX12, "step", "()I"⟩
abbrev cX12_cycle : ByteArray := prog_14_method_41_code
def yX12_cycle : MethodName := ⟨RX12, "cycle", "()J"⟩
abbrev cX12_isPictures : ByteArray := prog_14_method_42_code
def yX12_isPictures : MethodName := ⟨RX12, "isPictures", "()Z"⟩
abbrev cX12_underWay : ByteArray := prog_14_method_43_code
def yX12_underWay : MethodName := ⟨RX12, "underWay", "()I"⟩
abbrev cX12_done : ByteArray := prog_14_method_44_code
def yX12_done : MethodName := ⟨RX12, "done", "()I"⟩
abbrev cX12_isJammed : ByteArray := prog_14_method_45_code
def yX12_isJammed : MethodName := ⟨RX12, "isJammed", "()Z"⟩
abbrev cX12_traceAt : ByteArray := prog_14_method_46_code
def yX12_traceAt : MethodName := ⟨RX12, "traceAt", "(I)I"⟩
abbrev cX12_operationOf : ByteArray := prog_14_method_47_code
def yX12_operationOf : MethodName := ⟨RX12, "operationOf", "(I)I"⟩
abbrev cX12_isWriting : ByteArray := prog_14_method_48_code
def yX12_isWriting : MethodName := ⟨RX12, "isWriting", "(I)Z"⟩
abbrev cX12_lengthOf : ByteArray := prog_14_method_49_code
def yX12_lengthOf : MethodName := ⟨RX12, "lengthOf", "(I)I"⟩
abbrev cX12_byteAt : ByteArray := prog_14_method_50_code
def yX12_byteAt : MethodName := ⟨RX12, "byteAt", "(I)I"⟩
abbrev cX12_wordAt : ByteArray := prog_14_method_51_code
def yX12_wordAt : MethodName := ⟨RX12, "wordAt", "(I)I"⟩
abbrev cX12_baseOf : ByteArray := prog_14_method_52_code
def yX12_baseOf : MethodName := ⟨RX12, "baseOf", "(II)I"⟩
abbrev cX12_addressOf : ByteArray := prog_14_method_53_code
def yX12_addressOf : MethodName := ⟨RX12, "addressOf", "(II)I"⟩
abbrev cX12_modeCycles : ByteArray := prog_14_method_54_code
def yX12_modeCycles : MethodName := ⟨RX12, "modeCycles", "(III)I"⟩
abbrev cX12_isTaken : ByteArray := prog_14_method_55_code
def yX12_isTaken : MethodName := ⟨RX12, "isTaken", "(I)Z"⟩
abbrev cX12_targetOf : ByteArray := prog_14_method_56_code
def yX12_targetOf : MethodName := ⟨RX12, "targetOf", "(I)I"⟩
abbrev cX12_cyclesOf : ByteArray := prog_14_method_57_code
def yX12_cyclesOf : MethodName := ⟨RX12, "cyclesOf", "(I)I"⟩
abbrev cX12_pushes : ByteArray := prog_14_method_58_code
def yX12_pushes : MethodName := ⟨RX12, "pushes", "(I)V"⟩
abbrev cX12_pulls : ByteArray := prog_14_method_59_code
def yX12_pulls : MethodName := ⟨RX12, "pulls", "()I"⟩
abbrev cX12_bit : ByteArray := prog_14_method_60_code
def yX12_bit : MethodName := ⟨RX12, "bit", "(II)I"⟩
abbrev cX12_statusWith : ByteArray := prog_14_method_61_code
def yX12_statusWith : MethodName := ⟨RX12, "statusWith", "(I)I"⟩
abbrev cX12_becomesStatus : ByteArray := prog_14_method_62_code
def yX12_becomesStatus : MethodName := ⟨RX12, "becomesStatus", "(I)V"⟩
abbrev cX12_interrupts : ByteArray := prog_14_method_63_code
def yX12_interrupts : MethodName := ⟨RX12, "interrupts", "(III)V"⟩
abbrev cX12_sets : ByteArray := prog_14_method_64_code
def yX12_sets : MethodName := ⟨RX12, "sets", "(I)I"⟩
abbrev cX12_becomes : ByteArray := prog_14_method_65_code
def yX12_becomes : MethodName := ⟨RX12, "becomes", "(II)V"⟩
abbrev cX12_compares : ByteArray := prog_14_method_66_code
def yX12_compares : MethodName := ⟨RX12, "compares", "(II)V"⟩
abbrev cX12_adds : ByteArray := prog_14_method_67_code
def yX12_adds : MethodName := ⟨RX12, "adds", "(I)V"⟩
abbrev cX12_addsDecimal : ByteArray := prog_14_method_68_code
def yX12_addsDecimal : MethodName := ⟨RX12, "addsDecimal", "(III)V"⟩
abbrev cX12_takesDecimal : ByteArray := prog_14_method_69_code
def yX12_takesDecimal : MethodName := ⟨RX12, "takesDecimal", "(III)V"⟩
abbrev cX12_calculates : ByteArray := prog_14_method_70_code
def yX12_calculates : MethodName := ⟨RX12, "calculates", "(ZI)V"⟩
abbrev cX12_takes : ByteArray := prog_14_method_71_code
def yX12_takes : MethodName := ⟨RX12, "takes", "(I)I"⟩
abbrev cX12_operates : ByteArray := prog_14_method_72_code
def yX12_operates : MethodName := ⟨RX12, "operates", "(II)V"⟩
abbrev cX12_changes : ByteArray := prog_14_method_73_code
def yX12_changes : MethodName := ⟨RX12, "changes", "(II)V"⟩
abbrev cX12_doesMode : ByteArray := prog_14_method_74_code
def yX12_doesMode : MethodName := ⟨RX12, "doesMode", "(III)V"⟩
abbrev cX12_shifts : ByteArray := prog_14_method_75_code
def yX12_shifts : MethodName := ⟨RX12, "shifts", "(I)V"⟩
abbrev cX12_doesOther : ByteArray := prog_14_method_76_code
def yX12_doesOther : MethodName := ⟨RX12, "doesOther", "(II)V"⟩
abbrev cX12_pulledAddress : ByteArray := prog_14_method_77_code
def yX12_pulledAddress : MethodName := ⟨RX12, "pulledAddress", "(I)I"⟩
abbrev cX12_jumps : ByteArray := prog_14_method_78_code
def yX12_jumps : MethodName := ⟨RX12, "jumps", "(II)V"⟩
abbrev cX12_does : ByteArray := prog_14_method_79_code
def yX12_does : MethodName := ⟨RX12, "does", "(I)V"⟩
abbrev cX12_begins : ByteArray := prog_14_method_80_code
def yX12_begins : MethodName := ⟨RX12, "begins", "()V"⟩
abbrev cX12_goesOn : ByteArray := prog_14_method_81_code
def yX12_goesOn : MethodName := ⟨RX12, "goesOn", "()V"⟩
abbrev cX12_assemble : ByteArray := prog_14_method_82_code
def yX12_assemble : MethodName := ⟨RX12, "assemble", "(III)I"⟩
abbrev cX12_puts : ByteArray := prog_14_method_83_code
def yX12_puts : MethodName := ⟨RX12, "puts", "(C)V"⟩
abbrev cX12_putsNumber : ByteArray := prog_14_method_84_code
def yX12_putsNumber : MethodName := ⟨RX12, "putsNumber", "(I)V"⟩
abbrev cX12_putsName : ByteArray := prog_14_method_85_code
def yX12_putsName : MethodName := ⟨RX12, "putsName", "(I)V"⟩
abbrev cX12_putsMode : ByteArray := prog_14_method_86_code
def yX12_putsMode : MethodName := ⟨RX12, "putsMode", "(II)V"⟩
abbrev cX12_putsOther : ByteArray := prog_14_method_87_code
def yX12_putsOther : MethodName := ⟨RX12, "putsOther", "(II)V"⟩
abbrev cX12_isJam : ByteArray := prog_14_method_88_code
def yX12_isJam : MethodName := ⟨RX12, "isJam", "(I)Z"⟩
abbrev cX12_writeLine : ByteArray := prog_14_method_89_code
def yX12_writeLine : MethodName := ⟨RX12, "writeLine", "(I)I"⟩
abbrev cX12_lineAt : ByteArray := prog_14_method_90_code
def yX12_lineAt : MethodName := ⟨RX12, "lineAt", "(I)C"⟩
abbrev cX12_register : ByteArray := prog_14_method_91_code
def yX12_register : MethodName := ⟨RX12, "register", "(I)I"⟩
abbrev cX12_setRegister : ByteArray := prog_14_method_92_code
def yX12_setRegister : MethodName := ⟨RX12, "setRegister", "(II)I"⟩
abbrev cX12_status : ByteArray := prog_14_method_93_code
def yX12_status : MethodName := ⟨RX12, "status", "()I"⟩
abbrev cX12_reset : ByteArray := prog_14_method_94_code
def yX12_reset : MethodName := ⟨RX12, "reset", "()I"⟩
abbrev cX12_freeze : ByteArray := prog_14_method_95_code
def yX12_freeze : MethodName := ⟨RX12, "freeze", "()I"⟩
abbrev cX12_pixelAt : ByteArray := prog_14_method_96_code
def yX12_pixelAt : MethodName := ⟨RX12, "pixelAt", "(II)I"⟩
abbrev cX12_pixel : ByteArray := prog_14_method_97_code
def yX12_pixel : MethodName := ⟨RX12, "pixel", "(II)I"⟩
abbrev cX12_pixelAgain : ByteArray := prog_14_method_98_code
def yX12_pixelAgain : MethodName := ⟨RX12, "pixelAgain", "(II)I"⟩
abbrev cX12_sample : ByteArray := prog_14_method_99_code
def yX12_sample : MethodName := ⟨RX12, "sample", "(I)I"⟩
abbrev cX12_level : ByteArray := prog_14_method_100_code
def yX12_level : MethodName := ⟨RX12, "level", "(I)I"⟩
abbrev cX12_key : ByteArray := prog_14_method_101_code
def yX12_key : MethodName := ⟨RX12, "key", "(IIZ)Z"⟩
abbrev cX12_columns : ByteArray := prog_14_method_102_code
def yX12_columns : MethodName := ⟨RX12, "columns", "(I)I"⟩
abbrev cX12_joystick : ByteArray := prog_14_method_103_code
def yX12_joystick : MethodName := ⟨RX12, "joystick", "(I)I"⟩
abbrev cX12_addPulse : ByteArray := prog_14_method_104_code
def yX12_addPulse : MethodName := ⟨RX12, "addPulse", "(I)I"⟩
abbrev cX12_rewind : ByteArray := prog_14_method_105_code
def yX12_rewind : MethodName := ⟨RX12, "rewind", "()I"⟩
abbrev cX12_pulsesLeft : ByteArray := prog_14_method_106_code
def yX12_pulsesLeft : MethodName := ⟨RX12, "pulsesLeft", "()I"⟩
abbrev cX12_lays : ByteArray := prog_14_method_107_code
def yX12_lays : MethodName := ⟨RX12, "lays", "([II[III)V"⟩
abbrev cX12_laysFlags : ByteArray := prog_14_method_108_code
def yX12_laysFlags : MethodName := ⟨RX12, "laysFlags", "([ZI[ZII)V"⟩
abbrev cX12_save : ByteArray := prog_14_method_109_code
def yX12_save : MethodName := ⟨RX12, "save", "()I"⟩
abbrev cX12_unlike : ByteArray := prog_14_method_110_code
def yX12_unlike : MethodName := ⟨RX12, "unlike", "(I)I"⟩
abbrev cX12_restore : ByteArray := prog_14_method_111_code
def yX12_restore : MethodName := ⟨RX12, "restore", "(I)I"⟩
abbrev cX12_differences : ByteArray := prog_14_method_112_code
def yX12_differences : MethodName := ⟨RX12, "differences", "(I)I"⟩
abbrev cX12_startRecord : ByteArray := prog_14_method_113_code
def yX12_startRecord : MethodName := ⟨RX12, "startRecord", "()I"⟩
abbrev cX12_recorded : ByteArray := prog_14_method_114_code
def yX12_recorded : MethodName := ⟨RX12, "recorded", "()I"⟩
abbrev cX12_isSame : ByteArray := prog_14_method_115_code
def yX12_isSame : MethodName := ⟨RX12, "isSame", "()Z"⟩
abbrev cX12_sumOfPicture : ByteArray := prog_14_method_116_code
def yX12_sumOfPicture : MethodName := ⟨RX12, "sumOfPicture", "()I"⟩
abbrev cX12_pictures : ByteArray := prog_14_method_117_code
def yX12_pictures : MethodName := ⟨RX12, "pictures", "()J"⟩
abbrev cX12_solidShare : ByteArray := prog_14_method_118_code
def yX12_solidShare : MethodName := ⟨RX12, "solidShare", "()F"⟩
abbrev cX12_meanSample : ByteArray := prog_14_method_119_code
def yX12_meanSample : MethodName := ⟨RX12, "meanSample", "()D"⟩
def RJx145de : String := "java/io/Serializable"
def TJx145de : u_T := fun k => match k with
  | _ => ("", "", "", false)
def tyJx145de : Nat → FieldType := fun k => match k with
  | _ => .int
abbrev wsJx145de0 : List Cond := u_ws RJx145de TJx145de 0
theorem nmJx145de : ∀ a, a < 0 → ∀ b, b < 0 → a ≠ b → (TJx145de a).2.1 ≠ (TJx145de b).2.1 := by decide +kernel
theorem tyJx145de_ok : ∀ k, k < 0 → parseFieldDescriptor (TJx145de k).2.2.1 = some (tyJx145de k) := by decide +kernel
def RJ5 : String := "java/lang/AbstractStringBuilder"
def TJ5 : u_T := fun k => match k with
  | _ => ("", "", "", false)
def tyJ5 : Nat → FieldType := fun k => match k with
  | _ => .int
abbrev wsJ50 : List Cond := u_ws RJ5 TJ5 0
theorem nmJ5 : ∀ a, a < 0 → ∀ b, b < 0 → a ≠ b → (TJ5 a).2.1 ≠ (TJ5 b).2.1 := by decide +kernel
theorem tyJ5_ok : ∀ k, k < 0 → parseFieldDescriptor (TJ5 k).2.2.1 = some (tyJ5 k) := by decide +kernel
abbrev cJ5_init_d00df : ByteArray := prog_16_method_2_code
def yJ5_init_d00df : MethodName := ⟨RJ5, "<init>", "(I)V"⟩
abbrev cJ5_length_8abf5 : ByteArray := prog_16_method_6_code
def yJ5_length_8abf5 : MethodName := ⟨RJ5, "length", "()I"⟩
abbrev cJ5_ensureCapacityInternal_d00df : ByteArray := prog_16_method_9_code
def yJ5_ensureCapacityInternal_d00df : MethodName := ⟨RJ5, "ensureCapacityInternal", "(I)V"⟩
abbrev cJ5_newCapacity_0f7a4 : ByteArray := prog_16_method_10_code
def yJ5_newCapacity_0f7a4 : MethodName := ⟨RJ5, "newCapacity", "(I)I"⟩
abbrev cJ5_inflate_da8c8 : ByteArray := prog_16_method_11_code
def yJ5_inflate_da8c8 : MethodName := ⟨RJ5, "inflate", "()V"⟩
abbrev cJ5_setLength_d00df : ByteArray := prog_16_method_13_code
def yJ5_setLength_d00df : MethodName := ⟨RJ5, "setLength", "(I)V"⟩
abbrev cJ5_charAt_5068e : ByteArray := prog_16_method_14_code
def yJ5_charAt_5068e : MethodName := ⟨RJ5, "charAt", "(I)C"⟩
abbrev cJ5_append_cf1ce : ByteArray := prog_16_method_22_code
def yJ5_append_cf1ce : MethodName := ⟨RJ5, "append", "(Ljava/lang/String;)Ljava/lang/AbstractStringBuilder;"⟩
abbrev cJ5_appendNull_278bc : ByteArray := prog_16_method_26_code
def yJ5_appendNull_278bc : MethodName := ⟨RJ5, "appendNull", "()Ljava/lang/AbstractStringBuilder;"⟩
abbrev cJ5_append_3fe6f : ByteArray := prog_16_method_31_code
def yJ5_append_3fe6f : MethodName := ⟨RJ5, "append", "(C)Ljava/lang/AbstractStringBuilder;"⟩
abbrev cJ5_append_c97b9 : ByteArray := prog_16_method_32_code
def yJ5_append_c97b9 : MethodName := ⟨RJ5, "append", "(I)Ljava/lang/AbstractStringBuilder;"⟩
abbrev cJ5_getValue_6d5f1 : ByteArray := prog_16_method_64_code
def yJ5_getValue_6d5f1 : MethodName := ⟨RJ5, "getValue", "()[B"⟩
abbrev cJ5_isLatin1_aae02 : ByteArray := prog_16_method_68_code
def yJ5_isLatin1_aae02 : MethodName := ⟨RJ5, "isLatin1", "()Z"⟩
abbrev cJ5_inflateIfNeededFor_a7421 : ByteArray := prog_16_method_71_code
def yJ5_inflateIfNeededFor_a7421 : MethodName := ⟨RJ5, "inflateIfNeededFor", "(Ljava/lang/String;)V"⟩
abbrev cJ5_putStringAt_47b60 : ByteArray := prog_16_method_73_code
def yJ5_putStringAt_47b60 : MethodName := ⟨RJ5, "putStringAt", "(ILjava/lang/String;)V"⟩
def RJx2cfe8 : String := "java/lang/Appendable"
def TJx2cfe8 : u_T := fun k => match k with
  | _ => ("", "", "", false)
def tyJx2cfe8 : Nat → FieldType := fun k => match k with
  | _ => .int
abbrev wsJx2cfe80 : List Cond := u_ws RJx2cfe8 TJx2cfe8 0
theorem nmJx2cfe8 : ∀ a, a < 0 → ∀ b, b < 0 → a ≠ b → (TJx2cfe8 a).2.1 ≠ (TJx2cfe8 b).2.1 := by decide +kernel
theorem tyJx2cfe8_ok : ∀ k, k < 0 → parseFieldDescriptor (TJx2cfe8 k).2.2.1 = some (tyJx2cfe8 k) := by decide +kernel
def RJx00060 : String := "java/lang/ArrayIndexOutOfBoundsException"
def TJx00060 : u_T := fun k => match k with
  | 0 => ("java/lang/Throwable", "cause", "Ljava/lang/Throwable;", false)
  | 1 => ("java/lang/Throwable", "stackTrace", "[Ljava/lang/StackTraceElement;", false)
  | 2 => ("java/lang/Throwable", "suppressedExceptions", "Ljava/util/List;", false)
  | 3 => ("java/lang/Throwable", "detailMessage", "Ljava/lang/String;", false)
  | 4 => ("java/lang/Throwable", "backtrace", "Ljava/lang/Object;", false)
  | _ => ("java/lang/Throwable", "depth", "I", false)
def tyJx00060 : Nat → FieldType := fun k => match k with
  | 0 => .object "java/lang/Throwable"
  | 1 => .array (.object "java/lang/StackTraceElement")
  | 2 => .object "java/util/List"
  | 3 => .object "java/lang/String"
  | 4 => .object "java/lang/Object"
  | _ => .int
abbrev wsJx000600 : List Cond := u_ws RJx00060 TJx00060 6
theorem nmJx00060 : ∀ a, a < 6 → ∀ b, b < 6 → a ≠ b → (TJx00060 a).2.1 ≠ (TJx00060 b).2.1 := by decide +kernel
theorem tyJx00060_ok : ∀ k, k < 6 → parseFieldDescriptor (TJx00060 k).2.2.1 = some (tyJx00060 k) := by decide +kernel
abbrev cJx00060_init_d00df : ByteArray := prog_18_method_3_code
def yJx00060_init_d00df : MethodName := ⟨RJx00060, "<init>", "(I)V"⟩
def RJx9f9b0 : String := "java/lang/CharSequence"
def TJx9f9b0 : u_T := fun k => match k with
  | _ => ("", "", "", false)
def tyJx9f9b0 : Nat → FieldType := fun k => match k with
  | _ => .int
abbrev wsJx9f9b00 : List Cond := u_ws RJx9f9b0 TJx9f9b0 0
theorem nmJx9f9b0 : ∀ a, a < 0 → ∀ b, b < 0 → a ≠ b → (TJx9f9b0 a).2.1 ≠ (TJx9f9b0 b).2.1 := by decide +kernel
theorem tyJx9f9b0_ok : ∀ k, k < 0 → parseFieldDescriptor (TJx9f9b0 k).2.2.1 = some (tyJx9f9b0 k) := by decide +kernel
def RJx8e188 : String := "java/lang/Cloneable"
def TJx8e188 : u_T := fun k => match k with
  | _ => ("", "", "", false)
def tyJx8e188 : Nat → FieldType := fun k => match k with
  | _ => .int
abbrev wsJx8e1880 : List Cond := u_ws RJx8e188 TJx8e188 0
theorem nmJx8e188 : ∀ a, a < 0 → ∀ b, b < 0 → a ≠ b → (TJx8e188 a).2.1 ≠ (TJx8e188 b).2.1 := by decide +kernel
theorem tyJx8e188_ok : ∀ k, k < 0 → parseFieldDescriptor (TJx8e188 k).2.2.1 = some (tyJx8e188 k) := by decide +kernel
def RJxb160c : String := "java/lang/Comparable"
def TJxb160c : u_T := fun k => match k with
  | _ => ("", "", "", false)
def tyJxb160c : Nat → FieldType := fun k => match k with
  | _ => .int
abbrev wsJxb160c0 : List Cond := u_ws RJxb160c TJxb160c 0
theorem nmJxb160c : ∀ a, a < 0 → ∀ b, b < 0 → a ≠ b → (TJxb160c a).2.1 ≠ (TJxb160c b).2.1 := by decide +kernel
theorem tyJxb160c_ok : ∀ k, k < 0 → parseFieldDescriptor (TJxb160c k).2.2.1 = some (tyJxb160c k) := by decide +kernel
def RJ6 : String := "java/lang/Integer"
def TJ6 : u_T := fun k => match k with
  | _ => ("", "", "", false)
def tyJ6 : Nat → FieldType := fun k => match k with
  | _ => .int
abbrev wsJ60 : List Cond := u_ws RJ6 TJ6 0
theorem nmJ6 : ∀ a, a < 0 → ∀ b, b < 0 → a ≠ b → (TJ6 a).2.1 ≠ (TJ6 b).2.1 := by decide +kernel
theorem tyJ6_ok : ∀ k, k < 0 → parseFieldDescriptor (TJ6 k).2.2.1 = some (tyJ6 k) := by decide +kernel
abbrev cJ6_getChars_ba4f3 : ByteArray := prog_26_method_12_code
def yJ6_getChars_ba4f3 : MethodName := ⟨RJ6, "getChars", "(II[B)I"⟩
abbrev cJ6_stringSize_0f7a4 : ByteArray := prog_26_method_13_code
def yJ6_stringSize_0f7a4 : MethodName := ⟨RJ6, "stringSize", "(I)I"⟩
abbrev cJ6_bitCount_0f7a4 : ByteArray := prog_26_method_49_code
def yJ6_bitCount_0f7a4 : MethodName := ⟨RJ6, "bitCount", "(I)I"⟩
def RJ9 : String := "java/lang/Math"
def TJ9 : u_T := fun k => match k with
  | _ => ("", "", "", false)
def tyJ9 : Nat → FieldType := fun k => match k with
  | _ => .int
abbrev wsJ90 : List Cond := u_ws RJ9 TJ9 0
theorem nmJ9 : ∀ a, a < 0 → ∀ b, b < 0 → a ≠ b → (TJ9 a).2.1 ≠ (TJ9 b).2.1 := by decide +kernel
theorem tyJ9_ok : ∀ k, k < 0 → parseFieldDescriptor (TJ9 k).2.2.1 = some (tyJ9 k) := by decide +kernel
abbrev cJ9_max_7cf53 : ByteArray := prog_27_method_65_code
def yJ9_max_7cf53 : MethodName := ⟨RJ9, "max", "(II)I"⟩
abbrev cJ9_min_7cf53 : ByteArray := prog_27_method_69_code
def yJ9_min_7cf53 : MethodName := ⟨RJ9, "min", "(II)I"⟩
def RJxd2413 : String := "java/lang/Number"
def TJxd2413 : u_T := fun k => match k with
  | _ => ("", "", "", false)
def tyJxd2413 : Nat → FieldType := fun k => match k with
  | _ => .int
abbrev wsJxd24130 : List Cond := u_ws RJxd2413 TJxd2413 0
theorem nmJxd2413 : ∀ a, a < 0 → ∀ b, b < 0 → a ≠ b → (TJxd2413 a).2.1 ≠ (TJxd2413 b).2.1 := by decide +kernel
theorem tyJxd2413_ok : ∀ k, k < 0 → parseFieldDescriptor (TJxd2413 k).2.2.1 = some (tyJxd2413 k) := by decide +kernel
def RJ0 : String := "java/lang/String"
def TJ0 : u_T := fun k => match k with
  | 0 => ("java/lang/String", "value", "[B", true)
  | 1 => ("java/lang/String", "coder", "B", true)
  | 2 => ("java/lang/String", "hash", "I", false)
  | _ => ("java/lang/String", "hashIsZero", "Z", false)
def tyJ0 : Nat → FieldType := fun k => match k with
  | 0 => .array .byte
  | 1 => .byte
  | 2 => .int
  | _ => .boolean
abbrev wsJ00 : List Cond := u_ws RJ0 TJ0 4
theorem nmJ0 : ∀ a, a < 4 → ∀ b, b < 4 → a ≠ b → (TJ0 a).2.1 ≠ (TJ0 b).2.1 := by decide +kernel
theorem tyJ0_ok : ∀ k, k < 4 → parseFieldDescriptor (TJ0 k).2.2.1 = some (tyJ0 k) := by decide +kernel
abbrev cJ0_init_81219 : ByteArray := prog_30_method_53_code
def yJ0_init_81219 : MethodName := ⟨RJ0, "<init>", "(Ljava/lang/StringBuilder;)V"⟩
abbrev cJ0_length_8abf5 : ByteArray := prog_30_method_54_code
def yJ0_length_8abf5 : MethodName := ⟨RJ0, "length", "()I"⟩
abbrev cJ0_charAt_5068e : ByteArray := prog_30_method_56_code
def yJ0_charAt_5068e : MethodName := ⟨RJ0, "charAt", "(I)C"⟩
abbrev cJ0_getBytes_840e7 : ByteArray := prog_30_method_147_code
def yJ0_getBytes_840e7 : MethodName := ⟨RJ0, "getBytes", "([BIB)V"⟩
abbrev cJ0_init_db425 : ByteArray := prog_30_method_150_code
def yJ0_init_db425 : MethodName := ⟨RJ0, "<init>", "(Ljava/lang/AbstractStringBuilder;Ljava/lang/Void;)V"⟩
abbrev cJ0_coder_7d493 : ByteArray := prog_30_method_152_code
def yJ0_coder_7d493 : MethodName := ⟨RJ0, "coder", "()B"⟩
abbrev cJ0_isLatin1_aae02 : ByteArray := prog_30_method_154_code
def yJ0_isLatin1_aae02 : MethodName := ⟨RJ0, "isLatin1", "()Z"⟩
abbrev cJ0_checkIndex_df160 : ByteArray := prog_30_method_155_code
def yJ0_checkIndex_df160 : MethodName := ⟨RJ0, "checkIndex", "(II)V"⟩
abbrev cJ0_checkBoundsOffCount_cabcc : ByteArray := prog_30_method_157_code
def yJ0_checkBoundsOffCount_cabcc : MethodName := ⟨RJ0, "checkBoundsOffCount", "(III)I"⟩
abbrev cJ0_checkBoundsBeginEnd_23922 : ByteArray := prog_30_method_158_code
def yJ0_checkBoundsBeginEnd_23922 : MethodName := ⟨RJ0, "checkBoundsBeginEnd", "(III)V"⟩
def RJ4 : String := "java/lang/StringBuilder"
def TJ4 : u_T := fun k => match k with
  | 0 => ("java/lang/AbstractStringBuilder", "value", "[B", false)
  | 1 => ("java/lang/AbstractStringBuilder", "coder", "B", false)
  | 2 => ("java/lang/AbstractStringBuilder", "maybeLatin1", "Z", false)
  | _ => ("java/lang/AbstractStringBuilder", "count", "I", false)
def tyJ4 : Nat → FieldType := fun k => match k with
  | 0 => .array .byte
  | 1 => .byte
  | 2 => .boolean
  | _ => .int
abbrev wsJ40 : List Cond := u_ws RJ4 TJ4 4
theorem nmJ4 : ∀ a, a < 4 → ∀ b, b < 4 → a ≠ b → (TJ4 a).2.1 ≠ (TJ4 b).2.1 := by decide +kernel
theorem tyJ4_ok : ∀ k, k < 4 → parseFieldDescriptor (TJ4 k).2.2.1 = some (tyJ4 k) := by decide +kernel
abbrev cJ4_init_da8c8 : ByteArray := prog_31_method_1_code
def yJ4_init_da8c8 : MethodName := ⟨RJ4, "<init>", "()V"⟩
abbrev cJ4_append_15ec4 : ByteArray := prog_31_method_7_code
def yJ4_append_15ec4 : MethodName := ⟨RJ4, "append", "(Ljava/lang/String;)Ljava/lang/StringBuilder;"⟩
abbrev cJ4_append_cf468 : ByteArray := prog_31_method_14_code
def yJ4_append_cf468 : MethodName := ⟨RJ4, "append", "(C)Ljava/lang/StringBuilder;"⟩
abbrev cJ4_append_bf812 : ByteArray := prog_31_method_15_code
def yJ4_append_bf812 : MethodName := ⟨RJ4, "append", "(I)Ljava/lang/StringBuilder;"⟩
abbrev cJ4_toString_0e30d : ByteArray := prog_31_method_42_code
def yJ4_toString_0e30d : MethodName := ⟨RJ4, "toString", "()Ljava/lang/String;"⟩
abbrev cJ4_charAt_5068e : ByteArray := prog_31_method_88_code
def yJ4_charAt_5068e : MethodName := ⟨RJ4, "charAt", "(I)C"⟩
abbrev cJ4_setLength_d00df : ByteArray := prog_31_method_89_code
def yJ4_setLength_d00df : MethodName := ⟨RJ4, "setLength", "(I)V"⟩
abbrev cJ4_length_8abf5 : ByteArray := prog_31_method_93_code
def yJ4_length_8abf5 : MethodName := ⟨RJ4, "length", "()I"⟩
def RJx7c733 : String := "java/lang/StringIndexOutOfBoundsException"
def TJx7c733 : u_T := fun k => match k with
  | 0 => ("java/lang/Throwable", "backtrace", "Ljava/lang/Object;", false)
  | 1 => ("java/lang/Throwable", "detailMessage", "Ljava/lang/String;", false)
  | 2 => ("java/lang/Throwable", "cause", "Ljava/lang/Throwable;", false)
  | 3 => ("java/lang/Throwable", "stackTrace", "[Ljava/lang/StackTraceElement;", false)
  | 4 => ("java/lang/Throwable", "depth", "I", false)
  | _ => ("java/lang/Throwable", "suppressedExceptions", "Ljava/util/List;", false)
def tyJx7c733 : Nat → FieldType := fun k => match k with
  | 0 => .object "java/lang/Object"
  | 1 => .object "java/lang/String"
  | 2 => .object "java/lang/Throwable"
  | 3 => .array (.object "java/lang/StackTraceElement")
  | 4 => .int
  | _ => .object "java/util/List"
abbrev wsJx7c7330 : List Cond := u_ws RJx7c733 TJx7c733 6
theorem nmJx7c733 : ∀ a, a < 6 → ∀ b, b < 6 → a ≠ b → (TJx7c733 a).2.1 ≠ (TJx7c733 b).2.1 := by decide +kernel
theorem tyJx7c733_ok : ∀ k, k < 6 → parseFieldDescriptor (TJx7c733 k).2.2.1 = some (tyJx7c733 k) := by decide +kernel
abbrev cJx7c733_init_d00df : ByteArray := prog_32_method_3_code
def yJx7c733_init_d00df : MethodName := ⟨RJx7c733, "<init>", "(I)V"⟩
def RJ1 : String := "java/lang/StringLatin1"
def TJ1 : u_T := fun k => match k with
  | _ => ("", "", "", false)
def tyJ1 : Nat → FieldType := fun k => match k with
  | _ => .int
abbrev wsJ10 : List Cond := u_ws RJ1 TJ1 0
theorem nmJ1 : ∀ a, a < 0 → ∀ b, b < 0 → a ≠ b → (TJ1 a).2.1 ≠ (TJ1 b).2.1 := by decide +kernel
theorem tyJ1_ok : ∀ k, k < 0 → parseFieldDescriptor (TJ1 k).2.2.1 = some (tyJ1 k) := by decide +kernel
abbrev cJ1_charAt_3b067 : ByteArray := prog_33_method_2_code
def yJ1_charAt_3b067 : MethodName := ⟨RJ1, "charAt", "([BI)C"⟩
abbrev cJ1_canEncode_fc78d : ByteArray := prog_33_method_3_code
def yJ1_canEncode_fc78d : MethodName := ⟨RJ1, "canEncode", "(C)Z"⟩
abbrev cJ1_fillNull_b72d1 : ByteArray := prog_33_method_48_code
def yJ1_fillNull_b72d1 : MethodName := ⟨RJ1, "fillNull", "([BII)V"⟩
abbrev cJ1_inflate_0e8fd : ByteArray := prog_33_method_50_code
def yJ1_inflate_0e8fd : MethodName := ⟨RJ1, "inflate", "([BI[BII)V"⟩
def RJ2 : String := "java/lang/StringUTF16"
def TJ2 : u_T := fun k => match k with
  | _ => ("", "", "", false)
def tyJ2 : Nat → FieldType := fun k => match k with
  | _ => .int
abbrev wsJ20 : List Cond := u_ws RJ2 TJ2 0
theorem nmJ2 : ∀ a, a < 0 → ∀ b, b < 0 → a ≠ b → (TJ2 a).2.1 ≠ (TJ2 b).2.1 := by decide +kernel
theorem tyJ2_ok : ∀ k, k < 0 → parseFieldDescriptor (TJ2 k).2.2.1 = some (tyJ2 k) := by decide +kernel
abbrev cJ2_newBytesFor_77867 : ByteArray := prog_34_method_2_code
def yJ2_newBytesFor_77867 : MethodName := ⟨RJ2, "newBytesFor", "(I)[B"⟩
abbrev cJ2_newBytesLength_0f7a4 : ByteArray := prog_34_method_3_code
def yJ2_newBytesLength_0f7a4 : MethodName := ⟨RJ2, "newBytesLength", "(I)I"⟩
abbrev cJ2_putChar_b72d1 : ByteArray := prog_34_method_4_code
def yJ2_putChar_b72d1 : MethodName := ⟨RJ2, "putChar", "([BII)V"⟩
abbrev cJ2_getChar_3b067 : ByteArray := prog_34_method_5_code
def yJ2_getChar_3b067 : MethodName := ⟨RJ2, "getChar", "([BI)C"⟩
abbrev cJ2_length_9d52b : ByteArray := prog_34_method_6_code
def yJ2_length_9d52b : MethodName := ⟨RJ2, "length", "([B)I"⟩
abbrev cJ2_coderFromArrayLen_85cad : ByteArray := prog_34_method_15_code
def yJ2_coderFromArrayLen_85cad : MethodName := ⟨RJ2, "coderFromArrayLen", "([BI)B"⟩
abbrev cJ2_compress_39247 : ByteArray := prog_34_method_17_code
def yJ2_compress_39247 : MethodName := ⟨RJ2, "compress", "([BII)[B"⟩
abbrev cJ2_compress_5af95 : ByteArray := prog_34_method_22_code
def yJ2_compress_5af95 : MethodName := ⟨RJ2, "compress", "([BI[BII)I"⟩
abbrev cJ2_fillNull_b72d1 : ByteArray := prog_34_method_70_code
def yJ2_fillNull_b72d1 : MethodName := ⟨RJ2, "fillNull", "([BII)V"⟩
abbrev cJ2_putCharSB_b72d1 : ByteArray := prog_34_method_71_code
def yJ2_putCharSB_b72d1 : MethodName := ⟨RJ2, "putCharSB", "([BII)V"⟩
abbrev cJ2_getChars_46870 : ByteArray := prog_34_method_77_code
def yJ2_getChars_46870 : MethodName := ⟨RJ2, "getChars", "(III[B)I"⟩
abbrev cJ2_putCharsAt_cd4e5 : ByteArray := prog_34_method_81_code
def yJ2_putCharsAt_cd4e5 : MethodName := ⟨RJ2, "putCharsAt", "([BICCCC)I"⟩
abbrev cJ2_charAt_3b067 : ByteArray := prog_34_method_83_code
def yJ2_charAt_3b067 : MethodName := ⟨RJ2, "charAt", "([BI)C"⟩
abbrev cJ2_inflate_0e8fd : ByteArray := prog_34_method_86_code
def yJ2_inflate_0e8fd : MethodName := ⟨RJ2, "inflate", "([BI[BII)V"⟩
abbrev cJ2_getChars_ba4f3 : ByteArray := prog_34_method_89_code
def yJ2_getChars_ba4f3 : MethodName := ⟨RJ2, "getChars", "(II[B)I"⟩
abbrev cJ2_checkIndex_2214a : ByteArray := prog_34_method_91_code
def yJ2_checkIndex_2214a : MethodName := ⟨RJ2, "checkIndex", "(I[B)V"⟩
abbrev cJ2_checkBoundsBeginEnd_d044e : ByteArray := prog_34_method_93_code
def yJ2_checkBoundsBeginEnd_d044e : MethodName := ⟨RJ2, "checkBoundsBeginEnd", "(II[B)V"⟩
abbrev cJ2_checkBoundsOffCount_d044e : ByteArray := prog_34_method_94_code
def yJ2_checkBoundsOffCount_d044e : MethodName := ⟨RJ2, "checkBoundsOffCount", "(II[B)V"⟩
def RJ10 : String := "java/lang/System"
def TJ10 : u_T := fun k => match k with
  | _ => ("", "", "", false)
def tyJ10 : Nat → FieldType := fun k => match k with
  | _ => .int
abbrev wsJ100 : List Cond := u_ws RJ10 TJ10 0
theorem nmJ10 : ∀ a, a < 0 → ∀ b, b < 0 → a ≠ b → (TJ10 a).2.1 ≠ (TJ10 b).2.1 := by decide +kernel
theorem tyJ10_ok : ∀ k, k < 0 → parseFieldDescriptor (TJ10 k).2.2.1 = some (tyJ10 k) := by decide +kernel
def RJxfd54e : String := "java/lang/constant/Constable"
def TJxfd54e : u_T := fun k => match k with
  | _ => ("", "", "", false)
def tyJxfd54e : Nat → FieldType := fun k => match k with
  | _ => .int
abbrev wsJxfd54e0 : List Cond := u_ws RJxfd54e TJxfd54e 0
theorem nmJxfd54e : ∀ a, a < 0 → ∀ b, b < 0 → a ≠ b → (TJxfd54e a).2.1 ≠ (TJxfd54e b).2.1 := by decide +kernel
theorem tyJxfd54e_ok : ∀ k, k < 0 → parseFieldDescriptor (TJxfd54e k).2.2.1 = some (tyJxfd54e k) := by decide +kernel
def RJx3cf43 : String := "java/lang/constant/ConstantDesc"
def TJx3cf43 : u_T := fun k => match k with
  | _ => ("", "", "", false)
def tyJx3cf43 : Nat → FieldType := fun k => match k with
  | _ => .int
abbrev wsJx3cf430 : List Cond := u_ws RJx3cf43 TJx3cf43 0
theorem nmJx3cf43 : ∀ a, a < 0 → ∀ b, b < 0 → a ≠ b → (TJx3cf43 a).2.1 ≠ (TJx3cf43 b).2.1 := by decide +kernel
theorem tyJx3cf43_ok : ∀ k, k < 0 → parseFieldDescriptor (TJx3cf43 k).2.2.1 = some (tyJx3cf43 k) := by decide +kernel
def RJ7 : String := "java/util/Arrays"
def TJ7 : u_T := fun k => match k with
  | _ => ("", "", "", false)
def tyJ7 : Nat → FieldType := fun k => match k with
  | _ => .int
abbrev wsJ70 : List Cond := u_ws RJ7 TJ7 0
theorem nmJ7 : ∀ a, a < 0 → ∀ b, b < 0 → a ≠ b → (TJ7 a).2.1 ≠ (TJ7 b).2.1 := by decide +kernel
theorem tyJ7_ok : ∀ k, k < 0 → parseFieldDescriptor (TJ7 k).2.2.1 = some (tyJ7 k) := by decide +kernel
abbrev cJ7_rangeCheck_23922 : ByteArray := prog_39_method_30_code
def yJ7_rangeCheck_23922 : MethodName := ⟨RJ7, "rangeCheck", "(III)V"⟩
abbrev cJ7_fill_53178 : ByteArray := prog_39_method_103_code
def yJ7_fill_53178 : MethodName := ⟨RJ7, "fill", "([II)V"⟩
abbrev cJ7_fill_eb02e : ByteArray := prog_39_method_110_code
def yJ7_fill_eb02e : MethodName := ⟨RJ7, "fill", "([BIIB)V"⟩
abbrev cJ7_copyOf_9075b : ByteArray := prog_39_method_121_code
def yJ7_copyOf_9075b : MethodName := ⟨RJ7, "copyOf", "([BI)[B"⟩
abbrev cJ7_checkLength_df160 : ByteArray := prog_39_method_131_code
def yJ7_checkLength_df160 : MethodName := ⟨RJ7, "checkLength", "(II)V"⟩
abbrev cJ7_copyOfRange_39247 : ByteArray := prog_39_method_132_code
def yJ7_copyOfRange_39247 : MethodName := ⟨RJ7, "copyOfRange", "([BII)[B"⟩
abbrev cJ7_copyOfRangeByte_39247 : ByteArray := prog_39_method_133_code
def yJ7_copyOfRangeByte_39247 : MethodName := ⟨RJ7, "copyOfRangeByte", "([BII)[B"⟩
def RJ8 : String := "jdk/internal/util/ArraysSupport"
def TJ8 : u_T := fun k => match k with
  | _ => ("", "", "", false)
def tyJ8 : Nat → FieldType := fun k => match k with
  | _ => .int
abbrev wsJ80 : List Cond := u_ws RJ8 TJ8 0
theorem nmJ8 : ∀ a, a < 0 → ∀ b, b < 0 → a ≠ b → (TJ8 a).2.1 ≠ (TJ8 b).2.1 := by decide +kernel
theorem tyJ8_ok : ∀ k, k < 0 → parseFieldDescriptor (TJ8 k).2.2.1 = some (tyJ8 k) := by decide +kernel
abbrev cJ8_newLength_cabcc : ByteArray := prog_41_method_27_code
def yJ8_newLength_cabcc : MethodName := ⟨RJ8, "newLength", "(III)I"⟩
abbrev cJ8_hugeLength_7cf53 : ByteArray := prog_41_method_28_code
def yJ8_hugeLength_7cf53 : MethodName := ⟨RJ8, "hugeLength", "(II)I"⟩
def RJ3 : String := "jdk/internal/util/Preconditions"
def TJ3 : u_T := fun k => match k with
  | _ => ("", "", "", false)
def tyJ3 : Nat → FieldType := fun k => match k with
  | _ => .int
abbrev wsJ30 : List Cond := u_ws RJ3 TJ3 0
theorem nmJ3 : ∀ a, a < 0 → ∀ b, b < 0 → a ≠ b → (TJ3 a).2.1 ≠ (TJ3 b).2.1 := by decide +kernel
theorem tyJ3_ok : ∀ k, k < 0 → parseFieldDescriptor (TJ3 k).2.2.1 = some (tyJ3 k) := by decide +kernel
abbrev cJ3_checkIndex_8e157 : ByteArray := prog_42_method_11_code
def yJ3_checkIndex_8e157 : MethodName := ⟨RJ3, "checkIndex", "(IILjava/util/function/BiFunction;)I"⟩
abbrev cJ3_checkFromToIndex_8c36e : ByteArray := prog_42_method_12_code
def yJ3_checkFromToIndex_8c36e : MethodName := ⟨RJ3, "checkFromToIndex", "(IIILjava/util/function/BiFunction;)I"⟩
abbrev cJ3_checkFromIndexSize_8c36e : ByteArray := prog_42_method_13_code
def yJ3_checkFromIndexSize_8c36e : MethodName := ⟨RJ3, "checkFromIndexSize", "(IIILjava/util/function/BiFunction;)I"⟩
def RL : String := "RasterboxLaw"
abbrev cL_poke : ByteArray := method_3_code
def yL_poke : MethodName := ⟨RL, "poke", "(LRasterbox;II[J)I"⟩
abbrev cL_pokeRom : ByteArray := method_4_code
def yL_pokeRom : MethodName := ⟨RL, "pokeRom", "(LRasterbox;II[J)I"⟩
abbrev cL_pokeCartridge : ByteArray := method_5_code
def yL_pokeCartridge : MethodName := ⟨RL, "pokeCartridge", "(LRasterbox;III[J)I"⟩
abbrev cL_peek : ByteArray := method_6_code
def yL_peek : MethodName := ⟨RL, "peek", "(LRasterbox;I[J)I"⟩
abbrev cL_ram : ByteArray := method_7_code
def yL_ram : MethodName := ⟨RL, "ram", "(LRasterbox;I[J)I"⟩
abbrev cL_assemble : ByteArray := method_8_code
def yL_assemble : MethodName := ⟨RL, "assemble", "(LRasterbox;III[J)I"⟩
abbrev cL_writeLine : ByteArray := method_9_code
def yL_writeLine : MethodName := ⟨RL, "writeLine", "(LRasterbox;I[J)I"⟩
abbrev cL_lineAt : ByteArray := method_10_code
def yL_lineAt : MethodName := ⟨RL, "lineAt", "(LRasterbox;I[J)I"⟩
abbrev cL_compare : ByteArray := method_11_code
def yL_compare : MethodName := ⟨RL, "compare", "(LRasterbox;III[J)I"⟩
abbrev cL_register : ByteArray := method_12_code
def yL_register : MethodName := ⟨RL, "register", "(LRasterbox;I[J)I"⟩
abbrev cL_setRegister : ByteArray := method_13_code
def yL_setRegister : MethodName := ⟨RL, "setRegister", "(LRasterbox;II[J)I"⟩
abbrev cL_run : ByteArray := method_14_code
def yL_run : MethodName := ⟨RL, "run", "(LRasterbox;I[J)I"⟩
abbrev cL_step : ByteArray := method_15_code
def yL_step : MethodName := ⟨RL, "step", "(LRasterbox;[J)I"⟩
abbrev cL_traceAt : ByteArray := method_16_code
def yL_traceAt : MethodName := ⟨RL, "traceAt", "(LRasterbox;I[J)I"⟩
abbrev cL_pixel : ByteArray := method_17_code
def yL_pixel : MethodName := ⟨RL, "pixel", "(LRasterbox;II[J)I"⟩
abbrev cL_pixelAgain : ByteArray := method_18_code
def yL_pixelAgain : MethodName := ⟨RL, "pixelAgain", "(LRasterbox;II[J)I"⟩
abbrev cL_sample : ByteArray := method_19_code
def yL_sample : MethodName := ⟨RL, "sample", "(LRasterbox;I[J)I"⟩
abbrev cL_level : ByteArray := method_20_code
def yL_level : MethodName := ⟨RL, "level", "(LRasterbox;I[J)I"⟩
abbrev cL_key : ByteArray := method_21_code
def yL_key : MethodName := ⟨RL, "key", "(LRasterbox;IIZ[J)I"⟩
abbrev cL_columns : ByteArray := method_22_code
def yL_columns : MethodName := ⟨RL, "columns", "(LRasterbox;I[J)I"⟩
abbrev cL_joystick : ByteArray := method_23_code
def yL_joystick : MethodName := ⟨RL, "joystick", "(LRasterbox;I[J)I"⟩
abbrev cL_addPulse : ByteArray := method_24_code
def yL_addPulse : MethodName := ⟨RL, "addPulse", "(LRasterbox;I[J)I"⟩
abbrev cL_save : ByteArray := method_25_code
def yL_save : MethodName := ⟨RL, "save", "(LRasterbox;[J)I"⟩
abbrev cL_restore : ByteArray := method_26_code
def yL_restore : MethodName := ⟨RL, "restore", "(LRasterbox;I[J)I"⟩
abbrev cL_differences : ByteArray := method_27_code
def yL_differences : MethodName := ⟨RL, "differences", "(LRasterbox;I[J)I"⟩
abbrev cL_recorded : ByteArray := method_28_code
def yL_recorded : MethodName := ⟨RL, "recorded", "(LRasterbox;[J)I"⟩
abbrev cL_isSame : ByteArray := method_29_code
def yL_isSame : MethodName := ⟨RL, "isSame", "(LRasterbox;[J)I"⟩
abbrev cL_law : ByteArray := code
def yL_law : MethodName := ⟨RL, "law", "([I)Z"⟩
abbrev vwCl : List vw_C := [(RJ0, TJ0, 4), (RJ4, TJ4, 4), (RJx00060, TJx00060, 6), (RJx7c733, TJx7c733, 6), (RX0, TX0, 9), (RX2, TX2, 4), (RX3, TX3, 3), (RX4, TX4, 5), (RX6, TX6, 13), (RX7, TX7, 8), (RX8, TX8, 2), (RX9, TX9, 5), (RX10, TX10, 5), (RX11, TX11, 6), (RX12, TX12, 40)]
/-! a row of decoding, out of bytes that are looked at once for many rows -/
def qd_pre : List UInt8 → List Nat → Bool
  | _, [] => true
  | [], _ :: _ => false
  | b :: bs, n :: ns => Nat.beq b.toNat n && qd_pre bs ns
def qd_bs (c : ByteArray) (p : Nat) (l : List Nat) : Bool := qd_pre (c.data.toList.drop p) l
theorem qd_pre_at : ∀ (l : List Nat) (bs : List UInt8) (k a : Nat) (r : List Nat), qd_pre bs l = true → l.drop k = a :: r → ∃ b, bs[k]? = some b ∧ b.toNat = a := by
  intro l
  induction l with
  | nil => intro bs k a r h e; rw [List.drop_nil] at e; cases e
  | cons n ns ih =>
    intro bs k a r h e
    cases bs with
    | nil => cases h
    | cons b bs =>
      have h1 : (Nat.beq b.toNat n && qd_pre bs ns) = true := h
      rw [Bool.and_eq_true] at h1
      cases k with
      | zero =>
        have e2 : n :: ns = a :: r := e
        refine ⟨b, rfl, ?_⟩
        rw [Nat.eq_of_beq_eq_true h1.1]
        exact (List.cons.inj e2).1
      | succ k => exact ih bs k a r h1.2 e
theorem qd_u1 {c : ByteArray} {l r : List Nat} {a : Nat} (p k : Nat) (h : qd_bs c p l = true) (e : l.drop k = a :: r) : (Reader.u1 : Decoder Nat) c (p + k) = .ok (a, p + k + 1) := by
  obtain ⟨b, e1, e2⟩ := qd_pre_at l _ k a r h e
  rw [List.getElem?_drop] at e1
  obtain ⟨hp, e3⟩ := List.getElem?_eq_some_iff.mp e1
  have hs : p + k < c.size := hp
  show (dite (p + k < c.size) _ _ : ByteArray → Nat → Except DecodeError (Nat × Nat)) c (p + k) = _
  rw [dif_pos hs]
  show Except.ok ((c[p + k]'hs).toNat, p + k + 1) = _
  have e4 : c[p + k]'hs = b := e3
  rw [e4, e2]
theorem qd_drop1 {l r : List Nat} {a : Nat} {k : Nat} (e : l.drop k = a :: r) : l.drop (k + 1) = r := by
  rw [← List.drop_drop, e]
  rfl
theorem qd_u2 {c : ByteArray} {l r : List Nat} {a b : Nat} (p k : Nat) (h : qd_bs c p l = true) (e : l.drop k = a :: b :: r) : (Reader.u2 : Decoder Nat) c (p + k) = .ok (a * 256 + b, p + k + 2) := by
  show Except.bind ((Reader.u1 : Decoder Nat) c (p + k)) _ = _
  rw [qd_u1 p k h e]
  show Except.bind ((Reader.u1 : Decoder Nat) c (p + (k + 1))) _ = _
  rw [qd_u1 p (k + 1) h (qd_drop1 e)]
  rfl
theorem qd_s1 {c : ByteArray} {l r : List Nat} {a : Nat} (p k : Nat) (h : qd_bs c p l = true) (e : l.drop k = a :: r) : (Reader.s1 : Decoder Int) c (p + k) = .ok (Reader.signed 8 a, p + k + 1) := by
  show Except.bind ((Reader.u1 : Decoder Nat) c (p + k)) _ = _
  rw [qd_u1 p k h e]
  rfl
theorem qd_s2 {c : ByteArray} {l r : List Nat} {a b : Nat} (p k : Nat) (h : qd_bs c p l = true) (e : l.drop k = a :: b :: r) : (Reader.s2 : Decoder Int) c (p + k) = .ok (Reader.signed 16 (a * 256 + b), p + k + 2) := by
  show Except.bind ((Reader.u2 : Decoder Nat) c (p + k)) _ = _
  rw [qd_u2 p k h e]
  rfl
theorem qd_dec {c : ByteArray} {p n : Nat} {i : Instr} (h : Decoder.instr p c p = .ok (i, p + n)) : decode c p = .ok (i, n) := by
  show Except.bind (Decoder.instr p c p) _ = _
  rw [h]
  show Except.ok (i, p + n - p) = _
  rw [Nat.add_sub_cancel_left]
theorem qd_o1 {c : ByteArray} {l r : List Nat} (p k : Nat) (h : qd_bs c p l = true) (e : l.drop k = 1 :: r) : decode c (p + k) = .ok (.aconst_null, 1) := by
  refine qd_dec ?_
  show Except.bind ((Reader.u1 : Decoder Nat) c (p + k)) _ = _
  rw [qd_u1 p k h e]
  rfl

theorem qd_o2 {c : ByteArray} {l r : List Nat} (p k : Nat) (h : qd_bs c p l = true) (e : l.drop k = 2 :: r) : decode c (p + k) = .ok (.iconst (-1), 1) := by
  refine qd_dec ?_
  show Except.bind ((Reader.u1 : Decoder Nat) c (p + k)) _ = _
  rw [qd_u1 p k h e]
  rfl

theorem qd_o3 {c : ByteArray} {l r : List Nat} (p k : Nat) (h : qd_bs c p l = true) (e : l.drop k = 3 :: r) : decode c (p + k) = .ok (.iconst 0, 1) := by
  refine qd_dec ?_
  show Except.bind ((Reader.u1 : Decoder Nat) c (p + k)) _ = _
  rw [qd_u1 p k h e]
  rfl

theorem qd_o4 {c : ByteArray} {l r : List Nat} (p k : Nat) (h : qd_bs c p l = true) (e : l.drop k = 4 :: r) : decode c (p + k) = .ok (.iconst 1, 1) := by
  refine qd_dec ?_
  show Except.bind ((Reader.u1 : Decoder Nat) c (p + k)) _ = _
  rw [qd_u1 p k h e]
  rfl

theorem qd_o5 {c : ByteArray} {l r : List Nat} (p k : Nat) (h : qd_bs c p l = true) (e : l.drop k = 5 :: r) : decode c (p + k) = .ok (.iconst 2, 1) := by
  refine qd_dec ?_
  show Except.bind ((Reader.u1 : Decoder Nat) c (p + k)) _ = _
  rw [qd_u1 p k h e]
  rfl

theorem qd_o6 {c : ByteArray} {l r : List Nat} (p k : Nat) (h : qd_bs c p l = true) (e : l.drop k = 6 :: r) : decode c (p + k) = .ok (.iconst 3, 1) := by
  refine qd_dec ?_
  show Except.bind ((Reader.u1 : Decoder Nat) c (p + k)) _ = _
  rw [qd_u1 p k h e]
  rfl

theorem qd_o7 {c : ByteArray} {l r : List Nat} (p k : Nat) (h : qd_bs c p l = true) (e : l.drop k = 7 :: r) : decode c (p + k) = .ok (.iconst 4, 1) := by
  refine qd_dec ?_
  show Except.bind ((Reader.u1 : Decoder Nat) c (p + k)) _ = _
  rw [qd_u1 p k h e]
  rfl

theorem qd_o8 {c : ByteArray} {l r : List Nat} (p k : Nat) (h : qd_bs c p l = true) (e : l.drop k = 8 :: r) : decode c (p + k) = .ok (.iconst 5, 1) := by
  refine qd_dec ?_
  show Except.bind ((Reader.u1 : Decoder Nat) c (p + k)) _ = _
  rw [qd_u1 p k h e]
  rfl

theorem qd_o9 {c : ByteArray} {l r : List Nat} (p k : Nat) (h : qd_bs c p l = true) (e : l.drop k = 9 :: r) : decode c (p + k) = .ok (.lconst 0, 1) := by
  refine qd_dec ?_
  show Except.bind ((Reader.u1 : Decoder Nat) c (p + k)) _ = _
  rw [qd_u1 p k h e]
  rfl

theorem qd_o10 {c : ByteArray} {l r : List Nat} (p k : Nat) (h : qd_bs c p l = true) (e : l.drop k = 10 :: r) : decode c (p + k) = .ok (.lconst 1, 1) := by
  refine qd_dec ?_
  show Except.bind ((Reader.u1 : Decoder Nat) c (p + k)) _ = _
  rw [qd_u1 p k h e]
  rfl

theorem qd_o16 {c : ByteArray} {l r : List Nat} {a : Nat} {n : Int} (p k : Nat) (h : qd_bs c p l = true) (e : l.drop k = 16 :: a :: r) (hn : Reader.signed 8 a = n) : decode c (p + k) = .ok (.bipush n, 2) := by
  refine qd_dec ?_
  show Except.bind ((Reader.u1 : Decoder Nat) c (p + k)) _ = _
  rw [qd_u1 p k h e]
  show Except.bind ((Reader.s1 : Decoder Int) c (p + (k + 1))) _ = _
  rw [qd_s1 p (k + 1) h (qd_drop1 e), hn]
  rfl

theorem qd_o17 {c : ByteArray} {l r : List Nat} {a b : Nat} {n : Int} (p k : Nat) (h : qd_bs c p l = true) (e : l.drop k = 17 :: a :: b :: r) (hn : Reader.signed 16 (a * 256 + b) = n) : decode c (p + k) = .ok (.sipush n, 3) := by
  refine qd_dec ?_
  show Except.bind ((Reader.u1 : Decoder Nat) c (p + k)) _ = _
  rw [qd_u1 p k h e]
  show Except.bind ((Reader.s2 : Decoder Int) c (p + (k + 1))) _ = _
  rw [qd_s2 p (k + 1) h (qd_drop1 e), hn]
  rfl

theorem qd_o18 {c : ByteArray} {l r : List Nat} {a : Nat} {n : Nat} (p k : Nat) (h : qd_bs c p l = true) (e : l.drop k = 18 :: a :: r) (hn : a = n) : decode c (p + k) = .ok (.ldc n, 2) := by
  refine qd_dec ?_
  show Except.bind ((Reader.u1 : Decoder Nat) c (p + k)) _ = _
  rw [qd_u1 p k h e]
  show Except.bind ((Reader.u1 : Decoder Nat) c (p + (k + 1))) _ = _
  rw [qd_u1 p (k + 1) h (qd_drop1 e), hn]
  rfl

theorem qd_o19 {c : ByteArray} {l r : List Nat} {a b : Nat} {n : Nat} (p k : Nat) (h : qd_bs c p l = true) (e : l.drop k = 19 :: a :: b :: r) (hn : a * 256 + b = n) : decode c (p + k) = .ok (.ldc_w n, 3) := by
  refine qd_dec ?_
  show Except.bind ((Reader.u1 : Decoder Nat) c (p + k)) _ = _
  rw [qd_u1 p k h e]
  show Except.bind ((Reader.u2 : Decoder Nat) c (p + (k + 1))) _ = _
  rw [qd_u2 p (k + 1) h (qd_drop1 e), hn]
  rfl

theorem qd_o20 {c : ByteArray} {l r : List Nat} {a b : Nat} {n : Nat} (p k : Nat) (h : qd_bs c p l = true) (e : l.drop k = 20 :: a :: b :: r) (hn : a * 256 + b = n) : decode c (p + k) = .ok (.ldc2_w n, 3) := by
  refine qd_dec ?_
  show Except.bind ((Reader.u1 : Decoder Nat) c (p + k)) _ = _
  rw [qd_u1 p k h e]
  show Except.bind ((Reader.u2 : Decoder Nat) c (p + (k + 1))) _ = _
  rw [qd_u2 p (k + 1) h (qd_drop1 e), hn]
  rfl

theorem qd_o21 {c : ByteArray} {l r : List Nat} {a : Nat} {n : Nat} (p k : Nat) (h : qd_bs c p l = true) (e : l.drop k = 21 :: a :: r) (hn : a = n) : decode c (p + k) = .ok (.iload n, 2) := by
  refine qd_dec ?_
  show Except.bind ((Reader.u1 : Decoder Nat) c (p + k)) _ = _
  rw [qd_u1 p k h e]
  show Except.bind ((Reader.u1 : Decoder Nat) c (p + (k + 1))) _ = _
  rw [qd_u1 p (k + 1) h (qd_drop1 e), hn]
  rfl

theorem qd_o25 {c : ByteArray} {l r : List Nat} {a : Nat} {n : Nat} (p k : Nat) (h : qd_bs c p l = true) (e : l.drop k = 25 :: a :: r) (hn : a = n) : decode c (p + k) = .ok (.aload n, 2) := by
  refine qd_dec ?_
  show Except.bind ((Reader.u1 : Decoder Nat) c (p + k)) _ = _
  rw [qd_u1 p k h e]
  show Except.bind ((Reader.u1 : Decoder Nat) c (p + (k + 1))) _ = _
  rw [qd_u1 p (k + 1) h (qd_drop1 e), hn]
  rfl

theorem qd_o26 {c : ByteArray} {l r : List Nat} (p k : Nat) (h : qd_bs c p l = true) (e : l.drop k = 26 :: r) : decode c (p + k) = .ok (.iload_n 0, 1) := by
  refine qd_dec ?_
  show Except.bind ((Reader.u1 : Decoder Nat) c (p + k)) _ = _
  rw [qd_u1 p k h e]
  rfl

theorem qd_o27 {c : ByteArray} {l r : List Nat} (p k : Nat) (h : qd_bs c p l = true) (e : l.drop k = 27 :: r) : decode c (p + k) = .ok (.iload_n 1, 1) := by
  refine qd_dec ?_
  show Except.bind ((Reader.u1 : Decoder Nat) c (p + k)) _ = _
  rw [qd_u1 p k h e]
  rfl

theorem qd_o28 {c : ByteArray} {l r : List Nat} (p k : Nat) (h : qd_bs c p l = true) (e : l.drop k = 28 :: r) : decode c (p + k) = .ok (.iload_n 2, 1) := by
  refine qd_dec ?_
  show Except.bind ((Reader.u1 : Decoder Nat) c (p + k)) _ = _
  rw [qd_u1 p k h e]
  rfl

theorem qd_o29 {c : ByteArray} {l r : List Nat} (p k : Nat) (h : qd_bs c p l = true) (e : l.drop k = 29 :: r) : decode c (p + k) = .ok (.iload_n 3, 1) := by
  refine qd_dec ?_
  show Except.bind ((Reader.u1 : Decoder Nat) c (p + k)) _ = _
  rw [qd_u1 p k h e]
  rfl

theorem qd_o42 {c : ByteArray} {l r : List Nat} (p k : Nat) (h : qd_bs c p l = true) (e : l.drop k = 42 :: r) : decode c (p + k) = .ok (.aload_n 0, 1) := by
  refine qd_dec ?_
  show Except.bind ((Reader.u1 : Decoder Nat) c (p + k)) _ = _
  rw [qd_u1 p k h e]
  rfl

theorem qd_o43 {c : ByteArray} {l r : List Nat} (p k : Nat) (h : qd_bs c p l = true) (e : l.drop k = 43 :: r) : decode c (p + k) = .ok (.aload_n 1, 1) := by
  refine qd_dec ?_
  show Except.bind ((Reader.u1 : Decoder Nat) c (p + k)) _ = _
  rw [qd_u1 p k h e]
  rfl

theorem qd_o44 {c : ByteArray} {l r : List Nat} (p k : Nat) (h : qd_bs c p l = true) (e : l.drop k = 44 :: r) : decode c (p + k) = .ok (.aload_n 2, 1) := by
  refine qd_dec ?_
  show Except.bind ((Reader.u1 : Decoder Nat) c (p + k)) _ = _
  rw [qd_u1 p k h e]
  rfl

theorem qd_o45 {c : ByteArray} {l r : List Nat} (p k : Nat) (h : qd_bs c p l = true) (e : l.drop k = 45 :: r) : decode c (p + k) = .ok (.aload_n 3, 1) := by
  refine qd_dec ?_
  show Except.bind ((Reader.u1 : Decoder Nat) c (p + k)) _ = _
  rw [qd_u1 p k h e]
  rfl

theorem qd_o46 {c : ByteArray} {l r : List Nat} (p k : Nat) (h : qd_bs c p l = true) (e : l.drop k = 46 :: r) : decode c (p + k) = .ok (.iaload, 1) := by
  refine qd_dec ?_
  show Except.bind ((Reader.u1 : Decoder Nat) c (p + k)) _ = _
  rw [qd_u1 p k h e]
  rfl

theorem qd_o47 {c : ByteArray} {l r : List Nat} (p k : Nat) (h : qd_bs c p l = true) (e : l.drop k = 47 :: r) : decode c (p + k) = .ok (.laload, 1) := by
  refine qd_dec ?_
  show Except.bind ((Reader.u1 : Decoder Nat) c (p + k)) _ = _
  rw [qd_u1 p k h e]
  rfl

theorem qd_o50 {c : ByteArray} {l r : List Nat} (p k : Nat) (h : qd_bs c p l = true) (e : l.drop k = 50 :: r) : decode c (p + k) = .ok (.aaload, 1) := by
  refine qd_dec ?_
  show Except.bind ((Reader.u1 : Decoder Nat) c (p + k)) _ = _
  rw [qd_u1 p k h e]
  rfl

theorem qd_o51 {c : ByteArray} {l r : List Nat} (p k : Nat) (h : qd_bs c p l = true) (e : l.drop k = 51 :: r) : decode c (p + k) = .ok (.baload, 1) := by
  refine qd_dec ?_
  show Except.bind ((Reader.u1 : Decoder Nat) c (p + k)) _ = _
  rw [qd_u1 p k h e]
  rfl

theorem qd_o52 {c : ByteArray} {l r : List Nat} (p k : Nat) (h : qd_bs c p l = true) (e : l.drop k = 52 :: r) : decode c (p + k) = .ok (.caload, 1) := by
  refine qd_dec ?_
  show Except.bind ((Reader.u1 : Decoder Nat) c (p + k)) _ = _
  rw [qd_u1 p k h e]
  rfl

theorem qd_o54 {c : ByteArray} {l r : List Nat} {a : Nat} {n : Nat} (p k : Nat) (h : qd_bs c p l = true) (e : l.drop k = 54 :: a :: r) (hn : a = n) : decode c (p + k) = .ok (.istore n, 2) := by
  refine qd_dec ?_
  show Except.bind ((Reader.u1 : Decoder Nat) c (p + k)) _ = _
  rw [qd_u1 p k h e]
  show Except.bind ((Reader.u1 : Decoder Nat) c (p + (k + 1))) _ = _
  rw [qd_u1 p (k + 1) h (qd_drop1 e), hn]
  rfl

theorem qd_o57 {c : ByteArray} {l r : List Nat} {a : Nat} {n : Nat} (p k : Nat) (h : qd_bs c p l = true) (e : l.drop k = 57 :: a :: r) (hn : a = n) : decode c (p + k) = .ok (.dstore n, 2) := by
  refine qd_dec ?_
  show Except.bind ((Reader.u1 : Decoder Nat) c (p + k)) _ = _
  rw [qd_u1 p k h e]
  show Except.bind ((Reader.u1 : Decoder Nat) c (p + (k + 1))) _ = _
  rw [qd_u1 p (k + 1) h (qd_drop1 e), hn]
  rfl

theorem qd_o58 {c : ByteArray} {l r : List Nat} {a : Nat} {n : Nat} (p k : Nat) (h : qd_bs c p l = true) (e : l.drop k = 58 :: a :: r) (hn : a = n) : decode c (p + k) = .ok (.astore n, 2) := by
  refine qd_dec ?_
  show Except.bind ((Reader.u1 : Decoder Nat) c (p + k)) _ = _
  rw [qd_u1 p k h e]
  show Except.bind ((Reader.u1 : Decoder Nat) c (p + (k + 1))) _ = _
  rw [qd_u1 p (k + 1) h (qd_drop1 e), hn]
  rfl

theorem qd_o59 {c : ByteArray} {l r : List Nat} (p k : Nat) (h : qd_bs c p l = true) (e : l.drop k = 59 :: r) : decode c (p + k) = .ok (.istore_n 0, 1) := by
  refine qd_dec ?_
  show Except.bind ((Reader.u1 : Decoder Nat) c (p + k)) _ = _
  rw [qd_u1 p k h e]
  rfl

theorem qd_o60 {c : ByteArray} {l r : List Nat} (p k : Nat) (h : qd_bs c p l = true) (e : l.drop k = 60 :: r) : decode c (p + k) = .ok (.istore_n 1, 1) := by
  refine qd_dec ?_
  show Except.bind ((Reader.u1 : Decoder Nat) c (p + k)) _ = _
  rw [qd_u1 p k h e]
  rfl

theorem qd_o61 {c : ByteArray} {l r : List Nat} (p k : Nat) (h : qd_bs c p l = true) (e : l.drop k = 61 :: r) : decode c (p + k) = .ok (.istore_n 2, 1) := by
  refine qd_dec ?_
  show Except.bind ((Reader.u1 : Decoder Nat) c (p + k)) _ = _
  rw [qd_u1 p k h e]
  rfl

theorem qd_o62 {c : ByteArray} {l r : List Nat} (p k : Nat) (h : qd_bs c p l = true) (e : l.drop k = 62 :: r) : decode c (p + k) = .ok (.istore_n 3, 1) := by
  refine qd_dec ?_
  show Except.bind ((Reader.u1 : Decoder Nat) c (p + k)) _ = _
  rw [qd_u1 p k h e]
  rfl

theorem qd_o76 {c : ByteArray} {l r : List Nat} (p k : Nat) (h : qd_bs c p l = true) (e : l.drop k = 76 :: r) : decode c (p + k) = .ok (.astore_n 1, 1) := by
  refine qd_dec ?_
  show Except.bind ((Reader.u1 : Decoder Nat) c (p + k)) _ = _
  rw [qd_u1 p k h e]
  rfl

theorem qd_o77 {c : ByteArray} {l r : List Nat} (p k : Nat) (h : qd_bs c p l = true) (e : l.drop k = 77 :: r) : decode c (p + k) = .ok (.astore_n 2, 1) := by
  refine qd_dec ?_
  show Except.bind ((Reader.u1 : Decoder Nat) c (p + k)) _ = _
  rw [qd_u1 p k h e]
  rfl

theorem qd_o78 {c : ByteArray} {l r : List Nat} (p k : Nat) (h : qd_bs c p l = true) (e : l.drop k = 78 :: r) : decode c (p + k) = .ok (.astore_n 3, 1) := by
  refine qd_dec ?_
  show Except.bind ((Reader.u1 : Decoder Nat) c (p + k)) _ = _
  rw [qd_u1 p k h e]
  rfl

theorem qd_o79 {c : ByteArray} {l r : List Nat} (p k : Nat) (h : qd_bs c p l = true) (e : l.drop k = 79 :: r) : decode c (p + k) = .ok (.iastore, 1) := by
  refine qd_dec ?_
  show Except.bind ((Reader.u1 : Decoder Nat) c (p + k)) _ = _
  rw [qd_u1 p k h e]
  rfl

theorem qd_o80 {c : ByteArray} {l r : List Nat} (p k : Nat) (h : qd_bs c p l = true) (e : l.drop k = 80 :: r) : decode c (p + k) = .ok (.lastore, 1) := by
  refine qd_dec ?_
  show Except.bind ((Reader.u1 : Decoder Nat) c (p + k)) _ = _
  rw [qd_u1 p k h e]
  rfl

theorem qd_o83 {c : ByteArray} {l r : List Nat} (p k : Nat) (h : qd_bs c p l = true) (e : l.drop k = 83 :: r) : decode c (p + k) = .ok (.aastore, 1) := by
  refine qd_dec ?_
  show Except.bind ((Reader.u1 : Decoder Nat) c (p + k)) _ = _
  rw [qd_u1 p k h e]
  rfl

theorem qd_o84 {c : ByteArray} {l r : List Nat} (p k : Nat) (h : qd_bs c p l = true) (e : l.drop k = 84 :: r) : decode c (p + k) = .ok (.bastore, 1) := by
  refine qd_dec ?_
  show Except.bind ((Reader.u1 : Decoder Nat) c (p + k)) _ = _
  rw [qd_u1 p k h e]
  rfl

theorem qd_o85 {c : ByteArray} {l r : List Nat} (p k : Nat) (h : qd_bs c p l = true) (e : l.drop k = 85 :: r) : decode c (p + k) = .ok (.castore, 1) := by
  refine qd_dec ?_
  show Except.bind ((Reader.u1 : Decoder Nat) c (p + k)) _ = _
  rw [qd_u1 p k h e]
  rfl

theorem qd_o87 {c : ByteArray} {l r : List Nat} (p k : Nat) (h : qd_bs c p l = true) (e : l.drop k = 87 :: r) : decode c (p + k) = .ok (.pop, 1) := by
  refine qd_dec ?_
  show Except.bind ((Reader.u1 : Decoder Nat) c (p + k)) _ = _
  rw [qd_u1 p k h e]
  rfl

theorem qd_o88 {c : ByteArray} {l r : List Nat} (p k : Nat) (h : qd_bs c p l = true) (e : l.drop k = 88 :: r) : decode c (p + k) = .ok (.pop2, 1) := by
  refine qd_dec ?_
  show Except.bind ((Reader.u1 : Decoder Nat) c (p + k)) _ = _
  rw [qd_u1 p k h e]
  rfl

theorem qd_o89 {c : ByteArray} {l r : List Nat} (p k : Nat) (h : qd_bs c p l = true) (e : l.drop k = 89 :: r) : decode c (p + k) = .ok (.dup, 1) := by
  refine qd_dec ?_
  show Except.bind ((Reader.u1 : Decoder Nat) c (p + k)) _ = _
  rw [qd_u1 p k h e]
  rfl

theorem qd_o90 {c : ByteArray} {l r : List Nat} (p k : Nat) (h : qd_bs c p l = true) (e : l.drop k = 90 :: r) : decode c (p + k) = .ok (.dup_x1, 1) := by
  refine qd_dec ?_
  show Except.bind ((Reader.u1 : Decoder Nat) c (p + k)) _ = _
  rw [qd_u1 p k h e]
  rfl

theorem qd_o92 {c : ByteArray} {l r : List Nat} (p k : Nat) (h : qd_bs c p l = true) (e : l.drop k = 92 :: r) : decode c (p + k) = .ok (.dup2, 1) := by
  refine qd_dec ?_
  show Except.bind ((Reader.u1 : Decoder Nat) c (p + k)) _ = _
  rw [qd_u1 p k h e]
  rfl

theorem qd_o96 {c : ByteArray} {l r : List Nat} (p k : Nat) (h : qd_bs c p l = true) (e : l.drop k = 96 :: r) : decode c (p + k) = .ok (.iadd, 1) := by
  refine qd_dec ?_
  show Except.bind ((Reader.u1 : Decoder Nat) c (p + k)) _ = _
  rw [qd_u1 p k h e]
  rfl

theorem qd_o97 {c : ByteArray} {l r : List Nat} (p k : Nat) (h : qd_bs c p l = true) (e : l.drop k = 97 :: r) : decode c (p + k) = .ok (.ladd, 1) := by
  refine qd_dec ?_
  show Except.bind ((Reader.u1 : Decoder Nat) c (p + k)) _ = _
  rw [qd_u1 p k h e]
  rfl

theorem qd_o100 {c : ByteArray} {l r : List Nat} (p k : Nat) (h : qd_bs c p l = true) (e : l.drop k = 100 :: r) : decode c (p + k) = .ok (.isub, 1) := by
  refine qd_dec ?_
  show Except.bind ((Reader.u1 : Decoder Nat) c (p + k)) _ = _
  rw [qd_u1 p k h e]
  rfl

theorem qd_o104 {c : ByteArray} {l r : List Nat} (p k : Nat) (h : qd_bs c p l = true) (e : l.drop k = 104 :: r) : decode c (p + k) = .ok (.imul, 1) := by
  refine qd_dec ?_
  show Except.bind ((Reader.u1 : Decoder Nat) c (p + k)) _ = _
  rw [qd_u1 p k h e]
  rfl

theorem qd_o108 {c : ByteArray} {l r : List Nat} (p k : Nat) (h : qd_bs c p l = true) (e : l.drop k = 108 :: r) : decode c (p + k) = .ok (.idiv, 1) := by
  refine qd_dec ?_
  show Except.bind ((Reader.u1 : Decoder Nat) c (p + k)) _ = _
  rw [qd_u1 p k h e]
  rfl

theorem qd_o109 {c : ByteArray} {l r : List Nat} (p k : Nat) (h : qd_bs c p l = true) (e : l.drop k = 109 :: r) : decode c (p + k) = .ok (.ldiv, 1) := by
  refine qd_dec ?_
  show Except.bind ((Reader.u1 : Decoder Nat) c (p + k)) _ = _
  rw [qd_u1 p k h e]
  rfl

theorem qd_o110 {c : ByteArray} {l r : List Nat} (p k : Nat) (h : qd_bs c p l = true) (e : l.drop k = 110 :: r) : decode c (p + k) = .ok (.fdiv, 1) := by
  refine qd_dec ?_
  show Except.bind ((Reader.u1 : Decoder Nat) c (p + k)) _ = _
  rw [qd_u1 p k h e]
  rfl

theorem qd_o111 {c : ByteArray} {l r : List Nat} (p k : Nat) (h : qd_bs c p l = true) (e : l.drop k = 111 :: r) : decode c (p + k) = .ok (.ddiv, 1) := by
  refine qd_dec ?_
  show Except.bind ((Reader.u1 : Decoder Nat) c (p + k)) _ = _
  rw [qd_u1 p k h e]
  rfl

theorem qd_o112 {c : ByteArray} {l r : List Nat} (p k : Nat) (h : qd_bs c p l = true) (e : l.drop k = 112 :: r) : decode c (p + k) = .ok (.irem, 1) := by
  refine qd_dec ?_
  show Except.bind ((Reader.u1 : Decoder Nat) c (p + k)) _ = _
  rw [qd_u1 p k h e]
  rfl

theorem qd_o113 {c : ByteArray} {l r : List Nat} (p k : Nat) (h : qd_bs c p l = true) (e : l.drop k = 113 :: r) : decode c (p + k) = .ok (.lrem, 1) := by
  refine qd_dec ?_
  show Except.bind ((Reader.u1 : Decoder Nat) c (p + k)) _ = _
  rw [qd_u1 p k h e]
  rfl

theorem qd_o116 {c : ByteArray} {l r : List Nat} (p k : Nat) (h : qd_bs c p l = true) (e : l.drop k = 116 :: r) : decode c (p + k) = .ok (.ineg, 1) := by
  refine qd_dec ?_
  show Except.bind ((Reader.u1 : Decoder Nat) c (p + k)) _ = _
  rw [qd_u1 p k h e]
  rfl

theorem qd_o120 {c : ByteArray} {l r : List Nat} (p k : Nat) (h : qd_bs c p l = true) (e : l.drop k = 120 :: r) : decode c (p + k) = .ok (.ishl, 1) := by
  refine qd_dec ?_
  show Except.bind ((Reader.u1 : Decoder Nat) c (p + k)) _ = _
  rw [qd_u1 p k h e]
  rfl

theorem qd_o122 {c : ByteArray} {l r : List Nat} (p k : Nat) (h : qd_bs c p l = true) (e : l.drop k = 122 :: r) : decode c (p + k) = .ok (.ishr, 1) := by
  refine qd_dec ?_
  show Except.bind ((Reader.u1 : Decoder Nat) c (p + k)) _ = _
  rw [qd_u1 p k h e]
  rfl

theorem qd_o124 {c : ByteArray} {l r : List Nat} (p k : Nat) (h : qd_bs c p l = true) (e : l.drop k = 124 :: r) : decode c (p + k) = .ok (.iushr, 1) := by
  refine qd_dec ?_
  show Except.bind ((Reader.u1 : Decoder Nat) c (p + k)) _ = _
  rw [qd_u1 p k h e]
  rfl

theorem qd_o126 {c : ByteArray} {l r : List Nat} (p k : Nat) (h : qd_bs c p l = true) (e : l.drop k = 126 :: r) : decode c (p + k) = .ok (.iand, 1) := by
  refine qd_dec ?_
  show Except.bind ((Reader.u1 : Decoder Nat) c (p + k)) _ = _
  rw [qd_u1 p k h e]
  rfl

theorem qd_o128 {c : ByteArray} {l r : List Nat} (p k : Nat) (h : qd_bs c p l = true) (e : l.drop k = 128 :: r) : decode c (p + k) = .ok (.ior, 1) := by
  refine qd_dec ?_
  show Except.bind ((Reader.u1 : Decoder Nat) c (p + k)) _ = _
  rw [qd_u1 p k h e]
  rfl

theorem qd_o130 {c : ByteArray} {l r : List Nat} (p k : Nat) (h : qd_bs c p l = true) (e : l.drop k = 130 :: r) : decode c (p + k) = .ok (.ixor, 1) := by
  refine qd_dec ?_
  show Except.bind ((Reader.u1 : Decoder Nat) c (p + k)) _ = _
  rw [qd_u1 p k h e]
  rfl

theorem qd_o132 {c : ByteArray} {l r : List Nat} {a b : Nat} {n : Int} (p k : Nat) (h : qd_bs c p l = true) (e : l.drop k = 132 :: a :: b :: r) (hn : Reader.signed 8 b = n) : decode c (p + k) = .ok (.iinc a n, 3) := by
  refine qd_dec ?_
  show Except.bind ((Reader.u1 : Decoder Nat) c (p + k)) _ = _
  rw [qd_u1 p k h e]
  show Except.bind ((Reader.u1 : Decoder Nat) c (p + (k + 1))) _ = _
  rw [qd_u1 p (k + 1) h (qd_drop1 e)]
  show Except.bind ((Reader.s1 : Decoder Int) c (p + (k + 1 + 1))) _ = _
  rw [qd_s1 p (k + 1 + 1) h (qd_drop1 (qd_drop1 e)), hn]
  rfl

theorem qd_o133 {c : ByteArray} {l r : List Nat} (p k : Nat) (h : qd_bs c p l = true) (e : l.drop k = 133 :: r) : decode c (p + k) = .ok (.i2l, 1) := by
  refine qd_dec ?_
  show Except.bind ((Reader.u1 : Decoder Nat) c (p + k)) _ = _
  rw [qd_u1 p k h e]
  rfl

theorem qd_o134 {c : ByteArray} {l r : List Nat} (p k : Nat) (h : qd_bs c p l = true) (e : l.drop k = 134 :: r) : decode c (p + k) = .ok (.i2f, 1) := by
  refine qd_dec ?_
  show Except.bind ((Reader.u1 : Decoder Nat) c (p + k)) _ = _
  rw [qd_u1 p k h e]
  rfl

theorem qd_o135 {c : ByteArray} {l r : List Nat} (p k : Nat) (h : qd_bs c p l = true) (e : l.drop k = 135 :: r) : decode c (p + k) = .ok (.i2d, 1) := by
  refine qd_dec ?_
  show Except.bind ((Reader.u1 : Decoder Nat) c (p + k)) _ = _
  rw [qd_u1 p k h e]
  rfl

theorem qd_o136 {c : ByteArray} {l r : List Nat} (p k : Nat) (h : qd_bs c p l = true) (e : l.drop k = 136 :: r) : decode c (p + k) = .ok (.l2i, 1) := by
  refine qd_dec ?_
  show Except.bind ((Reader.u1 : Decoder Nat) c (p + k)) _ = _
  rw [qd_u1 p k h e]
  rfl

theorem qd_o141 {c : ByteArray} {l r : List Nat} (p k : Nat) (h : qd_bs c p l = true) (e : l.drop k = 141 :: r) : decode c (p + k) = .ok (.f2d, 1) := by
  refine qd_dec ?_
  show Except.bind ((Reader.u1 : Decoder Nat) c (p + k)) _ = _
  rw [qd_u1 p k h e]
  rfl

theorem qd_o145 {c : ByteArray} {l r : List Nat} (p k : Nat) (h : qd_bs c p l = true) (e : l.drop k = 145 :: r) : decode c (p + k) = .ok (.i2b, 1) := by
  refine qd_dec ?_
  show Except.bind ((Reader.u1 : Decoder Nat) c (p + k)) _ = _
  rw [qd_u1 p k h e]
  rfl

theorem qd_o146 {c : ByteArray} {l r : List Nat} (p k : Nat) (h : qd_bs c p l = true) (e : l.drop k = 146 :: r) : decode c (p + k) = .ok (.i2c, 1) := by
  refine qd_dec ?_
  show Except.bind ((Reader.u1 : Decoder Nat) c (p + k)) _ = _
  rw [qd_u1 p k h e]
  rfl

theorem qd_o148 {c : ByteArray} {l r : List Nat} (p k : Nat) (h : qd_bs c p l = true) (e : l.drop k = 148 :: r) : decode c (p + k) = .ok (.lcmp, 1) := by
  refine qd_dec ?_
  show Except.bind ((Reader.u1 : Decoder Nat) c (p + k)) _ = _
  rw [qd_u1 p k h e]
  rfl

theorem qd_o153 {c : ByteArray} {l r : List Nat} {a b : Nat} {n : Int} (p k : Nat) (h : qd_bs c p l = true) (e : l.drop k = 153 :: a :: b :: r) (hn : Reader.signed 16 (a * 256 + b) = n) : decode c (p + k) = .ok (.ifCond .eq n, 3) := by
  refine qd_dec ?_
  show Except.bind ((Reader.u1 : Decoder Nat) c (p + k)) _ = _
  rw [qd_u1 p k h e]
  show Except.bind ((Reader.s2 : Decoder Int) c (p + (k + 1))) _ = _
  rw [qd_s2 p (k + 1) h (qd_drop1 e), hn]
  rfl

theorem qd_o154 {c : ByteArray} {l r : List Nat} {a b : Nat} {n : Int} (p k : Nat) (h : qd_bs c p l = true) (e : l.drop k = 154 :: a :: b :: r) (hn : Reader.signed 16 (a * 256 + b) = n) : decode c (p + k) = .ok (.ifCond .ne n, 3) := by
  refine qd_dec ?_
  show Except.bind ((Reader.u1 : Decoder Nat) c (p + k)) _ = _
  rw [qd_u1 p k h e]
  show Except.bind ((Reader.s2 : Decoder Int) c (p + (k + 1))) _ = _
  rw [qd_s2 p (k + 1) h (qd_drop1 e), hn]
  rfl

theorem qd_o155 {c : ByteArray} {l r : List Nat} {a b : Nat} {n : Int} (p k : Nat) (h : qd_bs c p l = true) (e : l.drop k = 155 :: a :: b :: r) (hn : Reader.signed 16 (a * 256 + b) = n) : decode c (p + k) = .ok (.ifCond .lt n, 3) := by
  refine qd_dec ?_
  show Except.bind ((Reader.u1 : Decoder Nat) c (p + k)) _ = _
  rw [qd_u1 p k h e]
  show Except.bind ((Reader.s2 : Decoder Int) c (p + (k + 1))) _ = _
  rw [qd_s2 p (k + 1) h (qd_drop1 e), hn]
  rfl

theorem qd_o156 {c : ByteArray} {l r : List Nat} {a b : Nat} {n : Int} (p k : Nat) (h : qd_bs c p l = true) (e : l.drop k = 156 :: a :: b :: r) (hn : Reader.signed 16 (a * 256 + b) = n) : decode c (p + k) = .ok (.ifCond .ge n, 3) := by
  refine qd_dec ?_
  show Except.bind ((Reader.u1 : Decoder Nat) c (p + k)) _ = _
  rw [qd_u1 p k h e]
  show Except.bind ((Reader.s2 : Decoder Int) c (p + (k + 1))) _ = _
  rw [qd_s2 p (k + 1) h (qd_drop1 e), hn]
  rfl

theorem qd_o158 {c : ByteArray} {l r : List Nat} {a b : Nat} {n : Int} (p k : Nat) (h : qd_bs c p l = true) (e : l.drop k = 158 :: a :: b :: r) (hn : Reader.signed 16 (a * 256 + b) = n) : decode c (p + k) = .ok (.ifCond .le n, 3) := by
  refine qd_dec ?_
  show Except.bind ((Reader.u1 : Decoder Nat) c (p + k)) _ = _
  rw [qd_u1 p k h e]
  show Except.bind ((Reader.s2 : Decoder Int) c (p + (k + 1))) _ = _
  rw [qd_s2 p (k + 1) h (qd_drop1 e), hn]
  rfl

theorem qd_o159 {c : ByteArray} {l r : List Nat} {a b : Nat} {n : Int} (p k : Nat) (h : qd_bs c p l = true) (e : l.drop k = 159 :: a :: b :: r) (hn : Reader.signed 16 (a * 256 + b) = n) : decode c (p + k) = .ok (.if_icmp .eq n, 3) := by
  refine qd_dec ?_
  show Except.bind ((Reader.u1 : Decoder Nat) c (p + k)) _ = _
  rw [qd_u1 p k h e]
  show Except.bind ((Reader.s2 : Decoder Int) c (p + (k + 1))) _ = _
  rw [qd_s2 p (k + 1) h (qd_drop1 e), hn]
  rfl

theorem qd_o160 {c : ByteArray} {l r : List Nat} {a b : Nat} {n : Int} (p k : Nat) (h : qd_bs c p l = true) (e : l.drop k = 160 :: a :: b :: r) (hn : Reader.signed 16 (a * 256 + b) = n) : decode c (p + k) = .ok (.if_icmp .ne n, 3) := by
  refine qd_dec ?_
  show Except.bind ((Reader.u1 : Decoder Nat) c (p + k)) _ = _
  rw [qd_u1 p k h e]
  show Except.bind ((Reader.s2 : Decoder Int) c (p + (k + 1))) _ = _
  rw [qd_s2 p (k + 1) h (qd_drop1 e), hn]
  rfl

theorem qd_o161 {c : ByteArray} {l r : List Nat} {a b : Nat} {n : Int} (p k : Nat) (h : qd_bs c p l = true) (e : l.drop k = 161 :: a :: b :: r) (hn : Reader.signed 16 (a * 256 + b) = n) : decode c (p + k) = .ok (.if_icmp .lt n, 3) := by
  refine qd_dec ?_
  show Except.bind ((Reader.u1 : Decoder Nat) c (p + k)) _ = _
  rw [qd_u1 p k h e]
  show Except.bind ((Reader.s2 : Decoder Int) c (p + (k + 1))) _ = _
  rw [qd_s2 p (k + 1) h (qd_drop1 e), hn]
  rfl

theorem qd_o162 {c : ByteArray} {l r : List Nat} {a b : Nat} {n : Int} (p k : Nat) (h : qd_bs c p l = true) (e : l.drop k = 162 :: a :: b :: r) (hn : Reader.signed 16 (a * 256 + b) = n) : decode c (p + k) = .ok (.if_icmp .ge n, 3) := by
  refine qd_dec ?_
  show Except.bind ((Reader.u1 : Decoder Nat) c (p + k)) _ = _
  rw [qd_u1 p k h e]
  show Except.bind ((Reader.s2 : Decoder Int) c (p + (k + 1))) _ = _
  rw [qd_s2 p (k + 1) h (qd_drop1 e), hn]
  rfl

theorem qd_o163 {c : ByteArray} {l r : List Nat} {a b : Nat} {n : Int} (p k : Nat) (h : qd_bs c p l = true) (e : l.drop k = 163 :: a :: b :: r) (hn : Reader.signed 16 (a * 256 + b) = n) : decode c (p + k) = .ok (.if_icmp .gt n, 3) := by
  refine qd_dec ?_
  show Except.bind ((Reader.u1 : Decoder Nat) c (p + k)) _ = _
  rw [qd_u1 p k h e]
  show Except.bind ((Reader.s2 : Decoder Int) c (p + (k + 1))) _ = _
  rw [qd_s2 p (k + 1) h (qd_drop1 e), hn]
  rfl

theorem qd_o164 {c : ByteArray} {l r : List Nat} {a b : Nat} {n : Int} (p k : Nat) (h : qd_bs c p l = true) (e : l.drop k = 164 :: a :: b :: r) (hn : Reader.signed 16 (a * 256 + b) = n) : decode c (p + k) = .ok (.if_icmp .le n, 3) := by
  refine qd_dec ?_
  show Except.bind ((Reader.u1 : Decoder Nat) c (p + k)) _ = _
  rw [qd_u1 p k h e]
  show Except.bind ((Reader.s2 : Decoder Int) c (p + (k + 1))) _ = _
  rw [qd_s2 p (k + 1) h (qd_drop1 e), hn]
  rfl

theorem qd_o167 {c : ByteArray} {l r : List Nat} {a b : Nat} {n : Int} (p k : Nat) (h : qd_bs c p l = true) (e : l.drop k = 167 :: a :: b :: r) (hn : Reader.signed 16 (a * 256 + b) = n) : decode c (p + k) = .ok (.goto n, 3) := by
  refine qd_dec ?_
  show Except.bind ((Reader.u1 : Decoder Nat) c (p + k)) _ = _
  rw [qd_u1 p k h e]
  show Except.bind ((Reader.s2 : Decoder Int) c (p + (k + 1))) _ = _
  rw [qd_s2 p (k + 1) h (qd_drop1 e), hn]
  rfl

theorem qd_o172 {c : ByteArray} {l r : List Nat} (p k : Nat) (h : qd_bs c p l = true) (e : l.drop k = 172 :: r) : decode c (p + k) = .ok (.ireturn, 1) := by
  refine qd_dec ?_
  show Except.bind ((Reader.u1 : Decoder Nat) c (p + k)) _ = _
  rw [qd_u1 p k h e]
  rfl

theorem qd_o173 {c : ByteArray} {l r : List Nat} (p k : Nat) (h : qd_bs c p l = true) (e : l.drop k = 173 :: r) : decode c (p + k) = .ok (.lreturn, 1) := by
  refine qd_dec ?_
  show Except.bind ((Reader.u1 : Decoder Nat) c (p + k)) _ = _
  rw [qd_u1 p k h e]
  rfl

theorem qd_o174 {c : ByteArray} {l r : List Nat} (p k : Nat) (h : qd_bs c p l = true) (e : l.drop k = 174 :: r) : decode c (p + k) = .ok (.freturn, 1) := by
  refine qd_dec ?_
  show Except.bind ((Reader.u1 : Decoder Nat) c (p + k)) _ = _
  rw [qd_u1 p k h e]
  rfl

theorem qd_o175 {c : ByteArray} {l r : List Nat} (p k : Nat) (h : qd_bs c p l = true) (e : l.drop k = 175 :: r) : decode c (p + k) = .ok (.dreturn, 1) := by
  refine qd_dec ?_
  show Except.bind ((Reader.u1 : Decoder Nat) c (p + k)) _ = _
  rw [qd_u1 p k h e]
  rfl

theorem qd_o176 {c : ByteArray} {l r : List Nat} (p k : Nat) (h : qd_bs c p l = true) (e : l.drop k = 176 :: r) : decode c (p + k) = .ok (.areturn, 1) := by
  refine qd_dec ?_
  show Except.bind ((Reader.u1 : Decoder Nat) c (p + k)) _ = _
  rw [qd_u1 p k h e]
  rfl

theorem qd_o177 {c : ByteArray} {l r : List Nat} (p k : Nat) (h : qd_bs c p l = true) (e : l.drop k = 177 :: r) : decode c (p + k) = .ok (.return_, 1) := by
  refine qd_dec ?_
  show Except.bind ((Reader.u1 : Decoder Nat) c (p + k)) _ = _
  rw [qd_u1 p k h e]
  rfl

theorem qd_o178 {c : ByteArray} {l r : List Nat} {a b : Nat} {n : Nat} (p k : Nat) (h : qd_bs c p l = true) (e : l.drop k = 178 :: a :: b :: r) (hn : a * 256 + b = n) : decode c (p + k) = .ok (.getstatic n, 3) := by
  refine qd_dec ?_
  show Except.bind ((Reader.u1 : Decoder Nat) c (p + k)) _ = _
  rw [qd_u1 p k h e]
  show Except.bind ((Reader.u2 : Decoder Nat) c (p + (k + 1))) _ = _
  rw [qd_u2 p (k + 1) h (qd_drop1 e), hn]
  rfl

theorem qd_o180 {c : ByteArray} {l r : List Nat} {a b : Nat} {n : Nat} (p k : Nat) (h : qd_bs c p l = true) (e : l.drop k = 180 :: a :: b :: r) (hn : a * 256 + b = n) : decode c (p + k) = .ok (.getfield n, 3) := by
  refine qd_dec ?_
  show Except.bind ((Reader.u1 : Decoder Nat) c (p + k)) _ = _
  rw [qd_u1 p k h e]
  show Except.bind ((Reader.u2 : Decoder Nat) c (p + (k + 1))) _ = _
  rw [qd_u2 p (k + 1) h (qd_drop1 e), hn]
  rfl

theorem qd_o181 {c : ByteArray} {l r : List Nat} {a b : Nat} {n : Nat} (p k : Nat) (h : qd_bs c p l = true) (e : l.drop k = 181 :: a :: b :: r) (hn : a * 256 + b = n) : decode c (p + k) = .ok (.putfield n, 3) := by
  refine qd_dec ?_
  show Except.bind ((Reader.u1 : Decoder Nat) c (p + k)) _ = _
  rw [qd_u1 p k h e]
  show Except.bind ((Reader.u2 : Decoder Nat) c (p + (k + 1))) _ = _
  rw [qd_u2 p (k + 1) h (qd_drop1 e), hn]
  rfl

theorem qd_o182 {c : ByteArray} {l r : List Nat} {a b : Nat} {n : Nat} (p k : Nat) (h : qd_bs c p l = true) (e : l.drop k = 182 :: a :: b :: r) (hn : a * 256 + b = n) : decode c (p + k) = .ok (.invokevirtual n, 3) := by
  refine qd_dec ?_
  show Except.bind ((Reader.u1 : Decoder Nat) c (p + k)) _ = _
  rw [qd_u1 p k h e]
  show Except.bind ((Reader.u2 : Decoder Nat) c (p + (k + 1))) _ = _
  rw [qd_u2 p (k + 1) h (qd_drop1 e), hn]
  rfl

theorem qd_o183 {c : ByteArray} {l r : List Nat} {a b : Nat} {n : Nat} (p k : Nat) (h : qd_bs c p l = true) (e : l.drop k = 183 :: a :: b :: r) (hn : a * 256 + b = n) : decode c (p + k) = .ok (.invokespecial n, 3) := by
  refine qd_dec ?_
  show Except.bind ((Reader.u1 : Decoder Nat) c (p + k)) _ = _
  rw [qd_u1 p k h e]
  show Except.bind ((Reader.u2 : Decoder Nat) c (p + (k + 1))) _ = _
  rw [qd_u2 p (k + 1) h (qd_drop1 e), hn]
  rfl

theorem qd_o184 {c : ByteArray} {l r : List Nat} {a b : Nat} {n : Nat} (p k : Nat) (h : qd_bs c p l = true) (e : l.drop k = 184 :: a :: b :: r) (hn : a * 256 + b = n) : decode c (p + k) = .ok (.invokestatic n, 3) := by
  refine qd_dec ?_
  show Except.bind ((Reader.u1 : Decoder Nat) c (p + k)) _ = _
  rw [qd_u1 p k h e]
  show Except.bind ((Reader.u2 : Decoder Nat) c (p + (k + 1))) _ = _
  rw [qd_u2 p (k + 1) h (qd_drop1 e), hn]
  rfl

theorem qd_o187 {c : ByteArray} {l r : List Nat} {a b : Nat} {n : Nat} (p k : Nat) (h : qd_bs c p l = true) (e : l.drop k = 187 :: a :: b :: r) (hn : a * 256 + b = n) : decode c (p + k) = .ok (.new n, 3) := by
  refine qd_dec ?_
  show Except.bind ((Reader.u1 : Decoder Nat) c (p + k)) _ = _
  rw [qd_u1 p k h e]
  show Except.bind ((Reader.u2 : Decoder Nat) c (p + (k + 1))) _ = _
  rw [qd_u2 p (k + 1) h (qd_drop1 e), hn]
  rfl

theorem qd_o189 {c : ByteArray} {l r : List Nat} {a b : Nat} {n : Nat} (p k : Nat) (h : qd_bs c p l = true) (e : l.drop k = 189 :: a :: b :: r) (hn : a * 256 + b = n) : decode c (p + k) = .ok (.anewarray n, 3) := by
  refine qd_dec ?_
  show Except.bind ((Reader.u1 : Decoder Nat) c (p + k)) _ = _
  rw [qd_u1 p k h e]
  show Except.bind ((Reader.u2 : Decoder Nat) c (p + (k + 1))) _ = _
  rw [qd_u2 p (k + 1) h (qd_drop1 e), hn]
  rfl

theorem qd_o190 {c : ByteArray} {l r : List Nat} (p k : Nat) (h : qd_bs c p l = true) (e : l.drop k = 190 :: r) : decode c (p + k) = .ok (.arraylength, 1) := by
  refine qd_dec ?_
  show Except.bind ((Reader.u1 : Decoder Nat) c (p + k)) _ = _
  rw [qd_u1 p k h e]
  rfl

theorem qd_o191 {c : ByteArray} {l r : List Nat} (p k : Nat) (h : qd_bs c p l = true) (e : l.drop k = 191 :: r) : decode c (p + k) = .ok (.athrow, 1) := by
  refine qd_dec ?_
  show Except.bind ((Reader.u1 : Decoder Nat) c (p + k)) _ = _
  rw [qd_u1 p k h e]
  rfl

theorem qd_o192 {c : ByteArray} {l r : List Nat} {a b : Nat} {n : Nat} (p k : Nat) (h : qd_bs c p l = true) (e : l.drop k = 192 :: a :: b :: r) (hn : a * 256 + b = n) : decode c (p + k) = .ok (.checkcast n, 3) := by
  refine qd_dec ?_
  show Except.bind ((Reader.u1 : Decoder Nat) c (p + k)) _ = _
  rw [qd_u1 p k h e]
  show Except.bind ((Reader.u2 : Decoder Nat) c (p + (k + 1))) _ = _
  rw [qd_u2 p (k + 1) h (qd_drop1 e), hn]
  rfl

theorem qd_o199 {c : ByteArray} {l r : List Nat} {a b : Nat} {n : Int} (p k : Nat) (h : qd_bs c p l = true) (e : l.drop k = 199 :: a :: b :: r) (hn : Reader.signed 16 (a * 256 + b) = n) : decode c (p + k) = .ok (.ifnonnull n, 3) := by
  refine qd_dec ?_
  show Except.bind ((Reader.u1 : Decoder Nat) c (p + k)) _ = _
  rw [qd_u1 p k h e]
  show Except.bind ((Reader.s2 : Decoder Int) c (p + (k + 1))) _ = _
  rw [qd_s2 p (k + 1) h (qd_drop1 e), hn]
  rfl

