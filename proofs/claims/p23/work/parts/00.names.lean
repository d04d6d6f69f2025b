section
-- 00.names
theorem qn_t1 : ∀ w ∈ tables_1_1, w ∈ tables_1 := fun w h => show w ∈ tables_1 from List.mem_append_left _ h
theorem qn_t2 : ∀ w ∈ tables_1_2, w ∈ tables_1 := fun w h => show w ∈ tables_1 from List.mem_append_right _ (List.mem_append_left _ h)
theorem qn_t3 : ∀ w ∈ tables_1_3, w ∈ tables_1 := fun w h => show w ∈ tables_1 from List.mem_append_right _ (List.mem_append_right _ (List.mem_append_left _ h))
theorem qn_t4 : ∀ w ∈ tables_1_4, w ∈ tables_1 := fun w h => show w ∈ tables_1 from List.mem_append_right _ (List.mem_append_right _ (List.mem_append_right _ (List.mem_append_left _ h)))
theorem qn_t5 : ∀ w ∈ tables_1_5, w ∈ tables_1 := fun w h => show w ∈ tables_1 from List.mem_append_right _ (List.mem_append_right _ (List.mem_append_right _ (List.mem_append_right _ (List.mem_append_left _ h))))
theorem qn_t6 : ∀ w ∈ tables_1_6, w ∈ tables_1 := fun w h => show w ∈ tables_1 from List.mem_append_right _ (List.mem_append_right _ (List.mem_append_right _ (List.mem_append_right _ (List.mem_append_right _ (List.mem_append_left _ h)))))
theorem qn_t7 : ∀ w ∈ tables_1_7, w ∈ tables_1 := fun w h => show w ∈ tables_1 from List.mem_append_right _ (List.mem_append_right _ (List.mem_append_right _ (List.mem_append_right _ (List.mem_append_right _ (List.mem_append_right _ (List.mem_append_left _ h))))))
theorem qn_t8 : ∀ w ∈ tables_1_8, w ∈ tables_1 := fun w h => show w ∈ tables_1 from List.mem_append_right _ (List.mem_append_right _ (List.mem_append_right _ (List.mem_append_right _ (List.mem_append_right _ (List.mem_append_right _ (List.mem_append_right _ (List.mem_append_left _ h)))))))
theorem qn_t9 : ∀ w ∈ tables_1_9, w ∈ tables_1 := fun w h => show w ∈ tables_1 from List.mem_append_right _ (List.mem_append_right _ (List.mem_append_right _ (List.mem_append_right _ (List.mem_append_right _ (List.mem_append_right _ (List.mem_append_right _ (List.mem_append_right _ (List.mem_append_left _ h))))))))
theorem qn_t10 : ∀ w ∈ tables_1_10, w ∈ tables_1 := fun w h => show w ∈ tables_1 from List.mem_append_right _ (List.mem_append_right _ (List.mem_append_right _ (List.mem_append_right _ (List.mem_append_right _ (List.mem_append_right _ (List.mem_append_right _ (List.mem_append_right _ (List.mem_append_right _ (h)))))))))
/-- a private method of a class that the tables say can be made, by its rows of tables_1 -/
def lw_okq (q : MethodName × Nat) : Prop := (q.1.cls ≠ "java/lang/invoke/MethodHandle" ∧ q.1.cls ≠ "java/lang/invoke/VarHandle") ∧ Cond.instantiable q.1.cls q.2 ∈ tables_1 ∧ Cond.privateMethod q.1 ∈ tables_1 ∧ Cond.instanceMethod q.1 ∈ tables_1
theorem lw_p0 : lw_okq (⟨"java/lang/Throwable", "fillInStackTrace", "(I)Ljava/lang/Throwable;"⟩, 6) := ⟨⟨by decide +kernel, by decide +kernel⟩, qn_t4 _ (List.mem_of_getElem? (i := 217) rfl), qn_t4 _ (List.mem_of_getElem? (i := 215) rfl), qn_t4 _ (List.mem_of_getElem? (i := 216) rfl)⟩
theorem lw_p1 : lw_okq (⟨"Rasterbox", "snapshotOf", "(I)LRasterbox$Machine;"⟩, 6) := ⟨⟨by decide +kernel, by decide +kernel⟩, qn_t1 _ (List.mem_of_getElem? (i := 36) rfl), qn_t7 _ (List.mem_of_getElem? (i := 99) rfl), qn_t7 _ (List.mem_of_getElem? (i := 100) rfl)⟩
theorem lw_p2 : lw_okq (⟨"RasterboxModel", "fails", "(I)Z"⟩, 40) := ⟨⟨by decide +kernel, by decide +kernel⟩, qn_t7 _ (List.mem_of_getElem? (i := 159) rfl), qn_t8 _ (List.mem_of_getElem? (i := 66) rfl), qn_t8 _ (List.mem_of_getElem? (i := 67) rfl)⟩
theorem lw_p3 : lw_okq (⟨"RasterboxModel", "reads", "(I)I"⟩, 40) := ⟨⟨by decide +kernel, by decide +kernel⟩, qn_t7 _ (List.mem_of_getElem? (i := 159) rfl), qn_t8 _ (List.mem_of_getElem? (i := 70) rfl), qn_t8 _ (List.mem_of_getElem? (i := 71) rfl)⟩
theorem lw_p4 : lw_okq (⟨"RasterboxModel", "readRegister", "(I)I"⟩, 40) := ⟨⟨by decide +kernel, by decide +kernel⟩, qn_t7 _ (List.mem_of_getElem? (i := 159) rfl), qn_t8 _ (List.mem_of_getElem? (i := 74) rfl), qn_t8 _ (List.mem_of_getElem? (i := 75) rfl)⟩
theorem lw_p5 : lw_okq (⟨"RasterboxModel", "lineNow", "()I"⟩, 40) := ⟨⟨by decide +kernel, by decide +kernel⟩, qn_t7 _ (List.mem_of_getElem? (i := 159) rfl), qn_t8 _ (List.mem_of_getElem? (i := 78) rfl), qn_t8 _ (List.mem_of_getElem? (i := 79) rfl)⟩
theorem lw_p6 : lw_okq (⟨"RasterboxModel", "seenColumns", "(I)I"⟩, 40) := ⟨⟨by decide +kernel, by decide +kernel⟩, qn_t7 _ (List.mem_of_getElem? (i := 159) rfl), qn_t8 _ (List.mem_of_getElem? (i := 84) rfl), qn_t8 _ (List.mem_of_getElem? (i := 85) rfl)⟩
theorem lw_p7 : lw_okq (⟨"RasterboxModel", "hasPulse", "()Z"⟩, 40) := ⟨⟨by decide +kernel, by decide +kernel⟩, qn_t7 _ (List.mem_of_getElem? (i := 159) rfl), qn_t8 _ (List.mem_of_getElem? (i := 91) rfl), qn_t8 _ (List.mem_of_getElem? (i := 92) rfl)⟩
theorem lw_p8 : lw_okq (⟨"RasterboxModel", "writes", "(II)V"⟩, 40) := ⟨⟨by decide +kernel, by decide +kernel⟩, qn_t7 _ (List.mem_of_getElem? (i := 159) rfl), qn_t8 _ (List.mem_of_getElem? (i := 95) rfl), qn_t8 _ (List.mem_of_getElem? (i := 96) rfl)⟩
theorem lw_p9 : lw_okq (⟨"RasterboxModel", "writeRegister", "(II)V"⟩, 40) := ⟨⟨by decide +kernel, by decide +kernel⟩, qn_t7 _ (List.mem_of_getElem? (i := 159) rfl), qn_t8 _ (List.mem_of_getElem? (i := 99) rfl), qn_t8 _ (List.mem_of_getElem? (i := 100) rfl)⟩
theorem lw_p10 : lw_okq (⟨"RasterboxModel", "keeps", "()V"⟩, 40) := ⟨⟨by decide +kernel, by decide +kernel⟩, qn_t7 _ (List.mem_of_getElem? (i := 159) rfl), qn_t8 _ (List.mem_of_getElem? (i := 106) rfl), qn_t8 _ (List.mem_of_getElem? (i := 107) rfl)⟩
theorem lw_p11 : lw_okq (⟨"RasterboxModel", "passes", "()Z"⟩, 40) := ⟨⟨by decide +kernel, by decide +kernel⟩, qn_t7 _ (List.mem_of_getElem? (i := 159) rfl), qn_t8 _ (List.mem_of_getElem? (i := 137) rfl), qn_t8 _ (List.mem_of_getElem? (i := 138) rfl)⟩
theorem lw_p12 : lw_okq (⟨"RasterboxModel", "isOfPicture", "()Z"⟩, 40) := ⟨⟨by decide +kernel, by decide +kernel⟩, qn_t7 _ (List.mem_of_getElem? (i := 159) rfl), qn_t8 _ (List.mem_of_getElem? (i := 141) rfl), qn_t8 _ (List.mem_of_getElem? (i := 142) rfl)⟩
theorem lw_p13 : lw_okq (⟨"RasterboxModel", "rowNow", "()I"⟩, 40) := ⟨⟨by decide +kernel, by decide +kernel⟩, qn_t7 _ (List.mem_of_getElem? (i := 159) rfl), qn_t8 _ (List.mem_of_getElem? (i := 145) rfl), qn_t8 _ (List.mem_of_getElem? (i := 146) rfl)⟩
theorem lw_p14 : lw_okq (⟨"RasterboxModel", "isOn", "(I)Z"⟩, 40) := ⟨⟨by decide +kernel, by decide +kernel⟩, qn_t7 _ (List.mem_of_getElem? (i := 159) rfl), qn_t8 _ (List.mem_of_getElem? (i := 149) rfl), qn_t8 _ (List.mem_of_getElem? (i := 150) rfl)⟩
theorem lw_p15 : lw_okq (⟨"RasterboxModel", "isAmong", "(II)Z"⟩, 40) := ⟨⟨by decide +kernel, by decide +kernel⟩, qn_t7 _ (List.mem_of_getElem? (i := 159) rfl), qn_t8 _ (List.mem_of_getElem? (i := 153) rfl), qn_t8 _ (List.mem_of_getElem? (i := 154) rfl)⟩
def lw_privs_1 : List (MethodName × Nat) := [(⟨"java/lang/Throwable", "fillInStackTrace", "(I)Ljava/lang/Throwable;"⟩, 6), (⟨"Rasterbox", "snapshotOf", "(I)LRasterbox$Machine;"⟩, 6), (⟨"RasterboxModel", "fails", "(I)Z"⟩, 40), (⟨"RasterboxModel", "reads", "(I)I"⟩, 40), (⟨"RasterboxModel", "readRegister", "(I)I"⟩, 40), (⟨"RasterboxModel", "lineNow", "()I"⟩, 40), (⟨"RasterboxModel", "seenColumns", "(I)I"⟩, 40), (⟨"RasterboxModel", "hasPulse", "()Z"⟩, 40), (⟨"RasterboxModel", "writes", "(II)V"⟩, 40), (⟨"RasterboxModel", "writeRegister", "(II)V"⟩, 40), (⟨"RasterboxModel", "keeps", "()V"⟩, 40), (⟨"RasterboxModel", "passes", "()Z"⟩, 40), (⟨"RasterboxModel", "isOfPicture", "()Z"⟩, 40), (⟨"RasterboxModel", "rowNow", "()I"⟩, 40), (⟨"RasterboxModel", "isOn", "(I)Z"⟩, 40), (⟨"RasterboxModel", "isAmong", "(II)Z"⟩, 40)]
theorem lw_r1 : ∀ q ∈ lw_privs_1, lw_okq q := List.forall_mem_cons.mpr ⟨lw_p0, List.forall_mem_cons.mpr ⟨lw_p1, List.forall_mem_cons.mpr ⟨lw_p2, List.forall_mem_cons.mpr ⟨lw_p3, List.forall_mem_cons.mpr ⟨lw_p4, List.forall_mem_cons.mpr ⟨lw_p5, List.forall_mem_cons.mpr ⟨lw_p6, List.forall_mem_cons.mpr ⟨lw_p7, List.forall_mem_cons.mpr ⟨lw_p8, List.forall_mem_cons.mpr ⟨lw_p9, List.forall_mem_cons.mpr ⟨lw_p10, List.forall_mem_cons.mpr ⟨lw_p11, List.forall_mem_cons.mpr ⟨lw_p12, List.forall_mem_cons.mpr ⟨lw_p13, List.forall_mem_cons.mpr ⟨lw_p14, List.forall_mem_cons.mpr ⟨lw_p15, fun _ h => absurd h List.not_mem_nil⟩⟩⟩⟩⟩⟩⟩⟩⟩⟩⟩⟩⟩⟩⟩⟩
theorem lw_p16 : lw_okq (⟨"RasterboxModel", "draws", "(II)V"⟩, 40) := ⟨⟨by decide +kernel, by decide +kernel⟩, qn_t7 _ (List.mem_of_getElem? (i := 159) rfl), qn_t8 _ (List.mem_of_getElem? (i := 157) rfl), qn_t8 _ (List.mem_of_getElem? (i := 158) rfl)⟩
theorem lw_p17 : lw_okq (⟨"RasterboxModel", "pictureAt", "(II)I"⟩, 40) := ⟨⟨by decide +kernel, by decide +kernel⟩, qn_t7 _ (List.mem_of_getElem? (i := 159) rfl), qn_t8 _ (List.mem_of_getElem? (i := 161) rfl), qn_t8 _ (List.mem_of_getElem? (i := 162) rfl)⟩
theorem lw_p18 : lw_okq (⟨"RasterboxModel", "covers", "(III)Z"⟩, 40) := ⟨⟨by decide +kernel, by decide +kernel⟩, qn_t7 _ (List.mem_of_getElem? (i := 159) rfl), qn_t8 _ (List.mem_of_getElem? (i := 165) rfl), qn_t8 _ (List.mem_of_getElem? (i := 166) rfl)⟩
theorem lw_p19 : lw_okq (⟨"RasterboxModel", "times", "()V"⟩, 40) := ⟨⟨by decide +kernel, by decide +kernel⟩, qn_t7 _ (List.mem_of_getElem? (i := 159) rfl), qn_t8 _ (List.mem_of_getElem? (i := 169) rfl), qn_t8 _ (List.mem_of_getElem? (i := 170) rfl)⟩
theorem lw_p20 : lw_okq (⟨"RasterboxModel", "counts", "(I)Z"⟩, 40) := ⟨⟨by decide +kernel, by decide +kernel⟩, qn_t7 _ (List.mem_of_getElem? (i := 159) rfl), qn_t8 _ (List.mem_of_getElem? (i := 173) rfl), qn_t8 _ (List.mem_of_getElem? (i := 174) rfl)⟩
theorem lw_p21 : lw_okq (⟨"RasterboxModel", "winds", "()V"⟩, 40) := ⟨⟨by decide +kernel, by decide +kernel⟩, qn_t7 _ (List.mem_of_getElem? (i := 159) rfl), qn_t8 _ (List.mem_of_getElem? (i := 177) rfl), qn_t8 _ (List.mem_of_getElem? (i := 178) rfl)⟩
theorem lw_p22 : lw_okq (⟨"RasterboxModel", "makesSample", "()V"⟩, 40) := ⟨⟨by decide +kernel, by decide +kernel⟩, qn_t7 _ (List.mem_of_getElem? (i := 159) rfl), qn_t8 _ (List.mem_of_getElem? (i := 181) rfl), qn_t8 _ (List.mem_of_getElem? (i := 182) rfl)⟩
theorem lw_p23 : lw_okq (⟨"RasterboxModel", "sounds", "(I)V"⟩, 40) := ⟨⟨by decide +kernel, by decide +kernel⟩, qn_t7 _ (List.mem_of_getElem? (i := 159) rfl), qn_t8 _ (List.mem_of_getElem? (i := 185) rfl), qn_t8 _ (List.mem_of_getElem? (i := 186) rfl)⟩
theorem lw_p24 : lw_okq (⟨"RasterboxModel", "gives", "(I)I"⟩, 40) := ⟨⟨by decide +kernel, by decide +kernel⟩, qn_t7 _ (List.mem_of_getElem? (i := 159) rfl), qn_t8 _ (List.mem_of_getElem? (i := 193) rfl), qn_t8 _ (List.mem_of_getElem? (i := 194) rfl)⟩
theorem lw_p25 : lw_okq (⟨"RasterboxModel", "goesOn", "()V"⟩, 40) := ⟨⟨by decide +kernel, by decide +kernel⟩, qn_t7 _ (List.mem_of_getElem? (i := 159) rfl), qn_t8 _ (List.mem_of_getElem? (i := 198) rfl), qn_t8 _ (List.mem_of_getElem? (i := 199) rfl)⟩
theorem lw_p26 : lw_okq (⟨"RasterboxModel", "begins", "()V"⟩, 40) := ⟨⟨by decide +kernel, by decide +kernel⟩, qn_t7 _ (List.mem_of_getElem? (i := 159) rfl), qn_t8 _ (List.mem_of_getElem? (i := 202) rfl), qn_t8 _ (List.mem_of_getElem? (i := 203) rfl)⟩
theorem lw_p27 : lw_okq (⟨"RasterboxModel", "cyclesOf", "(I)I"⟩, 40) := ⟨⟨by decide +kernel, by decide +kernel⟩, qn_t7 _ (List.mem_of_getElem? (i := 159) rfl), qn_t8 _ (List.mem_of_getElem? (i := 206) rfl), qn_t8 _ (List.mem_of_getElem? (i := 207) rfl)⟩
theorem lw_p28 : lw_okq (⟨"RasterboxModel", "byteAt", "(I)I"⟩, 40) := ⟨⟨by decide +kernel, by decide +kernel⟩, qn_t7 _ (List.mem_of_getElem? (i := 159) rfl), qn_t8 _ (List.mem_of_getElem? (i := 210) rfl), qn_t8 _ (List.mem_of_getElem? (i := 211) rfl)⟩
theorem lw_p29 : lw_okq (⟨"RasterboxModel", "modeCycles", "(III)I"⟩, 40) := ⟨⟨by decide +kernel, by decide +kernel⟩, qn_t7 _ (List.mem_of_getElem? (i := 159) rfl), qn_t8 _ (List.mem_of_getElem? (i := 217) rfl), qn_t8 _ (List.mem_of_getElem? (i := 218) rfl)⟩
theorem lw_p30 : lw_okq (⟨"RasterboxModel", "baseOf", "(II)I"⟩, 40) := ⟨⟨by decide +kernel, by decide +kernel⟩, qn_t7 _ (List.mem_of_getElem? (i := 159) rfl), qn_t8 _ (List.mem_of_getElem? (i := 221) rfl), qn_t8 _ (List.mem_of_getElem? (i := 222) rfl)⟩
theorem lw_p31 : lw_okq (⟨"RasterboxModel", "wordAt", "(I)I"⟩, 40) := ⟨⟨by decide +kernel, by decide +kernel⟩, qn_t7 _ (List.mem_of_getElem? (i := 159) rfl), qn_t8 _ (List.mem_of_getElem? (i := 225) rfl), qn_t8 _ (List.mem_of_getElem? (i := 226) rfl)⟩
def lw_privs_2 : List (MethodName × Nat) := [(⟨"RasterboxModel", "draws", "(II)V"⟩, 40), (⟨"RasterboxModel", "pictureAt", "(II)I"⟩, 40), (⟨"RasterboxModel", "covers", "(III)Z"⟩, 40), (⟨"RasterboxModel", "times", "()V"⟩, 40), (⟨"RasterboxModel", "counts", "(I)Z"⟩, 40), (⟨"RasterboxModel", "winds", "()V"⟩, 40), (⟨"RasterboxModel", "makesSample", "()V"⟩, 40), (⟨"RasterboxModel", "sounds", "(I)V"⟩, 40), (⟨"RasterboxModel", "gives", "(I)I"⟩, 40), (⟨"RasterboxModel", "goesOn", "()V"⟩, 40), (⟨"RasterboxModel", "begins", "()V"⟩, 40), (⟨"RasterboxModel", "cyclesOf", "(I)I"⟩, 40), (⟨"RasterboxModel", "byteAt", "(I)I"⟩, 40), (⟨"RasterboxModel", "modeCycles", "(III)I"⟩, 40), (⟨"RasterboxModel", "baseOf", "(II)I"⟩, 40), (⟨"RasterboxModel", "wordAt", "(I)I"⟩, 40)]
theorem lw_r2 : ∀ q ∈ lw_privs_2, lw_okq q := List.forall_mem_cons.mpr ⟨lw_p16, List.forall_mem_cons.mpr ⟨lw_p17, List.forall_mem_cons.mpr ⟨lw_p18, List.forall_mem_cons.mpr ⟨lw_p19, List.forall_mem_cons.mpr ⟨lw_p20, List.forall_mem_cons.mpr ⟨lw_p21, List.forall_mem_cons.mpr ⟨lw_p22, List.forall_mem_cons.mpr ⟨lw_p23, List.forall_mem_cons.mpr ⟨lw_p24, List.forall_mem_cons.mpr ⟨lw_p25, List.forall_mem_cons.mpr ⟨lw_p26, List.forall_mem_cons.mpr ⟨lw_p27, List.forall_mem_cons.mpr ⟨lw_p28, List.forall_mem_cons.mpr ⟨lw_p29, List.forall_mem_cons.mpr ⟨lw_p30, List.forall_mem_cons.mpr ⟨lw_p31, fun _ h => absurd h List.not_mem_nil⟩⟩⟩⟩⟩⟩⟩⟩⟩⟩⟩⟩⟩⟩⟩⟩
theorem lw_p32 : lw_okq (⟨"RasterboxModel", "addressOf", "(II)I"⟩, 40) := ⟨⟨by decide +kernel, by decide +kernel⟩, qn_t7 _ (List.mem_of_getElem? (i := 159) rfl), qn_t8 _ (List.mem_of_getElem? (i := 229) rfl), qn_t8 _ (List.mem_of_getElem? (i := 230) rfl)⟩
theorem lw_p33 : lw_okq (⟨"RasterboxModel", "isTaken", "(I)Z"⟩, 40) := ⟨⟨by decide +kernel, by decide +kernel⟩, qn_t7 _ (List.mem_of_getElem? (i := 159) rfl), qn_t8 _ (List.mem_of_getElem? (i := 236) rfl), qn_t8 _ (List.mem_of_getElem? (i := 237) rfl)⟩
theorem lw_p34 : lw_okq (⟨"RasterboxModel", "targetOf", "(I)I"⟩, 40) := ⟨⟨by decide +kernel, by decide +kernel⟩, qn_t7 _ (List.mem_of_getElem? (i := 159) rfl), qn_t9 _ (List.mem_of_getElem? (i := 0) rfl), qn_t9 _ (List.mem_of_getElem? (i := 1) rfl)⟩
theorem lw_p35 : lw_okq (⟨"RasterboxModel", "interrupts", "(III)V"⟩, 40) := ⟨⟨by decide +kernel, by decide +kernel⟩, qn_t7 _ (List.mem_of_getElem? (i := 159) rfl), qn_t9 _ (List.mem_of_getElem? (i := 4) rfl), qn_t9 _ (List.mem_of_getElem? (i := 5) rfl)⟩
theorem lw_p36 : lw_okq (⟨"RasterboxModel", "pushes", "(I)V"⟩, 40) := ⟨⟨by decide +kernel, by decide +kernel⟩, qn_t7 _ (List.mem_of_getElem? (i := 159) rfl), qn_t9 _ (List.mem_of_getElem? (i := 8) rfl), qn_t9 _ (List.mem_of_getElem? (i := 9) rfl)⟩
theorem lw_p37 : lw_okq (⟨"RasterboxModel", "statusWith", "(I)I"⟩, 40) := ⟨⟨by decide +kernel, by decide +kernel⟩, qn_t7 _ (List.mem_of_getElem? (i := 159) rfl), qn_t9 _ (List.mem_of_getElem? (i := 12) rfl), qn_t9 _ (List.mem_of_getElem? (i := 13) rfl)⟩
theorem lw_p38 : lw_okq (⟨"RasterboxModel", "bit", "(II)I"⟩, 40) := ⟨⟨by decide +kernel, by decide +kernel⟩, qn_t7 _ (List.mem_of_getElem? (i := 159) rfl), qn_t9 _ (List.mem_of_getElem? (i := 16) rfl), qn_t9 _ (List.mem_of_getElem? (i := 17) rfl)⟩
theorem lw_p39 : lw_okq (⟨"RasterboxModel", "does", "(I)V"⟩, 40) := ⟨⟨by decide +kernel, by decide +kernel⟩, qn_t7 _ (List.mem_of_getElem? (i := 159) rfl), qn_t9 _ (List.mem_of_getElem? (i := 20) rfl), qn_t9 _ (List.mem_of_getElem? (i := 21) rfl)⟩
theorem lw_p40 : lw_okq (⟨"RasterboxModel", "doesMode", "(III)V"⟩, 40) := ⟨⟨by decide +kernel, by decide +kernel⟩, qn_t7 _ (List.mem_of_getElem? (i := 159) rfl), qn_t9 _ (List.mem_of_getElem? (i := 27) rfl), qn_t9 _ (List.mem_of_getElem? (i := 28) rfl)⟩
theorem lw_p41 : lw_okq (⟨"RasterboxModel", "changes", "(II)V"⟩, 40) := ⟨⟨by decide +kernel, by decide +kernel⟩, qn_t7 _ (List.mem_of_getElem? (i := 159) rfl), qn_t9 _ (List.mem_of_getElem? (i := 31) rfl), qn_t9 _ (List.mem_of_getElem? (i := 32) rfl)⟩
theorem lw_p42 : lw_okq (⟨"RasterboxModel", "takes", "(I)I"⟩, 40) := ⟨⟨by decide +kernel, by decide +kernel⟩, qn_t7 _ (List.mem_of_getElem? (i := 159) rfl), qn_t9 _ (List.mem_of_getElem? (i := 35) rfl), qn_t9 _ (List.mem_of_getElem? (i := 36) rfl)⟩
theorem lw_p43 : lw_okq (⟨"RasterboxModel", "compares", "(II)V"⟩, 40) := ⟨⟨by decide +kernel, by decide +kernel⟩, qn_t7 _ (List.mem_of_getElem? (i := 159) rfl), qn_t9 _ (List.mem_of_getElem? (i := 39) rfl), qn_t9 _ (List.mem_of_getElem? (i := 40) rfl)⟩
theorem lw_p44 : lw_okq (⟨"RasterboxModel", "sets", "(I)I"⟩, 40) := ⟨⟨by decide +kernel, by decide +kernel⟩, qn_t7 _ (List.mem_of_getElem? (i := 159) rfl), qn_t9 _ (List.mem_of_getElem? (i := 43) rfl), qn_t9 _ (List.mem_of_getElem? (i := 44) rfl)⟩
theorem lw_p45 : lw_okq (⟨"RasterboxModel", "calculates", "(ZI)V"⟩, 40) := ⟨⟨by decide +kernel, by decide +kernel⟩, qn_t7 _ (List.mem_of_getElem? (i := 159) rfl), qn_t9 _ (List.mem_of_getElem? (i := 47) rfl), qn_t9 _ (List.mem_of_getElem? (i := 48) rfl)⟩
theorem lw_p46 : lw_okq (⟨"RasterboxModel", "adds", "(I)V"⟩, 40) := ⟨⟨by decide +kernel, by decide +kernel⟩, qn_t7 _ (List.mem_of_getElem? (i := 159) rfl), qn_t9 _ (List.mem_of_getElem? (i := 51) rfl), qn_t9 _ (List.mem_of_getElem? (i := 52) rfl)⟩
theorem lw_p47 : lw_okq (⟨"RasterboxModel", "addsDecimal", "(III)V"⟩, 40) := ⟨⟨by decide +kernel, by decide +kernel⟩, qn_t7 _ (List.mem_of_getElem? (i := 159) rfl), qn_t9 _ (List.mem_of_getElem? (i := 55) rfl), qn_t9 _ (List.mem_of_getElem? (i := 56) rfl)⟩
def lw_privs_3 : List (MethodName × Nat) := [(⟨"RasterboxModel", "addressOf", "(II)I"⟩, 40), (⟨"RasterboxModel", "isTaken", "(I)Z"⟩, 40), (⟨"RasterboxModel", "targetOf", "(I)I"⟩, 40), (⟨"RasterboxModel", "interrupts", "(III)V"⟩, 40), (⟨"RasterboxModel", "pushes", "(I)V"⟩, 40), (⟨"RasterboxModel", "statusWith", "(I)I"⟩, 40), (⟨"RasterboxModel", "bit", "(II)I"⟩, 40), (⟨"RasterboxModel", "does", "(I)V"⟩, 40), (⟨"RasterboxModel", "doesMode", "(III)V"⟩, 40), (⟨"RasterboxModel", "changes", "(II)V"⟩, 40), (⟨"RasterboxModel", "takes", "(I)I"⟩, 40), (⟨"RasterboxModel", "compares", "(II)V"⟩, 40), (⟨"RasterboxModel", "sets", "(I)I"⟩, 40), (⟨"RasterboxModel", "calculates", "(ZI)V"⟩, 40), (⟨"RasterboxModel", "adds", "(I)V"⟩, 40), (⟨"RasterboxModel", "addsDecimal", "(III)V"⟩, 40)]
theorem lw_r3 : ∀ q ∈ lw_privs_3, lw_okq q := List.forall_mem_cons.mpr ⟨lw_p32, List.forall_mem_cons.mpr ⟨lw_p33, List.forall_mem_cons.mpr ⟨lw_p34, List.forall_mem_cons.mpr ⟨lw_p35, List.forall_mem_cons.mpr ⟨lw_p36, List.forall_mem_cons.mpr ⟨lw_p37, List.forall_mem_cons.mpr ⟨lw_p38, List.forall_mem_cons.mpr ⟨lw_p39, List.forall_mem_cons.mpr ⟨lw_p40, List.forall_mem_cons.mpr ⟨lw_p41, List.forall_mem_cons.mpr ⟨lw_p42, List.forall_mem_cons.mpr ⟨lw_p43, List.forall_mem_cons.mpr ⟨lw_p44, List.forall_mem_cons.mpr ⟨lw_p45, List.forall_mem_cons.mpr ⟨lw_p46, List.forall_mem_cons.mpr ⟨lw_p47, fun _ h => absurd h List.not_mem_nil⟩⟩⟩⟩⟩⟩⟩⟩⟩⟩⟩⟩⟩⟩⟩⟩
theorem lw_p48 : lw_okq (⟨"RasterboxModel", "takesDecimal", "(III)V"⟩, 40) := ⟨⟨by decide +kernel, by decide +kernel⟩, qn_t7 _ (List.mem_of_getElem? (i := 159) rfl), qn_t9 _ (List.mem_of_getElem? (i := 59) rfl), qn_t9 _ (List.mem_of_getElem? (i := 60) rfl)⟩
theorem lw_p49 : lw_okq (⟨"RasterboxModel", "operates", "(II)V"⟩, 40) := ⟨⟨by decide +kernel, by decide +kernel⟩, qn_t7 _ (List.mem_of_getElem? (i := 159) rfl), qn_t9 _ (List.mem_of_getElem? (i := 63) rfl), qn_t9 _ (List.mem_of_getElem? (i := 64) rfl)⟩
theorem lw_p50 : lw_okq (⟨"RasterboxModel", "becomes", "(II)V"⟩, 40) := ⟨⟨by decide +kernel, by decide +kernel⟩, qn_t7 _ (List.mem_of_getElem? (i := 159) rfl), qn_t9 _ (List.mem_of_getElem? (i := 67) rfl), qn_t9 _ (List.mem_of_getElem? (i := 68) rfl)⟩
theorem lw_p51 : lw_okq (⟨"RasterboxModel", "pulls", "()I"⟩, 40) := ⟨⟨by decide +kernel, by decide +kernel⟩, qn_t7 _ (List.mem_of_getElem? (i := 159) rfl), qn_t9 _ (List.mem_of_getElem? (i := 71) rfl), qn_t9 _ (List.mem_of_getElem? (i := 72) rfl)⟩
theorem lw_p52 : lw_okq (⟨"RasterboxModel", "becomesStatus", "(I)V"⟩, 40) := ⟨⟨by decide +kernel, by decide +kernel⟩, qn_t7 _ (List.mem_of_getElem? (i := 159) rfl), qn_t9 _ (List.mem_of_getElem? (i := 75) rfl), qn_t9 _ (List.mem_of_getElem? (i := 76) rfl)⟩
theorem lw_p53 : lw_okq (⟨"RasterboxModel", "pulledAddress", "(I)I"⟩, 40) := ⟨⟨by decide +kernel, by decide +kernel⟩, qn_t7 _ (List.mem_of_getElem? (i := 159) rfl), qn_t9 _ (List.mem_of_getElem? (i := 79) rfl), qn_t9 _ (List.mem_of_getElem? (i := 80) rfl)⟩
theorem lw_p54 : lw_okq (⟨"RasterboxModel", "jumps", "(II)V"⟩, 40) := ⟨⟨by decide +kernel, by decide +kernel⟩, qn_t7 _ (List.mem_of_getElem? (i := 159) rfl), qn_t9 _ (List.mem_of_getElem? (i := 83) rfl), qn_t9 _ (List.mem_of_getElem? (i := 84) rfl)⟩
theorem lw_p55 : lw_okq (⟨"RasterboxModel", "doesOther", "(II)V"⟩, 40) := ⟨⟨by decide +kernel, by decide +kernel⟩, qn_t7 _ (List.mem_of_getElem? (i := 159) rfl), qn_t9 _ (List.mem_of_getElem? (i := 87) rfl), qn_t9 _ (List.mem_of_getElem? (i := 88) rfl)⟩
theorem lw_p56 : lw_okq (⟨"RasterboxModel", "shifts", "(I)V"⟩, 40) := ⟨⟨by decide +kernel, by decide +kernel⟩, qn_t7 _ (List.mem_of_getElem? (i := 159) rfl), qn_t9 _ (List.mem_of_getElem? (i := 91) rfl), qn_t9 _ (List.mem_of_getElem? (i := 92) rfl)⟩
theorem lw_p57 : lw_okq (⟨"RasterboxModel", "tells", "(I)I"⟩, 40) := ⟨⟨by decide +kernel, by decide +kernel⟩, qn_t7 _ (List.mem_of_getElem? (i := 159) rfl), qn_t9 _ (List.mem_of_getElem? (i := 111) rfl), qn_t9 _ (List.mem_of_getElem? (i := 112) rfl)⟩
theorem lw_p58 : lw_okq (⟨"RasterboxModel", "putsNumber", "(I)V"⟩, 40) := ⟨⟨by decide +kernel, by decide +kernel⟩, qn_t7 _ (List.mem_of_getElem? (i := 159) rfl), qn_t9 _ (List.mem_of_getElem? (i := 135) rfl), qn_t9 _ (List.mem_of_getElem? (i := 136) rfl)⟩
theorem lw_p59 : lw_okq (⟨"RasterboxModel", "puts", "(C)V"⟩, 40) := ⟨⟨by decide +kernel, by decide +kernel⟩, qn_t7 _ (List.mem_of_getElem? (i := 159) rfl), qn_t9 _ (List.mem_of_getElem? (i := 139) rfl), qn_t9 _ (List.mem_of_getElem? (i := 140) rfl)⟩
theorem lw_p60 : lw_okq (⟨"RasterboxModel", "putsName", "(I)V"⟩, 40) := ⟨⟨by decide +kernel, by decide +kernel⟩, qn_t7 _ (List.mem_of_getElem? (i := 159) rfl), qn_t9 _ (List.mem_of_getElem? (i := 146) rfl), qn_t9 _ (List.mem_of_getElem? (i := 147) rfl)⟩
theorem lw_p61 : lw_okq (⟨"RasterboxModel", "putsMode", "(II)V"⟩, 40) := ⟨⟨by decide +kernel, by decide +kernel⟩, qn_t7 _ (List.mem_of_getElem? (i := 159) rfl), qn_t9 _ (List.mem_of_getElem? (i := 154) rfl), qn_t9 _ (List.mem_of_getElem? (i := 155) rfl)⟩
theorem lw_p62 : lw_okq (⟨"RasterboxModel", "putsOther", "(II)V"⟩, 40) := ⟨⟨by decide +kernel, by decide +kernel⟩, qn_t7 _ (List.mem_of_getElem? (i := 159) rfl), qn_t9 _ (List.mem_of_getElem? (i := 158) rfl), qn_t9 _ (List.mem_of_getElem? (i := 159) rfl)⟩
theorem lw_p63 : lw_okq (⟨"RasterboxModel", "pixelAt", "(II)I"⟩, 40) := ⟨⟨by decide +kernel, by decide +kernel⟩, qn_t7 _ (List.mem_of_getElem? (i := 159) rfl), qn_t9 _ (List.mem_of_getElem? (i := 190) rfl), qn_t9 _ (List.mem_of_getElem? (i := 191) rfl)⟩
def lw_privs_4 : List (MethodName × Nat) := [(⟨"RasterboxModel", "takesDecimal", "(III)V"⟩, 40), (⟨"RasterboxModel", "operates", "(II)V"⟩, 40), (⟨"RasterboxModel", "becomes", "(II)V"⟩, 40), (⟨"RasterboxModel", "pulls", "()I"⟩, 40), (⟨"RasterboxModel", "becomesStatus", "(I)V"⟩, 40), (⟨"RasterboxModel", "pulledAddress", "(I)I"⟩, 40), (⟨"RasterboxModel", "jumps", "(II)V"⟩, 40), (⟨"RasterboxModel", "doesOther", "(II)V"⟩, 40), (⟨"RasterboxModel", "shifts", "(I)V"⟩, 40), (⟨"RasterboxModel", "tells", "(I)I"⟩, 40), (⟨"RasterboxModel", "putsNumber", "(I)V"⟩, 40), (⟨"RasterboxModel", "puts", "(C)V"⟩, 40), (⟨"RasterboxModel", "putsName", "(I)V"⟩, 40), (⟨"RasterboxModel", "putsMode", "(II)V"⟩, 40), (⟨"RasterboxModel", "putsOther", "(II)V"⟩, 40), (⟨"RasterboxModel", "pixelAt", "(II)I"⟩, 40)]
theorem lw_r4 : ∀ q ∈ lw_privs_4, lw_okq q := List.forall_mem_cons.mpr ⟨lw_p48, List.forall_mem_cons.mpr ⟨lw_p49, List.forall_mem_cons.mpr ⟨lw_p50, List.forall_mem_cons.mpr ⟨lw_p51, List.forall_mem_cons.mpr ⟨lw_p52, List.forall_mem_cons.mpr ⟨lw_p53, List.forall_mem_cons.mpr ⟨lw_p54, List.forall_mem_cons.mpr ⟨lw_p55, List.forall_mem_cons.mpr ⟨lw_p56, List.forall_mem_cons.mpr ⟨lw_p57, List.forall_mem_cons.mpr ⟨lw_p58, List.forall_mem_cons.mpr ⟨lw_p59, List.forall_mem_cons.mpr ⟨lw_p60, List.forall_mem_cons.mpr ⟨lw_p61, List.forall_mem_cons.mpr ⟨lw_p62, List.forall_mem_cons.mpr ⟨lw_p63, fun _ h => absurd h List.not_mem_nil⟩⟩⟩⟩⟩⟩⟩⟩⟩⟩⟩⟩⟩⟩⟩⟩
theorem lw_p64 : lw_okq (⟨"RasterboxModel", "unlike", "(I)I"⟩, 40) := ⟨⟨by decide +kernel, by decide +kernel⟩, qn_t7 _ (List.mem_of_getElem? (i := 159) rfl), qn_t10 _ (List.mem_of_getElem? (i := 4) rfl), qn_t10 _ (List.mem_of_getElem? (i := 5) rfl)⟩
def lw_privs_5 : List (MethodName × Nat) := [(⟨"RasterboxModel", "unlike", "(I)I"⟩, 40)]
theorem lw_r5 : ∀ q ∈ lw_privs_5, lw_okq q := List.forall_mem_cons.mpr ⟨lw_p64, fun _ h => absurd h List.not_mem_nil⟩
def lw_privs : List (MethodName × Nat) := lw_privs_1 ++ (lw_privs_2 ++ (lw_privs_3 ++ (lw_privs_4 ++ (lw_privs_5))))
def lw_tbl : List Cond := k2_sels lw_privs ++ tables_1
theorem lw_privs_ok : ∀ q ∈ lw_privs, lw_okq q := by
  show ∀ q ∈ lw_privs_1 ++ (lw_privs_2 ++ (lw_privs_3 ++ (lw_privs_4 ++ (lw_privs_5)))), lw_okq q
  exact List.forall_mem_append.mpr ⟨lw_r1, List.forall_mem_append.mpr ⟨lw_r2, List.forall_mem_append.mpr ⟨lw_r3, List.forall_mem_append.mpr ⟨lw_r4, lw_r5⟩⟩⟩⟩
/-- the streams that the claim lets the run draw from -/
abbrev lw_cs : List Choice := [Jvm.Choice.named "NaN.bits"]
theorem lw_bits : nanBits ∈ lw_cs := by first | decide | exact List.mem_cons_self | simp [lw_cs, nanBits]
def RX0 : String := "Rasterbox$Board"
def TX0 : u_T := fun k => match k with
  | 0 => ("Rasterbox$Board", "scene", "LRasterbox$Scene;", true)
  | 1 => ("Rasterbox$Board", "rom", "[I", true)
  | 2 => ("Rasterbox$Board", "cartridge", "[I", true)
  | 3 => ("Rasterbox$Board", "counts", "[I", true)
  | 4 => ("Rasterbox$Board", "tape", "LRasterbox$Tape;", true)
  | 5 => ("Rasterbox$Board", "keys", "LRasterbox$Keys;", true)
  | 6 => ("Rasterbox$Board", "even", "LRasterbox$Frame;", true)
  | 7 => ("Rasterbox$Board", "odd", "LRasterbox$Frame;", true)
  | _ => ("Rasterbox$Board", "cycle", "J", false)
def tyX0 : Nat → FieldType := fun k => match k with
  | 0 => .object "Rasterbox$Scene"
  | 1 => .array .int
  | 2 => .array .int
  | 3 => .array .int
  | 4 => .object "Rasterbox$Tape"
  | 5 => .object "Rasterbox$Keys"
  | 6 => .object "Rasterbox$Frame"
  | 7 => .object "Rasterbox$Frame"
  | _ => .long
abbrev wsX00 : List Cond := u_ws RX0 TX0 9
theorem nmX0 : ∀ a, a < 9 → ∀ b, b < 9 → a ≠ b → (TX0 a).2.1 ≠ (TX0 b).2.1 := by decide +kernel
theorem tyX0_ok : ∀ k, k < 9 → parseFieldDescriptor (TX0 k).2.2.1 = some (tyX0 k) := by decide +kernel
abbrev cX0_init : ByteArray := prog_2_method_1_code
def yX0_init : MethodName := ⟨RX0, "<init>", "()V"⟩
abbrev cX0_become : ByteArray := prog_2_method_2_code
def yX0_become : MethodName := ⟨RX0, "become", "(LRasterbox$Board;)V"⟩
abbrev cX0_position : ByteArray := prog_2_method_3_code
def yX0_position : MethodName := ⟨RX0, "position", "()I"⟩
abbrev cX0_column : ByteArray := prog_2_method_4_code
def yX0_column : MethodName := ⟨RX0, "column", "()I"⟩
abbrev cX0_present : ByteArray := prog_2_method_5_code
def yX0_present : MethodName := ⟨RX0, "present", "()LRasterbox$Frame;"⟩
abbrev cX0_last : ByteArray := prog_2_method_6_code
def yX0_last : MethodName := ⟨RX0, "last", "()LRasterbox$Frame;"⟩
abbrev cX0_read : ByteArray := prog_2_method_7_code
def yX0_read : MethodName := ⟨RX0, "read", "(I)I"⟩
abbrev cX0_readRegister : ByteArray := prog_2_method_8_code
def yX0_readRegister : MethodName := ⟨RX0, "readRegister", "(II)I"⟩
abbrev cX0_readWord : ByteArray := prog_2_method_9_code
def yX0_readWord : MethodName := ⟨RX0, "readWord", "(I)I"⟩
abbrev cX0_load : ByteArray := prog_2_method_10_code
def yX0_load : MethodName := ⟨RX0, "load", "(I)I"⟩
abbrev cX0_write : ByteArray := prog_2_method_11_code
def yX0_write : MethodName := ⟨RX0, "write", "(II)V"⟩
abbrev cX0_startTimers : ByteArray := prog_2_method_12_code
def yX0_startTimers : MethodName := ⟨RX0, "startTimers", "(I)V"⟩
abbrev cX0_clearRegisters : ByteArray := prog_2_method_13_code
def yX0_clearRegisters : MethodName := ⟨RX0, "clearRegisters", "()V"⟩
abbrev cX0_exchange : ByteArray := prog_2_method_14_code
def yX0_exchange : MethodName := ⟨RX0, "exchange", "(II)I"⟩
abbrev cX0_exchangeRom : ByteArray := prog_2_method_15_code
def yX0_exchangeRom : MethodName := ⟨RX0, "exchangeRom", "(II)I"⟩
abbrev cX0_exchangeCartridge : ByteArray := prog_2_method_16_code
def yX0_exchangeCartridge : MethodName := ⟨RX0, "exchangeCartridge", "(II)I"⟩
abbrev cX0_writeInstruction : ByteArray := prog_2_method_17_code
def yX0_writeInstruction : MethodName := ⟨RX0, "writeInstruction", "(III)I"⟩
abbrev cX0_meetLine : ByteArray := prog_2_method_18_code
def yX0_meetLine : MethodName := ⟨RX0, "meetLine", "()V"⟩
abbrev cX0_isPictureNext : ByteArray := prog_2_method_19_code
def yX0_isPictureNext : MethodName := ⟨RX0, "isPictureNext", "()Z"⟩
abbrev cX0_draw : ByteArray := prog_2_method_20_code
def yX0_draw : MethodName := ⟨RX0, "draw", "([I)V"⟩
abbrev cX0_countTimers : ByteArray := prog_2_method_21_code
def yX0_countTimers : MethodName := ⟨RX0, "countTimers", "()V"⟩
abbrev cX0_countDown : ByteArray := prog_2_method_22_code
def yX0_countDown : MethodName := ⟨RX0, "countDown", "(I)Z"⟩
abbrev cX0_moveTape : ByteArray := prog_2_method_23_code
def yX0_moveTape : MethodName := ⟨RX0, "moveTape", "()V"⟩
abbrev cX0_endCycle : ByteArray := prog_2_method_24_code
def yX0_endCycle : MethodName := ⟨RX0, "endCycle", "()V"⟩
abbrev cX0_drawnAgain : ByteArray := prog_2_method_25_code
def yX0_drawnAgain : MethodName := ⟨RX0, "drawnAgain", "(IILRasterbox$Scene;)I"⟩
def RX1 : String := "Rasterbox$Codes"
def TX1 : u_T := fun k => match k with
  | _ => ("", "", "", false)
def tyX1 : Nat → FieldType := fun k => match k with
  | _ => .int
abbrev wsX10 : List Cond := u_ws RX1 TX1 0
theorem nmX1 : ∀ a, a < 0 → ∀ b, b < 0 → a ≠ b → (TX1 a).2.1 ≠ (TX1 b).2.1 := by decide +kernel
theorem tyX1_ok : ∀ k, k < 0 → parseFieldDescriptor (TX1 k).2.2.1 = some (tyX1 k) := by decide +kernel
abbrev cX1_operationOf : ByteArray := prog_3_method_2_code
def yX1_operationOf : MethodName := ⟨RX1, "operationOf", "(I)I"⟩
abbrev cX1_isBranch : ByteArray := prog_3_method_3_code
def yX1_isBranch : MethodName := ⟨RX1, "isBranch", "(I)Z"⟩
abbrev cX1_isWriting : ByteArray := prog_3_method_4_code
def yX1_isWriting : MethodName := ⟨RX1, "isWriting", "(I)Z"⟩
abbrev cX1_isChanging : ByteArray := prog_3_method_5_code
def yX1_isChanging : MethodName := ⟨RX1, "isChanging", "(I)Z"⟩
abbrev cX1_lengthOf : ByteArray := prog_3_method_6_code
def yX1_lengthOf : MethodName := ⟨RX1, "lengthOf", "(I)I"⟩
abbrev cX1_cyclesOfMode : ByteArray := prog_3_method_7_code
def yX1_cyclesOfMode : MethodName := ⟨RX1, "cyclesOfMode", "(I)I"⟩
abbrev cX1_cyclesOf : ByteArray := prog_3_method_8_code
def yX1_cyclesOf : MethodName := ⟨RX1, "cyclesOf", "(I)I"⟩
abbrev cX1_targetOf : ByteArray := prog_3_method_9_code
def yX1_targetOf : MethodName := ⟨RX1, "targetOf", "(II)I"⟩
abbrev cX1_appendName : ByteArray := prog_3_method_10_code
def yX1_appendName : MethodName := ⟨RX1, "appendName", "(Ljava/lang/StringBuilder;I)V"⟩
def RX2 : String := "Rasterbox$Frame"
def TX2 : u_T := fun k => match k with
  | 0 => ("Rasterbox$Frame", "start", "LRasterbox$Scene;", true)
  | 1 => ("Rasterbox$Frame", "writes", "[I", true)
  | 2 => ("Rasterbox$Frame", "count", "I", false)
  | _ => ("Rasterbox$Frame", "time", "I", false)
def tyX2 : Nat → FieldType := fun k => match k with
  | 0 => .object "Rasterbox$Scene"
  | 1 => .array .int
  | 2 => .int
  | _ => .int
abbrev wsX20 : List Cond := u_ws RX2 TX2 4
theorem nmX2 : ∀ a, a < 4 → ∀ b, b < 4 → a ≠ b → (TX2 a).2.1 ≠ (TX2 b).2.1 := by decide +kernel
theorem tyX2_ok : ∀ k, k < 4 → parseFieldDescriptor (TX2 k).2.2.1 = some (tyX2 k) := by decide +kernel
abbrev cX2_init : ByteArray := prog_4_method_1_code
def yX2_init : MethodName := ⟨RX2, "<init>", "()V"⟩
abbrev cX2_become : ByteArray := prog_4_method_2_code
def yX2_become : MethodName := ⟨RX2, "become", "(LRasterbox$Frame;)V"⟩
abbrev cX2_begin : ByteArray := prog_4_method_3_code
def yX2_begin : MethodName := ⟨RX2, "begin", "(LRasterbox$Scene;)V"⟩
abbrev cX2_keep : ByteArray := prog_4_method_4_code
def yX2_keep : MethodName := ⟨RX2, "keep", "(II)V"⟩
abbrev cX2_replay : ByteArray := prog_4_method_5_code
def yX2_replay : MethodName := ⟨RX2, "replay", "(ILRasterbox$Scene;)V"⟩
def RX3 : String := "Rasterbox$Keys"
def TX3 : u_T := fun k => match k with
  | 0 => ("Rasterbox$Keys", "pressed", "[I", true)
  | 1 => ("Rasterbox$Keys", "seen", "[I", true)
  | _ => ("Rasterbox$Keys", "stick", "I", false)
def tyX3 : Nat → FieldType := fun k => match k with
  | 0 => .array .int
  | 1 => .array .int
  | _ => .int
abbrev wsX30 : List Cond := u_ws RX3 TX3 3
theorem nmX3 : ∀ a, a < 3 → ∀ b, b < 3 → a ≠ b → (TX3 a).2.1 ≠ (TX3 b).2.1 := by decide +kernel
theorem tyX3_ok : ∀ k, k < 3 → parseFieldDescriptor (TX3 k).2.2.1 = some (tyX3 k) := by decide +kernel
abbrev cX3_init : ByteArray := prog_5_method_1_code
def yX3_init : MethodName := ⟨RX3, "<init>", "()V"⟩
abbrev cX3_become : ByteArray := prog_5_method_2_code
def yX3_become : MethodName := ⟨RX3, "become", "(LRasterbox$Keys;)V"⟩
abbrev cX3_exchangeJoystick : ByteArray := prog_5_method_3_code
def yX3_exchangeJoystick : MethodName := ⟨RX3, "exchangeJoystick", "(I)I"⟩
abbrev cX3_press : ByteArray := prog_5_method_4_code
def yX3_press : MethodName := ⟨RX3, "press", "(III)I"⟩
abbrev cX3_columnsSeen : ByteArray := prog_5_method_5_code
def yX3_columnsSeen : MethodName := ⟨RX3, "columnsSeen", "(I)I"⟩
def RX4 : String := "Rasterbox$Machine"
def TX4 : u_T := fun k => match k with
  | 0 => ("Rasterbox$Machine", "board", "LRasterbox$Board;", true)
  | 1 => ("Rasterbox$Machine", "processor", "LRasterbox$Processor;", true)
  | 2 => ("Rasterbox$Machine", "voices", "LRasterbox$Voices;", true)
  | 3 => ("Rasterbox$Machine", "pixels", "[I", true)
  | _ => ("Rasterbox$Machine", "ofPicture", "J", false)
def tyX4 : Nat → FieldType := fun k => match k with
  | 0 => .object "Rasterbox$Board"
  | 1 => .object "Rasterbox$Processor"
  | 2 => .object "Rasterbox$Voices"
  | 3 => .array .int
  | _ => .long
abbrev wsX40 : List Cond := u_ws RX4 TX4 5
theorem nmX4 : ∀ a, a < 5 → ∀ b, b < 5 → a ≠ b → (TX4 a).2.1 ≠ (TX4 b).2.1 := by decide +kernel
theorem tyX4_ok : ∀ k, k < 5 → parseFieldDescriptor (TX4 k).2.2.1 = some (tyX4 k) := by decide +kernel
abbrev cX4_init : ByteArray := prog_6_method_1_code
def yX4_init : MethodName := ⟨RX4, "<init>", "()V"⟩
abbrev cX4_become : ByteArray := prog_6_method_2_code
def yX4_become : MethodName := ⟨RX4, "become", "(LRasterbox$Machine;)V"⟩
abbrev cX4_isLike : ByteArray := prog_6_method_3_code
def yX4_isLike : MethodName := ⟨RX4, "isLike", "(LRasterbox$Machine;)Z"⟩
abbrev cX4_perform : ByteArray := prog_6_method_4_code
def yX4_perform : MethodName := ⟨RX4, "perform", "(IIII)I"⟩
abbrev cX4_startAnew : ByteArray := prog_6_method_5_code
def yX4_startAnew : MethodName := ⟨RX4, "startAnew", "()I"⟩
abbrev cX4_pressFreeze : ByteArray := prog_6_method_6_code
def yX4_pressFreeze : MethodName := ⟨RX4, "pressFreeze", "()I"⟩
abbrev cX4_letPass : ByteArray := prog_6_method_7_code
def yX4_letPass : MethodName := ⟨RX4, "letPass", "(IZ)I"⟩
abbrev cX4_passPicture : ByteArray := prog_6_method_8_code
def yX4_passPicture : MethodName := ⟨RX4, "passPicture", "()Z"⟩
def RX5 : String := "Rasterbox$Monitor"
def TX5 : u_T := fun k => match k with
  | _ => ("", "", "", false)
def tyX5 : Nat → FieldType := fun k => match k with
  | _ => .int
abbrev wsX50 : List Cond := u_ws RX5 TX5 0
theorem nmX5 : ∀ a, a < 0 → ∀ b, b < 0 → a ≠ b → (TX5 a).2.1 ≠ (TX5 b).2.1 := by decide +kernel
theorem tyX5_ok : ∀ k, k < 0 → parseFieldDescriptor (TX5 k).2.2.1 = some (tyX5 k) := by decide +kernel
abbrev cX5_describe : ByteArray := prog_7_method_2_code
def yX5_describe : MethodName := ⟨RX5, "describe", "(Ljava/lang/StringBuilder;LRasterbox$Board;I)V"⟩
abbrev cX5_layoutOf : ByteArray := prog_7_method_3_code
def yX5_layoutOf : MethodName := ⟨RX5, "layoutOf", "(I)I"⟩
abbrev cX5_appendOperand : ByteArray := prog_7_method_4_code
def yX5_appendOperand : MethodName := ⟨RX5, "appendOperand", "(Ljava/lang/StringBuilder;II)V"⟩
def RX6 : String := "Rasterbox$Processor"
def TX6 : u_T := fun k => match k with
  | 0 => ("Rasterbox$Processor", "a", "I", false)
  | 1 => ("Rasterbox$Processor", "x", "I", false)
  | 2 => ("Rasterbox$Processor", "y", "I", false)
  | 3 => ("Rasterbox$Processor", "s", "I", false)
  | 4 => ("Rasterbox$Processor", "p", "I", false)
  | 5 => ("Rasterbox$Processor", "flags", "I", false)
  | 6 => ("Rasterbox$Processor", "isFreezing", "Z", false)
  | 7 => ("Rasterbox$Processor", "isJammed", "Z", false)
  | 8 => ("Rasterbox$Processor", "vector", "I", false)
  | 9 => ("Rasterbox$Processor", "left", "I", false)
  | 10 => ("Rasterbox$Processor", "done", "I", false)
  | 11 => ("Rasterbox$Processor", "instructions", "I", false)
  | _ => ("Rasterbox$Processor", "trace", "[I", true)
def tyX6 : Nat → FieldType := fun k => match k with
  | 0 => .int
  | 1 => .int
  | 2 => .int
  | 3 => .int
  | 4 => .int
  | 5 => .int
  | 6 => .boolean
  | 7 => .boolean
  | 8 => .int
  | 9 => .int
  | 10 => .int
  | 11 => .int
  | _ => .array .int
abbrev wsX60 : List Cond := u_ws RX6 TX6 13
theorem nmX6 : ∀ a, a < 13 → ∀ b, b < 13 → a ≠ b → (TX6 a).2.1 ≠ (TX6 b).2.1 := by decide +kernel
theorem tyX6_ok : ∀ k, k < 13 → parseFieldDescriptor (TX6 k).2.2.1 = some (tyX6 k) := by decide +kernel
abbrev cX6_init : ByteArray := prog_8_method_1_code
def yX6_init : MethodName := ⟨RX6, "<init>", "()V"⟩
abbrev cX6_become : ByteArray := prog_8_method_2_code
def yX6_become : MethodName := ⟨RX6, "become", "(LRasterbox$Processor;)V"⟩
abbrev cX6_isLike : ByteArray := prog_8_method_3_code
def yX6_isLike : MethodName := ⟨RX6, "isLike", "(LRasterbox$Processor;)Z"⟩
abbrev cX6_registerOf : ByteArray := prog_8_method_4_code
def yX6_registerOf : MethodName := ⟨RX6, "registerOf", "(I)I"⟩
abbrev cX6_exchange : ByteArray := prog_8_method_5_code
def yX6_exchange : MethodName := ⟨RX6, "exchange", "(II)I"⟩
abbrev cX6_startAnew : ByteArray := prog_8_method_6_code
def yX6_startAnew : MethodName := ⟨RX6, "startAnew", "(LRasterbox$Board;)V"⟩
abbrev cX6_begin : ByteArray := prog_8_method_7_code
def yX6_begin : MethodName := ⟨RX6, "begin", "(LRasterbox$Board;)V"⟩
abbrev cX6_cyclesAt : ByteArray := prog_8_method_8_code
def yX6_cyclesAt : MethodName := ⟨RX6, "cyclesAt", "(LRasterbox$Board;)I"⟩
abbrev cX6_cyclesOfBranch : ByteArray := prog_8_method_9_code
def yX6_cyclesOfBranch : MethodName := ⟨RX6, "cyclesOfBranch", "(II)I"⟩
abbrev cX6_targetOf : ByteArray := prog_8_method_10_code
def yX6_targetOf : MethodName := ⟨RX6, "targetOf", "(I)I"⟩
abbrev cX6_behind : ByteArray := prog_8_method_11_code
def yX6_behind : MethodName := ⟨RX6, "behind", "(I)I"⟩
abbrev cX6_isLastCycle : ByteArray := prog_8_method_12_code
def yX6_isLastCycle : MethodName := ⟨RX6, "isLastCycle", "()Z"⟩
abbrev cX6_finish : ByteArray := prog_8_method_13_code
def yX6_finish : MethodName := ⟨RX6, "finish", "(LRasterbox$Board;)V"⟩
abbrev cX6_indexOf : ByteArray := prog_8_method_14_code
def yX6_indexOf : MethodName := ⟨RX6, "indexOf", "(I)I"⟩
abbrev cX6_addressOf : ByteArray := prog_8_method_15_code
def yX6_addressOf : MethodName := ⟨RX6, "addressOf", "(LRasterbox$Board;I)I"⟩
abbrev cX6_baseOf : ByteArray := prog_8_method_16_code
def yX6_baseOf : MethodName := ⟨RX6, "baseOf", "(LRasterbox$Board;I)I"⟩
abbrev cX6_push : ByteArray := prog_8_method_17_code
def yX6_push : MethodName := ⟨RX6, "push", "(LRasterbox$Board;I)V"⟩
abbrev cX6_pull : ByteArray := prog_8_method_18_code
def yX6_pull : MethodName := ⟨RX6, "pull", "(LRasterbox$Board;)I"⟩
abbrev cX6_interrupt : ByteArray := prog_8_method_19_code
def yX6_interrupt : MethodName := ⟨RX6, "interrupt", "(LRasterbox$Board;III)V"⟩
abbrev cX6_setFlag : ByteArray := prog_8_method_20_code
def yX6_setFlag : MethodName := ⟨RX6, "setFlag", "(IZ)V"⟩
abbrev cX6_judge : ByteArray := prog_8_method_21_code
def yX6_judge : MethodName := ⟨RX6, "judge", "(I)I"⟩
abbrev cX6_match : ByteArray := prog_8_method_22_code
def yX6_match : MethodName := ⟨RX6, "match", "(II)V"⟩
abbrev cX6_calculate : ByteArray := prog_8_method_23_code
def yX6_calculate : MethodName := ⟨RX6, "calculate", "(II)V"⟩
abbrev cX6_store : ByteArray := prog_8_method_24_code
def yX6_store : MethodName := ⟨RX6, "store", "(LRasterbox$Board;II)V"⟩
abbrev cX6_add : ByteArray := prog_8_method_25_code
def yX6_add : MethodName := ⟨RX6, "add", "(I)V"⟩
abbrev cX6_subtract : ByteArray := prog_8_method_26_code
def yX6_subtract : MethodName := ⟨RX6, "subtract", "(I)V"⟩
abbrev cX6_addBinary : ByteArray := prog_8_method_27_code
def yX6_addBinary : MethodName := ⟨RX6, "addBinary", "(I)V"⟩
abbrev cX6_doPlain : ByteArray := prog_8_method_28_code
def yX6_doPlain : MethodName := ⟨RX6, "doPlain", "(LRasterbox$Board;I)V"⟩
abbrev cX6_jump : ByteArray := prog_8_method_29_code
def yX6_jump : MethodName := ⟨RX6, "jump", "(LRasterbox$Board;II)I"⟩
abbrev cX6_wordInPage : ByteArray := prog_8_method_30_code
def yX6_wordInPage : MethodName := ⟨RX6, "wordInPage", "(LRasterbox$Board;I)I"⟩
abbrev cX6_pullWord : ByteArray := prog_8_method_31_code
def yX6_pullWord : MethodName := ⟨RX6, "pullWord", "(LRasterbox$Board;)I"⟩
abbrev cX6_isTaken : ByteArray := prog_8_method_32_code
def yX6_isTaken : MethodName := ⟨RX6, "isTaken", "(I)Z"⟩
abbrev cX6_move : ByteArray := prog_8_method_33_code
def yX6_move : MethodName := ⟨RX6, "move", "(I)V"⟩
abbrev cX6_changeFlag : ByteArray := prog_8_method_34_code
def yX6_changeFlag : MethodName := ⟨RX6, "changeFlag", "(I)V"⟩
abbrev cX6_shift : ByteArray := prog_8_method_35_code
def yX6_shift : MethodName := ⟨RX6, "shift", "(I)V"⟩
def RX7 : String := "Rasterbox$Recording"
def TX7 : u_T := fun k => match k with
  | 0 => ("Rasterbox$Recording", "machine", "LRasterbox$Machine;", true)
  | 1 => ("Rasterbox$Recording", "kinds", "[I", true)
  | 2 => ("Rasterbox$Recording", "firsts", "[I", true)
  | 3 => ("Rasterbox$Recording", "seconds", "[I", true)
  | 4 => ("Rasterbox$Recording", "thirds", "[I", true)
  | 5 => ("Rasterbox$Recording", "count", "I", false)
  | 6 => ("Rasterbox$Recording", "played", "I", false)
  | _ => ("Rasterbox$Recording", "isOn", "Z", false)
def tyX7 : Nat → FieldType := fun k => match k with
  | 0 => .object "Rasterbox$Machine"
  | 1 => .array .int
  | 2 => .array .int
  | 3 => .array .int
  | 4 => .array .int
  | 5 => .int
  | 6 => .int
  | _ => .boolean
abbrev wsX70 : List Cond := u_ws RX7 TX7 8
theorem nmX7 : ∀ a, a < 8 → ∀ b, b < 8 → a ≠ b → (TX7 a).2.1 ≠ (TX7 b).2.1 := by decide +kernel
theorem tyX7_ok : ∀ k, k < 8 → parseFieldDescriptor (TX7 k).2.2.1 = some (tyX7 k) := by decide +kernel
abbrev cX7_init : ByteArray := prog_9_method_1_code
def yX7_init : MethodName := ⟨RX7, "<init>", "()V"⟩
abbrev cX7_begin : ByteArray := prog_9_method_2_code
def yX7_begin : MethodName := ⟨RX7, "begin", "(LRasterbox$Machine;)V"⟩
abbrev cX7_keep : ByteArray := prog_9_method_3_code
def yX7_keep : MethodName := ⟨RX7, "keep", "(IIII)V"⟩
def RX8 : String := "Rasterbox$Scene"
def TX8 : u_T := fun k => match k with
  | 0 => ("Rasterbox$Scene", "ram", "[I", true)
  | _ => ("Rasterbox$Scene", "registers", "[I", true)
def tyX8 : Nat → FieldType := fun k => match k with
  | 0 => .array .int
  | _ => .array .int
abbrev wsX80 : List Cond := u_ws RX8 TX8 2
theorem nmX8 : ∀ a, a < 2 → ∀ b, b < 2 → a ≠ b → (TX8 a).2.1 ≠ (TX8 b).2.1 := by decide +kernel
theorem tyX8_ok : ∀ k, k < 2 → parseFieldDescriptor (TX8 k).2.2.1 = some (tyX8 k) := by decide +kernel
abbrev cX8_init : ByteArray := prog_10_method_1_code
def yX8_init : MethodName := ⟨RX8, "<init>", "()V"⟩
abbrev cX8_become : ByteArray := prog_10_method_2_code
def yX8_become : MethodName := ⟨RX8, "become", "(LRasterbox$Scene;)V"⟩
abbrev cX8_bytesUnlike : ByteArray := prog_10_method_3_code
def yX8_bytesUnlike : MethodName := ⟨RX8, "bytesUnlike", "(LRasterbox$Scene;)I"⟩
abbrev cX8_put : ByteArray := prog_10_method_4_code
def yX8_put : MethodName := ⟨RX8, "put", "(II)V"⟩
abbrev cX8_clearRegisters : ByteArray := prog_10_method_5_code
def yX8_clearRegisters : MethodName := ⟨RX8, "clearRegisters", "()V"⟩
abbrev cX8_scrollLeft : ByteArray := prog_10_method_6_code
def yX8_scrollLeft : MethodName := ⟨RX8, "scrollLeft", "()I"⟩
abbrev cX8_scrollUp : ByteArray := prog_10_method_7_code
def yX8_scrollUp : MethodName := ⟨RX8, "scrollUp", "()I"⟩
abbrev cX8_takesCycle : ByteArray := prog_10_method_8_code
def yX8_takesCycle : MethodName := ⟨RX8, "takesCycle", "(II)Z"⟩
abbrev cX8_isAmongRows : ByteArray := prog_10_method_9_code
def yX8_isAmongRows : MethodName := ⟨RX8, "isAmongRows", "(II)Z"⟩
abbrev cX8_bitOf : ByteArray := prog_10_method_10_code
def yX8_bitOf : MethodName := ⟨RX8, "bitOf", "(II)I"⟩
abbrev cX8_valueAt : ByteArray := prog_10_method_11_code
def yX8_valueAt : MethodName := ⟨RX8, "valueAt", "(II)I"⟩
abbrev cX8_byteAt : ByteArray := prog_10_method_12_code
def yX8_byteAt : MethodName := ⟨RX8, "byteAt", "(I)I"⟩
abbrev cX8_isSolid : ByteArray := prog_10_method_13_code
def yX8_isSolid : MethodName := ⟨RX8, "isSolid", "(I)Z"⟩
abbrev cX8_spritesAt : ByteArray := prog_10_method_14_code
def yX8_spritesAt : MethodName := ⟨RX8, "spritesAt", "(II)I"⟩
abbrev cX8_colourOf : ByteArray := prog_10_method_15_code
def yX8_colourOf : MethodName := ⟨RX8, "colourOf", "(II)I"⟩
abbrev cX8_noteHits : ByteArray := prog_10_method_16_code
def yX8_noteHits : MethodName := ⟨RX8, "noteHits", "(II)V"⟩
def RX9 : String := "Rasterbox$Tape"
def TX9 : u_T := fun k => match k with
  | 0 => ("Rasterbox$Tape", "lengths", "[I", true)
  | 1 => ("Rasterbox$Tape", "count", "I", false)
  | 2 => ("Rasterbox$Tape", "over", "I", false)
  | 3 => ("Rasterbox$Tape", "elapsed", "I", false)
  | _ => ("Rasterbox$Tape", "level", "I", false)
def tyX9 : Nat → FieldType := fun k => match k with
  | 0 => .array .int
  | 1 => .int
  | 2 => .int
  | 3 => .int
  | _ => .int
abbrev wsX90 : List Cond := u_ws RX9 TX9 5
theorem nmX9 : ∀ a, a < 5 → ∀ b, b < 5 → a ≠ b → (TX9 a).2.1 ≠ (TX9 b).2.1 := by decide +kernel
theorem tyX9_ok : ∀ k, k < 5 → parseFieldDescriptor (TX9 k).2.2.1 = some (tyX9 k) := by decide +kernel
abbrev cX9_init : ByteArray := prog_11_method_1_code
def yX9_init : MethodName := ⟨RX9, "<init>", "()V"⟩
abbrev cX9_become : ByteArray := prog_11_method_2_code
def yX9_become : MethodName := ⟨RX9, "become", "(LRasterbox$Tape;)V"⟩
abbrev cX9_add : ByteArray := prog_11_method_3_code
def yX9_add : MethodName := ⟨RX9, "add", "(I)I"⟩
abbrev cX9_windBack : ByteArray := prog_11_method_4_code
def yX9_windBack : MethodName := ⟨RX9, "windBack", "()I"⟩
abbrev cX9_isPulseOver : ByteArray := prog_11_method_5_code
def yX9_isPulseOver : MethodName := ⟨RX9, "isPulseOver", "()Z"⟩
def RX10 : String := "Rasterbox$Voices"
def TX10 : u_T := fun k => match k with
  | 0 => ("Rasterbox$Voices", "phases", "[I", true)
  | 1 => ("Rasterbox$Voices", "levels", "[I", true)
  | 2 => ("Rasterbox$Voices", "waits", "[I", true)
  | 3 => ("Rasterbox$Voices", "noises", "[I", true)
  | _ => ("Rasterbox$Voices", "samples", "[I", true)
def tyX10 : Nat → FieldType := fun k => match k with
  | 0 => .array .int
  | 1 => .array .int
  | 2 => .array .int
  | 3 => .array .int
  | _ => .array .int
abbrev wsX100 : List Cond := u_ws RX10 TX10 5
theorem nmX10 : ∀ a, a < 5 → ∀ b, b < 5 → a ≠ b → (TX10 a).2.1 ≠ (TX10 b).2.1 := by decide +kernel
theorem tyX10_ok : ∀ k, k < 5 → parseFieldDescriptor (TX10 k).2.2.1 = some (tyX10 k) := by decide +kernel
abbrev cX10_init : ByteArray := prog_12_method_1_code
def yX10_init : MethodName := ⟨RX10, "<init>", "()V"⟩
abbrev cX10_become : ByteArray := prog_12_method_2_code
def yX10_become : MethodName := ⟨RX10, "become", "(LRasterbox$Voices;)V"⟩
abbrev cX10_isLike : ByteArray := prog_12_method_3_code
def yX10_isLike : MethodName := ⟨RX10, "isLike", "(LRasterbox$Voices;)Z"⟩
abbrev cX10_sound : ByteArray := prog_12_method_4_code
def yX10_sound : MethodName := ⟨RX10, "sound", "([II)V"⟩
abbrev cX10_turn : ByteArray := prog_12_method_5_code
def yX10_turn : MethodName := ⟨RX10, "turn", "(II)V"⟩
abbrev cX10_swell : ByteArray := prog_12_method_6_code
def yX10_swell : MethodName := ⟨RX10, "swell", "(IZI)V"⟩
abbrev cX10_outputOf : ByteArray := prog_12_method_7_code
def yX10_outputOf : MethodName := ⟨RX10, "outputOf", "(II)I"⟩
abbrev cX10_waveOf : ByteArray := prog_12_method_8_code
def yX10_waveOf : MethodName := ⟨RX10, "waveOf", "(III)I"⟩
def RX11 : String := "Rasterbox"
def TX11 : u_T := fun k => match k with
  | 0 => ("Rasterbox", "machine", "LRasterbox$Machine;", true)
  | 1 => ("Rasterbox", "snapshots", "[LRasterbox$Machine;", true)
  | 2 => ("Rasterbox", "saved", "I", false)
  | 3 => ("Rasterbox", "recording", "LRasterbox$Recording;", true)
  | 4 => ("Rasterbox", "monitorLine", "Ljava/lang/StringBuilder;", true)
  | _ => ("Rasterbox", "scratch", "LRasterbox$Scene;", true)
def tyX11 : Nat → FieldType := fun k => match k with
  | 0 => .object "Rasterbox$Machine"
  | 1 => .array (.object "Rasterbox$Machine")
  | 2 => .int
  | 3 => .object "Rasterbox$Recording"
  | 4 => .object "java/lang/StringBuilder"
  | _ => .object "Rasterbox$Scene"
abbrev wsX110 : List Cond := u_ws RX11 TX11 6
theorem nmX11 : ∀ a, a < 6 → ∀ b, b < 6 → a ≠ b → (TX11 a).2.1 ≠ (TX11 b).2.1 := by decide +kernel
theorem tyX11_ok : ∀ k, k < 6 → parseFieldDescriptor (TX11 k).2.2.1 = some (tyX11 k) := by decide +kernel
abbrev cX11_init : ByteArray := prog_1_method_1_code
def yX11_init : MethodName := ⟨RX11, "<init>", "()V"⟩
abbrev cX11_poke : ByteArray := prog_1_method_2_code
def yX11_poke : MethodName := ⟨RX11, "poke", "(II)I"⟩
abbrev cX11_pokeRom : ByteArray := prog_1_method_3_code
def yX11_pokeRom : MethodName := ⟨RX11, "pokeRom", "(II)I"⟩
abbrev cX11_pokeCartridge : ByteArray := prog_1_method_4_code
def yX11_pokeCartridge : MethodName := ⟨RX11, "pokeCartridge", "(III)I"⟩
abbrev cX11_peek : ByteArray := prog_1_method_5_code
def yX11_peek : MethodName := ⟨RX11, "peek", "(I)I"⟩
abbrev cX11_ram : ByteArray := prog_1_method_6_code
def yX11_ram : MethodName := ⟨RX11, "ram", "(I)I"⟩
abbrev cX11_assemble : ByteArray := prog_1_method_7_code
def yX11_assemble : MethodName := ⟨RX11, "assemble", "(III)I"⟩
abbrev cX11_writeLine : ByteArray := prog_1_method_8_code
def yX11_writeLine : MethodName := ⟨RX11, "writeLine", "(I)I"⟩
abbrev cX11_lineAt : ByteArray := prog_1_method_9_code
def yX11_lineAt : MethodName := ⟨RX11, "lineAt", "(I)C"⟩
abbrev cX11_compare : ByteArray := prog_1_method_10_code
def yX11_compare : MethodName := ⟨RX11, "compare", "(III)I"⟩
abbrev cX11_register : ByteArray := prog_1_method_11_code
def yX11_register : MethodName := ⟨RX11, "register", "(I)I"⟩
abbrev cX11_setRegister : ByteArray := prog_1_method_12_code
def yX11_setRegister : MethodName := ⟨RX11, "setRegister", "(II)I"⟩
abbrev cX11_status : ByteArray := prog_1_method_13_code
def yX11_status : MethodName := ⟨RX11, "status", "()I"⟩
abbrev cX11_reset : ByteArray := prog_1_method_14_code
def yX11_reset : MethodName := ⟨RX11, "reset", "()I"⟩
abbrev cX11_freeze : ByteArray := prog_1_method_15_code
def yX11_freeze : MethodName := ⟨RX11, "freeze", "()I"⟩
abbrev cX11_run : ByteArray := prog_1_method_16_code
def yX11_run : MethodName := ⟨RX11, "run", "(I)I"⟩
abbrev cX11_step : ByteArray := prog_1_method_17_code
def yX11_step : MethodName := ⟨RX11, "step", "()I"⟩
abbrev cX11_cycle : ByteArray := prog_1_method_18_code
def yX11_cycle : MethodName := ⟨RX11, "cycle", "()J"⟩
abbrev cX11_isPictures : ByteArray := prog_1_method_19_code
def yX11_isPictures : MethodName := ⟨RX11, "isPictures", "()Z"⟩
abbrev cX11_underWay : ByteArray := prog_1_method_20_code
def yX11_underWay : MethodName := ⟨RX11, "underWay", "()I"⟩
abbrev cX11_done : ByteArray := prog_1_method_21_code
def yX11_done : MethodName := ⟨RX11, "done", "()I"⟩
abbrev cX11_isJammed : ByteArray := prog_1_method_22_code
def yX11_isJammed : MethodName := ⟨RX11, "isJammed", "()Z"⟩
abbrev cX11_traceAt : ByteArray := prog_1_method_23_code
def yX11_traceAt : MethodName := ⟨RX11, "traceAt", "(I)I"⟩
abbrev cX11_pixel : ByteArray := prog_1_method_24_code
def yX11_pixel : MethodName := ⟨RX11, "pixel", "(II)I"⟩
abbrev cX11_pixelAgain : ByteArray := prog_1_method_25_code
def yX11_pixelAgain : MethodName := ⟨RX11, "pixelAgain", "(II)I"⟩
abbrev cX11_sample : ByteArray := prog_1_method_26_code
def yX11_sample : MethodName := ⟨RX11, "sample", "(I)I"⟩
abbrev cX11_level : ByteArray := prog_1_method_27_code
def yX11_level : MethodName := ⟨RX11, "level", "(I)I"⟩
abbrev cX11_key : ByteArray := prog_1_method_28_code
def yX11_key : MethodName := ⟨RX11, "key", "(IIZ)Z"⟩
abbrev cX11_columns : ByteArray := prog_1_method_29_code
def yX11_columns : MethodName := ⟨RX11, "columns", "(I)I"⟩
abbrev cX11_joystick : ByteArray := prog_1_method_30_code
def yX11_joystick : MethodName := ⟨RX11, "joystick", "(I)I"⟩
abbrev cX11_addPulse : ByteArray := prog_1_method_31_code
def yX11_addPulse : MethodName := ⟨RX11, "addPulse", "(I)I"⟩
abbrev cX11_rewind : ByteArray := prog_1_method_32_code
def yX11_rewind : MethodName := ⟨RX11, "rewind", "()I"⟩
abbrev cX11_pulsesLeft : ByteArray := prog_1_method_33_code
def yX11_pulsesLeft : MethodName := ⟨RX11, "pulsesLeft", "()I"⟩
abbrev cX11_save : ByteArray := prog_1_method_34_code
def yX11_save : MethodName := ⟨RX11, "save", "()I"⟩
abbrev cX11_restore : ByteArray := prog_1_method_35_code
def yX11_restore : MethodName := ⟨RX11, "restore", "(I)I"⟩
abbrev cX11_differences : ByteArray := prog_1_method_36_code
def yX11_differences : MethodName := ⟨RX11, "differences", "(I)I"⟩
abbrev cX11_startRecord : ByteArray := prog_1_method_37_code
def yX11_startRecord : MethodName := ⟨RX11, "startRecord", "()I"⟩
abbrev cX11_recorded : ByteArray := prog_1_method_38_code
def yX11_recorded : MethodName := ⟨RX11, "recorded", "()I"⟩
abbrev cX11_isSame : ByteArray := prog_1_method_39_code
def yX11_isSame : MethodName := ⟨RX11, "isSame", "()Z"⟩
abbrev cX11_sumOfPicture : ByteArray := prog_1_method_40_code
def yX11_sumOfPicture : MethodName := ⟨RX11, "sumOfPicture", "()I"⟩
abbrev cX11_pictures : ByteArray := prog_1_method_41_code
def yX11_pictures : MethodName := ⟨RX11, "pictures", "()J"⟩
abbrev cX11_solidShare : ByteArray := prog_1_method_42_code
def yX11_solidShare : MethodName := ⟨RX11, "solidShare", "()F"⟩
abbrev cX11_meanSample : ByteArray := prog_1_method_43_code
def yX11_meanSample : MethodName := ⟨RX11, "meanSample", "()D"⟩
abbrev cX11_checkAddress : ByteArray := prog_1_method_44_code
def yX11_checkAddress : MethodName := ⟨RX11, "checkAddress", "(I)V"⟩
abbrev cX11_checkIndex : ByteArray := prog_1_method_45_code
def yX11_checkIndex : MethodName := ⟨RX11, "checkIndex", "(II)V"⟩
abbrev cX11_checkByte : ByteArray := prog_1_method_46_code
def yX11_checkByte : MethodName := ⟨RX11, "checkByte", "(I)V"⟩
abbrev cX11_checkArgument : ByteArray := prog_1_method_47_code
def yX11_checkArgument : MethodName := ⟨RX11, "checkArgument", "(III)V"⟩
abbrev cX11_snapshotOf : ByteArray := prog_1_method_48_code
def yX11_snapshotOf : MethodName := ⟨RX11, "snapshotOf", "(I)LRasterbox$Machine;"⟩
def RX12 : String := "RasterboxModel"
def TX12 : u_T := fun k => match k with
  | 0 => ("RasterboxModel", "ram", "[I", true)
  | 1 => ("RasterboxModel", "rom", "[I", true)
  | 2 => ("RasterboxModel", "cartridge", "[I", true)
  | 3 => ("RasterboxModel", "registers", "[I", true)
  | 4 => ("RasterboxModel", "pixels", "[I", true)
  | 5 => ("RasterboxModel", "samples", "[I", true)
  | 6 => ("RasterboxModel", "keys", "[Z", true)
  | 7 => ("RasterboxModel", "pulses", "[I", true)
  | 8 => ("RasterboxModel", "trace", "[I", true)
  | 9 => ("RasterboxModel", "phases", "[I", true)
  | 10 => ("RasterboxModel", "levels", "[I", true)
  | 11 => ("RasterboxModel", "waits", "[I", true)
  | 12 => ("RasterboxModel", "noises", "[I", true)
  | 13 => ("RasterboxModel", "numbers", "[I", true)
  | 14 => ("RasterboxModel", "flags", "[Z", true)
  | 15 => ("RasterboxModel", "cycle", "J", false)
  | 16 => ("RasterboxModel", "pictured", "J", false)
  | 17 => ("RasterboxModel", "saved", "I", false)
  | 18 => ("RasterboxModel", "savedRam", "[I", true)
  | 19 => ("RasterboxModel", "savedRom", "[I", true)
  | 20 => ("RasterboxModel", "savedCartridge", "[I", true)
  | 21 => ("RasterboxModel", "savedRegisters", "[I", true)
  | 22 => ("RasterboxModel", "savedPixels", "[I", true)
  | 23 => ("RasterboxModel", "savedSamples", "[I", true)
  | 24 => ("RasterboxModel", "savedKeys", "[Z", true)
  | 25 => ("RasterboxModel", "savedPulses", "[I", true)
  | 26 => ("RasterboxModel", "savedTrace", "[I", true)
  | 27 => ("RasterboxModel", "savedPhases", "[I", true)
  | 28 => ("RasterboxModel", "savedLevels", "[I", true)
  | 29 => ("RasterboxModel", "savedWaits", "[I", true)
  | 30 => ("RasterboxModel", "savedNoises", "[I", true)
  | 31 => ("RasterboxModel", "savedNumbers", "[I", true)
  | 32 => ("RasterboxModel", "savedFlags", "[Z", true)
  | 33 => ("RasterboxModel", "savedCycles", "[J", true)
  | 34 => ("RasterboxModel", "recorded", "I", false)
  | 35 => ("RasterboxModel", "written", "I", false)
  | 36 => ("RasterboxModel", "line", "[C", true)
  | 37 => ("RasterboxModel", "live", "[Z", true)
  | 38 => ("RasterboxModel", "hasRunOut", "Z", false)
  | _ => ("RasterboxModel", "code", "I", false)
def tyX12 : Nat → FieldType := fun k => match k with
  | 0 => .array .int
  | 1 => .array .int
  | 2 => .array .int
  | 3 => .array .int
  | 4 => .array .int
  | 5 => .array .int
  | 6 => .array .boolean
  | 7 => .array .int
  | 8 => .array .int
  | 9 => .array .int
  | 10 => .array .int
  | 11 => .array .int
  | 12 => .array .int
  | 13 => .array .int
  | 14 => .array .boolean
  | 15 => .long
  | 16 => .long
  | 17 => .int
  | 18 => .array .int
  | 19 => .array .int
  | 20 => .array .int
  | 21 => .array .int
  | 22 => .array .int
  | 23 => .array .int
  | 24 => .array .boolean
  | 25 => .array .int
  | 26 => .array .int
  | 27 => .array .int
  | 28 => .array .int
  | 29 => .array .int
  | 30 => .array .int
  | 31 => .array .int
  | 32 => .array .boolean
  | 33 => .array .long
  | 34 => .int
  | 35 => .int
  | 36 => .array .char
  | 37 => .array .boolean
  | 38 => .boolean
  | _ => .int
abbrev wsX120 : List Cond := u_ws RX12 TX12 40
theorem nmX12 : ∀ a, a < 40 → ∀ b, b < 40 → a ≠ b → (TX12 a).2.1 ≠ (TX12 b).2.1 := by decide +kernel
theorem tyX12_ok : ∀ k, k < 40 → parseFieldDescriptor (TX12 k).2.2.1 = some (tyX12 k) := by decide +kernel
abbrev cX12_init : ByteArray := prog_14_method_1_code
def yX12_init : MethodName := ⟨RX12, "<init>", "()V"⟩
abbrev cX12_thrown : ByteArray := prog_14_method_2_code
def yX12_thrown : MethodName := ⟨RX12, "thrown", "()I"⟩
abbrev cX12_fails : ByteArray := prog_14_method_3_code
def yX12_fails : MethodName := ⟨RX12, "fails", "(I)Z"⟩
abbrev cX12_tells : ByteArray := prog_14_method_4_code
def yX12_tells : MethodName := ⟨RX12, "tells", "(I)I"⟩
abbrev cX12_in : ByteArray := prog_14_method_5_code
def yX12_in : MethodName := ⟨RX12, "in", "(III)Z"⟩
abbrev cX12_isNoByte : ByteArray := prog_14_method_6_code
def yX12_isNoByte : MethodName := ⟨RX12, "isNoByte", "(I)Z"⟩
abbrev cX12_isNoAddress : ByteArray := prog_14_method_7_code
def yX12_isNoAddress : MethodName := ⟨RX12, "isNoAddress", "(I)Z"⟩
abbrev cX12_keeps : ByteArray := prog_14_method_8_code
def yX12_keeps : MethodName := ⟨RX12, "keeps", "()V"⟩
abbrev cX12_has : ByteArray := prog_14_method_9_code
def yX12_has : MethodName := ⟨RX12, "has", "(II)Z"⟩
abbrev cX12_lineNow : ByteArray := prog_14_method_10_code
def yX12_lineNow : MethodName := ⟨RX12, "lineNow", "()I"⟩
abbrev cX12_seenColumns : ByteArray := prog_14_method_11_code
def yX12_seenColumns : MethodName := ⟨RX12, "seenColumns", "(I)I"⟩
abbrev cX12_hasPulse : ByteArray := prog_14_method_12_code
def yX12_hasPulse : MethodName := ⟨RX12, "hasPulse", "()Z"⟩
abbrev cX12_readRegister : ByteArray := prog_14_method_13_code
def yX12_readRegister : MethodName := ⟨RX12, "readRegister", "(I)I"⟩
abbrev cX12_bitsOf : ByteArray := prog_14_method_14_code
def yX12_bitsOf : MethodName := ⟨RX12, "bitsOf", "(I)I"⟩
abbrev cX12_writeRegister : ByteArray := prog_14_method_15_code
def yX12_writeRegister : MethodName := ⟨RX12, "writeRegister", "(II)V"⟩
abbrev cX12_wrap : ByteArray := prog_14_method_16_code
def yX12_wrap : MethodName := ⟨RX12, "wrap", "(I)I"⟩
abbrev cX12_reads : ByteArray := prog_14_method_17_code
def yX12_reads : MethodName := ⟨RX12, "reads", "(I)I"⟩
abbrev cX12_writes : ByteArray := prog_14_method_18_code
def yX12_writes : MethodName := ⟨RX12, "writes", "(II)V"⟩
abbrev cX12_poke : ByteArray := prog_14_method_19_code
def yX12_poke : MethodName := ⟨RX12, "poke", "(II)I"⟩
abbrev cX12_pokeRom : ByteArray := prog_14_method_20_code
def yX12_pokeRom : MethodName := ⟨RX12, "pokeRom", "(II)I"⟩
abbrev cX12_pokeCartridge : ByteArray := prog_14_method_21_code
def yX12_pokeCartridge : MethodName := ⟨RX12, "pokeCartridge", "(III)I"⟩
abbrev cX12_peek : ByteArray := prog_14_method_22_code
def yX12_peek : MethodName := ⟨RX12, "peek", "(I)I"⟩
abbrev cX12_ram : ByteArray := prog_14_method_23_code
def yX12_ram : MethodName := ⟨RX12, "ram", "(I)I"⟩
abbrev cX12_compare : ByteArray := prog_14_method_24_code
def yX12_compare : MethodName := ⟨RX12, "compare", "(III)I"⟩
abbrev cX12_rowNow : ByteArray := prog_14_method_25_code
def yX12_rowNow : MethodName := ⟨RX12, "rowNow", "()I"⟩
abbrev cX12_isOn : ByteArray := prog_14_method_26_code
def yX12_isOn : MethodName := ⟨RX12, "isOn", "(I)Z"⟩
abbrev cX12_isAmong : ByteArray := prog_14_method_27_code
def yX12_isAmong : MethodName := ⟨RX12, "isAmong", "(II)Z"⟩
abbrev cX12_isOfPicture : ByteArray := prog_14_method_28_code
def yX12_isOfPicture : MethodName := ⟨RX12, "isOfPicture", "()Z"⟩
abbrev cX12_pictureAt : ByteArray := prog_14_method_29_code
def yX12_pictureAt : MethodName := ⟨RX12, "pictureAt", "(II)I"⟩
abbrev cX12_covers : ByteArray := prog_14_method_30_code
def yX12_covers : MethodName := ⟨RX12, "covers", "(III)Z"⟩
abbrev cX12_draws : ByteArray := prog_14_method_31_code
def yX12_draws : MethodName := ⟨RX12, "draws", "(II)V"⟩
abbrev cX12_counts : ByteArray := prog_14_method_32_code
def yX12_counts : MethodName := ⟨RX12, "counts", "(I)Z"⟩
abbrev cX12_times : ByteArray := prog_14_method_33_code
def yX12_times : MethodName := ⟨RX12, "times", "()V"⟩
abbrev cX12_winds : ByteArray := prog_14_method_34_code
def yX12_winds : MethodName := ⟨RX12, "winds", "()V"⟩
abbrev cX12_sounds : ByteArray := prog_14_method_35_code
def yX12_sounds : MethodName := ⟨RX12, "sounds", "(I)V"⟩
abbrev cX12_gives : ByteArray := prog_14_method_36_code
def yX12_gives : MethodName := ⟨RX12, "gives", "(I)I"⟩
abbrev cX12_makesSample : ByteArray := prog_14_method_37_code
def yX12_makesSample : MethodName := ⟨RX12, "makesSample", "()V"⟩
abbrev cX12_passes : ByteArray := prog_14_method_38_code
def yX12_passes : MethodName := ⟨RX12, "passes", "()Z"⟩
abbrev cX12_run : ByteArray := prog_14_method_39_code
def yX12_run : MethodName := ⟨RX12, "run", "(I)I"⟩
abbrev cX12_step : ByteArray := prog_14_method_40_code
def yX12_step : MethodName := ⟨RX12, "step", "()I"⟩
abbrev cX12_cycle : ByteArray := prog_14_method_41_code
def yX12_cycle : MethodName := ⟨RX12, "cycle", "()J"⟩
abbrev cX12_isPictures : ByteArray := prog_14_method_42_code
def yX12_isPictures : MethodName := ⟨RX12, "isPictures", "()Z"⟩
abbrev cX12_underWay : ByteArray := prog_14_method_43_code
def yX12_underWay : MethodName := ⟨RX12, "underWay", "()I"⟩
abbrev cX12_done : ByteArray := prog_14_method_44_code
def yX12_done : MethodName := ⟨RX12, "done", "()I"⟩
abbrev cX12_isJammed : ByteArray := prog_14_method_45_code
def yX12_isJammed : MethodName := ⟨RX12, "isJammed", "()Z"⟩
abbrev cX12_traceAt : ByteArray := prog_14_method_46_code
def yX12_traceAt : MethodName := ⟨RX12, "traceAt", "(I)I"⟩
abbrev cX12_operationOf : ByteArray := prog_14_method_47_code
def yX12_operationOf : MethodName := ⟨RX12, "operationOf", "(I)I"⟩
abbrev cX12_isWriting : ByteArray := prog_14_method_48_code
def yX12_isWriting : MethodName := ⟨RX12, "isWriting", "(I)Z"⟩
abbrev cX12_lengthOf : ByteArray := prog_14_method_49_code
def yX12_lengthOf : MethodName := ⟨RX12, "lengthOf", "(I)I"⟩
abbrev cX12_byteAt : ByteArray := prog_14_method_50_code
def yX12_byteAt : MethodName := ⟨RX12, "byteAt", "(I)I"⟩
abbrev cX12_wordAt : ByteArray := prog_14_method_51_code
def yX12_wordAt : MethodName := ⟨RX12, "wordAt", "(I)I"⟩
abbrev cX12_baseOf : ByteArray := prog_14_method_52_code
def yX12_baseOf : MethodName := ⟨RX12, "baseOf", "(II)I"⟩
abbrev cX12_addressOf : ByteArray := prog_14_method_53_code
def yX12_addressOf : MethodName := ⟨RX12, "addressOf", "(II)I"⟩
abbrev cX12_modeCycles : ByteArray := prog_14_method_54_code
def yX12_modeCycles : MethodName := ⟨RX12, "modeCycles", "(III)I"⟩
abbrev cX12_isTaken : ByteArray := prog_14_method_55_code
def yX12_isTaken : MethodName := ⟨RX12, "isTaken", "(I)Z"⟩
abbrev cX12_targetOf : ByteArray := prog_14_method_56_code
def yX12_targetOf : MethodName := ⟨RX12, "targetOf", "(I)I"⟩
abbrev cX12_cyclesOf : ByteArray := prog_14_method_57_code
def yX12_cyclesOf : MethodName := ⟨RX12, "cyclesOf", "(I)I"⟩
abbrev cX12_pushes : ByteArray := prog_14_method_58_code
def yX12_pushes : MethodName := ⟨RX12, "pushes", "(I)V"⟩
abbrev cX12_pulls : ByteArray := prog_14_method_59_code
def yX12_pulls : MethodName := ⟨RX12, "pulls", "()I"⟩
abbrev cX12_bit : ByteArray := prog_14_method_60_code
def yX12_bit : MethodName := ⟨RX12, "bit", "(II)I"⟩
abbrev cX12_statusWith : ByteArray := prog_14_method_61_code
def yX12_statusWith : MethodName := ⟨RX12, "statusWith", "(I)I"⟩
abbrev cX12_becomesStatus : ByteArray := prog_14_method_62_code
def yX12_becomesStatus : MethodName := ⟨RX12, "becomesStatus", "(I)V"⟩
abbrev cX12_interrupts : ByteArray := prog_14_method_63_code
def yX12_interrupts : MethodName := ⟨RX12, "interrupts", "(III)V"⟩
abbrev cX12_sets : ByteArray := prog_14_method_64_code
def yX12_sets : MethodName := ⟨RX12, "sets", "(I)I"⟩
abbrev cX12_becomes : ByteArray := prog_14_method_65_code
def yX12_becomes : MethodName := ⟨RX12, "becomes", "(II)V"⟩
abbrev cX12_compares : ByteArray := prog_14_method_66_code
def yX12_compares : MethodName := ⟨RX12, "compares", "(II)V"⟩
abbrev cX12_adds : ByteArray := prog_14_method_67_code
def yX12_adds : MethodName := ⟨RX12, "adds", "(I)V"⟩
abbrev cX12_addsDecimal : ByteArray := prog_14_method_68_code
def yX12_addsDecimal : MethodName := ⟨RX12, "addsDecimal", "(III)V"⟩
abbrev cX12_takesDecimal : ByteArray := prog_14_method_69_code
def yX12_takesDecimal : MethodName := ⟨RX12, "takesDecimal", "(III)V"⟩
abbrev cX12_calculates : ByteArray := prog_14_method_70_code
def yX12_calculates : MethodName := ⟨RX12, "calculates", "(ZI)V"⟩
abbrev cX12_takes : ByteArray := prog_14_method_71_code
def yX12_takes : MethodName := ⟨RX12, "takes", "(I)I"⟩
abbrev cX12_operates : ByteArray := prog_14_method_72_code
def yX12_operates : MethodName := ⟨RX12, "operates", "(II)V"⟩
abbrev cX12_changes : ByteArray := prog_14_method_73_code
def yX12_changes : MethodName := ⟨RX12, "changes", "(II)V"⟩
abbrev cX12_doesMode : ByteArray := prog_14_method_74_code
def yX12_doesMode : MethodName := ⟨RX12, "doesMode", "(III)V"⟩
abbrev cX12_shifts : ByteArray := prog_14_method_75_code
def yX12_shifts : MethodName := ⟨RX12, "shifts", "(I)V"⟩
abbrev cX12_doesOther : ByteArray := prog_14_method_76_code
def yX12_doesOther : MethodName := ⟨RX12, "doesOther", "(II)V"⟩
abbrev cX12_pulledAddress : ByteArray := prog_14_method_77_code
def yX12_pulledAddress : MethodName := ⟨RX12, "pulledAddress", "(I)I"⟩
abbrev cX12_jumps : ByteArray := prog_14_method_78_code
def yX12_jumps : MethodName := ⟨RX12, "jumps", "(II)V"⟩
abbrev cX12_does : ByteArray := prog_14_method_79_code
def yX12_does : MethodName := ⟨RX12, "does", "(I)V"⟩
abbrev cX12_begins : ByteArray := prog_14_method_80_code
def yX12_begins : MethodName := ⟨RX12, "begins", "()V"⟩
abbrev cX12_goesOn : ByteArray := prog_14_method_81_code
def yX12_goesOn : MethodName := ⟨RX12, "goesOn", "()V"⟩
abbrev cX12_assemble : ByteArray := prog_14_method_82_code
def yX12_assemble : MethodName := ⟨RX12, "assemble", "(III)I"⟩
abbrev cX12_puts : ByteArray := prog_14_method_83_code
def yX12_puts : MethodName := ⟨RX12, "puts", "(C)V"⟩
abbrev cX12_putsNumber : ByteArray := prog_14_method_84_code
def yX12_putsNumber : MethodName := ⟨RX12, "putsNumber", "(I)V"⟩
abbrev cX12_putsName : ByteArray := prog_14_method_85_code
def yX12_putsName : MethodName := ⟨RX12, "putsName", "(I)V"⟩
abbrev cX12_putsMode : ByteArray := prog_14_method_86_code
def yX12_putsMode : MethodName := ⟨RX12, "putsMode", "(II)V"⟩
abbrev cX12_putsOther : ByteArray := prog_14_method_87_code
def yX12_putsOther : MethodName := ⟨RX12, "putsOther", "(II)V"⟩
abbrev cX12_isJam : ByteArray := prog_14_method_88_code
def yX12_isJam : MethodName := ⟨RX12, "isJam", "(I)Z"⟩
abbrev cX12_writeLine : ByteArray := prog_14_method_89_code
def yX12_writeLine : MethodName := ⟨RX12, "writeLine", "(I)I"⟩
abbrev cX12_lineAt : ByteArray := prog_14_method_90_code
def yX12_lineAt : MethodName := ⟨RX12, "lineAt", "(I)C"⟩
abbrev cX12_register : ByteArray := prog_14_method_91_code
def yX12_register : MethodName := ⟨RX12, "register", "(I)I"⟩
abbrev cX12_setRegister : ByteArray := prog_14_method_92_code
def yX12_setRegister : MethodName := ⟨RX12, "setRegister", "(II)I"⟩
abbrev cX12_status : ByteArray := prog_14_method_93_code
def yX12_status : MethodName := ⟨RX12, "status", "()I"⟩
abbrev cX12_reset : ByteArray := prog_14_method_94_code
def yX12_reset : MethodName := ⟨RX12, "reset", "()I"⟩
abbrev cX12_freeze : ByteArray := prog_14_method_95_code
def yX12_freeze : MethodName := ⟨RX12, "freeze", "()I"⟩
abbrev cX12_pixelAt : ByteArray := prog_14_method_96_code
def yX12_pixelAt : MethodName := ⟨RX12, "pixelAt", "(II)I"⟩
abbrev cX12_pixel : ByteArray := prog_14_method_97_code
def yX12_pixel : MethodName := ⟨RX12, "pixel", "(II)I"⟩
abbrev cX12_pixelAgain : ByteArray := prog_14_method_98_code
def yX12_pixelAgain : MethodName := ⟨RX12, "pixelAgain", "(II)I"⟩
abbrev cX12_sample : ByteArray := prog_14_method_99_code
def yX12_sample : MethodName := ⟨RX12, "sample", "(I)I"⟩
abbrev cX12_level : ByteArray := prog_14_method_100_code
def yX12_level : MethodName := ⟨RX12, "level", "(I)I"⟩
abbrev cX12_key : ByteArray := prog_14_method_101_code
def yX12_key : MethodName := ⟨RX12, "key", "(IIZ)Z"⟩
abbrev cX12_columns : ByteArray := prog_14_method_102_code
def yX12_columns : MethodName := ⟨RX12, "columns", "(I)I"⟩
abbrev cX12_joystick : ByteArray := prog_14_method_103_code
def yX12_joystick : MethodName := ⟨RX12, "joystick", "(I)I"⟩
abbrev cX12_addPulse : ByteArray := prog_14_method_104_code
def yX12_addPulse : MethodName := ⟨RX12, "addPulse", "(I)I"⟩
abbrev cX12_rewind : ByteArray := prog_14_method_105_code
def yX12_rewind : MethodName := ⟨RX12, "rewind", "()I"⟩
abbrev cX12_pulsesLeft : ByteArray := prog_14_method_106_code
def yX12_pulsesLeft : MethodName := ⟨RX12, "pulsesLeft", "()I"⟩
abbrev cX12_lays : ByteArray := prog_14_method_107_code
def yX12_lays : MethodName := ⟨RX12, "lays", "([II[III)V"⟩
abbrev cX12_laysFlags : ByteArray := prog_14_method_108_code
def yX12_laysFlags : MethodName := ⟨RX12, "laysFlags", "([ZI[ZII)V"⟩
abbrev cX12_save : ByteArray := prog_14_method_109_code
def yX12_save : MethodName := ⟨RX12, "save", "()I"⟩
abbrev cX12_unlike : ByteArray := prog_14_method_110_code
def yX12_unlike : MethodName := ⟨RX12, "unlike", "(I)I"⟩
abbrev cX12_restore : ByteArray := prog_14_method_111_code
def yX12_restore : MethodName := ⟨RX12, "restore", "(I)I"⟩
abbrev cX12_differences : ByteArray := prog_14_method_112_code
def yX12_differences : MethodName := ⟨RX12, "differences", "(I)I"⟩
abbrev cX12_startRecord : ByteArray := prog_14_method_113_code
def yX12_startRecord : MethodName := ⟨RX12, "startRecord", "()I"⟩
abbrev cX12_recorded : ByteArray := prog_14_method_114_code
def yX12_recorded : MethodName := ⟨RX12, "recorded", "()I"⟩
abbrev cX12_isSame : ByteArray := prog_14_method_115_code
def yX12_isSame : MethodName := ⟨RX12, "isSame", "()Z"⟩
abbrev cX12_sumOfPicture : ByteArray := prog_14_method_116_code
def yX12_sumOfPicture : MethodName := ⟨RX12, "sumOfPicture", "()I"⟩
abbrev cX12_pictures : ByteArray := prog_14_method_117_code
def yX12_pictures : MethodName := ⟨RX12, "pictures", "()J"⟩
abbrev cX12_solidShare : ByteArray := prog_14_method_118_code
def yX12_solidShare : MethodName := ⟨RX12, "solidShare", "()F"⟩
abbrev cX12_meanSample : ByteArray := prog_14_method_119_code
def yX12_meanSample : MethodName := ⟨RX12, "meanSample", "()D"⟩
def RJx145de : String := "java/io/Serializable"
def TJx145de : u_T := fun k => match k with
  | _ => ("", "", "", false)
def tyJx145de : Nat → FieldType := fun k => match k with
  | _ => .int
abbrev wsJx145de0 : List Cond := u_ws RJx145de TJx145de 0
theorem nmJx145de : ∀ a, a < 0 → ∀ b, b < 0 → a ≠ b → (TJx145de a).2.1 ≠ (TJx145de b).2.1 := by decide +kernel
theorem tyJx145de_ok : ∀ k, k < 0 → parseFieldDescriptor (TJx145de k).2.2.1 = some (tyJx145de k) := by decide +kernel
def RJ5 : String := "java/lang/AbstractStringBuilder"
def TJ5 : u_T := fun k => match k with
  | _ => ("", "", "", false)
def tyJ5 : Nat → FieldType := fun k => match k with
  | _ => .int
abbrev wsJ50 : List Cond := u_ws RJ5 TJ5 0
theorem nmJ5 : ∀ a, a < 0 → ∀ b, b < 0 → a ≠ b → (TJ5 a).2.1 ≠ (TJ5 b).2.1 := by decide +kernel
theorem tyJ5_ok : ∀ k, k < 0 → parseFieldDescriptor (TJ5 k).2.2.1 = some (tyJ5 k) := by decide +kernel
abbrev cJ5_init_d00df : ByteArray := prog_16_method_2_code
def yJ5_init_d00df : MethodName := ⟨RJ5, "<init>", "(I)V"⟩
abbrev cJ5_length_8abf5 : ByteArray := prog_16_method_6_code
def yJ5_length_8abf5 : MethodName := ⟨RJ5, "length", "()I"⟩
abbrev cJ5_ensureCapacityInternal_d00df : ByteArray := prog_16_method_9_code
def yJ5_ensureCapacityInternal_d00df : MethodName := ⟨RJ5, "ensureCapacityInternal", "(I)V"⟩
abbrev cJ5_newCapacity_0f7a4 : ByteArray := prog_16_method_10_code
def yJ5_newCapacity_0f7a4 : MethodName := ⟨RJ5, "newCapacity", "(I)I"⟩
abbrev cJ5_inflate_da8c8 : ByteArray := prog_16_method_11_code
def yJ5_inflate_da8c8 : MethodName := ⟨RJ5, "inflate", "()V"⟩
abbrev cJ5_setLength_d00df : ByteArray := prog_16_method_13_code
def yJ5_setLength_d00df : MethodName := ⟨RJ5, "setLength", "(I)V"⟩
abbrev cJ5_charAt_5068e : ByteArray := prog_16_method_14_code
def yJ5_charAt_5068e : MethodName := ⟨RJ5, "charAt", "(I)C"⟩
abbrev cJ5_append_cf1ce : ByteArray := prog_16_method_22_code
def yJ5_append_cf1ce : MethodName := ⟨RJ5, "append", "(Ljava/lang/String;)Ljava/lang/AbstractStringBuilder;"⟩
abbrev cJ5_appendNull_278bc : ByteArray := prog_16_method_26_code
def yJ5_appendNull_278bc : MethodName := ⟨RJ5, "appendNull", "()Ljava/lang/AbstractStringBuilder;"⟩
abbrev cJ5_append_3fe6f : ByteArray := prog_16_method_31_code
def yJ5_append_3fe6f : MethodName := ⟨RJ5, "append", "(C)Ljava/lang/AbstractStringBuilder;"⟩
abbrev cJ5_append_c97b9 : ByteArray := prog_16_method_32_code
def yJ5_append_c97b9 : MethodName := ⟨RJ5, "append", "(I)Ljava/lang/AbstractStringBuilder;"⟩
abbrev cJ5_getValue_6d5f1 : ByteArray := prog_16_method_64_code
def yJ5_getValue_6d5f1 : MethodName := ⟨RJ5, "getValue", "()[B"⟩
abbrev cJ5_isLatin1_aae02 : ByteArray := prog_16_method_68_code
def yJ5_isLatin1_aae02 : MethodName := ⟨RJ5, "isLatin1", "()Z"⟩
abbrev cJ5_inflateIfNeededFor_a7421 : ByteArray := prog_16_method_71_code
def yJ5_inflateIfNeededFor_a7421 : MethodName := ⟨RJ5, "inflateIfNeededFor", "(Ljava/lang/String;)V"⟩
abbrev cJ5_putStringAt_47b60 : ByteArray := prog_16_method_73_code
def yJ5_putStringAt_47b60 : MethodName := ⟨RJ5, "putStringAt", "(ILjava/lang/String;)V"⟩
def RJx2cfe8 : String := "java/lang/Appendable"
def TJx2cfe8 : u_T := fun k => match k with
  | _ => ("", "", "", false)
def tyJx2cfe8 : Nat → FieldType := fun k => match k with
  | _ => .int
abbrev wsJx2cfe80 : List Cond := u_ws RJx2cfe8 TJx2cfe8 0
theorem nmJx2cfe8 : ∀ a, a < 0 → ∀ b, b < 0 → a ≠ b → (TJx2cfe8 a).2.1 ≠ (TJx2cfe8 b).2.1 := by decide +kernel
theorem tyJx2cfe8_ok : ∀ k, k < 0 → parseFieldDescriptor (TJx2cfe8 k).2.2.1 = some (tyJx2cfe8 k) := by decide +kernel
def RJx00060 : String := "java/lang/ArrayIndexOutOfBoundsException"
def TJx00060 : u_T := fun k => match k with
  | 0 => ("java/lang/Throwable", "cause", "Ljava/lang/Throwable;", false)
  | 1 => ("java/lang/Throwable", "stackTrace", "[Ljava/lang/StackTraceElement;", false)
  | 2 => ("java/lang/Throwable", "suppressedExceptions", "Ljava/util/List;", false)
  | 3 => ("java/lang/Throwable", "detailMessage", "Ljava/lang/String;", false)
  | 4 => ("java/lang/Throwable", "backtrace", "Ljava/lang/Object;", false)
  | _ => ("java/lang/Throwable", "depth", "I", false)
def tyJx00060 : Nat → FieldType := fun k => match k with
  | 0 => .object "java/lang/Throwable"
  | 1 => .array (.object "java/lang/StackTraceElement")
  | 2 => .object "java/util/List"
  | 3 => .object "java/lang/String"
  | 4 => .object "java/lang/Object"
  | _ => .int
abbrev wsJx000600 : List Cond := u_ws RJx00060 TJx00060 6
theorem nmJx00060 : ∀ a, a < 6 → ∀ b, b < 6 → a ≠ b → (TJx00060 a).2.1 ≠ (TJx00060 b).2.1 := by decide +kernel
theorem tyJx00060_ok : ∀ k, k < 6 → parseFieldDescriptor (TJx00060 k).2.2.1 = some (tyJx00060 k) := by decide +kernel
abbrev cJx00060_init_d00df : ByteArray := prog_18_method_3_code
def yJx00060_init_d00df : MethodName := ⟨RJx00060, "<init>", "(I)V"⟩
def RJx9f9b0 : String := "java/lang/CharSequence"
def TJx9f9b0 : u_T := fun k => match k with
  | _ => ("", "", "", false)
def tyJx9f9b0 : Nat → FieldType := fun k => match k with
  | _ => .int
abbrev wsJx9f9b00 : List Cond := u_ws RJx9f9b0 TJx9f9b0 0
theorem nmJx9f9b0 : ∀ a, a < 0 → ∀ b, b < 0 → a ≠ b → (TJx9f9b0 a).2.1 ≠ (TJx9f9b0 b).2.1 := by decide +kernel
theorem tyJx9f9b0_ok : ∀ k, k < 0 → parseFieldDescriptor (TJx9f9b0 k).2.2.1 = some (tyJx9f9b0 k) := by decide +kernel
def RJx8e188 : String := "java/lang/Cloneable"
def TJx8e188 : u_T := fun k => match k with
  | _ => ("", "", "", false)
def tyJx8e188 : Nat → FieldType := fun k => match k with
  | _ => .int
abbrev wsJx8e1880 : List Cond := u_ws RJx8e188 TJx8e188 0
theorem nmJx8e188 : ∀ a, a < 0 → ∀ b, b < 0 → a ≠ b → (TJx8e188 a).2.1 ≠ (TJx8e188 b).2.1 := by decide +kernel
theorem tyJx8e188_ok : ∀ k, k < 0 → parseFieldDescriptor (TJx8e188 k).2.2.1 = some (tyJx8e188 k) := by decide +kernel
def RJxb160c : String := "java/lang/Comparable"
def TJxb160c : u_T := fun k => match k with
  | _ => ("", "", "", false)
def tyJxb160c : Nat → FieldType := fun k => match k with
  | _ => .int
abbrev wsJxb160c0 : List Cond := u_ws RJxb160c TJxb160c 0
theorem nmJxb160c : ∀ a, a < 0 → ∀ b, b < 0 → a ≠ b → (TJxb160c a).2.1 ≠ (TJxb160c b).2.1 := by decide +kernel
theorem tyJxb160c_ok : ∀ k, k < 0 → parseFieldDescriptor (TJxb160c k).2.2.1 = some (tyJxb160c k) := by decide +kernel
def RJ6 : String := "java/lang/Integer"
def TJ6 : u_T := fun k => match k with
  | _ => ("", "", "", false)
def tyJ6 : Nat → FieldType := fun k => match k with
  | _ => .int
abbrev wsJ60 : List Cond := u_ws RJ6 TJ6 0
theorem nmJ6 : ∀ a, a < 0 → ∀ b, b < 0 → a ≠ b → (TJ6 a).2.1 ≠ (TJ6 b).2.1 := by decide +kernel
theorem tyJ6_ok : ∀ k, k < 0 → parseFieldDescriptor (TJ6 k).2.2.1 = some (tyJ6 k) := by decide +kernel
abbrev cJ6_getChars_ba4f3 : ByteArray := prog_26_method_12_code
def yJ6_getChars_ba4f3 : MethodName := ⟨RJ6, "getChars", "(II[B)I"⟩
abbrev cJ6_stringSize_0f7a4 : ByteArray := prog_26_method_13_code
def yJ6_stringSize_0f7a4 : MethodName := ⟨RJ6, "stringSize", "(I)I"⟩
abbrev cJ6_bitCount_0f7a4 : ByteArray := prog_26_method_49_code
def yJ6_bitCount_0f7a4 : MethodName := ⟨RJ6, "bitCount", "(I)I"⟩
def RJ9 : String := "java/lang/Math"
def TJ9 : u_T := fun k => match k with
  | _ => ("", "", "", false)
def tyJ9 : Nat → FieldType := fun k => match k with
  | _ => .int
abbrev wsJ90 : List Cond := u_ws RJ9 TJ9 0
theorem nmJ9 : ∀ a, a < 0 → ∀ b, b < 0 → a ≠ b → (TJ9 a).2.1 ≠ (TJ9 b).2.1 := by decide +kernel
theorem tyJ9_ok : ∀ k, k < 0 → parseFieldDescriptor (TJ9 k).2.2.1 = some (tyJ9 k) := by decide +kernel
abbrev cJ9_max_7cf53 : ByteArray := prog_27_method_65_code
def yJ9_max_7cf53 : MethodName := ⟨RJ9, "max", "(II)I"⟩
abbrev cJ9_min_7cf53 : ByteArray := prog_27_method_69_code
def yJ9_min_7cf53 : MethodName := ⟨RJ9, "min", "(II)I"⟩
def RJxd2413 : String := "java/lang/Number"
def TJxd2413 : u_T := fun k => match k with
  | _ => ("", "", "", false)
def tyJxd2413 : Nat → FieldType := fun k => match k with
  | _ => .int
abbrev wsJxd24130 : List Cond := u_ws RJxd2413 TJxd2413 0
theorem nmJxd2413 : ∀ a, a < 0 → ∀ b, b < 0 → a ≠ b → (TJxd2413 a).2.1 ≠ (TJxd2413 b).2.1 := by decide +kernel
theorem tyJxd2413_ok : ∀ k, k < 0 → parseFieldDescriptor (TJxd2413 k).2.2.1 = some (tyJxd2413 k) := by decide +kernel
def RJ0 : String := "java/lang/String"
def TJ0 : u_T := fun k => match k with
  | 0 => ("java/lang/String", "value", "[B", true)
  | 1 => ("java/lang/String", "coder", "B", true)
  | 2 => ("java/lang/String", "hash", "I", false)
  | _ => ("java/lang/String", "hashIsZero", "Z", false)
def tyJ0 : Nat → FieldType := fun k => match k with
  | 0 => .array .byte
  | 1 => .byte
  | 2 => .int
  | _ => .boolean
abbrev wsJ00 : List Cond := u_ws RJ0 TJ0 4
theorem nmJ0 : ∀ a, a < 4 → ∀ b, b < 4 → a ≠ b → (TJ0 a).2.1 ≠ (TJ0 b).2.1 := by decide +kernel
theorem tyJ0_ok : ∀ k, k < 4 → parseFieldDescriptor (TJ0 k).2.2.1 = some (tyJ0 k) := by decide +kernel
abbrev cJ0_init_81219 : ByteArray := prog_30_method_53_code
def yJ0_init_81219 : MethodName := ⟨RJ0, "<init>", "(Ljava/lang/StringBuilder;)V"⟩
abbrev cJ0_length_8abf5 : ByteArray := prog_30_method_54_code
def yJ0_length_8abf5 : MethodName := ⟨RJ0, "length", "()I"⟩
abbrev cJ0_charAt_5068e : ByteArray := prog_30_method_56_code
def yJ0_charAt_5068e : MethodName := ⟨RJ0, "charAt", "(I)C"⟩
abbrev cJ0_getBytes_840e7 : ByteArray := prog_30_method_147_code
def yJ0_getBytes_840e7 : MethodName := ⟨RJ0, "getBytes", "([BIB)V"⟩
abbrev cJ0_init_db425 : ByteArray := prog_30_method_150_code
def yJ0_init_db425 : MethodName := ⟨RJ0, "<init>", "(Ljava/lang/AbstractStringBuilder;Ljava/lang/Void;)V"⟩
abbrev cJ0_coder_7d493 : ByteArray := prog_30_method_152_code
def yJ0_coder_7d493 : MethodName := ⟨RJ0, "coder", "()B"⟩
abbrev cJ0_isLatin1_aae02 : ByteArray := prog_30_method_154_code
def yJ0_isLatin1_aae02 : MethodName := ⟨RJ0, "isLatin1", "()Z"⟩
abbrev cJ0_checkIndex_df160 : ByteArray := prog_30_method_155_code
def yJ0_checkIndex_df160 : MethodName := ⟨RJ0, "checkIndex", "(II)V"⟩
abbrev cJ0_checkBoundsOffCount_cabcc : ByteArray := prog_30_method_157_code
def yJ0_checkBoundsOffCount_cabcc : MethodName := ⟨RJ0, "checkBoundsOffCount", "(III)I"⟩
abbrev cJ0_checkBoundsBeginEnd_23922 : ByteArray := prog_30_method_158_code
def yJ0_checkBoundsBeginEnd_23922 : MethodName := ⟨RJ0, "checkBoundsBeginEnd", "(III)V"⟩
def RJ4 : String := "java/lang/StringBuilder"
def TJ4 : u_T := fun k => match k with
  | 0 => ("java/lang/AbstractStringBuilder", "value", "[B", false)
  | 1 => ("java/lang/AbstractStringBuilder", "coder", "B", false)
  | 2 => ("java/lang/AbstractStringBuilder", "maybeLatin1", "Z", false)
  | _ => ("java/lang/AbstractStringBuilder", "count", "I", false)
def tyJ4 : Nat → FieldType := fun k => match k with
  | 0 => .array .byte
  | 1 => .byte
  | 2 => .boolean
  | _ => .int
abbrev wsJ40 : List Cond := u_ws RJ4 TJ4 4
theorem nmJ4 : ∀ a, a < 4 → ∀ b, b < 4 → a ≠ b → (TJ4 a).2.1 ≠ (TJ4 b).2.1 := by decide +kernel
theorem tyJ4_ok : ∀ k, k < 4 → parseFieldDescriptor (TJ4 k).2.2.1 = some (tyJ4 k) := by decide +kernel
abbrev cJ4_init_da8c8 : ByteArray := prog_31_method_1_code
def yJ4_init_da8c8 : MethodName := ⟨RJ4, "<init>", "()V"⟩
abbrev cJ4_append_15ec4 : ByteArray := prog_31_method_7_code
def yJ4_append_15ec4 : MethodName := ⟨RJ4, "append", "(Ljava/lang/String;)Ljava/lang/StringBuilder;"⟩
abbrev cJ4_append_cf468 : ByteArray := prog_31_method_14_code
def yJ4_append_cf468 : MethodName := ⟨RJ4, "append", "(C)Ljava/lang/StringBuilder;"⟩
abbrev cJ4_append_bf812 : ByteArray := prog_31_method_15_code
def yJ4_append_bf812 : MethodName := ⟨RJ4, "append", "(I)Ljava/lang/StringBuilder;"⟩
abbrev cJ4_toString_0e30d : ByteArray := prog_31_method_42_code
def yJ4_toString_0e30d : MethodName := ⟨RJ4, "toString", "()Ljava/lang/String;"⟩
abbrev cJ4_charAt_5068e : ByteArray := prog_31_method_88_code
def yJ4_charAt_5068e : MethodName := ⟨RJ4, "charAt", "(I)C"⟩
abbrev cJ4_setLength_d00df : ByteArray := prog_31_method_89_code
def yJ4_setLength_d00df : MethodName := ⟨RJ4, "setLength", "(I)V"⟩
abbrev cJ4_length_8abf5 : ByteArray := prog_31_method_93_code
def yJ4_length_8abf5 : MethodName := ⟨RJ4, "length", "()I"⟩
def RJx7c733 : String := "java/lang/StringIndexOutOfBoundsException"
def TJx7c733 : u_T := fun k => match k with
  | 0 => ("java/lang/Throwable", "backtrace", "Ljava/lang/Object;", false)
  | 1 => ("java/lang/Throwable", "detailMessage", "Ljava/lang/String;", false)
  | 2 => ("java/lang/Throwable", "cause", "Ljava/lang/Throwable;", false)
  | 3 => ("java/lang/Throwable", "stackTrace", "[Ljava/lang/StackTraceElement;", false)
  | 4 => ("java/lang/Throwable", "depth", "I", false)
  | _ => ("java/lang/Throwable", "suppressedExceptions", "Ljava/util/List;", false)
def tyJx7c733 : Nat → FieldType := fun k => match k with
  | 0 => .object "java/lang/Object"
  | 1 => .object "java/lang/String"
  | 2 => .object "java/lang/Throwable"
  | 3 => .array (.object "java/lang/StackTraceElement")
  | 4 => .int
  | _ => .object "java/util/List"
abbrev wsJx7c7330 : List Cond := u_ws RJx7c733 TJx7c733 6
theorem nmJx7c733 : ∀ a, a < 6 → ∀ b, b < 6 → a ≠ b → (TJx7c733 a).2.1 ≠ (TJx7c733 b).2.1 := by decide +kernel
theorem tyJx7c733_ok : ∀ k, k < 6 → parseFieldDescriptor (TJx7c733 k).2.2.1 = some (tyJx7c733 k) := by decide +kernel
abbrev cJx7c733_init_d00df : ByteArray := prog_32_method_3_code
def yJx7c733_init_d00df : MethodName := ⟨RJx7c733, "<init>", "(I)V"⟩
def RJ1 : String := "java/lang/StringLatin1"
def TJ1 : u_T := fun k => match k with
  | _ => ("", "", "", false)
def tyJ1 : Nat → FieldType := fun k => match k with
  | _ => .int
abbrev wsJ10 : List Cond := u_ws RJ1 TJ1 0
theorem nmJ1 : ∀ a, a < 0 → ∀ b, b < 0 → a ≠ b → (TJ1 a).2.1 ≠ (TJ1 b).2.1 := by decide +kernel
theorem tyJ1_ok : ∀ k, k < 0 → parseFieldDescriptor (TJ1 k).2.2.1 = some (tyJ1 k) := by decide +kernel
abbrev cJ1_charAt_3b067 : ByteArray := prog_33_method_2_code
def yJ1_charAt_3b067 : MethodName := ⟨RJ1, "charAt", "([BI)C"⟩
abbrev cJ1_canEncode_fc78d : ByteArray := prog_33_method_3_code
def yJ1_canEncode_fc78d : MethodName := ⟨RJ1, "canEncode", "(C)Z"⟩
abbrev cJ1_fillNull_b72d1 : ByteArray := prog_33_method_48_code
def yJ1_fillNull_b72d1 : MethodName := ⟨RJ1, "fillNull", "([BII)V"⟩
abbrev cJ1_inflate_0e8fd : ByteArray := prog_33_method_50_code
def yJ1_inflate_0e8fd : MethodName := ⟨RJ1, "inflate", "([BI[BII)V"⟩
def RJ2 : String := "java/lang/StringUTF16"
def TJ2 : u_T := fun k => match k with
  | _ => ("", "", "", false)
def tyJ2 : Nat → FieldType := fun k => match k with
  | _ => .int
abbrev wsJ20 : List Cond := u_ws RJ2 TJ2 0
theorem nmJ2 : ∀ a, a < 0 → ∀ b, b < 0 → a ≠ b → (TJ2 a).2.1 ≠ (TJ2 b).2.1 := by decide +kernel
theorem tyJ2_ok : ∀ k, k < 0 → parseFieldDescriptor (TJ2 k).2.2.1 = some (tyJ2 k) := by decide +kernel
abbrev cJ2_newBytesFor_77867 : ByteArray := prog_34_method_2_code
def yJ2_newBytesFor_77867 : MethodName := ⟨RJ2, "newBytesFor", "(I)[B"⟩
abbrev cJ2_newBytesLength_0f7a4 : ByteArray := prog_34_method_3_code
def yJ2_newBytesLength_0f7a4 : MethodName := ⟨RJ2, "newBytesLength", "(I)I"⟩
abbrev cJ2_putChar_b72d1 : ByteArray := prog_34_method_4_code
def yJ2_putChar_b72d1 : MethodName := ⟨RJ2, "putChar", "([BII)V"⟩
abbrev cJ2_getChar_3b067 : ByteArray := prog_34_method_5_code
def yJ2_getChar_3b067 : MethodName := ⟨RJ2, "getChar", "([BI)C"⟩
abbrev cJ2_length_9d52b : ByteArray := prog_34_method_6_code
def yJ2_length_9d52b : MethodName := ⟨RJ2, "length", "([B)I"⟩
abbrev cJ2_coderFromArrayLen_85cad : ByteArray := prog_34_method_15_code
def yJ2_coderFromArrayLen_85cad : MethodName := ⟨RJ2, "coderFromArrayLen", "([BI)B"⟩
abbrev cJ2_compress_39247 : ByteArray := prog_34_method_17_code
def yJ2_compress_39247 : MethodName := ⟨RJ2, "compress", "([BII)[B"⟩
abbrev cJ2_compress_5af95 : ByteArray := prog_34_method_22_code
def yJ2_compress_5af95 : MethodName := ⟨RJ2, "compress", "([BI[BII)I"⟩
abbrev cJ2_fillNull_b72d1 : ByteArray := prog_34_method_70_code
def yJ2_fillNull_b72d1 : MethodName := ⟨RJ2, "fillNull", "([BII)V"⟩
abbrev cJ2_putCharSB_b72d1 : ByteArray := prog_34_method_71_code
def yJ2_putCharSB_b72d1 : MethodName := ⟨RJ2, "putCharSB", "([BII)V"⟩
abbrev cJ2_getChars_46870 : ByteArray := prog_34_method_77_code
def yJ2_getChars_46870 : MethodName := ⟨RJ2, "getChars", "(III[B)I"⟩
abbrev cJ2_putCharsAt_cd4e5 : ByteArray := prog_34_method_81_code
def yJ2_putCharsAt_cd4e5 : MethodName := ⟨RJ2, "putCharsAt", "([BICCCC)I"⟩
abbrev cJ2_charAt_3b067 : ByteArray := prog_34_method_83_code
def yJ2_charAt_3b067 : MethodName := ⟨RJ2, "charAt", "([BI)C"⟩
abbrev cJ2_inflate_0e8fd : ByteArray := prog_34_method_86_code
def yJ2_inflate_0e8fd : MethodName := ⟨RJ2, "inflate", "([BI[BII)V"⟩
abbrev cJ2_getChars_ba4f3 : ByteArray := prog_34_method_89_code
def yJ2_getChars_ba4f3 : MethodName := ⟨RJ2, "getChars", "(II[B)I"⟩
abbrev cJ2_checkIndex_2214a : ByteArray := prog_34_method_91_code
def yJ2_checkIndex_2214a : MethodName := ⟨RJ2, "checkIndex", "(I[B)V"⟩
abbrev cJ2_checkBoundsBeginEnd_d044e : ByteArray := prog_34_method_93_code
def yJ2_checkBoundsBeginEnd_d044e : MethodName := ⟨RJ2, "checkBoundsBeginEnd", "(II[B)V"⟩
abbrev cJ2_checkBoundsOffCount_d044e : ByteArray := prog_34_method_94_code
def yJ2_checkBoundsOffCount_d044e : MethodName := ⟨RJ2, "checkBoundsOffCount", "(II[B)V"⟩
def RJ10 : String := "java/lang/System"
def TJ10 : u_T := fun k => match k with
  | _ => ("", "", "", false)
def tyJ10 : Nat → FieldType := fun k => match k with
  | _ => .int
abbrev wsJ100 : List Cond := u_ws RJ10 TJ10 0
theorem nmJ10 : ∀ a, a < 0 → ∀ b, b < 0 → a ≠ b → (TJ10 a).2.1 ≠ (TJ10 b).2.1 := by decide +kernel
theorem tyJ10_ok : ∀ k, k < 0 → parseFieldDescriptor (TJ10 k).2.2.1 = some (tyJ10 k) := by decide +kernel
def RJxfd54e : String := "java/lang/constant/Constable"
def TJxfd54e : u_T := fun k => match k with
  | _ => ("", "", "", false)
def tyJxfd54e : Nat → FieldType := fun k => match k with
  | _ => .int
abbrev wsJxfd54e0 : List Cond := u_ws RJxfd54e TJxfd54e 0
theorem nmJxfd54e : ∀ a, a < 0 → ∀ b, b < 0 → a ≠ b → (TJxfd54e a).2.1 ≠ (TJxfd54e b).2.1 := by decide +kernel
theorem tyJxfd54e_ok : ∀ k, k < 0 → parseFieldDescriptor (TJxfd54e k).2.2.1 = some (tyJxfd54e k) := by decide +kernel
def RJx3cf43 : String := "java/lang/constant/ConstantDesc"
def TJx3cf43 : u_T := fun k => match k with
  | _ => ("", "", "", false)
def tyJx3cf43 : Nat → FieldType := fun k => match k with
  | _ => .int
abbrev wsJx3cf430 : List Cond := u_ws RJx3cf43 TJx3cf43 0
theorem nmJx3cf43 : ∀ a, a < 0 → ∀ b, b < 0 → a ≠ b → (TJx3cf43 a).2.1 ≠ (TJx3cf43 b).2.1 := by decide +kernel
theorem tyJx3cf43_ok : ∀ k, k < 0 → parseFieldDescriptor (TJx3cf43 k).2.2.1 = some (tyJx3cf43 k) := by decide +kernel
def RJ7 : String := "java/util/Arrays"
def TJ7 : u_T := fun k => match k with
  | _ => ("", "", "", false)
def tyJ7 : Nat → FieldType := fun k => match k with
  | _ => .int
abbrev wsJ70 : List Cond := u_ws RJ7 TJ7 0
theorem nmJ7 : ∀ a, a < 0 → ∀ b, b < 0 → a ≠ b → (TJ7 a).2.1 ≠ (TJ7 b).2.1 := by decide +kernel
theorem tyJ7_ok : ∀ k, k < 0 → parseFieldDescriptor (TJ7 k).2.2.1 = some (tyJ7 k) := by decide +kernel
abbrev cJ7_rangeCheck_23922 : ByteArray := prog_39_method_30_code
def yJ7_rangeCheck_23922 : MethodName := ⟨RJ7, "rangeCheck", "(III)V"⟩
abbrev cJ7_fill_53178 : ByteArray := prog_39_method_103_code
def yJ7_fill_53178 : MethodName := ⟨RJ7, "fill", "([II)V"⟩
abbrev cJ7_fill_eb02e : ByteArray := prog_39_method_110_code
def yJ7_fill_eb02e : MethodName := ⟨RJ7, "fill", "([BIIB)V"⟩
abbrev cJ7_copyOf_9075b : ByteArray := prog_39_method_121_code
def yJ7_copyOf_9075b : MethodName := ⟨RJ7, "copyOf", "([BI)[B"⟩
abbrev cJ7_checkLength_df160 : ByteArray := prog_39_method_131_code
def yJ7_checkLength_df160 : MethodName := ⟨RJ7, "checkLength", "(II)V"⟩
abbrev cJ7_copyOfRange_39247 : ByteArray := prog_39_method_132_code
def yJ7_copyOfRange_39247 : MethodName := ⟨RJ7, "copyOfRange", "([BII)[B"⟩
abbrev cJ7_copyOfRangeByte_39247 : ByteArray := prog_39_method_133_code
def yJ7_copyOfRangeByte_39247 : MethodName := ⟨RJ7, "copyOfRangeByte", "([BII)[B"⟩
def RJ8 : String := "jdk/internal/util/ArraysSupport"
def TJ8 : u_T := fun k => match k with
  | _ => ("", "", "", false)
def tyJ8 : Nat → FieldType := fun k => match k with
  | _ => .int
abbrev wsJ80 : List Cond := u_ws RJ8 TJ8 0
theorem nmJ8 : ∀ a, a < 0 → ∀ b, b < 0 → a ≠ b → (TJ8 a).2.1 ≠ (TJ8 b).2.1 := by decide +kernel
theorem tyJ8_ok : ∀ k, k < 0 → parseFieldDescriptor (TJ8 k).2.2.1 = some (tyJ8 k) := by decide +kernel
abbrev cJ8_newLength_cabcc : ByteArray := prog_41_method_27_code
def yJ8_newLength_cabcc : MethodName := ⟨RJ8, "newLength", "(III)I"⟩
abbrev cJ8_hugeLength_7cf53 : ByteArray := prog_41_method_28_code
def yJ8_hugeLength_7cf53 : MethodName := ⟨RJ8, "hugeLength", "(II)I"⟩
def RJ3 : String := "jdk/internal/util/Preconditions"
def TJ3 : u_T := fun k => match k with
  | _ => ("", "", "", false)
def tyJ3 : Nat → FieldType := fun k => match k with
  | _ => .int
abbrev wsJ30 : List Cond := u_ws RJ3 TJ3 0
theorem nmJ3 : ∀ a, a < 0 → ∀ b, b < 0 → a ≠ b → (TJ3 a).2.1 ≠ (TJ3 b).2.1 := by decide +kernel
theorem tyJ3_ok : ∀ k, k < 0 → parseFieldDescriptor (TJ3 k).2.2.1 = some (tyJ3 k) := by decide +kernel
abbrev cJ3_checkIndex_8e157 : ByteArray := prog_42_method_11_code
def yJ3_checkIndex_8e157 : MethodName := ⟨RJ3, "checkIndex", "(IILjava/util/function/BiFunction;)I"⟩
abbrev cJ3_checkFromToIndex_8c36e : ByteArray := prog_42_method_12_code
def yJ3_checkFromToIndex_8c36e : MethodName := ⟨RJ3, "checkFromToIndex", "(IIILjava/util/function/BiFunction;)I"⟩
abbrev cJ3_checkFromIndexSize_8c36e : ByteArray := prog_42_method_13_code
def yJ3_checkFromIndexSize_8c36e : MethodName := ⟨RJ3, "checkFromIndexSize", "(IIILjava/util/function/BiFunction;)I"⟩
def RL : String := "RasterboxLaw"
abbrev cL_poke : ByteArray := method_3_code
def yL_poke : MethodName := ⟨RL, "poke", "(LRasterbox;II[J)I"⟩
abbrev cL_pokeRom : ByteArray := method_4_code
def yL_pokeRom : MethodName := ⟨RL, "pokeRom", "(LRasterbox;II[J)I"⟩
abbrev cL_pokeCartridge : ByteArray := method_5_code
def yL_pokeCartridge : MethodName := ⟨RL, "pokeCartridge", "(LRasterbox;III[J)I"⟩
abbrev cL_peek : ByteArray := method_6_code
def yL_peek : MethodName := ⟨RL, "peek", "(LRasterbox;I[J)I"⟩
abbrev cL_ram : ByteArray := method_7_code
def yL_ram : MethodName := ⟨RL, "ram", "(LRasterbox;I[J)I"⟩
abbrev cL_assemble : ByteArray := method_8_code
def yL_assemble : MethodName := ⟨RL, "assemble", "(LRasterbox;III[J)I"⟩
abbrev cL_writeLine : ByteArray := method_9_code
def yL_writeLine : MethodName := ⟨RL, "writeLine", "(LRasterbox;I[J)I"⟩
abbrev cL_lineAt : ByteArray := method_10_code
def yL_lineAt : MethodName := ⟨RL, "lineAt", "(LRasterbox;I[J)I"⟩
abbrev cL_compare : ByteArray := method_11_code
def yL_compare : MethodName := ⟨RL, "compare", "(LRasterbox;III[J)I"⟩
abbrev cL_register : ByteArray := method_12_code
def yL_register : MethodName := ⟨RL, "register", "(LRasterbox;I[J)I"⟩
abbrev cL_setRegister : ByteArray := method_13_code
def yL_setRegister : MethodName := ⟨RL, "setRegister", "(LRasterbox;II[J)I"⟩
abbrev cL_run : ByteArray := method_14_code
def yL_run : MethodName := ⟨RL, "run", "(LRasterbox;I[J)I"⟩
abbrev cL_step : ByteArray := method_15_code
def yL_step : MethodName := ⟨RL, "step", "(LRasterbox;[J)I"⟩
abbrev cL_traceAt : ByteArray := method_16_code
def yL_traceAt : MethodName := ⟨RL, "traceAt", "(LRasterbox;I[J)I"⟩
abbrev cL_pixel : ByteArray := method_17_code
def yL_pixel : MethodName := ⟨RL, "pixel", "(LRasterbox;II[J)I"⟩
abbrev cL_pixelAgain : ByteArray := method_18_code
def yL_pixelAgain : MethodName := ⟨RL, "pixelAgain", "(LRasterbox;II[J)I"⟩
abbrev cL_sample : ByteArray := method_19_code
def yL_sample : MethodName := ⟨RL, "sample", "(LRasterbox;I[J)I"⟩
abbrev cL_level : ByteArray := method_20_code
def yL_level : MethodName := ⟨RL, "level", "(LRasterbox;I[J)I"⟩
abbrev cL_key : ByteArray := method_21_code
def yL_key : MethodName := ⟨RL, "key", "(LRasterbox;IIZ[J)I"⟩
abbrev cL_columns : ByteArray := method_22_code
def yL_columns : MethodName := ⟨RL, "columns", "(LRasterbox;I[J)I"⟩
abbrev cL_joystick : ByteArray := method_23_code
def yL_joystick : MethodName := ⟨RL, "joystick", "(LRasterbox;I[J)I"⟩
abbrev cL_addPulse : ByteArray := method_24_code
def yL_addPulse : MethodName := ⟨RL, "addPulse", "(LRasterbox;I[J)I"⟩
abbrev cL_save : ByteArray := method_25_code
def yL_save : MethodName := ⟨RL, "save", "(LRasterbox;[J)I"⟩
abbrev cL_restore : ByteArray := method_26_code
def yL_restore : MethodName := ⟨RL, "restore", "(LRasterbox;I[J)I"⟩
abbrev cL_differences : ByteArray := method_27_code
def yL_differences : MethodName := ⟨RL, "differences", "(LRasterbox;I[J)I"⟩
abbrev cL_recorded : ByteArray := method_28_code
def yL_recorded : MethodName := ⟨RL, "recorded", "(LRasterbox;[J)I"⟩
abbrev cL_isSame : ByteArray := method_29_code
def yL_isSame : MethodName := ⟨RL, "isSame", "(LRasterbox;[J)I"⟩
abbrev cL_law : ByteArray := code
def yL_law : MethodName := ⟨RL, "law", "([I)Z"⟩
abbrev vwCl : List vw_C := [(RJ0, TJ0, 4), (RJ4, TJ4, 4), (RJx00060, TJx00060, 6), (RJx7c733, TJx7c733, 6), (RX0, TX0, 9), (RX2, TX2, 4), (RX3, TX3, 3), (RX4, TX4, 5), (RX6, TX6, 13), (RX7, TX7, 8), (RX8, TX8, 2), (RX9, TX9, 5), (RX10, TX10, 5), (RX11, TX11, 6), (RX12, TX12, 40)]
/-! a row of decoding, out of bytes that are looked at once for many rows -/
def qd_pre : List UInt8 → List Nat → Bool
  | _, [] => true
  | [], _ :: _ => false
  | b :: bs, n :: ns => Nat.beq b.toNat n && qd_pre bs ns
def qd_bs (c : ByteArray) (p : Nat) (l : List Nat) : Bool := qd_pre (c.data.toList.drop p) l
theorem qd_pre_at : ∀ (l : List Nat) (bs : List UInt8) (k a : Nat) (r : List Nat), qd_pre bs l = true → l.drop k = a :: r → ∃ b, bs[k]? = some b ∧ b.toNat = a := by
  intro l
  induction l with
  | nil => intro bs k a r h e; rw [List.drop_nil] at e; cases e
  | cons n ns ih =>
    intro bs k a r h e
    cases bs with
    | nil => cases h
    | cons b bs =>
      have h1 : (Nat.beq b.toNat n && qd_pre bs ns) = true := h
      rw [Bool.and_eq_true] at h1
      cases k with
      | zero =>
        have e2 : n :: ns = a :: r := e
        refine ⟨b, rfl, ?_⟩
        rw [Nat.eq_of_beq_eq_true h1.1]
        exact (List.cons.inj e2).1
      | succ k => exact ih bs k a r h1.2 e
theorem qd_u1 {c : ByteArray} {l r : List Nat} {a : Nat} (p k : Nat) (h : qd_bs c p l = true) (e : l.drop k = a :: r) : (Reader.u1 : Decoder Nat) c (p + k) = .ok (a, p + k + 1) := by
  obtain ⟨b, e1, e2⟩ := qd_pre_at l _ k a r h e
  rw [List.getElem?_drop] at e1
  obtain ⟨hp, e3⟩ := List.getElem?_eq_some_iff.mp e1
  have hs : p + k < c.size := hp
  show (dite (p + k < c.size) _ _ : ByteArray → Nat → Except DecodeError (Nat × Nat)) c (p + k) = _
  rw [dif_pos hs]
  show Except.ok ((c[p + k]'hs).toNat, p + k + 1) = _
  have e4 : c[p + k]'hs = b := e3
  rw [e4, e2]
theorem qd_drop1 {l r : List Nat} {a : Nat} {k : Nat} (e : l.drop k = a :: r) : l.drop (k + 1) = r := by
  rw [← List.drop_drop, e]
  rfl
theorem qd_u2 {c : ByteArray} {l r : List Nat} {a b : Nat} (p k : Nat) (h : qd_bs c p l = true) (e : l.drop k = a :: b :: r) : (Reader.u2 : Decoder Nat) c (p + k) = .ok (a * 256 + b, p + k + 2) := by
  show Except.bind ((Reader.u1 : Decoder Nat) c (p + k)) _ = _
  rw [qd_u1 p k h e]
  show Except.bind ((Reader.u1 : Decoder Nat) c (p + (k + 1))) _ = _
  rw [qd_u1 p (k + 1) h (qd_drop1 e)]
  rfl
theorem qd_s1 {c : ByteArray} {l r : List Nat} {a : Nat} (p k : Nat) (h : qd_bs c p l = true) (e : l.drop k = a :: r) : (Reader.s1 : Decoder Int) c (p + k) = .ok (Reader.signed 8 a, p + k + 1) := by
  show Except.bind ((Reader.u1 : Decoder Nat) c (p + k)) _ = _
  rw [qd_u1 p k h e]
  rfl
theorem qd_s2 {c : ByteArray} {l r : List Nat} {a b : Nat} (p k : Nat) (h : qd_bs c p l = true) (e : l.drop k = a :: b :: r) : (Reader.s2 : Decoder Int) c (p + k) = .ok (Reader.signed 16 (a * 256 + b), p + k + 2) := by
  show Except.bind ((Reader.u2 : Decoder Nat) c (p + k)) _ = _
  rw [qd_u2 p k h e]
  rfl
theorem qd_dec {c : ByteArray} {p n : Nat} {i : Instr} (h : Decoder.instr p c p = .ok (i, p + n)) : decode c p = .ok (i, n) := by
  show Except.bind (Decoder.instr p c p) _ = _
  rw [h]
  show Except.ok (i, p + n - p) = _
  rw [Nat.add_sub_cancel_left]
theorem qd_o1 {c : ByteArray} {l r : List Nat} (p k : Nat) (h : qd_bs c p l = true) (e : l.drop k = 1 :: r) : decode c (p + k) = .ok (.aconst_null, 1) := by
  refine qd_dec ?_
  show Except.bind ((Reader.u1 : Decoder Nat) c (p + k)) _ = _
  rw [qd_u1 p k h e]
  rfl

theorem qd_o2 {c : ByteArray} {l r : List Nat} (p k : Nat) (h : qd_bs c p l = true) (e : l.drop k = 2 :: r) : decode c (p + k) = .ok (.iconst (-1), 1) := by
  refine qd_dec ?_
  show Except.bind ((Reader.u1 : Decoder Nat) c (p + k)) _ = _
  rw [qd_u1 p k h e]
  rfl

theorem qd_o3 {c : ByteArray} {l r : List Nat} (p k : Nat) (h : qd_bs c p l = true) (e : l.drop k = 3 :: r) : decode c (p + k) = .ok (.iconst 0, 1) := by
  refine qd_dec ?_
  show Except.bind ((Reader.u1 : Decoder Nat) c (p + k)) _ = _
  rw [qd_u1 p k h e]
  rfl

theorem qd_o4 {c : ByteArray} {l r : List Nat} (p k : Nat) (h : qd_bs c p l = true) (e : l.drop k = 4 :: r) : decode c (p + k) = .ok (.iconst 1, 1) := by
  refine qd_dec ?_
  show Except.bind ((Reader.u1 : Decoder Nat) c (p + k)) _ = _
  rw [qd_u1 p k h e]
  rfl

theorem qd_o5 {c : ByteArray} {l r : List Nat} (p k : Nat) (h : qd_bs c p l = true) (e : l.drop k = 5 :: r) : decode c (p + k) = .ok (.iconst 2, 1) := by
  refine qd_dec ?_
  show Except.bind ((Reader.u1 : Decoder Nat) c (p + k)) _ = _
  rw [qd_u1 p k h e]
  rfl

theorem qd_o6 {c : ByteArray} {l r : List Nat} (p k : Nat) (h : qd_bs c p l = true) (e : l.drop k = 6 :: r) : decode c (p + k) = .ok (.iconst 3, 1) := by
  refine qd_dec ?_
  show Except.bind ((Reader.u1 : Decoder Nat) c (p + k)) _ = _
  rw [qd_u1 p k h e]
  rfl

theorem qd_o7 {c : ByteArray} {l r : List Nat} (p k : Nat) (h : qd_bs c p l = true) (e : l.drop k = 7 :: r) : decode c (p + k) = .ok (.iconst 4, 1) := by
  refine qd_dec ?_
  show Except.bind ((Reader.u1 : Decoder Nat) c (p + k)) _ = _
  rw [qd_u1 p k h e]
  rfl

theorem qd_o8 {c : ByteArray} {l r : List Nat} (p k : Nat) (h : qd_bs c p l = true) (e : l.drop k = 8 :: r) : decode c (p + k) = .ok (.iconst 5, 1) := by
  refine qd_dec ?_
  show Except.bind ((Reader.u1 : Decoder Nat) c (p + k)) _ = _
  rw [qd_u1 p k h e]
  rfl

theorem qd_o9 {c : ByteArray} {l r : List Nat} (p k : Nat) (h : qd_bs c p l = true) (e : l.drop k = 9 :: r) : decode c (p + k) = .ok (.lconst 0, 1) := by
  refine qd_dec ?_
  show Except.bind ((Reader.u1 : Decoder Nat) c (p + k)) _ = _
  rw [qd_u1 p k h e]
  rfl

theorem qd_o10 {c : ByteArray} {l r : List Nat} (p k : Nat) (h : qd_bs c p l = true) (e : l.drop k = 10 :: r) : decode c (p + k) = .ok (.lconst 1, 1) := by
  refine qd_dec ?_
  show Except.bind ((Reader.u1 : Decoder Nat) c (p + k)) _ = _
  rw [qd_u1 p k h e]
  rfl

theorem qd_o16 {c : ByteArray} {l r : List Nat} {a : Nat} {n : Int} (p k : Nat) (h : qd_bs c p l = true) (e : l.drop k = 16 :: a :: r) (hn : Reader.signed 8 a = n) : decode c (p + k) = .ok (.bipush n, 2) := by
  refine qd_dec ?_
  show Except.bind ((Reader.u1 : Decoder Nat) c (p + k)) _ = _
  rw [qd_u1 p k h e]
  show Except.bind ((Reader.s1 : Decoder Int) c (p + (k + 1))) _ = _
  rw [qd_s1 p (k + 1) h (qd_drop1 e), hn]
  rfl

theorem qd_o17 {c : ByteArray} {l r : List Nat} {a b : Nat} {n : Int} (p k : Nat) (h : qd_bs c p l = true) (e : l.drop k = 17 :: a :: b :: r) (hn : Reader.signed 16 (a * 256 + b) = n) : decode c (p + k) = .ok (.sipush n, 3) := by
  refine qd_dec ?_
  show Except.bind ((Reader.u1 : Decoder Nat) c (p + k)) _ = _
  rw [qd_u1 p k h e]
  show Except.bind ((Reader.s2 : Decoder Int) c (p + (k + 1))) _ = _
  rw [qd_s2 p (k + 1) h (qd_drop1 e), hn]
  rfl

theorem qd_o18 {c : ByteArray} {l r : List Nat} {a : Nat} {n : Nat} (p k : Nat) (h : qd_bs c p l = true) (e : l.drop k = 18 :: a :: r) (hn : a = n) : decode c (p + k) = .ok (.ldc n, 2) := by
  refine qd_dec ?_
  show Except.bind ((Reader.u1 : Decoder Nat) c (p + k)) _ = _
  rw [qd_u1 p k h e]
  show Except.bind ((Reader.u1 : Decoder Nat) c (p + (k + 1))) _ = _
  rw [qd_u1 p (k + 1) h (qd_drop1 e), hn]
  rfl

theorem qd_o19 {c : ByteArray} {l r : List Nat} {a b : Nat} {n : Nat} (p k : Nat) (h : qd_bs c p l = true) (e : l.drop k = 19 :: a :: b :: r) (hn : a * 256 + b = n) : decode c (p + k) = .ok (.ldc_w n, 3) := by
  refine qd_dec ?_
  show Except.bind ((Reader.u1 : Decoder Nat) c (p + k)) _ = _
  rw [qd_u1 p k h e]
  show Except.bind ((Reader.u2 : Decoder Nat) c (p + (k + 1))) _ = _
  rw [qd_u2 p (k + 1) h (qd_drop1 e), hn]
  rfl

theorem qd_o20 {c : ByteArray} {l r : List Nat} {a b : Nat} {n : Nat} (p k : Nat) (h : qd_bs c p l = true) (e : l.drop k = 20 :: a :: b :: r) (hn : a * 256 + b = n) : decode c (p + k) = .ok (.ldc2_w n, 3) := by
  refine qd_dec ?_
  show Except.bind ((Reader.u1 : Decoder Nat) c (p + k)) _ = _
  rw [qd_u1 p k h e]
  show Except.bind ((Reader.u2 : Decoder Nat) c (p + (k + 1))) _ = _
  rw [qd_u2 p (k + 1) h (qd_drop1 e), hn]
  rfl

theorem qd_o21 {c : ByteArray} {l r : List Nat} {a : Nat} {n : Nat} (p k : Nat) (h : qd_bs c p l = true) (e : l.drop k = 21 :: a :: r) (hn : a = n) : decode c (p + k) = .ok (.iload n, 2) := by
  refine qd_dec ?_
  show Except.bind ((Reader.u1 : Decoder Nat) c (p + k)) _ = _
  rw [qd_u1 p k h e]
  show Except.bind ((Reader.u1 : Decoder Nat) c (p + (k + 1))) _ = _
  rw [qd_u1 p (k + 1) h (qd_drop1 e), hn]
  rfl

theorem qd_o25 {c : ByteArray} {l r : List Nat} {a : Nat} {n : Nat} (p k : Nat) (h : qd_bs c p l = true) (e : l.drop k = 25 :: a :: r) (hn : a = n) : decode c (p + k) = .ok (.aload n, 2) := by
  refine qd_dec ?_
  show Except.bind ((Reader.u1 : Decoder Nat) c (p + k)) _ = _
  rw [qd_u1 p k h e]
  show Except.bind ((Reader.u1 : Decoder Nat) c (p + (k + 1))) _ = _
  rw [qd_u1 p (k + 1) h (qd_drop1 e), hn]
  rfl

theorem qd_o26 {c : ByteArray} {l r : List Nat} (p k : Nat) (h : qd_bs c p l = true) (e : l.drop k = 26 :: r) : decode c (p + k) = .ok (.iload_n 0, 1) := by
  refine qd_dec ?_
  show Except.bind ((Reader.u1 : Decoder Nat) c (p + k)) _ = _
  rw [qd_u1 p k h e]
  rfl

theorem qd_o27 {c : ByteArray} {l r : List Nat} (p k : Nat) (h : qd_bs c p l = true) (e : l.drop k = 27 :: r) : decode c (p + k) = .ok (.iload_n 1, 1) := by
  refine qd_dec ?_
  show Except.bind ((Reader.u1 : Decoder Nat) c (p + k)) _ = _
  rw [qd_u1 p k h e]
  rfl

theorem qd_o28 {c : ByteArray} {l r : List Nat} (p k : Nat) (h : qd_bs c p l = true) (e : l.drop k = 28 :: r) : decode c (p + k) = .ok (.iload_n 2, 1) := by
  refine qd_dec ?_
  show Except.bind ((Reader.u1 : Decoder Nat) c (p + k)) _ = _
  rw [qd_u1 p k h e]
  rfl

theorem qd_o29 {c : ByteArray} {l r : List Nat} (p k : Nat) (h : qd_bs c p l = true) (e : l.drop k = 29 :: r) : decode c (p + k) = .ok (.iload_n 3, 1) := by
  refine qd_dec ?_
  show Except.bind ((Reader.u1 : Decoder Nat) c (p + k)) _ = _
  rw [qd_u1 p k h e]
  rfl

theorem qd_o42 {c : ByteArray} {l r : List Nat} (p k : Nat) (h : qd_bs c p l = true) (e : l.drop k = 42 :: r) : decode c (p + k) = .ok (.aload_n 0, 1) := by
  refine qd_dec ?_
  show Except.bind ((Reader.u1 : Decoder Nat) c (p + k)) _ = _
  rw [qd_u1 p k h e]
  rfl

theorem qd_o43 {c : ByteArray} {l r : List Nat} (p k : Nat) (h : qd_bs c p l = true) (e : l.drop k = 43 :: r) : decode c (p + k) = .ok (.aload_n 1, 1) := by
  refine qd_dec ?_
  show Except.bind ((Reader.u1 : Decoder Nat) c (p + k)) _ = _
  rw [qd_u1 p k h e]
  rfl

theorem qd_o44 {c : ByteArray} {l r : List Nat} (p k : Nat) (h : qd_bs c p l = true) (e : l.drop k = 44 :: r) : decode c (p + k) = .ok (.aload_n 2, 1) := by
  refine qd_dec ?_
  show Except.bind ((Reader.u1 : Decoder Nat) c (p + k)) _ = _
  rw [qd_u1 p k h e]
  rfl

theorem qd_o45 {c : ByteArray} {l r : List Nat} (p k : Nat) (h : qd_bs c p l = true) (e : l.drop k = 45 :: r) : decode c (p + k) = .ok (.aload_n 3, 1) := by
  refine qd_dec ?_
  show Except.bind ((Reader.u1 : Decoder Nat) c (p + k)) _ = _
  rw [qd_u1 p k h e]
  rfl

theorem qd_o46 {c : ByteArray} {l r : List Nat} (p k : Nat) (h : qd_bs c p l = true) (e : l.drop k = 46 :: r) : decode c (p + k) = .ok (.iaload, 1) := by
  refine qd_dec ?_
  show Except.bind ((Reader.u1 : Decoder Nat) c (p + k)) _ = _
  rw [qd_u1 p k h e]
  rfl

theorem qd_o47 {c : ByteArray} {l r : List Nat} (p k : Nat) (h : qd_bs c p l = true) (e : l.drop k = 47 :: r) : decode c (p + k) = .ok (.laload, 1) := by
  refine qd_dec ?_
  show Except.bind ((Reader.u1 : Decoder Nat) c (p + k)) _ = _
  rw [qd_u1 p k h e]
  rfl

theorem qd_o50 {c : ByteArray} {l r : List Nat} (p k : Nat) (h : qd_bs c p l = true) (e : l.drop k = 50 :: r) : decode c (p + k) = .ok (.aaload, 1) := by
  refine qd_dec ?_
  show Except.bind ((Reader.u1 : Decoder Nat) c (p + k)) _ = _
  rw [qd_u1 p k h e]
  rfl

theorem qd_o51 {c : ByteArray} {l r : List Nat} (p k : Nat) (h : qd_bs c p l = true) (e : l.drop k = 51 :: r) : decode c (p + k) = .ok (.baload, 1) := by
  refine qd_dec ?_
  show Except.bind ((Reader.u1 : Decoder Nat) c (p + k)) _ = _
  rw [qd_u1 p k h e]
  rfl

theorem qd_o52 {c : ByteArray} {l r : List Nat} (p k : Nat) (h : qd_bs c p l = true) (e : l.drop k = 52 :: r) : decode c (p + k) = .ok (.caload, 1) := by
  refine qd_dec ?_
  show Except.bind ((Reader.u1 : Decoder Nat) c (p + k)) _ = _
  rw [qd_u1 p k h e]
  rfl

theorem qd_o54 {c : ByteArray} {l r : List Nat} {a : Nat} {n : Nat} (p k : Nat) (h : qd_bs c p l = true) (e : l.drop k = 54 :: a :: r) (hn : a = n) : decode c (p + k) = .ok (.istore n, 2) := by
  refine qd_dec ?_
  show Except.bind ((Reader.u1 : Decoder Nat) c (p + k)) _ = _
  rw [qd_u1 p k h e]
  show Except.bind ((Reader.u1 : Decoder Nat) c (p + (k + 1))) _ = _
  rw [qd_u1 p (k + 1) h (qd_drop1 e), hn]
  rfl

theorem qd_o57 {c : ByteArray} {l r : List Nat} {a : Nat} {n : Nat} (p k : Nat) (h : qd_bs c p l = true) (e : l.drop k = 57 :: a :: r) (hn : a = n) : decode c (p + k) = .ok (.dstore n, 2) := by
  refine qd_dec ?_
  show Except.bind ((Reader.u1 : Decoder Nat) c (p + k)) _ = _
  rw [qd_u1 p k h e]
  show Except.bind ((Reader.u1 : Decoder Nat) c (p + (k + 1))) _ = _
  rw [qd_u1 p (k + 1) h (qd_drop1 e), hn]
  rfl

theorem qd_o58 {c : ByteArray} {l r : List Nat} {a : Nat} {n : Nat} (p k : Nat) (h : qd_bs c p l = true) (e : l.drop k = 58 :: a :: r) (hn : a = n) : decode c (p + k) = .ok (.astore n, 2) := by
  refine qd_dec ?_
  show Except.bind ((Reader.u1 : Decoder Nat) c (p + k)) _ = _
  rw [qd_u1 p k h e]
  show Except.bind ((Reader.u1 : Decoder Nat) c (p + (k + 1))) _ = _
  rw [qd_u1 p (k + 1) h (qd_drop1 e), hn]
  rfl

theorem qd_o59 {c : ByteArray} {l r : List Nat} (p k : Nat) (h : qd_bs c p l = true) (e : l.drop k = 59 :: r) : decode c (p + k) = .ok (.istore_n 0, 1) := by
  refine qd_dec ?_
  show Except.bind ((Reader.u1 : Decoder Nat) c (p + k)) _ = _
  rw [qd_u1 p k h e]
  rfl

theorem qd_o60 {c : ByteArray} {l r : List Nat} (p k : Nat) (h : qd_bs c p l = true) (e : l.drop k = 60 :: r) : decode c (p + k) = .ok (.istore_n 1, 1) := by
  refine qd_dec ?_
  show Except.bind ((Reader.u1 : Decoder Nat) c (p + k)) _ = _
  rw [qd_u1 p k h e]
  rfl

theorem qd_o61 {c : ByteArray} {l r : List Nat} (p k : Nat) (h : qd_bs c p l = true) (e : l.drop k = 61 :: r) : decode c (p + k) = .ok (.istore_n 2, 1) := by
  refine qd_dec ?_
  show Except.bind ((Reader.u1 : Decoder Nat) c (p + k)) _ = _
  rw [qd_u1 p k h e]
  rfl

theorem qd_o62 {c : ByteArray} {l r : List Nat} (p k : Nat) (h : qd_bs c p l = true) (e : l.drop k = 62 :: r) : decode c (p + k) = .ok (.istore_n 3, 1) := by
  refine qd_dec ?_
  show Except.bind ((Reader.u1 : Decoder Nat) c (p + k)) _ = _
  rw [qd_u1 p k h e]
  rfl

theorem qd_o76 {c : ByteArray} {l r : List Nat} (p k : Nat) (h : qd_bs c p l = true) (e : l.drop k = 76 :: r) : decode c (p + k) = .ok (.astore_n 1, 1) := by
  refine qd_dec ?_
  show Except.bind ((Reader.u1 : Decoder Nat) c (p + k)) _ = _
  rw [qd_u1 p k h e]
  rfl

theorem qd_o77 {c : ByteArray} {l r : List Nat} (p k : Nat) (h : qd_bs c p l = true) (e : l.drop k = 77 :: r) : decode c (p + k) = .ok (.astore_n 2, 1) := by
  refine qd_dec ?_
  show Except.bind ((Reader.u1 : Decoder Nat) c (p + k)) _ = _
  rw [qd_u1 p k h e]
  rfl

theorem qd_o78 {c : ByteArray} {l r : List Nat} (p k : Nat) (h : qd_bs c p l = true) (e : l.drop k = 78 :: r) : decode c (p + k) = .ok (.astore_n 3, 1) := by
  refine qd_dec ?_
  show Except.bind ((Reader.u1 : Decoder Nat) c (p + k)) _ = _
  rw [qd_u1 p k h e]
  rfl

theorem qd_o79 {c : ByteArray} {l r : List Nat} (p k : Nat) (h : qd_bs c p l = true) (e : l.drop k = 79 :: r) : decode c (p + k) = .ok (.iastore, 1) := by
  refine qd_dec ?_
  show Except.bind ((Reader.u1 : Decoder Nat) c (p + k)) _ = _
  rw [qd_u1 p k h e]
  rfl

theorem qd_o80 {c : ByteArray} {l r : List Nat} (p k : Nat) (h : qd_bs c p l = true) (e : l.drop k = 80 :: r) : decode c (p + k) = .ok (.lastore, 1) := by
  refine qd_dec ?_
  show Except.bind ((Reader.u1 : Decoder Nat) c (p + k)) _ = _
  rw [qd_u1 p k h e]
  rfl

theorem qd_o83 {c : ByteArray} {l r : List Nat} (p k : Nat) (h : qd_bs c p l = true) (e : l.drop k = 83 :: r) : decode c (p + k) = .ok (.aastore, 1) := by
  refine qd_dec ?_
  show Except.bind ((Reader.u1 : Decoder Nat) c (p + k)) _ = _
  rw [qd_u1 p k h e]
  rfl

theorem qd_o84 {c : ByteArray} {l r : List Nat} (p k : Nat) (h : qd_bs c p l = true) (e : l.drop k = 84 :: r) : decode c (p + k) = .ok (.bastore, 1) := by
  refine qd_dec ?_
  show Except.bind ((Reader.u1 : Decoder Nat) c (p + k)) _ = _
  rw [qd_u1 p k h e]
  rfl

theorem qd_o85 {c : ByteArray} {l r : List Nat} (p k : Nat) (h : qd_bs c p l = true) (e : l.drop k = 85 :: r) : decode c (p + k) = .ok (.castore, 1) := by
  refine qd_dec ?_
  show Except.bind ((Reader.u1 : Decoder Nat) c (p + k)) _ = _
  rw [qd_u1 p k h e]
  rfl

theorem qd_o87 {c : ByteArray} {l r : List Nat} (p k : Nat) (h : qd_bs c p l = true) (e : l.drop k = 87 :: r) : decode c (p + k) = .ok (.pop, 1) := by
  refine qd_dec ?_
  show Except.bind ((Reader.u1 : Decoder Nat) c (p + k)) _ = _
  rw [qd_u1 p k h e]
  rfl

theorem qd_o88 {c : ByteArray} {l r : List Nat} (p k : Nat) (h : qd_bs c p l = true) (e : l.drop k = 88 :: r) : decode c (p + k) = .ok (.pop2, 1) := by
  refine qd_dec ?_
  show Except.bind ((Reader.u1 : Decoder Nat) c (p + k)) _ = _
  rw [qd_u1 p k h e]
  rfl

theorem qd_o89 {c : ByteArray} {l r : List Nat} (p k : Nat) (h : qd_bs c p l = true) (e : l.drop k = 89 :: r) : decode c (p + k) = .ok (.dup, 1) := by
  refine qd_dec ?_
  show Except.bind ((Reader.u1 : Decoder Nat) c (p + k)) _ = _
  rw [qd_u1 p k h e]
  rfl

theorem qd_o90 {c : ByteArray} {l r : List Nat} (p k : Nat) (h : qd_bs c p l = true) (e : l.drop k = 90 :: r) : decode c (p + k) = .ok (.dup_x1, 1) := by
  refine qd_dec ?_
  show Except.bind ((Reader.u1 : Decoder Nat) c (p + k)) _ = _
  rw [qd_u1 p k h e]
  rfl

theorem qd_o92 {c : ByteArray} {l r : List Nat} (p k : Nat) (h : qd_bs c p l = true) (e : l.drop k = 92 :: r) : decode c (p + k) = .ok (.dup2, 1) := by
  refine qd_dec ?_
  show Except.bind ((Reader.u1 : Decoder Nat) c (p + k)) _ = _
  rw [qd_u1 p k h e]
  rfl

theorem qd_o96 {c : ByteArray} {l r : List Nat} (p k : Nat) (h : qd_bs c p l = true) (e : l.drop k = 96 :: r) : decode c (p + k) = .ok (.iadd, 1) := by
  refine qd_dec ?_
  show Except.bind ((Reader.u1 : Decoder Nat) c (p + k)) _ = _
  rw [qd_u1 p k h e]
  rfl

theorem qd_o97 {c : ByteArray} {l r : List Nat} (p k : Nat) (h : qd_bs c p l = true) (e : l.drop k = 97 :: r) : decode c (p + k) = .ok (.ladd, 1) := by
  refine qd_dec ?_
  show Except.bind ((Reader.u1 : Decoder Nat) c (p + k)) _ = _
  rw [qd_u1 p k h e]
  rfl

theorem qd_o100 {c : ByteArray} {l r : List Nat} (p k : Nat) (h : qd_bs c p l = true) (e : l.drop k = 100 :: r) : decode c (p + k) = .ok (.isub, 1) := by
  refine qd_dec ?_
  show Except.bind ((Reader.u1 : Decoder Nat) c (p + k)) _ = _
  rw [qd_u1 p k h e]
  rfl

theorem qd_o104 {c : ByteArray} {l r : List Nat} (p k : Nat) (h : qd_bs c p l = true) (e : l.drop k = 104 :: r) : decode c (p + k) = .ok (.imul, 1) := by
  refine qd_dec ?_
  show Except.bind ((Reader.u1 : Decoder Nat) c (p + k)) _ = _
  rw [qd_u1 p k h e]
  rfl

theorem qd_o108 {c : ByteArray} {l r : List Nat} (p k : Nat) (h : qd_bs c p l = true) (e : l.drop k = 108 :: r) : decode c (p + k) = .ok (.idiv, 1) := by
  refine qd_dec ?_
  show Except.bind ((Reader.u1 : Decoder Nat) c (p + k)) _ = _
  rw [qd_u1 p k h e]
  rfl

theorem qd_o109 {c : ByteArray} {l r : List Nat} (p k : Nat) (h : qd_bs c p l = true) (e : l.drop k = 109 :: r) : decode c (p + k) = .ok (.ldiv, 1) := by
  refine qd_dec ?_
  show Except.bind ((Reader.u1 : Decoder Nat) c (p + k)) _ = _
  rw [qd_u1 p k h e]
  rfl

theorem qd_o110 {c : ByteArray} {l r : List Nat} (p k : Nat) (h : qd_bs c p l = true) (e : l.drop k = 110 :: r) : decode c (p + k) = .ok (.fdiv, 1) := by
  refine qd_dec ?_
  show Except.bind ((Reader.u1 : Decoder Nat) c (p + k)) _ = _
  rw [qd_u1 p k h e]
  rfl

theorem qd_o111 {c : ByteArray} {l r : List Nat} (p k : Nat) (h : qd_bs c p l = true) (e : l.drop k = 111 :: r) : decode c (p + k) = .ok (.ddiv, 1) := by
  refine qd_dec ?_
  show Except.bind ((Reader.u1 : Decoder Nat) c (p + k)) _ = _
  rw [qd_u1 p k h e]
  rfl

theorem qd_o112 {c : ByteArray} {l r : List Nat} (p k : Nat) (h : qd_bs c p l = true) (e : l.drop k = 112 :: r) : decode c (p + k) = .ok (.irem, 1) := by
  refine qd_dec ?_
  show Except.bind ((Reader.u1 : Decoder Nat) c (p + k)) _ = _
  rw [qd_u1 p k h e]
  rfl

theorem qd_o113 {c : ByteArray} {l r : List Nat} (p k : Nat) (h : qd_bs c p l = true) (e : l.drop k = 113 :: r) : decode c (p + k) = .ok (.lrem, 1) := by
  refine qd_dec ?_
  show Except.bind ((Reader.u1 : Decoder Nat) c (p + k)) _ = _
  rw [qd_u1 p k h e]
  rfl

theorem qd_o116 {c : ByteArray} {l r : List Nat} (p k : Nat) (h : qd_bs c p l = true) (e : l.drop k = 116 :: r) : decode c (p + k) = .ok (.ineg, 1) := by
  refine qd_dec ?_
  show Except.bind ((Reader.u1 : Decoder Nat) c (p + k)) _ = _
  rw [qd_u1 p k h e]
  rfl

theorem qd_o120 {c : ByteArray} {l r : List Nat} (p k : Nat) (h : qd_bs c p l = true) (e : l.drop k = 120 :: r) : decode c (p + k) = .ok (.ishl, 1) := by
  refine qd_dec ?_
  show Except.bind ((Reader.u1 : Decoder Nat) c (p + k)) _ = _
  rw [qd_u1 p k h e]
  rfl

theorem qd_o122 {c : ByteArray} {l r : List Nat} (p k : Nat) (h : qd_bs c p l = true) (e : l.drop k = 122 :: r) : decode c (p + k) = .ok (.ishr, 1) := by
  refine qd_dec ?_
  show Except.bind ((Reader.u1 : Decoder Nat) c (p + k)) _ = _
  rw [qd_u1 p k h e]
  rfl

theorem qd_o124 {c : ByteArray} {l r : List Nat} (p k : Nat) (h : qd_bs c p l = true) (e : l.drop k = 124 :: r) : decode c (p + k) = .ok (.iushr, 1) := by
  refine qd_dec ?_
  show Except.bind ((Reader.u1 : Decoder Nat) c (p + k)) _ = _
  rw [qd_u1 p k h e]
  rfl

theorem qd_o126 {c : ByteArray} {l r : List Nat} (p k : Nat) (h : qd_bs c p l = true) (e : l.drop k = 126 :: r) : decode c (p + k) = .ok (.iand, 1) := by
  refine qd_dec ?_
  show Except.bind ((Reader.u1 : Decoder Nat) c (p + k)) _ = _
  rw [qd_u1 p k h e]
  rfl

theorem qd_o128 {c : ByteArray} {l r : List Nat} (p k : Nat) (h : qd_bs c p l = true) (e : l.drop k = 128 :: r) : decode c (p + k) = .ok (.ior, 1) := by
  refine qd_dec ?_
  show Except.bind ((Reader.u1 : Decoder Nat) c (p + k)) _ = _
  rw [qd_u1 p k h e]
  rfl

theorem qd_o130 {c : ByteArray} {l r : List Nat} (p k : Nat) (h : qd_bs c p l = true) (e : l.drop k = 130 :: r) : decode c (p + k) = .ok (.ixor, 1) := by
  refine qd_dec ?_
  show Except.bind ((Reader.u1 : Decoder Nat) c (p + k)) _ = _
  rw [qd_u1 p k h e]
  rfl

theorem qd_o132 {c : ByteArray} {l r : List Nat} {a b : Nat} {n : Int} (p k : Nat) (h : qd_bs c p l = true) (e : l.drop k = 132 :: a :: b :: r) (hn : Reader.signed 8 b = n) : decode c (p + k) = .ok (.iinc a n, 3) := by
  refine qd_dec ?_
  show Except.bind ((Reader.u1 : Decoder Nat) c (p + k)) _ = _
  rw [qd_u1 p k h e]
  show Except.bind ((Reader.u1 : Decoder Nat) c (p + (k + 1))) _ = _
  rw [qd_u1 p (k + 1) h (qd_drop1 e)]
  show Except.bind ((Reader.s1 : Decoder Int) c (p + (k + 1 + 1))) _ = _
  rw [qd_s1 p (k + 1 + 1) h (qd_drop1 (qd_drop1 e)), hn]
  rfl

theorem qd_o133 {c : ByteArray} {l r : List Nat} (p k : Nat) (h : qd_bs c p l = true) (e : l.drop k = 133 :: r) : decode c (p + k) = .ok (.i2l, 1) := by
  refine qd_dec ?_
  show Except.bind ((Reader.u1 : Decoder Nat) c (p + k)) _ = _
  rw [qd_u1 p k h e]
  rfl

theorem qd_o134 {c : ByteArray} {l r : List Nat} (p k : Nat) (h : qd_bs c p l = true) (e : l.drop k = 134 :: r) : decode c (p + k) = .ok (.i2f, 1) := by
  refine qd_dec ?_
  show Except.bind ((Reader.u1 : Decoder Nat) c (p + k)) _ = _
  rw [qd_u1 p k h e]
  rfl

theorem qd_o135 {c : ByteArray} {l r : List Nat} (p k : Nat) (h : qd_bs c p l = true) (e : l.drop k = 135 :: r) : decode c (p + k) = .ok (.i2d, 1) := by
  refine qd_dec ?_
  show Except.bind ((Reader.u1 : Decoder Nat) c (p + k)) _ = _
  rw [qd_u1 p k h e]
  rfl

theorem qd_o136 {c : ByteArray} {l r : List Nat} (p k : Nat) (h : qd_bs c p l = true) (e : l.drop k = 136 :: r) : decode c (p + k) = .ok (.l2i, 1) := by
  refine qd_dec ?_
  show Except.bind ((Reader.u1 : Decoder Nat) c (p + k)) _ = _
  rw [qd_u1 p k h e]
  rfl

theorem qd_o141 {c : ByteArray} {l r : List Nat} (p k : Nat) (h : qd_bs c p l = true) (e : l.drop k = 141 :: r) : decode c (p + k) = .ok (.f2d, 1) := by
  refine qd_dec ?_
  show Except.bind ((Reader.u1 : Decoder Nat) c (p + k)) _ = _
  rw [qd_u1 p k h e]
  rfl

theorem qd_o145 {c : ByteArray} {l r : List Nat} (p k : Nat) (h : qd_bs c p l = true) (e : l.drop k = 145 :: r) : decode c (p + k) = .ok (.i2b, 1) := by
  refine qd_dec ?_
  show Except.bind ((Reader.u1 : Decoder Nat) c (p + k)) _ = _
  rw [qd_u1 p k h e]
  rfl

theorem qd_o146 {c : ByteArray} {l r : List Nat} (p k : Nat) (h : qd_bs c p l = true) (e : l.drop k = 146 :: r) : decode c (p + k) = .ok (.i2c, 1) := by
  refine qd_dec ?_
  show Except.bind ((Reader.u1 : Decoder Nat) c (p + k)) _ = _
  rw [qd_u1 p k h e]
  rfl

theorem qd_o148 {c : ByteArray} {l r : List Nat} (p k : Nat) (h : qd_bs c p l = true) (e : l.drop k = 148 :: r) : decode c (p + k) = .ok (.lcmp, 1) := by
  refine qd_dec ?_
  show Except.bind ((Reader.u1 : Decoder Nat) c (p + k)) _ = _
  rw [qd_u1 p k h e]
  rfl

theorem qd_o153 {c : ByteArray} {l r : List Nat} {a b : Nat} {n : Int} (p k : Nat) (h : qd_bs c p l = true) (e : l.drop k = 153 :: a :: b :: r) (hn : Reader.signed 16 (a * 256 + b) = n) : decode c (p + k) = .ok (.ifCond .eq n, 3) := by
  refine qd_dec ?_
  show Except.bind ((Reader.u1 : Decoder Nat) c (p + k)) _ = _
  rw [qd_u1 p k h e]
  show Except.bind ((Reader.s2 : Decoder Int) c (p + (k + 1))) _ = _
  rw [qd_s2 p (k + 1) h (qd_drop1 e), hn]
  rfl

theorem qd_o154 {c : ByteArray} {l r : List Nat} {a b : Nat} {n : Int} (p k : Nat) (h : qd_bs c p l = true) (e : l.drop k = 154 :: a :: b :: r) (hn : Reader.signed 16 (a * 256 + b) = n) : decode c (p + k) = .ok (.ifCond .ne n, 3) := by
  refine qd_dec ?_
  show Except.bind ((Reader.u1 : Decoder Nat) c (p + k)) _ = _
  rw [qd_u1 p k h e]
  show Except.bind ((Reader.s2 : Decoder Int) c (p + (k + 1))) _ = _
  rw [qd_s2 p (k + 1) h (qd_drop1 e), hn]
  rfl

theorem qd_o155 {c : ByteArray} {l r : List Nat} {a b : Nat} {n : Int} (p k : Nat) (h : qd_bs c p l = true) (e : l.drop k = 155 :: a :: b :: r) (hn : Reader.signed 16 (a * 256 + b) = n) : decode c (p + k) = .ok (.ifCond .lt n, 3) := by
  refine qd_dec ?_
  show Except.bind ((Reader.u1 : Decoder Nat) c (p + k)) _ = _
  rw [qd_u1 p k h e]
  show Except.bind ((Reader.s2 : Decoder Int) c (p + (k + 1))) _ = _
  rw [qd_s2 p (k + 1) h (qd_drop1 e), hn]
  rfl

theorem qd_o156 {c : ByteArray} {l r : List Nat} {a b : Nat} {n : Int} (p k : Nat) (h : qd_bs c p l = true) (e : l.drop k = 156 :: a :: b :: r) (hn : Reader.signed 16 (a * 256 + b) = n) : decode c (p + k) = .ok (.ifCond .ge n, 3) := by
  refine qd_dec ?_
  show Except.bind ((Reader.u1 : Decoder Nat) c (p + k)) _ = _
  rw [qd_u1 p k h e]
  show Except.bind ((Reader.s2 : Decoder Int) c (p + (k + 1))) _ = _
  rw [qd_s2 p (k + 1) h (qd_drop1 e), hn]
  rfl

theorem qd_o158 {c : ByteArray} {l r : List Nat} {a b : Nat} {n : Int} (p k : Nat) (h : qd_bs c p l = true) (e : l.drop k = 158 :: a :: b :: r) (hn : Reader.signed 16 (a * 256 + b) = n) : decode c (p + k) = .ok (.ifCond .le n, 3) := by
  refine qd_dec ?_
  show Except.bind ((Reader.u1 : Decoder Nat) c (p + k)) _ = _
  rw [qd_u1 p k h e]
  show Except.bind ((Reader.s2 : Decoder Int) c (p + (k + 1))) _ = _
  rw [qd_s2 p (k + 1) h (qd_drop1 e), hn]
  rfl

theorem qd_o159 {c : ByteArray} {l r : List Nat} {a b : Nat} {n : Int} (p k : Nat) (h : qd_bs c p l = true) (e : l.drop k = 159 :: a :: b :: r) (hn : Reader.signed 16 (a * 256 + b) = n) : decode c (p + k) = .ok (.if_icmp .eq n, 3) := by
  refine qd_dec ?_
  show Except.bind ((Reader.u1 : Decoder Nat) c (p + k)) _ = _
  rw [qd_u1 p k h e]
  show Except.bind ((Reader.s2 : Decoder Int) c (p + (k + 1))) _ = _
  rw [qd_s2 p (k + 1) h (qd_drop1 e), hn]
  rfl

theorem qd_o160 {c : ByteArray} {l r : List Nat} {a b : Nat} {n : Int} (p k : Nat) (h : qd_bs c p l = true) (e : l.drop k = 160 :: a :: b :: r) (hn : Reader.signed 16 (a * 256 + b) = n) : decode c (p + k) = .ok (.if_icmp .ne n, 3) := by
  refine qd_dec ?_
  show Except.bind ((Reader.u1 : Decoder Nat) c (p + k)) _ = _
  rw [qd_u1 p k h e]
  show Except.bind ((Reader.s2 : Decoder Int) c (p + (k + 1))) _ = _
  rw [qd_s2 p (k + 1) h (qd_drop1 e), hn]
  rfl

theorem qd_o161 {c : ByteArray} {l r : List Nat} {a b : Nat} {n : Int} (p k : Nat) (h : qd_bs c p l = true) (e : l.drop k = 161 :: a :: b :: r) (hn : Reader.signed 16 (a * 256 + b) = n) : decode c (p + k) = .ok (.if_icmp .lt n, 3) := by
  refine qd_dec ?_
  show Except.bind ((Reader.u1 : Decoder Nat) c (p + k)) _ = _
  rw [qd_u1 p k h e]
  show Except.bind ((Reader.s2 : Decoder Int) c (p + (k + 1))) _ = _
  rw [qd_s2 p (k + 1) h (qd_drop1 e), hn]
  rfl

theorem qd_o162 {c : ByteArray} {l r : List Nat} {a b : Nat} {n : Int} (p k : Nat) (h : qd_bs c p l = true) (e : l.drop k = 162 :: a :: b :: r) (hn : Reader.signed 16 (a * 256 + b) = n) : decode c (p + k) = .ok (.if_icmp .ge n, 3) := by
  refine qd_dec ?_
  show Except.bind ((Reader.u1 : Decoder Nat) c (p + k)) _ = _
  rw [qd_u1 p k h e]
  show Except.bind ((Reader.s2 : Decoder Int) c (p + (k + 1))) _ = _
  rw [qd_s2 p (k + 1) h (qd_drop1 e), hn]
  rfl

theorem qd_o163 {c : ByteArray} {l r : List Nat} {a b : Nat} {n : Int} (p k : Nat) (h : qd_bs c p l = true) (e : l.drop k = 163 :: a :: b :: r) (hn : Reader.signed 16 (a * 256 + b) = n) : decode c (p + k) = .ok (.if_icmp .gt n, 3) := by
  refine qd_dec ?_
  show Except.bind ((Reader.u1 : Decoder Nat) c (p + k)) _ = _
  rw [qd_u1 p k h e]
  show Except.bind ((Reader.s2 : Decoder Int) c (p + (k + 1))) _ = _
  rw [qd_s2 p (k + 1) h (qd_drop1 e), hn]
  rfl

theorem qd_o164 {c : ByteArray} {l r : List Nat} {a b : Nat} {n : Int} (p k : Nat) (h : qd_bs c p l = true) (e : l.drop k = 164 :: a :: b :: r) (hn : Reader.signed 16 (a * 256 + b) = n) : decode c (p + k) = .ok (.if_icmp .le n, 3) := by
  refine qd_dec ?_
  show Except.bind ((Reader.u1 : Decoder Nat) c (p + k)) _ = _
  rw [qd_u1 p k h e]
  show Except.bind ((Reader.s2 : Decoder Int) c (p + (k + 1))) _ = _
  rw [qd_s2 p (k + 1) h (qd_drop1 e), hn]
  rfl

theorem qd_o167 {c : ByteArray} {l r : List Nat} {a b : Nat} {n : Int} (p k : Nat) (h : qd_bs c p l = true) (e : l.drop k = 167 :: a :: b :: r) (hn : Reader.signed 16 (a * 256 + b) = n) : decode c (p + k) = .ok (.goto n, 3) := by
  refine qd_dec ?_
  show Except.bind ((Reader.u1 : Decoder Nat) c (p + k)) _ = _
  rw [qd_u1 p k h e]
  show Except.bind ((Reader.s2 : Decoder Int) c (p + (k + 1))) _ = _
  rw [qd_s2 p (k + 1) h (qd_drop1 e), hn]
  rfl

theorem qd_o172 {c : ByteArray} {l r : List Nat} (p k : Nat) (h : qd_bs c p l = true) (e : l.drop k = 172 :: r) : decode c (p + k) = .ok (.ireturn, 1) := by
  refine qd_dec ?_
  show Except.bind ((Reader.u1 : Decoder Nat) c (p + k)) _ = _
  rw [qd_u1 p k h e]
  rfl

theorem qd_o173 {c : ByteArray} {l r : List Nat} (p k : Nat) (h : qd_bs c p l = true) (e : l.drop k = 173 :: r) : decode c (p + k) = .ok (.lreturn, 1) := by
  refine qd_dec ?_
  show Except.bind ((Reader.u1 : Decoder Nat) c (p + k)) _ = _
  rw [qd_u1 p k h e]
  rfl

theorem qd_o174 {c : ByteArray} {l r : List Nat} (p k : Nat) (h : qd_bs c p l = true) (e : l.drop k = 174 :: r) : decode c (p + k) = .ok (.freturn, 1) := by
  refine qd_dec ?_
  show Except.bind ((Reader.u1 : Decoder Nat) c (p + k)) _ = _
  rw [qd_u1 p k h e]
  rfl

theorem qd_o175 {c : ByteArray} {l r : List Nat} (p k : Nat) (h : qd_bs c p l = true) (e : l.drop k = 175 :: r) : decode c (p + k) = .ok (.dreturn, 1) := by
  refine qd_dec ?_
  show Except.bind ((Reader.u1 : Decoder Nat) c (p + k)) _ = _
  rw [qd_u1 p k h e]
  rfl

theorem qd_o176 {c : ByteArray} {l r : List Nat} (p k : Nat) (h : qd_bs c p l = true) (e : l.drop k = 176 :: r) : decode c (p + k) = .ok (.areturn, 1) := by
  refine qd_dec ?_
  show Except.bind ((Reader.u1 : Decoder Nat) c (p + k)) _ = _
  rw [qd_u1 p k h e]
  rfl

theorem qd_o177 {c : ByteArray} {l r : List Nat} (p k : Nat) (h : qd_bs c p l = true) (e : l.drop k = 177 :: r) : decode c (p + k) = .ok (.return_, 1) := by
  refine qd_dec ?_
  show Except.bind ((Reader.u1 : Decoder Nat) c (p + k)) _ = _
  rw [qd_u1 p k h e]
  rfl

theorem qd_o178 {c : ByteArray} {l r : List Nat} {a b : Nat} {n : Nat} (p k : Nat) (h : qd_bs c p l = true) (e : l.drop k = 178 :: a :: b :: r) (hn : a * 256 + b = n) : decode c (p + k) = .ok (.getstatic n, 3) := by
  refine qd_dec ?_
  show Except.bind ((Reader.u1 : Decoder Nat) c (p + k)) _ = _
  rw [qd_u1 p k h e]
  show Except.bind ((Reader.u2 : Decoder Nat) c (p + (k + 1))) _ = _
  rw [qd_u2 p (k + 1) h (qd_drop1 e), hn]
  rfl

theorem qd_o180 {c : ByteArray} {l r : List Nat} {a b : Nat} {n : Nat} (p k : Nat) (h : qd_bs c p l = true) (e : l.drop k = 180 :: a :: b :: r) (hn : a * 256 + b = n) : decode c (p + k) = .ok (.getfield n, 3) := by
  refine qd_dec ?_
  show Except.bind ((Reader.u1 : Decoder Nat) c (p + k)) _ = _
  rw [qd_u1 p k h e]
  show Except.bind ((Reader.u2 : Decoder Nat) c (p + (k + 1))) _ = _
  rw [qd_u2 p (k + 1) h (qd_drop1 e), hn]
  rfl

theorem qd_o181 {c : ByteArray} {l r : List Nat} {a b : Nat} {n : Nat} (p k : Nat) (h : qd_bs c p l = true) (e : l.drop k = 181 :: a :: b :: r) (hn : a * 256 + b = n) : decode c (p + k) = .ok (.putfield n, 3) := by
  refine qd_dec ?_
  show Except.bind ((Reader.u1 : Decoder Nat) c (p + k)) _ = _
  rw [qd_u1 p k h e]
  show Except.bind ((Reader.u2 : Decoder Nat) c (p + (k + 1))) _ = _
  rw [qd_u2 p (k + 1) h (qd_drop1 e), hn]
  rfl

theorem qd_o182 {c : ByteArray} {l r : List Nat} {a b : Nat} {n : Nat} (p k : Nat) (h : qd_bs c p l = true) (e : l.drop k = 182 :: a :: b :: r) (hn : a * 256 + b = n) : decode c (p + k) = .ok (.invokevirtual n, 3) := by
  refine qd_dec ?_
  show Except.bind ((Reader.u1 : Decoder Nat) c (p + k)) _ = _
  rw [qd_u1 p k h e]
  show Except.bind ((Reader.u2 : Decoder Nat) c (p + (k + 1))) _ = _
  rw [qd_u2 p (k + 1) h (qd_drop1 e), hn]
  rfl

theorem qd_o183 {c : ByteArray} {l r : List Nat} {a b : Nat} {n : Nat} (p k : Nat) (h : qd_bs c p l = true) (e : l.drop k = 183 :: a :: b :: r) (hn : a * 256 + b = n) : decode c (p + k) = .ok (.invokespecial n, 3) := by
  refine qd_dec ?_
  show Except.bind ((Reader.u1 : Decoder Nat) c (p + k)) _ = _
  rw [qd_u1 p k h e]
  show Except.bind ((Reader.u2 : Decoder Nat) c (p + (k + 1))) _ = _
  rw [qd_u2 p (k + 1) h (qd_drop1 e), hn]
  rfl

theorem qd_o184 {c : ByteArray} {l r : List Nat} {a b : Nat} {n : Nat} (p k : Nat) (h : qd_bs c p l = true) (e : l.drop k = 184 :: a :: b :: r) (hn : a * 256 + b = n) : decode c (p + k) = .ok (.invokestatic n, 3) := by
  refine qd_dec ?_
  show Except.bind ((Reader.u1 : Decoder Nat) c (p + k)) _ = _
  rw [qd_u1 p k h e]
  show Except.bind ((Reader.u2 : Decoder Nat) c (p + (k + 1))) _ = _
  rw [qd_u2 p (k + 1) h (qd_drop1 e), hn]
  rfl

theorem qd_o187 {c : ByteArray} {l r : List Nat} {a b : Nat} {n : Nat} (p k : Nat) (h : qd_bs c p l = true) (e : l.drop k = 187 :: a :: b :: r) (hn : a * 256 + b = n) : decode c (p + k) = .ok (.new n, 3) := by
  refine qd_dec ?_
  show Except.bind ((Reader.u1 : Decoder Nat) c (p + k)) _ = _
  rw [qd_u1 p k h e]
  show Except.bind ((Reader.u2 : Decoder Nat) c (p + (k + 1))) _ = _
  rw [qd_u2 p (k + 1) h (qd_drop1 e), hn]
  rfl

theorem qd_o189 {c : ByteArray} {l r : List Nat} {a b : Nat} {n : Nat} (p k : Nat) (h : qd_bs c p l = true) (e : l.drop k = 189 :: a :: b :: r) (hn : a * 256 + b = n) : decode c (p + k) = .ok (.anewarray n, 3) := by
  refine qd_dec ?_
  show Except.bind ((Reader.u1 : Decoder Nat) c (p + k)) _ = _
  rw [qd_u1 p k h e]
  show Except.bind ((Reader.u2 : Decoder Nat) c (p + (k + 1))) _ = _
  rw [qd_u2 p (k + 1) h (qd_drop1 e), hn]
  rfl

theorem qd_o190 {c : ByteArray} {l r : List Nat} (p k : Nat) (h : qd_bs c p l = true) (e : l.drop k = 190 :: r) : decode c (p + k) = .ok (.arraylength, 1) := by
  refine qd_dec ?_
  show Except.bind ((Reader.u1 : Decoder Nat) c (p + k)) _ = _
  rw [qd_u1 p k h e]
  rfl

theorem qd_o191 {c : ByteArray} {l r : List Nat} (p k : Nat) (h : qd_bs c p l = true) (e : l.drop k = 191 :: r) : decode c (p + k) = .ok (.athrow, 1) := by
  refine qd_dec ?_
  show Except.bind ((Reader.u1 : Decoder Nat) c (p + k)) _ = _
  rw [qd_u1 p k h e]
  rfl

theorem qd_o192 {c : ByteArray} {l r : List Nat} {a b : Nat} {n : Nat} (p k : Nat) (h : qd_bs c p l = true) (e : l.drop k = 192 :: a :: b :: r) (hn : a * 256 + b = n) : decode c (p + k) = .ok (.checkcast n, 3) := by
  refine qd_dec ?_
  show Except.bind ((Reader.u1 : Decoder Nat) c (p + k)) _ = _
  rw [qd_u1 p k h e]
  show Except.bind ((Reader.u2 : Decoder Nat) c (p + (k + 1))) _ = _
  rw [qd_u2 p (k + 1) h (qd_drop1 e), hn]
  rfl

theorem qd_o199 {c : ByteArray} {l r : List Nat} {a b : Nat} {n : Int} (p k : Nat) (h : qd_bs c p l = true) (e : l.drop k = 199 :: a :: b :: r) (hn : Reader.signed 16 (a * 256 + b) = n) : decode c (p + k) = .ok (.ifnonnull n, 3) := by
  refine qd_dec ?_
  show Except.bind ((Reader.u1 : Decoder Nat) c (p + k)) _ = _
  rw [qd_u1 p k h e]
  show Except.bind ((Reader.s2 : Decoder Int) c (p + (k + 1))) _ = _
  rw [qd_s2 p (k + 1) h (qd_drop1 e), hn]
  rfl
end
section
-- 00.nd1
theorem qd_g0 : qd_bs cX0_init 0 [42, 183, 0, 3, 42, 187, 0, 9, 89, 183, 0, 11, 181, 0, 12, 42, 17, 2, 0] = true := by decide +kernel
theorem dX0_init_19 : decode cX0_init 19 = .ok (.newarray .int, 2) := by decide +kernel
theorem qd_g1 : qd_bs cX0_init 21 [181, 0, 18, 42, 17, 8, 0] = true := by decide +kernel
theorem dX0_init_28 : decode cX0_init 28 = .ok (.newarray .int, 2) := by decide +kernel
theorem qd_g2 : qd_bs cX0_init 30 [181, 0, 22, 42, 5] = true := by decide +kernel
theorem dX0_init_35 : decode cX0_init 35 = .ok (.newarray .int, 2) := by decide +kernel
theorem qd_g3 : qd_bs cX0_init 37 [181, 0, 25, 42, 187, 0, 28, 89, 183, 0, 30, 181, 0, 31, 42, 187, 0, 35, 89, 183, 0, 37, 181, 0, 38, 42, 187, 0, 42, 89, 183, 0, 44, 181, 0, 45, 42, 187, 0, 42] = true := by decide +kernel
theorem qd_g4 : qd_bs cX0_init 77 [89, 183, 0, 44, 181, 0, 49, 177] = true := by decide +kernel
theorem qd_g5 : qd_bs cX0_become 0 [42, 180, 0, 12, 43, 180, 0, 12, 182, 0, 52, 43, 180, 0, 18, 3, 42, 180, 0, 18, 3, 17, 2, 0, 184, 0, 56, 43, 180, 0, 22, 3, 42, 180, 0, 22, 3, 17, 8, 0] = true := by decide +kernel
theorem qd_g6 : qd_bs cX0_become 40 [184, 0, 56, 43, 180, 0, 25, 3, 42, 180, 0, 25, 3, 5, 184, 0, 56, 42, 180, 0, 31, 43, 180, 0, 31, 182, 0, 62, 42, 180, 0, 38, 43, 180, 0, 38, 182, 0, 65, 42] = true := by decide +kernel
theorem qd_g7 : qd_bs cX0_become 80 [180, 0, 45, 43, 180, 0, 45, 182, 0, 68, 42, 180, 0, 49, 43, 180, 0, 49, 182, 0, 68, 42, 43, 180, 0, 71, 181, 0, 71, 177] = true := by decide +kernel
theorem qd_g8 : qd_bs cX0_position 0 [42, 180, 0, 71, 20, 0, 75, 113, 136, 172] = true := by decide +kernel
theorem qd_g9 : qd_bs cX0_column 0 [42, 180, 0, 71, 20, 0, 77, 113, 136, 172] = true := by decide +kernel
theorem qd_g10 : qd_bs cX0_present 0 [42, 180, 0, 71, 20, 0, 75, 109, 20, 0, 79, 113, 9, 148, 154, 0, 10, 42, 180, 0, 45, 167, 0, 7, 42, 180, 0, 49, 176] = true := by decide +kernel
theorem qd_g11 : qd_bs cX0_last 0 [42, 180, 0, 71, 20, 0, 75, 109, 20, 0, 79, 113, 9, 148, 154, 0, 10, 42, 180, 0, 49, 167, 0, 7, 42, 180, 0, 45, 176] = true := by decide +kernel
theorem qd_g12 : qd_bs cX0_read 0 [27, 17, 15, 0, 100, 61, 28, 155, 0, 24, 28, 16, 48, 162, 0, 18, 42, 28, 42, 180, 0, 12, 180, 0, 81, 28, 46, 182, 0, 84, 172, 42, 180, 0, 12, 180, 0, 81, 3, 46] = true := by decide +kernel
theorem qd_g13 : qd_bs cX0_read 40 [62, 29, 4, 126, 4, 160, 0, 28, 27, 17, 12, 0, 161, 0, 21, 27, 17, 14, 0, 162, 0, 14, 42, 180, 0, 18, 27, 17, 12, 0, 100, 46, 172, 29, 5, 126, 5, 160, 0, 38] = true := by decide +kernel
theorem qd_g14 : qd_bs cX0_read 80 [27, 17, 8, 0, 161, 0, 31, 27, 17, 10, 0, 162, 0, 24, 42, 180, 0, 22, 17, 2, 0, 29, 5, 122, 6, 126, 104, 27, 96, 17, 8, 0, 100, 46, 172, 42, 180, 0, 12] = true := by decide +kernel
theorem qd_g15 : qd_bs cX0_read 119 [180, 0, 88, 27, 17, 15, 255, 126, 46, 172] = true := by decide +kernel
theorem qd_g16 : qd_bs cX0_readRegister 0 [27] = true := by decide +kernel
theorem dX0_readRegister_1 : decode cX0_readRegister 1 = .ok (.lookupswitch 181 #[(9, 67), (12, 80), (13, 91), (14, 101), (15, 112), (31, 122), (44, 146)], 67) := by decide +kernel
theorem qd_g17 : qd_bs cX0_readRegister 68 [42, 180, 0, 71, 20, 0, 75, 113, 136, 16, 24, 108, 172, 42, 180, 0, 25, 3, 46, 17, 0, 255, 126, 172, 42, 180, 0, 25, 3, 46, 16, 8, 122, 172, 42, 180, 0, 25, 4, 46] = true := by decide +kernel
theorem qd_g18 : qd_bs cX0_readRegister 108 [17, 0, 255, 126, 172, 42, 180, 0, 25, 4, 46, 16, 8, 122, 172, 42, 180, 0, 38, 180, 0, 91, 28, 16, 15, 126, 46, 16, 16, 42, 180, 0, 38, 180, 0, 94, 104, 96, 172, 28] = true := by decide +kernel
theorem qd_g19 : qd_bs cX0_readRegister 148 [5, 42, 180, 0, 31, 180, 0, 98, 104, 96, 42, 180, 0, 31, 180, 0, 101, 42, 180, 0, 31, 180, 0, 104, 162, 0, 7, 7, 167, 0, 4, 3, 96, 172, 28, 172] = true := by decide +kernel
theorem qd_g20 : qd_bs cX0_readWord 0 [42, 27, 17, 15, 255, 126, 182, 0, 107, 61, 28, 17, 1, 0, 42, 27, 4, 96, 17, 15, 255, 126, 182, 0, 107, 104, 96, 17, 15, 255, 126, 172] = true := by decide +kernel
theorem qd_g21 : qd_bs cX0_load 0 [42, 27, 182, 0, 107, 61, 27, 17, 15, 29, 160, 0, 17, 42, 180, 0, 12, 180, 0, 81, 16, 29, 3, 79, 167, 0, 21, 27, 17, 15, 30, 160, 0, 14, 42, 180, 0, 12] = true := by decide +kernel
theorem qd_g22 : qd_bs cX0_load 38 [180, 0, 81, 16, 30, 3, 79, 28, 172] = true := by decide +kernel
theorem qd_g23 : qd_bs cX0_write 0 [27, 17, 15, 10, 160, 0, 22, 42, 180, 0, 12, 180, 0, 81, 16, 10, 92, 46, 28, 2, 130, 126, 79, 167, 0, 28, 27, 17, 15, 16, 160, 0, 21, 42, 28, 42, 180, 0, 12] = true := by decide +kernel
theorem qd_g24 : qd_bs cX0_write 39 [180, 0, 81, 16, 16, 46, 2, 130, 126, 182, 0, 111, 42, 180, 0, 12, 27, 28, 182, 0, 115, 42, 182, 0, 119, 27, 28, 182, 0, 123, 177] = true := by decide +kernel
theorem qd_g25 : qd_bs cX0_startTimers 0 [3, 61, 28, 5, 162, 0, 59, 27, 28, 122, 4, 126, 4, 160, 0, 44, 42, 180, 0, 25, 28, 42, 180, 0, 12, 180, 0, 81, 16, 12, 5, 28, 104, 96, 46, 17, 1, 0, 42] = true := by decide +kernel
theorem qd_g26 : qd_bs cX0_startTimers 39 [180, 0, 12, 180, 0, 81, 16, 12, 5, 28, 104, 96, 4, 96, 46, 104, 96, 79, 132, 2, 1, 167, 255, 198, 177] = true := by decide +kernel
theorem qd_g27 : qd_bs cX0_clearRegisters 0 [42, 180, 0, 12, 182, 0, 126, 42, 182, 0, 119, 17, 16, 0, 3, 182, 0, 123, 42, 180, 0, 25, 3, 184, 0, 129, 177] = true := by decide +kernel
theorem qd_g28 : qd_bs cX0_exchange 0 [42, 27, 182, 0, 107, 62, 42, 27, 28, 182, 0, 135, 29, 172] = true := by decide +kernel
theorem qd_g29 : qd_bs cX0_exchangeRom 0 [27, 17, 1, 255, 126, 62, 42, 180, 0, 18, 29, 46, 54, 4, 42, 180, 0, 18, 29, 28, 79, 21, 4, 172] = true := by decide +kernel
theorem qd_g30 : qd_bs cX0_exchangeCartridge 0 [27, 17, 7, 255, 126, 62, 42, 180, 0, 22, 29, 46, 54, 4, 42, 180, 0, 22, 29, 28, 79, 21, 4, 172] = true := by decide +kernel
theorem qd_g31 : qd_bs cX0_writeInstruction 0 [28, 184, 0, 138, 54, 4, 42, 27, 28, 182, 0, 135, 21, 4, 4, 164, 0, 19, 42, 27, 4, 96, 17, 15, 255, 126, 29, 17, 0, 255, 126, 182, 0, 135, 21, 4, 5, 164, 0, 18] = true := by decide +kernel
theorem qd_g32 : qd_bs cX0_writeInstruction 40 [42, 27, 5, 96, 17, 15, 255, 126, 29, 16, 8, 122, 182, 0, 135, 27, 21, 4, 96, 17, 15, 255, 126, 172] = true := by decide +kernel
theorem qd_g33 : qd_bs cX0_meetLine 0 [42, 182, 0, 143, 154, 0, 37, 42, 182, 0, 147, 16, 24, 108, 42, 180, 0, 12, 180, 0, 81, 16, 9, 46, 160, 0, 17, 42, 180, 0, 12, 180, 0, 81, 16, 10, 92, 46, 4, 128] = true := by decide +kernel
theorem qd_g34 : qd_bs cX0_meetLine 40 [79, 177] = true := by decide +kernel
theorem qd_g35 : qd_bs cX0_isPictureNext 0 [42, 180, 0, 12, 42, 182, 0, 147, 16, 24, 108, 7, 100, 42, 182, 0, 143, 182, 0, 150, 172] = true := by decide +kernel
theorem qd_g36 : qd_bs cX0_draw 0 [42, 182, 0, 147, 16, 24, 108, 7, 100, 61, 42, 182, 0, 143, 62, 28, 155, 0, 105, 28, 16, 32, 162, 0, 99, 29, 7, 161, 0, 94, 29, 16, 19, 163, 0, 88, 5, 29, 7, 100] = true := by decide +kernel
theorem qd_g37 : qd_bs cX0_draw 40 [104, 54, 4, 21, 4, 54, 5, 21, 5, 21, 4, 4, 96, 163, 0, 68, 42, 180, 0, 12, 21, 5, 28, 182, 0, 154, 54, 6, 42, 180, 0, 12, 21, 5, 28, 182, 0, 157, 54, 7] = true := by decide +kernel
theorem qd_g38 : qd_bs cX0_draw 80 [42, 180, 0, 12, 21, 6, 21, 7, 182, 0, 160, 43, 16, 32, 28, 104, 21, 5, 96, 17, 3, 255, 126, 42, 180, 0, 12, 21, 6, 21, 7, 182, 0, 163, 79, 132, 5, 1] = true := by decide +kernel
theorem qd_g39 : qd_bs cX0_draw 118 [167, 255, 185, 42, 182, 0, 119, 89, 180, 0, 166, 4, 96, 181, 0, 166, 177] = true := by decide +kernel
theorem qd_g40 : qd_bs cX0_countTimers 0 [42, 180, 0, 12, 180, 0, 81, 16, 16, 46, 60, 3, 61, 27, 4, 126, 4, 160, 0, 9, 42, 3, 182, 0, 169, 61, 27, 5, 126, 5, 160, 0, 19, 27, 7, 126, 153, 0, 7, 28] = true := by decide +kernel
theorem qd_g41 : qd_bs cX0_countTimers 40 [153, 0, 9, 42, 4, 182, 0, 169, 87, 177] = true := by decide +kernel
theorem qd_g42 : qd_bs cX0_countDown 0 [27, 4, 126, 61, 42, 180, 0, 25, 28, 46, 158, 0, 15, 42, 180, 0, 25, 28, 92, 46, 4, 100, 79, 3, 172, 42, 4, 28, 120, 182, 0, 111, 42, 180, 0, 12, 180, 0, 81] = true := by decide +kernel
theorem qd_g43 : qd_bs cX0_countDown 39 [16, 10, 92, 46, 5, 28, 120, 128, 79, 4, 172] = true := by decide +kernel
theorem qd_g44 : qd_bs cX0_moveTape 0 [42, 180, 0, 12, 180, 0, 81, 16, 44, 46, 4, 160, 0, 28, 42, 180, 0, 31, 182, 0, 173, 153, 0, 18, 42, 180, 0, 12, 180, 0, 81, 16, 10, 92, 46, 16, 8, 128, 79, 177] = true := by decide +kernel
theorem qd_g45 : qd_bs cX0_endCycle 0 [42, 89, 180, 0, 71, 10, 97, 181, 0, 71, 42, 180, 0, 71, 20, 0, 75, 113, 9, 148, 154, 0, 14, 42, 182, 0, 119, 42, 180, 0, 12, 182, 0, 177, 177] = true := by decide +kernel
theorem qd_g46 : qd_bs cX0_drawnAgain 0 [27, 5, 108, 7, 96, 54, 4, 16, 24, 28, 7, 96, 104, 21, 4, 96, 54, 5, 21, 5, 42, 182, 0, 119, 180, 0, 166, 162, 0, 10, 42, 182, 0, 119, 167, 0, 7, 42] = true := by decide +kernel
theorem qd_g47 : qd_bs cX0_drawnAgain 38 [182, 0, 180, 58, 6, 21, 5, 25, 6, 180, 0, 166, 161, 0, 5, 3, 172, 25, 6, 21, 5, 45, 182, 0, 183, 45, 45, 27, 28, 182, 0, 154, 45, 27, 28, 182, 0, 157] = true := by decide +kernel
theorem qd_g48 : qd_bs cX0_drawnAgain 76 [182, 0, 163, 172] = true := by decide +kernel
theorem qd_g49 : qd_bs cX1_operationOf 0 [26, 17, 0, 128, 162, 0, 8, 26, 16, 8, 108, 172, 26, 17, 0, 192, 161, 0, 20, 26, 17, 0, 231, 163, 0, 13, 26, 16, 8, 108, 16, 8, 100, 167, 0, 4, 2, 172] = true := by decide +kernel
theorem qd_g50 : qd_bs cX1_isBranch 0 [26, 17, 0, 160, 161, 0, 14, 26, 17, 0, 167, 163, 0, 7, 4, 167, 0, 4, 3, 172] = true := by decide +kernel
theorem qd_g51 : qd_bs cX1_isWriting 0 [26, 6, 161, 0, 8, 26, 8, 164, 0, 16, 26, 16, 17, 159, 0, 10, 26, 184, 0, 11, 153, 0, 7, 4, 167, 0, 4, 3, 172] = true := by decide +kernel
theorem qd_g52 : qd_bs cX1_isChanging 0 [26, 16, 14, 159, 0, 21, 26, 16, 15, 159, 0, 15, 26, 16, 18, 159, 0, 9, 26, 16, 19, 160, 0, 7, 4, 167, 0, 4, 3, 172] = true := by decide +kernel
theorem qd_g53 : qd_bs cX1_lengthOf 0 [26, 184, 0, 15, 155, 0, 24, 26, 16, 7, 126, 60, 27, 6, 161, 0, 12, 27, 8, 163, 0, 7, 6, 167, 0, 4, 5, 172, 26, 17, 0, 157, 161, 0, 10, 26, 17, 0, 167] = true := by decide +kernel
theorem qd_g54 : qd_bs cX1_lengthOf 39 [164, 0, 5, 4, 172, 26, 17, 0, 160, 162, 0, 7, 6, 167, 0, 4, 5, 172] = true := by decide +kernel
theorem qd_g55 : qd_bs cX1_cyclesOfMode 0 [178, 0, 19, 26, 16, 7, 126, 46, 172] = true := by decide +kernel
theorem qd_g56 : qd_bs cX1_cyclesOf 0 [26, 17, 0, 128, 100, 60, 27, 155, 0, 19, 27, 178, 0, 23, 190, 162, 0, 11, 178, 0, 23, 27, 46, 167, 0, 4, 5, 172] = true := by decide +kernel
theorem qd_g57 : qd_bs cX1_targetOf 0 [26, 5, 96, 27, 16, 127, 164, 0, 11, 27, 17, 1, 0, 100, 167, 0, 4, 27, 96, 17, 15, 255, 126, 172] = true := by decide +kernel
theorem qd_g58 : qd_bs cX1_appendName 0 [27, 184, 0, 15, 61, 28, 155, 0, 8, 18, 26, 167, 0, 5, 18, 28, 78, 6, 28, 155, 0, 7, 28, 167, 0, 8, 27, 17, 0, 128, 100, 104, 54, 4, 21, 4, 155, 0, 14] = true := by decide +kernel
theorem qd_g59 : qd_bs cX1_appendName 39 [21, 4, 5, 96, 45, 182, 0, 30, 161, 0, 11, 42, 18, 36, 182, 0, 38, 87, 177, 21, 4, 54, 5, 21, 5, 21, 4, 5, 96, 163, 0, 20, 42, 45, 21, 5, 182, 0, 44] = true := by decide +kernel
theorem qd_g60 : qd_bs cX1_appendName 78 [182, 0, 48, 87, 132, 5, 1, 167, 255, 233, 177] = true := by decide +kernel
theorem qd_g61 : qd_bs cX2_init 0 [42, 183, 0, 3, 42, 187, 0, 9, 89, 183, 0, 11, 181, 0, 12, 42, 17, 12, 0] = true := by decide +kernel
theorem dX2_init_19 : decode cX2_init 19 = .ok (.newarray .int, 2) := by decide +kernel
theorem qd_g62 : qd_bs cX2_init 21 [181, 0, 18, 177] = true := by decide +kernel
theorem qd_g63 : qd_bs cX2_become 0 [42, 180, 0, 12, 43, 180, 0, 12, 182, 0, 22, 43, 180, 0, 18, 3, 42, 180, 0, 18, 3, 17, 12, 0, 184, 0, 26, 42, 43, 180, 0, 32, 181, 0, 32, 42, 43, 180, 0, 36] = true := by decide +kernel
theorem qd_g64 : qd_bs cX2_become 40 [181, 0, 36, 177] = true := by decide +kernel
theorem qd_g65 : qd_bs cX2_begin 0 [42, 180, 0, 12, 43, 182, 0, 22, 42, 3, 181, 0, 32, 42, 3, 181, 0, 36, 177] = true := by decide +kernel
theorem qd_g66 : qd_bs cX2_keep 0 [42, 180, 0, 32, 155, 0, 46, 42, 180, 0, 32, 17, 12, 0, 162, 0, 36, 42, 180, 0, 18, 42, 180, 0, 32, 42, 180, 0, 36, 16, 21, 120, 27, 16, 8, 120, 96, 28, 96, 79] = true := by decide +kernel
theorem qd_g67 : qd_bs cX2_keep 40 [42, 89, 180, 0, 32, 4, 96, 181, 0, 32, 177] = true := by decide +kernel
theorem qd_g68 : qd_bs cX2_replay 0 [44, 42, 180, 0, 12, 182, 0, 22, 3, 62, 29, 42, 180, 0, 32, 162, 0, 76, 29, 17, 12, 0, 162, 0, 69, 42, 180, 0, 18, 29, 46, 16, 21, 122, 27, 164, 0, 4, 177, 42] = true := by decide +kernel
theorem qd_g69 : qd_bs cX2_replay 40 [180, 0, 18, 29, 46, 16, 8, 122, 17, 31, 255, 126, 54, 4, 21, 4, 17, 16, 0, 160, 0, 10, 44, 182, 0, 39, 167, 0, 19, 44, 21, 4, 42, 180, 0, 18, 29, 46] = true := by decide +kernel
theorem qd_g70 : qd_bs cX2_replay 78 [17, 0, 255, 126, 182, 0, 42, 132, 3, 1, 167, 255, 178, 177] = true := by decide +kernel
theorem qd_g71 : qd_bs cX3_init 0 [42, 183, 0, 1, 42, 7] = true := by decide +kernel
theorem dX3_init_6 : decode cX3_init 6 = .ok (.newarray .int, 2) := by decide +kernel
theorem qd_g72 : qd_bs cX3_init 8 [181, 0, 9, 42, 16, 16] = true := by decide +kernel
theorem dX3_init_14 : decode cX3_init 14 = .ok (.newarray .int, 2) := by decide +kernel
theorem qd_g73 : qd_bs cX3_init 16 [181, 0, 13, 177] = true := by decide +kernel
theorem qd_g74 : qd_bs cX3_become 0 [43, 180, 0, 9, 3, 42, 180, 0, 9, 3, 7, 184, 0, 16, 43, 180, 0, 13, 3, 42, 180, 0, 13, 3, 16, 16, 184, 0, 16, 42, 43, 180, 0, 22, 181, 0, 22, 177] = true := by decide +kernel
theorem qd_g75 : qd_bs cX3_exchangeJoystick 0 [42, 180, 0, 22, 61, 42, 27, 181, 0, 22, 28, 172] = true := by decide +kernel
theorem qd_g76 : qd_bs cX3_press 0 [27, 6, 126, 54, 4, 42, 180, 0, 9, 21, 4, 46, 28, 122, 4, 126, 54, 5, 42, 180, 0, 9, 21, 4, 42, 180, 0, 9, 21, 4, 46, 4, 28, 120, 2, 130, 126, 29, 28, 120] = true := by decide +kernel
theorem qd_g77 : qd_bs cX3_press 40 [128, 79, 3, 54, 6, 21, 6, 16, 15, 163, 0, 22, 42, 180, 0, 13, 21, 6, 42, 21, 6, 182, 0, 26, 79, 132, 6, 1, 167, 255, 233, 21, 5, 172] = true := by decide +kernel
theorem qd_g78 : qd_bs cX3_columnsSeen 0 [27, 61, 3, 62, 3, 54, 4, 21, 4, 7, 162, 0, 78, 3, 54, 5, 21, 5, 7, 162, 0, 29, 28, 21, 5, 122, 4, 126, 4, 160, 0, 13, 29, 42, 180, 0, 9, 21, 5, 46] = true := by decide +kernel
theorem qd_g79 : qd_bs cX3_columnsSeen 40 [128, 62, 132, 5, 1, 167, 255, 227, 3, 54, 5, 21, 5, 7, 162, 0, 28, 42, 180, 0, 9, 21, 5, 46, 29, 126, 153, 0, 10, 28, 4, 21, 5, 120, 128, 61, 132, 5, 1] = true := by decide +kernel
theorem qd_g80 : qd_bs cX3_columnsSeen 79 [167, 255, 228, 132, 4, 1, 167, 255, 178, 29, 172] = true := by decide +kernel
theorem qd_g81 : qd_bs cX4_init 0 [42, 183, 0, 3, 42, 187, 0, 9, 89, 183, 0, 11, 181, 0, 12, 42, 187, 0, 18, 89, 183, 0, 20, 181, 0, 21, 42, 187, 0, 25, 89, 183, 0, 27, 181, 0, 28, 42] = true := by decide +kernel
theorem qd_g82 : qd_bs cX4_init 38 [17, 4, 0] = true := by decide +kernel
theorem dX4_init_41 : decode cX4_init 41 = .ok (.newarray .int, 2) := by decide +kernel
theorem qd_g83 : qd_bs cX4_init 43 [181, 0, 32, 177] = true := by decide +kernel
theorem qd_g84 : qd_bs cX4_become 0 [42, 180, 0, 12, 43, 180, 0, 12, 182, 0, 36, 42, 180, 0, 21, 43, 180, 0, 21, 182, 0, 40, 42, 180, 0, 28, 43, 180, 0, 28, 182, 0, 43, 43, 180, 0, 32, 3, 42] = true := by decide +kernel
theorem qd_g85 : qd_bs cX4_become 39 [180, 0, 32, 3, 17, 4, 0, 184, 0, 46, 42, 43, 180, 0, 52, 181, 0, 52, 177] = true := by decide +kernel
theorem qd_g86 : qd_bs cX4_isLike 0 [3, 61, 28, 16, 48, 162, 0, 38, 42, 180, 0, 12, 17, 15, 0, 28, 96, 182, 0, 56, 43, 180, 0, 12, 17, 15, 0, 28, 96, 182, 0, 56, 159, 0, 5, 3, 172, 132, 2, 1] = true := by decide +kernel
theorem qd_g87 : qd_bs cX4_isLike 40 [167, 255, 218, 3, 61, 28, 17, 4, 0, 162, 0, 26, 42, 180, 0, 32, 28, 46, 43, 180, 0, 32, 28, 46, 159, 0, 5, 3, 172, 132, 2, 1, 167, 255, 229, 42, 180, 0, 12] = true := by decide +kernel
theorem qd_g88 : qd_bs cX4_isLike 79 [180, 0, 60, 43, 180, 0, 12, 180, 0, 60, 182, 0, 64, 154, 0, 35, 42, 180, 0, 21, 43, 180, 0, 21, 182, 0, 70, 153, 0, 21, 42, 180, 0, 28, 43, 180, 0, 28] = true := by decide +kernel
theorem qd_g89 : qd_bs cX4_isLike 117 [182, 0, 74, 153, 0, 7, 4, 167, 0, 4, 3, 172] = true := by decide +kernel
theorem qd_g90 : qd_bs cX4_perform 0 [27] = true := by decide +kernel
theorem dX4_perform_1 : decode cX4_perform 1 = .ok (.tableswitch 202 0 12 #[67, 77, 87, 104, 116, 126, 131, 136, 143, 152, 167, 179, 191], 67) := by decide +kernel
theorem qd_g91 : qd_bs cX4_perform 68 [42, 180, 0, 12, 28, 29, 182, 0, 77, 172, 42, 180, 0, 12, 28, 29, 182, 0, 81, 172, 42, 180, 0, 12, 17, 2, 0, 28, 104, 29, 96, 21, 4, 182, 0, 84, 172, 42] = true := by decide +kernel
theorem qd_g92 : qd_bs cX4_perform 106 [180, 0, 12, 28, 29, 21, 4, 182, 0, 87, 172, 42, 180, 0, 21, 28, 29, 182, 0, 91, 172, 42, 182, 0, 92, 172, 42, 182, 0, 96, 172, 42, 28, 3, 182, 0, 99, 172, 42] = true := by decide +kernel
theorem qd_g93 : qd_bs cX4_perform 145 [17, 0, 200, 4, 182, 0, 99, 172, 42, 180, 0, 12, 180, 0, 103, 28, 29, 21, 4, 182, 0, 107, 172, 42, 180, 0, 12, 180, 0, 103, 28, 182, 0, 112, 172, 42, 180, 0, 12] = true := by decide +kernel
theorem qd_g94 : qd_bs cX4_perform 184 [180, 0, 115, 28, 182, 0, 119, 172, 42, 180, 0, 12, 180, 0, 115, 182, 0, 124, 172, 3, 172] = true := by decide +kernel
theorem qd_g95 : qd_bs cX4_startAnew 0 [42, 180, 0, 12, 182, 0, 127, 42, 180, 0, 21, 42, 180, 0, 12, 182, 0, 130, 42, 180, 0, 21, 180, 0, 132, 172] = true := by decide +kernel
theorem qd_g96 : qd_bs cX4_pressFreeze 0 [42, 180, 0, 12, 180, 0, 60, 180, 0, 136, 3, 46, 60, 42, 180, 0, 12, 17, 15, 0, 27, 16, 14, 128, 182, 0, 139, 42, 180, 0, 21, 4, 181, 0, 143, 27, 172] = true := by decide +kernel
theorem qd_g97 : qd_bs cX4_letPass 0 [42, 180, 0, 21, 180, 0, 147, 62, 3, 54, 4, 3, 54, 5, 21, 4, 27, 162, 0, 86, 28, 153, 0, 14, 42, 180, 0, 21, 180, 0, 147, 29, 160, 0, 71, 42, 182, 0, 150] = true := by decide +kernel
theorem qd_g98 : qd_bs cX4_letPass 39 [153, 0, 9, 132, 5, 1, 167, 0, 45, 42, 180, 0, 21, 180, 0, 154, 154, 0, 14, 42, 180, 0, 21, 42, 180, 0, 12, 182, 0, 157, 42, 180, 0, 21, 182, 0, 160, 153, 0, 14] = true := by decide +kernel
theorem qd_g99 : qd_bs cX4_letPass 79 [42, 180, 0, 21, 42, 180, 0, 12, 182, 0, 163, 42, 180, 0, 12, 182, 0, 166, 132, 4, 1, 167, 255, 170, 42, 89, 180, 0, 52, 21, 5, 133, 97, 181, 0, 52, 28, 153, 0, 8] = true := by decide +kernel
theorem qd_g100 : qd_bs cX4_letPass 119 [21, 4, 167, 0, 5, 21, 5, 172] = true := by decide +kernel
theorem qd_g101 : qd_bs cX4_passPicture 0 [42, 180, 0, 12, 182, 0, 169, 42, 180, 0, 12, 182, 0, 172, 60, 42, 180, 0, 12, 42, 180, 0, 32, 182, 0, 175, 42, 180, 0, 12, 182, 0, 179, 42, 180, 0, 12, 182, 0, 182] = true := by decide +kernel
theorem qd_g102 : qd_bs cX4_passPicture 40 [42, 180, 0, 12, 182, 0, 185, 16, 23, 160, 0, 30, 42, 180, 0, 28, 42, 180, 0, 12, 180, 0, 60, 180, 0, 136, 42, 180, 0, 12, 182, 0, 188, 16, 24, 108, 182, 0, 191, 27] = true := by decide +kernel
theorem qd_g103 : qd_bs cX4_passPicture 80 [172] = true := by decide +kernel
theorem qd_g104 : qd_bs cX5_describe 0 [43, 28, 182, 0, 9, 62, 29, 184, 0, 15, 54, 4, 43, 28, 4, 96, 17, 15, 255, 126, 182, 0, 9, 54, 5, 42, 3, 182, 0, 20, 42, 28, 182, 0, 26, 87, 42, 16, 32] = true := by decide +kernel
theorem qd_g105 : qd_bs cX5_describe 39 [182, 0, 30, 87, 42, 29, 184, 0, 33, 21, 4, 4, 160, 0, 4, 177, 29, 184, 0, 37, 153, 0, 22, 42, 16, 32, 182, 0, 30, 87, 42, 28, 21, 5, 184, 0, 41, 182, 0, 26] = true := by decide +kernel
theorem qd_g106 : qd_bs cX5_describe 79 [87, 177, 21, 4, 5, 160, 0, 8, 21, 5, 167, 0, 10, 43, 28, 4, 96, 182, 0, 45, 54, 6, 42, 29, 184, 0, 48, 21, 6, 184, 0, 53, 177] = true := by decide +kernel
theorem qd_g107 : qd_bs cX5_layoutOf 0 [26, 184, 0, 57, 155, 0, 8, 26, 16, 7, 126, 172, 26, 17, 0, 159, 160, 0, 8, 16, 8, 167, 0, 4, 6, 172] = true := by decide +kernel
theorem qd_g108 : qd_bs cX5_appendOperand 0 [42, 16, 32, 182, 0, 30, 87, 27, 154, 0, 13, 42, 16, 35, 182, 0, 30, 87, 167, 0, 16, 27, 16, 6, 161, 0, 10, 42, 16, 40, 182, 0, 30, 87, 42, 28, 182, 0, 26, 87] = true := by decide +kernel
theorem qd_g109 : qd_bs cX5_appendOperand 40 [27] = true := by decide +kernel
theorem dX5_appendOperand_41 : decode cX5_appendOperand 41 = .ok (.tableswitch 93 2 8 #[43, 93, 43, 53, 63, 73, 83], 43) := by decide +kernel
theorem qd_g110 : qd_bs cX5_appendOperand 84 [42, 18, 60, 182, 0, 62, 87, 167, 0, 43, 42, 18, 65, 182, 0, 62, 87, 167, 0, 33, 42, 18, 67, 182, 0, 62, 87, 167, 0, 23, 42, 18, 69, 182, 0, 62, 87, 167, 0, 13] = true := by decide +kernel
theorem qd_g111 : qd_bs cX5_appendOperand 124 [42, 16, 41, 182, 0, 30, 87, 167, 0, 3, 177] = true := by decide +kernel
theorem qd_g112 : qd_bs cX6_init 0 [42, 183, 0, 3, 42, 17, 0, 255, 181, 0, 9, 42, 7, 181, 0, 15, 42, 16, 16] = true := by decide +kernel
theorem dX6_init_19 : decode cX6_init 19 = .ok (.newarray .int, 2) := by decide +kernel
theorem qd_g113 : qd_bs cX6_init 21 [181, 0, 18, 177] = true := by decide +kernel
theorem qd_g114 : qd_bs cX6_become 0 [42, 43, 180, 0, 22, 181, 0, 22, 42, 43, 180, 0, 25, 181, 0, 25, 42, 43, 180, 0, 28, 181, 0, 28, 42, 43, 180, 0, 9, 181, 0, 9, 42, 43, 180, 0, 31, 181, 0, 31] = true := by decide +kernel
theorem qd_g115 : qd_bs cX6_become 40 [42, 43, 180, 0, 15, 181, 0, 15, 42, 43, 180, 0, 34, 181, 0, 34, 42, 43, 180, 0, 38, 181, 0, 38, 42, 43, 180, 0, 41, 181, 0, 41, 42, 43, 180, 0, 44, 181, 0, 44] = true := by decide +kernel
theorem qd_g116 : qd_bs cX6_become 80 [42, 43, 180, 0, 47, 181, 0, 47, 42, 43, 180, 0, 50, 181, 0, 50, 43, 180, 0, 18, 3, 42, 180, 0, 18, 3, 16, 16, 184, 0, 53, 177] = true := by decide +kernel
theorem qd_g117 : qd_bs cX6_isLike 0 [42, 180, 0, 22, 43, 180, 0, 22, 160, 0, 62, 42, 180, 0, 25, 43, 180, 0, 25, 160, 0, 51, 42, 180, 0, 28, 43, 180, 0, 28, 160, 0, 40, 42, 180, 0, 9, 43] = true := by decide +kernel
theorem qd_g118 : qd_bs cX6_isLike 38 [180, 0, 9, 160, 0, 29, 42, 180, 0, 31, 43, 180, 0, 31, 160, 0, 18, 42, 180, 0, 15, 43, 180, 0, 15, 160, 0, 7, 4, 167, 0, 4, 3, 172] = true := by decide +kernel
theorem qd_g119 : qd_bs cX6_registerOf 0 [27] = true := by decide +kernel
theorem dX6_registerOf_1 : decode cX6_registerOf 1 = .ok (.tableswitch 51 0 3 #[31, 36, 41, 46], 31) := by decide +kernel
theorem qd_g120 : qd_bs cX6_registerOf 32 [42, 180, 0, 22, 172, 42, 180, 0, 25, 172, 42, 180, 0, 28, 172, 42, 180, 0, 9, 172, 42, 180, 0, 31, 172] = true := by decide +kernel
theorem qd_g121 : qd_bs cX6_exchange 0 [42, 27, 182, 0, 59, 62, 27] = true := by decide +kernel
theorem dX6_exchange_7 : decode cX6_exchange 7 = .ok (.tableswitch 61 0 3 #[29, 37, 45, 53], 29) := by decide +kernel
theorem qd_g122 : qd_bs cX6_exchange 36 [42, 28, 181, 0, 22, 167, 0, 32, 42, 28, 181, 0, 25, 167, 0, 24, 42, 28, 181, 0, 28, 167, 0, 16, 42, 28, 181, 0, 9, 167, 0, 8, 42, 28, 181, 0, 31, 29, 172] = true := by decide +kernel
theorem qd_g123 : qd_bs cX6_startAnew 0 [42, 3, 181, 0, 22, 42, 3, 181, 0, 25, 42, 3, 181, 0, 28, 42, 17, 0, 255, 181, 0, 9, 42, 7, 181, 0, 15, 42, 3, 181, 0, 34, 42, 3, 181, 0, 38, 42, 3] = true := by decide +kernel
theorem qd_g124 : qd_bs cX6_startAnew 39 [181, 0, 44, 42, 43, 17, 14, 252, 182, 0, 63, 181, 0, 31, 177] = true := by decide +kernel
theorem qd_g125 : qd_bs cX6_begin 0 [43, 180, 0, 68, 180, 0, 72, 16, 10, 46, 43, 180, 0, 68, 180, 0, 72, 16, 11, 46, 126, 153, 0, 7, 4, 167, 0, 4, 3, 61, 42, 180, 0, 38, 153, 0, 4, 177, 42] = true := by decide +kernel
theorem qd_g126 : qd_bs cX6_begin 39 [180, 0, 34, 153, 0, 24, 42, 3, 181, 0, 34, 42, 17, 14, 250, 181, 0, 41, 42, 16, 7, 181, 0, 44, 167, 0, 46, 28, 153, 0, 28, 42, 180, 0, 15, 7, 126, 154, 0, 19] = true := by decide +kernel
theorem qd_g127 : qd_bs cX6_begin 79 [42, 17, 14, 254, 181, 0, 41, 42, 16, 7, 181, 0, 44, 167, 0, 17, 42, 3, 181, 0, 41, 42, 42, 43, 182, 0, 77, 181, 0, 44, 177] = true := by decide +kernel
theorem qd_g128 : qd_bs cX6_cyclesAt 0 [43, 42, 180, 0, 31, 182, 0, 81, 61, 28, 184, 0, 84, 62, 28, 16, 7, 126, 54, 4, 28, 184, 0, 89, 153, 0, 18, 42, 28, 43, 42, 4, 182, 0, 93, 182, 0, 81] = true := by decide +kernel
theorem qd_g129 : qd_bs cX6_cyclesAt 38 [182, 0, 96, 172, 29, 156, 0, 8, 28, 184, 0, 100, 172, 21, 4, 154, 0, 5, 5, 172, 3, 54, 5, 21, 4, 7, 161, 0, 63, 21, 4, 16, 6, 163, 0, 56, 42, 43, 21, 4] = true := by decide +kernel
theorem qd_g130 : qd_bs cX6_cyclesAt 78 [182, 0, 103, 54, 6, 21, 6, 42, 21, 4, 182, 0, 107, 96, 17, 15, 255, 126, 54, 7, 29, 184, 0, 110, 154, 0, 18, 21, 7, 17, 1, 0, 108, 21, 6, 17, 1, 0, 108] = true := by decide +kernel
theorem qd_g131 : qd_bs cX6_cyclesAt 117 [159, 0, 7, 4, 167, 0, 4, 3, 54, 5, 21, 4, 184, 0, 113, 21, 5, 153, 0, 7, 4, 167, 0, 4, 3, 96, 29, 184, 0, 116, 153, 0, 7, 5, 167, 0, 4, 3, 96, 172] = true := by decide +kernel
theorem qd_g132 : qd_bs cX6_cyclesOfBranch 0 [42, 27, 182, 0, 119, 154, 0, 5, 5, 172, 42, 28, 182, 0, 122, 17, 1, 0, 108, 42, 5, 182, 0, 93, 17, 1, 0, 108, 160, 0, 7, 6, 167, 0, 4, 7, 172] = true := by decide +kernel
theorem qd_g133 : qd_bs cX6_targetOf 0 [42, 180, 0, 31, 27, 184, 0, 125, 172] = true := by decide +kernel
theorem qd_g134 : qd_bs cX6_behind 0 [42, 180, 0, 31, 27, 96, 17, 15, 255, 126, 172] = true := by decide +kernel
theorem qd_g135 : qd_bs cX6_isLastCycle 0 [42, 180, 0, 44, 154, 0, 5, 3, 172, 42, 89, 180, 0, 44, 4, 100, 181, 0, 44, 42, 180, 0, 44, 154, 0, 7, 4, 167, 0, 4, 3, 172] = true := by decide +kernel
theorem qd_g136 : qd_bs cX6_finish 0 [42, 89, 180, 0, 47, 4, 96, 181, 0, 47, 42, 180, 0, 41, 153, 0, 24, 42, 43, 42, 180, 0, 31, 42, 180, 0, 15, 16, 32, 128, 42, 180, 0, 41, 182, 0, 127, 177, 42] = true := by decide +kernel
theorem qd_g137 : qd_bs cX6_finish 39 [180, 0, 18, 42, 180, 0, 50, 16, 15, 126, 42, 180, 0, 31, 79, 42, 89, 180, 0, 50, 4, 96, 181, 0, 50, 43, 42, 180, 0, 31, 182, 0, 81, 61, 28, 184, 0, 84, 62, 28] = true := by decide +kernel
theorem qd_g138 : qd_bs cX6_finish 79 [16, 7, 126, 54, 4, 42, 28, 184, 0, 131, 182, 0, 93, 54, 5, 28, 17, 0, 154, 160, 0, 24, 42, 43, 21, 5, 42, 180, 0, 15, 16, 32, 128, 16, 16, 128, 17, 14, 254] = true := by decide +kernel
theorem qd_g139 : qd_bs cX6_finish 118 [182, 0, 127, 177, 29, 156, 0, 19, 28, 17, 0, 154, 162, 0, 12, 42, 43, 28, 182, 0, 134, 167, 0, 81, 29, 156, 0, 16, 42, 43, 28, 21, 5, 182, 0, 138, 54, 5] = true := by decide +kernel
theorem qd_g140 : qd_bs cX6_finish 156 [167, 0, 64, 21, 4, 154, 0, 20, 42, 29, 43, 42, 4, 182, 0, 93, 182, 0, 81, 182, 0, 142, 167, 0, 42, 29, 184, 0, 110, 153, 0, 19, 42, 43, 29, 42, 43, 21, 4] = true := by decide +kernel
theorem qd_g141 : qd_bs cX6_finish 195 [182, 0, 146, 182, 0, 149, 167, 0, 19, 42, 29, 43, 42, 43, 21, 4, 182, 0, 146, 182, 0, 153, 182, 0, 142, 42, 21, 5, 181, 0, 31, 177] = true := by decide +kernel
theorem qd_g142 : qd_bs cX6_indexOf 0 [27, 7, 160, 0, 8, 42, 180, 0, 25, 172, 27, 8, 159, 0, 9, 27, 16, 6, 160, 0, 10, 42, 180, 0, 28, 167, 0, 4, 3, 172] = true := by decide +kernel
theorem qd_g143 : qd_bs cX6_addressOf 0 [42, 43, 28, 182, 0, 103, 42, 28, 182, 0, 107, 96, 17, 15, 255, 126, 172] = true := by decide +kernel
theorem qd_g144 : qd_bs cX6_baseOf 0 [43, 42, 4, 182, 0, 93, 182, 0, 81, 62, 28, 4, 160, 0, 5, 29, 172, 28, 5, 160, 0, 14, 29, 42, 180, 0, 25, 96, 17, 0, 255, 126, 172, 28, 16, 6, 162, 0, 23, 29] = true := by decide +kernel
theorem qd_g145 : qd_bs cX6_baseOf 40 [17, 1, 0, 43, 42, 5, 182, 0, 93, 182, 0, 81, 104, 96, 17, 15, 255, 126, 172, 28, 16, 7, 160, 0, 16, 29, 42, 180, 0, 25, 96, 17, 0, 255, 126, 167, 0, 4, 29] = true := by decide +kernel
theorem qd_g146 : qd_bs cX6_baseOf 79 [54, 4, 43, 21, 4, 182, 0, 81, 17, 1, 0, 43, 21, 4, 4, 96, 17, 0, 255, 126, 182, 0, 81, 104, 96, 17, 15, 255, 126, 172] = true := by decide +kernel
theorem qd_g147 : qd_bs cX6_push 0 [43, 17, 1, 0, 42, 180, 0, 9, 96, 28, 182, 0, 156, 42, 42, 180, 0, 9, 4, 100, 17, 0, 255, 126, 181, 0, 9, 177] = true := by decide +kernel
theorem qd_g148 : qd_bs cX6_pull 0 [42, 42, 180, 0, 9, 4, 96, 17, 0, 255, 126, 181, 0, 9, 43, 180, 0, 68, 17, 1, 0, 42, 180, 0, 9, 96, 182, 0, 159, 172] = true := by decide +kernel
theorem qd_g149 : qd_bs cX6_interrupt 0 [42, 43, 28, 16, 8, 122, 182, 0, 162, 42, 43, 28, 17, 0, 255, 126, 182, 0, 162, 42, 43, 29, 182, 0, 162, 42, 89, 180, 0, 15, 7, 128, 181, 0, 15, 42, 43, 21, 4] = true := by decide +kernel
theorem qd_g150 : qd_bs cX6_interrupt 39 [182, 0, 63, 181, 0, 31, 177] = true := by decide +kernel
theorem qd_g151 : qd_bs cX6_setFlag 0 [42, 28, 153, 0, 12, 42, 180, 0, 15, 27, 128, 167, 0, 11, 42, 180, 0, 15, 27, 2, 130, 126, 181, 0, 15, 177] = true := by decide +kernel
theorem qd_g152 : qd_bs cX6_judge 0 [42, 42, 180, 0, 15, 17, 255, 125, 126, 27, 154, 0, 7, 5, 167, 0, 4, 3, 128, 27, 16, 127, 164, 0, 9, 17, 0, 128, 167, 0, 4, 3, 128, 181, 0, 15, 27, 172] = true := by decide +kernel
theorem qd_g153 : qd_bs cX6_match 0 [42, 4, 27, 28, 161, 0, 7, 4, 167, 0, 4, 3, 182, 0, 165, 42, 27, 28, 100, 17, 0, 255, 126, 182, 0, 169, 87, 177] = true := by decide +kernel
theorem qd_g154 : qd_bs cX6_calculate 0 [27] = true := by decide +kernel
theorem dX6_calculate_1 : decode cX6_calculate 1 = .ok (.tableswitch 315 0 20 #[99, 111, 123, 315, 315, 315, 135, 143, 151, 168, 185, 202, 214, 226, 315, 315, 238, 315, 315, 315, 255], 99) := by decide +kernel
theorem qd_g155 : qd_bs cX6_calculate 100 [42, 42, 28, 182, 0, 169, 181, 0, 22, 167, 0, 207, 42, 42, 28, 182, 0, 169, 181, 0, 25, 167, 0, 195, 42, 42, 28, 182, 0, 169, 181, 0, 28, 167, 0, 183, 42, 28] = true := by decide +kernel
theorem qd_g156 : qd_bs cX6_calculate 138 [182, 0, 172, 167, 0, 175, 42, 28, 182, 0, 176, 167, 0, 167, 42, 42, 42, 180, 0, 22, 28, 126, 182, 0, 169, 181, 0, 22, 167, 0, 150, 42, 42, 42, 180, 0, 22, 28, 128] = true := by decide +kernel
theorem qd_g157 : qd_bs cX6_calculate 177 [182, 0, 169, 181, 0, 22, 167, 0, 133, 42, 42, 42, 180, 0, 22, 28, 130, 182, 0, 169, 181, 0, 22, 167, 0, 116, 42, 42, 180, 0, 22, 28, 182, 0, 179, 167, 0, 104, 42, 42] = true := by decide +kernel
theorem qd_g158 : qd_bs cX6_calculate 217 [180, 0, 25, 28, 182, 0, 179, 167, 0, 92, 42, 42, 180, 0, 28, 28, 182, 0, 179, 167, 0, 80, 42, 42, 28, 182, 0, 169, 181, 0, 25, 42, 28, 181, 0, 22, 167, 0, 63, 42] = true := by decide +kernel
theorem qd_g159 : qd_bs cX6_calculate 257 [5, 42, 180, 0, 22, 28, 126, 154, 0, 7, 4, 167, 0, 4, 3, 182, 0, 165, 42, 17, 0, 128, 28, 17, 0, 128, 126, 153, 0, 7, 4, 167, 0, 4, 3, 182, 0, 165, 42] = true := by decide +kernel
theorem qd_g160 : qd_bs cX6_calculate 296 [16, 64, 28, 16, 64, 126, 153, 0, 7, 4, 167, 0, 4, 3, 182, 0, 165, 167, 0, 3, 177] = true := by decide +kernel
theorem qd_g161 : qd_bs cX6_store 0 [28] = true := by decide +kernel
theorem dX6_store_1 : decode cX6_store 1 = .ok (.lookupswitch 88 #[(3, 43), (4, 53), (5, 63), (17, 73)], 43) := by decide +kernel
theorem qd_g162 : qd_bs cX6_store 44 [43, 29, 42, 180, 0, 22, 182, 0, 156, 177, 43, 29, 42, 180, 0, 25, 182, 0, 156, 177, 43, 29, 42, 180, 0, 28, 182, 0, 156, 177, 43, 29, 42, 180, 0, 22, 42, 180, 0, 25] = true := by decide +kernel
theorem qd_g163 : qd_bs cX6_store 84 [126, 182, 0, 156, 177, 28, 16, 14, 159, 0, 9, 28, 16, 19, 160, 0, 7, 4, 167, 0, 4, 2, 54, 4, 43, 29, 182, 0, 153, 21, 4, 96, 17, 0, 255, 126, 54, 5, 43, 29] = true := by decide +kernel
theorem qd_g164 : qd_bs cX6_store 124 [21, 5, 182, 0, 156, 28, 16, 18, 160, 0, 16, 42, 42, 180, 0, 22, 21, 5, 182, 0, 179, 167, 0, 25, 28, 16, 19, 160, 0, 12, 42, 21, 5, 182, 0, 176, 167, 0, 10, 42] = true := by decide +kernel
theorem qd_g165 : qd_bs cX6_store 164 [21, 5, 182, 0, 169, 87, 177] = true := by decide +kernel
theorem qd_g166 : qd_bs cX6_add 0 [42, 180, 0, 15, 4, 126, 61, 42, 180, 0, 22, 16, 16, 112, 27, 16, 16, 112, 96, 28, 96, 62, 42, 180, 0, 22, 16, 16, 108, 27, 16, 16, 108, 96, 54, 4, 42, 27] = true := by decide +kernel
theorem qd_g167 : qd_bs cX6_add 38 [182, 0, 182, 42, 180, 0, 15, 16, 8, 126, 154, 0, 4, 177, 29, 16, 9, 164, 0, 9, 132, 3, 246, 132, 4, 1, 42, 4, 21, 4, 16, 9, 164, 0, 7, 4, 167, 0, 4, 3] = true := by decide +kernel
theorem qd_g168 : qd_bs cX6_add 78 [182, 0, 165, 21, 4, 16, 9, 164, 0, 6, 132, 4, 246, 42, 42, 16, 16, 21, 4, 104, 29, 96, 17, 0, 255, 126, 182, 0, 169, 181, 0, 22, 177] = true := by decide +kernel
theorem qd_g169 : qd_bs cX6_subtract 0 [42, 180, 0, 15, 4, 126, 61, 42, 180, 0, 22, 16, 16, 112, 27, 16, 16, 112, 100, 4, 100, 28, 96, 62, 42, 180, 0, 22, 16, 16, 108, 27, 16, 16, 108, 100, 54, 4, 42] = true := by decide +kernel
theorem qd_g170 : qd_bs cX6_subtract 39 [17, 0, 255, 27, 100, 182, 0, 182, 42, 180, 0, 15, 16, 8, 126, 154, 0, 4, 177, 29, 156, 0, 9, 132, 3, 10, 132, 4, 255, 42, 4, 21, 4, 155, 0, 7, 4, 167, 0, 4] = true := by decide +kernel
theorem qd_g171 : qd_bs cX6_subtract 79 [3, 182, 0, 165, 21, 4, 156, 0, 6, 132, 4, 10, 42, 42, 16, 16, 21, 4, 104, 29, 96, 17, 0, 255, 126, 182, 0, 169, 181, 0, 22, 177] = true := by decide +kernel
theorem qd_g172 : qd_bs cX6_addBinary 0 [42, 180, 0, 22, 27, 96, 42, 180, 0, 15, 4, 126, 96, 61, 42, 16, 64, 42, 180, 0, 22, 28, 130, 27, 28, 130, 126, 17, 0, 128, 126, 153, 0, 7, 4, 167, 0, 4, 3] = true := by decide +kernel
theorem qd_g173 : qd_bs cX6_addBinary 39 [182, 0, 165, 42, 4, 28, 17, 0, 255, 164, 0, 7, 4, 167, 0, 4, 3, 182, 0, 165, 42, 42, 28, 17, 0, 255, 126, 182, 0, 169, 181, 0, 22, 177] = true := by decide +kernel
theorem qd_g174 : qd_bs cX6_doPlain 0 [28, 17, 0, 137, 163, 0, 11, 42, 28, 182, 0, 185, 167, 0, 127, 28, 17, 0, 142, 161, 0, 18, 28, 17, 0, 148, 163, 0, 11, 42, 28, 182, 0, 188, 167, 0, 105, 28] = true := by decide +kernel
theorem qd_g175 : qd_bs cX6_doPlain 38 [17, 0, 150, 161, 0, 11, 42, 28, 182, 0, 191, 167, 0, 90, 28, 17, 0, 138, 160, 0, 15, 42, 43, 42, 180, 0, 22, 182, 0, 162, 167, 0, 71, 28, 17, 0, 139, 160, 0, 19] = true := by decide +kernel
theorem qd_g176 : qd_bs cX6_doPlain 78 [42, 42, 42, 43, 182, 0, 194, 182, 0, 169, 181, 0, 22, 167, 0, 48, 28, 17, 0, 140, 160, 0, 21, 42, 43, 42, 180, 0, 15, 16, 32, 128, 16, 16, 128, 182, 0, 162] = true := by decide +kernel
theorem qd_g177 : qd_bs cX6_doPlain 116 [167, 0, 23, 28, 17, 0, 141, 160, 0, 16, 42, 42, 43, 182, 0, 194, 17, 0, 207, 126, 181, 0, 15, 177] = true := by decide +kernel
theorem qd_g178 : qd_bs cX6_jump 0 [28] = true := by decide +kernel
theorem dX6_jump_1 : decode cX6_jump 1 = .ok (.tableswitch 123 155 159 #[35, 54, 66, 73, 111], 35) := by decide +kernel
theorem qd_g179 : qd_bs cX6_jump 36 [42, 42, 43, 182, 0, 194, 17, 0, 207, 126, 181, 0, 15, 42, 43, 182, 0, 197, 172, 42, 43, 182, 0, 197, 4, 96, 17, 15, 255, 126, 172, 42, 43, 6, 182, 0, 103, 172, 42, 43] = true := by decide +kernel
theorem qd_g180 : qd_bs cX6_jump 76 [6, 182, 0, 103, 54, 4, 42, 43, 42, 5, 182, 0, 93, 16, 8, 122, 182, 0, 162, 42, 43, 42, 5, 182, 0, 93, 17, 0, 255, 126, 182, 0, 162, 21, 4, 172, 42, 43, 42, 43] = true := by decide +kernel
theorem qd_g181 : qd_bs cX6_jump 116 [6, 182, 0, 103, 182, 0, 200, 172, 28, 184, 0, 89, 153, 0, 29, 42, 28, 182, 0, 119, 153, 0, 19, 42, 43, 42, 4, 182, 0, 93, 182, 0, 81, 182, 0, 122, 167, 0, 4, 29] = true := by decide +kernel
theorem qd_g182 : qd_bs cX6_jump 156 [172, 42, 4, 181, 0, 38, 42, 180, 0, 31, 172] = true := by decide +kernel
theorem qd_g183 : qd_bs cX6_wordInPage 0 [28, 17, 1, 0, 108, 17, 1, 0, 104, 28, 4, 96, 17, 0, 255, 126, 96, 62, 43, 28, 182, 0, 81, 17, 1, 0, 43, 29, 182, 0, 81, 104, 96, 17, 15, 255, 126, 172] = true := by decide +kernel
theorem qd_g184 : qd_bs cX6_pullWord 0 [42, 43, 182, 0, 194, 61, 28, 17, 1, 0, 42, 43, 182, 0, 194, 104, 96, 17, 15, 255, 126, 172] = true := by decide +kernel
theorem qd_g185 : qd_bs cX6_isTaken 0 [27] = true := by decide +kernel
theorem dX6_isTaken_1 : decode cX6_isTaken 1 = .ok (.tableswitch 153 160 166 #[43, 58, 73, 88, 103, 120, 137], 43) := by decide +kernel
theorem qd_g186 : qd_bs cX6_isTaken 44 [42, 180, 0, 15, 5, 126, 154, 0, 7, 4, 167, 0, 4, 3, 172, 42, 180, 0, 15, 5, 126, 153, 0, 7, 4, 167, 0, 4, 3, 172, 42, 180, 0, 15, 4, 126, 154, 0, 7, 4] = true := by decide +kernel
theorem qd_g187 : qd_bs cX6_isTaken 84 [167, 0, 4, 3, 172, 42, 180, 0, 15, 4, 126, 153, 0, 7, 4, 167, 0, 4, 3, 172, 42, 180, 0, 15, 17, 0, 128, 126, 154, 0, 7, 4, 167, 0, 4, 3, 172, 42] = true := by decide +kernel
theorem qd_g188 : qd_bs cX6_isTaken 122 [180, 0, 15, 17, 0, 128, 126, 153, 0, 7, 4, 167, 0, 4, 3, 172, 42, 180, 0, 15, 16, 64, 126, 154, 0, 7, 4, 167, 0, 4, 3, 172, 42, 180, 0, 15, 16, 64, 126] = true := by decide +kernel
theorem qd_g189 : qd_bs cX6_isTaken 161 [153, 0, 7, 4, 167, 0, 4, 3, 172] = true := by decide +kernel
theorem qd_g190 : qd_bs cX6_move 0 [27] = true := by decide +kernel
theorem dX6_move_1 : decode cX6_move 1 = .ok (.tableswitch 210 128 136 #[51, 72, 93, 114, 135, 150, 165, 180, 195], 51) := by decide +kernel
theorem qd_g191 : qd_bs cX6_move 52 [42, 42, 42, 180, 0, 25, 4, 96, 17, 0, 255, 126, 182, 0, 169, 181, 0, 25, 167, 0, 149, 42, 42, 42, 180, 0, 25, 4, 100, 17, 0, 255, 126, 182, 0, 169, 181, 0, 25] = true := by decide +kernel
theorem qd_g192 : qd_bs cX6_move 91 [167, 0, 128, 42, 42, 42, 180, 0, 28, 4, 96, 17, 0, 255, 126, 182, 0, 169, 181, 0, 28, 167, 0, 107, 42, 42, 42, 180, 0, 28, 4, 100, 17, 0, 255, 126, 182, 0, 169] = true := by decide +kernel
theorem qd_g193 : qd_bs cX6_move 130 [181, 0, 28, 167, 0, 86, 42, 42, 42, 180, 0, 22, 182, 0, 169, 181, 0, 25, 167, 0, 71, 42, 42, 42, 180, 0, 25, 182, 0, 169, 181, 0, 22, 167, 0, 56, 42, 42, 42] = true := by decide +kernel
theorem qd_g194 : qd_bs cX6_move 169 [180, 0, 22, 182, 0, 169, 181, 0, 28, 167, 0, 41, 42, 42, 42, 180, 0, 28, 182, 0, 169, 181, 0, 22, 167, 0, 26, 42, 42, 42, 180, 0, 9, 182, 0, 169, 181, 0, 25] = true := by decide +kernel
theorem qd_g195 : qd_bs cX6_move 208 [167, 0, 11, 42, 42, 180, 0, 25, 181, 0, 9, 177] = true := by decide +kernel
theorem qd_g196 : qd_bs cX6_changeFlag 0 [27] = true := by decide +kernel
theorem dX6_changeFlag_1 : decode cX6_changeFlag 1 = .ok (.tableswitch 95 142 147 #[39, 48, 57, 67, 77, 86], 39) := by decide +kernel
theorem qd_g197 : qd_bs cX6_changeFlag 40 [42, 4, 4, 182, 0, 165, 167, 0, 57, 42, 4, 3, 182, 0, 165, 167, 0, 48, 42, 16, 8, 4, 182, 0, 165, 167, 0, 38, 42, 16, 8, 3, 182, 0, 165, 167, 0, 28, 42, 7] = true := by decide +kernel
theorem qd_g198 : qd_bs cX6_changeFlag 80 [4, 182, 0, 165, 167, 0, 19, 42, 7, 3, 182, 0, 165, 167, 0, 10, 42, 16, 64, 3, 182, 0, 165, 177] = true := by decide +kernel
theorem qd_g199 : qd_bs cX6_shift 0 [42, 180, 0, 15, 4, 126, 61, 27] = true := by decide +kernel
theorem dX6_shift_8 : decode cX6_shift 8 = .ok (.tableswitch 147 150 152 #[28, 68, 105], 28) := by decide +kernel
theorem qd_g200 : qd_bs cX6_shift 36 [42, 4, 42, 180, 0, 22, 16, 127, 164, 0, 7, 4, 167, 0, 4, 3, 182, 0, 165, 42, 42, 5, 42, 180, 0, 22, 104, 17, 0, 255, 126, 182, 0, 169, 181, 0, 22, 167, 0, 122] = true := by decide +kernel
theorem qd_g201 : qd_bs cX6_shift 76 [42, 4, 42, 180, 0, 22, 5, 112, 4, 160, 0, 7, 4, 167, 0, 4, 3, 182, 0, 165, 42, 42, 42, 180, 0, 22, 5, 108, 182, 0, 169, 181, 0, 22, 167, 0, 85, 42, 4, 42] = true := by decide +kernel
theorem qd_g202 : qd_bs cX6_shift 116 [180, 0, 22, 16, 127, 164, 0, 7, 4, 167, 0, 4, 3, 182, 0, 165, 42, 42, 5, 42, 180, 0, 22, 104, 28, 96, 17, 0, 255, 126, 182, 0, 169, 181, 0, 22, 167, 0, 43, 42] = true := by decide +kernel
theorem qd_g203 : qd_bs cX6_shift 156 [4, 42, 180, 0, 22, 5, 112, 4, 160, 0, 7, 4, 167, 0, 4, 3, 182, 0, 165, 42, 42, 42, 180, 0, 22, 5, 108, 17, 0, 128, 28, 104, 96, 182, 0, 169, 181, 0, 22, 177] = true := by decide +kernel
theorem qd_g204 : qd_bs cX7_init 0 [42, 183, 0, 3, 42, 187, 0, 9, 89, 183, 0, 11, 181, 0, 12, 42, 17, 2, 0] = true := by decide +kernel
theorem dX7_init_19 : decode cX7_init 19 = .ok (.newarray .int, 2) := by decide +kernel
theorem qd_g205 : qd_bs cX7_init 21 [181, 0, 18, 42, 17, 2, 0] = true := by decide +kernel
theorem dX7_init_28 : decode cX7_init 28 = .ok (.newarray .int, 2) := by decide +kernel
theorem qd_g206 : qd_bs cX7_init 30 [181, 0, 22, 42, 17, 2, 0] = true := by decide +kernel
theorem dX7_init_37 : decode cX7_init 37 = .ok (.newarray .int, 2) := by decide +kernel
theorem qd_g207 : qd_bs cX7_init 39 [181, 0, 25, 42, 17, 2, 0] = true := by decide +kernel
theorem dX7_init_46 : decode cX7_init 46 = .ok (.newarray .int, 2) := by decide +kernel
theorem qd_g208 : qd_bs cX7_init 48 [181, 0, 28, 177] = true := by decide +kernel
theorem qd_g209 : qd_bs cX7_begin 0 [42, 180, 0, 12, 43, 182, 0, 31, 42, 3, 181, 0, 35, 42, 3, 181, 0, 39, 42, 4, 181, 0, 42, 177] = true := by decide +kernel
theorem qd_g210 : qd_bs cX7_keep 0 [42, 180, 0, 42, 153, 0, 71, 42, 180, 0, 35, 155, 0, 64, 42, 180, 0, 35, 17, 2, 0, 162, 0, 54, 42, 180, 0, 18, 42, 180, 0, 35, 27, 79, 42, 180, 0, 22, 42] = true := by decide +kernel
theorem qd_g211 : qd_bs cX7_keep 39 [180, 0, 35, 28, 79, 42, 180, 0, 25, 42, 180, 0, 35, 29, 79, 42, 180, 0, 28, 42, 180, 0, 35, 21, 4, 79, 42, 89, 180, 0, 35, 4, 96, 181, 0, 35, 177] = true := by decide +kernel
theorem qd_g212 : qd_bs cX8_init 0 [42, 183, 0, 3, 42, 17, 16, 0] = true := by decide +kernel
theorem dX8_init_8 : decode cX8_init 8 = .ok (.newarray .int, 2) := by decide +kernel
theorem qd_g213 : qd_bs cX8_init 10 [181, 0, 9, 42, 16, 48] = true := by decide +kernel
theorem dX8_init_16 : decode cX8_init 16 = .ok (.newarray .int, 2) := by decide +kernel
theorem qd_g214 : qd_bs cX8_init 18 [181, 0, 15, 177] = true := by decide +kernel
theorem qd_g215 : qd_bs cX8_become 0 [43, 180, 0, 9, 3, 42, 180, 0, 9, 3, 17, 16, 0, 184, 0, 18, 43, 180, 0, 15, 3, 42, 180, 0, 15, 3, 16, 48, 184, 0, 18, 177] = true := by decide +kernel
theorem qd_g216 : qd_bs cX8_bytesUnlike 0 [3, 61, 3, 62, 29, 17, 16, 0, 162, 0, 27, 42, 180, 0, 9, 29, 46, 43, 180, 0, 9, 29, 46, 159, 0, 6, 132, 2, 1, 132, 3, 1, 167, 255, 228, 28, 172] = true := by decide +kernel
theorem qd_g217 : qd_bs cX8_put 0 [27, 17, 15, 0, 100, 62, 29, 155, 0, 9, 29, 16, 48, 161, 0, 21, 42, 180, 0, 9, 27, 17, 15, 255, 126, 28, 17, 0, 255, 126, 79, 167, 0, 24, 178, 0, 24, 29, 46] = true := by decide +kernel
theorem qd_g218 : qd_bs cX8_put 39 [153, 0, 16, 42, 180, 0, 15, 29, 28, 178, 0, 24, 29, 46, 126, 79, 177] = true := by decide +kernel
theorem qd_g219 : qd_bs cX8_clearRegisters 0 [42, 180, 0, 15, 3, 184, 0, 27, 177] = true := by decide +kernel
theorem qd_g220 : qd_bs cX8_scrollLeft 0 [42, 180, 0, 15, 5, 46, 6, 126, 172] = true := by decide +kernel
theorem qd_g221 : qd_bs cX8_scrollUp 0 [42, 180, 0, 15, 5, 46, 5, 122, 172] = true := by decide +kernel
theorem qd_g222 : qd_bs cX8_takesCycle 0 [27, 155, 0, 21, 27, 16, 32, 162, 0, 15, 28, 16, 8, 161, 0, 11, 28, 16, 20, 162, 0, 5, 3, 172, 28, 16, 20, 161, 0, 13, 42, 28, 16, 20, 100, 27, 182, 0, 33, 172] = true := by decide +kernel
theorem qd_g223 : qd_bs cX8_takesCycle 40 [42, 180, 0, 15, 4, 46, 154, 0, 21, 27, 42, 182, 0, 37, 96, 16, 8, 112, 154, 0, 7, 4, 167, 0, 4, 3, 172, 42, 180, 0, 15, 4, 46, 6, 159, 0, 12, 28, 7] = true := by decide +kernel
theorem qd_g224 : qd_bs cX8_takesCycle 79 [162, 0, 7, 4, 167, 0, 4, 3, 172] = true := by decide +kernel
theorem qd_g225 : qd_bs cX8_isAmongRows 0 [27, 6, 126, 62, 42, 180, 0, 15, 16, 24, 29, 96, 46, 54, 4, 16, 8, 42, 16, 18, 29, 182, 0, 41, 120, 54, 5, 42, 16, 17, 29, 182, 0, 41, 4, 160, 0, 22, 28] = true := by decide +kernel
theorem qd_g226 : qd_bs cX8_isAmongRows 39 [21, 4, 161, 0, 16, 28, 21, 4, 21, 5, 96, 162, 0, 7, 4, 167, 0, 4, 3, 172] = true := by decide +kernel
theorem qd_g227 : qd_bs cX8_bitOf 0 [27, 155, 0, 22, 27, 16, 48, 162, 0, 16, 42, 180, 0, 15, 27, 46, 28, 122, 4, 126, 167, 0, 4, 3, 172] = true := by decide +kernel
theorem qd_g228 : qd_bs cX8_valueAt 0 [27, 42, 182, 0, 45, 96, 16, 32, 112, 62, 28, 42, 182, 0, 37, 96, 16, 32, 112, 54, 4, 17, 1, 0, 42, 180, 0, 15, 16, 7, 46, 104, 54, 5, 42, 21, 5, 7, 21, 4] = true := by decide +kernel
theorem qd_g229 : qd_bs cX8_valueAt 40 [104, 96, 29, 16, 8, 108, 96, 182, 0, 48, 54, 6, 42, 180, 0, 15, 4, 46] = true := by decide +kernel
theorem dX8_valueAt_58 : decode cX8_valueAt 58 = .ok (.tableswitch 113 0 2 #[26, 83, 96], 26) := by decide +kernel
theorem qd_g230 : qd_bs cX8_valueAt 84 [42, 21, 5, 16, 8, 21, 4, 16, 8, 108, 104, 96, 29, 7, 108, 96, 182, 0, 48, 54, 7, 42, 17, 1, 0, 42, 180, 0, 15, 16, 8, 46, 104, 16, 8, 21, 7, 104, 96] = true := by decide +kernel
theorem qd_g231 : qd_bs cX8_valueAt 123 [21, 4, 16, 8, 112, 96, 182, 0, 48, 6, 29, 7, 112, 100, 122, 4, 126, 172, 21, 6, 16, 7, 29, 16, 8, 112, 100, 122, 4, 126, 172, 21, 6, 16, 6, 5, 29, 16, 8, 112] = true := by decide +kernel
theorem qd_g232 : qd_bs cX8_valueAt 163 [5, 108, 104, 100, 122, 6, 126, 172, 3, 172] = true := by decide +kernel
theorem qd_g233 : qd_bs cX8_byteAt 0 [42, 180, 0, 9, 27, 17, 15, 255, 126, 46, 172] = true := by decide +kernel
theorem qd_g234 : qd_bs cX8_isSolid 0 [42, 180, 0, 15, 4, 46, 5, 160, 0, 16, 27, 5, 161, 0, 7, 4, 167, 0, 17, 3, 167, 0, 13, 27, 4, 160, 0, 7, 4, 167, 0, 4, 3, 172] = true := by decide +kernel
theorem qd_g235 : qd_bs cX8_spritesAt 0 [3, 62, 3, 54, 4, 21, 4, 7, 162, 0, 135, 42, 16, 18, 21, 4, 182, 0, 41, 54, 5, 27, 42, 180, 0, 15, 16, 20, 21, 4, 96, 46, 100, 21, 5, 122, 54, 6, 28, 42] = true := by decide +kernel
theorem qd_g236 : qd_bs cX8_spritesAt 40 [180, 0, 15, 16, 24, 21, 4, 96, 46, 100, 21, 5, 122, 54, 7, 42, 16, 17, 21, 4, 182, 0, 41, 4, 160, 0, 73, 21, 6, 155, 0, 68, 21, 6, 16, 8, 162, 0, 61] = true := by decide +kernel
theorem qd_g237 : qd_bs cX8_spritesAt 79 [21, 7, 155, 0, 56, 21, 7, 16, 8, 162, 0, 49, 42, 17, 1, 0, 42, 180, 0, 15, 16, 7, 46, 104, 17, 0, 128, 96, 16, 8, 21, 4, 104, 96, 21, 7, 96, 182, 0, 48] = true := by decide +kernel
theorem qd_g238 : qd_bs cX8_spritesAt 119 [54, 8, 29, 21, 8, 16, 7, 21, 6, 100, 122, 4, 126, 21, 4, 120, 128, 62, 132, 4, 1, 167, 255, 121, 29, 172] = true := by decide +kernel
theorem qd_g239 : qd_bs cX8_colourOf 0 [3, 62, 29, 7, 162, 0, 75, 28, 29, 122, 4, 126, 4, 160, 0, 60, 42, 16, 19, 29, 182, 0, 41, 4, 160, 0, 15, 42, 27, 182, 0, 52, 153, 0, 7, 4, 167, 0, 4, 3] = true := by decide +kernel
theorem qd_g240 : qd_bs cX8_colourOf 40 [54, 4, 21, 4, 153, 0, 16, 42, 180, 0, 15, 6, 27, 6, 126, 96, 46, 167, 0, 15, 42, 180, 0, 15, 16, 28, 46, 29, 96, 16, 16, 112, 172, 132, 3, 1, 167, 255, 182, 42] = true := by decide +kernel
theorem qd_g241 : qd_bs cX8_colourOf 80 [180, 0, 15, 6, 27, 6, 126, 96, 46, 172] = true := by decide +kernel
theorem qd_g242 : qd_bs cX8_noteHits 0 [28, 184, 0, 56, 4, 164, 0, 14, 42, 180, 0, 15, 16, 29, 92, 46, 28, 128, 79, 42, 27, 182, 0, 52, 153, 0, 14, 42, 180, 0, 15, 16, 30, 92, 46, 28, 128, 79, 177] = true := by decide +kernel
theorem qd_g243 : qd_bs cX9_init 0 [42, 183, 0, 3, 42, 16, 40] = true := by decide +kernel
theorem dX9_init_7 : decode cX9_init 7 = .ok (.newarray .int, 2) := by decide +kernel
theorem qd_g244 : qd_bs cX9_init 9 [181, 0, 9, 177] = true := by decide +kernel
theorem qd_g245 : qd_bs cX9_become 0 [43, 180, 0, 9, 3, 42, 180, 0, 9, 3, 16, 40, 184, 0, 15, 42, 43, 180, 0, 21, 181, 0, 21, 42, 43, 180, 0, 25, 181, 0, 25, 42, 43, 180, 0, 28, 181, 0, 28, 42] = true := by decide +kernel
theorem qd_g246 : qd_bs cX9_become 40 [43, 180, 0, 31, 181, 0, 31, 177] = true := by decide +kernel
theorem qd_g247 : qd_bs cX9_add 0 [42, 180, 0, 21, 155, 0, 32, 42, 180, 0, 21, 16, 40, 162, 0, 23, 42, 180, 0, 9, 42, 180, 0, 21, 27, 79, 42, 89, 180, 0, 21, 4, 96, 181, 0, 21, 42, 180, 0, 21] = true := by decide +kernel
theorem qd_g248 : qd_bs cX9_add 40 [172] = true := by decide +kernel
theorem qd_g249 : qd_bs cX9_windBack 0 [42, 180, 0, 25, 60, 42, 3, 181, 0, 25, 42, 3, 181, 0, 28, 27, 172] = true := by decide +kernel
theorem qd_g250 : qd_bs cX9_isPulseOver 0 [42, 180, 0, 25, 155, 0, 23, 42, 180, 0, 25, 42, 180, 0, 21, 162, 0, 12, 42, 180, 0, 25, 16, 40, 161, 0, 5, 3, 172, 42, 89, 180, 0, 28, 4, 96, 181, 0, 28, 42] = true := by decide +kernel
theorem qd_g251 : qd_bs cX9_isPulseOver 40 [180, 0, 28, 42, 180, 0, 9, 42, 180, 0, 25, 46, 162, 0, 5, 3, 172, 42, 3, 181, 0, 28, 42, 89, 180, 0, 25, 4, 96, 181, 0, 25, 42, 4, 42, 180, 0, 31, 100] = true := by decide +kernel
theorem qd_g252 : qd_bs cX9_isPulseOver 79 [181, 0, 31, 4, 172] = true := by decide +kernel
theorem qd_g253 : qd_bs cX10_init 0 [42, 183, 0, 3, 42, 6] = true := by decide +kernel
theorem dX10_init_6 : decode cX10_init 6 = .ok (.newarray .int, 2) := by decide +kernel
theorem qd_g254 : qd_bs cX10_init 8 [181, 0, 11, 42, 6] = true := by decide +kernel
theorem dX10_init_13 : decode cX10_init 13 = .ok (.newarray .int, 2) := by decide +kernel
theorem qd_g255 : qd_bs cX10_init 15 [181, 0, 15, 42, 6] = true := by decide +kernel
theorem dX10_init_20 : decode cX10_init 20 = .ok (.newarray .int, 2) := by decide +kernel
theorem qd_g256 : qd_bs cX10_init 22 [181, 0, 18, 42, 6] = true := by decide +kernel
theorem dX10_init_27 : decode cX10_init 27 = .ok (.newarray .int, 2) := by decide +kernel
theorem qd_g257 : qd_bs cX10_init 29 [89, 3, 4, 79, 89, 4, 4, 79, 89, 5, 4, 79, 181, 0, 21, 42, 16, 40] = true := by decide +kernel
theorem dX10_init_47 : decode cX10_init 47 = .ok (.newarray .int, 2) := by decide +kernel
theorem qd_g258 : qd_bs cX10_init 49 [181, 0, 24, 177] = true := by decide +kernel
theorem qd_g259 : qd_bs cX10_become 0 [43, 180, 0, 11, 3, 42, 180, 0, 11, 3, 6, 184, 0, 27, 43, 180, 0, 15, 3, 42, 180, 0, 15, 3, 6, 184, 0, 27, 43, 180, 0, 18, 3, 42, 180, 0, 18, 3, 6] = true := by decide +kernel
theorem qd_g260 : qd_bs cX10_become 39 [184, 0, 27, 43, 180, 0, 21, 3, 42, 180, 0, 21, 3, 6, 184, 0, 27, 43, 180, 0, 24, 3, 42, 180, 0, 24, 3, 16, 40, 184, 0, 27, 177] = true := by decide +kernel
theorem qd_g261 : qd_bs cX10_isLike 0 [3, 61, 28, 16, 40, 162, 0, 26, 42, 180, 0, 24, 28, 46, 43, 180, 0, 24, 28, 46, 159, 0, 5, 3, 172, 132, 2, 1, 167, 255, 230, 4, 172] = true := by decide +kernel
theorem qd_g262 : qd_bs cX10_sound 0 [43, 190, 16, 48, 161, 0, 13, 28, 155, 0, 9, 28, 16, 40, 161, 0, 4, 177, 3, 62, 29, 6, 162, 0, 65, 16, 32, 7, 29, 104, 96, 54, 4, 42, 29, 43, 21, 4, 46] = true := by decide +kernel
theorem qd_g263 : qd_bs cX10_sound 39 [17, 1, 0, 43, 21, 4, 4, 96, 46, 104, 96, 182, 0, 33, 42, 29, 43, 21, 4, 5, 96, 46, 4, 126, 4, 160, 0, 7, 4, 167, 0, 4, 3, 43, 21, 4, 6, 96, 46] = true := by decide +kernel
theorem qd_g264 : qd_bs cX10_sound 78 [182, 0, 37, 132, 3, 1, 167, 255, 192, 3, 62, 3, 54, 4, 21, 4, 6, 162, 0, 37, 29, 42, 21, 4, 43, 16, 32, 7, 21, 4, 104, 96, 5, 96, 46, 182, 0, 41, 42] = true := by decide +kernel
theorem qd_g265 : qd_bs cX10_sound 117 [180, 0, 15, 21, 4, 46, 104, 96, 62, 132, 4, 1, 167, 255, 219, 42, 180, 0, 24, 28, 29, 16, 15, 108, 79, 177] = true := by decide +kernel
theorem qd_g266 : qd_bs cX10_turn 0 [27, 155, 0, 8, 27, 6, 161, 0, 4, 177, 42, 180, 0, 11, 27, 46, 28, 96, 62, 42, 180, 0, 21, 27, 46, 54, 4, 42, 180, 0, 11, 27, 29, 18, 45, 112, 79, 29, 18, 46] = true := by decide +kernel
theorem qd_g267 : qd_bs cX10_turn 40 [164, 0, 49, 21, 4, 6, 126, 4, 159, 0, 11, 21, 4, 6, 126, 5, 160, 0, 7, 4, 167, 0, 4, 3, 54, 5, 42, 180, 0, 21, 27, 21, 4, 5, 108, 21, 5, 153, 0, 9] = true := by decide +kernel
theorem qd_g268 : qd_bs cX10_turn 80 [17, 64, 0, 167, 0, 4, 3, 96, 79, 177] = true := by decide +kernel
theorem qd_g269 : qd_bs cX10_swell 0 [27, 155, 0, 8, 27, 6, 161, 0, 4, 177, 42, 180, 0, 18, 27, 92, 46, 4, 96, 79, 42, 180, 0, 18, 27, 46, 28, 153, 0, 10, 29, 16, 16, 112, 167, 0, 7, 29, 16, 16] = true := by decide +kernel
theorem qd_g270 : qd_bs cX10_swell 40 [108, 163, 0, 4, 177, 42, 180, 0, 18, 27, 3, 79, 28, 153, 0, 27, 42, 180, 0, 15, 27, 46, 16, 15, 162, 0, 16, 42, 180, 0, 15, 27, 92, 46, 4, 96, 79, 167, 0, 26] = true := by decide +kernel
theorem qd_g271 : qd_bs cX10_swell 80 [28, 154, 0, 22, 42, 180, 0, 15, 27, 46, 158, 0, 13, 42, 180, 0, 15, 27, 92, 46, 4, 100, 79, 177] = true := by decide +kernel
theorem qd_g272 : qd_bs cX10_outputOf 0 [27, 155, 0, 8, 27, 6, 161, 0, 5, 3, 172, 28, 4, 122, 6, 126, 42, 180, 0, 11, 27, 46, 42, 180, 0, 21, 27, 46, 184, 0, 47, 62, 27, 154, 0, 7, 5, 167, 0, 6] = true := by decide +kernel
theorem qd_g273 : qd_bs cX10_outputOf 40 [27, 4, 100, 54, 4, 28, 16, 8, 126, 16, 8, 160, 0, 19, 42, 180, 0, 11, 21, 4, 46, 18, 51, 161, 0, 7, 4, 167, 0, 4, 3, 54, 5, 21, 5, 153, 0, 10, 16, 15] = true := by decide +kernel
theorem qd_g274 : qd_bs cX10_outputOf 80 [29, 100, 167, 0, 4, 29, 172] = true := by decide +kernel
theorem qd_g275 : qd_bs cX10_waveOf 0 [26] = true := by decide +kernel
theorem dX10_waveOf_1 : decode cX10_waveOf 1 = .ok (.tableswitch 51 0 2 #[27, 33, 46], 27) := by decide +kernel
theorem qd_g276 : qd_bs cX10_waveOf 28 [27, 17, 16, 0, 108, 172, 27, 18, 51, 161, 0, 8, 16, 15, 167, 0, 4, 3, 172, 28, 16, 16, 112, 172, 3, 172] = true := by decide +kernel
theorem qd_g277 : qd_bs cX11_init 0 [42, 183, 0, 1, 42, 187, 0, 7, 89, 183, 0, 9, 181, 0, 10, 42, 6, 189, 0, 7, 181, 0, 16, 42, 187, 0, 20, 89, 183, 0, 22, 181, 0, 23, 42, 187, 0, 27, 89] = true := by decide +kernel
theorem qd_g278 : qd_bs cX11_init 39 [183, 0, 29, 181, 0, 30, 42, 187, 0, 34, 89, 183, 0, 36, 181, 0, 37, 3, 60, 27, 6, 162, 0, 22, 42, 180, 0, 16, 27, 187, 0, 7, 89, 183, 0, 9, 83, 132, 1, 1] = true := by decide +kernel
theorem qd_g279 : qd_bs cX11_init 79 [167, 255, 235, 177] = true := by decide +kernel
theorem qd_g280 : qd_bs cX11_poke 0 [27, 184, 0, 41, 28, 184, 0, 45, 42, 180, 0, 23, 3, 27, 28, 3, 182, 0, 48, 42, 180, 0, 10, 3, 27, 28, 3, 182, 0, 52, 172] = true := by decide +kernel
theorem qd_g281 : qd_bs cX11_pokeRom 0 [27, 17, 2, 0, 184, 0, 56, 28, 184, 0, 45, 42, 180, 0, 23, 4, 27, 28, 3, 182, 0, 48, 42, 180, 0, 10, 4, 27, 28, 3, 182, 0, 52, 172] = true := by decide +kernel
theorem qd_g282 : qd_bs cX11_pokeCartridge 0 [27, 7, 184, 0, 56, 28, 17, 2, 0, 184, 0, 56, 29, 184, 0, 45, 42, 180, 0, 23, 5, 27, 28, 29, 182, 0, 48, 42, 180, 0, 10, 5, 27, 28, 29, 182, 0, 52, 172] = true := by decide +kernel
theorem qd_g283 : qd_bs cX11_peek 0 [27, 184, 0, 41, 42, 180, 0, 10, 180, 0, 60, 27, 182, 0, 64, 172] = true := by decide +kernel
theorem qd_g284 : qd_bs cX11_ram 0 [27, 184, 0, 41, 42, 180, 0, 10, 180, 0, 60, 180, 0, 70, 180, 0, 73, 27, 17, 15, 255, 126, 46, 172] = true := by decide +kernel
theorem qd_g285 : qd_bs cX11_assemble 0 [27, 184, 0, 41, 28, 184, 0, 45, 29, 3, 17, 15, 255, 184, 0, 77, 28, 184, 0, 81, 5, 160, 0, 7, 29, 184, 0, 45, 42, 180, 0, 23, 6, 27, 28, 29, 182, 0, 48, 42] = true := by decide +kernel
theorem qd_g286 : qd_bs cX11_assemble 40 [180, 0, 10, 6, 27, 28, 29, 182, 0, 52, 172] = true := by decide +kernel
theorem qd_g287 : qd_bs cX11_writeLine 0 [27, 184, 0, 41, 42, 180, 0, 30, 42, 180, 0, 10, 180, 0, 60, 27, 184, 0, 86, 42, 180, 0, 30, 182, 0, 92, 172] = true := by decide +kernel
theorem qd_g288 : qd_bs cX11_lineAt 0 [27, 42, 180, 0, 30, 182, 0, 92, 184, 0, 56, 42, 180, 0, 30, 27, 182, 0, 96, 172] = true := by decide +kernel
theorem qd_g289 : qd_bs cX11_compare 0 [27, 184, 0, 41, 28, 184, 0, 41, 29, 4, 17, 16, 0, 184, 0, 77, 3, 54, 4, 3, 54, 5, 21, 5, 29, 162, 0, 55, 42, 180, 0, 10, 180, 0, 60, 27, 21, 5, 96] = true := by decide +kernel
theorem qd_g290 : qd_bs cX11_compare 39 [17, 15, 255, 126, 182, 0, 64, 54, 6, 21, 6, 42, 180, 0, 10, 180, 0, 60, 28, 21, 5, 96, 17, 15, 255, 126, 182, 0, 64, 159, 0, 6, 132, 4, 1, 132, 5, 1] = true := by decide +kernel
theorem qd_g291 : qd_bs cX11_compare 77 [167, 255, 201, 21, 4, 172] = true := by decide +kernel
theorem qd_g292 : qd_bs cX11_register 0 [27, 8, 184, 0, 56, 42, 180, 0, 10, 180, 0, 100, 27, 182, 0, 104, 172] = true := by decide +kernel
theorem qd_g293 : qd_bs cX11_setRegister 0 [27, 8, 184, 0, 56, 28, 3, 27, 7, 160, 0, 9, 17, 15, 255, 167, 0, 6, 17, 0, 255, 184, 0, 77, 42, 180, 0, 10, 180, 0, 100, 180, 0, 109, 158, 0, 13, 187, 0, 113] = true := by decide +kernel
theorem qd_g294 : qd_bs cX11_setRegister 40 [89, 18, 115, 183, 0, 117, 191, 42, 180, 0, 23, 7, 27, 28, 3, 182, 0, 48, 42, 180, 0, 10, 7, 27, 28, 3, 182, 0, 52, 172] = true := by decide +kernel
theorem qd_g295 : qd_bs cX11_status 0 [42, 180, 0, 10, 180, 0, 100, 180, 0, 120, 16, 32, 128, 16, 16, 128, 172] = true := by decide +kernel
theorem qd_g296 : qd_bs cX11_reset 0 [42, 180, 0, 23, 8, 3, 3, 3, 182, 0, 48, 42, 180, 0, 10, 8, 3, 3, 3, 182, 0, 52, 172] = true := by decide +kernel
theorem qd_g297 : qd_bs cX11_freeze 0 [42, 180, 0, 23, 16, 6, 3, 3, 3, 182, 0, 48, 42, 180, 0, 10, 16, 6, 3, 3, 3, 182, 0, 52, 172] = true := by decide +kernel
theorem qd_g298 : qd_bs cX11_run 0 [27, 4, 17, 3, 232, 184, 0, 77, 42, 180, 0, 23, 16, 7, 27, 3, 3, 182, 0, 48, 42, 180, 0, 10, 16, 7, 27, 3, 3, 182, 0, 52, 172] = true := by decide +kernel
theorem qd_g299 : qd_bs cX11_step 0 [42, 180, 0, 10, 180, 0, 100, 180, 0, 123, 153, 0, 13, 187, 0, 113, 89, 18, 127, 183, 0, 117, 191, 42, 180, 0, 23, 16, 8, 3, 3, 3, 182, 0, 48, 42, 180, 0, 10] = true := by decide +kernel
theorem qd_g300 : qd_bs cX11_step 39 [16, 8, 3, 3, 3, 182, 0, 52, 172] = true := by decide +kernel
theorem qd_g301 : qd_bs cX11_cycle 0 [42, 180, 0, 10, 180, 0, 60, 180, 0, 129, 173] = true := by decide +kernel
theorem qd_g302 : qd_bs cX11_isPictures 0 [42, 180, 0, 10, 180, 0, 60, 182, 0, 133, 172] = true := by decide +kernel
theorem qd_g303 : qd_bs cX11_underWay 0 [42, 180, 0, 10, 180, 0, 100, 180, 0, 109, 172] = true := by decide +kernel
theorem qd_g304 : qd_bs cX11_done 0 [42, 180, 0, 10, 180, 0, 100, 180, 0, 137, 172] = true := by decide +kernel
theorem qd_g305 : qd_bs cX11_isJammed 0 [42, 180, 0, 10, 180, 0, 100, 180, 0, 123, 172] = true := by decide +kernel
theorem qd_g306 : qd_bs cX11_traceAt 0 [42, 180, 0, 10, 180, 0, 100, 77, 27, 44, 180, 0, 140, 16, 16, 162, 0, 10, 44, 180, 0, 140, 167, 0, 5, 16, 16, 184, 0, 56, 44, 180, 0, 143, 44, 180, 0, 140, 4, 100] = true := by decide +kernel
theorem qd_g307 : qd_bs cX11_traceAt 40 [27, 100, 16, 15, 126, 46, 172] = true := by decide +kernel
theorem qd_g308 : qd_bs cX11_pixel 0 [27, 16, 32, 184, 0, 56, 28, 16, 32, 184, 0, 56, 42, 180, 0, 10, 180, 0, 146, 16, 32, 28, 104, 27, 96, 17, 3, 255, 126, 46, 172] = true := by decide +kernel
theorem qd_g309 : qd_bs cX11_pixelAgain 0 [27, 16, 32, 184, 0, 56, 28, 16, 32, 184, 0, 56, 42, 180, 0, 10, 180, 0, 60, 27, 28, 42, 180, 0, 37, 182, 0, 149, 172] = true := by decide +kernel
theorem qd_g310 : qd_bs cX11_sample 0 [27, 16, 40, 184, 0, 56, 42, 180, 0, 10, 180, 0, 153, 180, 0, 157, 27, 46, 172] = true := by decide +kernel
theorem qd_g311 : qd_bs cX11_level 0 [27, 6, 184, 0, 56, 42, 180, 0, 10, 180, 0, 153, 180, 0, 162, 27, 46, 172] = true := by decide +kernel
theorem qd_g312 : qd_bs cX11_key 0 [27, 7, 184, 0, 56, 28, 7, 184, 0, 56, 29, 153, 0, 7, 4, 167, 0, 4, 3, 54, 4, 42, 180, 0, 23, 16, 9, 27, 28, 21, 4, 182, 0, 48, 42, 180, 0, 10, 16, 9] = true := by decide +kernel
theorem qd_g313 : qd_bs cX11_key 40 [27, 28, 21, 4, 182, 0, 52, 4, 160, 0, 7, 4, 167, 0, 4, 3, 172] = true := by decide +kernel
theorem qd_g314 : qd_bs cX11_columns 0 [27, 3, 16, 15, 184, 0, 77, 42, 180, 0, 10, 180, 0, 60, 180, 0, 167, 180, 0, 171, 27, 16, 15, 126, 46, 172] = true := by decide +kernel
theorem qd_g315 : qd_bs cX11_joystick 0 [27, 3, 16, 15, 184, 0, 77, 42, 180, 0, 23, 16, 10, 27, 3, 3, 182, 0, 48, 42, 180, 0, 10, 16, 10, 27, 3, 3, 182, 0, 52, 172] = true := by decide +kernel
theorem qd_g316 : qd_bs cX11_addPulse 0 [27, 4, 17, 3, 231, 184, 0, 77, 42, 180, 0, 10, 180, 0, 60, 180, 0, 174, 180, 0, 178, 16, 40, 161, 0, 13, 187, 0, 113, 89, 18, 183, 183, 0, 117, 191, 42, 180, 0, 23] = true := by decide +kernel
theorem qd_g317 : qd_bs cX11_addPulse 40 [16, 11, 27, 3, 3, 182, 0, 48, 42, 180, 0, 10, 16, 11, 27, 3, 3, 182, 0, 52, 172] = true := by decide +kernel
theorem qd_g318 : qd_bs cX11_rewind 0 [42, 180, 0, 23, 16, 12, 3, 3, 3, 182, 0, 48, 42, 180, 0, 10, 16, 12, 3, 3, 3, 182, 0, 52, 172] = true := by decide +kernel
theorem qd_g319 : qd_bs cX11_pulsesLeft 0 [42, 180, 0, 10, 180, 0, 60, 180, 0, 174, 180, 0, 178, 42, 180, 0, 10, 180, 0, 60, 180, 0, 174, 180, 0, 185, 100, 172] = true := by decide +kernel
theorem qd_g320 : qd_bs cX11_save 0 [42, 180, 0, 188, 60, 27, 155, 0, 8, 27, 6, 161, 0, 13, 187, 0, 113, 89, 18, 191, 183, 0, 117, 191, 42, 180, 0, 16, 27, 50, 42, 180, 0, 10, 182, 0, 193, 42, 27, 4] = true := by decide +kernel
theorem qd_g321 : qd_bs cX11_save 40 [96, 181, 0, 188, 27, 172] = true := by decide +kernel
theorem qd_g322 : qd_bs cX11_restore 0 [42, 27, 182, 0, 197, 77, 44, 199, 0, 13, 187, 0, 201, 89, 18, 203, 183, 0, 205, 191, 42, 180, 0, 10, 180, 0, 60, 180, 0, 70, 44, 180, 0, 60, 180, 0, 70, 182, 0, 206] = true := by decide +kernel
theorem qd_g323 : qd_bs cX11_restore 40 [62, 42, 180, 0, 10, 44, 182, 0, 193, 42, 180, 0, 23, 3, 181, 0, 210, 29, 172] = true := by decide +kernel
theorem qd_g324 : qd_bs cX11_differences 0 [42, 27, 182, 0, 197, 77, 44, 199, 0, 13, 187, 0, 201, 89, 18, 203, 183, 0, 205, 191, 42, 180, 0, 10, 180, 0, 60, 180, 0, 70, 44, 180, 0, 60, 180, 0, 70, 182, 0, 206] = true := by decide +kernel
theorem qd_g325 : qd_bs cX11_differences 40 [172] = true := by decide +kernel
theorem qd_g326 : qd_bs cX11_startRecord 0 [42, 180, 0, 23, 180, 0, 210, 153, 0, 13, 42, 180, 0, 23, 180, 0, 213, 167, 0, 4, 3, 60, 42, 180, 0, 23, 42, 180, 0, 10, 182, 0, 214, 27, 172] = true := by decide +kernel
theorem qd_g327 : qd_bs cX11_recorded 0 [42, 180, 0, 23, 180, 0, 210, 154, 0, 13, 187, 0, 113, 89, 18, 217, 183, 0, 117, 191, 42, 180, 0, 23, 180, 0, 213, 172] = true := by decide +kernel
theorem qd_g328 : qd_bs cX11_isSame 0 [42, 180, 0, 23, 76, 43, 180, 0, 210, 154, 0, 13, 187, 0, 113, 89, 18, 217, 183, 0, 117, 191, 43, 180, 0, 219, 61, 28, 43, 180, 0, 213, 162, 0, 47, 28, 17, 1, 255, 126] = true := by decide +kernel
theorem qd_g329 : qd_bs cX11_isSame 40 [62, 43, 180, 0, 222, 43, 180, 0, 223, 29, 46, 43, 180, 0, 226, 29, 46, 43, 180, 0, 229, 29, 46, 43, 180, 0, 232, 29, 46, 182, 0, 52, 87, 132, 2, 1, 167, 255, 207, 43] = true := by decide +kernel
theorem qd_g330 : qd_bs cX11_isSame 80 [43, 180, 0, 213, 181, 0, 219, 43, 180, 0, 222, 42, 180, 0, 10, 182, 0, 235, 172] = true := by decide +kernel
theorem qd_g331 : qd_bs cX11_sumOfPicture 0 [3, 60, 3, 61, 28, 17, 4, 0, 162, 0, 24, 16, 31, 27, 104, 42, 180, 0, 10, 180, 0, 146, 28, 46, 96, 60, 132, 2, 1, 167, 255, 231, 27, 172] = true := by decide +kernel
theorem qd_g332 : qd_bs cX11_pictures 0 [42, 180, 0, 10, 180, 0, 239, 173] = true := by decide +kernel
theorem qd_g333 : qd_bs cX11_solidShare 0 [42, 180, 0, 10, 180, 0, 60, 180, 0, 70, 180, 0, 242, 6, 46, 60, 3, 61, 3, 62, 29, 17, 4, 0, 162, 0, 25, 42, 180, 0, 10, 180, 0, 146, 29, 46, 27, 159, 0, 6] = true := by decide +kernel
theorem qd_g334 : qd_bs cX11_solidShare 40 [132, 2, 1, 132, 3, 1, 167, 255, 230, 28, 134, 18, 245, 110, 174] = true := by decide +kernel
theorem qd_g335 : qd_bs cX11_meanSample 0 [3, 60, 3, 61, 28, 16, 40, 162, 0, 24, 27, 42, 180, 0, 10, 180, 0, 153, 180, 0, 157, 28, 46, 96, 60, 132, 2, 1, 167, 255, 232, 27, 135, 20, 0, 246, 111, 175] = true := by decide +kernel
theorem qd_g336 : qd_bs cX11_checkAddress 0 [26, 17, 16, 0, 184, 0, 56, 177] = true := by decide +kernel
theorem qd_g337 : qd_bs cX11_checkIndex 0 [26, 155, 0, 8, 26, 27, 161, 0, 13, 187, 0, 248, 89, 18, 250, 183, 0, 252, 191, 177] = true := by decide +kernel
theorem qd_g338 : qd_bs cX11_checkByte 0 [26, 3, 17, 0, 255, 184, 0, 77, 177] = true := by decide +kernel
theorem qd_g339 : qd_bs cX11_checkArgument 0 [26, 27, 161, 0, 8, 26, 28, 164, 0, 13, 187, 0, 253, 89, 18, 255, 183, 1, 1, 191, 177] = true := by decide +kernel
theorem qd_g340 : qd_bs cX11_snapshotOf 0 [27, 155, 0, 25, 27, 42, 180, 0, 188, 162, 0, 17, 27, 6, 162, 0, 12, 42, 180, 0, 16, 27, 50, 167, 0, 4, 1, 176] = true := by decide +kernel
theorem qd_g341 : qd_bs cX12_init 0 [42, 183, 0, 1, 42, 17, 16, 0] = true := by decide +kernel
theorem dX12_init_8 : decode cX12_init 8 = .ok (.newarray .int, 2) := by decide +kernel
theorem qd_g342 : qd_bs cX12_init 10 [181, 0, 7, 42, 17, 2, 0] = true := by decide +kernel
theorem dX12_init_17 : decode cX12_init 17 = .ok (.newarray .int, 2) := by decide +kernel
theorem qd_g343 : qd_bs cX12_init 19 [181, 0, 13, 42, 17, 8, 0] = true := by decide +kernel
theorem dX12_init_26 : decode cX12_init 26 = .ok (.newarray .int, 2) := by decide +kernel
theorem qd_g344 : qd_bs cX12_init 28 [181, 0, 16, 42, 16, 48] = true := by decide +kernel
theorem dX12_init_34 : decode cX12_init 34 = .ok (.newarray .int, 2) := by decide +kernel
theorem qd_g345 : qd_bs cX12_init 36 [181, 0, 19, 42, 17, 4, 0] = true := by decide +kernel
theorem dX12_init_43 : decode cX12_init 43 = .ok (.newarray .int, 2) := by decide +kernel
theorem qd_g346 : qd_bs cX12_init 45 [181, 0, 22, 42, 16, 40] = true := by decide +kernel
theorem dX12_init_51 : decode cX12_init 51 = .ok (.newarray .int, 2) := by decide +kernel
theorem qd_g347 : qd_bs cX12_init 53 [181, 0, 25, 42, 16, 16] = true := by decide +kernel
theorem dX12_init_59 : decode cX12_init 59 = .ok (.newarray .boolean, 2) := by decide +kernel
theorem qd_g348 : qd_bs cX12_init 61 [181, 0, 28, 42, 16, 40] = true := by decide +kernel
theorem dX12_init_67 : decode cX12_init 67 = .ok (.newarray .int, 2) := by decide +kernel
theorem qd_g349 : qd_bs cX12_init 69 [181, 0, 32, 42, 16, 16] = true := by decide +kernel
theorem dX12_init_75 : decode cX12_init 75 = .ok (.newarray .int, 2) := by decide +kernel
theorem qd_g350 : qd_bs cX12_init 77 [181, 0, 35, 42, 6] = true := by decide +kernel
theorem dX12_init_82 : decode cX12_init 82 = .ok (.newarray .int, 2) := by decide +kernel
theorem qd_g351 : qd_bs cX12_init 84 [181, 0, 38, 42, 6] = true := by decide +kernel
theorem dX12_init_89 : decode cX12_init 89 = .ok (.newarray .int, 2) := by decide +kernel
theorem qd_g352 : qd_bs cX12_init 91 [181, 0, 41, 42, 6] = true := by decide +kernel
theorem dX12_init_96 : decode cX12_init 96 = .ok (.newarray .int, 2) := by decide +kernel
theorem qd_g353 : qd_bs cX12_init 98 [181, 0, 44, 42, 6] = true := by decide +kernel
theorem dX12_init_103 : decode cX12_init 103 = .ok (.newarray .int, 2) := by decide +kernel
theorem qd_g354 : qd_bs cX12_init 105 [89, 3, 4, 79, 89, 4, 4, 79, 89, 5, 4, 79, 181, 0, 47, 42, 16, 24] = true := by decide +kernel
theorem dX12_init_123 : decode cX12_init 123 = .ok (.newarray .int, 2) := by decide +kernel
theorem qd_g355 : qd_bs cX12_init 125 [181, 0, 50, 42, 16, 8] = true := by decide +kernel
theorem dX12_init_131 : decode cX12_init 131 = .ok (.newarray .boolean, 2) := by decide +kernel
theorem qd_g356 : qd_bs cX12_init 133 [181, 0, 53, 42, 17, 48, 0] = true := by decide +kernel
theorem dX12_init_140 : decode cX12_init 140 = .ok (.newarray .int, 2) := by decide +kernel
theorem qd_g357 : qd_bs cX12_init 142 [181, 0, 56, 42, 17, 6, 0] = true := by decide +kernel
theorem dX12_init_149 : decode cX12_init 149 = .ok (.newarray .int, 2) := by decide +kernel
theorem qd_g358 : qd_bs cX12_init 151 [181, 0, 59, 42, 17, 24, 0] = true := by decide +kernel
theorem dX12_init_158 : decode cX12_init 158 = .ok (.newarray .int, 2) := by decide +kernel
theorem qd_g359 : qd_bs cX12_init 160 [181, 0, 62, 42, 17, 0, 144] = true := by decide +kernel
theorem dX12_init_167 : decode cX12_init 167 = .ok (.newarray .int, 2) := by decide +kernel
theorem qd_g360 : qd_bs cX12_init 169 [181, 0, 65, 42, 17, 12, 0] = true := by decide +kernel
theorem dX12_init_176 : decode cX12_init 176 = .ok (.newarray .int, 2) := by decide +kernel
theorem qd_g361 : qd_bs cX12_init 178 [181, 0, 68, 42, 16, 120] = true := by decide +kernel
theorem dX12_init_184 : decode cX12_init 184 = .ok (.newarray .int, 2) := by decide +kernel
theorem qd_g362 : qd_bs cX12_init 186 [181, 0, 71, 42, 16, 48] = true := by decide +kernel
theorem dX12_init_192 : decode cX12_init 192 = .ok (.newarray .boolean, 2) := by decide +kernel
theorem qd_g363 : qd_bs cX12_init 194 [181, 0, 74, 42, 16, 120] = true := by decide +kernel
theorem dX12_init_200 : decode cX12_init 200 = .ok (.newarray .int, 2) := by decide +kernel
theorem qd_g364 : qd_bs cX12_init 202 [181, 0, 77, 42, 16, 48] = true := by decide +kernel
theorem dX12_init_208 : decode cX12_init 208 = .ok (.newarray .int, 2) := by decide +kernel
theorem qd_g365 : qd_bs cX12_init 210 [181, 0, 80, 42, 16, 9] = true := by decide +kernel
theorem dX12_init_216 : decode cX12_init 216 = .ok (.newarray .int, 2) := by decide +kernel
theorem qd_g366 : qd_bs cX12_init 218 [181, 0, 83, 42, 16, 9] = true := by decide +kernel
theorem dX12_init_224 : decode cX12_init 224 = .ok (.newarray .int, 2) := by decide +kernel
theorem qd_g367 : qd_bs cX12_init 226 [181, 0, 86, 42, 16, 9] = true := by decide +kernel
theorem dX12_init_232 : decode cX12_init 232 = .ok (.newarray .int, 2) := by decide +kernel
theorem qd_g368 : qd_bs cX12_init 234 [181, 0, 89, 42, 16, 9] = true := by decide +kernel
theorem dX12_init_240 : decode cX12_init 240 = .ok (.newarray .int, 2) := by decide +kernel
theorem qd_g369 : qd_bs cX12_init 242 [181, 0, 92, 42, 16, 72] = true := by decide +kernel
theorem dX12_init_248 : decode cX12_init 248 = .ok (.newarray .int, 2) := by decide +kernel
theorem qd_g370 : qd_bs cX12_init 250 [181, 0, 95, 42, 16, 24] = true := by decide +kernel
theorem dX12_init_256 : decode cX12_init 256 = .ok (.newarray .boolean, 2) := by decide +kernel
theorem qd_g371 : qd_bs cX12_init 258 [181, 0, 98, 42, 16, 6] = true := by decide +kernel
theorem dX12_init_264 : decode cX12_init 264 = .ok (.newarray .long, 2) := by decide +kernel
theorem qd_g372 : qd_bs cX12_init 266 [181, 0, 101, 42, 2, 181, 0, 105, 42, 16, 40] = true := by decide +kernel
theorem dX12_init_277 : decode cX12_init 277 = .ok (.newarray .char, 2) := by decide +kernel
theorem qd_g373 : qd_bs cX12_init 279 [181, 0, 109, 42, 16, 8] = true := by decide +kernel
theorem dX12_init_285 : decode cX12_init 285 = .ok (.newarray .boolean, 2) := by decide +kernel
theorem qd_g374 : qd_bs cX12_init 287 [181, 0, 113, 42, 180, 0, 50, 6, 17, 0, 255, 79, 42, 180, 0, 53, 6, 4, 84, 177] = true := by decide +kernel
theorem qd_g375 : qd_bs cX12_thrown 0 [42, 180, 0, 116, 172] = true := by decide +kernel
theorem qd_g376 : qd_bs cX12_fails 0 [42, 27, 181, 0, 116, 27, 158, 0, 7, 4, 167, 0, 4, 3, 172] = true := by decide +kernel
theorem qd_g377 : qd_bs cX12_tells 0 [42, 3, 181, 0, 116, 27, 172] = true := by decide +kernel
theorem qd_g378 : qd_bs cX12_in 0 [26, 27, 161, 0, 12, 26, 28, 163, 0, 7, 4, 167, 0, 4, 3, 172] = true := by decide +kernel
theorem qd_g379 : qd_bs cX12_isNoByte 0 [26, 3, 17, 0, 255, 184, 0, 119, 154, 0, 7, 4, 167, 0, 4, 3, 172] = true := by decide +kernel
theorem qd_g380 : qd_bs cX12_isNoAddress 0 [26, 3, 17, 15, 255, 184, 0, 119, 154, 0, 7, 4, 167, 0, 4, 3, 172] = true := by decide +kernel
theorem qd_g381 : qd_bs cX12_keeps 0 [42, 180, 0, 105, 155, 0, 13, 42, 89, 180, 0, 105, 4, 96, 181, 0, 105, 177] = true := by decide +kernel
theorem qd_g382 : qd_bs cX12_has 0 [26, 27, 122, 4, 126, 4, 160, 0, 7, 4, 167, 0, 4, 3, 172] = true := by decide +kernel
theorem qd_g383 : qd_bs cX12_lineNow 0 [42, 180, 0, 123, 20, 0, 127, 109, 20, 0, 129, 113, 136, 172] = true := by decide +kernel
theorem qd_g384 : qd_bs cX12_seenColumns 0 [3, 61, 28, 7, 162, 0, 29, 42, 180, 0, 113, 28, 27, 28, 184, 0, 131, 84, 42, 180, 0, 113, 7, 28, 96, 3, 84, 132, 2, 1, 167, 255, 228, 3, 61, 28, 16, 8] = true := by decide +kernel
theorem qd_g385 : qd_bs cX12_seenColumns 38 [162, 0, 88, 3, 62, 29, 16, 16, 162, 0, 74, 42, 180, 0, 28, 29, 51, 154, 0, 6, 167, 0, 56, 42, 180, 0, 113, 29, 7, 108, 51, 154, 0, 16, 42, 180, 0, 113, 7, 29] = true := by decide +kernel
theorem qd_g386 : qd_bs cX12_seenColumns 78 [7, 112, 96, 51, 153, 0, 7, 4, 167, 0, 4, 3, 54, 4, 42, 180, 0, 113, 29, 7, 108, 21, 4, 84, 42, 180, 0, 113, 7, 29, 7, 112, 96, 21, 4, 84, 132, 3, 1] = true := by decide +kernel
theorem qd_g387 : qd_bs cX12_seenColumns 117 [167, 255, 182, 132, 2, 1, 167, 255, 168, 3, 61, 3, 62, 29, 7, 162, 0, 30, 28, 42, 180, 0, 113, 7, 29, 96, 51, 153, 0, 9, 4, 29, 120, 167, 0, 4, 3, 96, 61] = true := by decide +kernel
theorem qd_g388 : qd_bs cX12_seenColumns 156 [132, 3, 1, 167, 255, 227, 28, 172] = true := by decide +kernel
theorem qd_g389 : qd_bs cX12_hasPulse 0 [42, 180, 0, 50, 16, 14, 46, 42, 180, 0, 50, 16, 13, 46, 162, 0, 7, 4, 167, 0, 4, 3, 172] = true := by decide +kernel
theorem qd_g390 : qd_bs cX12_readRegister 0 [27, 16, 9, 160, 0, 8, 42, 182, 0, 135, 172, 27, 16, 10, 160, 0, 11, 42, 180, 0, 50, 16, 9, 46, 172, 27, 16, 12, 16, 15, 184, 0, 119, 153, 0, 47, 27, 5, 112] = true := by decide +kernel
theorem qd_g391 : qd_bs cX12_readRegister 39 [154, 0, 19, 42, 180, 0, 50, 8, 27, 16, 12, 100, 5, 108, 96, 46, 167, 0, 20, 42, 180, 0, 50, 8, 27, 16, 12, 100, 5, 108, 96, 46, 17, 1, 0, 108, 17, 1, 0, 112] = true := by decide +kernel
theorem qd_g392 : qd_bs cX12_readRegister 79 [172, 27, 16, 29, 160, 0, 11, 42, 180, 0, 50, 16, 10, 46, 172, 27, 16, 30, 160, 0, 11, 42, 180, 0, 50, 16, 11, 46, 172, 27, 16, 31, 160, 0, 26, 42, 42, 180, 0, 19] = true := by decide +kernel
theorem qd_g393 : qd_bs cX12_readRegister 119 [16, 31, 46, 182, 0, 139, 16, 16, 42, 180, 0, 50, 16, 12, 46, 104, 96, 172, 27, 16, 44, 160, 0, 34, 42, 180, 0, 19, 16, 44, 46, 5, 42, 180, 0, 50, 16, 16, 46, 104] = true := by decide +kernel
theorem qd_g394 : qd_bs cX12_readRegister 159 [96, 42, 182, 0, 143, 153, 0, 7, 7, 167, 0, 4, 3, 96, 172, 27, 16, 44, 164, 0, 7, 3, 167, 0, 9, 42, 180, 0, 19, 27, 46, 172] = true := by decide +kernel
theorem qd_g395 : qd_bs cX12_bitsOf 0 [26, 4, 160, 0, 5, 5, 172, 26, 5, 160, 0, 5, 8, 172, 26, 16, 16, 160, 0, 5, 6, 172, 26, 16, 20, 16, 27, 184, 0, 119, 153, 0, 6, 16, 6, 172, 26, 16, 9] = true := by decide +kernel
theorem qd_g396 : qd_bs cX12_bitsOf 39 [159, 0, 25, 26, 16, 12, 16, 15, 184, 0, 119, 154, 0, 14, 26, 16, 32, 16, 43, 184, 0, 119, 153, 0, 6, 16, 8, 172, 26, 16, 44, 160, 0, 7, 4, 167, 0, 4, 7, 172] = true := by decide +kernel
theorem qd_g397 : qd_bs cX12_writeRegister 0 [27, 16, 44, 163, 0, 15, 27, 16, 29, 159, 0, 9, 27, 16, 30, 160, 0, 4, 177, 28, 4, 27, 184, 0, 147, 120, 4, 100, 126, 62, 27, 16, 10, 160, 0, 17, 42, 180, 0, 50] = true := by decide +kernel
theorem qd_g398 : qd_bs cX12_writeRegister 40 [16, 9, 92, 46, 28, 2, 130, 126, 79, 177, 27, 16, 12, 16, 15, 184, 0, 119, 153, 0, 65, 16, 7, 27, 16, 12, 100, 5, 108, 96, 54, 4, 42, 180, 0, 50, 21, 4, 27, 5] = true := by decide +kernel
theorem qd_g399 : qd_bs cX12_writeRegister 80 [112, 154, 0, 23, 42, 180, 0, 50, 21, 4, 46, 17, 1, 0, 108, 17, 1, 0, 104, 28, 96, 167, 0, 20, 42, 180, 0, 50, 21, 4, 46, 17, 1, 0, 112, 17, 1, 0, 28, 104] = true := by decide +kernel
theorem qd_g400 : qd_bs cX12_writeRegister 120 [96, 79, 177, 3, 54, 4, 27, 16, 16, 160, 0, 58, 21, 4, 5, 162, 0, 52, 29, 21, 4, 184, 0, 131, 153, 0, 37, 42, 180, 0, 19, 16, 16, 46, 21, 4, 184, 0, 131] = true := by decide +kernel
theorem qd_g401 : qd_bs cX12_writeRegister 159 [154, 0, 22, 42, 180, 0, 50, 8, 21, 4, 96, 42, 180, 0, 50, 16, 7, 21, 4, 96, 46, 79, 132, 4, 1, 167, 255, 198, 42, 180, 0, 19, 27, 29, 79, 177] = true := by decide +kernel
theorem qd_g402 : qd_bs cX12_wrap 0 [26, 17, 15, 255, 126, 172] = true := by decide +kernel
theorem qd_g403 : qd_bs cX12_reads 0 [27, 17, 15, 0, 17, 15, 47, 184, 0, 119, 153, 0, 13, 42, 27, 17, 15, 0, 100, 182, 0, 150, 172, 27, 17, 12, 0, 17, 13, 255, 184, 0, 119, 153, 0, 27, 42, 180, 0, 19] = true := by decide +kernel
theorem qd_g404 : qd_bs cX12_reads 40 [3, 46, 3, 184, 0, 131, 153, 0, 14, 42, 180, 0, 13, 27, 17, 12, 0, 100, 46, 172, 27, 17, 8, 0, 17, 9, 255, 184, 0, 119, 153, 0, 40, 42, 180, 0, 19, 3, 46, 4] = true := by decide +kernel
theorem qd_g405 : qd_bs cX12_reads 80 [184, 0, 131, 153, 0, 27, 42, 180, 0, 16, 17, 2, 0, 42, 180, 0, 19, 3, 46, 7, 108, 104, 27, 96, 17, 8, 0, 100, 46, 172, 42, 180, 0, 7, 27, 46, 172] = true := by decide +kernel
theorem qd_g406 : qd_bs cX12_writes 0 [27, 17, 15, 0, 17, 15, 47, 184, 0, 119, 153, 0, 16, 42, 27, 17, 15, 0, 100, 28, 182, 0, 153, 167, 0, 10, 42, 180, 0, 7, 27, 28, 79, 177] = true := by decide +kernel
theorem qd_g407 : qd_bs cX12_poke 0 [42, 27, 184, 0, 157, 153, 0, 7, 4, 167, 0, 15, 28, 184, 0, 161, 153, 0, 7, 5, 167, 0, 4, 3, 182, 0, 164, 153, 0, 5, 3, 172, 42, 27, 182, 0, 167, 62, 42, 27] = true := by decide +kernel
theorem qd_g408 : qd_bs cX12_poke 40 [28, 182, 0, 170, 42, 182, 0, 173, 29, 172] = true := by decide +kernel
theorem qd_g409 : qd_bs cX12_pokeRom 0 [42, 27, 3, 17, 1, 255, 184, 0, 119, 154, 0, 7, 4, 167, 0, 15, 28, 184, 0, 161, 153, 0, 7, 5, 167, 0, 4, 3, 182, 0, 164, 153, 0, 5, 3, 172, 42, 180, 0, 13] = true := by decide +kernel
theorem qd_g410 : qd_bs cX12_pokeRom 40 [27, 46, 62, 42, 180, 0, 13, 27, 28, 79, 42, 182, 0, 173, 29, 172] = true := by decide +kernel
theorem qd_g411 : qd_bs cX12_pokeCartridge 0 [42, 27, 3, 6, 184, 0, 119, 153, 0, 14, 28, 3, 17, 1, 255, 184, 0, 119, 154, 0, 7, 4, 167, 0, 15, 29, 184, 0, 161, 153, 0, 7, 5, 167, 0, 4, 3, 182, 0, 164] = true := by decide +kernel
theorem qd_g412 : qd_bs cX12_pokeCartridge 40 [153, 0, 5, 3, 172, 42, 180, 0, 16, 17, 2, 0, 27, 104, 28, 96, 46, 54, 4, 42, 180, 0, 16, 17, 2, 0, 27, 104, 28, 96, 29, 79, 42, 182, 0, 173, 21, 4, 172] = true := by decide +kernel
theorem qd_g413 : qd_bs cX12_peek 0 [42, 27, 184, 0, 157, 153, 0, 7, 4, 167, 0, 4, 3, 182, 0, 164, 153, 0, 7, 3, 167, 0, 8, 42, 27, 182, 0, 167, 172] = true := by decide +kernel
theorem qd_g414 : qd_bs cX12_ram 0 [42, 27, 184, 0, 157, 153, 0, 7, 4, 167, 0, 4, 3, 182, 0, 164, 153, 0, 7, 3, 167, 0, 9, 42, 180, 0, 7, 27, 46, 172] = true := by decide +kernel
theorem qd_g415 : qd_bs cX12_compare 0 [42, 27, 184, 0, 157, 154, 0, 10, 28, 184, 0, 157, 153, 0, 7, 4, 167, 0, 19, 29, 4, 17, 16, 0, 184, 0, 119, 153, 0, 7, 3, 167, 0, 4, 5, 182, 0, 164] = true := by decide +kernel
theorem qd_g416 : qd_bs cX12_compare 38 [153, 0, 5, 3, 172, 3, 54, 4, 3, 54, 5, 21, 5, 29, 162, 0, 44, 21, 4, 42, 27, 21, 5, 96, 184, 0, 176, 182, 0, 167, 42, 28, 21, 5, 96, 184, 0, 176] = true := by decide +kernel
theorem qd_g417 : qd_bs cX12_compare 76 [182, 0, 167, 160, 0, 7, 3, 167, 0, 4, 4, 96, 54, 4, 132, 5, 1, 167, 255, 212, 21, 4, 172] = true := by decide +kernel
theorem qd_g418 : qd_bs cX12_rowNow 0 [42, 182, 0, 135, 7, 100, 172] = true := by decide +kernel
theorem qd_g419 : qd_bs cX12_isOn 0 [42, 180, 0, 19, 16, 17, 46, 27, 184, 0, 131, 172] = true := by decide +kernel
theorem qd_g420 : qd_bs cX12_isAmong 0 [42, 180, 0, 19, 16, 24, 27, 96, 46, 62, 28, 29, 161, 0, 34, 28, 29, 42, 180, 0, 19, 16, 18, 46, 27, 184, 0, 131, 153, 0, 8, 16, 16, 167, 0, 5, 16, 8, 96] = true := by decide +kernel
theorem qd_g421 : qd_bs cX12_isAmong 39 [162, 0, 7, 4, 167, 0, 4, 3, 172] = true := by decide +kernel
theorem qd_g422 : qd_bs cX12_isOfPicture 0 [42, 182, 0, 179, 60, 42, 180, 0, 123, 20, 0, 127, 113, 136, 61, 27, 3, 16, 31, 184, 0, 119, 154, 0, 5, 3, 172, 42, 180, 0, 19, 4, 46, 154, 0, 31, 28, 16, 8] = true := by decide +kernel
theorem qd_g423 : qd_bs cX12_isOfPicture 39 [162, 0, 25, 27, 42, 180, 0, 19, 5, 46, 7, 108, 96, 16, 8, 112, 154, 0, 7, 4, 167, 0, 4, 3, 172, 42, 180, 0, 19, 4, 46, 4, 5, 184, 0, 119, 153, 0, 10, 28] = true := by decide +kernel
theorem qd_g424 : qd_bs cX12_isOfPicture 79 [7, 162, 0, 5, 4, 172, 28, 16, 20, 161, 0, 30, 42, 28, 16, 20, 100, 182, 0, 182, 153, 0, 19, 42, 28, 16, 20, 100, 27, 182, 0, 185, 153, 0, 7, 4, 167, 0, 4, 3] = true := by decide +kernel
theorem qd_g425 : qd_bs cX12_isOfPicture 119 [172] = true := by decide +kernel
theorem qd_g426 : qd_bs cX12_pictureAt 0 [27, 42, 180, 0, 19, 5, 46, 7, 112, 96, 16, 32, 112, 62, 28, 42, 180, 0, 19, 5, 46, 7, 108, 96, 16, 32, 112, 54, 4, 17, 1, 0, 42, 180, 0, 19, 16, 7, 46, 104] = true := by decide +kernel
theorem qd_g427 : qd_bs cX12_pictureAt 40 [54, 5, 42, 180, 0, 19, 4, 46, 154, 0, 68, 42, 180, 0, 7, 21, 5, 16, 8, 21, 4, 16, 8, 108, 104, 96, 29, 7, 108, 96, 184, 0, 176, 46, 54, 6, 42, 180, 0, 7] = true := by decide +kernel
theorem qd_g428 : qd_bs cX12_pictureAt 80 [17, 1, 0, 42, 180, 0, 19, 16, 8, 46, 104, 16, 8, 21, 6, 104, 96, 21, 4, 16, 8, 112, 96, 184, 0, 176, 46, 6, 29, 7, 112, 100, 122, 4, 126, 172, 42, 180, 0, 7] = true := by decide +kernel
theorem qd_g429 : qd_bs cX12_pictureAt 120 [21, 5, 7, 21, 4, 104, 96, 29, 16, 8, 108, 96, 184, 0, 176, 46, 54, 6, 42, 180, 0, 19, 4, 46, 4, 160, 0, 18, 21, 6, 16, 7, 29, 16, 8, 112, 100, 122, 4, 126] = true := by decide +kernel
theorem qd_g430 : qd_bs cX12_pictureAt 160 [167, 0, 33, 42, 180, 0, 19, 4, 46, 5, 160, 0, 22, 21, 6, 16, 6, 5, 29, 16, 8, 112, 5, 108, 104, 100, 122, 6, 126, 167, 0, 4, 3, 172] = true := by decide +kernel
theorem qd_g431 : qd_bs cX12_covers 0 [42, 27, 182, 0, 182, 154, 0, 5, 3, 172, 28, 42, 180, 0, 19, 16, 20, 27, 96, 46, 100, 54, 4, 29, 42, 180, 0, 19, 16, 24, 27, 96, 46, 100, 54, 5, 42, 180, 0, 19] = true := by decide +kernel
theorem qd_g432 : qd_bs cX12_covers 40 [16, 18, 46, 27, 184, 0, 131, 153, 0, 15, 21, 4, 4, 122, 54, 4, 21, 5, 4, 122, 54, 5, 21, 4, 3, 16, 7, 184, 0, 119, 153, 0, 60, 21, 5, 3, 16, 7] = true := by decide +kernel
theorem qd_g433 : qd_bs cX12_covers 78 [184, 0, 119, 153, 0, 49, 42, 180, 0, 7, 17, 1, 0, 42, 180, 0, 19, 16, 7, 46, 104, 17, 0, 128, 96, 16, 8, 27, 104, 96, 21, 5, 96, 184, 0, 176, 46, 16, 7] = true := by decide +kernel
theorem qd_g434 : qd_bs cX12_covers 117 [21, 4, 100, 184, 0, 131, 153, 0, 7, 4, 167, 0, 4, 3, 172] = true := by decide +kernel
theorem qd_g435 : qd_bs cX12_draws 0 [42, 27, 28, 182, 0, 188, 62, 42, 180, 0, 19, 4, 46, 5, 160, 0, 16, 29, 4, 164, 0, 7, 4, 167, 0, 17, 3, 167, 0, 13, 29, 4, 160, 0, 7, 4, 167, 0, 4, 3] = true := by decide +kernel
theorem qd_g436 : qd_bs cX12_draws 40 [54, 4, 3, 54, 5, 2, 54, 6, 6, 54, 7, 21, 7, 155, 0, 36, 42, 21, 7, 27, 28, 182, 0, 192, 154, 0, 6, 167, 0, 16, 21, 5, 4, 21, 7, 120, 128, 54, 5] = true := by decide +kernel
theorem qd_g437 : qd_bs cX12_draws 79 [21, 7, 54, 6, 132, 7, 255, 167, 255, 221, 21, 6, 155, 0, 27, 21, 4, 153, 0, 18, 42, 180, 0, 19, 16, 19, 46, 21, 6, 184, 0, 131, 154, 0, 7, 4, 167, 0, 4, 3] = true := by decide +kernel
theorem qd_g438 : qd_bs cX12_draws 119 [54, 7, 42, 180, 0, 22, 16, 32, 28, 104, 27, 96, 21, 7, 153, 0, 19, 42, 180, 0, 19, 16, 28, 46, 21, 6, 96, 16, 16, 112, 167, 0, 11, 42, 180, 0, 19, 6, 29, 96] = true := by decide +kernel
theorem qd_g439 : qd_bs cX12_draws 159 [46, 79, 21, 5, 21, 5, 4, 100, 126, 153, 0, 15, 42, 180, 0, 50, 16, 10, 92, 46, 21, 5, 128, 79, 21, 4, 153, 0, 15, 42, 180, 0, 50, 16, 11, 92, 46, 21, 5, 128] = true := by decide +kernel
theorem qd_g440 : qd_bs cX12_draws 199 [79, 177] = true := by decide +kernel
theorem qd_g441 : qd_bs cX12_counts 0 [42, 180, 0, 50, 8, 27, 96, 46, 158, 0, 17, 42, 180, 0, 50, 8, 27, 96, 92, 46, 4, 100, 79, 3, 172, 42, 180, 0, 50, 8, 27, 96, 42, 180, 0, 50, 16, 7, 27, 96] = true := by decide +kernel
theorem qd_g442 : qd_bs cX12_counts 40 [46, 79, 42, 180, 0, 50, 16, 9, 92, 46, 5, 27, 120, 128, 79, 4, 172] = true := by decide +kernel
theorem qd_g443 : qd_bs cX12_times 0 [42, 42, 180, 0, 19, 16, 16, 46, 3, 184, 0, 131, 153, 0, 15, 42, 3, 182, 0, 195, 153, 0, 7, 4, 167, 0, 4, 3, 181, 0, 198, 42, 180, 0, 19, 16, 16, 46, 4] = true := by decide +kernel
theorem qd_g444 : qd_bs cX12_times 39 [184, 0, 131, 153, 0, 30, 42, 180, 0, 198, 154, 0, 17, 42, 180, 0, 19, 16, 16, 46, 5, 184, 0, 131, 154, 0, 9, 42, 4, 182, 0, 195, 87, 177] = true := by decide +kernel
theorem qd_g445 : qd_bs cX12_winds 0 [42, 180, 0, 19, 16, 44, 46, 153, 0, 10, 42, 182, 0, 143, 154, 0, 4, 177, 42, 180, 0, 50, 16, 15, 92, 46, 4, 100, 79, 42, 180, 0, 50, 16, 15, 46, 158, 0, 4, 177] = true := by decide +kernel
theorem qd_g446 : qd_bs cX12_winds 40 [42, 180, 0, 50, 16, 14, 92, 46, 4, 96, 79, 42, 180, 0, 50, 16, 16, 4, 42, 180, 0, 50, 16, 16, 46, 100, 79, 42, 180, 0, 50, 16, 9, 92, 46, 16, 8, 128, 79, 42] = true := by decide +kernel
theorem qd_g447 : qd_bs cX12_winds 80 [180, 0, 50, 16, 15, 42, 182, 0, 143, 153, 0, 18, 42, 180, 0, 32, 42, 180, 0, 50, 16, 14, 46, 46, 167, 0, 4, 3, 79, 177] = true := by decide +kernel
theorem qd_g448 : qd_bs cX12_sounds 0 [16, 32, 7, 27, 104, 96, 61, 42, 180, 0, 38, 27, 46, 42, 180, 0, 19, 28, 46, 96, 17, 1, 0, 42, 180, 0, 19, 28, 4, 96, 46, 104, 96, 62, 42, 180, 0, 38, 27, 29] = true := by decide +kernel
theorem qd_g449 : qd_bs cX12_sounds 40 [18, 202, 112, 79, 29, 18, 203, 164, 0, 46, 42, 180, 0, 47, 27, 42, 180, 0, 47, 27, 46, 5, 108, 42, 180, 0, 47, 27, 46, 5, 112, 42, 180, 0, 47, 27, 46, 5, 108, 5] = true := by decide +kernel
theorem qd_g450 : qd_bs cX12_sounds 80 [112, 160, 0, 7, 3, 167, 0, 6, 17, 64, 0, 96, 79, 42, 180, 0, 19, 28, 5, 96, 46, 3, 184, 0, 131, 54, 4, 42, 180, 0, 44, 27, 92, 46, 4, 96, 79, 42] = true := by decide +kernel
theorem qd_g451 : qd_bs cX12_sounds 118 [180, 0, 44, 27, 46, 21, 4, 153, 0, 17, 42, 180, 0, 19, 28, 6, 96, 46, 16, 16, 112, 167, 0, 14, 42, 180, 0, 19, 28, 6, 96, 46, 16, 16, 108, 163, 0, 4, 177, 42] = true := by decide +kernel
theorem qd_g452 : qd_bs cX12_sounds 158 [180, 0, 44, 27, 3, 79, 42, 180, 0, 41, 27, 21, 4, 153, 0, 19, 16, 15, 42, 180, 0, 41, 27, 46, 4, 96, 184, 0, 204, 167, 0, 15, 3, 42, 180, 0, 41, 27, 46, 4] = true := by decide +kernel
theorem qd_g453 : qd_bs cX12_sounds 198 [100, 184, 0, 209, 79, 177] = true := by decide +kernel
theorem qd_g454 : qd_bs cX12_gives 0 [42, 180, 0, 19, 16, 34, 7, 27, 104, 96, 46, 5, 108, 7, 112, 61, 28, 154, 0, 16, 42, 180, 0, 38, 27, 46, 17, 16, 0, 108, 167, 0, 46, 28, 4, 160, 0, 23, 42] = true := by decide +kernel
theorem qd_g455 : qd_bs cX12_gives 39 [180, 0, 38, 27, 46, 18, 212, 161, 0, 8, 16, 15, 167, 0, 25, 3, 167, 0, 21, 28, 5, 160, 0, 15, 42, 180, 0, 47, 27, 46, 16, 16, 112, 167, 0, 4, 3, 62, 42] = true := by decide +kernel
theorem qd_g456 : qd_bs cX12_gives 78 [180, 0, 19, 16, 34, 7, 27, 104, 96, 46, 6, 184, 0, 131, 153, 0, 25, 42, 180, 0, 38, 27, 5, 96, 6, 112, 46, 18, 212, 161, 0, 10, 16, 15, 29, 100, 167, 0, 4, 29] = true := by decide +kernel
theorem qd_g457 : qd_bs cX12_gives 118 [172] = true := by decide +kernel
theorem qd_g458 : qd_bs cX12_makesSample 0 [3, 60, 27, 6, 162, 0, 14, 42, 27, 182, 0, 213, 132, 1, 1, 167, 255, 243, 3, 60, 3, 61, 28, 6, 162, 0, 24, 27, 42, 28, 182, 0, 217, 42, 180, 0, 41, 28, 46, 104] = true := by decide +kernel
theorem qd_g459 : qd_bs cX12_makesSample 40 [96, 60, 132, 2, 1, 167, 255, 233, 42, 180, 0, 25, 42, 182, 0, 135, 27, 16, 15, 108, 79, 177] = true := by decide +kernel
theorem qd_g460 : qd_bs cX12_passes 0 [42, 180, 0, 123, 20, 0, 127, 113, 136, 60, 27, 154, 0, 28, 42, 182, 0, 135, 42, 180, 0, 19, 16, 9, 46, 160, 0, 14, 42, 180, 0, 50, 16, 9, 92, 46, 4, 128, 79, 42] = true := by decide +kernel
theorem qd_g461 : qd_bs cX12_passes 40 [182, 0, 220, 61, 42, 182, 0, 179, 62, 29, 3, 16, 31, 184, 0, 119, 153, 0, 35, 27, 7, 16, 19, 184, 0, 119, 153, 0, 25, 42, 5, 27, 104, 16, 8, 100, 29, 182, 0, 223] = true := by decide +kernel
theorem qd_g462 : qd_bs cX12_passes 80 [42, 5, 27, 104, 16, 7, 100, 29, 182, 0, 223, 42, 182, 0, 226, 42, 182, 0, 229, 27, 16, 23, 160, 0, 7, 42, 182, 0, 232, 28, 154, 0, 7, 42, 182, 0, 235, 42, 89] = true := by decide +kernel
theorem qd_g463 : qd_bs cX12_passes 119 [180, 0, 238, 28, 153, 0, 7, 10, 167, 0, 4, 9, 97, 181, 0, 238, 42, 89, 180, 0, 123, 10, 97, 181, 0, 123, 28, 172] = true := by decide +kernel
theorem qd_g464 : qd_bs cX12_run 0 [42, 27, 4, 17, 3, 232, 184, 0, 119, 153, 0, 7, 3, 167, 0, 4, 4, 182, 0, 164, 153, 0, 5, 3, 172, 3, 61, 3, 62, 29, 27, 162, 0, 24, 28, 42, 182, 0, 241] = true := by decide +kernel
theorem qd_g465 : qd_bs cX12_run 39 [153, 0, 7, 4, 167, 0, 4, 3, 96, 61, 132, 3, 1, 167, 255, 233, 42, 182, 0, 173, 28, 172] = true := by decide +kernel
theorem qd_g466 : qd_bs cX12_step 0 [42, 42, 180, 0, 53, 16, 7, 51, 153, 0, 7, 4, 167, 0, 4, 3, 182, 0, 164, 153, 0, 5, 3, 172, 42, 180, 0, 50, 16, 19, 46, 60, 3, 61, 28, 17, 0, 200] = true := by decide +kernel
theorem qd_g467 : qd_bs cX12_step 38 [162, 0, 25, 42, 180, 0, 50, 16, 19, 46, 27, 160, 0, 14, 42, 182, 0, 241, 87, 132, 2, 1, 167, 255, 230, 42, 182, 0, 173, 28, 172] = true := by decide +kernel
theorem qd_g468 : qd_bs cX12_cycle 0 [42, 3, 181, 0, 116, 42, 180, 0, 123, 173] = true := by decide +kernel
theorem qd_g469 : qd_bs cX12_isPictures 0 [42, 3, 181, 0, 116, 42, 182, 0, 220, 172] = true := by decide +kernel
theorem qd_g470 : qd_bs cX12_underWay 0 [42, 42, 180, 0, 50, 16, 17, 46, 182, 0, 244, 172] = true := by decide +kernel
theorem qd_g471 : qd_bs cX12_done 0 [42, 42, 180, 0, 50, 16, 19, 46, 182, 0, 244, 172] = true := by decide +kernel
theorem qd_g472 : qd_bs cX12_isJammed 0 [42, 3, 181, 0, 116, 42, 180, 0, 53, 16, 7, 51, 172] = true := by decide +kernel
theorem qd_g473 : qd_bs cX12_traceAt 0 [42, 27, 3, 16, 16, 42, 180, 0, 50, 16, 20, 46, 184, 0, 204, 4, 100, 184, 0, 119, 153, 0, 7, 3, 167, 0, 4, 4, 182, 0, 164, 153, 0, 7, 3, 167, 0, 22, 42] = true := by decide +kernel
theorem qd_g474 : qd_bs cX12_traceAt 39 [180, 0, 35, 42, 180, 0, 50, 16, 20, 46, 4, 100, 27, 100, 16, 16, 112, 46, 172] = true := by decide +kernel
theorem qd_g475 : qd_bs cX12_operationOf 0 [26, 17, 0, 128, 162, 0, 10, 26, 16, 8, 108, 167, 0, 31, 26, 17, 0, 192, 17, 0, 231, 184, 0, 119, 153, 0, 17, 16, 16, 26, 17, 0, 192, 100, 16, 8, 108, 96] = true := by decide +kernel
theorem qd_g476 : qd_bs cX12_operationOf 38 [167, 0, 4, 2, 172] = true := by decide +kernel
theorem qd_g477 : qd_bs cX12_isWriting 0 [26, 6, 8, 184, 0, 119, 154, 0, 25, 26, 16, 14, 16, 15, 184, 0, 119, 154, 0, 14, 26, 16, 17, 16, 19, 184, 0, 119, 153, 0, 7, 4, 167, 0, 4, 3, 172] = true := by decide +kernel
theorem qd_g478 : qd_bs cX12_lengthOf 0 [26, 184, 0, 247, 60, 27, 155, 0, 21, 26, 16, 8, 112, 6, 8, 184, 0, 119, 153, 0, 7, 6, 167, 0, 4, 5, 172, 26, 17, 0, 157, 17, 0, 159, 184, 0, 119, 153, 0, 5] = true := by decide +kernel
theorem qd_g479 : qd_bs cX12_lengthOf 40 [6, 172, 26, 17, 0, 160, 17, 0, 167, 184, 0, 119, 153, 0, 7, 5, 167, 0, 4, 4, 172] = true := by decide +kernel
theorem qd_g480 : qd_bs cX12_byteAt 0 [42, 27, 184, 0, 176, 182, 0, 167, 172] = true := by decide +kernel
theorem qd_g481 : qd_bs cX12_wordAt 0 [42, 27, 182, 0, 250, 17, 1, 0, 42, 27, 4, 96, 182, 0, 250, 104, 96, 184, 0, 176, 172] = true := by decide +kernel
theorem qd_g482 : qd_bs cX12_baseOf 0 [27, 16, 6, 162, 0, 11, 42, 28, 4, 96, 182, 0, 253, 172, 42, 28, 4, 96, 182, 0, 250, 62, 42, 29, 182, 0, 250, 17, 1, 0, 42, 29, 4, 96, 17, 1, 0, 112] = true := by decide +kernel
theorem qd_g483 : qd_bs cX12_baseOf 38 [182, 0, 250, 104, 96, 184, 0, 176, 172] = true := by decide +kernel
theorem qd_g484 : qd_bs cX12_addressOf 0 [27, 4, 160, 0, 11, 42, 28, 4, 96, 182, 0, 250, 172, 27, 5, 160, 0, 22, 42, 28, 4, 96, 182, 0, 250, 42, 180, 0, 50, 4, 46, 96, 17, 1, 0, 112, 172, 27, 6] = true := by decide +kernel
theorem qd_g485 : qd_bs cX12_addressOf 39 [160, 0, 11, 42, 28, 4, 96, 182, 0, 253, 172, 27, 7, 160, 0, 20, 42, 27, 28, 182, 1, 0, 42, 180, 0, 50, 4, 46, 96, 184, 0, 176, 172, 27, 16, 7, 162, 0, 20, 42] = true := by decide +kernel
theorem qd_g486 : qd_bs cX12_addressOf 79 [27, 28, 182, 1, 0, 42, 180, 0, 50, 5, 46, 96, 184, 0, 176, 172, 42, 28, 4, 96, 182, 0, 250, 42, 180, 0, 50, 4, 46, 96, 17, 1, 0, 112, 62, 42, 29, 182, 0, 250] = true := by decide +kernel
theorem qd_g487 : qd_bs cX12_addressOf 119 [17, 1, 0, 42, 29, 4, 96, 17, 1, 0, 112, 182, 0, 250, 104, 96, 184, 0, 176, 172] = true := by decide +kernel
theorem qd_g488 : qd_bs cX12_modeCycles 0 [28, 154, 0, 5, 5, 172, 27, 16, 14, 16, 15, 184, 0, 119, 154, 0, 14, 27, 16, 18, 16, 19, 184, 0, 119, 153, 0, 7, 5, 167, 0, 4, 3, 54, 4, 28, 4, 160, 0, 7] = true := by decide +kernel
theorem qd_g489 : qd_bs cX12_modeCycles 40 [6, 167, 0, 16, 28, 16, 6, 162, 0, 7, 7, 167, 0, 6, 28, 4, 100, 54, 5, 28, 7, 16, 6, 184, 0, 119, 154, 0, 9, 21, 5, 21, 4, 96, 172, 42, 28, 29] = true := by decide +kernel
theorem qd_g490 : qd_bs cX12_modeCycles 78 [182, 1, 0, 17, 1, 0, 108, 42, 28, 29, 182, 1, 3, 17, 1, 0, 108, 159, 0, 7, 4, 167, 0, 4, 3, 54, 6, 21, 5, 21, 4, 96, 21, 6, 154, 0, 10, 27] = true := by decide +kernel
theorem qd_g491 : qd_bs cX12_modeCycles 116 [184, 1, 6, 153, 0, 7, 4, 167, 0, 4, 3, 96, 172] = true := by decide +kernel
theorem qd_g492 : qd_bs cX12_isTaken 0 [27, 17, 0, 162, 162, 0, 12, 42, 180, 0, 53, 7, 51, 167, 0, 41, 27, 17, 0, 164, 162, 0, 12, 42, 180, 0, 53, 8, 51, 167, 0, 25, 27, 17, 0, 166, 162, 0, 12, 42] = true := by decide +kernel
theorem qd_g493 : qd_bs cX12_isTaken 40 [180, 0, 53, 3, 51, 167, 0, 9, 42, 180, 0, 53, 4, 51, 61, 28, 27, 17, 0, 161, 159, 0, 24, 27, 17, 0, 163, 159, 0, 17, 27, 17, 0, 165, 159, 0, 10, 27] = true := by decide +kernel
theorem qd_g494 : qd_bs cX12_isTaken 78 [17, 0, 167, 160, 0, 7, 4, 167, 0, 4, 3, 160, 0, 7, 4, 167, 0, 4, 3, 172] = true := by decide +kernel
theorem qd_g495 : qd_bs cX12_targetOf 0 [42, 27, 4, 96, 182, 0, 250, 61, 27, 5, 96, 28, 16, 127, 164, 0, 11, 28, 17, 1, 0, 100, 167, 0, 4, 28, 96, 184, 0, 176, 172] = true := by decide +kernel
theorem qd_g496 : qd_bs cX12_cyclesOf 0 [42, 27, 182, 0, 250, 61, 28, 184, 0, 247, 62, 29, 155, 0, 14, 42, 29, 28, 16, 8, 112, 27, 182, 1, 9, 172, 28, 17, 0, 160, 17, 0, 167, 184, 0, 119, 153, 0, 43, 42] = true := by decide +kernel
theorem qd_g497 : qd_bs cX12_cyclesOf 40 [28, 182, 1, 13, 154, 0, 7, 5, 167, 0, 30, 27, 5, 96, 184, 0, 176, 17, 1, 0, 108, 42, 27, 182, 1, 16, 17, 1, 0, 108, 160, 0, 7, 6, 167, 0, 4, 7, 172, 28] = true := by decide +kernel
theorem qd_g498 : qd_bs cX12_cyclesOf 80 [17, 0, 138, 159, 0, 17, 28, 17, 0, 140, 159, 0, 10, 28, 17, 0, 157, 160, 0, 5, 6, 172, 28, 17, 0, 139, 159, 0, 10, 28, 17, 0, 141, 160, 0, 5, 7, 172, 28] = true := by decide +kernel
theorem qd_g499 : qd_bs cX12_cyclesOf 119 [17, 0, 159, 160, 0, 5, 8, 172, 28, 17, 0, 155, 159, 0, 17, 28, 17, 0, 156, 159, 0, 10, 28, 17, 0, 158, 160, 0, 6, 16, 6, 172, 28, 17, 0, 154, 160, 0, 8] = true := by decide +kernel
theorem qd_g500 : qd_bs cX12_cyclesOf 158 [16, 7, 167, 0, 4, 5, 172] = true := by decide +kernel
theorem qd_g501 : qd_bs cX12_pushes 0 [42, 180, 0, 7, 17, 1, 0, 42, 180, 0, 50, 6, 46, 96, 27, 79, 42, 180, 0, 50, 6, 42, 180, 0, 50, 6, 46, 17, 0, 255, 96, 17, 1, 0, 112, 79, 177] = true := by decide +kernel
theorem qd_g502 : qd_bs cX12_pulls 0 [42, 180, 0, 50, 6, 42, 180, 0, 50, 6, 46, 4, 96, 17, 1, 0, 112, 79, 42, 180, 0, 7, 17, 1, 0, 42, 180, 0, 50, 6, 46, 96, 46, 172] = true := by decide +kernel
theorem qd_g503 : qd_bs cX12_bit 0 [42, 180, 0, 53, 27, 51, 153, 0, 7, 28, 167, 0, 4, 3, 172] = true := by decide +kernel
theorem qd_g504 : qd_bs cX12_statusWith 0 [42, 8, 4, 182, 1, 19, 42, 7, 5, 182, 1, 19, 96, 42, 6, 7, 182, 1, 19, 96, 42, 5, 16, 8, 182, 1, 19, 96, 27, 96, 16, 32, 96, 42, 4, 16, 64, 182, 1, 19] = true := by decide +kernel
theorem qd_g505 : qd_bs cX12_statusWith 40 [96, 42, 3, 17, 0, 128, 182, 1, 19, 96, 172] = true := by decide +kernel
theorem qd_g506 : qd_bs cX12_becomesStatus 0 [42, 180, 0, 53, 8, 27, 3, 184, 0, 131, 84, 42, 180, 0, 53, 7, 27, 4, 184, 0, 131, 84, 42, 180, 0, 53, 6, 27, 5, 184, 0, 131, 84, 42, 180, 0, 53, 5, 27, 6] = true := by decide +kernel
theorem qd_g507 : qd_bs cX12_becomesStatus 40 [184, 0, 131, 84, 42, 180, 0, 53, 4, 27, 16, 6, 184, 0, 131, 84, 42, 180, 0, 53, 3, 27, 16, 7, 184, 0, 131, 84, 177] = true := by decide +kernel
theorem qd_g508 : qd_bs cX12_interrupts 0 [42, 28, 17, 1, 0, 108, 182, 1, 22, 42, 28, 17, 1, 0, 112, 182, 1, 22, 42, 42, 29, 182, 1, 25, 182, 1, 22, 42, 180, 0, 53, 6, 4, 84, 42, 180, 0, 50, 7, 42] = true := by decide +kernel
theorem qd_g509 : qd_bs cX12_interrupts 40 [27, 182, 0, 253, 79, 177] = true := by decide +kernel
theorem qd_g510 : qd_bs cX12_sets 0 [42, 180, 0, 53, 7, 27, 154, 0, 7, 4, 167, 0, 4, 3, 84, 42, 180, 0, 53, 3, 27, 16, 127, 164, 0, 7, 4, 167, 0, 4, 3, 84, 27, 172] = true := by decide +kernel
theorem qd_g511 : qd_bs cX12_becomes 0 [42, 180, 0, 50, 27, 42, 28, 182, 1, 28, 79, 177] = true := by decide +kernel
theorem qd_g512 : qd_bs cX12_compares 0 [42, 180, 0, 53, 8, 42, 180, 0, 50, 27, 46, 28, 161, 0, 7, 4, 167, 0, 4, 3, 84, 42, 42, 180, 0, 50, 27, 46, 28, 100, 17, 0, 255, 126, 182, 1, 28, 87, 177] = true := by decide +kernel
theorem qd_g513 : qd_bs cX12_adds 0 [42, 180, 0, 50, 3, 46, 27, 96, 42, 8, 4, 182, 1, 19, 96, 61, 42, 180, 0, 53, 4, 42, 180, 0, 50, 3, 46, 28, 130, 27, 28, 130, 126, 17, 0, 128, 126, 153, 0, 7] = true := by decide +kernel
theorem qd_g514 : qd_bs cX12_adds 40 [4, 167, 0, 4, 3, 84, 42, 180, 0, 53, 8, 28, 17, 0, 255, 164, 0, 7, 4, 167, 0, 4, 3, 84, 42, 180, 0, 50, 3, 28, 17, 1, 0, 112, 79, 177] = true := by decide +kernel
theorem qd_g515 : qd_bs cX12_addsDecimal 0 [27, 16, 16, 112, 28, 16, 16, 112, 96, 29, 96, 54, 4, 27, 16, 16, 108, 28, 16, 16, 108, 96, 21, 4, 16, 9, 164, 0, 7, 4, 167, 0, 4, 3, 96, 54, 5, 21, 4] = true := by decide +kernel
theorem qd_g516 : qd_bs cX12_addsDecimal 39 [21, 4, 16, 9, 164, 0, 8, 16, 10, 167, 0, 4, 3, 100, 54, 4, 42, 180, 0, 53, 8, 21, 5, 16, 9, 164, 0, 7, 4, 167, 0, 4, 3, 84, 21, 5, 21, 5, 16, 9] = true := by decide +kernel
theorem qd_g517 : qd_bs cX12_addsDecimal 79 [164, 0, 8, 16, 10, 167, 0, 4, 3, 100, 54, 5, 42, 180, 0, 50, 3, 16, 16, 21, 5, 104, 21, 4, 96, 17, 0, 255, 126, 79, 177] = true := by decide +kernel
theorem qd_g518 : qd_bs cX12_takesDecimal 0 [27, 16, 16, 112, 28, 16, 16, 112, 100, 4, 100, 29, 96, 54, 4, 27, 16, 16, 108, 28, 16, 16, 108, 100, 21, 4, 156, 0, 7, 4, 167, 0, 4, 3, 100, 54, 5, 21, 4] = true := by decide +kernel
theorem qd_g519 : qd_bs cX12_takesDecimal 39 [21, 4, 156, 0, 8, 16, 10, 167, 0, 4, 3, 96, 54, 4, 42, 180, 0, 53, 8, 21, 5, 155, 0, 7, 4, 167, 0, 4, 3, 84, 21, 5, 21, 5, 156, 0, 8, 16, 10] = true := by decide +kernel
theorem qd_g520 : qd_bs cX12_takesDecimal 78 [167, 0, 4, 3, 96, 54, 5, 42, 180, 0, 50, 3, 16, 16, 21, 5, 104, 21, 4, 96, 17, 0, 255, 126, 79, 177] = true := by decide +kernel
theorem qd_g521 : qd_bs cX12_calculates 0 [42, 180, 0, 50, 3, 46, 62, 42, 8, 4, 182, 1, 19, 54, 4, 42, 27, 153, 0, 7, 28, 167, 0, 8, 17, 0, 255, 28, 100, 182, 1, 31, 42, 180, 0, 53, 5, 51] = true := by decide +kernel
theorem qd_g522 : qd_bs cX12_calculates 38 [153, 0, 18, 27, 153, 0, 14, 42, 29, 28, 21, 4, 182, 1, 34, 167, 0, 20, 42, 180, 0, 53, 5, 51, 153, 0, 11, 42, 29, 28, 21, 4, 182, 1, 38, 42, 42, 180, 0, 50] = true := by decide +kernel
theorem qd_g523 : qd_bs cX12_calculates 78 [3, 46, 182, 1, 28, 87, 177] = true := by decide +kernel
theorem qd_g524 : qd_bs cX12_takes 0 [42, 27, 182, 0, 167, 61, 27, 17, 15, 29, 160, 0, 11, 42, 180, 0, 50, 16, 10, 3, 79, 27, 17, 15, 30, 160, 0, 11, 42, 180, 0, 50, 16, 11, 3, 79, 28, 172] = true := by decide +kernel
theorem qd_g525 : qd_bs cX12_operates 0 [27] = true := by decide +kernel
theorem dX12_operates_1 : decode cX12_operates 1 = .ok (.tableswitch 219 0 16 #[83, 92, 101, 219, 219, 219, 110, 119, 128, 144, 160, 176, 185, 194, 219, 219, 203], 83) := by decide +kernel
theorem qd_g526 : qd_bs cX12_operates 84 [42, 3, 28, 182, 1, 41, 167, 0, 176, 42, 4, 28, 182, 1, 41, 167, 0, 167, 42, 5, 28, 182, 1, 41, 167, 0, 158, 42, 4, 28, 182, 1, 44, 167, 0, 149, 42, 3, 28] = true := by decide +kernel
theorem qd_g527 : qd_bs cX12_operates 123 [182, 1, 44, 167, 0, 140, 42, 3, 42, 180, 0, 50, 3, 46, 28, 126, 182, 1, 41, 167, 0, 124, 42, 3, 42, 180, 0, 50, 3, 46, 28, 128, 182, 1, 41, 167, 0, 108, 42, 3] = true := by decide +kernel
theorem qd_g528 : qd_bs cX12_operates 163 [42, 180, 0, 50, 3, 46, 28, 130, 182, 1, 41, 167, 0, 92, 42, 3, 28, 182, 1, 48, 167, 0, 83, 42, 4, 28, 182, 1, 48, 167, 0, 74, 42, 5, 28, 182, 1, 48] = true := by decide +kernel
theorem qd_g529 : qd_bs cX12_operates 201 [167, 0, 65, 42, 3, 28, 182, 1, 41, 42, 180, 0, 50, 4, 28, 79, 167, 0, 49, 42, 180, 0, 53, 7, 42, 180, 0, 50, 3, 46, 28, 126, 154, 0, 7, 4, 167, 0, 4, 3] = true := by decide +kernel
theorem qd_g530 : qd_bs cX12_operates 241 [84, 42, 180, 0, 53, 3, 28, 16, 7, 184, 0, 131, 84, 42, 180, 0, 53, 4, 28, 16, 6, 184, 0, 131, 84, 177] = true := by decide +kernel
theorem qd_g531 : qd_bs cX12_changes 0 [27, 16, 14, 162, 0, 7, 3, 167, 0, 18, 27, 16, 17, 160, 0, 7, 3, 167, 0, 8, 42, 28, 182, 1, 51, 62, 27, 16, 14, 159, 0, 9, 27, 16, 19, 160, 0, 13, 29, 4] = true := by decide +kernel
theorem qd_g532 : qd_bs cX12_changes 40 [96, 17, 0, 255, 126, 167, 0, 10, 29, 4, 100, 17, 0, 255, 126, 54, 4, 27] = true := by decide +kernel
theorem dX12_changes_58 : decode cX12_changes 58 = .ok (.lookupswitch 105 #[(3, 42), (4, 56), (5, 70), (17, 84)], 42) := by decide +kernel
theorem qd_g533 : qd_bs cX12_changes 100 [42, 28, 42, 180, 0, 50, 3, 46, 182, 0, 170, 167, 0, 98, 42, 28, 42, 180, 0, 50, 4, 46, 182, 0, 170, 167, 0, 84, 42, 28, 42, 180, 0, 50, 5, 46, 182, 0, 170] = true := by decide +kernel
theorem qd_g534 : qd_bs cX12_changes 139 [167, 0, 70, 42, 28, 42, 180, 0, 50, 3, 46, 42, 180, 0, 50, 4, 46, 126, 182, 0, 170, 167, 0, 49, 42, 28, 21, 4, 182, 0, 170, 27, 16, 18, 160, 0, 13, 42, 3] = true := by decide +kernel
theorem qd_g535 : qd_bs cX12_changes 178 [21, 4, 182, 1, 48, 167, 0, 26, 27, 16, 19, 160, 0, 13, 42, 3, 21, 4, 182, 1, 44, 167, 0, 10, 42, 21, 4, 182, 1, 28, 87, 177] = true := by decide +kernel
theorem qd_g536 : qd_bs cX12_doesMode 0 [27, 184, 1, 6, 153, 0, 21, 28, 158, 0, 46, 42, 27, 42, 28, 29, 182, 1, 3, 182, 1, 54, 167, 0, 32, 42, 27, 28, 154, 0, 13, 42, 29, 4, 96, 182, 0, 250] = true := by decide +kernel
theorem qd_g537 : qd_bs cX12_doesMode 38 [167, 0, 13, 42, 42, 28, 29, 182, 1, 3, 182, 1, 51, 182, 1, 57, 177] = true := by decide +kernel
theorem qd_g538 : qd_bs cX12_shifts 0 [42, 180, 0, 50, 3, 46, 61, 42, 8, 4, 182, 1, 19, 62, 42, 180, 0, 53, 8, 28, 27, 5, 112, 154, 0, 8, 16, 7, 167, 0, 4, 3, 184, 0, 131, 84, 42, 3, 27] = true := by decide +kernel
theorem qd_g539 : qd_bs cX12_shifts 39 [17, 0, 150, 160, 0, 13, 28, 5, 104, 17, 0, 255, 126, 167, 0, 44, 27, 17, 0, 151, 160, 0, 9, 28, 5, 108, 167, 0, 31, 27, 17, 0, 152, 160, 0, 15, 28, 5, 104, 29] = true := by decide +kernel
theorem qd_g540 : qd_bs cX12_shifts 79 [96, 17, 0, 255, 126, 167, 0, 12, 28, 5, 108, 17, 0, 128, 29, 104, 96, 182, 1, 41, 177] = true := by decide +kernel
theorem qd_g541 : qd_bs cX12_doesOther 0 [27] = true := by decide +kernel
theorem dX12_doesOther_1 : decode cX12_doesOther 1 = .ok (.tableswitch 414 128 153 #[119, 139, 159, 179, 199, 213, 227, 241, 255, 269, 284, 297, 309, 322, 333, 343, 353, 363, 373, 383, 393, 403, 406, 406, 406, 406], 119) := by decide +kernel
theorem qd_g542 : qd_bs cX12_doesOther 120 [42, 4, 42, 180, 0, 50, 4, 46, 4, 96, 17, 0, 255, 126, 182, 1, 41, 167, 1, 30, 42, 4, 42, 180, 0, 50, 4, 46, 4, 100, 17, 0, 255, 126, 182, 1, 41, 167, 1, 10] = true := by decide +kernel
theorem qd_g543 : qd_bs cX12_doesOther 160 [42, 5, 42, 180, 0, 50, 5, 46, 4, 96, 17, 0, 255, 126, 182, 1, 41, 167, 0, 246, 42, 5, 42, 180, 0, 50, 5, 46, 4, 100, 17, 0, 255, 126, 182, 1, 41, 167, 0, 226] = true := by decide +kernel
theorem qd_g544 : qd_bs cX12_doesOther 200 [42, 4, 42, 180, 0, 50, 3, 46, 182, 1, 41, 167, 0, 212, 42, 3, 42, 180, 0, 50, 4, 46, 182, 1, 41, 167, 0, 198, 42, 5, 42, 180, 0, 50, 3, 46, 182, 1, 41] = true := by decide +kernel
theorem qd_g545 : qd_bs cX12_doesOther 239 [167, 0, 184, 42, 3, 42, 180, 0, 50, 5, 46, 182, 1, 41, 167, 0, 170, 42, 4, 42, 180, 0, 50, 6, 46, 182, 1, 41, 167, 0, 156, 42, 180, 0, 50, 6, 42, 180, 0, 50] = true := by decide +kernel
theorem qd_g546 : qd_bs cX12_doesOther 279 [4, 46, 79, 167, 0, 141, 42, 42, 180, 0, 50, 3, 46, 182, 1, 22, 167, 0, 128, 42, 3, 42, 182, 1, 60, 182, 1, 41, 167, 0, 116, 42, 42, 16, 16, 182, 1, 25] = true := by decide +kernel
theorem qd_g547 : qd_bs cX12_doesOther 317 [182, 1, 22, 167, 0, 103, 42, 42, 182, 1, 60, 182, 1, 63, 167, 0, 92, 42, 180, 0, 53, 8, 4, 84, 167, 0, 82, 42, 180, 0, 53, 8, 3, 84, 167, 0, 72, 42] = true := by decide +kernel
theorem qd_g548 : qd_bs cX12_doesOther 355 [180, 0, 53, 5, 4, 84, 167, 0, 62, 42, 180, 0, 53, 5, 3, 84, 167, 0, 52, 42, 180, 0, 53, 6, 4, 84, 167, 0, 42, 42, 180, 0, 53, 6, 3, 84, 167, 0, 32, 42] = true := by decide +kernel
theorem qd_g549 : qd_bs cX12_doesOther 395 [180, 0, 53, 4, 3, 84, 167, 0, 22, 167, 0, 19, 42, 27, 182, 1, 66, 167, 0, 11, 42, 180, 0, 53, 16, 7, 4, 84, 42, 180, 0, 50, 7, 28, 4, 96, 184, 0, 176, 79] = true := by decide +kernel
theorem qd_g550 : qd_bs cX12_doesOther 435 [177] = true := by decide +kernel
theorem qd_g551 : qd_bs cX12_pulledAddress 0 [42, 182, 1, 60, 61, 28, 17, 1, 0, 42, 182, 1, 60, 104, 96, 27, 96, 184, 0, 176, 172] = true := by decide +kernel
theorem qd_g552 : qd_bs cX12_jumps 0 [42, 28, 4, 96, 182, 0, 253, 62, 27, 17, 0, 158, 160, 0, 31, 28, 5, 96, 184, 0, 176, 54, 4, 42, 21, 4, 17, 1, 0, 108, 182, 1, 22, 42, 21, 4, 17, 1, 0, 112] = true := by decide +kernel
theorem qd_g553 : qd_bs cX12_jumps 40 [182, 1, 22, 42, 180, 0, 50, 7, 27, 17, 0, 159, 160, 0, 40, 42, 29, 182, 0, 250, 17, 1, 0, 42, 29, 17, 1, 0, 108, 17, 1, 0, 104, 29, 4, 96, 17, 1, 0, 112] = true := by decide +kernel
theorem qd_g554 : qd_bs cX12_jumps 80 [96, 182, 0, 250, 104, 96, 184, 0, 176, 167, 0, 4, 29, 79, 177] = true := by decide +kernel
theorem qd_g555 : qd_bs cX12_does 0 [42, 27, 182, 0, 250, 61, 28, 184, 0, 247, 62, 29, 155, 0, 35, 28, 184, 1, 69, 54, 4, 42, 29, 28, 16, 8, 112, 27, 182, 1, 72, 42, 180, 0, 50, 7, 27, 21, 4, 96] = true := by decide +kernel
theorem qd_g556 : qd_bs cX12_does 40 [184, 0, 176, 79, 167, 0, 150, 28, 17, 0, 154, 160, 0, 21, 42, 17, 14, 254, 27, 4, 96, 184, 0, 176, 16, 16, 182, 1, 75, 167, 0, 125, 28, 17, 0, 155, 160, 0, 25, 42] = true := by decide +kernel
theorem qd_g557 : qd_bs cX12_does 80 [42, 182, 1, 60, 182, 1, 63, 42, 180, 0, 50, 7, 42, 3, 182, 1, 78, 79, 167, 0, 96, 28, 17, 0, 156, 160, 0, 17, 42, 180, 0, 50, 7, 42, 4, 182, 1, 78, 79] = true := by decide +kernel
theorem qd_g558 : qd_bs cX12_does 119 [167, 0, 75, 28, 17, 0, 157, 17, 0, 159, 184, 0, 119, 153, 0, 12, 42, 28, 27, 182, 1, 81, 167, 0, 53, 28, 17, 0, 160, 17, 0, 167, 184, 0, 119, 153, 0, 34, 42] = true := by decide +kernel
theorem qd_g559 : qd_bs cX12_does 158 [180, 0, 50, 7, 42, 28, 182, 1, 13, 153, 0, 11, 42, 27, 182, 1, 16, 167, 0, 9, 27, 5, 96, 184, 0, 176, 79, 167, 0, 9, 42, 28, 27, 182, 1, 84, 42, 180, 0, 35] = true := by decide +kernel
theorem qd_g560 : qd_bs cX12_does 198 [42, 180, 0, 50, 16, 20, 46, 16, 16, 112, 27, 79, 42, 180, 0, 50, 16, 20, 92, 46, 4, 96, 79, 177] = true := by decide +kernel
theorem qd_g561 : qd_bs cX12_begins 0 [42, 180, 0, 50, 16, 18, 42, 180, 0, 53, 16, 6, 51, 153, 0, 9, 17, 14, 250, 167, 0, 37, 42, 180, 0, 50, 16, 9, 46, 42, 180, 0, 19, 16, 11, 46, 126, 153, 0, 18] = true := by decide +kernel
theorem qd_g562 : qd_bs cX12_begins 40 [42, 180, 0, 53, 6, 51, 154, 0, 9, 17, 14, 254, 167, 0, 4, 3, 79, 42, 180, 0, 53, 16, 6, 51, 153, 0, 11, 42, 180, 0, 53, 16, 6, 3, 84, 42, 180, 0, 50] = true := by decide +kernel
theorem qd_g563 : qd_bs cX12_begins 79 [16, 17, 42, 180, 0, 50, 16, 18, 46, 158, 0, 8, 16, 7, 167, 0, 13, 42, 42, 180, 0, 50, 7, 46, 182, 1, 87, 79, 177] = true := by decide +kernel
theorem qd_g564 : qd_bs cX12_goesOn 0 [42, 180, 0, 53, 16, 7, 51, 153, 0, 4, 177, 42, 180, 0, 50, 16, 17, 46, 154, 0, 7, 42, 182, 1, 90, 42, 180, 0, 50, 16, 17, 92, 46, 4, 100, 79, 42, 180, 0, 50] = true := by decide +kernel
theorem qd_g565 : qd_bs cX12_goesOn 40 [16, 17, 46, 158, 0, 4, 177, 42, 180, 0, 50, 16, 19, 92, 46, 4, 96, 79, 42, 180, 0, 50, 16, 18, 46, 158, 0, 24, 42, 42, 180, 0, 50, 16, 18, 46, 42, 180, 0, 50] = true := by decide +kernel
theorem qd_g566 : qd_bs cX12_goesOn 80 [7, 46, 3, 182, 1, 75, 167, 0, 13, 42, 42, 180, 0, 50, 7, 46, 182, 1, 93, 177] = true := by decide +kernel
theorem qd_g567 : qd_bs cX12_assemble 0 [42, 27, 184, 0, 157, 153, 0, 7, 4, 167, 0, 44, 28, 184, 0, 161, 154, 0, 32, 29, 3, 28, 17, 0, 255, 126, 184, 1, 69, 5, 160, 0, 9, 17, 0, 255, 167, 0, 6] = true := by decide +kernel
theorem qd_g568 : qd_bs cX12_assemble 39 [17, 15, 255, 184, 0, 119, 154, 0, 7, 5, 167, 0, 4, 3, 182, 0, 164, 153, 0, 5, 3, 172, 42, 27, 28, 182, 0, 170, 28, 184, 1, 69, 4, 164, 0, 18, 42, 27, 4, 96] = true := by decide +kernel
theorem qd_g569 : qd_bs cX12_assemble 79 [184, 0, 176, 29, 17, 1, 0, 112, 182, 0, 170, 28, 184, 1, 69, 5, 164, 0, 18, 42, 27, 5, 96, 184, 0, 176, 29, 17, 1, 0, 108, 182, 0, 170, 42, 182, 0, 173, 27, 28] = true := by decide +kernel
theorem qd_g570 : qd_bs cX12_assemble 119 [184, 1, 69, 96, 184, 0, 176, 172] = true := by decide +kernel
theorem qd_g571 : qd_bs cX12_puts 0 [42, 180, 0, 109, 42, 180, 1, 96, 27, 85, 42, 89, 180, 1, 96, 4, 96, 181, 1, 96, 177] = true := by decide +kernel
theorem qd_g572 : qd_bs cX12_putsNumber 0 [27, 16, 10, 161, 0, 11, 42, 27, 16, 10, 108, 182, 1, 99, 42, 16, 48, 27, 16, 10, 112, 96, 146, 182, 1, 102, 177] = true := by decide +kernel
theorem qd_g573 : qd_bs cX12_putsName 0 [27, 184, 0, 247, 61, 3, 62, 29, 6, 162, 0, 42, 42, 28, 155, 0, 15, 178, 1, 106, 6, 28, 104, 29, 96, 52, 167, 0, 16, 178, 1, 109, 6, 27, 17, 0, 128, 100, 104, 29] = true := by decide +kernel
theorem qd_g574 : qd_bs cX12_putsName 40 [96, 52, 182, 1, 102, 132, 3, 1, 167, 255, 215, 177] = true := by decide +kernel
theorem qd_g575 : qd_bs cX12_putsMode 0 [42, 16, 32, 182, 1, 102, 27, 154, 0, 9, 42, 16, 35, 182, 1, 102, 27, 8, 164, 0, 9, 42, 16, 40, 182, 1, 102, 42, 27, 6, 8, 184, 0, 119, 153, 0, 13, 42, 28, 4] = true := by decide +kernel
theorem qd_g576 : qd_bs cX12_putsMode 40 [96, 182, 0, 253, 167, 0, 10, 42, 28, 4, 96, 182, 0, 250, 182, 1, 99, 27, 16, 6, 160, 0, 9, 42, 16, 41, 182, 1, 102, 27, 5, 159, 0, 8, 27, 6, 164, 0, 9, 42] = true := by decide +kernel
theorem qd_g577 : qd_bs cX12_putsMode 80 [16, 44, 182, 1, 102, 27, 5, 159, 0, 14, 27, 7, 159, 0, 9, 27, 16, 7, 160, 0, 9, 42, 16, 120, 182, 1, 102, 27, 8, 159, 0, 9, 27, 16, 6, 160, 0, 9, 42] = true := by decide +kernel
theorem qd_g578 : qd_bs cX12_putsMode 119 [16, 121, 182, 1, 102, 27, 16, 7, 160, 0, 9, 42, 16, 41, 182, 1, 102, 177] = true := by decide +kernel
theorem qd_g579 : qd_bs cX12_putsOther 0 [27, 184, 1, 69, 4, 160, 0, 4, 177, 42, 16, 32, 182, 1, 102, 27, 17, 0, 159, 160, 0, 9, 42, 16, 40, 182, 1, 102, 42, 27, 184, 1, 69, 5, 160, 0, 11, 42, 28] = true := by decide +kernel
theorem qd_g580 : qd_bs cX12_putsOther 39 [182, 1, 16, 167, 0, 10, 42, 28, 4, 96, 182, 0, 253, 182, 1, 99, 27, 17, 0, 159, 160, 0, 9, 42, 16, 41, 182, 1, 102, 177] = true := by decide +kernel
theorem qd_g581 : qd_bs cX12_isJam 0 [26, 184, 0, 247, 156, 0, 20, 26, 17, 0, 128, 17, 0, 167, 184, 0, 119, 154, 0, 7, 4, 167, 0, 4, 3, 172] = true := by decide +kernel
theorem qd_g582 : qd_bs cX12_writeLine 0 [42, 27, 184, 0, 157, 153, 0, 7, 4, 167, 0, 4, 3, 182, 0, 164, 153, 0, 5, 3, 172, 42, 27, 182, 0, 250, 61, 42, 3, 181, 1, 96, 42, 27, 182, 1, 99, 42, 16, 32] = true := by decide +kernel
theorem qd_g583 : qd_bs cX12_writeLine 40 [182, 1, 102, 28, 184, 1, 112, 153, 0, 26, 42, 16, 106, 182, 1, 102, 42, 16, 97, 182, 1, 102, 42, 16, 109, 182, 1, 102, 42, 180, 1, 96, 172, 42, 28, 182, 1, 115, 28] = true := by decide +kernel
theorem qd_g584 : qd_bs cX12_writeLine 79 [184, 0, 247, 155, 0, 15, 42, 28, 16, 8, 112, 27, 182, 1, 118, 167, 0, 9, 42, 28, 27, 182, 1, 121, 42, 180, 1, 96, 172] = true := by decide +kernel
theorem qd_g585 : qd_bs cX12_lineAt 0 [42, 27, 3, 42, 180, 1, 96, 4, 100, 184, 0, 119, 153, 0, 7, 3, 167, 0, 4, 4, 182, 0, 164, 153, 0, 8, 16, 32, 167, 0, 9, 42, 180, 0, 109, 27, 52, 172] = true := by decide +kernel
theorem qd_g586 : qd_bs cX12_register 0 [42, 27, 3, 7, 184, 0, 119, 153, 0, 7, 3, 167, 0, 4, 4, 182, 0, 164, 153, 0, 7, 3, 167, 0, 9, 42, 180, 0, 50, 27, 46, 172] = true := by decide +kernel
theorem qd_g587 : qd_bs cX12_setRegister 0 [42, 27, 3, 7, 184, 0, 119, 154, 0, 7, 4, 167, 0, 44, 28, 3, 27, 7, 160, 0, 9, 17, 15, 255, 167, 0, 6, 17, 0, 255, 184, 0, 119, 154, 0, 7, 5, 167, 0, 18] = true := by decide +kernel
theorem qd_g588 : qd_bs cX12_setRegister 40 [42, 180, 0, 50, 16, 17, 46, 158, 0, 7, 6, 167, 0, 4, 3, 182, 0, 164, 153, 0, 5, 3, 172, 42, 180, 0, 50, 27, 46, 62, 42, 180, 0, 50, 27, 28, 79, 42] = true := by decide +kernel
theorem qd_g589 : qd_bs cX12_setRegister 78 [182, 0, 173, 29, 172] = true := by decide +kernel
theorem qd_g590 : qd_bs cX12_status 0 [42, 42, 16, 16, 182, 1, 25, 182, 0, 244, 172] = true := by decide +kernel
theorem qd_g591 : qd_bs cX12_reset 0 [42, 3, 181, 0, 116, 3, 60, 27, 16, 48, 162, 0, 16, 42, 180, 0, 19, 27, 3, 79, 132, 1, 1, 167, 255, 240, 3, 60, 27, 16, 12, 162, 0, 16, 42, 180, 0, 50, 27, 3] = true := by decide +kernel
theorem qd_g592 : qd_bs cX12_reset 40 [79, 132, 1, 1, 167, 255, 240, 42, 180, 0, 50, 6, 17, 0, 255, 79, 42, 180, 0, 50, 16, 17, 3, 79, 3, 60, 27, 16, 8, 162, 0, 25, 42, 180, 0, 53, 27, 27, 6] = true := by decide +kernel
theorem qd_g593 : qd_bs cX12_reset 79 [160, 0, 7, 4, 167, 0, 4, 3, 84, 132, 1, 1, 167, 255, 231, 42, 180, 0, 50, 7, 42, 17, 14, 252, 182, 0, 253, 79, 42, 182, 0, 173, 42, 180, 0, 50, 7, 46, 172] = true := by decide +kernel
theorem qd_g594 : qd_bs cX12_freeze 0 [42, 3, 181, 0, 116, 42, 180, 0, 19, 3, 46, 60, 42, 180, 0, 53, 16, 6, 4, 84, 42, 180, 0, 19, 3, 92, 46, 16, 14, 128, 79, 42, 182, 0, 173, 27, 172] = true := by decide +kernel
theorem qd_g595 : qd_bs cX12_pixelAt 0 [42, 27, 3, 16, 31, 184, 0, 119, 153, 0, 17, 28, 3, 16, 31, 184, 0, 119, 153, 0, 7, 3, 167, 0, 4, 4, 182, 0, 164, 153, 0, 7, 3, 167, 0, 14, 42, 180, 0, 22] = true := by decide +kernel
theorem qd_g596 : qd_bs cX12_pixelAt 40 [16, 32, 28, 104, 27, 96, 46, 172] = true := by decide +kernel
theorem qd_g597 : qd_bs cX12_pixel 0 [42, 27, 28, 182, 1, 124, 172] = true := by decide +kernel
theorem qd_g598 : qd_bs cX12_pixelAgain 0 [42, 27, 28, 182, 1, 124, 172] = true := by decide +kernel
theorem qd_g599 : qd_bs cX12_sample 0 [42, 27, 3, 16, 39, 184, 0, 119, 153, 0, 7, 3, 167, 0, 4, 4, 182, 0, 164, 153, 0, 7, 3, 167, 0, 9, 42, 180, 0, 25, 27, 46, 172] = true := by decide +kernel
theorem qd_g600 : qd_bs cX12_level 0 [42, 27, 3, 5, 184, 0, 119, 153, 0, 7, 3, 167, 0, 4, 4, 182, 0, 164, 153, 0, 7, 3, 167, 0, 9, 42, 180, 0, 41, 27, 46, 172] = true := by decide +kernel
theorem qd_g601 : qd_bs cX12_key 0 [42, 27, 3, 6, 184, 0, 119, 153, 0, 16, 28, 3, 6, 184, 0, 119, 153, 0, 7, 3, 167, 0, 4, 4, 182, 0, 164, 153, 0, 5, 3, 172, 42, 180, 0, 28, 7, 27, 104, 28] = true := by decide +kernel
theorem qd_g602 : qd_bs cX12_key 40 [96, 51, 54, 4, 42, 180, 0, 28, 7, 27, 104, 28, 96, 29, 84, 42, 182, 0, 173, 21, 4, 172] = true := by decide +kernel
theorem qd_g603 : qd_bs cX12_columns 0 [42, 27, 3, 16, 15, 184, 0, 119, 153, 0, 7, 3, 167, 0, 4, 4, 182, 0, 164, 153, 0, 7, 3, 167, 0, 8, 42, 27, 182, 0, 139, 172] = true := by decide +kernel
theorem qd_g604 : qd_bs cX12_joystick 0 [42, 27, 3, 16, 15, 184, 0, 119, 153, 0, 7, 3, 167, 0, 4, 4, 182, 0, 164, 153, 0, 5, 3, 172, 42, 180, 0, 50, 16, 12, 46, 61, 42, 180, 0, 50, 16, 12, 27, 79] = true := by decide +kernel
theorem qd_g605 : qd_bs cX12_joystick 40 [42, 182, 0, 173, 28, 172] = true := by decide +kernel
theorem qd_g606 : qd_bs cX12_addPulse 0 [42, 27, 4, 17, 3, 231, 184, 0, 119, 154, 0, 7, 4, 167, 0, 20, 42, 180, 0, 50, 16, 13, 46, 16, 40, 160, 0, 7, 5, 167, 0, 4, 3, 182, 0, 164, 153, 0, 5, 3] = true := by decide +kernel
theorem qd_g607 : qd_bs cX12_addPulse 40 [172, 42, 182, 0, 143, 154, 0, 11, 42, 180, 0, 50, 16, 15, 27, 79, 42, 180, 0, 32, 42, 180, 0, 50, 16, 13, 46, 27, 79, 42, 180, 0, 50, 16, 13, 92, 46, 4, 96, 79] = true := by decide +kernel
theorem qd_g608 : qd_bs cX12_addPulse 80 [42, 182, 0, 173, 42, 180, 0, 50, 16, 13, 46, 172] = true := by decide +kernel
theorem qd_g609 : qd_bs cX12_rewind 0 [42, 3, 181, 0, 116, 42, 180, 0, 50, 16, 14, 46, 60, 42, 180, 0, 50, 16, 14, 3, 79, 42, 180, 0, 50, 16, 15, 42, 182, 0, 143, 153, 0, 12, 42, 180, 0, 32, 3, 46] = true := by decide +kernel
theorem qd_g610 : qd_bs cX12_rewind 40 [167, 0, 4, 3, 79, 42, 182, 0, 173, 27, 172] = true := by decide +kernel
theorem qd_g611 : qd_bs cX12_pulsesLeft 0 [42, 42, 180, 0, 50, 16, 13, 46, 42, 180, 0, 50, 16, 14, 46, 100, 182, 0, 244, 172] = true := by decide +kernel
theorem qd_g612 : qd_bs cX12_lays 0 [3, 54, 5, 21, 5, 21, 4, 162, 0, 21, 44, 29, 21, 5, 96, 42, 27, 21, 5, 96, 46, 79, 132, 5, 1, 167, 255, 234, 177] = true := by decide +kernel
theorem qd_g613 : qd_bs cX12_laysFlags 0 [3, 54, 5, 21, 5, 21, 4, 162, 0, 21, 44, 29, 21, 5, 96, 42, 27, 21, 5, 96, 51, 84, 132, 5, 1, 167, 255, 234, 177] = true := by decide +kernel
theorem qd_g614 : qd_bs cX12_save 0 [42, 42, 180, 1, 127, 6, 160, 0, 7, 4, 167, 0, 4, 3, 182, 0, 164, 153, 0, 5, 3, 172, 42, 180, 1, 127, 60, 42, 180, 0, 7, 3, 42, 180, 0, 56, 17, 16, 0, 27] = true := by decide +kernel
theorem qd_g615 : qd_bs cX12_save 40 [104, 17, 16, 0, 184, 1, 130, 42, 180, 0, 13, 3, 42, 180, 0, 59, 17, 2, 0, 27, 104, 17, 2, 0, 184, 1, 130, 42, 180, 0, 16, 3, 42, 180, 0, 62, 17, 8, 0, 27] = true := by decide +kernel
theorem qd_g616 : qd_bs cX12_save 80 [104, 17, 8, 0, 184, 1, 130, 42, 180, 0, 19, 3, 42, 180, 0, 65, 16, 48, 27, 104, 16, 48, 184, 1, 130, 42, 180, 0, 22, 3, 42, 180, 0, 68, 17, 4, 0, 27, 104] = true := by decide +kernel
theorem qd_g617 : qd_bs cX12_save 119 [17, 4, 0, 184, 1, 130, 42, 180, 0, 25, 3, 42, 180, 0, 71, 16, 40, 27, 104, 16, 40, 184, 1, 130, 42, 180, 0, 32, 3, 42, 180, 0, 77, 16, 40, 27, 104, 16, 40] = true := by decide +kernel
theorem qd_g618 : qd_bs cX12_save 158 [184, 1, 130, 42, 180, 0, 35, 3, 42, 180, 0, 80, 16, 16, 27, 104, 16, 16, 184, 1, 130, 42, 180, 0, 38, 3, 42, 180, 0, 83, 6, 27, 104, 6, 184, 1, 130, 42] = true := by decide +kernel
theorem qd_g619 : qd_bs cX12_save 196 [180, 0, 41, 3, 42, 180, 0, 86, 6, 27, 104, 6, 184, 1, 130, 42, 180, 0, 44, 3, 42, 180, 0, 89, 6, 27, 104, 6, 184, 1, 130, 42, 180, 0, 47, 3, 42, 180, 0, 92] = true := by decide +kernel
theorem qd_g620 : qd_bs cX12_save 236 [6, 27, 104, 6, 184, 1, 130, 42, 180, 0, 50, 3, 42, 180, 0, 95, 16, 24, 27, 104, 16, 24, 184, 1, 130, 42, 180, 0, 28, 3, 42, 180, 0, 74, 16, 16, 27, 104, 16, 16] = true := by decide +kernel
theorem qd_g621 : qd_bs cX12_save 276 [184, 1, 134, 42, 180, 0, 53, 3, 42, 180, 0, 98, 16, 8, 27, 104, 16, 8, 184, 1, 134, 42, 180, 0, 101, 5, 27, 104, 42, 180, 0, 123, 80, 42, 180, 0, 101, 5, 27, 104] = true := by decide +kernel
theorem qd_g622 : qd_bs cX12_save 316 [4, 96, 42, 180, 0, 238, 80, 42, 89, 180, 1, 127, 4, 96, 181, 1, 127, 27, 172] = true := by decide +kernel
theorem qd_g623 : qd_bs cX12_unlike 0 [3, 61, 3, 62, 29, 17, 16, 0, 162, 0, 38, 28, 42, 180, 0, 7, 29, 46, 42, 180, 0, 56, 17, 16, 0, 27, 104, 29, 96, 46, 160, 0, 7, 3, 167, 0, 4, 4, 96, 61] = true := by decide +kernel
theorem qd_g624 : qd_bs cX12_unlike 40 [132, 3, 1, 167, 255, 217, 28, 172] = true := by decide +kernel
theorem qd_g625 : qd_bs cX12_restore 0 [42, 27, 3, 42, 180, 1, 127, 4, 100, 184, 0, 119, 153, 0, 7, 3, 167, 0, 4, 4, 182, 0, 164, 153, 0, 5, 3, 172, 27, 61, 42, 28, 182, 1, 138, 62, 42, 180, 0, 56] = true := by decide +kernel
theorem qd_g626 : qd_bs cX12_restore 40 [17, 16, 0, 28, 104, 42, 180, 0, 7, 3, 17, 16, 0, 184, 1, 130, 42, 180, 0, 59, 17, 2, 0, 28, 104, 42, 180, 0, 13, 3, 17, 2, 0, 184, 1, 130, 42, 180, 0, 62] = true := by decide +kernel
theorem qd_g627 : qd_bs cX12_restore 80 [17, 8, 0, 28, 104, 42, 180, 0, 16, 3, 17, 8, 0, 184, 1, 130, 42, 180, 0, 65, 16, 48, 28, 104, 42, 180, 0, 19, 3, 16, 48, 184, 1, 130, 42, 180, 0, 68] = true := by decide +kernel
theorem qd_g628 : qd_bs cX12_restore 118 [17, 4, 0, 28, 104, 42, 180, 0, 22, 3, 17, 4, 0, 184, 1, 130, 42, 180, 0, 71, 16, 40, 28, 104, 42, 180, 0, 25, 3, 16, 40, 184, 1, 130, 42, 180, 0, 77, 16, 40] = true := by decide +kernel
theorem qd_g629 : qd_bs cX12_restore 158 [28, 104, 42, 180, 0, 32, 3, 16, 40, 184, 1, 130, 42, 180, 0, 80, 16, 16, 28, 104, 42, 180, 0, 35, 3, 16, 16, 184, 1, 130, 42, 180, 0, 83, 6, 28, 104, 42] = true := by decide +kernel
theorem qd_g630 : qd_bs cX12_restore 196 [180, 0, 38, 3, 6, 184, 1, 130, 42, 180, 0, 86, 6, 28, 104, 42, 180, 0, 41, 3, 6, 184, 1, 130, 42, 180, 0, 89, 6, 28, 104, 42, 180, 0, 44, 3, 6, 184, 1, 130] = true := by decide +kernel
theorem qd_g631 : qd_bs cX12_restore 236 [42, 180, 0, 92, 6, 28, 104, 42, 180, 0, 47, 3, 6, 184, 1, 130, 42, 180, 0, 95, 16, 24, 28, 104, 42, 180, 0, 50, 3, 16, 24, 184, 1, 130, 42, 180, 0, 74, 16, 16] = true := by decide +kernel
theorem qd_g632 : qd_bs cX12_restore 276 [28, 104, 42, 180, 0, 28, 3, 16, 16, 184, 1, 134, 42, 180, 0, 98, 16, 8, 28, 104, 42, 180, 0, 53, 3, 16, 8, 184, 1, 134, 42, 42, 180, 0, 101, 5, 28, 104, 47] = true := by decide +kernel
theorem qd_g633 : qd_bs cX12_restore 315 [181, 0, 123, 42, 42, 180, 0, 101, 5, 28, 104, 4, 96, 47, 181, 0, 238, 42, 2, 181, 0, 105, 29, 172] = true := by decide +kernel
theorem qd_g634 : qd_bs cX12_differences 0 [42, 27, 3, 42, 180, 1, 127, 4, 100, 184, 0, 119, 153, 0, 7, 3, 167, 0, 4, 4, 182, 0, 164, 153, 0, 7, 3, 167, 0, 8, 42, 27, 182, 1, 138, 172] = true := by decide +kernel
theorem qd_g635 : qd_bs cX12_startRecord 0 [3, 42, 180, 0, 105, 184, 0, 209, 60, 42, 3, 181, 0, 105, 42, 27, 182, 0, 244, 172] = true := by decide +kernel
theorem qd_g636 : qd_bs cX12_recorded 0 [42, 42, 180, 0, 105, 156, 0, 7, 4, 167, 0, 4, 3, 182, 0, 164, 153, 0, 7, 3, 167, 0, 7, 42, 180, 0, 105, 172] = true := by decide +kernel
theorem qd_g637 : qd_bs cX12_isSame 0 [42, 42, 180, 0, 105, 156, 0, 7, 4, 167, 0, 4, 3, 182, 0, 164, 154, 0, 7, 4, 167, 0, 4, 3, 172] = true := by decide +kernel
theorem qd_g638 : qd_bs cX12_sumOfPicture 0 [42, 3, 181, 0, 116, 3, 60, 3, 61, 28, 17, 4, 0, 162, 0, 21, 16, 31, 27, 104, 42, 180, 0, 22, 28, 46, 96, 60, 132, 2, 1, 167, 255, 234, 27, 172] = true := by decide +kernel
theorem qd_g639 : qd_bs cX12_pictures 0 [42, 3, 181, 0, 116, 42, 180, 0, 238, 173] = true := by decide +kernel
theorem qd_g640 : qd_bs cX12_solidShare 0 [42, 3, 181, 0, 116, 3, 60, 3, 61, 28, 17, 4, 0, 162, 0, 32, 27, 42, 180, 0, 22, 28, 46, 42, 180, 0, 19, 6, 46, 160, 0, 7, 3, 167, 0, 4, 4, 96, 60] = true := by decide +kernel
theorem qd_g641 : qd_bs cX12_solidShare 39 [132, 2, 1, 167, 255, 223, 27, 134, 19, 1, 141, 110, 174] = true := by decide +kernel
theorem qd_g642 : qd_bs cX12_meanSample 0 [42, 3, 181, 0, 116, 3, 60, 3, 61, 28, 16, 40, 162, 0, 18, 27, 42, 180, 0, 25, 28, 46, 96, 60, 132, 2, 1, 167, 255, 238, 27, 135, 20, 1, 142, 111, 175] = true := by decide +kernel
theorem qd_g643 : qd_bs cJ5_init_d00df 0 [42, 183, 0, 3, 178, 0, 18, 153, 0, 18, 42, 27] = true := by decide +kernel
theorem dJ5_init_d00df_12 : decode cJ5_init_d00df 12 = .ok (.newarray .byte, 2) := by decide +kernel
theorem qd_g644 : qd_bs cJ5_init_d00df 14 [181, 0, 15, 42, 3, 181, 0, 22, 167, 0, 16, 42, 27, 184, 0, 26, 181, 0, 15, 42, 4, 181, 0, 22, 177] = true := by decide +kernel
theorem qd_g645 : qd_bs cJ5_length_8abf5 0 [42, 180, 0, 79, 172] = true := by decide +kernel
theorem qd_g646 : qd_bs cJ5_ensureCapacityInternal_d00df 0 [42, 180, 0, 15, 190, 42, 180, 0, 22, 122, 61, 27, 28, 100, 158, 0, 24, 42, 42, 180, 0, 15, 42, 27, 182, 0, 104, 42, 180, 0, 22, 120, 184, 0, 108, 181, 0, 15, 177] = true := by decide +kernel
theorem qd_g647 : qd_bs cJ5_newCapacity_0f7a4 0 [42, 180, 0, 15, 190, 61, 27, 42, 180, 0, 22, 120, 62, 29, 28, 100, 54, 4, 28, 21, 4, 28, 5, 42, 180, 0, 22, 120, 96, 184, 0, 114, 54, 5, 21, 5, 18, 39] = true := by decide +kernel
theorem qd_g648 : qd_bs cJ5_newCapacity_0f7a4 38 [160, 0, 13, 187, 0, 120, 89, 18, 122, 183, 0, 124, 191, 21, 5, 42, 180, 0, 22, 122, 172] = true := by decide +kernel
theorem qd_g649 : qd_bs cJ5_inflate_da8c8 0 [42, 182, 0, 83, 154, 0, 4, 177, 42, 180, 0, 15, 190, 184, 0, 26, 76, 42, 180, 0, 15, 3, 43, 3, 42, 180, 0, 79, 184, 0, 125, 42, 43, 181, 0, 15, 42, 4] = true := by decide +kernel
theorem qd_g650 : qd_bs cJ5_inflate_da8c8 38 [181, 0, 22, 177] = true := by decide +kernel
theorem qd_g651 : qd_bs cJ5_setLength_d00df 0 [27, 156, 0, 12, 187, 0, 129, 89, 27, 183, 0, 131, 191, 42, 27, 182, 0, 100, 42, 180, 0, 79, 27, 162, 0, 40, 42, 182, 0, 83, 153, 0, 18, 42, 180, 0, 15, 42] = true := by decide +kernel
theorem qd_g652 : qd_bs cJ5_setLength_d00df 38 [180, 0, 79, 27, 184, 0, 133, 167, 0, 31, 42, 180, 0, 15, 42, 180, 0, 79, 27, 184, 0, 137, 167, 0, 16, 42, 180, 0, 79, 27, 164, 0, 8, 42, 4, 181, 0, 73, 42, 27] = true := by decide +kernel
theorem qd_g653 : qd_bs cJ5_setLength_d00df 78 [181, 0, 79, 177] = true := by decide +kernel
theorem qd_g654 : qd_bs cJ5_charAt_5068e 0 [42, 180, 0, 22, 61, 42, 180, 0, 15, 78, 42, 180, 0, 79, 45, 190, 28, 122, 184, 0, 138, 54, 4, 27, 21, 4, 184, 0, 144, 28, 154, 0, 12, 45, 27, 51, 17, 0, 255, 126] = true := by decide +kernel
theorem qd_g655 : qd_bs cJ5_charAt_5068e 40 [146, 172, 45, 27, 184, 0, 148, 172] = true := by decide +kernel
theorem qd_g656 : qd_bs cJ5_append_cf1ce 0 [43, 199, 0, 8, 42, 182, 0, 204, 176, 43, 182, 0, 32, 61, 42, 42, 180, 0, 79, 28, 96, 182, 0, 100, 42, 42, 180, 0, 79, 43, 182, 0, 208, 42, 89, 180, 0, 79, 28, 96] = true := by decide +kernel
theorem qd_g657 : qd_bs cJ5_append_cf1ce 40 [181, 0, 79, 42, 176] = true := by decide +kernel
theorem qd_g658 : qd_bs cJ5_appendNull_278bc 0 [42, 42, 180, 0, 79, 7, 96, 182, 0, 100, 42, 180, 0, 79, 60, 42, 180, 0, 15, 77, 42, 182, 0, 83, 153, 0, 38, 44, 27, 132, 1, 1, 16, 110, 84, 44, 27, 132, 1, 1] = true := by decide +kernel
theorem qd_g659 : qd_bs cJ5_appendNull_278bc 40 [16, 117, 84, 44, 27, 132, 1, 1, 16, 108, 84, 44, 27, 132, 1, 1, 16, 108, 84, 167, 0, 17, 44, 27, 16, 110, 16, 117, 16, 108, 16, 108, 184, 0, 226, 60, 42, 27] = true := by decide +kernel
theorem qd_g660 : qd_bs cJ5_appendNull_278bc 78 [181, 0, 79, 42, 176] = true := by decide +kernel
theorem qd_g661 : qd_bs cJ5_append_3fe6f 0 [42, 42, 180, 0, 79, 4, 96, 182, 0, 100, 42, 182, 0, 83, 153, 0, 31, 27, 184, 0, 191, 153, 0, 24, 42, 180, 0, 15, 42, 89, 180, 0, 79, 90, 4, 96, 181, 0, 79, 27] = true := by decide +kernel
theorem qd_g662 : qd_bs cJ5_append_3fe6f 40 [145, 84, 167, 0, 33, 42, 182, 0, 83, 153, 0, 7, 42, 182, 0, 195, 42, 180, 0, 15, 42, 89, 180, 0, 79, 90, 4, 96, 181, 0, 79, 27, 184, 0, 197, 42, 176] = true := by decide +kernel
theorem qd_g663 : qd_bs cJ5_append_c97b9 0 [42, 180, 0, 79, 61, 28, 27, 184, 0, 245, 96, 62, 42, 29, 182, 0, 100, 42, 182, 0, 83, 153, 0, 16, 27, 29, 42, 180, 0, 15, 184, 0, 248, 87, 167, 0, 14, 27, 28, 29] = true := by decide +kernel
theorem qd_g664 : qd_bs cJ5_append_c97b9 40 [42, 180, 0, 15, 184, 0, 251, 87, 42, 29, 181, 0, 79, 42, 176] = true := by decide +kernel
theorem qd_g665 : qd_bs cJ5_getValue_6d5f1 0 [42, 180, 0, 15, 176] = true := by decide +kernel
theorem qd_g666 : qd_bs cJ5_isLatin1_aae02 0 [178, 0, 18, 153, 0, 14, 42, 180, 0, 22, 154, 0, 7, 4, 167, 0, 4, 3, 172] = true := by decide +kernel
theorem qd_g667 : qd_bs cJ5_inflateIfNeededFor_a7421 0 [178, 0, 18, 153, 0, 18, 42, 180, 0, 22, 43, 182, 0, 40, 159, 0, 7, 42, 182, 0, 195, 177] = true := by decide +kernel
theorem qd_g668 : qd_bs cJ5_putStringAt_47b60 0 [42, 44, 182, 1, 141, 44, 42, 180, 0, 15, 27, 42, 180, 0, 22, 182, 1, 143, 177] = true := by decide +kernel
theorem qd_g669 : qd_bs cJx00060_init_d00df 0 [42, 187, 0, 10, 89, 183, 0, 12, 18, 13, 182, 0, 15, 27, 182, 0, 19, 182, 0, 22, 183, 0, 7, 177] = true := by decide +kernel
theorem qd_g670 : qd_bs cJ6_getChars_ba4f3 0 [27, 54, 5, 26, 156, 0, 7, 4, 167, 0, 4, 3, 54, 6, 21, 6, 154, 0, 6, 26, 116, 59, 26, 16, 156, 163, 0, 47, 26, 16, 100, 108, 62, 29, 16, 100, 104, 26, 100] = true := by decide +kernel
theorem qd_g671 : qd_bs cJ6_getChars_ba4f3 39 [54, 4, 29, 59, 44, 132, 5, 255, 21, 5, 178, 0, 83, 21, 4, 51, 84, 44, 132, 5, 255, 21, 5, 178, 0, 87, 21, 4, 51, 84, 167, 255, 209, 44, 132, 5, 255, 21, 5] = true := by decide +kernel
theorem qd_g672 : qd_bs cJ6_getChars_ba4f3 78 [178, 0, 83, 26, 116, 51, 84, 26, 16, 247, 162, 0, 16, 44, 132, 5, 255, 21, 5, 178, 0, 87, 26, 116, 51, 84, 21, 6, 153, 0, 12, 44, 132, 5, 255, 21, 5, 16, 45, 84] = true := by decide +kernel
theorem qd_g673 : qd_bs cJ6_getChars_ba4f3 118 [21, 5, 172] = true := by decide +kernel
theorem qd_g674 : qd_bs cJ6_stringSize_0f7a4 0 [4, 60, 26, 155, 0, 8, 3, 60, 26, 116, 59, 16, 246, 61, 4, 62, 29, 16, 10, 162, 0, 23, 26, 28, 164, 0, 7, 29, 27, 96, 172, 16, 10, 28, 104, 61, 132, 3, 1] = true := by decide +kernel
theorem qd_g675 : qd_bs cJ6_stringSize_0f7a4 39 [167, 255, 233, 16, 10, 27, 96, 172] = true := by decide +kernel
theorem qd_g676 : qd_bs cJ6_bitCount_0f7a4 0 [26, 26, 4, 124, 19, 1, 9, 126, 100, 59, 26, 19, 1, 10, 126, 26, 5, 124, 19, 1, 10, 126, 96, 59, 26, 26, 7, 124, 96, 19, 1, 11, 126, 59, 26, 26, 16, 8, 124, 96] = true := by decide +kernel
theorem qd_g677 : qd_bs cJ6_bitCount_0f7a4 40 [59, 26, 26, 16, 16, 124, 96, 59, 26, 16, 63, 126, 172] = true := by decide +kernel
theorem qd_g678 : qd_bs cJ9_max_7cf53 0 [26, 27, 161, 0, 7, 26, 167, 0, 4, 27, 172] = true := by decide +kernel
theorem qd_g679 : qd_bs cJ9_min_7cf53 0 [26, 27, 163, 0, 7, 26, 167, 0, 4, 27, 172] = true := by decide +kernel
theorem qd_g680 : qd_bs cJ0_init_81219 0 [42, 43, 1, 183, 1, 233, 177] = true := by decide +kernel
theorem qd_g681 : qd_bs cJ0_length_8abf5 0 [42, 180, 0, 9, 190, 42, 182, 1, 79, 122, 172] = true := by decide +kernel
theorem qd_g682 : qd_bs cJ0_charAt_5068e 0 [42, 182, 1, 236, 153, 0, 12, 42, 180, 0, 9, 27, 184, 1, 239, 172, 42, 180, 0, 9, 27, 184, 1, 242, 172] = true := by decide +kernel
theorem qd_g683 : qd_bs cJ0_getBytes_840e7 0 [42, 182, 1, 79, 29, 160, 0, 23, 42, 180, 0, 9, 3, 43, 28, 29, 120, 42, 180, 0, 9, 190, 184, 0, 212, 167, 0, 18, 42, 180, 0, 9, 3, 43, 28, 42, 180, 0, 9, 190] = true := by decide +kernel
theorem qd_g684 : qd_bs cJ0_getBytes_840e7 40 [184, 0, 106, 177] = true := by decide +kernel
theorem qd_g685 : qd_bs cJ0_init_db425 0 [42, 183, 0, 1, 43, 182, 2, 40, 78, 43, 182, 2, 37, 54, 4, 43, 182, 4, 23, 153, 0, 22, 42, 3, 181, 0, 15, 42, 45, 3, 21, 4, 184, 0, 54, 181, 0, 9] = true := by decide +kernel
theorem qd_g686 : qd_bs cJ0_init_db425 38 [167, 0, 59, 178, 0, 38, 153, 0, 35, 43, 180, 4, 24, 153, 0, 28, 42, 45, 3, 21, 4, 184, 4, 27, 181, 0, 9, 42, 42, 180, 0, 9, 21, 4, 184, 0, 47, 181, 0, 15] = true := by decide +kernel
theorem qd_g687 : qd_bs cJ0_init_db425 78 [177, 42, 4, 181, 0, 15, 42, 45, 3, 21, 4, 4, 120, 184, 0, 54, 181, 0, 9, 177] = true := by decide +kernel
theorem qd_g688 : qd_bs cJ0_coder_7d493 0 [178, 0, 38, 153, 0, 10, 42, 180, 0, 15, 167, 0, 4, 4, 172] = true := by decide +kernel
theorem qd_g689 : qd_bs cJ0_isLatin1_aae02 0 [178, 0, 38, 153, 0, 14, 42, 180, 0, 15, 154, 0, 7, 4, 167, 0, 4, 3, 172] = true := by decide +kernel
theorem qd_g690 : qd_bs cJ0_checkIndex_df160 0 [26, 27, 178, 4, 29, 184, 4, 35, 87, 177] = true := by decide +kernel
theorem qd_g691 : qd_bs cJ0_checkBoundsOffCount_cabcc 0 [26, 27, 28, 178, 4, 29, 184, 4, 41, 172] = true := by decide +kernel
theorem qd_g692 : qd_bs cJ0_checkBoundsBeginEnd_23922 0 [26, 27, 28, 178, 4, 29, 184, 4, 38, 87, 177] = true := by decide +kernel
theorem qd_g693 : qd_bs cJ4_init_da8c8 0 [42, 16, 16, 183, 0, 1, 177] = true := by decide +kernel
theorem qd_g694 : qd_bs cJ4_append_15ec4 0 [42, 43, 183, 0, 29, 87, 42, 176] = true := by decide +kernel
theorem qd_g695 : qd_bs cJ4_append_cf468 0 [42, 27, 183, 0, 50, 87, 42, 176] = true := by decide +kernel
theorem qd_g696 : qd_bs cJ4_append_bf812 0 [42, 27, 183, 0, 53, 87, 42, 176] = true := by decide +kernel
theorem qd_g697 : qd_bs cJ4_toString_0e30d 0 [187, 0, 18, 89, 42, 183, 0, 137, 176] = true := by decide +kernel
theorem qd_g698 : qd_bs cJ4_charAt_5068e 0 [42, 27, 183, 1, 73, 172] = true := by decide +kernel
theorem qd_g699 : qd_bs cJ4_setLength_d00df 0 [42, 27, 183, 1, 77, 177] = true := by decide +kernel
theorem qd_g700 : qd_bs cJ4_length_8abf5 0 [42, 183, 1, 87, 172] = true := by decide +kernel
theorem qd_g701 : qd_bs cJx7c733_init_d00df 0 [42, 187, 0, 10, 89, 183, 0, 12, 18, 13, 182, 0, 15, 27, 182, 0, 19, 182, 0, 22, 183, 0, 7, 177] = true := by decide +kernel
theorem qd_g702 : qd_bs cJ1_charAt_3b067 0 [27, 42, 190, 184, 0, 9, 42, 27, 51, 17, 0, 255, 126, 146, 172] = true := by decide +kernel
theorem qd_g703 : qd_bs cJ1_canEncode_fc78d 0 [26, 17, 0, 255, 163, 0, 7, 4, 167, 0, 4, 3, 172] = true := by decide +kernel
theorem qd_g704 : qd_bs cJ1_fillNull_b72d1 0 [42, 27, 28, 3, 184, 0, 236, 177] = true := by decide +kernel
theorem qd_g705 : qd_bs cJ1_inflate_0e8fd 0 [42, 27, 44, 29, 21, 4, 184, 0, 240, 177] = true := by decide +kernel
theorem qd_g706 : qd_bs cJ2_newBytesFor_77867 0 [26, 184, 0, 11] = true := by decide +kernel
theorem dJ2_newBytesFor_77867_4 : decode cJ2_newBytesFor_77867 4 = .ok (.newarray .byte, 2) := by decide +kernel
theorem qd_g707 : qd_bs cJ2_newBytesFor_77867 6 [176] = true := by decide +kernel
theorem qd_g708 : qd_bs cJ2_newBytesLength_0f7a4 0 [26, 156, 0, 11, 187, 0, 17, 89, 183, 0, 19, 191, 26, 18, 20, 161, 0, 40, 187, 0, 21, 89, 187, 0, 23, 89, 183, 0, 25, 18, 26, 182, 0, 28, 26, 182, 0, 32, 18, 35] = true := by decide +kernel
theorem qd_g709 : qd_bs cJ2_newBytesLength_0f7a4 40 [182, 0, 28, 18, 20, 182, 0, 32, 182, 0, 37, 183, 0, 41, 191, 26, 4, 120, 172] = true := by decide +kernel
theorem qd_g710 : qd_bs cJ2_putChar_b72d1 0 [178, 0, 44, 154, 0, 25, 27, 155, 0, 11, 27, 42, 184, 0, 48, 161, 0, 13, 187, 0, 52, 89, 18, 54, 183, 0, 56, 191, 27, 4, 120, 60, 42, 27, 132, 1, 1, 28] = true := by decide +kernel
theorem qd_g711 : qd_bs cJ2_putChar_b72d1 38 [178, 0, 59, 122, 145, 84, 42, 27, 28, 178, 0, 63, 122, 145, 84, 177] = true := by decide +kernel
theorem qd_g712 : qd_bs cJ2_getChar_3b067 0 [178, 0, 44, 154, 0, 25, 27, 155, 0, 11, 27, 42, 184, 0, 48, 161, 0, 13, 187, 0, 52, 89, 18, 54, 183, 0, 56, 191, 27, 4, 120, 60, 42, 27, 132, 1, 1, 51] = true := by decide +kernel
theorem qd_g713 : qd_bs cJ2_getChar_3b067 38 [17, 0, 255, 126, 178, 0, 59, 120, 42, 27, 51, 17, 0, 255, 126, 178, 0, 63, 120, 128, 146, 172] = true := by decide +kernel
theorem qd_g714 : qd_bs cJ2_length_9d52b 0 [42, 190, 4, 122, 172] = true := by decide +kernel
theorem qd_g715 : qd_bs cJ2_coderFromArrayLen_85cad 0 [27, 42, 190, 100, 16, 31, 124, 145, 172] = true := by decide +kernel
theorem qd_g716 : qd_bs cJ2_compress_39247 0 [28] = true := by decide +kernel
theorem qd_g717 : qd_bs cJ2_compress_39247 3 [78, 42, 27, 45, 3, 28, 184, 0, 123, 54, 4, 21, 4, 28, 159, 0, 47, 42, 27, 4, 120, 27, 28, 96, 184, 0, 11, 184, 0, 126, 58, 5, 25, 5, 21, 4, 184, 0, 71] = true := by decide +kernel
theorem qd_g718 : qd_bs cJ2_compress_39247 42 [17, 0, 255, 163, 0, 16, 25, 5, 3, 45, 3, 28, 184, 0, 123, 28, 159, 0, 6, 25, 5, 176, 45, 176] = true := by decide +kernel
theorem qd_g719 : qd_bs cJ2_compress_5af95 0 [27, 21, 4, 42, 184, 0, 173, 3, 54, 5, 21, 5, 21, 4, 162, 0, 39, 42, 27, 184, 0, 71, 54, 6, 21, 6, 17, 0, 255, 164, 0, 6, 21, 5, 172, 44, 29, 21, 6, 145] = true := by decide +kernel
theorem qd_g720 : qd_bs cJ2_compress_5af95 40 [84, 132, 1, 1, 132, 3, 1, 132, 5, 1, 167, 255, 216, 21, 4, 172] = true := by decide +kernel
theorem qd_g721 : qd_bs cJ2_fillNull_b72d1 0 [42, 27, 4, 120, 28, 4, 120, 3, 184, 1, 124, 177] = true := by decide +kernel
theorem qd_g722 : qd_bs cJ2_putCharSB_b72d1 0 [27, 42, 184, 0, 67, 42, 27, 28, 184, 0, 111, 177] = true := by decide +kernel
theorem qd_g723 : qd_bs cJ2_getChars_46870 0 [27, 28, 45, 184, 0, 96, 26, 28, 45, 184, 1, 137, 54, 4, 178, 0, 44, 154, 0, 17, 27, 21, 4, 159, 0, 11, 187, 0, 52, 89, 183, 0, 66, 191, 21, 4, 172] = true := by decide +kernel
theorem qd_g724 : qd_bs cJ2_putCharsAt_cd4e5 0 [27, 7, 96, 54, 6, 27, 21, 6, 42, 184, 0, 96, 42, 27, 132, 1, 1, 28, 184, 0, 111, 42, 27, 132, 1, 1, 29, 184, 0, 111, 42, 27, 132, 1, 1, 21, 4, 184, 0, 111] = true := by decide +kernel
theorem qd_g725 : qd_bs cJ2_putCharsAt_cd4e5 40 [42, 27, 132, 1, 1, 21, 5, 184, 0, 111, 178, 0, 44, 154, 0, 17, 27, 21, 6, 159, 0, 11, 187, 0, 52, 89, 183, 0, 66, 191, 21, 6, 172] = true := by decide +kernel
theorem qd_g726 : qd_bs cJ2_charAt_3b067 0 [27, 42, 184, 0, 67, 42, 27, 184, 0, 71, 172] = true := by decide +kernel
theorem qd_g727 : qd_bs cJ2_inflate_0e8fd 0 [29, 21, 4, 44, 184, 0, 173, 3, 54, 5, 21, 5, 21, 4, 162, 0, 27, 44, 29, 132, 3, 1, 42, 27, 132, 1, 1, 51, 17, 0, 255, 126, 184, 0, 111, 132, 5, 1] = true := by decide +kernel
theorem qd_g728 : qd_bs cJ2_inflate_0e8fd 38 [167, 255, 228, 177] = true := by decide +kernel
theorem qd_g729 : qd_bs cJ2_getChars_ba4f3 0 [27, 54, 5, 26, 156, 0, 7, 4, 167, 0, 4, 3, 54, 6, 21, 6, 154, 0, 6, 26, 116, 59, 26, 16, 156, 163, 0, 51, 26, 16, 100, 108, 62, 29, 16, 100, 104, 26, 100] = true := by decide +kernel
theorem qd_g730 : qd_bs cJ2_getChars_ba4f3 39 [54, 4, 29, 59, 44, 132, 5, 255, 21, 5, 178, 1, 147, 21, 4, 51, 184, 0, 111, 44, 132, 5, 255, 21, 5, 178, 1, 151, 21, 4, 51, 184, 0, 111, 167, 255, 205, 44] = true := by decide +kernel
theorem qd_g731 : qd_bs cJ2_getChars_ba4f3 77 [132, 5, 255, 21, 5, 178, 1, 147, 26, 116, 51, 184, 0, 111, 26, 16, 247, 162, 0, 18, 44, 132, 5, 255, 21, 5, 178, 1, 151, 26, 116, 51, 184, 0, 111, 21, 6, 153, 0, 14] = true := by decide +kernel
theorem qd_g732 : qd_bs cJ2_getChars_ba4f3 117 [44, 132, 5, 255, 21, 5, 16, 45, 184, 0, 111, 21, 5, 172] = true := by decide +kernel
theorem qd_g733 : qd_bs cJ2_checkIndex_2214a 0 [26, 43, 184, 0, 48, 184, 1, 158, 177] = true := by decide +kernel
theorem qd_g734 : qd_bs cJ2_checkBoundsBeginEnd_d044e 0 [26, 27, 44, 184, 0, 48, 184, 0, 241, 177] = true := by decide +kernel
theorem qd_g735 : qd_bs cJ2_checkBoundsOffCount_d044e 0 [26, 27, 44, 184, 0, 48, 184, 1, 163, 87, 177] = true := by decide +kernel
theorem qd_g736 : qd_bs cJ7_rangeCheck_23922 0 [27, 28, 164, 0, 44, 187, 0, 43, 89, 187, 0, 45, 89, 183, 0, 47, 18, 48, 182, 0, 50, 27, 182, 0, 54, 18, 57, 182, 0, 50, 28, 182, 0, 54, 18, 59, 182, 0, 50] = true := by decide +kernel
theorem qd_g737 : qd_bs cJ7_rangeCheck_23922 39 [182, 0, 61, 183, 0, 65, 191, 27, 156, 0, 12, 187, 0, 68, 89, 27, 183, 0, 70, 191, 28, 26, 164, 0, 12, 187, 0, 68, 89, 28, 183, 0, 70, 191, 177] = true := by decide +kernel
theorem qd_g738 : qd_bs cJ7_fill_53178 0 [3, 61, 42, 190, 62, 28, 29, 162, 0, 13, 42, 28, 27, 79, 132, 2, 1, 167, 255, 244, 177] = true := by decide +kernel
theorem qd_g739 : qd_bs cJ7_fill_eb02e 0 [42, 190, 27, 28, 184, 0, 13, 27, 54, 4, 21, 4, 28, 162, 0, 14, 42, 21, 4, 29, 84, 132, 4, 1, 167, 255, 242, 177] = true := by decide +kernel
theorem qd_g740 : qd_bs cJ7_copyOf_9075b 0 [27, 42, 190, 160, 0, 11, 42, 182, 1, 54, 192, 1, 55, 176, 27] = true := by decide +kernel
theorem dJ7_copyOf_9075b_15 : decode cJ7_copyOf_9075b 15 = .ok (.newarray .byte, 2) := by decide +kernel
theorem qd_g741 : qd_bs cJ7_copyOf_9075b 17 [77, 42, 3, 44, 3, 42, 190, 27, 184, 1, 48, 184, 0, 150, 44, 176] = true := by decide +kernel
theorem qd_g742 : qd_bs cJ7_checkLength_df160 0 [27, 26, 162, 0, 35, 187, 0, 43, 89, 187, 0, 45, 89, 183, 0, 47, 26, 182, 0, 54, 19, 1, 81, 182, 0, 50, 27, 182, 0, 54, 182, 0, 61, 183, 0, 65, 191, 177] = true := by decide +kernel
theorem qd_g743 : qd_bs cJ7_copyOfRange_39247 0 [27, 154, 0, 9, 28, 42, 190, 159, 0, 10, 42, 27, 28, 184, 1, 83, 176, 42, 182, 1, 54, 192, 1, 55, 176] = true := by decide +kernel
theorem qd_g744 : qd_bs cJ7_copyOfRangeByte_39247 0 [27, 28, 184, 1, 87, 28, 27, 100, 62, 29] = true := by decide +kernel
theorem qd_g745 : qd_bs cJ7_copyOfRangeByte_39247 12 [58, 4, 42, 27, 25, 4, 3, 42, 190, 27, 100, 29, 184, 1, 48, 184, 0, 150, 25, 4, 176] = true := by decide +kernel
theorem qd_g746 : qd_bs cJ8_newLength_cabcc 0 [26, 27, 28, 184, 0, 194, 96, 62, 3, 29, 162, 0, 11, 29, 18, 200, 163, 0, 5, 29, 172, 26, 27, 184, 0, 201, 172] = true := by decide +kernel
theorem qd_g747 : qd_bs cJ8_hugeLength_7cf53 0 [26, 27, 96, 61, 28, 156, 0, 44, 187, 0, 204, 89, 187, 0, 89, 89, 183, 0, 91, 18, 206, 182, 0, 94, 26, 182, 0, 98, 18, 208, 182, 0, 94, 27, 182, 0, 98, 18, 210] = true := by decide +kernel
theorem qd_g748 : qd_bs cJ8_hugeLength_7cf53 39 [182, 0, 94, 182, 0, 101, 183, 0, 212, 191, 28, 18, 200, 163, 0, 6, 18, 200, 172, 28, 172] = true := by decide +kernel
theorem qd_g749 : qd_bs cJ3_checkIndex_8e157 0 [26, 155, 0, 8, 26, 27, 161, 0, 10, 44, 26, 27, 184, 0, 95, 191, 26, 172] = true := by decide +kernel
theorem qd_g750 : qd_bs cJ3_checkFromToIndex_8c36e 0 [26, 155, 0, 13, 26, 27, 163, 0, 8, 27, 28, 164, 0, 11, 45, 26, 27, 28, 184, 0, 99, 191, 26, 172] = true := by decide +kernel
theorem qd_g751 : qd_bs cJ3_checkFromIndexSize_8c36e 0 [28, 26, 128, 27, 128, 155, 0, 10, 27, 28, 26, 100, 164, 0, 11, 45, 26, 27, 28, 184, 0, 103, 191, 26, 172] = true := by decide +kernel
theorem qd_g752 : qd_bs cL_poke 0 [45, 3, 42, 27, 28, 182, 0, 7, 133, 80, 167, 0, 11, 58, 4, 4, 172, 58, 4, 5, 172, 3, 172] = true := by decide +kernel
theorem dL_poke_13 : decode cL_poke 13 = .ok (.astore 4, 2) := qd_o58 0 13 qd_g752 rfl rfl
theorem dL_poke_17 : decode cL_poke 17 = .ok (.astore 4, 2) := qd_o58 0 17 qd_g752 rfl rfl
theorem qd_g753 : qd_bs cL_pokeRom 0 [45, 3, 42, 27, 28, 182, 0, 17, 133, 80, 167, 0, 11, 58, 4, 4, 172, 58, 4, 5, 172, 3, 172] = true := by decide +kernel
theorem dL_pokeRom_13 : decode cL_pokeRom 13 = .ok (.astore 4, 2) := qd_o58 0 13 qd_g753 rfl rfl
theorem dL_pokeRom_17 : decode cL_pokeRom 17 = .ok (.astore 4, 2) := qd_o58 0 17 qd_g753 rfl rfl
theorem qd_g754 : qd_bs cL_pokeCartridge 0 [25, 4, 3, 42, 27, 28, 29, 182, 0, 20, 133, 80, 167, 0, 11, 58, 5, 4, 172, 58, 5, 5, 172, 3, 172] = true := by decide +kernel
theorem dL_pokeCartridge_15 : decode cL_pokeCartridge 15 = .ok (.astore 5, 2) := qd_o58 0 15 qd_g754 rfl rfl
theorem dL_pokeCartridge_19 : decode cL_pokeCartridge 19 = .ok (.astore 5, 2) := qd_o58 0 19 qd_g754 rfl rfl
theorem qd_g755 : qd_bs cL_peek 0 [44, 3, 42, 27, 182, 0, 24, 133, 80, 167, 0, 6, 78, 4, 172, 3, 172] = true := by decide +kernel
theorem dL_peek_12 : decode cL_peek 12 = .ok (.astore_n 3, 1) := qd_o78 0 12 qd_g755 rfl
theorem qd_g756 : qd_bs cL_ram 0 [44, 3, 42, 27, 182, 0, 28, 133, 80, 167, 0, 6, 78, 4, 172, 3, 172] = true := by decide +kernel
theorem dL_ram_12 : decode cL_ram 12 = .ok (.astore_n 3, 1) := qd_o78 0 12 qd_g756 rfl
theorem qd_g757 : qd_bs cL_assemble 0 [25, 4, 3, 42, 27, 28, 29, 182, 0, 31, 133, 80, 167, 0, 11, 58, 5, 4, 172, 58, 5, 5, 172, 3, 172] = true := by decide +kernel
theorem dL_assemble_15 : decode cL_assemble 15 = .ok (.astore 5, 2) := qd_o58 0 15 qd_g757 rfl rfl
theorem dL_assemble_19 : decode cL_assemble 19 = .ok (.astore 5, 2) := qd_o58 0 19 qd_g757 rfl rfl
theorem qd_g758 : qd_bs cL_writeLine 0 [44, 3, 42, 27, 182, 0, 34, 133, 80, 167, 0, 6, 78, 4, 172, 3, 172] = true := by decide +kernel
theorem dL_writeLine_12 : decode cL_writeLine 12 = .ok (.astore_n 3, 1) := qd_o78 0 12 qd_g758 rfl
theorem qd_g759 : qd_bs cL_lineAt 0 [44, 3, 42, 27, 182, 0, 37, 133, 80, 167, 0, 6, 78, 4, 172, 3, 172] = true := by decide +kernel
theorem dL_lineAt_12 : decode cL_lineAt 12 = .ok (.astore_n 3, 1) := qd_o78 0 12 qd_g759 rfl
theorem qd_g760 : qd_bs cL_compare 0 [25, 4, 3, 42, 27, 28, 29, 182, 0, 41, 133, 80, 167, 0, 11, 58, 5, 4, 172, 58, 5, 5, 172, 3, 172] = true := by decide +kernel
theorem dL_compare_15 : decode cL_compare 15 = .ok (.astore 5, 2) := qd_o58 0 15 qd_g760 rfl rfl
theorem dL_compare_19 : decode cL_compare 19 = .ok (.astore 5, 2) := qd_o58 0 19 qd_g760 rfl rfl
theorem qd_g761 : qd_bs cL_register 0 [44, 3, 42, 27, 182, 0, 44, 133, 80, 167, 0, 6, 78, 4, 172, 3, 172] = true := by decide +kernel
theorem dL_register_12 : decode cL_register 12 = .ok (.astore_n 3, 1) := qd_o78 0 12 qd_g761 rfl
theorem qd_g762 : qd_bs cL_setRegister 0 [45, 3, 42, 27, 28, 182, 0, 47, 133, 80, 167, 0, 15, 58, 4, 4, 172, 58, 4, 5, 172, 58, 4, 6, 172, 3, 172] = true := by decide +kernel
theorem dL_setRegister_13 : decode cL_setRegister 13 = .ok (.astore 4, 2) := qd_o58 0 13 qd_g762 rfl rfl
theorem dL_setRegister_17 : decode cL_setRegister 17 = .ok (.astore 4, 2) := qd_o58 0 17 qd_g762 rfl rfl
theorem dL_setRegister_21 : decode cL_setRegister 21 = .ok (.astore 4, 2) := qd_o58 0 21 qd_g762 rfl rfl
theorem qd_g763 : qd_bs cL_run 0 [44, 3, 42, 27, 182, 0, 52, 133, 80, 167, 0, 6, 78, 4, 172, 3, 172] = true := by decide +kernel
theorem dL_run_12 : decode cL_run 12 = .ok (.astore_n 3, 1) := qd_o78 0 12 qd_g763 rfl
theorem qd_g764 : qd_bs cL_step 0 [43, 3, 42, 182, 0, 55, 133, 80, 167, 0, 6, 77, 4, 172, 3, 172] = true := by decide +kernel
theorem dL_step_11 : decode cL_step 11 = .ok (.astore_n 2, 1) := qd_o77 0 11 qd_g764 rfl
theorem qd_g765 : qd_bs cL_traceAt 0 [44, 3, 42, 27, 182, 0, 59, 133, 80, 167, 0, 6, 78, 4, 172, 3, 172] = true := by decide +kernel
theorem dL_traceAt_12 : decode cL_traceAt 12 = .ok (.astore_n 3, 1) := qd_o78 0 12 qd_g765 rfl
theorem qd_g766 : qd_bs cL_pixel 0 [45, 3, 42, 27, 28, 182, 0, 62, 133, 80, 167, 0, 7, 58, 4, 4, 172, 3, 172] = true := by decide +kernel
theorem dL_pixel_13 : decode cL_pixel 13 = .ok (.astore 4, 2) := qd_o58 0 13 qd_g766 rfl rfl
theorem qd_g767 : qd_bs cL_pixelAgain 0 [45, 3, 42, 27, 28, 182, 0, 65, 133, 80, 167, 0, 7, 58, 4, 4, 172, 3, 172] = true := by decide +kernel
theorem dL_pixelAgain_13 : decode cL_pixelAgain 13 = .ok (.astore 4, 2) := qd_o58 0 13 qd_g767 rfl rfl
theorem qd_g768 : qd_bs cL_sample 0 [44, 3, 42, 27, 182, 0, 68, 133, 80, 167, 0, 6, 78, 4, 172, 3, 172] = true := by decide +kernel
theorem dL_sample_12 : decode cL_sample 12 = .ok (.astore_n 3, 1) := qd_o78 0 12 qd_g768 rfl
theorem qd_g769 : qd_bs cL_level 0 [44, 3, 42, 27, 182, 0, 71, 133, 80, 167, 0, 6, 78, 4, 172, 3, 172] = true := by decide +kernel
theorem dL_level_12 : decode cL_level 12 = .ok (.astore_n 3, 1) := qd_o78 0 12 qd_g769 rfl
theorem qd_g770 : qd_bs cL_key 0 [25, 4, 3, 42, 27, 28, 29, 182, 0, 74, 153, 0, 7, 10, 167, 0, 4, 9, 80, 167, 0, 7, 58, 5, 4, 172, 3, 172] = true := by decide +kernel
theorem dL_key_22 : decode cL_key 22 = .ok (.astore 5, 2) := qd_o58 0 22 qd_g770 rfl rfl
theorem qd_g771 : qd_bs cL_columns 0 [44, 3, 42, 27, 182, 0, 78, 133, 80, 167, 0, 6, 78, 4, 172, 3, 172] = true := by decide +kernel
theorem dL_columns_12 : decode cL_columns 12 = .ok (.astore_n 3, 1) := qd_o78 0 12 qd_g771 rfl
theorem qd_g772 : qd_bs cL_joystick 0 [44, 3, 42, 27, 182, 0, 81, 133, 80, 167, 0, 6, 78, 4, 172, 3, 172] = true := by decide +kernel
theorem dL_joystick_12 : decode cL_joystick 12 = .ok (.astore_n 3, 1) := qd_o78 0 12 qd_g772 rfl
theorem qd_g773 : qd_bs cL_addPulse 0 [44, 3, 42, 27, 182, 0, 84, 133, 80, 167, 0, 9, 78, 4, 172, 78, 5, 172, 3, 172] = true := by decide +kernel
theorem dL_addPulse_12 : decode cL_addPulse 12 = .ok (.astore_n 3, 1) := qd_o78 0 12 qd_g773 rfl
theorem dL_addPulse_15 : decode cL_addPulse 15 = .ok (.astore_n 3, 1) := qd_o78 0 15 qd_g773 rfl
theorem qd_g774 : qd_bs cL_save 0 [43, 3, 42, 182, 0, 87, 133, 80, 167, 0, 6, 77, 4, 172, 3, 172] = true := by decide +kernel
theorem dL_save_11 : decode cL_save 11 = .ok (.astore_n 2, 1) := qd_o77 0 11 qd_g774 rfl
theorem qd_g775 : qd_bs cL_restore 0 [44, 3, 42, 27, 182, 0, 90, 133, 80, 167, 0, 6, 78, 4, 172, 3, 172] = true := by decide +kernel
theorem dL_restore_12 : decode cL_restore 12 = .ok (.astore_n 3, 1) := qd_o78 0 12 qd_g775 rfl
theorem qd_g776 : qd_bs cL_differences 0 [44, 3, 42, 27, 182, 0, 95, 133, 80, 167, 0, 6, 78, 4, 172, 3, 172] = true := by decide +kernel
theorem dL_differences_12 : decode cL_differences 12 = .ok (.astore_n 3, 1) := qd_o78 0 12 qd_g776 rfl
theorem qd_g777 : qd_bs cL_recorded 0 [43, 3, 42, 182, 0, 98, 133, 80, 167, 0, 6, 77, 4, 172, 3, 172] = true := by decide +kernel
theorem dL_recorded_11 : decode cL_recorded 11 = .ok (.astore_n 2, 1) := qd_o77 0 11 qd_g777 rfl
theorem qd_g778 : qd_bs cL_isSame 0 [43, 3, 42, 182, 0, 101, 153, 0, 7, 10, 167, 0, 4, 9, 80, 167, 0, 6, 77, 4, 172, 3, 172] = true := by decide +kernel
theorem dL_isSame_18 : decode cL_isSame 18 = .ok (.astore_n 2, 1) := qd_o77 0 18 qd_g778 rfl
theorem qd_g779 : qd_bs cL_law 0 [187, 0, 8, 89, 183, 0, 105, 76, 187, 0, 106, 89, 183, 0, 108, 77, 4] = true := by decide +kernel
theorem dL_law_17 : decode cL_law 17 = .ok (.newarray .long, 2) := by decide +kernel
theorem qd_g780 : qd_bs cL_law 19 [78, 3, 54, 4, 21, 4, 42, 190, 7, 100, 163, 5, 26, 42, 21, 4, 46, 16, 63, 126] = true := by decide +kernel
theorem dL_law_39 : decode cL_law 39 = .ok (.tableswitch 1290 0 41 #[181, 221, 261, 313, 341, 369, 421, 449, 477, 529, 557, 597, 610, 623, 636, 664, 680, 693, 706, 719, 732, 745, 801, 841, 881, 909, 937, 1005, 1033, 1061, 1089, 1102, 1115, 1131, 1159, 1187, 1200, 1216, 1232, 1245, 1258, 1275], 181) := by decide +kernel
theorem qd_g781 : qd_bs cL_law 220 [43, 42, 21, 4, 4, 96, 46, 42, 21, 4, 5, 96, 46, 45, 184, 0, 109, 54, 5, 44, 42, 21, 4, 4, 96, 46, 42, 21, 4, 5, 96, 46, 182, 0, 114, 54, 6, 167, 4, 48] = true := by decide +kernel
theorem qd_g782 : qd_bs cL_law 260 [43, 42, 21, 4, 4, 96, 46, 42, 21, 4, 5, 96, 46, 45, 184, 0, 115, 54, 5, 44, 42, 21, 4, 4, 96, 46, 42, 21, 4, 5, 96, 46, 182, 0, 117, 54, 6, 167, 4, 8] = true := by decide +kernel
theorem qd_g783 : qd_bs cL_law 300 [43, 42, 21, 4, 4, 96, 46, 42, 21, 4, 5, 96, 46, 42, 21, 4, 6, 96, 46, 45, 184, 0, 118, 54, 5, 44, 42, 21, 4, 4, 96, 46, 42, 21, 4, 5, 96, 46, 42] = true := by decide +kernel
theorem qd_g784 : qd_bs cL_law 339 [21, 4, 6, 96, 46, 182, 0, 121, 54, 6, 167, 3, 212, 43, 42, 21, 4, 4, 96, 46, 45, 184, 0, 122, 54, 5, 44, 42, 21, 4, 4, 96, 46, 182, 0, 125, 54, 6] = true := by decide +kernel
theorem qd_g785 : qd_bs cL_law 377 [167, 3, 184, 43, 42, 21, 4, 4, 96, 46, 45, 184, 0, 126, 54, 5, 44, 42, 21, 4, 4, 96, 46, 182, 0, 128, 54, 6, 167, 3, 156, 43, 42, 21, 4, 4, 96, 46, 42] = true := by decide +kernel
theorem qd_g786 : qd_bs cL_law 416 [21, 4, 5, 96, 46, 42, 21, 4, 6, 96, 46, 45, 184, 0, 129, 54, 5, 44, 42, 21, 4, 4, 96, 46, 42, 21, 4, 5, 96, 46, 42, 21, 4, 6, 96, 46, 182, 0, 131] = true := by decide +kernel
theorem qd_g787 : qd_bs cL_law 455 [54, 6, 167, 3, 104, 43, 42, 21, 4, 4, 96, 46, 45, 184, 0, 132, 54, 5, 44, 42, 21, 4, 4, 96, 46, 182, 0, 134, 54, 6, 167, 3, 76, 43, 42, 21, 4, 4, 96, 46] = true := by decide +kernel
theorem qd_g788 : qd_bs cL_law 495 [45, 184, 0, 135, 54, 5, 44, 42, 21, 4, 4, 96, 46, 182, 0, 137, 54, 6, 167, 3, 48, 43, 42, 21, 4, 4, 96, 46, 42, 21, 4, 5, 96, 46, 42, 21, 4, 6, 96, 46] = true := by decide +kernel
theorem qd_g789 : qd_bs cL_law 535 [45, 184, 0, 138, 54, 5, 44, 42, 21, 4, 4, 96, 46, 42, 21, 4, 5, 96, 46, 42, 21, 4, 6, 96, 46, 182, 0, 140, 54, 6, 167, 2, 252, 43, 42, 21, 4, 4, 96, 46] = true := by decide +kernel
theorem qd_g790 : qd_bs cL_law 575 [45, 184, 0, 141, 54, 5, 44, 42, 21, 4, 4, 96, 46, 182, 0, 143, 54, 6, 167, 2, 224, 43, 42, 21, 4, 4, 96, 46, 42, 21, 4, 5, 96, 46, 45, 184, 0, 144, 54, 5] = true := by decide +kernel
theorem qd_g791 : qd_bs cL_law 615 [44, 42, 21, 4, 4, 96, 46, 42, 21, 4, 5, 96, 46, 182, 0, 146, 54, 6, 167, 2, 184, 43, 182, 0, 147, 87, 44, 182, 0, 150, 87, 167, 2, 171, 43, 182, 0, 151, 87, 44] = true := by decide +kernel
theorem qd_g792 : qd_bs cL_law 655 [182, 0, 154, 87, 167, 2, 158, 43, 182, 0, 155, 87, 44, 182, 0, 158, 87, 167, 2, 145, 43, 42, 21, 4, 4, 96, 46, 45, 184, 0, 159, 54, 5, 44, 42, 21, 4, 4, 96, 46] = true := by decide +kernel
theorem qd_g793 : qd_bs cL_law 695 [182, 0, 161, 54, 6, 167, 2, 117, 43, 45, 184, 0, 162, 54, 5, 44, 182, 0, 165, 54, 6, 167, 2, 101, 43, 182, 0, 166, 88, 44, 182, 0, 170, 88, 167, 2, 88, 43] = true := by decide +kernel
theorem qd_g794 : qd_bs cL_law 733 [182, 0, 171, 87, 44, 182, 0, 174, 87, 167, 2, 75, 43, 182, 0, 175, 87, 44, 182, 0, 178, 87, 167, 2, 62, 43, 182, 0, 179, 87, 44, 182, 0, 182, 87, 167, 2, 49, 43] = true := by decide +kernel
theorem qd_g795 : qd_bs cL_law 772 [182, 0, 183, 87, 44, 182, 0, 186, 87, 167, 2, 36, 43, 42, 21, 4, 4, 96, 46, 45, 184, 0, 187, 54, 5, 44, 42, 21, 4, 4, 96, 46, 182, 0, 189, 54, 6, 44] = true := by decide +kernel
theorem qd_g796 : qd_bs cL_law 810 [182, 0, 190, 21, 5, 159, 0, 5, 3, 172, 21, 5, 154, 0, 15, 45, 3, 47, 21, 6, 133, 148, 153, 0, 5, 3, 172, 167, 1, 236, 43, 42, 21, 4, 4, 96, 46, 42, 21, 4] = true := by decide +kernel
theorem qd_g797 : qd_bs cL_law 850 [5, 96, 46, 45, 184, 0, 193, 54, 5, 44, 42, 21, 4, 4, 96, 46, 42, 21, 4, 5, 96, 46, 182, 0, 195, 54, 6, 167, 1, 196, 43, 42, 21, 4, 4, 96, 46, 42, 21, 4] = true := by decide +kernel
theorem qd_g798 : qd_bs cL_law 890 [5, 96, 46, 45, 184, 0, 196, 54, 5, 44, 42, 21, 4, 4, 96, 46, 42, 21, 4, 5, 96, 46, 182, 0, 198, 54, 6, 167, 1, 156, 43, 42, 21, 4, 4, 96, 46, 45] = true := by decide +kernel
theorem qd_g799 : qd_bs cL_law 928 [184, 0, 199, 54, 5, 44, 42, 21, 4, 4, 96, 46, 182, 0, 201, 54, 6, 167, 1, 128, 43, 42, 21, 4, 4, 96, 46, 45, 184, 0, 202, 54, 5, 44, 42, 21, 4, 4, 96, 46] = true := by decide +kernel
theorem qd_g800 : qd_bs cL_law 968 [182, 0, 204, 54, 6, 167, 1, 100, 43, 42, 21, 4, 4, 96, 46, 42, 21, 4, 5, 96, 46, 42, 21, 4, 6, 96, 46, 153, 0, 7, 4, 167, 0, 4, 3, 45, 184, 0, 205] = true := by decide +kernel
theorem qd_g801 : qd_bs cL_law 1007 [54, 5, 44, 42, 21, 4, 4, 96, 46, 42, 21, 4, 5, 96, 46, 42, 21, 4, 6, 96, 46, 153, 0, 7, 4, 167, 0, 4, 3, 182, 0, 208, 54, 6, 167, 1, 32, 43, 42] = true := by decide +kernel
theorem qd_g802 : qd_bs cL_law 1046 [21, 4, 4, 96, 46, 45, 184, 0, 209, 54, 5, 44, 42, 21, 4, 4, 96, 46, 182, 0, 211, 54, 6, 167, 1, 4, 43, 42, 21, 4, 4, 96, 46, 45, 184, 0, 212, 54, 5, 44] = true := by decide +kernel
theorem qd_g803 : qd_bs cL_law 1086 [42, 21, 4, 4, 96, 46, 182, 0, 214, 54, 6, 167, 0, 232, 43, 42, 21, 4, 4, 96, 46, 45, 184, 0, 215, 54, 5, 44, 42, 21, 4, 4, 96, 46, 182, 0, 217, 54, 6] = true := by decide +kernel
theorem qd_g804 : qd_bs cL_law 1125 [167, 0, 204, 43, 182, 0, 218, 87, 44, 182, 0, 221, 87, 167, 0, 191, 43, 182, 0, 222, 87, 44, 182, 0, 225, 87, 167, 0, 178, 43, 45, 184, 0, 226, 54, 5, 44, 182, 0, 228] = true := by decide +kernel
theorem qd_g805 : qd_bs cL_law 1165 [54, 6, 167, 0, 162, 43, 42, 21, 4, 4, 96, 46, 45, 184, 0, 229, 54, 5, 44, 42, 21, 4, 4, 96, 46, 182, 0, 231, 54, 6, 167, 0, 134, 43, 42, 21, 4, 4, 96, 46] = true := by decide +kernel
theorem qd_g806 : qd_bs cL_law 1205 [45, 184, 0, 232, 54, 5, 44, 42, 21, 4, 4, 96, 46, 182, 0, 234, 54, 6, 167, 0, 106, 43, 182, 0, 235, 87, 44, 182, 0, 238, 87, 167, 0, 93, 43, 45, 184, 0, 239] = true := by decide +kernel
theorem qd_g807 : qd_bs cL_law 1244 [54, 5, 44, 182, 0, 241, 54, 6, 167, 0, 77, 43, 45, 184, 0, 242, 54, 5, 44, 182, 0, 244, 54, 6, 167, 0, 61, 43, 182, 0, 245, 87, 44, 182, 0, 248, 87, 167, 0, 48] = true := by decide +kernel
theorem qd_g808 : qd_bs cL_law 1284 [43, 182, 0, 249, 88, 44, 182, 0, 252, 88, 167, 0, 35, 43, 182, 0, 253, 141, 57, 5, 44, 182, 1, 1, 141, 57, 7, 167, 0, 18, 43, 182, 1, 2, 57, 5, 44, 182, 1, 6] = true := by decide +kernel
theorem qd_g809 : qd_bs cL_law 1324 [57, 7, 167, 0, 3, 132, 4, 4, 167, 250, 227, 4, 172] = true := by decide +kernel
end
