def q_xs : List Cond := [.selects "java/lang/StringBuilder" ⟨"java/lang/AbstractStringBuilder", "newCapacity", "(I)I"⟩ ⟨"java/lang/AbstractStringBuilder", "newCapacity", "(I)I"⟩, .selects "java/lang/StringBuilder" ⟨"java/lang/AbstractStringBuilder", "ensureCapacityInternal", "(I)V"⟩ ⟨"java/lang/AbstractStringBuilder", "ensureCapacityInternal", "(I)V"⟩, .selects "java/lang/StringBuilder" ⟨"java/lang/AbstractStringBuilder", "appendNull", "()Ljava/lang/AbstractStringBuilder;"⟩ ⟨"java/lang/AbstractStringBuilder", "appendNull", "()Ljava/lang/AbstractStringBuilder;"⟩, .selects "java/lang/StringBuilder" ⟨"java/lang/AbstractStringBuilder", "putStringAt", "(ILjava/lang/String;)V"⟩ ⟨"java/lang/AbstractStringBuilder", "putStringAt", "(ILjava/lang/String;)V"⟩, .selects "java/lang/StringBuilder" ⟨"java/lang/AbstractStringBuilder", "inflate", "()V"⟩ ⟨"java/lang/AbstractStringBuilder", "inflate", "()V"⟩, .selects "java/lang/StringBuilder" ⟨"java/lang/AbstractStringBuilder", "inflateIfNeededFor", "(Ljava/lang/String;)V"⟩ ⟨"java/lang/AbstractStringBuilder", "inflateIfNeededFor", "(Ljava/lang/String;)V"⟩]
def q_WU : List Cond := (q_xs ++ lw_tbl).filter goodWord
theorem q_WU_in : ∀ w ∈ q_WU, w ∈ q_xs ∨ w ∈ lw_tbl := fun w h => List.mem_append.mp (List.mem_filter.mp h).1
theorem q_WU_good : ∀ w ∈ q_WU, goodWord w = true := fun w h => (List.mem_filter.mp h).2
theorem q_WU_of : ∀ w ∈ lw_tbl, goodWord w = true → w ∈ q_WU := fun w h g => List.mem_filter.mpr ⟨List.mem_append_right _ h, g⟩
theorem q_xin : ∀ w ∈ q_xs, goodWord w = true → w ∈ q_WU := fun w h g => List.mem_filter.mpr ⟨List.mem_append_left _ h, g⟩
theorem q_tab1 : ∀ w ∈ tables_1_1, goodWord w = true → w ∈ q_WU := fun w h g => q_WU_of w (List.mem_append_right _ (show w ∈ tables_1 from List.mem_append_left _ h)) g
theorem q_tab2 : ∀ w ∈ tables_1_2, goodWord w = true → w ∈ q_WU := fun w h g => q_WU_of w (List.mem_append_right _ (show w ∈ tables_1 from List.mem_append_right _ (List.mem_append_left _ h))) g
theorem q_tab3 : ∀ w ∈ tables_1_3, goodWord w = true → w ∈ q_WU := fun w h g => q_WU_of w (List.mem_append_right _ (show w ∈ tables_1 from List.mem_append_right _ (List.mem_append_right _ (List.mem_append_left _ h)))) g
theorem q_tab4 : ∀ w ∈ tables_1_4, goodWord w = true → w ∈ q_WU := fun w h g => q_WU_of w (List.mem_append_right _ (show w ∈ tables_1 from List.mem_append_right _ (List.mem_append_right _ (List.mem_append_right _ (List.mem_append_left _ h))))) g
theorem q_tab5 : ∀ w ∈ tables_1_5, goodWord w = true → w ∈ q_WU := fun w h g => q_WU_of w (List.mem_append_right _ (show w ∈ tables_1 from List.mem_append_right _ (List.mem_append_right _ (List.mem_append_right _ (List.mem_append_right _ (List.mem_append_left _ h)))))) g
theorem q_tab6 : ∀ w ∈ tables_1_6, goodWord w = true → w ∈ q_WU := fun w h g => q_WU_of w (List.mem_append_right _ (show w ∈ tables_1 from List.mem_append_right _ (List.mem_append_right _ (List.mem_append_right _ (List.mem_append_right _ (List.mem_append_right _ (List.mem_append_left _ h))))))) g
theorem q_tab7 : ∀ w ∈ tables_1_7, goodWord w = true → w ∈ q_WU := fun w h g => q_WU_of w (List.mem_append_right _ (show w ∈ tables_1 from List.mem_append_right _ (List.mem_append_right _ (List.mem_append_right _ (List.mem_append_right _ (List.mem_append_right _ (List.mem_append_right _ (List.mem_append_left _ h)))))))) g
theorem q_tab8 : ∀ w ∈ tables_1_8, goodWord w = true → w ∈ q_WU := fun w h g => q_WU_of w (List.mem_append_right _ (show w ∈ tables_1 from List.mem_append_right _ (List.mem_append_right _ (List.mem_append_right _ (List.mem_append_right _ (List.mem_append_right _ (List.mem_append_right _ (List.mem_append_right _ (List.mem_append_left _ h))))))))) g
theorem q_tab9 : ∀ w ∈ tables_1_9, goodWord w = true → w ∈ q_WU := fun w h g => q_WU_of w (List.mem_append_right _ (show w ∈ tables_1 from List.mem_append_right _ (List.mem_append_right _ (List.mem_append_right _ (List.mem_append_right _ (List.mem_append_right _ (List.mem_append_right _ (List.mem_append_right _ (List.mem_append_right _ (List.mem_append_left _ h)))))))))) g
theorem q_tab10 : ∀ w ∈ tables_1_10, goodWord w = true → w ∈ q_WU := fun w h g => q_WU_of w (List.mem_append_right _ (show w ∈ tables_1 from List.mem_append_right _ (List.mem_append_right _ (List.mem_append_right _ (List.mem_append_right _ (List.mem_append_right _ (List.mem_append_right _ (List.mem_append_right _ (List.mem_append_right _ (List.mem_append_right _ (h))))))))))) g
theorem q_prl1 : ∀ q ∈ lw_privs_1, q ∈ lw_privs := fun q h => show q ∈ lw_privs from List.mem_append_left _ h
theorem q_priv1 : ∀ w ∈ lw_privs_1.map (fun q => Cond.selects q.1.cls q.1 q.1), goodWord w = true → w ∈ q_WU := fun w h g => q_WU_of w (List.mem_append_left _ (by obtain ⟨q, hq, e⟩ := List.mem_map.mp h; exact List.mem_map.mpr ⟨q, q_prl1 q hq, e⟩)) g
theorem q_prl2 : ∀ q ∈ lw_privs_2, q ∈ lw_privs := fun q h => show q ∈ lw_privs from List.mem_append_right _ (List.mem_append_left _ h)
theorem q_priv2 : ∀ w ∈ lw_privs_2.map (fun q => Cond.selects q.1.cls q.1 q.1), goodWord w = true → w ∈ q_WU := fun w h g => q_WU_of w (List.mem_append_left _ (by obtain ⟨q, hq, e⟩ := List.mem_map.mp h; exact List.mem_map.mpr ⟨q, q_prl2 q hq, e⟩)) g
theorem q_prl3 : ∀ q ∈ lw_privs_3, q ∈ lw_privs := fun q h => show q ∈ lw_privs from List.mem_append_right _ (List.mem_append_right _ (List.mem_append_left _ h))
theorem q_priv3 : ∀ w ∈ lw_privs_3.map (fun q => Cond.selects q.1.cls q.1 q.1), goodWord w = true → w ∈ q_WU := fun w h g => q_WU_of w (List.mem_append_left _ (by obtain ⟨q, hq, e⟩ := List.mem_map.mp h; exact List.mem_map.mpr ⟨q, q_prl3 q hq, e⟩)) g
theorem q_prl4 : ∀ q ∈ lw_privs_4, q ∈ lw_privs := fun q h => show q ∈ lw_privs from List.mem_append_right _ (List.mem_append_right _ (List.mem_append_right _ (List.mem_append_left _ h)))
theorem q_priv4 : ∀ w ∈ lw_privs_4.map (fun q => Cond.selects q.1.cls q.1 q.1), goodWord w = true → w ∈ q_WU := fun w h g => q_WU_of w (List.mem_append_left _ (by obtain ⟨q, hq, e⟩ := List.mem_map.mp h; exact List.mem_map.mpr ⟨q, q_prl4 q hq, e⟩)) g
theorem q_prl5 : ∀ q ∈ lw_privs_5, q ∈ lw_privs := fun q h => show q ∈ lw_privs from List.mem_append_right _ (List.mem_append_right _ (List.mem_append_right _ (List.mem_append_right _ (h))))
theorem q_priv5 : ∀ w ∈ lw_privs_5.map (fun q => Cond.selects q.1.cls q.1 q.1), goodWord w = true → w ∈ q_WU := fun w h g => q_WU_of w (List.mem_append_left _ (by obtain ⟨q, hq, e⟩ := List.mem_map.mp h; exact List.mem_map.mpr ⟨q, q_prl5 q hq, e⟩)) g
theorem q_w0 : Cond.methodLink RL 7 yX11_poke ∈ q_WU := q_tab4 _ (List.mem_of_getElem? (i := 165) rfl) rfl
theorem q_w1 : Cond.code yX11_poke cX11_poke 3 (some .int) ∈ q_WU := q_tab4 _ (List.mem_of_getElem? (i := 168) rfl) rfl
theorem q_w2 : Cond.instanceMethod yX11_poke ∈ q_WU := q_tab4 _ (List.mem_of_getElem? (i := 166) rfl) rfl
theorem q_w3 : Cond.selects RX11 yX11_poke yX11_poke ∈ q_WU := q_tab4 _ (List.mem_of_getElem? (i := 167) rfl) rfl
theorem q_w4 : Cond.initialized RX11 ∈ q_WU := q_tab1 _ (List.mem_of_getElem? (i := 1) rfl) rfl
theorem q_w5 : Cond.classLink RL 13 "java/lang/IndexOutOfBoundsException" ∈ q_WU := q_tab4 _ (List.mem_of_getElem? (i := 163) rfl) rfl
theorem q_w6 : Cond.classLink RL 15 "java/lang/IllegalArgumentException" ∈ q_WU := q_tab4 _ (List.mem_of_getElem? (i := 164) rfl) rfl
theorem q_w7 : Cond.methodLink RL 17 yX11_pokeRom ∈ q_WU := q_tab5 _ (List.mem_of_getElem? (i := 30) rfl) rfl
theorem q_w8 : Cond.code yX11_pokeRom cX11_pokeRom 3 (some .int) ∈ q_WU := q_tab5 _ (List.mem_of_getElem? (i := 33) rfl) rfl
theorem q_w9 : Cond.instanceMethod yX11_pokeRom ∈ q_WU := q_tab5 _ (List.mem_of_getElem? (i := 31) rfl) rfl
theorem q_w10 : Cond.selects RX11 yX11_pokeRom yX11_pokeRom ∈ q_WU := q_tab5 _ (List.mem_of_getElem? (i := 32) rfl) rfl
theorem q_w11 : Cond.methodLink RL 20 yX11_pokeCartridge ∈ q_WU := q_tab5 _ (List.mem_of_getElem? (i := 37) rfl) rfl
theorem q_w12 : Cond.code yX11_pokeCartridge cX11_pokeCartridge 4 (some .int) ∈ q_WU := q_tab5 _ (List.mem_of_getElem? (i := 40) rfl) rfl
theorem q_w13 : Cond.instanceMethod yX11_pokeCartridge ∈ q_WU := q_tab5 _ (List.mem_of_getElem? (i := 38) rfl) rfl
theorem q_w14 : Cond.selects RX11 yX11_pokeCartridge yX11_pokeCartridge ∈ q_WU := q_tab5 _ (List.mem_of_getElem? (i := 39) rfl) rfl
theorem q_w15 : Cond.methodLink RL 24 yX11_peek ∈ q_WU := q_tab5 _ (List.mem_of_getElem? (i := 44) rfl) rfl
theorem q_w16 : Cond.code yX11_peek cX11_peek 2 (some .int) ∈ q_WU := q_tab5 _ (List.mem_of_getElem? (i := 47) rfl) rfl
theorem q_w17 : Cond.instanceMethod yX11_peek ∈ q_WU := q_tab5 _ (List.mem_of_getElem? (i := 45) rfl) rfl
theorem q_w18 : Cond.selects RX11 yX11_peek yX11_peek ∈ q_WU := q_tab5 _ (List.mem_of_getElem? (i := 46) rfl) rfl
theorem q_w19 : Cond.methodLink RL 28 yX11_ram ∈ q_WU := q_tab5 _ (List.mem_of_getElem? (i := 52) rfl) rfl
theorem q_w20 : Cond.code yX11_ram cX11_ram 2 (some .int) ∈ q_WU := q_tab5 _ (List.mem_of_getElem? (i := 55) rfl) rfl
theorem q_w21 : Cond.instanceMethod yX11_ram ∈ q_WU := q_tab5 _ (List.mem_of_getElem? (i := 53) rfl) rfl
theorem q_w22 : Cond.selects RX11 yX11_ram yX11_ram ∈ q_WU := q_tab5 _ (List.mem_of_getElem? (i := 54) rfl) rfl
theorem q_w23 : Cond.methodLink RL 31 yX11_assemble ∈ q_WU := q_tab5 _ (List.mem_of_getElem? (i := 59) rfl) rfl
theorem q_w24 : Cond.code yX11_assemble cX11_assemble 4 (some .int) ∈ q_WU := q_tab5 _ (List.mem_of_getElem? (i := 62) rfl) rfl
theorem q_w25 : Cond.instanceMethod yX11_assemble ∈ q_WU := q_tab5 _ (List.mem_of_getElem? (i := 60) rfl) rfl
theorem q_w26 : Cond.selects RX11 yX11_assemble yX11_assemble ∈ q_WU := q_tab5 _ (List.mem_of_getElem? (i := 61) rfl) rfl
theorem q_w27 : Cond.methodLink RL 34 yX11_writeLine ∈ q_WU := q_tab5 _ (List.mem_of_getElem? (i := 67) rfl) rfl
theorem q_w28 : Cond.code yX11_writeLine cX11_writeLine 2 (some .int) ∈ q_WU := q_tab5 _ (List.mem_of_getElem? (i := 70) rfl) rfl
theorem q_w29 : Cond.instanceMethod yX11_writeLine ∈ q_WU := q_tab5 _ (List.mem_of_getElem? (i := 68) rfl) rfl
theorem q_w30 : Cond.selects RX11 yX11_writeLine yX11_writeLine ∈ q_WU := q_tab5 _ (List.mem_of_getElem? (i := 69) rfl) rfl
theorem q_w31 : Cond.methodLink RL 37 yX11_lineAt ∈ q_WU := q_tab6 _ (List.mem_of_getElem? (i := 175) rfl) rfl
theorem q_w32 : Cond.code yX11_lineAt cX11_lineAt 2 (some .char) ∈ q_WU := q_tab6 _ (List.mem_of_getElem? (i := 178) rfl) rfl
theorem q_w33 : Cond.instanceMethod yX11_lineAt ∈ q_WU := q_tab6 _ (List.mem_of_getElem? (i := 176) rfl) rfl
theorem q_w34 : Cond.selects RX11 yX11_lineAt yX11_lineAt ∈ q_WU := q_tab6 _ (List.mem_of_getElem? (i := 177) rfl) rfl
theorem q_w35 : Cond.methodLink RL 41 yX11_compare ∈ q_WU := q_tab6 _ (List.mem_of_getElem? (i := 192) rfl) rfl
theorem q_w36 : Cond.code yX11_compare cX11_compare 7 (some .int) ∈ q_WU := q_tab6 _ (List.mem_of_getElem? (i := 195) rfl) rfl
theorem q_w37 : Cond.instanceMethod yX11_compare ∈ q_WU := q_tab6 _ (List.mem_of_getElem? (i := 193) rfl) rfl
theorem q_w38 : Cond.selects RX11 yX11_compare yX11_compare ∈ q_WU := q_tab6 _ (List.mem_of_getElem? (i := 194) rfl) rfl
theorem q_w39 : Cond.methodLink RL 44 yX11_register ∈ q_WU := q_tab6 _ (List.mem_of_getElem? (i := 199) rfl) rfl
theorem q_w40 : Cond.code yX11_register cX11_register 2 (some .int) ∈ q_WU := q_tab6 _ (List.mem_of_getElem? (i := 202) rfl) rfl
theorem q_w41 : Cond.instanceMethod yX11_register ∈ q_WU := q_tab6 _ (List.mem_of_getElem? (i := 200) rfl) rfl
theorem q_w42 : Cond.selects RX11 yX11_register yX11_register ∈ q_WU := q_tab6 _ (List.mem_of_getElem? (i := 201) rfl) rfl
theorem q_w43 : Cond.methodLink RL 47 yX11_setRegister ∈ q_WU := q_tab6 _ (List.mem_of_getElem? (i := 208) rfl) rfl
theorem q_w44 : Cond.code yX11_setRegister cX11_setRegister 3 (some .int) ∈ q_WU := q_tab6 _ (List.mem_of_getElem? (i := 211) rfl) rfl
theorem q_w45 : Cond.instanceMethod yX11_setRegister ∈ q_WU := q_tab6 _ (List.mem_of_getElem? (i := 209) rfl) rfl
theorem q_w46 : Cond.selects RX11 yX11_setRegister yX11_setRegister ∈ q_WU := q_tab6 _ (List.mem_of_getElem? (i := 210) rfl) rfl
theorem q_w47 : Cond.classLink RL 50 "java/lang/IllegalStateException" ∈ q_WU := q_tab6 _ (List.mem_of_getElem? (i := 207) rfl) rfl
theorem q_w48 : Cond.methodLink RL 52 yX11_run ∈ q_WU := q_tab6 _ (List.mem_of_getElem? (i := 231) rfl) rfl
theorem q_w49 : Cond.code yX11_run cX11_run 2 (some .int) ∈ q_WU := q_tab6 _ (List.mem_of_getElem? (i := 234) rfl) rfl
theorem q_w50 : Cond.instanceMethod yX11_run ∈ q_WU := q_tab6 _ (List.mem_of_getElem? (i := 232) rfl) rfl
theorem q_w51 : Cond.selects RX11 yX11_run yX11_run ∈ q_WU := q_tab6 _ (List.mem_of_getElem? (i := 233) rfl) rfl
theorem q_w52 : Cond.methodLink RL 55 yX11_step ∈ q_WU := q_tab6 _ (List.mem_of_getElem? (i := 238) rfl) rfl
theorem q_w53 : Cond.code yX11_step cX11_step 1 (some .int) ∈ q_WU := q_tab7 _ (List.mem_of_getElem? (i := 1) rfl) rfl
theorem q_w54 : Cond.instanceMethod yX11_step ∈ q_WU := q_tab6 _ (List.mem_of_getElem? (i := 239) rfl) rfl
theorem q_w55 : Cond.selects RX11 yX11_step yX11_step ∈ q_WU := q_tab7 _ (List.mem_of_getElem? (i := 0) rfl) rfl
theorem q_w56 : Cond.methodLink RL 59 yX11_traceAt ∈ q_WU := q_tab7 _ (List.mem_of_getElem? (i := 6) rfl) rfl
theorem q_w57 : Cond.code yX11_traceAt cX11_traceAt 3 (some .int) ∈ q_WU := q_tab7 _ (List.mem_of_getElem? (i := 9) rfl) rfl
theorem q_w58 : Cond.instanceMethod yX11_traceAt ∈ q_WU := q_tab7 _ (List.mem_of_getElem? (i := 7) rfl) rfl
theorem q_w59 : Cond.selects RX11 yX11_traceAt yX11_traceAt ∈ q_WU := q_tab7 _ (List.mem_of_getElem? (i := 8) rfl) rfl
theorem q_w60 : Cond.methodLink RL 62 yX11_pixel ∈ q_WU := q_tab7 _ (List.mem_of_getElem? (i := 13) rfl) rfl
theorem q_w61 : Cond.code yX11_pixel cX11_pixel 3 (some .int) ∈ q_WU := q_tab7 _ (List.mem_of_getElem? (i := 16) rfl) rfl
theorem q_w62 : Cond.instanceMethod yX11_pixel ∈ q_WU := q_tab7 _ (List.mem_of_getElem? (i := 14) rfl) rfl
theorem q_w63 : Cond.selects RX11 yX11_pixel yX11_pixel ∈ q_WU := q_tab7 _ (List.mem_of_getElem? (i := 15) rfl) rfl
theorem q_w64 : Cond.methodLink RL 65 yX11_pixelAgain ∈ q_WU := q_tab7 _ (List.mem_of_getElem? (i := 20) rfl) rfl
theorem q_w65 : Cond.code yX11_pixelAgain cX11_pixelAgain 3 (some .int) ∈ q_WU := q_tab7 _ (List.mem_of_getElem? (i := 23) rfl) rfl
theorem q_w66 : Cond.instanceMethod yX11_pixelAgain ∈ q_WU := q_tab7 _ (List.mem_of_getElem? (i := 21) rfl) rfl
theorem q_w67 : Cond.selects RX11 yX11_pixelAgain yX11_pixelAgain ∈ q_WU := q_tab7 _ (List.mem_of_getElem? (i := 22) rfl) rfl
theorem q_w68 : Cond.methodLink RL 68 yX11_sample ∈ q_WU := q_tab7 _ (List.mem_of_getElem? (i := 41) rfl) rfl
theorem q_w69 : Cond.code yX11_sample cX11_sample 2 (some .int) ∈ q_WU := q_tab7 _ (List.mem_of_getElem? (i := 44) rfl) rfl
theorem q_w70 : Cond.instanceMethod yX11_sample ∈ q_WU := q_tab7 _ (List.mem_of_getElem? (i := 42) rfl) rfl
theorem q_w71 : Cond.selects RX11 yX11_sample yX11_sample ∈ q_WU := q_tab7 _ (List.mem_of_getElem? (i := 43) rfl) rfl
theorem q_w72 : Cond.methodLink RL 71 yX11_level ∈ q_WU := q_tab7 _ (List.mem_of_getElem? (i := 48) rfl) rfl
theorem q_w73 : Cond.code yX11_level cX11_level 2 (some .int) ∈ q_WU := q_tab7 _ (List.mem_of_getElem? (i := 51) rfl) rfl
theorem q_w74 : Cond.instanceMethod yX11_level ∈ q_WU := q_tab7 _ (List.mem_of_getElem? (i := 49) rfl) rfl
theorem q_w75 : Cond.selects RX11 yX11_level yX11_level ∈ q_WU := q_tab7 _ (List.mem_of_getElem? (i := 50) rfl) rfl
theorem q_w76 : Cond.methodLink RL 74 yX11_key ∈ q_WU := q_tab7 _ (List.mem_of_getElem? (i := 55) rfl) rfl
theorem q_w77 : Cond.code yX11_key cX11_key 5 (some .boolean) ∈ q_WU := q_tab7 _ (List.mem_of_getElem? (i := 58) rfl) rfl
theorem q_w78 : Cond.instanceMethod yX11_key ∈ q_WU := q_tab7 _ (List.mem_of_getElem? (i := 56) rfl) rfl
theorem q_w79 : Cond.selects RX11 yX11_key yX11_key ∈ q_WU := q_tab7 _ (List.mem_of_getElem? (i := 57) rfl) rfl
theorem q_w80 : Cond.methodLink RL 78 yX11_columns ∈ q_WU := q_tab7 _ (List.mem_of_getElem? (i := 62) rfl) rfl
theorem q_w81 : Cond.code yX11_columns cX11_columns 2 (some .int) ∈ q_WU := q_tab7 _ (List.mem_of_getElem? (i := 65) rfl) rfl
theorem q_w82 : Cond.instanceMethod yX11_columns ∈ q_WU := q_tab7 _ (List.mem_of_getElem? (i := 63) rfl) rfl
theorem q_w83 : Cond.selects RX11 yX11_columns yX11_columns ∈ q_WU := q_tab7 _ (List.mem_of_getElem? (i := 64) rfl) rfl
theorem q_w84 : Cond.methodLink RL 81 yX11_joystick ∈ q_WU := q_tab7 _ (List.mem_of_getElem? (i := 69) rfl) rfl
theorem q_w85 : Cond.code yX11_joystick cX11_joystick 2 (some .int) ∈ q_WU := q_tab7 _ (List.mem_of_getElem? (i := 72) rfl) rfl
theorem q_w86 : Cond.instanceMethod yX11_joystick ∈ q_WU := q_tab7 _ (List.mem_of_getElem? (i := 70) rfl) rfl
theorem q_w87 : Cond.selects RX11 yX11_joystick yX11_joystick ∈ q_WU := q_tab7 _ (List.mem_of_getElem? (i := 71) rfl) rfl
theorem q_w88 : Cond.methodLink RL 84 yX11_addPulse ∈ q_WU := q_tab7 _ (List.mem_of_getElem? (i := 76) rfl) rfl
theorem q_w89 : Cond.code yX11_addPulse cX11_addPulse 2 (some .int) ∈ q_WU := q_tab7 _ (List.mem_of_getElem? (i := 79) rfl) rfl
theorem q_w90 : Cond.instanceMethod yX11_addPulse ∈ q_WU := q_tab7 _ (List.mem_of_getElem? (i := 77) rfl) rfl
theorem q_w91 : Cond.selects RX11 yX11_addPulse yX11_addPulse ∈ q_WU := q_tab7 _ (List.mem_of_getElem? (i := 78) rfl) rfl
theorem q_w92 : Cond.methodLink RL 87 yX11_save ∈ q_WU := q_tab7 _ (List.mem_of_getElem? (i := 84) rfl) rfl
theorem q_w93 : Cond.code yX11_save cX11_save 2 (some .int) ∈ q_WU := q_tab7 _ (List.mem_of_getElem? (i := 87) rfl) rfl
theorem q_w94 : Cond.instanceMethod yX11_save ∈ q_WU := q_tab7 _ (List.mem_of_getElem? (i := 85) rfl) rfl
theorem q_w95 : Cond.selects RX11 yX11_save yX11_save ∈ q_WU := q_tab7 _ (List.mem_of_getElem? (i := 86) rfl) rfl
theorem q_w96 : Cond.methodLink RL 90 yX11_restore ∈ q_WU := q_tab7 _ (List.mem_of_getElem? (i := 94) rfl) rfl
theorem q_w97 : Cond.code yX11_restore cX11_restore 4 (some .int) ∈ q_WU := q_tab7 _ (List.mem_of_getElem? (i := 97) rfl) rfl
theorem q_w98 : Cond.instanceMethod yX11_restore ∈ q_WU := q_tab7 _ (List.mem_of_getElem? (i := 95) rfl) rfl
theorem q_w99 : Cond.selects RX11 yX11_restore yX11_restore ∈ q_WU := q_tab7 _ (List.mem_of_getElem? (i := 96) rfl) rfl
theorem q_w100 : Cond.classLink RL 93 "java/util/NoSuchElementException" ∈ q_WU := q_tab7 _ (List.mem_of_getElem? (i := 93) rfl) rfl
theorem q_w101 : Cond.methodLink RL 95 yX11_differences ∈ q_WU := q_tab7 _ (List.mem_of_getElem? (i := 125) rfl) rfl
theorem q_w102 : Cond.code yX11_differences cX11_differences 3 (some .int) ∈ q_WU := q_tab7 _ (List.mem_of_getElem? (i := 128) rfl) rfl
theorem q_w103 : Cond.instanceMethod yX11_differences ∈ q_WU := q_tab7 _ (List.mem_of_getElem? (i := 126) rfl) rfl
theorem q_w104 : Cond.selects RX11 yX11_differences yX11_differences ∈ q_WU := q_tab7 _ (List.mem_of_getElem? (i := 127) rfl) rfl
theorem q_w105 : Cond.methodLink RL 98 yX11_recorded ∈ q_WU := q_tab7 _ (List.mem_of_getElem? (i := 132) rfl) rfl
theorem q_w106 : Cond.code yX11_recorded cX11_recorded 1 (some .int) ∈ q_WU := q_tab7 _ (List.mem_of_getElem? (i := 135) rfl) rfl
theorem q_w107 : Cond.instanceMethod yX11_recorded ∈ q_WU := q_tab7 _ (List.mem_of_getElem? (i := 133) rfl) rfl
theorem q_w108 : Cond.selects RX11 yX11_recorded yX11_recorded ∈ q_WU := q_tab7 _ (List.mem_of_getElem? (i := 134) rfl) rfl
theorem q_w109 : Cond.methodLink RL 101 yX11_isSame ∈ q_WU := q_tab7 _ (List.mem_of_getElem? (i := 140) rfl) rfl
theorem q_w110 : Cond.code yX11_isSame cX11_isSame 4 (some .boolean) ∈ q_WU := q_tab7 _ (List.mem_of_getElem? (i := 143) rfl) rfl
theorem q_w111 : Cond.instanceMethod yX11_isSame ∈ q_WU := q_tab7 _ (List.mem_of_getElem? (i := 141) rfl) rfl
theorem q_w112 : Cond.selects RX11 yX11_isSame yX11_isSame ∈ q_WU := q_tab7 _ (List.mem_of_getElem? (i := 142) rfl) rfl
theorem q_w113 : Cond.methodLink RX11 1 objectInit ∈ q_WU := q_tab1 _ (List.mem_of_getElem? (i := 40) rfl) rfl
theorem q_w114 : Cond.instanceMethod objectInit ∈ q_WU := q_tab1 _ (List.mem_of_getElem? (i := 41) rfl) rfl
theorem q_w115 : Cond.code objectInit ⟨#[0xb1]⟩ 1 none ∈ q_WU := q_tab1 _ (List.mem_of_getElem? (i := 42) rfl) rfl
theorem q_w116 : Cond.classLink RX11 7 RX4 ∈ q_WU := q_tab1 _ (List.mem_of_getElem? (i := 43) rfl) rfl
theorem q_w117 : Cond.instantiable RX4 5 ∈ q_WU := q_tab1 _ (List.mem_of_getElem? (i := 44) rfl) rfl
theorem q_w118 : Cond.initialized RX4 ∈ q_WU := q_tab1 _ (List.mem_of_getElem? (i := 2) rfl) rfl
theorem q_w119 : Cond.instanceMethod yX4_init ∈ q_WU := q_tab1 _ (List.mem_of_getElem? (i := 46) rfl) rfl
theorem q_w120 : Cond.code yX4_init cX4_init 1 none ∈ q_WU := q_tab1 _ (List.mem_of_getElem? (i := 47) rfl) rfl
theorem q_w121 : Cond.fieldLink RX11 10 "Rasterbox" "machine" "LRasterbox$Machine;" ∈ q_WU := q_tab2 _ (List.mem_of_getElem? (i := 117) rfl) rfl
theorem q_w122 : Cond.fieldLink RX11 16 "Rasterbox" "snapshots" "[LRasterbox$Machine;" ∈ q_WU := q_tab2 _ (List.mem_of_getElem? (i := 118) rfl) rfl
theorem q_w123 : Cond.classLink RX11 20 RX7 ∈ q_WU := q_tab2 _ (List.mem_of_getElem? (i := 41) rfl) rfl
theorem q_w124 : Cond.instantiable RX7 8 ∈ q_WU := q_tab2 _ (List.mem_of_getElem? (i := 42) rfl) rfl
theorem q_w125 : Cond.initialized RX7 ∈ q_WU := q_tab1 _ (List.mem_of_getElem? (i := 10) rfl) rfl
theorem q_w126 : Cond.instanceMethod yX7_init ∈ q_WU := q_tab2 _ (List.mem_of_getElem? (i := 44) rfl) rfl
theorem q_w127 : Cond.code yX7_init cX7_init 1 none ∈ q_WU := q_tab2 _ (List.mem_of_getElem? (i := 45) rfl) rfl
theorem q_w128 : Cond.fieldLink RX11 23 "Rasterbox" "recording" "LRasterbox$Recording;" ∈ q_WU := q_tab2 _ (List.mem_of_getElem? (i := 120) rfl) rfl
theorem q_w129 : Cond.classLink RX11 27 RJ4 ∈ q_WU := q_tab2 _ (List.mem_of_getElem? (i := 82) rfl) rfl
theorem q_w130 : Cond.instantiable RJ4 4 ∈ q_WU := q_tab2 _ (List.mem_of_getElem? (i := 83) rfl) rfl
theorem q_w131 : Cond.initialized RJ4 ∈ q_WU := q_tab1 _ (List.mem_of_getElem? (i := 12) rfl) rfl
theorem q_w132 : Cond.methodLink RX11 29 yJ4_init_da8c8 ∈ q_WU := q_tab2 _ (List.mem_of_getElem? (i := 84) rfl) rfl
theorem q_w133 : Cond.code yJ4_init_da8c8 cJ4_init_da8c8 1 none ∈ q_WU := q_tab2 _ (List.mem_of_getElem? (i := 86) rfl) rfl
theorem q_w134 : Cond.instanceMethod yJ4_init_da8c8 ∈ q_WU := q_tab2 _ (List.mem_of_getElem? (i := 85) rfl) rfl
theorem q_w135 : Cond.fieldLink RX11 30 "Rasterbox" "monitorLine" "Ljava/lang/StringBuilder;" ∈ q_WU := q_tab2 _ (List.mem_of_getElem? (i := 121) rfl) rfl
theorem q_w136 : Cond.classLink RX11 34 RX8 ∈ q_WU := q_tab2 _ (List.mem_of_getElem? (i := 115) rfl) rfl
theorem q_w137 : Cond.instantiable RX8 2 ∈ q_WU := q_tab1 _ (List.mem_of_getElem? (i := 56) rfl) rfl
theorem q_w138 : Cond.initialized RX8 ∈ q_WU := q_tab1 _ (List.mem_of_getElem? (i := 4) rfl) rfl
theorem q_w139 : Cond.instanceMethod yX8_init ∈ q_WU := q_tab1 _ (List.mem_of_getElem? (i := 58) rfl) rfl
theorem q_w140 : Cond.code yX8_init cX8_init 1 none ∈ q_WU := q_tab1 _ (List.mem_of_getElem? (i := 59) rfl) rfl
theorem q_w141 : Cond.fieldLink RX11 37 "Rasterbox" "scratch" "LRasterbox$Scene;" ∈ q_WU := q_tab2 _ (List.mem_of_getElem? (i := 122) rfl) rfl
theorem q_w142 : Cond.methodLink RX11 41 yX11_checkAddress ∈ q_WU := q_tab4 _ (List.mem_of_getElem? (i := 169) rfl) rfl
theorem q_w143 : Cond.code yX11_checkAddress cX11_checkAddress 1 none ∈ q_WU := q_tab4 _ (List.mem_of_getElem? (i := 171) rfl) rfl
theorem q_w144 : Cond.static yX11_checkAddress ∈ q_WU := q_tab4 _ (List.mem_of_getElem? (i := 170) rfl) rfl
theorem q_w145 : Cond.methodLink RX11 45 yX11_checkByte ∈ q_WU := q_tab5 _ (List.mem_of_getElem? (i := 5) rfl) rfl
theorem q_w146 : Cond.code yX11_checkByte cX11_checkByte 1 none ∈ q_WU := q_tab5 _ (List.mem_of_getElem? (i := 7) rfl) rfl
theorem q_w147 : Cond.static yX11_checkByte ∈ q_WU := q_tab5 _ (List.mem_of_getElem? (i := 6) rfl) rfl
theorem q_w148 : Cond.methodLink RX11 48 yX7_keep ∈ q_WU := q_tab2 _ (List.mem_of_getElem? (i := 144) rfl) rfl
theorem q_w149 : Cond.code yX7_keep cX7_keep 5 none ∈ q_WU := q_tab2 _ (List.mem_of_getElem? (i := 147) rfl) rfl
theorem q_w150 : Cond.instanceMethod yX7_keep ∈ q_WU := q_tab2 _ (List.mem_of_getElem? (i := 145) rfl) rfl
theorem q_w151 : Cond.selects RX7 yX7_keep yX7_keep ∈ q_WU := q_tab2 _ (List.mem_of_getElem? (i := 146) rfl) rfl
theorem q_w152 : Cond.methodLink RX11 52 yX4_perform ∈ q_WU := q_tab2 _ (List.mem_of_getElem? (i := 148) rfl) rfl
theorem q_w153 : Cond.code yX4_perform cX4_perform 5 (some .int) ∈ q_WU := q_tab2 _ (List.mem_of_getElem? (i := 151) rfl) rfl
theorem q_w154 : Cond.instanceMethod yX4_perform ∈ q_WU := q_tab2 _ (List.mem_of_getElem? (i := 149) rfl) rfl
theorem q_w155 : Cond.selects RX4 yX4_perform yX4_perform ∈ q_WU := q_tab2 _ (List.mem_of_getElem? (i := 150) rfl) rfl
theorem q_w156 : Cond.methodLink RX11 56 yX11_checkIndex ∈ q_WU := q_tab4 _ (List.mem_of_getElem? (i := 172) rfl) rfl
theorem q_w157 : Cond.code yX11_checkIndex cX11_checkIndex 2 none ∈ q_WU := q_tab4 _ (List.mem_of_getElem? (i := 174) rfl) rfl
theorem q_w158 : Cond.static yX11_checkIndex ∈ q_WU := q_tab4 _ (List.mem_of_getElem? (i := 173) rfl) rfl
theorem q_w159 : Cond.fieldLink RX11 60 "Rasterbox$Machine" "board" "LRasterbox$Board;" ∈ q_WU := q_tab2 _ (List.mem_of_getElem? (i := 20) rfl) rfl
theorem q_w160 : Cond.methodLink RX11 64 yX0_read ∈ q_WU := q_tab5 _ (List.mem_of_getElem? (i := 48) rfl) rfl
theorem q_w161 : Cond.code yX0_read cX0_read 4 (some .int) ∈ q_WU := q_tab2 _ (List.mem_of_getElem? (i := 159) rfl) rfl
theorem q_w162 : Cond.instanceMethod yX0_read ∈ q_WU := q_tab2 _ (List.mem_of_getElem? (i := 157) rfl) rfl
theorem q_w163 : Cond.selects RX0 yX0_read yX0_read ∈ q_WU := q_tab2 _ (List.mem_of_getElem? (i := 158) rfl) rfl
theorem q_w164 : Cond.initialized RX0 ∈ q_WU := q_tab1 _ (List.mem_of_getElem? (i := 3) rfl) rfl
theorem q_w165 : Cond.fieldLink RX11 70 "Rasterbox$Board" "scene" "LRasterbox$Scene;" ∈ q_WU := q_tab1 _ (List.mem_of_getElem? (i := 145) rfl) rfl
theorem q_w166 : Cond.fieldLink RX11 73 "Rasterbox$Scene" "ram" "[I" ∈ q_WU := q_tab1 _ (List.mem_of_getElem? (i := 62) rfl) rfl
theorem q_w167 : Cond.methodLink RX11 77 yX11_checkArgument ∈ q_WU := q_tab5 _ (List.mem_of_getElem? (i := 8) rfl) rfl
theorem q_w168 : Cond.code yX11_checkArgument cX11_checkArgument 3 none ∈ q_WU := q_tab5 _ (List.mem_of_getElem? (i := 10) rfl) rfl
theorem q_w169 : Cond.static yX11_checkArgument ∈ q_WU := q_tab5 _ (List.mem_of_getElem? (i := 9) rfl) rfl
theorem q_w170 : Cond.methodLink RX11 81 yX1_lengthOf ∈ q_WU := q_tab5 _ (List.mem_of_getElem? (i := 63) rfl) rfl
theorem q_w171 : Cond.code yX1_lengthOf cX1_lengthOf 2 (some .int) ∈ q_WU := q_tab2 _ (List.mem_of_getElem? (i := 202) rfl) rfl
theorem q_w172 : Cond.static yX1_lengthOf ∈ q_WU := q_tab2 _ (List.mem_of_getElem? (i := 201) rfl) rfl
theorem q_w173 : Cond.initialized RX1 ∈ q_WU := q_tab1 _ (List.mem_of_getElem? (i := 21) rfl) rfl
theorem q_w174 : Cond.methodLink RX11 86 yX5_describe ∈ q_WU := q_tab5 _ (List.mem_of_getElem? (i := 71) rfl) rfl
theorem q_w175 : Cond.code yX5_describe cX5_describe 7 none ∈ q_WU := q_tab5 _ (List.mem_of_getElem? (i := 73) rfl) rfl
theorem q_w176 : Cond.static yX5_describe ∈ q_WU := q_tab5 _ (List.mem_of_getElem? (i := 72) rfl) rfl
theorem q_w177 : Cond.initialized RX5 ∈ q_WU := q_tab1 _ (List.mem_of_getElem? (i := 26) rfl) rfl
theorem q_w178 : Cond.methodLink RX11 92 yJ4_length_8abf5 ∈ q_WU := q_tab6 _ (List.mem_of_getElem? (i := 171) rfl) rfl
theorem q_w179 : Cond.code yJ4_length_8abf5 cJ4_length_8abf5 1 (some .int) ∈ q_WU := q_tab6 _ (List.mem_of_getElem? (i := 17) rfl) rfl
theorem q_w180 : Cond.instanceMethod yJ4_length_8abf5 ∈ q_WU := q_tab6 _ (List.mem_of_getElem? (i := 16) rfl) rfl
theorem q_w181 : Cond.selects RJ4 yJ4_length_8abf5 yJ4_length_8abf5 ∈ q_WU := q_tab10 _ (List.mem_of_getElem? (i := 52) rfl) rfl
theorem q_w182 : Cond.methodLink RX11 96 yJ4_charAt_5068e ∈ q_WU := q_tab6 _ (List.mem_of_getElem? (i := 179) rfl) rfl
theorem q_w183 : Cond.code yJ4_charAt_5068e cJ4_charAt_5068e 2 (some .char) ∈ q_WU := q_tab6 _ (List.mem_of_getElem? (i := 182) rfl) rfl
theorem q_w184 : Cond.instanceMethod yJ4_charAt_5068e ∈ q_WU := q_tab6 _ (List.mem_of_getElem? (i := 180) rfl) rfl
theorem q_w185 : Cond.selects RJ4 yJ4_charAt_5068e yJ4_charAt_5068e ∈ q_WU := q_tab6 _ (List.mem_of_getElem? (i := 181) rfl) rfl
theorem q_w186 : Cond.fieldLink RX11 100 "Rasterbox$Machine" "processor" "LRasterbox$Processor;" ∈ q_WU := q_tab2 _ (List.mem_of_getElem? (i := 22) rfl) rfl
theorem q_w187 : Cond.methodLink RX11 104 yX6_registerOf ∈ q_WU := q_tab6 _ (List.mem_of_getElem? (i := 203) rfl) rfl
theorem q_w188 : Cond.code yX6_registerOf cX6_registerOf 2 (some .int) ∈ q_WU := q_tab2 _ (List.mem_of_getElem? (i := 213) rfl) rfl
theorem q_w189 : Cond.instanceMethod yX6_registerOf ∈ q_WU := q_tab2 _ (List.mem_of_getElem? (i := 211) rfl) rfl
theorem q_w190 : Cond.selects RX6 yX6_registerOf yX6_registerOf ∈ q_WU := q_tab2 _ (List.mem_of_getElem? (i := 212) rfl) rfl
theorem q_w191 : Cond.initialized RX6 ∈ q_WU := q_tab1 _ (List.mem_of_getElem? (i := 8) rfl) rfl
theorem q_w192 : Cond.fieldLink RX11 109 "Rasterbox$Processor" "left" "I" ∈ q_WU := q_tab1 _ (List.mem_of_getElem? (i := 200) rfl) rfl
theorem q_w193 : Cond.classLink RX11 113 "java/lang/IllegalStateException" ∈ q_WU := q_tab6 _ (List.mem_of_getElem? (i := 212) rfl) rfl
theorem q_w194 : Cond.initialized "java/lang/IllegalStateException" ∈ q_WU := q_tab1 _ (List.mem_of_getElem? (i := 33) rfl) rfl
theorem q_w195 : Cond.fieldLink RX11 120 "Rasterbox$Processor" "flags" "I" ∈ q_WU := q_tab1 _ (List.mem_of_getElem? (i := 192) rfl) rfl
theorem q_w196 : Cond.fieldLink RX11 123 "Rasterbox$Processor" "isJammed" "Z" ∈ q_WU := q_tab1 _ (List.mem_of_getElem? (i := 196) rfl) rfl
theorem q_w197 : Cond.fieldLink RX11 129 "Rasterbox$Board" "cycle" "J" ∈ q_WU := q_tab1 _ (List.mem_of_getElem? (i := 159) rfl) rfl
theorem q_w198 : Cond.methodLink RX11 133 yX0_isPictureNext ∈ q_WU := q_tab4 _ (List.mem_of_getElem? (i := 77) rfl) rfl
theorem q_w199 : Cond.code yX0_isPictureNext cX0_isPictureNext 1 (some .boolean) ∈ q_WU := q_tab3 _ (List.mem_of_getElem? (i := 27) rfl) rfl
theorem q_w200 : Cond.instanceMethod yX0_isPictureNext ∈ q_WU := q_tab3 _ (List.mem_of_getElem? (i := 25) rfl) rfl
theorem q_w201 : Cond.selects RX0 yX0_isPictureNext yX0_isPictureNext ∈ q_WU := q_tab3 _ (List.mem_of_getElem? (i := 26) rfl) rfl
theorem q_w202 : Cond.fieldLink RX11 137 "Rasterbox$Processor" "done" "I" ∈ q_WU := q_tab1 _ (List.mem_of_getElem? (i := 203) rfl) rfl
theorem q_w203 : Cond.fieldLink RX11 140 "Rasterbox$Processor" "instructions" "I" ∈ q_WU := q_tab1 _ (List.mem_of_getElem? (i := 205) rfl) rfl
theorem q_w204 : Cond.fieldLink RX11 143 "Rasterbox$Processor" "trace" "[I" ∈ q_WU := q_tab1 _ (List.mem_of_getElem? (i := 207) rfl) rfl
theorem q_w205 : Cond.fieldLink RX11 146 "Rasterbox$Machine" "pixels" "[I" ∈ q_WU := q_tab2 _ (List.mem_of_getElem? (i := 26) rfl) rfl
theorem q_w206 : Cond.methodLink RX11 149 yX0_drawnAgain ∈ q_WU := q_tab7 _ (List.mem_of_getElem? (i := 24) rfl) rfl
theorem q_w207 : Cond.code yX0_drawnAgain cX0_drawnAgain 7 (some .int) ∈ q_WU := q_tab7 _ (List.mem_of_getElem? (i := 27) rfl) rfl
theorem q_w208 : Cond.instanceMethod yX0_drawnAgain ∈ q_WU := q_tab7 _ (List.mem_of_getElem? (i := 25) rfl) rfl
theorem q_w209 : Cond.selects RX0 yX0_drawnAgain yX0_drawnAgain ∈ q_WU := q_tab7 _ (List.mem_of_getElem? (i := 26) rfl) rfl
theorem q_w210 : Cond.fieldLink RX11 153 "Rasterbox$Machine" "voices" "LRasterbox$Voices;" ∈ q_WU := q_tab2 _ (List.mem_of_getElem? (i := 24) rfl) rfl
theorem q_w211 : Cond.fieldLink RX11 157 "Rasterbox$Voices" "samples" "[I" ∈ q_WU := q_tab2 _ (List.mem_of_getElem? (i := 7) rfl) rfl
theorem q_w212 : Cond.fieldLink RX11 162 "Rasterbox$Voices" "levels" "[I" ∈ q_WU := q_tab2 _ (List.mem_of_getElem? (i := 3) rfl) rfl
theorem q_w213 : Cond.fieldLink RX11 167 "Rasterbox$Board" "keys" "LRasterbox$Keys;" ∈ q_WU := q_tab1 _ (List.mem_of_getElem? (i := 155) rfl) rfl
theorem q_w214 : Cond.fieldLink RX11 171 "Rasterbox$Keys" "seen" "[I" ∈ q_WU := q_tab1 _ (List.mem_of_getElem? (i := 111) rfl) rfl
theorem q_w215 : Cond.fieldLink RX11 174 "Rasterbox$Board" "tape" "LRasterbox$Tape;" ∈ q_WU := q_tab1 _ (List.mem_of_getElem? (i := 152) rfl) rfl
theorem q_w216 : Cond.fieldLink RX11 178 "Rasterbox$Tape" "count" "I" ∈ q_WU := q_tab1 _ (List.mem_of_getElem? (i := 84) rfl) rfl
theorem q_w217 : Cond.fieldLink RX11 185 "Rasterbox$Tape" "over" "I" ∈ q_WU := q_tab1 _ (List.mem_of_getElem? (i := 87) rfl) rfl
theorem q_w218 : Cond.fieldLink RX11 188 "Rasterbox" "saved" "I" ∈ q_WU := q_tab2 _ (List.mem_of_getElem? (i := 119) rfl) rfl
theorem q_w219 : Cond.methodLink RX11 193 yX4_become ∈ q_WU := q_tab7 _ (List.mem_of_getElem? (i := 89) rfl) rfl
theorem q_w220 : Cond.code yX4_become cX4_become 2 none ∈ q_WU := q_tab4 _ (List.mem_of_getElem? (i := 109) rfl) rfl
theorem q_w221 : Cond.instanceMethod yX4_become ∈ q_WU := q_tab4 _ (List.mem_of_getElem? (i := 107) rfl) rfl
theorem q_w222 : Cond.selects RX4 yX4_become yX4_become ∈ q_WU := q_tab4 _ (List.mem_of_getElem? (i := 108) rfl) rfl
theorem q_w223 : Cond.methodLink RX11 197 yX11_snapshotOf ∈ q_WU := q_tab7 _ (List.mem_of_getElem? (i := 98) rfl) rfl
theorem q_w224 : Cond.code yX11_snapshotOf cX11_snapshotOf 2 (some (.object "Rasterbox$Machine")) ∈ q_WU := q_tab7 _ (List.mem_of_getElem? (i := 101) rfl) rfl
theorem q_w225 : Cond.instanceMethod yX11_snapshotOf ∈ q_WU := q_tab7 _ (List.mem_of_getElem? (i := 100) rfl) rfl
theorem q_w226 : Cond.selects RX11 yX11_snapshotOf yX11_snapshotOf ∈ q_WU := q_priv1 _ (List.mem_map.mpr ⟨_, List.mem_of_getElem? (i := 1) rfl, rfl⟩) rfl
theorem q_w227 : Cond.classLink RX11 201 "java/util/NoSuchElementException" ∈ q_WU := q_tab7 _ (List.mem_of_getElem? (i := 102) rfl) rfl
theorem q_w228 : Cond.initialized "java/util/NoSuchElementException" ∈ q_WU := q_tab1 _ (List.mem_of_getElem? (i := 34) rfl) rfl
theorem q_w229 : Cond.methodLink RX11 206 yX8_bytesUnlike ∈ q_WU := q_tab7 _ (List.mem_of_getElem? (i := 118) rfl) rfl
theorem q_w230 : Cond.code yX8_bytesUnlike cX8_bytesUnlike 4 (some .int) ∈ q_WU := q_tab7 _ (List.mem_of_getElem? (i := 121) rfl) rfl
theorem q_w231 : Cond.instanceMethod yX8_bytesUnlike ∈ q_WU := q_tab7 _ (List.mem_of_getElem? (i := 119) rfl) rfl
theorem q_w232 : Cond.selects RX8 yX8_bytesUnlike yX8_bytesUnlike ∈ q_WU := q_tab7 _ (List.mem_of_getElem? (i := 120) rfl) rfl
theorem q_w233 : Cond.fieldLink RX11 210 "Rasterbox$Recording" "isOn" "Z" ∈ q_WU := q_tab2 _ (List.mem_of_getElem? (i := 64) rfl) rfl
theorem q_w234 : Cond.fieldLink RX11 213 "Rasterbox$Recording" "count" "I" ∈ q_WU := q_tab2 _ (List.mem_of_getElem? (i := 60) rfl) rfl
theorem q_w235 : Cond.methodLink RX11 214 yX7_begin ∈ q_WU := q_tab4 _ (List.mem_of_getElem? (i := 102) rfl) rfl
theorem q_w236 : Cond.code yX7_begin cX7_begin 2 none ∈ q_WU := q_tab4 _ (List.mem_of_getElem? (i := 105) rfl) rfl
theorem q_w237 : Cond.instanceMethod yX7_begin ∈ q_WU := q_tab4 _ (List.mem_of_getElem? (i := 103) rfl) rfl
theorem q_w238 : Cond.selects RX7 yX7_begin yX7_begin ∈ q_WU := q_tab4 _ (List.mem_of_getElem? (i := 104) rfl) rfl
theorem q_w239 : Cond.fieldLink RX11 219 "Rasterbox$Recording" "played" "I" ∈ q_WU := q_tab2 _ (List.mem_of_getElem? (i := 62) rfl) rfl
theorem q_w240 : Cond.fieldLink RX11 222 "Rasterbox$Recording" "machine" "LRasterbox$Machine;" ∈ q_WU := q_tab2 _ (List.mem_of_getElem? (i := 50) rfl) rfl
theorem q_w241 : Cond.fieldLink RX11 223 "Rasterbox$Recording" "kinds" "[I" ∈ q_WU := q_tab2 _ (List.mem_of_getElem? (i := 52) rfl) rfl
theorem q_w242 : Cond.fieldLink RX11 226 "Rasterbox$Recording" "firsts" "[I" ∈ q_WU := q_tab2 _ (List.mem_of_getElem? (i := 54) rfl) rfl
theorem q_w243 : Cond.fieldLink RX11 229 "Rasterbox$Recording" "seconds" "[I" ∈ q_WU := q_tab2 _ (List.mem_of_getElem? (i := 56) rfl) rfl
theorem q_w244 : Cond.fieldLink RX11 232 "Rasterbox$Recording" "thirds" "[I" ∈ q_WU := q_tab2 _ (List.mem_of_getElem? (i := 58) rfl) rfl
theorem q_w245 : Cond.methodLink RX11 235 yX4_isLike ∈ q_WU := q_tab7 _ (List.mem_of_getElem? (i := 144) rfl) rfl
theorem q_w246 : Cond.code yX4_isLike cX4_isLike 3 (some .boolean) ∈ q_WU := q_tab7 _ (List.mem_of_getElem? (i := 147) rfl) rfl
theorem q_w247 : Cond.instanceMethod yX4_isLike ∈ q_WU := q_tab7 _ (List.mem_of_getElem? (i := 145) rfl) rfl
theorem q_w248 : Cond.selects RX4 yX4_isLike yX4_isLike ∈ q_WU := q_tab7 _ (List.mem_of_getElem? (i := 146) rfl) rfl
theorem q_w249 : Cond.fieldLink RX11 239 "Rasterbox$Machine" "ofPicture" "J" ∈ q_WU := q_tab2 _ (List.mem_of_getElem? (i := 28) rfl) rfl
theorem q_w250 : Cond.fieldLink RX11 242 "Rasterbox$Scene" "registers" "[I" ∈ q_WU := q_tab1 _ (List.mem_of_getElem? (i := 68) rfl) rfl
theorem q_w251 : Cond.constantFloat RX11 245 (1149239296) ∈ q_WU := q_tab4 _ (List.mem_of_getElem? (i := 154) rfl) rfl
theorem q_w252 : Cond.constantDouble RX11 246 (4630826316843712512) ∈ q_WU := q_tab4 _ (List.mem_of_getElem? (i := 159) rfl) rfl
theorem q_w253 : Cond.classLink RX11 248 "java/lang/IndexOutOfBoundsException" ∈ q_WU := q_tab4 _ (List.mem_of_getElem? (i := 175) rfl) rfl
theorem q_w254 : Cond.initialized "java/lang/IndexOutOfBoundsException" ∈ q_WU := q_tab1 _ (List.mem_of_getElem? (i := 19) rfl) rfl
theorem q_w255 : Cond.classLink RX11 253 "java/lang/IllegalArgumentException" ∈ q_WU := q_tab5 _ (List.mem_of_getElem? (i := 11) rfl) rfl
theorem q_w256 : Cond.initialized "java/lang/IllegalArgumentException" ∈ q_WU := q_tab1 _ (List.mem_of_getElem? (i := 20) rfl) rfl
theorem q_w257 : Cond.methodLink RX4 3 objectInit ∈ q_WU := q_tab1 _ (List.mem_of_getElem? (i := 48) rfl) rfl
theorem q_w258 : Cond.classLink RX4 9 RX0 ∈ q_WU := q_tab1 _ (List.mem_of_getElem? (i := 49) rfl) rfl
theorem q_w259 : Cond.instantiable RX0 9 ∈ q_WU := q_tab1 _ (List.mem_of_getElem? (i := 50) rfl) rfl
theorem q_w260 : Cond.instanceMethod yX0_init ∈ q_WU := q_tab1 _ (List.mem_of_getElem? (i := 52) rfl) rfl
theorem q_w261 : Cond.code yX0_init cX0_init 1 none ∈ q_WU := q_tab1 _ (List.mem_of_getElem? (i := 53) rfl) rfl
theorem q_w262 : Cond.fieldLink RX4 12 "Rasterbox$Machine" "board" "LRasterbox$Board;" ∈ q_WU := q_tab2 _ (List.mem_of_getElem? (i := 19) rfl) rfl
theorem q_w263 : Cond.classLink RX4 18 RX6 ∈ q_WU := q_tab1 _ (List.mem_of_getElem? (i := 179) rfl) rfl
theorem q_w264 : Cond.instantiable RX6 13 ∈ q_WU := q_tab1 _ (List.mem_of_getElem? (i := 180) rfl) rfl
theorem q_w265 : Cond.instanceMethod yX6_init ∈ q_WU := q_tab1 _ (List.mem_of_getElem? (i := 182) rfl) rfl
theorem q_w266 : Cond.code yX6_init cX6_init 1 none ∈ q_WU := q_tab1 _ (List.mem_of_getElem? (i := 183) rfl) rfl
theorem q_w267 : Cond.fieldLink RX4 21 "Rasterbox$Machine" "processor" "LRasterbox$Processor;" ∈ q_WU := q_tab2 _ (List.mem_of_getElem? (i := 21) rfl) rfl
theorem q_w268 : Cond.classLink RX4 25 RX10 ∈ q_WU := q_tab1 _ (List.mem_of_getElem? (i := 235) rfl) rfl
theorem q_w269 : Cond.instantiable RX10 5 ∈ q_WU := q_tab1 _ (List.mem_of_getElem? (i := 236) rfl) rfl
theorem q_w270 : Cond.initialized RX10 ∈ q_WU := q_tab1 _ (List.mem_of_getElem? (i := 9) rfl) rfl
theorem q_w271 : Cond.instanceMethod yX10_init ∈ q_WU := q_tab1 _ (List.mem_of_getElem? (i := 238) rfl) rfl
theorem q_w272 : Cond.code yX10_init cX10_init 1 none ∈ q_WU := q_tab1 _ (List.mem_of_getElem? (i := 239) rfl) rfl
theorem q_w273 : Cond.fieldLink RX4 28 "Rasterbox$Machine" "voices" "LRasterbox$Voices;" ∈ q_WU := q_tab2 _ (List.mem_of_getElem? (i := 23) rfl) rfl
theorem q_w274 : Cond.arrayClass .int ∈ q_WU := q_tab1 _ (List.mem_of_getElem? (i := 74) rfl) rfl
theorem q_w275 : Cond.fieldLink RX4 32 "Rasterbox$Machine" "pixels" "[I" ∈ q_WU := q_tab2 _ (List.mem_of_getElem? (i := 25) rfl) rfl
theorem q_w276 : Cond.methodLink RX4 36 yX0_become ∈ q_WU := q_tab4 _ (List.mem_of_getElem? (i := 110) rfl) rfl
theorem q_w277 : Cond.code yX0_become cX0_become 2 none ∈ q_WU := q_tab4 _ (List.mem_of_getElem? (i := 113) rfl) rfl
theorem q_w278 : Cond.instanceMethod yX0_become ∈ q_WU := q_tab4 _ (List.mem_of_getElem? (i := 111) rfl) rfl
theorem q_w279 : Cond.selects RX0 yX0_become yX0_become ∈ q_WU := q_tab4 _ (List.mem_of_getElem? (i := 112) rfl) rfl
theorem q_w280 : Cond.methodLink RX4 40 yX6_become ∈ q_WU := q_tab4 _ (List.mem_of_getElem? (i := 131) rfl) rfl
theorem q_w281 : Cond.code yX6_become cX6_become 2 none ∈ q_WU := q_tab4 _ (List.mem_of_getElem? (i := 134) rfl) rfl
theorem q_w282 : Cond.instanceMethod yX6_become ∈ q_WU := q_tab4 _ (List.mem_of_getElem? (i := 132) rfl) rfl
theorem q_w283 : Cond.selects RX6 yX6_become yX6_become ∈ q_WU := q_tab4 _ (List.mem_of_getElem? (i := 133) rfl) rfl
theorem q_w284 : Cond.methodLink RX4 43 yX10_become ∈ q_WU := q_tab4 _ (List.mem_of_getElem? (i := 136) rfl) rfl
theorem q_w285 : Cond.code yX10_become cX10_become 2 none ∈ q_WU := q_tab4 _ (List.mem_of_getElem? (i := 139) rfl) rfl
theorem q_w286 : Cond.instanceMethod yX10_become ∈ q_WU := q_tab4 _ (List.mem_of_getElem? (i := 137) rfl) rfl
theorem q_w287 : Cond.selects RX10 yX10_become yX10_become ∈ q_WU := q_tab4 _ (List.mem_of_getElem? (i := 138) rfl) rfl
theorem q_w288 : Cond.methodLink RX4 46 arraycopyName ∈ q_WU := q_tab4 _ (List.mem_of_getElem? (i := 141) rfl) rfl
theorem q_w289 : Cond.native arraycopyName ∈ q_WU := q_tab4 _ (List.mem_of_getElem? (i := 44) rfl) rfl
theorem q_w290 : Cond.static arraycopyName ∈ q_WU := q_tab4 _ (List.mem_of_getElem? (i := 43) rfl) rfl
theorem q_w291 : Cond.initialized "java/lang/System" ∈ q_WU := q_tab1 _ (List.mem_of_getElem? (i := 25) rfl) rfl
theorem q_w292 : Cond.fieldLink RX4 52 "Rasterbox$Machine" "ofPicture" "J" ∈ q_WU := q_tab2 _ (List.mem_of_getElem? (i := 27) rfl) rfl
theorem q_w293 : Cond.methodLink RX4 56 yX0_read ∈ q_WU := q_tab7 _ (List.mem_of_getElem? (i := 148) rfl) rfl
theorem q_w294 : Cond.fieldLink RX4 60 "Rasterbox$Board" "scene" "LRasterbox$Scene;" ∈ q_WU := q_tab1 _ (List.mem_of_getElem? (i := 144) rfl) rfl
theorem q_w295 : Cond.methodLink RX4 64 yX8_bytesUnlike ∈ q_WU := q_tab7 _ (List.mem_of_getElem? (i := 149) rfl) rfl
theorem q_w296 : Cond.methodLink RX4 70 yX6_isLike ∈ q_WU := q_tab7 _ (List.mem_of_getElem? (i := 150) rfl) rfl
theorem q_w297 : Cond.code yX6_isLike cX6_isLike 2 (some .boolean) ∈ q_WU := q_tab7 _ (List.mem_of_getElem? (i := 153) rfl) rfl
theorem q_w298 : Cond.instanceMethod yX6_isLike ∈ q_WU := q_tab7 _ (List.mem_of_getElem? (i := 151) rfl) rfl
theorem q_w299 : Cond.selects RX6 yX6_isLike yX6_isLike ∈ q_WU := q_tab7 _ (List.mem_of_getElem? (i := 152) rfl) rfl
theorem q_w300 : Cond.methodLink RX4 74 yX10_isLike ∈ q_WU := q_tab7 _ (List.mem_of_getElem? (i := 154) rfl) rfl
theorem q_w301 : Cond.code yX10_isLike cX10_isLike 3 (some .boolean) ∈ q_WU := q_tab7 _ (List.mem_of_getElem? (i := 157) rfl) rfl
theorem q_w302 : Cond.instanceMethod yX10_isLike ∈ q_WU := q_tab7 _ (List.mem_of_getElem? (i := 155) rfl) rfl
theorem q_w303 : Cond.selects RX10 yX10_isLike yX10_isLike ∈ q_WU := q_tab7 _ (List.mem_of_getElem? (i := 156) rfl) rfl
theorem q_w304 : Cond.methodLink RX4 77 yX0_exchange ∈ q_WU := q_tab2 _ (List.mem_of_getElem? (i := 152) rfl) rfl
theorem q_w305 : Cond.code yX0_exchange cX0_exchange 4 (some .int) ∈ q_WU := q_tab2 _ (List.mem_of_getElem? (i := 155) rfl) rfl
theorem q_w306 : Cond.instanceMethod yX0_exchange ∈ q_WU := q_tab2 _ (List.mem_of_getElem? (i := 153) rfl) rfl
theorem q_w307 : Cond.selects RX0 yX0_exchange yX0_exchange ∈ q_WU := q_tab2 _ (List.mem_of_getElem? (i := 154) rfl) rfl
theorem q_w308 : Cond.methodLink RX4 81 yX0_exchangeRom ∈ q_WU := q_tab2 _ (List.mem_of_getElem? (i := 188) rfl) rfl
theorem q_w309 : Cond.code yX0_exchangeRom cX0_exchangeRom 5 (some .int) ∈ q_WU := q_tab2 _ (List.mem_of_getElem? (i := 191) rfl) rfl
theorem q_w310 : Cond.instanceMethod yX0_exchangeRom ∈ q_WU := q_tab2 _ (List.mem_of_getElem? (i := 189) rfl) rfl
theorem q_w311 : Cond.selects RX0 yX0_exchangeRom yX0_exchangeRom ∈ q_WU := q_tab2 _ (List.mem_of_getElem? (i := 190) rfl) rfl
theorem q_w312 : Cond.methodLink RX4 84 yX0_exchangeCartridge ∈ q_WU := q_tab2 _ (List.mem_of_getElem? (i := 192) rfl) rfl
theorem q_w313 : Cond.code yX0_exchangeCartridge cX0_exchangeCartridge 5 (some .int) ∈ q_WU := q_tab2 _ (List.mem_of_getElem? (i := 195) rfl) rfl
theorem q_w314 : Cond.instanceMethod yX0_exchangeCartridge ∈ q_WU := q_tab2 _ (List.mem_of_getElem? (i := 193) rfl) rfl
theorem q_w315 : Cond.selects RX0 yX0_exchangeCartridge yX0_exchangeCartridge ∈ q_WU := q_tab2 _ (List.mem_of_getElem? (i := 194) rfl) rfl
theorem q_w316 : Cond.methodLink RX4 87 yX0_writeInstruction ∈ q_WU := q_tab2 _ (List.mem_of_getElem? (i := 196) rfl) rfl
theorem q_w317 : Cond.code yX0_writeInstruction cX0_writeInstruction 5 (some .int) ∈ q_WU := q_tab2 _ (List.mem_of_getElem? (i := 199) rfl) rfl
theorem q_w318 : Cond.instanceMethod yX0_writeInstruction ∈ q_WU := q_tab2 _ (List.mem_of_getElem? (i := 197) rfl) rfl
theorem q_w319 : Cond.selects RX0 yX0_writeInstruction yX0_writeInstruction ∈ q_WU := q_tab2 _ (List.mem_of_getElem? (i := 198) rfl) rfl
theorem q_w320 : Cond.methodLink RX4 91 yX6_exchange ∈ q_WU := q_tab2 _ (List.mem_of_getElem? (i := 206) rfl) rfl
theorem q_w321 : Cond.code yX6_exchange cX6_exchange 4 (some .int) ∈ q_WU := q_tab2 _ (List.mem_of_getElem? (i := 209) rfl) rfl
theorem q_w322 : Cond.instanceMethod yX6_exchange ∈ q_WU := q_tab2 _ (List.mem_of_getElem? (i := 207) rfl) rfl
theorem q_w323 : Cond.selects RX6 yX6_exchange yX6_exchange ∈ q_WU := q_tab2 _ (List.mem_of_getElem? (i := 208) rfl) rfl
theorem q_w324 : Cond.methodLink RX4 92 yX4_startAnew ∈ q_WU := q_tab2 _ (List.mem_of_getElem? (i := 214) rfl) rfl
theorem q_w325 : Cond.code yX4_startAnew cX4_startAnew 1 (some .int) ∈ q_WU := q_tab2 _ (List.mem_of_getElem? (i := 217) rfl) rfl
theorem q_w326 : Cond.instanceMethod yX4_startAnew ∈ q_WU := q_tab2 _ (List.mem_of_getElem? (i := 215) rfl) rfl
theorem q_w327 : Cond.selects RX4 yX4_startAnew yX4_startAnew ∈ q_WU := q_tab2 _ (List.mem_of_getElem? (i := 216) rfl) rfl
theorem q_w328 : Cond.methodLink RX4 96 yX4_pressFreeze ∈ q_WU := q_tab2 _ (List.mem_of_getElem? (i := 238) rfl) rfl
theorem q_w329 : Cond.code yX4_pressFreeze cX4_pressFreeze 2 (some .int) ∈ q_WU := q_tab3 _ (List.mem_of_getElem? (i := 1) rfl) rfl
theorem q_w330 : Cond.instanceMethod yX4_pressFreeze ∈ q_WU := q_tab2 _ (List.mem_of_getElem? (i := 239) rfl) rfl
theorem q_w331 : Cond.selects RX4 yX4_pressFreeze yX4_pressFreeze ∈ q_WU := q_tab3 _ (List.mem_of_getElem? (i := 0) rfl) rfl
theorem q_w332 : Cond.methodLink RX4 99 yX4_letPass ∈ q_WU := q_tab3 _ (List.mem_of_getElem? (i := 3) rfl) rfl
theorem q_w333 : Cond.code yX4_letPass cX4_letPass 6 (some .int) ∈ q_WU := q_tab3 _ (List.mem_of_getElem? (i := 6) rfl) rfl
theorem q_w334 : Cond.instanceMethod yX4_letPass ∈ q_WU := q_tab3 _ (List.mem_of_getElem? (i := 4) rfl) rfl
theorem q_w335 : Cond.selects RX4 yX4_letPass yX4_letPass ∈ q_WU := q_tab3 _ (List.mem_of_getElem? (i := 5) rfl) rfl
theorem q_w336 : Cond.fieldLink RX4 103 "Rasterbox$Board" "keys" "LRasterbox$Keys;" ∈ q_WU := q_tab1 _ (List.mem_of_getElem? (i := 154) rfl) rfl
theorem q_w337 : Cond.methodLink RX4 107 yX3_press ∈ q_WU := q_tab4 _ (List.mem_of_getElem? (i := 45) rfl) rfl
theorem q_w338 : Cond.code yX3_press cX3_press 7 (some .int) ∈ q_WU := q_tab4 _ (List.mem_of_getElem? (i := 48) rfl) rfl
theorem q_w339 : Cond.instanceMethod yX3_press ∈ q_WU := q_tab4 _ (List.mem_of_getElem? (i := 46) rfl) rfl
theorem q_w340 : Cond.selects RX3 yX3_press yX3_press ∈ q_WU := q_tab4 _ (List.mem_of_getElem? (i := 47) rfl) rfl
theorem q_w341 : Cond.initialized RX3 ∈ q_WU := q_tab1 _ (List.mem_of_getElem? (i := 6) rfl) rfl
theorem q_w342 : Cond.methodLink RX4 112 yX3_exchangeJoystick ∈ q_WU := q_tab4 _ (List.mem_of_getElem? (i := 53) rfl) rfl
theorem q_w343 : Cond.code yX3_exchangeJoystick cX3_exchangeJoystick 3 (some .int) ∈ q_WU := q_tab4 _ (List.mem_of_getElem? (i := 56) rfl) rfl
theorem q_w344 : Cond.instanceMethod yX3_exchangeJoystick ∈ q_WU := q_tab4 _ (List.mem_of_getElem? (i := 54) rfl) rfl
theorem q_w345 : Cond.selects RX3 yX3_exchangeJoystick yX3_exchangeJoystick ∈ q_WU := q_tab4 _ (List.mem_of_getElem? (i := 55) rfl) rfl
theorem q_w346 : Cond.fieldLink RX4 115 "Rasterbox$Board" "tape" "LRasterbox$Tape;" ∈ q_WU := q_tab1 _ (List.mem_of_getElem? (i := 151) rfl) rfl
theorem q_w347 : Cond.methodLink RX4 119 yX9_add ∈ q_WU := q_tab4 _ (List.mem_of_getElem? (i := 57) rfl) rfl
theorem q_w348 : Cond.code yX9_add cX9_add 2 (some .int) ∈ q_WU := q_tab4 _ (List.mem_of_getElem? (i := 60) rfl) rfl
theorem q_w349 : Cond.instanceMethod yX9_add ∈ q_WU := q_tab4 _ (List.mem_of_getElem? (i := 58) rfl) rfl
theorem q_w350 : Cond.selects RX9 yX9_add yX9_add ∈ q_WU := q_tab4 _ (List.mem_of_getElem? (i := 59) rfl) rfl
theorem q_w351 : Cond.initialized RX9 ∈ q_WU := q_tab1 _ (List.mem_of_getElem? (i := 5) rfl) rfl
theorem q_w352 : Cond.methodLink RX4 124 yX9_windBack ∈ q_WU := q_tab4 _ (List.mem_of_getElem? (i := 61) rfl) rfl
theorem q_w353 : Cond.code yX9_windBack cX9_windBack 2 (some .int) ∈ q_WU := q_tab4 _ (List.mem_of_getElem? (i := 64) rfl) rfl
theorem q_w354 : Cond.instanceMethod yX9_windBack ∈ q_WU := q_tab4 _ (List.mem_of_getElem? (i := 62) rfl) rfl
theorem q_w355 : Cond.selects RX9 yX9_windBack yX9_windBack ∈ q_WU := q_tab4 _ (List.mem_of_getElem? (i := 63) rfl) rfl
theorem q_w356 : Cond.methodLink RX4 127 yX0_clearRegisters ∈ q_WU := q_tab2 _ (List.mem_of_getElem? (i := 218) rfl) rfl
theorem q_w357 : Cond.code yX0_clearRegisters cX0_clearRegisters 1 none ∈ q_WU := q_tab2 _ (List.mem_of_getElem? (i := 221) rfl) rfl
theorem q_w358 : Cond.instanceMethod yX0_clearRegisters ∈ q_WU := q_tab2 _ (List.mem_of_getElem? (i := 219) rfl) rfl
theorem q_w359 : Cond.selects RX0 yX0_clearRegisters yX0_clearRegisters ∈ q_WU := q_tab2 _ (List.mem_of_getElem? (i := 220) rfl) rfl
theorem q_w360 : Cond.methodLink RX4 130 yX6_startAnew ∈ q_WU := q_tab2 _ (List.mem_of_getElem? (i := 230) rfl) rfl
theorem q_w361 : Cond.code yX6_startAnew cX6_startAnew 2 none ∈ q_WU := q_tab2 _ (List.mem_of_getElem? (i := 233) rfl) rfl
theorem q_w362 : Cond.instanceMethod yX6_startAnew ∈ q_WU := q_tab2 _ (List.mem_of_getElem? (i := 231) rfl) rfl
theorem q_w363 : Cond.selects RX6 yX6_startAnew yX6_startAnew ∈ q_WU := q_tab2 _ (List.mem_of_getElem? (i := 232) rfl) rfl
theorem q_w364 : Cond.fieldLink RX4 132 "Rasterbox$Processor" "p" "I" ∈ q_WU := q_tab1 _ (List.mem_of_getElem? (i := 190) rfl) rfl
theorem q_w365 : Cond.fieldLink RX4 136 "Rasterbox$Scene" "registers" "[I" ∈ q_WU := q_tab1 _ (List.mem_of_getElem? (i := 65) rfl) rfl
theorem q_w366 : Cond.methodLink RX4 139 yX0_write ∈ q_WU := q_tab3 _ (List.mem_of_getElem? (i := 2) rfl) rfl
theorem q_w367 : Cond.code yX0_write cX0_write 3 none ∈ q_WU := q_tab2 _ (List.mem_of_getElem? (i := 168) rfl) rfl
theorem q_w368 : Cond.instanceMethod yX0_write ∈ q_WU := q_tab2 _ (List.mem_of_getElem? (i := 166) rfl) rfl
theorem q_w369 : Cond.selects RX0 yX0_write yX0_write ∈ q_WU := q_tab2 _ (List.mem_of_getElem? (i := 167) rfl) rfl
theorem q_w370 : Cond.fieldLink RX4 143 "Rasterbox$Processor" "isFreezing" "Z" ∈ q_WU := q_tab1 _ (List.mem_of_getElem? (i := 194) rfl) rfl
theorem q_w371 : Cond.fieldLink RX4 147 "Rasterbox$Processor" "done" "I" ∈ q_WU := q_tab1 _ (List.mem_of_getElem? (i := 202) rfl) rfl
theorem q_w372 : Cond.methodLink RX4 150 yX4_passPicture ∈ q_WU := q_tab3 _ (List.mem_of_getElem? (i := 7) rfl) rfl
theorem q_w373 : Cond.code yX4_passPicture cX4_passPicture 2 (some .boolean) ∈ q_WU := q_tab3 _ (List.mem_of_getElem? (i := 10) rfl) rfl
theorem q_w374 : Cond.instanceMethod yX4_passPicture ∈ q_WU := q_tab3 _ (List.mem_of_getElem? (i := 8) rfl) rfl
theorem q_w375 : Cond.selects RX4 yX4_passPicture yX4_passPicture ∈ q_WU := q_tab3 _ (List.mem_of_getElem? (i := 9) rfl) rfl
theorem q_w376 : Cond.fieldLink RX4 154 "Rasterbox$Processor" "left" "I" ∈ q_WU := q_tab1 _ (List.mem_of_getElem? (i := 199) rfl) rfl
theorem q_w377 : Cond.methodLink RX4 157 yX6_begin ∈ q_WU := q_tab3 _ (List.mem_of_getElem? (i := 122) rfl) rfl
theorem q_w378 : Cond.code yX6_begin cX6_begin 3 none ∈ q_WU := q_tab3 _ (List.mem_of_getElem? (i := 125) rfl) rfl
theorem q_w379 : Cond.instanceMethod yX6_begin ∈ q_WU := q_tab3 _ (List.mem_of_getElem? (i := 123) rfl) rfl
theorem q_w380 : Cond.selects RX6 yX6_begin yX6_begin ∈ q_WU := q_tab3 _ (List.mem_of_getElem? (i := 124) rfl) rfl
theorem q_w381 : Cond.methodLink RX4 160 yX6_isLastCycle ∈ q_WU := q_tab3 _ (List.mem_of_getElem? (i := 179) rfl) rfl
theorem q_w382 : Cond.code yX6_isLastCycle cX6_isLastCycle 1 (some .boolean) ∈ q_WU := q_tab3 _ (List.mem_of_getElem? (i := 182) rfl) rfl
theorem q_w383 : Cond.instanceMethod yX6_isLastCycle ∈ q_WU := q_tab3 _ (List.mem_of_getElem? (i := 180) rfl) rfl
theorem q_w384 : Cond.selects RX6 yX6_isLastCycle yX6_isLastCycle ∈ q_WU := q_tab3 _ (List.mem_of_getElem? (i := 181) rfl) rfl
theorem q_w385 : Cond.methodLink RX4 163 yX6_finish ∈ q_WU := q_tab3 _ (List.mem_of_getElem? (i := 183) rfl) rfl
theorem q_w386 : Cond.code yX6_finish cX6_finish 6 none ∈ q_WU := q_tab3 _ (List.mem_of_getElem? (i := 186) rfl) rfl
theorem q_w387 : Cond.instanceMethod yX6_finish ∈ q_WU := q_tab3 _ (List.mem_of_getElem? (i := 184) rfl) rfl
theorem q_w388 : Cond.selects RX6 yX6_finish yX6_finish ∈ q_WU := q_tab3 _ (List.mem_of_getElem? (i := 185) rfl) rfl
theorem q_w389 : Cond.methodLink RX4 166 yX0_endCycle ∈ q_WU := q_tab4 _ (List.mem_of_getElem? (i := 30) rfl) rfl
theorem q_w390 : Cond.code yX0_endCycle cX0_endCycle 1 none ∈ q_WU := q_tab4 _ (List.mem_of_getElem? (i := 33) rfl) rfl
theorem q_w391 : Cond.instanceMethod yX0_endCycle ∈ q_WU := q_tab4 _ (List.mem_of_getElem? (i := 31) rfl) rfl
theorem q_w392 : Cond.selects RX0 yX0_endCycle yX0_endCycle ∈ q_WU := q_tab4 _ (List.mem_of_getElem? (i := 32) rfl) rfl
theorem q_w393 : Cond.methodLink RX4 169 yX0_meetLine ∈ q_WU := q_tab3 _ (List.mem_of_getElem? (i := 11) rfl) rfl
theorem q_w394 : Cond.code yX0_meetLine cX0_meetLine 1 none ∈ q_WU := q_tab3 _ (List.mem_of_getElem? (i := 14) rfl) rfl
theorem q_w395 : Cond.instanceMethod yX0_meetLine ∈ q_WU := q_tab3 _ (List.mem_of_getElem? (i := 12) rfl) rfl
theorem q_w396 : Cond.selects RX0 yX0_meetLine yX0_meetLine ∈ q_WU := q_tab3 _ (List.mem_of_getElem? (i := 13) rfl) rfl
theorem q_w397 : Cond.methodLink RX4 172 yX0_isPictureNext ∈ q_WU := q_tab3 _ (List.mem_of_getElem? (i := 24) rfl) rfl
theorem q_w398 : Cond.methodLink RX4 175 yX0_draw ∈ q_WU := q_tab3 _ (List.mem_of_getElem? (i := 44) rfl) rfl
theorem q_w399 : Cond.code yX0_draw cX0_draw 8 none ∈ q_WU := q_tab3 _ (List.mem_of_getElem? (i := 47) rfl) rfl
theorem q_w400 : Cond.instanceMethod yX0_draw ∈ q_WU := q_tab3 _ (List.mem_of_getElem? (i := 45) rfl) rfl
theorem q_w401 : Cond.selects RX0 yX0_draw yX0_draw ∈ q_WU := q_tab3 _ (List.mem_of_getElem? (i := 46) rfl) rfl
theorem q_w402 : Cond.methodLink RX4 179 yX0_countTimers ∈ q_WU := q_tab3 _ (List.mem_of_getElem? (i := 82) rfl) rfl
theorem q_w403 : Cond.code yX0_countTimers cX0_countTimers 3 none ∈ q_WU := q_tab3 _ (List.mem_of_getElem? (i := 85) rfl) rfl
theorem q_w404 : Cond.instanceMethod yX0_countTimers ∈ q_WU := q_tab3 _ (List.mem_of_getElem? (i := 83) rfl) rfl
theorem q_w405 : Cond.selects RX0 yX0_countTimers yX0_countTimers ∈ q_WU := q_tab3 _ (List.mem_of_getElem? (i := 84) rfl) rfl
theorem q_w406 : Cond.methodLink RX4 182 yX0_moveTape ∈ q_WU := q_tab3 _ (List.mem_of_getElem? (i := 90) rfl) rfl
theorem q_w407 : Cond.code yX0_moveTape cX0_moveTape 1 none ∈ q_WU := q_tab3 _ (List.mem_of_getElem? (i := 93) rfl) rfl
theorem q_w408 : Cond.instanceMethod yX0_moveTape ∈ q_WU := q_tab3 _ (List.mem_of_getElem? (i := 91) rfl) rfl
theorem q_w409 : Cond.selects RX0 yX0_moveTape yX0_moveTape ∈ q_WU := q_tab3 _ (List.mem_of_getElem? (i := 92) rfl) rfl
theorem q_w410 : Cond.methodLink RX4 185 yX0_column ∈ q_WU := q_tab3 _ (List.mem_of_getElem? (i := 98) rfl) rfl
theorem q_w411 : Cond.code yX0_column cX0_column 1 (some .int) ∈ q_WU := q_tab3 _ (List.mem_of_getElem? (i := 18) rfl) rfl
theorem q_w412 : Cond.instanceMethod yX0_column ∈ q_WU := q_tab3 _ (List.mem_of_getElem? (i := 16) rfl) rfl
theorem q_w413 : Cond.selects RX0 yX0_column yX0_column ∈ q_WU := q_tab3 _ (List.mem_of_getElem? (i := 17) rfl) rfl
theorem q_w414 : Cond.methodLink RX4 188 yX0_position ∈ q_WU := q_tab3 _ (List.mem_of_getElem? (i := 99) rfl) rfl
theorem q_w415 : Cond.code yX0_position cX0_position 1 (some .int) ∈ q_WU := q_tab3 _ (List.mem_of_getElem? (i := 23) rfl) rfl
theorem q_w416 : Cond.instanceMethod yX0_position ∈ q_WU := q_tab3 _ (List.mem_of_getElem? (i := 21) rfl) rfl
theorem q_w417 : Cond.selects RX0 yX0_position yX0_position ∈ q_WU := q_tab3 _ (List.mem_of_getElem? (i := 22) rfl) rfl
theorem q_w418 : Cond.methodLink RX4 191 yX10_sound ∈ q_WU := q_tab3 _ (List.mem_of_getElem? (i := 100) rfl) rfl
theorem q_w419 : Cond.code yX10_sound cX10_sound 5 none ∈ q_WU := q_tab3 _ (List.mem_of_getElem? (i := 103) rfl) rfl
theorem q_w420 : Cond.instanceMethod yX10_sound ∈ q_WU := q_tab3 _ (List.mem_of_getElem? (i := 101) rfl) rfl
theorem q_w421 : Cond.selects RX10 yX10_sound yX10_sound ∈ q_WU := q_tab3 _ (List.mem_of_getElem? (i := 102) rfl) rfl
theorem q_w422 : Cond.methodLink RX0 3 objectInit ∈ q_WU := q_tab1 _ (List.mem_of_getElem? (i := 54) rfl) rfl
theorem q_w423 : Cond.classLink RX0 9 RX8 ∈ q_WU := q_tab1 _ (List.mem_of_getElem? (i := 55) rfl) rfl
theorem q_w424 : Cond.fieldLink RX0 12 "Rasterbox$Board" "scene" "LRasterbox$Scene;" ∈ q_WU := q_tab1 _ (List.mem_of_getElem? (i := 143) rfl) rfl
theorem q_w425 : Cond.fieldLink RX0 18 "Rasterbox$Board" "rom" "[I" ∈ q_WU := q_tab1 _ (List.mem_of_getElem? (i := 147) rfl) rfl
theorem q_w426 : Cond.fieldLink RX0 22 "Rasterbox$Board" "cartridge" "[I" ∈ q_WU := q_tab1 _ (List.mem_of_getElem? (i := 148) rfl) rfl
theorem q_w427 : Cond.fieldLink RX0 25 "Rasterbox$Board" "counts" "[I" ∈ q_WU := q_tab1 _ (List.mem_of_getElem? (i := 149) rfl) rfl
theorem q_w428 : Cond.classLink RX0 28 RX9 ∈ q_WU := q_tab1 _ (List.mem_of_getElem? (i := 75) rfl) rfl
theorem q_w429 : Cond.instantiable RX9 5 ∈ q_WU := q_tab1 _ (List.mem_of_getElem? (i := 76) rfl) rfl
theorem q_w430 : Cond.instanceMethod yX9_init ∈ q_WU := q_tab1 _ (List.mem_of_getElem? (i := 78) rfl) rfl
theorem q_w431 : Cond.code yX9_init cX9_init 1 none ∈ q_WU := q_tab1 _ (List.mem_of_getElem? (i := 79) rfl) rfl
theorem q_w432 : Cond.fieldLink RX0 31 "Rasterbox$Board" "tape" "LRasterbox$Tape;" ∈ q_WU := q_tab1 _ (List.mem_of_getElem? (i := 150) rfl) rfl
theorem q_w433 : Cond.classLink RX0 35 RX3 ∈ q_WU := q_tab1 _ (List.mem_of_getElem? (i := 102) rfl) rfl
theorem q_w434 : Cond.instantiable RX3 3 ∈ q_WU := q_tab1 _ (List.mem_of_getElem? (i := 103) rfl) rfl
theorem q_w435 : Cond.instanceMethod yX3_init ∈ q_WU := q_tab1 _ (List.mem_of_getElem? (i := 105) rfl) rfl
theorem q_w436 : Cond.code yX3_init cX3_init 1 none ∈ q_WU := q_tab1 _ (List.mem_of_getElem? (i := 106) rfl) rfl
theorem q_w437 : Cond.fieldLink RX0 38 "Rasterbox$Board" "keys" "LRasterbox$Keys;" ∈ q_WU := q_tab1 _ (List.mem_of_getElem? (i := 153) rfl) rfl
theorem q_w438 : Cond.classLink RX0 42 RX2 ∈ q_WU := q_tab1 _ (List.mem_of_getElem? (i := 121) rfl) rfl
theorem q_w439 : Cond.instantiable RX2 4 ∈ q_WU := q_tab1 _ (List.mem_of_getElem? (i := 122) rfl) rfl
theorem q_w440 : Cond.initialized RX2 ∈ q_WU := q_tab1 _ (List.mem_of_getElem? (i := 7) rfl) rfl
theorem q_w441 : Cond.instanceMethod yX2_init ∈ q_WU := q_tab1 _ (List.mem_of_getElem? (i := 124) rfl) rfl
theorem q_w442 : Cond.code yX2_init cX2_init 1 none ∈ q_WU := q_tab1 _ (List.mem_of_getElem? (i := 125) rfl) rfl
theorem q_w443 : Cond.fieldLink RX0 45 "Rasterbox$Board" "even" "LRasterbox$Frame;" ∈ q_WU := q_tab1 _ (List.mem_of_getElem? (i := 156) rfl) rfl
theorem q_w444 : Cond.fieldLink RX0 49 "Rasterbox$Board" "odd" "LRasterbox$Frame;" ∈ q_WU := q_tab1 _ (List.mem_of_getElem? (i := 157) rfl) rfl
theorem q_w445 : Cond.methodLink RX0 52 yX8_become ∈ q_WU := q_tab4 _ (List.mem_of_getElem? (i := 114) rfl) rfl
theorem q_w446 : Cond.code yX8_become cX8_become 2 none ∈ q_WU := q_tab4 _ (List.mem_of_getElem? (i := 41) rfl) rfl
theorem q_w447 : Cond.instanceMethod yX8_become ∈ q_WU := q_tab4 _ (List.mem_of_getElem? (i := 39) rfl) rfl
theorem q_w448 : Cond.selects RX8 yX8_become yX8_become ∈ q_WU := q_tab4 _ (List.mem_of_getElem? (i := 40) rfl) rfl
theorem q_w449 : Cond.methodLink RX0 56 arraycopyName ∈ q_WU := q_tab4 _ (List.mem_of_getElem? (i := 115) rfl) rfl
theorem q_w450 : Cond.methodLink RX0 62 yX9_become ∈ q_WU := q_tab4 _ (List.mem_of_getElem? (i := 116) rfl) rfl
theorem q_w451 : Cond.code yX9_become cX9_become 2 none ∈ q_WU := q_tab4 _ (List.mem_of_getElem? (i := 119) rfl) rfl
theorem q_w452 : Cond.instanceMethod yX9_become ∈ q_WU := q_tab4 _ (List.mem_of_getElem? (i := 117) rfl) rfl
theorem q_w453 : Cond.selects RX9 yX9_become yX9_become ∈ q_WU := q_tab4 _ (List.mem_of_getElem? (i := 118) rfl) rfl
theorem q_w454 : Cond.methodLink RX0 65 yX3_become ∈ q_WU := q_tab4 _ (List.mem_of_getElem? (i := 121) rfl) rfl
theorem q_w455 : Cond.code yX3_become cX3_become 2 none ∈ q_WU := q_tab4 _ (List.mem_of_getElem? (i := 124) rfl) rfl
theorem q_w456 : Cond.instanceMethod yX3_become ∈ q_WU := q_tab4 _ (List.mem_of_getElem? (i := 122) rfl) rfl
theorem q_w457 : Cond.selects RX3 yX3_become yX3_become ∈ q_WU := q_tab4 _ (List.mem_of_getElem? (i := 123) rfl) rfl
theorem q_w458 : Cond.methodLink RX0 68 yX2_become ∈ q_WU := q_tab4 _ (List.mem_of_getElem? (i := 126) rfl) rfl
theorem q_w459 : Cond.code yX2_become cX2_become 2 none ∈ q_WU := q_tab4 _ (List.mem_of_getElem? (i := 129) rfl) rfl
theorem q_w460 : Cond.instanceMethod yX2_become ∈ q_WU := q_tab4 _ (List.mem_of_getElem? (i := 127) rfl) rfl
theorem q_w461 : Cond.selects RX2 yX2_become yX2_become ∈ q_WU := q_tab4 _ (List.mem_of_getElem? (i := 128) rfl) rfl
theorem q_w462 : Cond.fieldLink RX0 71 "Rasterbox$Board" "cycle" "J" ∈ q_WU := q_tab1 _ (List.mem_of_getElem? (i := 158) rfl) rfl
theorem q_w463 : Cond.constantLong RX0 75 (960) ∈ q_WU := q_tab2 _ (List.mem_of_getElem? (i := 164) rfl) rfl
theorem q_w464 : Cond.constantLong RX0 77 (24) ∈ q_WU := q_tab3 _ (List.mem_of_getElem? (i := 19) rfl) rfl
theorem q_w465 : Cond.constantLong RX0 79 (2) ∈ q_WU := q_tab2 _ (List.mem_of_getElem? (i := 183) rfl) rfl
theorem q_w466 : Cond.fieldLink RX0 81 "Rasterbox$Scene" "registers" "[I" ∈ q_WU := q_tab1 _ (List.mem_of_getElem? (i := 67) rfl) rfl
theorem q_w467 : Cond.methodLink RX0 84 yX0_readRegister ∈ q_WU := q_tab2 _ (List.mem_of_getElem? (i := 160) rfl) rfl
theorem q_w468 : Cond.code yX0_readRegister cX0_readRegister 3 (some .int) ∈ q_WU := q_tab2 _ (List.mem_of_getElem? (i := 163) rfl) rfl
theorem q_w469 : Cond.instanceMethod yX0_readRegister ∈ q_WU := q_tab2 _ (List.mem_of_getElem? (i := 161) rfl) rfl
theorem q_w470 : Cond.selects RX0 yX0_readRegister yX0_readRegister ∈ q_WU := q_tab2 _ (List.mem_of_getElem? (i := 162) rfl) rfl
theorem q_w471 : Cond.fieldLink RX0 88 "Rasterbox$Scene" "ram" "[I" ∈ q_WU := q_tab1 _ (List.mem_of_getElem? (i := 63) rfl) rfl
theorem q_w472 : Cond.fieldLink RX0 91 "Rasterbox$Keys" "seen" "[I" ∈ q_WU := q_tab1 _ (List.mem_of_getElem? (i := 110) rfl) rfl
theorem q_w473 : Cond.fieldLink RX0 94 "Rasterbox$Keys" "stick" "I" ∈ q_WU := q_tab1 _ (List.mem_of_getElem? (i := 113) rfl) rfl
theorem q_w474 : Cond.fieldLink RX0 98 "Rasterbox$Tape" "level" "I" ∈ q_WU := q_tab1 _ (List.mem_of_getElem? (i := 90) rfl) rfl
theorem q_w475 : Cond.fieldLink RX0 101 "Rasterbox$Tape" "over" "I" ∈ q_WU := q_tab1 _ (List.mem_of_getElem? (i := 86) rfl) rfl
theorem q_w476 : Cond.fieldLink RX0 104 "Rasterbox$Tape" "count" "I" ∈ q_WU := q_tab1 _ (List.mem_of_getElem? (i := 83) rfl) rfl
theorem q_w477 : Cond.methodLink RX0 107 yX0_read ∈ q_WU := q_tab2 _ (List.mem_of_getElem? (i := 156) rfl) rfl
theorem q_w478 : Cond.methodLink RX0 111 yX0_startTimers ∈ q_WU := q_tab2 _ (List.mem_of_getElem? (i := 169) rfl) rfl
theorem q_w479 : Cond.code yX0_startTimers cX0_startTimers 3 none ∈ q_WU := q_tab2 _ (List.mem_of_getElem? (i := 172) rfl) rfl
theorem q_w480 : Cond.instanceMethod yX0_startTimers ∈ q_WU := q_tab2 _ (List.mem_of_getElem? (i := 170) rfl) rfl
theorem q_w481 : Cond.selects RX0 yX0_startTimers yX0_startTimers ∈ q_WU := q_tab2 _ (List.mem_of_getElem? (i := 171) rfl) rfl
theorem q_w482 : Cond.methodLink RX0 115 yX8_put ∈ q_WU := q_tab2 _ (List.mem_of_getElem? (i := 173) rfl) rfl
theorem q_w483 : Cond.code yX8_put cX8_put 4 none ∈ q_WU := q_tab2 _ (List.mem_of_getElem? (i := 176) rfl) rfl
theorem q_w484 : Cond.instanceMethod yX8_put ∈ q_WU := q_tab2 _ (List.mem_of_getElem? (i := 174) rfl) rfl
theorem q_w485 : Cond.selects RX8 yX8_put yX8_put ∈ q_WU := q_tab2 _ (List.mem_of_getElem? (i := 175) rfl) rfl
theorem q_w486 : Cond.methodLink RX0 119 yX0_present ∈ q_WU := q_tab2 _ (List.mem_of_getElem? (i := 179) rfl) rfl
theorem q_w487 : Cond.code yX0_present cX0_present 1 (some (.object "Rasterbox$Frame")) ∈ q_WU := q_tab2 _ (List.mem_of_getElem? (i := 182) rfl) rfl
theorem q_w488 : Cond.instanceMethod yX0_present ∈ q_WU := q_tab2 _ (List.mem_of_getElem? (i := 180) rfl) rfl
theorem q_w489 : Cond.selects RX0 yX0_present yX0_present ∈ q_WU := q_tab2 _ (List.mem_of_getElem? (i := 181) rfl) rfl
theorem q_w490 : Cond.methodLink RX0 123 yX2_keep ∈ q_WU := q_tab2 _ (List.mem_of_getElem? (i := 184) rfl) rfl
theorem q_w491 : Cond.code yX2_keep cX2_keep 3 none ∈ q_WU := q_tab2 _ (List.mem_of_getElem? (i := 187) rfl) rfl
theorem q_w492 : Cond.instanceMethod yX2_keep ∈ q_WU := q_tab2 _ (List.mem_of_getElem? (i := 185) rfl) rfl
theorem q_w493 : Cond.selects RX2 yX2_keep yX2_keep ∈ q_WU := q_tab2 _ (List.mem_of_getElem? (i := 186) rfl) rfl
theorem q_w494 : Cond.methodLink RX0 126 yX8_clearRegisters ∈ q_WU := q_tab2 _ (List.mem_of_getElem? (i := 222) rfl) rfl
theorem q_w495 : Cond.code yX8_clearRegisters cX8_clearRegisters 1 none ∈ q_WU := q_tab2 _ (List.mem_of_getElem? (i := 225) rfl) rfl
theorem q_w496 : Cond.instanceMethod yX8_clearRegisters ∈ q_WU := q_tab2 _ (List.mem_of_getElem? (i := 223) rfl) rfl
theorem q_w497 : Cond.selects RX8 yX8_clearRegisters yX8_clearRegisters ∈ q_WU := q_tab2 _ (List.mem_of_getElem? (i := 224) rfl) rfl
theorem q_w498 : Cond.methodLink RX0 129 yJ7_fill_53178 ∈ q_WU := q_tab2 _ (List.mem_of_getElem? (i := 229) rfl) rfl
theorem q_w499 : Cond.code yJ7_fill_53178 cJ7_fill_53178 4 none ∈ q_WU := q_tab2 _ (List.mem_of_getElem? (i := 228) rfl) rfl
theorem q_w500 : Cond.static yJ7_fill_53178 ∈ q_WU := q_tab2 _ (List.mem_of_getElem? (i := 227) rfl) rfl
theorem q_w501 : Cond.initialized RJ7 ∈ q_WU := q_tab1 _ (List.mem_of_getElem? (i := 22) rfl) rfl
theorem q_w502 : Cond.methodLink RX0 135 yX0_write ∈ q_WU := q_tab2 _ (List.mem_of_getElem? (i := 165) rfl) rfl
theorem q_w503 : Cond.methodLink RX0 138 yX1_lengthOf ∈ q_WU := q_tab2 _ (List.mem_of_getElem? (i := 200) rfl) rfl
theorem q_w504 : Cond.methodLink RX0 143 yX0_column ∈ q_WU := q_tab3 _ (List.mem_of_getElem? (i := 15) rfl) rfl
theorem q_w505 : Cond.methodLink RX0 147 yX0_position ∈ q_WU := q_tab3 _ (List.mem_of_getElem? (i := 20) rfl) rfl
theorem q_w506 : Cond.methodLink RX0 150 yX8_takesCycle ∈ q_WU := q_tab3 _ (List.mem_of_getElem? (i := 28) rfl) rfl
theorem q_w507 : Cond.code yX8_takesCycle cX8_takesCycle 3 (some .boolean) ∈ q_WU := q_tab3 _ (List.mem_of_getElem? (i := 31) rfl) rfl
theorem q_w508 : Cond.instanceMethod yX8_takesCycle ∈ q_WU := q_tab3 _ (List.mem_of_getElem? (i := 29) rfl) rfl
theorem q_w509 : Cond.selects RX8 yX8_takesCycle yX8_takesCycle ∈ q_WU := q_tab3 _ (List.mem_of_getElem? (i := 30) rfl) rfl
theorem q_w510 : Cond.methodLink RX0 154 yX8_valueAt ∈ q_WU := q_tab3 _ (List.mem_of_getElem? (i := 48) rfl) rfl
theorem q_w511 : Cond.code yX8_valueAt cX8_valueAt 8 (some .int) ∈ q_WU := q_tab3 _ (List.mem_of_getElem? (i := 51) rfl) rfl
theorem q_w512 : Cond.instanceMethod yX8_valueAt ∈ q_WU := q_tab3 _ (List.mem_of_getElem? (i := 49) rfl) rfl
theorem q_w513 : Cond.selects RX8 yX8_valueAt yX8_valueAt ∈ q_WU := q_tab3 _ (List.mem_of_getElem? (i := 50) rfl) rfl
theorem q_w514 : Cond.methodLink RX0 157 yX8_spritesAt ∈ q_WU := q_tab3 _ (List.mem_of_getElem? (i := 60) rfl) rfl
theorem q_w515 : Cond.code yX8_spritesAt cX8_spritesAt 9 (some .int) ∈ q_WU := q_tab3 _ (List.mem_of_getElem? (i := 63) rfl) rfl
theorem q_w516 : Cond.instanceMethod yX8_spritesAt ∈ q_WU := q_tab3 _ (List.mem_of_getElem? (i := 61) rfl) rfl
theorem q_w517 : Cond.selects RX8 yX8_spritesAt yX8_spritesAt ∈ q_WU := q_tab3 _ (List.mem_of_getElem? (i := 62) rfl) rfl
theorem q_w518 : Cond.methodLink RX0 160 yX8_noteHits ∈ q_WU := q_tab3 _ (List.mem_of_getElem? (i := 64) rfl) rfl
theorem q_w519 : Cond.code yX8_noteHits cX8_noteHits 3 none ∈ q_WU := q_tab3 _ (List.mem_of_getElem? (i := 67) rfl) rfl
theorem q_w520 : Cond.instanceMethod yX8_noteHits ∈ q_WU := q_tab3 _ (List.mem_of_getElem? (i := 65) rfl) rfl
theorem q_w521 : Cond.selects RX8 yX8_noteHits yX8_noteHits ∈ q_WU := q_tab3 _ (List.mem_of_getElem? (i := 66) rfl) rfl
theorem q_w522 : Cond.methodLink RX0 163 yX8_colourOf ∈ q_WU := q_tab3 _ (List.mem_of_getElem? (i := 78) rfl) rfl
theorem q_w523 : Cond.code yX8_colourOf cX8_colourOf 5 (some .int) ∈ q_WU := q_tab3 _ (List.mem_of_getElem? (i := 81) rfl) rfl
theorem q_w524 : Cond.instanceMethod yX8_colourOf ∈ q_WU := q_tab3 _ (List.mem_of_getElem? (i := 79) rfl) rfl
theorem q_w525 : Cond.selects RX8 yX8_colourOf yX8_colourOf ∈ q_WU := q_tab3 _ (List.mem_of_getElem? (i := 80) rfl) rfl
theorem q_w526 : Cond.fieldLink RX0 166 "Rasterbox$Frame" "time" "I" ∈ q_WU := q_tab1 _ (List.mem_of_getElem? (i := 133) rfl) rfl
theorem q_w527 : Cond.methodLink RX0 169 yX0_countDown ∈ q_WU := q_tab3 _ (List.mem_of_getElem? (i := 86) rfl) rfl
theorem q_w528 : Cond.code yX0_countDown cX0_countDown 3 (some .boolean) ∈ q_WU := q_tab3 _ (List.mem_of_getElem? (i := 89) rfl) rfl
theorem q_w529 : Cond.instanceMethod yX0_countDown ∈ q_WU := q_tab3 _ (List.mem_of_getElem? (i := 87) rfl) rfl
theorem q_w530 : Cond.selects RX0 yX0_countDown yX0_countDown ∈ q_WU := q_tab3 _ (List.mem_of_getElem? (i := 88) rfl) rfl
theorem q_w531 : Cond.methodLink RX0 173 yX9_isPulseOver ∈ q_WU := q_tab3 _ (List.mem_of_getElem? (i := 94) rfl) rfl
theorem q_w532 : Cond.code yX9_isPulseOver cX9_isPulseOver 1 (some .boolean) ∈ q_WU := q_tab3 _ (List.mem_of_getElem? (i := 97) rfl) rfl
theorem q_w533 : Cond.instanceMethod yX9_isPulseOver ∈ q_WU := q_tab3 _ (List.mem_of_getElem? (i := 95) rfl) rfl
theorem q_w534 : Cond.selects RX9 yX9_isPulseOver yX9_isPulseOver ∈ q_WU := q_tab3 _ (List.mem_of_getElem? (i := 96) rfl) rfl
theorem q_w535 : Cond.methodLink RX0 177 yX2_begin ∈ q_WU := q_tab4 _ (List.mem_of_getElem? (i := 34) rfl) rfl
theorem q_w536 : Cond.code yX2_begin cX2_begin 2 none ∈ q_WU := q_tab4 _ (List.mem_of_getElem? (i := 37) rfl) rfl
theorem q_w537 : Cond.instanceMethod yX2_begin ∈ q_WU := q_tab4 _ (List.mem_of_getElem? (i := 35) rfl) rfl
theorem q_w538 : Cond.selects RX2 yX2_begin yX2_begin ∈ q_WU := q_tab4 _ (List.mem_of_getElem? (i := 36) rfl) rfl
theorem q_w539 : Cond.methodLink RX0 180 yX0_last ∈ q_WU := q_tab7 _ (List.mem_of_getElem? (i := 28) rfl) rfl
theorem q_w540 : Cond.code yX0_last cX0_last 1 (some (.object "Rasterbox$Frame")) ∈ q_WU := q_tab7 _ (List.mem_of_getElem? (i := 31) rfl) rfl
theorem q_w541 : Cond.instanceMethod yX0_last ∈ q_WU := q_tab7 _ (List.mem_of_getElem? (i := 29) rfl) rfl
theorem q_w542 : Cond.selects RX0 yX0_last yX0_last ∈ q_WU := q_tab7 _ (List.mem_of_getElem? (i := 30) rfl) rfl
theorem q_w543 : Cond.methodLink RX0 183 yX2_replay ∈ q_WU := q_tab7 _ (List.mem_of_getElem? (i := 32) rfl) rfl
theorem q_w544 : Cond.code yX2_replay cX2_replay 5 none ∈ q_WU := q_tab7 _ (List.mem_of_getElem? (i := 35) rfl) rfl
theorem q_w545 : Cond.instanceMethod yX2_replay ∈ q_WU := q_tab7 _ (List.mem_of_getElem? (i := 33) rfl) rfl
theorem q_w546 : Cond.selects RX2 yX2_replay yX2_replay ∈ q_WU := q_tab7 _ (List.mem_of_getElem? (i := 34) rfl) rfl
theorem q_w547 : Cond.methodLink RX8 3 objectInit ∈ q_WU := q_tab1 _ (List.mem_of_getElem? (i := 60) rfl) rfl
theorem q_w548 : Cond.fieldLink RX8 9 "Rasterbox$Scene" "ram" "[I" ∈ q_WU := q_tab1 _ (List.mem_of_getElem? (i := 61) rfl) rfl
theorem q_w549 : Cond.fieldLink RX8 15 "Rasterbox$Scene" "registers" "[I" ∈ q_WU := q_tab1 _ (List.mem_of_getElem? (i := 64) rfl) rfl
theorem q_w550 : Cond.methodLink RX8 18 arraycopyName ∈ q_WU := q_tab4 _ (List.mem_of_getElem? (i := 42) rfl) rfl
theorem q_w551 : Cond.fieldLink RX8 24 "Rasterbox$Scene" "MASKS" "[I" ∈ q_WU := q_tab2 _ (List.mem_of_getElem? (i := 177) rfl) rfl
theorem q_w552 : Cond.methodLink RX8 27 yJ7_fill_53178 ∈ q_WU := q_tab2 _ (List.mem_of_getElem? (i := 226) rfl) rfl
theorem q_w553 : Cond.methodLink RX8 33 yX8_isAmongRows ∈ q_WU := q_tab3 _ (List.mem_of_getElem? (i := 32) rfl) rfl
theorem q_w554 : Cond.code yX8_isAmongRows cX8_isAmongRows 6 (some .boolean) ∈ q_WU := q_tab3 _ (List.mem_of_getElem? (i := 35) rfl) rfl
theorem q_w555 : Cond.instanceMethod yX8_isAmongRows ∈ q_WU := q_tab3 _ (List.mem_of_getElem? (i := 33) rfl) rfl
theorem q_w556 : Cond.selects RX8 yX8_isAmongRows yX8_isAmongRows ∈ q_WU := q_tab3 _ (List.mem_of_getElem? (i := 34) rfl) rfl
theorem q_w557 : Cond.methodLink RX8 37 yX8_scrollUp ∈ q_WU := q_tab3 _ (List.mem_of_getElem? (i := 40) rfl) rfl
theorem q_w558 : Cond.code yX8_scrollUp cX8_scrollUp 1 (some .int) ∈ q_WU := q_tab3 _ (List.mem_of_getElem? (i := 43) rfl) rfl
theorem q_w559 : Cond.instanceMethod yX8_scrollUp ∈ q_WU := q_tab3 _ (List.mem_of_getElem? (i := 41) rfl) rfl
theorem q_w560 : Cond.selects RX8 yX8_scrollUp yX8_scrollUp ∈ q_WU := q_tab3 _ (List.mem_of_getElem? (i := 42) rfl) rfl
theorem q_w561 : Cond.methodLink RX8 41 yX8_bitOf ∈ q_WU := q_tab3 _ (List.mem_of_getElem? (i := 36) rfl) rfl
theorem q_w562 : Cond.code yX8_bitOf cX8_bitOf 3 (some .int) ∈ q_WU := q_tab3 _ (List.mem_of_getElem? (i := 39) rfl) rfl
theorem q_w563 : Cond.instanceMethod yX8_bitOf ∈ q_WU := q_tab3 _ (List.mem_of_getElem? (i := 37) rfl) rfl
theorem q_w564 : Cond.selects RX8 yX8_bitOf yX8_bitOf ∈ q_WU := q_tab3 _ (List.mem_of_getElem? (i := 38) rfl) rfl
theorem q_w565 : Cond.methodLink RX8 45 yX8_scrollLeft ∈ q_WU := q_tab3 _ (List.mem_of_getElem? (i := 52) rfl) rfl
theorem q_w566 : Cond.code yX8_scrollLeft cX8_scrollLeft 1 (some .int) ∈ q_WU := q_tab3 _ (List.mem_of_getElem? (i := 55) rfl) rfl
theorem q_w567 : Cond.instanceMethod yX8_scrollLeft ∈ q_WU := q_tab3 _ (List.mem_of_getElem? (i := 53) rfl) rfl
theorem q_w568 : Cond.selects RX8 yX8_scrollLeft yX8_scrollLeft ∈ q_WU := q_tab3 _ (List.mem_of_getElem? (i := 54) rfl) rfl
theorem q_w569 : Cond.methodLink RX8 48 yX8_byteAt ∈ q_WU := q_tab3 _ (List.mem_of_getElem? (i := 56) rfl) rfl
theorem q_w570 : Cond.code yX8_byteAt cX8_byteAt 2 (some .int) ∈ q_WU := q_tab3 _ (List.mem_of_getElem? (i := 59) rfl) rfl
theorem q_w571 : Cond.instanceMethod yX8_byteAt ∈ q_WU := q_tab3 _ (List.mem_of_getElem? (i := 57) rfl) rfl
theorem q_w572 : Cond.selects RX8 yX8_byteAt yX8_byteAt ∈ q_WU := q_tab3 _ (List.mem_of_getElem? (i := 58) rfl) rfl
theorem q_w573 : Cond.methodLink RX8 52 yX8_isSolid ∈ q_WU := q_tab3 _ (List.mem_of_getElem? (i := 74) rfl) rfl
theorem q_w574 : Cond.code yX8_isSolid cX8_isSolid 2 (some .boolean) ∈ q_WU := q_tab3 _ (List.mem_of_getElem? (i := 77) rfl) rfl
theorem q_w575 : Cond.instanceMethod yX8_isSolid ∈ q_WU := q_tab3 _ (List.mem_of_getElem? (i := 75) rfl) rfl
theorem q_w576 : Cond.selects RX8 yX8_isSolid yX8_isSolid ∈ q_WU := q_tab3 _ (List.mem_of_getElem? (i := 76) rfl) rfl
theorem q_w577 : Cond.methodLink RX8 56 yJ6_bitCount_0f7a4 ∈ q_WU := q_tab3 _ (List.mem_of_getElem? (i := 68) rfl) rfl
theorem q_w578 : Cond.code yJ6_bitCount_0f7a4 cJ6_bitCount_0f7a4 1 (some .int) ∈ q_WU := q_tab3 _ (List.mem_of_getElem? (i := 70) rfl) rfl
theorem q_w579 : Cond.static yJ6_bitCount_0f7a4 ∈ q_WU := q_tab3 _ (List.mem_of_getElem? (i := 69) rfl) rfl
theorem q_w580 : Cond.initialized RJ6 ∈ q_WU := q_tab1 _ (List.mem_of_getElem? (i := 24) rfl) rfl
theorem q_w581 : Cond.methodLink RX2 3 objectInit ∈ q_WU := q_tab1 _ (List.mem_of_getElem? (i := 126) rfl) rfl
theorem q_w582 : Cond.classLink RX2 9 RX8 ∈ q_WU := q_tab1 _ (List.mem_of_getElem? (i := 127) rfl) rfl
theorem q_w583 : Cond.fieldLink RX2 12 "Rasterbox$Frame" "start" "LRasterbox$Scene;" ∈ q_WU := q_tab1 _ (List.mem_of_getElem? (i := 129) rfl) rfl
theorem q_w584 : Cond.fieldLink RX2 18 "Rasterbox$Frame" "writes" "[I" ∈ q_WU := q_tab1 _ (List.mem_of_getElem? (i := 130) rfl) rfl
theorem q_w585 : Cond.methodLink RX2 22 yX8_become ∈ q_WU := q_tab4 _ (List.mem_of_getElem? (i := 38) rfl) rfl
theorem q_w586 : Cond.methodLink RX2 26 arraycopyName ∈ q_WU := q_tab4 _ (List.mem_of_getElem? (i := 130) rfl) rfl
theorem q_w587 : Cond.fieldLink RX2 32 "Rasterbox$Frame" "count" "I" ∈ q_WU := q_tab1 _ (List.mem_of_getElem? (i := 131) rfl) rfl
theorem q_w588 : Cond.fieldLink RX2 36 "Rasterbox$Frame" "time" "I" ∈ q_WU := q_tab1 _ (List.mem_of_getElem? (i := 132) rfl) rfl
theorem q_w589 : Cond.methodLink RX2 39 yX8_clearRegisters ∈ q_WU := q_tab7 _ (List.mem_of_getElem? (i := 36) rfl) rfl
theorem q_w590 : Cond.methodLink RX2 42 yX8_put ∈ q_WU := q_tab7 _ (List.mem_of_getElem? (i := 37) rfl) rfl
theorem q_w591 : Cond.methodLink RX6 3 objectInit ∈ q_WU := q_tab1 _ (List.mem_of_getElem? (i := 184) rfl) rfl
theorem q_w592 : Cond.fieldLink RX6 9 "Rasterbox$Processor" "s" "I" ∈ q_WU := q_tab1 _ (List.mem_of_getElem? (i := 188) rfl) rfl
theorem q_w593 : Cond.fieldLink RX6 15 "Rasterbox$Processor" "flags" "I" ∈ q_WU := q_tab1 _ (List.mem_of_getElem? (i := 191) rfl) rfl
theorem q_w594 : Cond.fieldLink RX6 18 "Rasterbox$Processor" "trace" "[I" ∈ q_WU := q_tab1 _ (List.mem_of_getElem? (i := 206) rfl) rfl
theorem q_w595 : Cond.fieldLink RX6 22 "Rasterbox$Processor" "a" "I" ∈ q_WU := q_tab1 _ (List.mem_of_getElem? (i := 185) rfl) rfl
theorem q_w596 : Cond.fieldLink RX6 25 "Rasterbox$Processor" "x" "I" ∈ q_WU := q_tab1 _ (List.mem_of_getElem? (i := 186) rfl) rfl
theorem q_w597 : Cond.fieldLink RX6 28 "Rasterbox$Processor" "y" "I" ∈ q_WU := q_tab1 _ (List.mem_of_getElem? (i := 187) rfl) rfl
theorem q_w598 : Cond.fieldLink RX6 31 "Rasterbox$Processor" "p" "I" ∈ q_WU := q_tab1 _ (List.mem_of_getElem? (i := 189) rfl) rfl
theorem q_w599 : Cond.fieldLink RX6 34 "Rasterbox$Processor" "isFreezing" "Z" ∈ q_WU := q_tab1 _ (List.mem_of_getElem? (i := 193) rfl) rfl
theorem q_w600 : Cond.fieldLink RX6 38 "Rasterbox$Processor" "isJammed" "Z" ∈ q_WU := q_tab1 _ (List.mem_of_getElem? (i := 195) rfl) rfl
theorem q_w601 : Cond.fieldLink RX6 41 "Rasterbox$Processor" "vector" "I" ∈ q_WU := q_tab1 _ (List.mem_of_getElem? (i := 197) rfl) rfl
theorem q_w602 : Cond.fieldLink RX6 44 "Rasterbox$Processor" "left" "I" ∈ q_WU := q_tab1 _ (List.mem_of_getElem? (i := 198) rfl) rfl
theorem q_w603 : Cond.fieldLink RX6 47 "Rasterbox$Processor" "done" "I" ∈ q_WU := q_tab1 _ (List.mem_of_getElem? (i := 201) rfl) rfl
theorem q_w604 : Cond.fieldLink RX6 50 "Rasterbox$Processor" "instructions" "I" ∈ q_WU := q_tab1 _ (List.mem_of_getElem? (i := 204) rfl) rfl
theorem q_w605 : Cond.methodLink RX6 53 arraycopyName ∈ q_WU := q_tab4 _ (List.mem_of_getElem? (i := 135) rfl) rfl
theorem q_w606 : Cond.methodLink RX6 59 yX6_registerOf ∈ q_WU := q_tab2 _ (List.mem_of_getElem? (i := 210) rfl) rfl
theorem q_w607 : Cond.methodLink RX6 63 yX0_readWord ∈ q_WU := q_tab2 _ (List.mem_of_getElem? (i := 234) rfl) rfl
theorem q_w608 : Cond.code yX0_readWord cX0_readWord 3 (some .int) ∈ q_WU := q_tab2 _ (List.mem_of_getElem? (i := 237) rfl) rfl
theorem q_w609 : Cond.instanceMethod yX0_readWord ∈ q_WU := q_tab2 _ (List.mem_of_getElem? (i := 235) rfl) rfl
theorem q_w610 : Cond.selects RX0 yX0_readWord yX0_readWord ∈ q_WU := q_tab2 _ (List.mem_of_getElem? (i := 236) rfl) rfl
theorem q_w611 : Cond.fieldLink RX6 68 "Rasterbox$Board" "scene" "LRasterbox$Scene;" ∈ q_WU := q_tab1 _ (List.mem_of_getElem? (i := 146) rfl) rfl
theorem q_w612 : Cond.fieldLink RX6 72 "Rasterbox$Scene" "registers" "[I" ∈ q_WU := q_tab1 _ (List.mem_of_getElem? (i := 66) rfl) rfl
theorem q_w613 : Cond.methodLink RX6 77 yX6_cyclesAt ∈ q_WU := q_tab3 _ (List.mem_of_getElem? (i := 126) rfl) rfl
theorem q_w614 : Cond.code yX6_cyclesAt cX6_cyclesAt 8 (some .int) ∈ q_WU := q_tab3 _ (List.mem_of_getElem? (i := 129) rfl) rfl
theorem q_w615 : Cond.instanceMethod yX6_cyclesAt ∈ q_WU := q_tab3 _ (List.mem_of_getElem? (i := 127) rfl) rfl
theorem q_w616 : Cond.selects RX6 yX6_cyclesAt yX6_cyclesAt ∈ q_WU := q_tab3 _ (List.mem_of_getElem? (i := 128) rfl) rfl
theorem q_w617 : Cond.methodLink RX6 81 yX0_read ∈ q_WU := q_tab3 _ (List.mem_of_getElem? (i := 130) rfl) rfl
theorem q_w618 : Cond.methodLink RX6 84 yX1_operationOf ∈ q_WU := q_tab3 _ (List.mem_of_getElem? (i := 131) rfl) rfl
theorem q_w619 : Cond.code yX1_operationOf cX1_operationOf 1 (some .int) ∈ q_WU := q_tab2 _ (List.mem_of_getElem? (i := 205) rfl) rfl
theorem q_w620 : Cond.static yX1_operationOf ∈ q_WU := q_tab2 _ (List.mem_of_getElem? (i := 204) rfl) rfl
theorem q_w621 : Cond.methodLink RX6 89 yX1_isBranch ∈ q_WU := q_tab3 _ (List.mem_of_getElem? (i := 132) rfl) rfl
theorem q_w622 : Cond.code yX1_isBranch cX1_isBranch 1 (some .boolean) ∈ q_WU := q_tab3 _ (List.mem_of_getElem? (i := 134) rfl) rfl
theorem q_w623 : Cond.static yX1_isBranch ∈ q_WU := q_tab3 _ (List.mem_of_getElem? (i := 133) rfl) rfl
theorem q_w624 : Cond.methodLink RX6 93 yX6_behind ∈ q_WU := q_tab3 _ (List.mem_of_getElem? (i := 135) rfl) rfl
theorem q_w625 : Cond.code yX6_behind cX6_behind 2 (some .int) ∈ q_WU := q_tab3 _ (List.mem_of_getElem? (i := 138) rfl) rfl
theorem q_w626 : Cond.instanceMethod yX6_behind ∈ q_WU := q_tab3 _ (List.mem_of_getElem? (i := 136) rfl) rfl
theorem q_w627 : Cond.selects RX6 yX6_behind yX6_behind ∈ q_WU := q_tab3 _ (List.mem_of_getElem? (i := 137) rfl) rfl
theorem q_w628 : Cond.methodLink RX6 96 yX6_cyclesOfBranch ∈ q_WU := q_tab3 _ (List.mem_of_getElem? (i := 139) rfl) rfl
theorem q_w629 : Cond.code yX6_cyclesOfBranch cX6_cyclesOfBranch 3 (some .int) ∈ q_WU := q_tab3 _ (List.mem_of_getElem? (i := 142) rfl) rfl
theorem q_w630 : Cond.instanceMethod yX6_cyclesOfBranch ∈ q_WU := q_tab3 _ (List.mem_of_getElem? (i := 140) rfl) rfl
theorem q_w631 : Cond.selects RX6 yX6_cyclesOfBranch yX6_cyclesOfBranch ∈ q_WU := q_tab3 _ (List.mem_of_getElem? (i := 141) rfl) rfl
theorem q_w632 : Cond.methodLink RX6 100 yX1_cyclesOf ∈ q_WU := q_tab3 _ (List.mem_of_getElem? (i := 154) rfl) rfl
theorem q_w633 : Cond.code yX1_cyclesOf cX1_cyclesOf 2 (some .int) ∈ q_WU := q_tab3 _ (List.mem_of_getElem? (i := 156) rfl) rfl
theorem q_w634 : Cond.static yX1_cyclesOf ∈ q_WU := q_tab3 _ (List.mem_of_getElem? (i := 155) rfl) rfl
theorem q_w635 : Cond.methodLink RX6 103 yX6_baseOf ∈ q_WU := q_tab3 _ (List.mem_of_getElem? (i := 159) rfl) rfl
theorem q_w636 : Cond.code yX6_baseOf cX6_baseOf 5 (some .int) ∈ q_WU := q_tab3 _ (List.mem_of_getElem? (i := 162) rfl) rfl
theorem q_w637 : Cond.instanceMethod yX6_baseOf ∈ q_WU := q_tab3 _ (List.mem_of_getElem? (i := 160) rfl) rfl
theorem q_w638 : Cond.selects RX6 yX6_baseOf yX6_baseOf ∈ q_WU := q_tab3 _ (List.mem_of_getElem? (i := 161) rfl) rfl
theorem q_w639 : Cond.methodLink RX6 107 yX6_indexOf ∈ q_WU := q_tab3 _ (List.mem_of_getElem? (i := 163) rfl) rfl
theorem q_w640 : Cond.code yX6_indexOf cX6_indexOf 2 (some .int) ∈ q_WU := q_tab3 _ (List.mem_of_getElem? (i := 166) rfl) rfl
theorem q_w641 : Cond.instanceMethod yX6_indexOf ∈ q_WU := q_tab3 _ (List.mem_of_getElem? (i := 164) rfl) rfl
theorem q_w642 : Cond.selects RX6 yX6_indexOf yX6_indexOf ∈ q_WU := q_tab3 _ (List.mem_of_getElem? (i := 165) rfl) rfl
theorem q_w643 : Cond.methodLink RX6 110 yX1_isWriting ∈ q_WU := q_tab3 _ (List.mem_of_getElem? (i := 167) rfl) rfl
theorem q_w644 : Cond.code yX1_isWriting cX1_isWriting 1 (some .boolean) ∈ q_WU := q_tab3 _ (List.mem_of_getElem? (i := 169) rfl) rfl
theorem q_w645 : Cond.static yX1_isWriting ∈ q_WU := q_tab3 _ (List.mem_of_getElem? (i := 168) rfl) rfl
theorem q_w646 : Cond.methodLink RX6 113 yX1_cyclesOfMode ∈ q_WU := q_tab3 _ (List.mem_of_getElem? (i := 173) rfl) rfl
theorem q_w647 : Cond.code yX1_cyclesOfMode cX1_cyclesOfMode 1 (some .int) ∈ q_WU := q_tab3 _ (List.mem_of_getElem? (i := 175) rfl) rfl
theorem q_w648 : Cond.static yX1_cyclesOfMode ∈ q_WU := q_tab3 _ (List.mem_of_getElem? (i := 174) rfl) rfl
theorem q_w649 : Cond.methodLink RX6 116 yX1_isChanging ∈ q_WU := q_tab3 _ (List.mem_of_getElem? (i := 178) rfl) rfl
theorem q_w650 : Cond.code yX1_isChanging cX1_isChanging 1 (some .boolean) ∈ q_WU := q_tab3 _ (List.mem_of_getElem? (i := 172) rfl) rfl
theorem q_w651 : Cond.static yX1_isChanging ∈ q_WU := q_tab3 _ (List.mem_of_getElem? (i := 171) rfl) rfl
theorem q_w652 : Cond.methodLink RX6 119 yX6_isTaken ∈ q_WU := q_tab3 _ (List.mem_of_getElem? (i := 143) rfl) rfl
theorem q_w653 : Cond.code yX6_isTaken cX6_isTaken 2 (some .boolean) ∈ q_WU := q_tab3 _ (List.mem_of_getElem? (i := 146) rfl) rfl
theorem q_w654 : Cond.instanceMethod yX6_isTaken ∈ q_WU := q_tab3 _ (List.mem_of_getElem? (i := 144) rfl) rfl
theorem q_w655 : Cond.selects RX6 yX6_isTaken yX6_isTaken ∈ q_WU := q_tab3 _ (List.mem_of_getElem? (i := 145) rfl) rfl
theorem q_w656 : Cond.methodLink RX6 122 yX6_targetOf ∈ q_WU := q_tab3 _ (List.mem_of_getElem? (i := 147) rfl) rfl
theorem q_w657 : Cond.code yX6_targetOf cX6_targetOf 2 (some .int) ∈ q_WU := q_tab3 _ (List.mem_of_getElem? (i := 150) rfl) rfl
theorem q_w658 : Cond.instanceMethod yX6_targetOf ∈ q_WU := q_tab3 _ (List.mem_of_getElem? (i := 148) rfl) rfl
theorem q_w659 : Cond.selects RX6 yX6_targetOf yX6_targetOf ∈ q_WU := q_tab3 _ (List.mem_of_getElem? (i := 149) rfl) rfl
theorem q_w660 : Cond.methodLink RX6 125 yX1_targetOf ∈ q_WU := q_tab3 _ (List.mem_of_getElem? (i := 151) rfl) rfl
theorem q_w661 : Cond.code yX1_targetOf cX1_targetOf 2 (some .int) ∈ q_WU := q_tab3 _ (List.mem_of_getElem? (i := 153) rfl) rfl
theorem q_w662 : Cond.static yX1_targetOf ∈ q_WU := q_tab3 _ (List.mem_of_getElem? (i := 152) rfl) rfl
theorem q_w663 : Cond.methodLink RX6 127 yX6_interrupt ∈ q_WU := q_tab3 _ (List.mem_of_getElem? (i := 187) rfl) rfl
theorem q_w664 : Cond.code yX6_interrupt cX6_interrupt 5 none ∈ q_WU := q_tab3 _ (List.mem_of_getElem? (i := 190) rfl) rfl
theorem q_w665 : Cond.instanceMethod yX6_interrupt ∈ q_WU := q_tab3 _ (List.mem_of_getElem? (i := 188) rfl) rfl
theorem q_w666 : Cond.selects RX6 yX6_interrupt yX6_interrupt ∈ q_WU := q_tab3 _ (List.mem_of_getElem? (i := 189) rfl) rfl
theorem q_w667 : Cond.methodLink RX6 131 yX1_lengthOf ∈ q_WU := q_tab3 _ (List.mem_of_getElem? (i := 196) rfl) rfl
theorem q_w668 : Cond.methodLink RX6 134 yX6_doPlain ∈ q_WU := q_tab3 _ (List.mem_of_getElem? (i := 197) rfl) rfl
theorem q_w669 : Cond.code yX6_doPlain cX6_doPlain 3 none ∈ q_WU := q_tab3 _ (List.mem_of_getElem? (i := 200) rfl) rfl
theorem q_w670 : Cond.instanceMethod yX6_doPlain ∈ q_WU := q_tab3 _ (List.mem_of_getElem? (i := 198) rfl) rfl
theorem q_w671 : Cond.selects RX6 yX6_doPlain yX6_doPlain ∈ q_WU := q_tab3 _ (List.mem_of_getElem? (i := 199) rfl) rfl
theorem q_w672 : Cond.methodLink RX6 138 yX6_jump ∈ q_WU := q_tab3 _ (List.mem_of_getElem? (i := 226) rfl) rfl
theorem q_w673 : Cond.code yX6_jump cX6_jump 5 (some .int) ∈ q_WU := q_tab3 _ (List.mem_of_getElem? (i := 229) rfl) rfl
theorem q_w674 : Cond.instanceMethod yX6_jump ∈ q_WU := q_tab3 _ (List.mem_of_getElem? (i := 227) rfl) rfl
theorem q_w675 : Cond.selects RX6 yX6_jump yX6_jump ∈ q_WU := q_tab3 _ (List.mem_of_getElem? (i := 228) rfl) rfl
theorem q_w676 : Cond.methodLink RX6 142 yX6_calculate ∈ q_WU := q_tab3 _ (List.mem_of_getElem? (i := 238) rfl) rfl
theorem q_w677 : Cond.code yX6_calculate cX6_calculate 3 none ∈ q_WU := q_tab4 _ (List.mem_of_getElem? (i := 1) rfl) rfl
theorem q_w678 : Cond.instanceMethod yX6_calculate ∈ q_WU := q_tab3 _ (List.mem_of_getElem? (i := 239) rfl) rfl
theorem q_w679 : Cond.selects RX6 yX6_calculate yX6_calculate ∈ q_WU := q_tab4 _ (List.mem_of_getElem? (i := 0) rfl) rfl
theorem q_w680 : Cond.methodLink RX6 146 yX6_addressOf ∈ q_WU := q_tab4 _ (List.mem_of_getElem? (i := 18) rfl) rfl
theorem q_w681 : Cond.code yX6_addressOf cX6_addressOf 3 (some .int) ∈ q_WU := q_tab4 _ (List.mem_of_getElem? (i := 21) rfl) rfl
theorem q_w682 : Cond.instanceMethod yX6_addressOf ∈ q_WU := q_tab4 _ (List.mem_of_getElem? (i := 19) rfl) rfl
theorem q_w683 : Cond.selects RX6 yX6_addressOf yX6_addressOf ∈ q_WU := q_tab4 _ (List.mem_of_getElem? (i := 20) rfl) rfl
theorem q_w684 : Cond.methodLink RX6 149 yX6_store ∈ q_WU := q_tab4 _ (List.mem_of_getElem? (i := 22) rfl) rfl
theorem q_w685 : Cond.code yX6_store cX6_store 6 none ∈ q_WU := q_tab4 _ (List.mem_of_getElem? (i := 25) rfl) rfl
theorem q_w686 : Cond.instanceMethod yX6_store ∈ q_WU := q_tab4 _ (List.mem_of_getElem? (i := 23) rfl) rfl
theorem q_w687 : Cond.selects RX6 yX6_store yX6_store ∈ q_WU := q_tab4 _ (List.mem_of_getElem? (i := 24) rfl) rfl
theorem q_w688 : Cond.methodLink RX6 153 yX0_load ∈ q_WU := q_tab4 _ (List.mem_of_getElem? (i := 26) rfl) rfl
theorem q_w689 : Cond.code yX0_load cX0_load 3 (some .int) ∈ q_WU := q_tab4 _ (List.mem_of_getElem? (i := 29) rfl) rfl
theorem q_w690 : Cond.instanceMethod yX0_load ∈ q_WU := q_tab4 _ (List.mem_of_getElem? (i := 27) rfl) rfl
theorem q_w691 : Cond.selects RX0 yX0_load yX0_load ∈ q_WU := q_tab4 _ (List.mem_of_getElem? (i := 28) rfl) rfl
theorem q_w692 : Cond.methodLink RX6 156 yX0_write ∈ q_WU := q_tab3 _ (List.mem_of_getElem? (i := 195) rfl) rfl
theorem q_w693 : Cond.methodLink RX6 159 yX8_byteAt ∈ q_WU := q_tab3 _ (List.mem_of_getElem? (i := 225) rfl) rfl
theorem q_w694 : Cond.methodLink RX6 162 yX6_push ∈ q_WU := q_tab3 _ (List.mem_of_getElem? (i := 191) rfl) rfl
theorem q_w695 : Cond.code yX6_push cX6_push 3 none ∈ q_WU := q_tab3 _ (List.mem_of_getElem? (i := 194) rfl) rfl
theorem q_w696 : Cond.instanceMethod yX6_push ∈ q_WU := q_tab3 _ (List.mem_of_getElem? (i := 192) rfl) rfl
theorem q_w697 : Cond.selects RX6 yX6_push yX6_push ∈ q_WU := q_tab3 _ (List.mem_of_getElem? (i := 193) rfl) rfl
theorem q_w698 : Cond.methodLink RX6 165 yX6_setFlag ∈ q_WU := q_tab3 _ (List.mem_of_getElem? (i := 213) rfl) rfl
theorem q_w699 : Cond.code yX6_setFlag cX6_setFlag 3 none ∈ q_WU := q_tab3 _ (List.mem_of_getElem? (i := 216) rfl) rfl
theorem q_w700 : Cond.instanceMethod yX6_setFlag ∈ q_WU := q_tab3 _ (List.mem_of_getElem? (i := 214) rfl) rfl
theorem q_w701 : Cond.selects RX6 yX6_setFlag yX6_setFlag ∈ q_WU := q_tab3 _ (List.mem_of_getElem? (i := 215) rfl) rfl
theorem q_w702 : Cond.methodLink RX6 169 yX6_judge ∈ q_WU := q_tab3 _ (List.mem_of_getElem? (i := 205) rfl) rfl
theorem q_w703 : Cond.code yX6_judge cX6_judge 2 (some .int) ∈ q_WU := q_tab3 _ (List.mem_of_getElem? (i := 208) rfl) rfl
theorem q_w704 : Cond.instanceMethod yX6_judge ∈ q_WU := q_tab3 _ (List.mem_of_getElem? (i := 206) rfl) rfl
theorem q_w705 : Cond.selects RX6 yX6_judge yX6_judge ∈ q_WU := q_tab3 _ (List.mem_of_getElem? (i := 207) rfl) rfl
theorem q_w706 : Cond.methodLink RX6 172 yX6_add ∈ q_WU := q_tab4 _ (List.mem_of_getElem? (i := 2) rfl) rfl
theorem q_w707 : Cond.code yX6_add cX6_add 5 none ∈ q_WU := q_tab4 _ (List.mem_of_getElem? (i := 5) rfl) rfl
theorem q_w708 : Cond.instanceMethod yX6_add ∈ q_WU := q_tab4 _ (List.mem_of_getElem? (i := 3) rfl) rfl
theorem q_w709 : Cond.selects RX6 yX6_add yX6_add ∈ q_WU := q_tab4 _ (List.mem_of_getElem? (i := 4) rfl) rfl
theorem q_w710 : Cond.methodLink RX6 176 yX6_subtract ∈ q_WU := q_tab4 _ (List.mem_of_getElem? (i := 10) rfl) rfl
theorem q_w711 : Cond.code yX6_subtract cX6_subtract 5 none ∈ q_WU := q_tab4 _ (List.mem_of_getElem? (i := 13) rfl) rfl
theorem q_w712 : Cond.instanceMethod yX6_subtract ∈ q_WU := q_tab4 _ (List.mem_of_getElem? (i := 11) rfl) rfl
theorem q_w713 : Cond.selects RX6 yX6_subtract yX6_subtract ∈ q_WU := q_tab4 _ (List.mem_of_getElem? (i := 12) rfl) rfl
theorem q_w714 : Cond.methodLink RX6 179 yX6_match ∈ q_WU := q_tab4 _ (List.mem_of_getElem? (i := 14) rfl) rfl
theorem q_w715 : Cond.code yX6_match cX6_match 3 none ∈ q_WU := q_tab4 _ (List.mem_of_getElem? (i := 17) rfl) rfl
theorem q_w716 : Cond.instanceMethod yX6_match ∈ q_WU := q_tab4 _ (List.mem_of_getElem? (i := 15) rfl) rfl
theorem q_w717 : Cond.selects RX6 yX6_match yX6_match ∈ q_WU := q_tab4 _ (List.mem_of_getElem? (i := 16) rfl) rfl
theorem q_w718 : Cond.methodLink RX6 182 yX6_addBinary ∈ q_WU := q_tab4 _ (List.mem_of_getElem? (i := 6) rfl) rfl
theorem q_w719 : Cond.code yX6_addBinary cX6_addBinary 3 none ∈ q_WU := q_tab4 _ (List.mem_of_getElem? (i := 9) rfl) rfl
theorem q_w720 : Cond.instanceMethod yX6_addBinary ∈ q_WU := q_tab4 _ (List.mem_of_getElem? (i := 7) rfl) rfl
theorem q_w721 : Cond.selects RX6 yX6_addBinary yX6_addBinary ∈ q_WU := q_tab4 _ (List.mem_of_getElem? (i := 8) rfl) rfl
theorem q_w722 : Cond.methodLink RX6 185 yX6_move ∈ q_WU := q_tab3 _ (List.mem_of_getElem? (i := 201) rfl) rfl
theorem q_w723 : Cond.code yX6_move cX6_move 2 none ∈ q_WU := q_tab3 _ (List.mem_of_getElem? (i := 204) rfl) rfl
theorem q_w724 : Cond.instanceMethod yX6_move ∈ q_WU := q_tab3 _ (List.mem_of_getElem? (i := 202) rfl) rfl
theorem q_w725 : Cond.selects RX6 yX6_move yX6_move ∈ q_WU := q_tab3 _ (List.mem_of_getElem? (i := 203) rfl) rfl
theorem q_w726 : Cond.methodLink RX6 188 yX6_changeFlag ∈ q_WU := q_tab3 _ (List.mem_of_getElem? (i := 209) rfl) rfl
theorem q_w727 : Cond.code yX6_changeFlag cX6_changeFlag 2 none ∈ q_WU := q_tab3 _ (List.mem_of_getElem? (i := 212) rfl) rfl
theorem q_w728 : Cond.instanceMethod yX6_changeFlag ∈ q_WU := q_tab3 _ (List.mem_of_getElem? (i := 210) rfl) rfl
theorem q_w729 : Cond.selects RX6 yX6_changeFlag yX6_changeFlag ∈ q_WU := q_tab3 _ (List.mem_of_getElem? (i := 211) rfl) rfl
theorem q_w730 : Cond.methodLink RX6 191 yX6_shift ∈ q_WU := q_tab3 _ (List.mem_of_getElem? (i := 217) rfl) rfl
theorem q_w731 : Cond.code yX6_shift cX6_shift 3 none ∈ q_WU := q_tab3 _ (List.mem_of_getElem? (i := 220) rfl) rfl
theorem q_w732 : Cond.instanceMethod yX6_shift ∈ q_WU := q_tab3 _ (List.mem_of_getElem? (i := 218) rfl) rfl
theorem q_w733 : Cond.selects RX6 yX6_shift yX6_shift ∈ q_WU := q_tab3 _ (List.mem_of_getElem? (i := 219) rfl) rfl
theorem q_w734 : Cond.methodLink RX6 194 yX6_pull ∈ q_WU := q_tab3 _ (List.mem_of_getElem? (i := 221) rfl) rfl
theorem q_w735 : Cond.code yX6_pull cX6_pull 2 (some .int) ∈ q_WU := q_tab3 _ (List.mem_of_getElem? (i := 224) rfl) rfl
theorem q_w736 : Cond.instanceMethod yX6_pull ∈ q_WU := q_tab3 _ (List.mem_of_getElem? (i := 222) rfl) rfl
theorem q_w737 : Cond.selects RX6 yX6_pull yX6_pull ∈ q_WU := q_tab3 _ (List.mem_of_getElem? (i := 223) rfl) rfl
theorem q_w738 : Cond.methodLink RX6 197 yX6_pullWord ∈ q_WU := q_tab3 _ (List.mem_of_getElem? (i := 230) rfl) rfl
theorem q_w739 : Cond.code yX6_pullWord cX6_pullWord 3 (some .int) ∈ q_WU := q_tab3 _ (List.mem_of_getElem? (i := 233) rfl) rfl
theorem q_w740 : Cond.instanceMethod yX6_pullWord ∈ q_WU := q_tab3 _ (List.mem_of_getElem? (i := 231) rfl) rfl
theorem q_w741 : Cond.selects RX6 yX6_pullWord yX6_pullWord ∈ q_WU := q_tab3 _ (List.mem_of_getElem? (i := 232) rfl) rfl
theorem q_w742 : Cond.methodLink RX6 200 yX6_wordInPage ∈ q_WU := q_tab3 _ (List.mem_of_getElem? (i := 234) rfl) rfl
theorem q_w743 : Cond.code yX6_wordInPage cX6_wordInPage 4 (some .int) ∈ q_WU := q_tab3 _ (List.mem_of_getElem? (i := 237) rfl) rfl
theorem q_w744 : Cond.instanceMethod yX6_wordInPage ∈ q_WU := q_tab3 _ (List.mem_of_getElem? (i := 235) rfl) rfl
theorem q_w745 : Cond.selects RX6 yX6_wordInPage yX6_wordInPage ∈ q_WU := q_tab3 _ (List.mem_of_getElem? (i := 236) rfl) rfl
theorem q_w746 : Cond.methodLink RX10 3 objectInit ∈ q_WU := q_tab2 _ (List.mem_of_getElem? (i := 0) rfl) rfl
theorem q_w747 : Cond.fieldLink RX10 11 "Rasterbox$Voices" "phases" "[I" ∈ q_WU := q_tab2 _ (List.mem_of_getElem? (i := 1) rfl) rfl
theorem q_w748 : Cond.fieldLink RX10 15 "Rasterbox$Voices" "levels" "[I" ∈ q_WU := q_tab2 _ (List.mem_of_getElem? (i := 2) rfl) rfl
theorem q_w749 : Cond.fieldLink RX10 18 "Rasterbox$Voices" "waits" "[I" ∈ q_WU := q_tab2 _ (List.mem_of_getElem? (i := 4) rfl) rfl
theorem q_w750 : Cond.fieldLink RX10 21 "Rasterbox$Voices" "noises" "[I" ∈ q_WU := q_tab2 _ (List.mem_of_getElem? (i := 5) rfl) rfl
theorem q_w751 : Cond.fieldLink RX10 24 "Rasterbox$Voices" "samples" "[I" ∈ q_WU := q_tab2 _ (List.mem_of_getElem? (i := 6) rfl) rfl
theorem q_w752 : Cond.methodLink RX10 27 arraycopyName ∈ q_WU := q_tab4 _ (List.mem_of_getElem? (i := 140) rfl) rfl
theorem q_w753 : Cond.methodLink RX10 33 yX10_turn ∈ q_WU := q_tab3 _ (List.mem_of_getElem? (i := 104) rfl) rfl
theorem q_w754 : Cond.code yX10_turn cX10_turn 6 none ∈ q_WU := q_tab3 _ (List.mem_of_getElem? (i := 107) rfl) rfl
theorem q_w755 : Cond.instanceMethod yX10_turn ∈ q_WU := q_tab3 _ (List.mem_of_getElem? (i := 105) rfl) rfl
theorem q_w756 : Cond.selects RX10 yX10_turn yX10_turn ∈ q_WU := q_tab3 _ (List.mem_of_getElem? (i := 106) rfl) rfl
theorem q_w757 : Cond.methodLink RX10 37 yX10_swell ∈ q_WU := q_tab3 _ (List.mem_of_getElem? (i := 110) rfl) rfl
theorem q_w758 : Cond.code yX10_swell cX10_swell 4 none ∈ q_WU := q_tab3 _ (List.mem_of_getElem? (i := 113) rfl) rfl
theorem q_w759 : Cond.instanceMethod yX10_swell ∈ q_WU := q_tab3 _ (List.mem_of_getElem? (i := 111) rfl) rfl
theorem q_w760 : Cond.selects RX10 yX10_swell yX10_swell ∈ q_WU := q_tab3 _ (List.mem_of_getElem? (i := 112) rfl) rfl
theorem q_w761 : Cond.methodLink RX10 41 yX10_outputOf ∈ q_WU := q_tab3 _ (List.mem_of_getElem? (i := 114) rfl) rfl
theorem q_w762 : Cond.code yX10_outputOf cX10_outputOf 6 (some .int) ∈ q_WU := q_tab3 _ (List.mem_of_getElem? (i := 117) rfl) rfl
theorem q_w763 : Cond.instanceMethod yX10_outputOf ∈ q_WU := q_tab3 _ (List.mem_of_getElem? (i := 115) rfl) rfl
theorem q_w764 : Cond.selects RX10 yX10_outputOf yX10_outputOf ∈ q_WU := q_tab3 _ (List.mem_of_getElem? (i := 116) rfl) rfl
theorem q_w765 : Cond.constant RX10 45 (65536) ∈ q_WU := q_tab3 _ (List.mem_of_getElem? (i := 108) rfl) rfl
theorem q_w766 : Cond.constant RX10 46 (65535) ∈ q_WU := q_tab3 _ (List.mem_of_getElem? (i := 109) rfl) rfl
theorem q_w767 : Cond.methodLink RX10 47 yX10_waveOf ∈ q_WU := q_tab3 _ (List.mem_of_getElem? (i := 118) rfl) rfl
theorem q_w768 : Cond.code yX10_waveOf cX10_waveOf 3 (some .int) ∈ q_WU := q_tab3 _ (List.mem_of_getElem? (i := 120) rfl) rfl
theorem q_w769 : Cond.static yX10_waveOf ∈ q_WU := q_tab3 _ (List.mem_of_getElem? (i := 119) rfl) rfl
theorem q_w770 : Cond.constant RX10 51 (32768) ∈ q_WU := q_tab3 _ (List.mem_of_getElem? (i := 121) rfl) rfl
theorem q_w771 : Cond.methodLink RX9 3 objectInit ∈ q_WU := q_tab1 _ (List.mem_of_getElem? (i := 80) rfl) rfl
theorem q_w772 : Cond.fieldLink RX9 9 "Rasterbox$Tape" "lengths" "[I" ∈ q_WU := q_tab1 _ (List.mem_of_getElem? (i := 81) rfl) rfl
theorem q_w773 : Cond.methodLink RX9 15 arraycopyName ∈ q_WU := q_tab4 _ (List.mem_of_getElem? (i := 120) rfl) rfl
theorem q_w774 : Cond.fieldLink RX9 21 "Rasterbox$Tape" "count" "I" ∈ q_WU := q_tab1 _ (List.mem_of_getElem? (i := 82) rfl) rfl
theorem q_w775 : Cond.fieldLink RX9 25 "Rasterbox$Tape" "over" "I" ∈ q_WU := q_tab1 _ (List.mem_of_getElem? (i := 85) rfl) rfl
theorem q_w776 : Cond.fieldLink RX9 28 "Rasterbox$Tape" "elapsed" "I" ∈ q_WU := q_tab1 _ (List.mem_of_getElem? (i := 88) rfl) rfl
theorem q_w777 : Cond.fieldLink RX9 31 "Rasterbox$Tape" "level" "I" ∈ q_WU := q_tab1 _ (List.mem_of_getElem? (i := 89) rfl) rfl
theorem q_w778 : Cond.methodLink RX3 1 objectInit ∈ q_WU := q_tab1 _ (List.mem_of_getElem? (i := 107) rfl) rfl
theorem q_w779 : Cond.fieldLink RX3 9 "Rasterbox$Keys" "pressed" "[I" ∈ q_WU := q_tab1 _ (List.mem_of_getElem? (i := 108) rfl) rfl
theorem q_w780 : Cond.fieldLink RX3 13 "Rasterbox$Keys" "seen" "[I" ∈ q_WU := q_tab1 _ (List.mem_of_getElem? (i := 109) rfl) rfl
theorem q_w781 : Cond.methodLink RX3 16 arraycopyName ∈ q_WU := q_tab4 _ (List.mem_of_getElem? (i := 125) rfl) rfl
theorem q_w782 : Cond.fieldLink RX3 22 "Rasterbox$Keys" "stick" "I" ∈ q_WU := q_tab1 _ (List.mem_of_getElem? (i := 112) rfl) rfl
theorem q_w783 : Cond.methodLink RX3 26 yX3_columnsSeen ∈ q_WU := q_tab4 _ (List.mem_of_getElem? (i := 49) rfl) rfl
theorem q_w784 : Cond.code yX3_columnsSeen cX3_columnsSeen 6 (some .int) ∈ q_WU := q_tab4 _ (List.mem_of_getElem? (i := 52) rfl) rfl
theorem q_w785 : Cond.instanceMethod yX3_columnsSeen ∈ q_WU := q_tab4 _ (List.mem_of_getElem? (i := 50) rfl) rfl
theorem q_w786 : Cond.selects RX3 yX3_columnsSeen yX3_columnsSeen ∈ q_WU := q_tab4 _ (List.mem_of_getElem? (i := 51) rfl) rfl
theorem q_w787 : Cond.methodLink RX7 3 objectInit ∈ q_WU := q_tab2 _ (List.mem_of_getElem? (i := 46) rfl) rfl
theorem q_w788 : Cond.classLink RX7 9 RX4 ∈ q_WU := q_tab2 _ (List.mem_of_getElem? (i := 47) rfl) rfl
theorem q_w789 : Cond.fieldLink RX7 12 "Rasterbox$Recording" "machine" "LRasterbox$Machine;" ∈ q_WU := q_tab2 _ (List.mem_of_getElem? (i := 49) rfl) rfl
theorem q_w790 : Cond.fieldLink RX7 18 "Rasterbox$Recording" "kinds" "[I" ∈ q_WU := q_tab2 _ (List.mem_of_getElem? (i := 51) rfl) rfl
theorem q_w791 : Cond.fieldLink RX7 22 "Rasterbox$Recording" "firsts" "[I" ∈ q_WU := q_tab2 _ (List.mem_of_getElem? (i := 53) rfl) rfl
theorem q_w792 : Cond.fieldLink RX7 25 "Rasterbox$Recording" "seconds" "[I" ∈ q_WU := q_tab2 _ (List.mem_of_getElem? (i := 55) rfl) rfl
theorem q_w793 : Cond.fieldLink RX7 28 "Rasterbox$Recording" "thirds" "[I" ∈ q_WU := q_tab2 _ (List.mem_of_getElem? (i := 57) rfl) rfl
theorem q_w794 : Cond.methodLink RX7 31 yX4_become ∈ q_WU := q_tab4 _ (List.mem_of_getElem? (i := 106) rfl) rfl
theorem q_w795 : Cond.fieldLink RX7 35 "Rasterbox$Recording" "count" "I" ∈ q_WU := q_tab2 _ (List.mem_of_getElem? (i := 59) rfl) rfl
theorem q_w796 : Cond.fieldLink RX7 39 "Rasterbox$Recording" "played" "I" ∈ q_WU := q_tab2 _ (List.mem_of_getElem? (i := 61) rfl) rfl
theorem q_w797 : Cond.fieldLink RX7 42 "Rasterbox$Recording" "isOn" "Z" ∈ q_WU := q_tab2 _ (List.mem_of_getElem? (i := 63) rfl) rfl
theorem q_w798 : Cond.methodLink RX1 11 yX1_isChanging ∈ q_WU := q_tab3 _ (List.mem_of_getElem? (i := 170) rfl) rfl
theorem q_w799 : Cond.methodLink RX1 15 yX1_operationOf ∈ q_WU := q_tab2 _ (List.mem_of_getElem? (i := 203) rfl) rfl
theorem q_w800 : Cond.fieldLink RX1 19 "Rasterbox$Codes" "MODE_CYCLES" "[I" ∈ q_WU := q_tab3 _ (List.mem_of_getElem? (i := 176) rfl) rfl
theorem q_w801 : Cond.fieldLink RX1 23 "Rasterbox$Codes" "SPECIAL_CYCLES" "[I" ∈ q_WU := q_tab3 _ (List.mem_of_getElem? (i := 157) rfl) rfl
theorem q_w802 : Cond.methodLink RX1 30 yJ0_length_8abf5 ∈ q_WU := q_tab6 _ (List.mem_of_getElem? (i := 137) rfl) rfl
theorem q_w803 : Cond.code yJ0_length_8abf5 cJ0_length_8abf5 1 (some .int) ∈ q_WU := q_tab5 _ (List.mem_of_getElem? (i := 169) rfl) rfl
theorem q_w804 : Cond.instanceMethod yJ0_length_8abf5 ∈ q_WU := q_tab5 _ (List.mem_of_getElem? (i := 167) rfl) rfl
theorem q_w805 : Cond.selects RJ0 yJ0_length_8abf5 yJ0_length_8abf5 ∈ q_WU := q_tab5 _ (List.mem_of_getElem? (i := 168) rfl) rfl
theorem q_w806 : Cond.initialized RJ0 ∈ q_WU := q_tab1 _ (List.mem_of_getElem? (i := 13) rfl) rfl
theorem q_w807 : Cond.methodLink RX1 38 yJ4_append_15ec4 ∈ q_WU := q_tab6 _ (List.mem_of_getElem? (i := 139) rfl) rfl
theorem q_w808 : Cond.code yJ4_append_15ec4 cJ4_append_15ec4 2 (some (.object "java/lang/StringBuilder")) ∈ q_WU := q_tab5 _ (List.mem_of_getElem? (i := 94) rfl) rfl
theorem q_w809 : Cond.instanceMethod yJ4_append_15ec4 ∈ q_WU := q_tab5 _ (List.mem_of_getElem? (i := 92) rfl) rfl
theorem q_w810 : Cond.selects RJ4 yJ4_append_15ec4 yJ4_append_15ec4 ∈ q_WU := q_tab5 _ (List.mem_of_getElem? (i := 93) rfl) rfl
theorem q_w811 : Cond.methodLink RX1 44 yJ0_charAt_5068e ∈ q_WU := q_tab6 _ (List.mem_of_getElem? (i := 140) rfl) rfl
theorem q_w812 : Cond.code yJ0_charAt_5068e cJ0_charAt_5068e 2 (some .char) ∈ q_WU := q_tab6 _ (List.mem_of_getElem? (i := 143) rfl) rfl
theorem q_w813 : Cond.instanceMethod yJ0_charAt_5068e ∈ q_WU := q_tab6 _ (List.mem_of_getElem? (i := 141) rfl) rfl
theorem q_w814 : Cond.selects RJ0 yJ0_charAt_5068e yJ0_charAt_5068e ∈ q_WU := q_tab6 _ (List.mem_of_getElem? (i := 142) rfl) rfl
theorem q_w815 : Cond.methodLink RX1 48 yJ4_append_cf468 ∈ q_WU := q_tab6 _ (List.mem_of_getElem? (i := 155) rfl) rfl
theorem q_w816 : Cond.code yJ4_append_cf468 cJ4_append_cf468 2 (some (.object "java/lang/StringBuilder")) ∈ q_WU := q_tab6 _ (List.mem_of_getElem? (i := 113) rfl) rfl
theorem q_w817 : Cond.instanceMethod yJ4_append_cf468 ∈ q_WU := q_tab6 _ (List.mem_of_getElem? (i := 111) rfl) rfl
theorem q_w818 : Cond.selects RJ4 yJ4_append_cf468 yJ4_append_cf468 ∈ q_WU := q_tab6 _ (List.mem_of_getElem? (i := 112) rfl) rfl
theorem q_w819 : Cond.methodLink RX5 9 yX0_read ∈ q_WU := q_tab5 _ (List.mem_of_getElem? (i := 74) rfl) rfl
theorem q_w820 : Cond.methodLink RX5 15 yX1_lengthOf ∈ q_WU := q_tab5 _ (List.mem_of_getElem? (i := 75) rfl) rfl
theorem q_w821 : Cond.methodLink RX5 20 yJ4_setLength_d00df ∈ q_WU := q_tab5 _ (List.mem_of_getElem? (i := 76) rfl) rfl
theorem q_w822 : Cond.code yJ4_setLength_d00df cJ4_setLength_d00df 2 none ∈ q_WU := q_tab5 _ (List.mem_of_getElem? (i := 79) rfl) rfl
theorem q_w823 : Cond.instanceMethod yJ4_setLength_d00df ∈ q_WU := q_tab5 _ (List.mem_of_getElem? (i := 77) rfl) rfl
theorem q_w824 : Cond.selects RJ4 yJ4_setLength_d00df yJ4_setLength_d00df ∈ q_WU := q_tab5 _ (List.mem_of_getElem? (i := 78) rfl) rfl
theorem q_w825 : Cond.methodLink RX5 26 yJ4_append_bf812 ∈ q_WU := q_tab6 _ (List.mem_of_getElem? (i := 109) rfl) rfl
theorem q_w826 : Cond.code yJ4_append_bf812 cJ4_append_bf812 2 (some (.object "java/lang/StringBuilder")) ∈ q_WU := q_tab5 _ (List.mem_of_getElem? (i := 212) rfl) rfl
theorem q_w827 : Cond.instanceMethod yJ4_append_bf812 ∈ q_WU := q_tab5 _ (List.mem_of_getElem? (i := 210) rfl) rfl
theorem q_w828 : Cond.selects RJ4 yJ4_append_bf812 yJ4_append_bf812 ∈ q_WU := q_tab5 _ (List.mem_of_getElem? (i := 211) rfl) rfl
theorem q_w829 : Cond.methodLink RX5 30 yJ4_append_cf468 ∈ q_WU := q_tab6 _ (List.mem_of_getElem? (i := 110) rfl) rfl
theorem q_w830 : Cond.methodLink RX5 33 yX1_appendName ∈ q_WU := q_tab6 _ (List.mem_of_getElem? (i := 132) rfl) rfl
theorem q_w831 : Cond.code yX1_appendName cX1_appendName 6 none ∈ q_WU := q_tab6 _ (List.mem_of_getElem? (i := 134) rfl) rfl
theorem q_w832 : Cond.static yX1_appendName ∈ q_WU := q_tab6 _ (List.mem_of_getElem? (i := 133) rfl) rfl
theorem q_w833 : Cond.methodLink RX5 37 yX1_isBranch ∈ q_WU := q_tab6 _ (List.mem_of_getElem? (i := 156) rfl) rfl
theorem q_w834 : Cond.methodLink RX5 41 yX1_targetOf ∈ q_WU := q_tab6 _ (List.mem_of_getElem? (i := 157) rfl) rfl
theorem q_w835 : Cond.methodLink RX5 45 yX0_readWord ∈ q_WU := q_tab6 _ (List.mem_of_getElem? (i := 158) rfl) rfl
theorem q_w836 : Cond.methodLink RX5 48 yX5_layoutOf ∈ q_WU := q_tab6 _ (List.mem_of_getElem? (i := 159) rfl) rfl
theorem q_w837 : Cond.code yX5_layoutOf cX5_layoutOf 1 (some .int) ∈ q_WU := q_tab6 _ (List.mem_of_getElem? (i := 161) rfl) rfl
theorem q_w838 : Cond.static yX5_layoutOf ∈ q_WU := q_tab6 _ (List.mem_of_getElem? (i := 160) rfl) rfl
theorem q_w839 : Cond.methodLink RX5 53 yX5_appendOperand ∈ q_WU := q_tab6 _ (List.mem_of_getElem? (i := 163) rfl) rfl
theorem q_w840 : Cond.code yX5_appendOperand cX5_appendOperand 3 none ∈ q_WU := q_tab6 _ (List.mem_of_getElem? (i := 165) rfl) rfl
theorem q_w841 : Cond.static yX5_appendOperand ∈ q_WU := q_tab6 _ (List.mem_of_getElem? (i := 164) rfl) rfl
theorem q_w842 : Cond.methodLink RX5 57 yX1_operationOf ∈ q_WU := q_tab6 _ (List.mem_of_getElem? (i := 162) rfl) rfl
theorem q_w843 : Cond.methodLink RX5 62 yJ4_append_15ec4 ∈ q_WU := q_tab6 _ (List.mem_of_getElem? (i := 167) rfl) rfl
theorem q_w844 : Cond.methodLink RX12 1 objectInit ∈ q_WU := q_tab7 _ (List.mem_of_getElem? (i := 163) rfl) rfl
theorem q_w845 : Cond.fieldLink RX12 7 "RasterboxModel" "ram" "[I" ∈ q_WU := q_tab7 _ (List.mem_of_getElem? (i := 164) rfl) rfl
theorem q_w846 : Cond.fieldLink RX12 13 "RasterboxModel" "rom" "[I" ∈ q_WU := q_tab7 _ (List.mem_of_getElem? (i := 165) rfl) rfl
theorem q_w847 : Cond.fieldLink RX12 16 "RasterboxModel" "cartridge" "[I" ∈ q_WU := q_tab7 _ (List.mem_of_getElem? (i := 166) rfl) rfl
theorem q_w848 : Cond.fieldLink RX12 19 "RasterboxModel" "registers" "[I" ∈ q_WU := q_tab7 _ (List.mem_of_getElem? (i := 167) rfl) rfl
theorem q_w849 : Cond.fieldLink RX12 22 "RasterboxModel" "pixels" "[I" ∈ q_WU := q_tab7 _ (List.mem_of_getElem? (i := 168) rfl) rfl
theorem q_w850 : Cond.fieldLink RX12 25 "RasterboxModel" "samples" "[I" ∈ q_WU := q_tab7 _ (List.mem_of_getElem? (i := 169) rfl) rfl
theorem q_w851 : Cond.arrayClass .boolean ∈ q_WU := q_tab8 _ (List.mem_of_getElem? (i := 45) rfl) rfl
theorem q_w852 : Cond.fieldLink RX12 28 "RasterboxModel" "keys" "[Z" ∈ q_WU := q_tab7 _ (List.mem_of_getElem? (i := 170) rfl) rfl
theorem q_w853 : Cond.fieldLink RX12 32 "RasterboxModel" "pulses" "[I" ∈ q_WU := q_tab7 _ (List.mem_of_getElem? (i := 171) rfl) rfl
theorem q_w854 : Cond.fieldLink RX12 35 "RasterboxModel" "trace" "[I" ∈ q_WU := q_tab7 _ (List.mem_of_getElem? (i := 172) rfl) rfl
theorem q_w855 : Cond.fieldLink RX12 38 "RasterboxModel" "phases" "[I" ∈ q_WU := q_tab7 _ (List.mem_of_getElem? (i := 173) rfl) rfl
theorem q_w856 : Cond.fieldLink RX12 41 "RasterboxModel" "levels" "[I" ∈ q_WU := q_tab7 _ (List.mem_of_getElem? (i := 174) rfl) rfl
theorem q_w857 : Cond.fieldLink RX12 44 "RasterboxModel" "waits" "[I" ∈ q_WU := q_tab7 _ (List.mem_of_getElem? (i := 175) rfl) rfl
theorem q_w858 : Cond.fieldLink RX12 47 "RasterboxModel" "noises" "[I" ∈ q_WU := q_tab7 _ (List.mem_of_getElem? (i := 176) rfl) rfl
theorem q_w859 : Cond.fieldLink RX12 50 "RasterboxModel" "numbers" "[I" ∈ q_WU := q_tab7 _ (List.mem_of_getElem? (i := 177) rfl) rfl
theorem q_w860 : Cond.fieldLink RX12 53 "RasterboxModel" "flags" "[Z" ∈ q_WU := q_tab7 _ (List.mem_of_getElem? (i := 178) rfl) rfl
theorem q_w861 : Cond.fieldLink RX12 56 "RasterboxModel" "savedRam" "[I" ∈ q_WU := q_tab7 _ (List.mem_of_getElem? (i := 182) rfl) rfl
theorem q_w862 : Cond.fieldLink RX12 59 "RasterboxModel" "savedRom" "[I" ∈ q_WU := q_tab7 _ (List.mem_of_getElem? (i := 183) rfl) rfl
theorem q_w863 : Cond.fieldLink RX12 62 "RasterboxModel" "savedCartridge" "[I" ∈ q_WU := q_tab7 _ (List.mem_of_getElem? (i := 184) rfl) rfl
theorem q_w864 : Cond.fieldLink RX12 65 "RasterboxModel" "savedRegisters" "[I" ∈ q_WU := q_tab7 _ (List.mem_of_getElem? (i := 185) rfl) rfl
theorem q_w865 : Cond.fieldLink RX12 68 "RasterboxModel" "savedPixels" "[I" ∈ q_WU := q_tab7 _ (List.mem_of_getElem? (i := 186) rfl) rfl
theorem q_w866 : Cond.fieldLink RX12 71 "RasterboxModel" "savedSamples" "[I" ∈ q_WU := q_tab7 _ (List.mem_of_getElem? (i := 187) rfl) rfl
theorem q_w867 : Cond.fieldLink RX12 74 "RasterboxModel" "savedKeys" "[Z" ∈ q_WU := q_tab7 _ (List.mem_of_getElem? (i := 188) rfl) rfl
theorem q_w868 : Cond.fieldLink RX12 77 "RasterboxModel" "savedPulses" "[I" ∈ q_WU := q_tab7 _ (List.mem_of_getElem? (i := 189) rfl) rfl
theorem q_w869 : Cond.fieldLink RX12 80 "RasterboxModel" "savedTrace" "[I" ∈ q_WU := q_tab7 _ (List.mem_of_getElem? (i := 190) rfl) rfl
theorem q_w870 : Cond.fieldLink RX12 83 "RasterboxModel" "savedPhases" "[I" ∈ q_WU := q_tab7 _ (List.mem_of_getElem? (i := 191) rfl) rfl
theorem q_w871 : Cond.fieldLink RX12 86 "RasterboxModel" "savedLevels" "[I" ∈ q_WU := q_tab7 _ (List.mem_of_getElem? (i := 192) rfl) rfl
theorem q_w872 : Cond.fieldLink RX12 89 "RasterboxModel" "savedWaits" "[I" ∈ q_WU := q_tab7 _ (List.mem_of_getElem? (i := 193) rfl) rfl
theorem q_w873 : Cond.fieldLink RX12 92 "RasterboxModel" "savedNoises" "[I" ∈ q_WU := q_tab7 _ (List.mem_of_getElem? (i := 194) rfl) rfl
theorem q_w874 : Cond.fieldLink RX12 95 "RasterboxModel" "savedNumbers" "[I" ∈ q_WU := q_tab7 _ (List.mem_of_getElem? (i := 195) rfl) rfl
theorem q_w875 : Cond.fieldLink RX12 98 "RasterboxModel" "savedFlags" "[Z" ∈ q_WU := q_tab7 _ (List.mem_of_getElem? (i := 196) rfl) rfl
theorem q_w876 : Cond.arrayClass .long ∈ q_WU := q_tab8 _ (List.mem_of_getElem? (i := 46) rfl) rfl
theorem q_w877 : Cond.fieldLink RX12 101 "RasterboxModel" "savedCycles" "[J" ∈ q_WU := q_tab7 _ (List.mem_of_getElem? (i := 197) rfl) rfl
theorem q_w878 : Cond.fieldLink RX12 105 "RasterboxModel" "recorded" "I" ∈ q_WU := q_tab7 _ (List.mem_of_getElem? (i := 198) rfl) rfl
theorem q_w879 : Cond.arrayClass .char ∈ q_WU := q_tab8 _ (List.mem_of_getElem? (i := 47) rfl) rfl
theorem q_w880 : Cond.fieldLink RX12 109 "RasterboxModel" "line" "[C" ∈ q_WU := q_tab7 _ (List.mem_of_getElem? (i := 200) rfl) rfl
theorem q_w881 : Cond.fieldLink RX12 113 "RasterboxModel" "live" "[Z" ∈ q_WU := q_tab7 _ (List.mem_of_getElem? (i := 201) rfl) rfl
theorem q_w882 : Cond.fieldLink RX12 116 "RasterboxModel" "code" "I" ∈ q_WU := q_tab7 _ (List.mem_of_getElem? (i := 203) rfl) rfl
theorem q_w883 : Cond.methodLink RX12 119 yX12_in ∈ q_WU := q_tab8 _ (List.mem_of_getElem? (i := 59) rfl) rfl
theorem q_w884 : Cond.code yX12_in cX12_in 3 (some .boolean) ∈ q_WU := q_tab8 _ (List.mem_of_getElem? (i := 61) rfl) rfl
theorem q_w885 : Cond.static yX12_in ∈ q_WU := q_tab8 _ (List.mem_of_getElem? (i := 60) rfl) rfl
theorem q_w886 : Cond.initialized RX12 ∈ q_WU := q_tab1 _ (List.mem_of_getElem? (i := 15) rfl) rfl
theorem q_w887 : Cond.fieldLink RX12 123 "RasterboxModel" "cycle" "J" ∈ q_WU := q_tab7 _ (List.mem_of_getElem? (i := 179) rfl) rfl
theorem q_w888 : Cond.constantLong RX12 127 (24) ∈ q_WU := q_tab8 _ (List.mem_of_getElem? (i := 81) rfl) rfl
theorem q_w889 : Cond.constantLong RX12 129 (40) ∈ q_WU := q_tab8 _ (List.mem_of_getElem? (i := 82) rfl) rfl
theorem q_w890 : Cond.methodLink RX12 131 yX12_has ∈ q_WU := q_tab8 _ (List.mem_of_getElem? (i := 87) rfl) rfl
theorem q_w891 : Cond.code yX12_has cX12_has 2 (some .boolean) ∈ q_WU := q_tab8 _ (List.mem_of_getElem? (i := 89) rfl) rfl
theorem q_w892 : Cond.static yX12_has ∈ q_WU := q_tab8 _ (List.mem_of_getElem? (i := 88) rfl) rfl
theorem q_w893 : Cond.methodLink RX12 135 yX12_lineNow ∈ q_WU := q_tab8 _ (List.mem_of_getElem? (i := 77) rfl) rfl
theorem q_w894 : Cond.code yX12_lineNow cX12_lineNow 1 (some .int) ∈ q_WU := q_tab8 _ (List.mem_of_getElem? (i := 80) rfl) rfl
theorem q_w895 : Cond.instanceMethod yX12_lineNow ∈ q_WU := q_tab8 _ (List.mem_of_getElem? (i := 79) rfl) rfl
theorem q_w896 : Cond.selects RX12 yX12_lineNow yX12_lineNow ∈ q_WU := q_priv1 _ (List.mem_map.mpr ⟨_, List.mem_of_getElem? (i := 5) rfl, rfl⟩) rfl
theorem q_w897 : Cond.methodLink RX12 139 yX12_seenColumns ∈ q_WU := q_tab8 _ (List.mem_of_getElem? (i := 83) rfl) rfl
theorem q_w898 : Cond.code yX12_seenColumns cX12_seenColumns 5 (some .int) ∈ q_WU := q_tab8 _ (List.mem_of_getElem? (i := 86) rfl) rfl
theorem q_w899 : Cond.instanceMethod yX12_seenColumns ∈ q_WU := q_tab8 _ (List.mem_of_getElem? (i := 85) rfl) rfl
theorem q_w900 : Cond.selects RX12 yX12_seenColumns yX12_seenColumns ∈ q_WU := q_priv1 _ (List.mem_map.mpr ⟨_, List.mem_of_getElem? (i := 6) rfl, rfl⟩) rfl
theorem q_w901 : Cond.methodLink RX12 143 yX12_hasPulse ∈ q_WU := q_tab8 _ (List.mem_of_getElem? (i := 90) rfl) rfl
theorem q_w902 : Cond.code yX12_hasPulse cX12_hasPulse 1 (some .boolean) ∈ q_WU := q_tab8 _ (List.mem_of_getElem? (i := 93) rfl) rfl
theorem q_w903 : Cond.instanceMethod yX12_hasPulse ∈ q_WU := q_tab8 _ (List.mem_of_getElem? (i := 92) rfl) rfl
theorem q_w904 : Cond.selects RX12 yX12_hasPulse yX12_hasPulse ∈ q_WU := q_priv1 _ (List.mem_map.mpr ⟨_, List.mem_of_getElem? (i := 7) rfl, rfl⟩) rfl
theorem q_w905 : Cond.methodLink RX12 147 yX12_bitsOf ∈ q_WU := q_tab8 _ (List.mem_of_getElem? (i := 102) rfl) rfl
theorem q_w906 : Cond.code yX12_bitsOf cX12_bitsOf 1 (some .int) ∈ q_WU := q_tab8 _ (List.mem_of_getElem? (i := 104) rfl) rfl
theorem q_w907 : Cond.static yX12_bitsOf ∈ q_WU := q_tab8 _ (List.mem_of_getElem? (i := 103) rfl) rfl
theorem q_w908 : Cond.methodLink RX12 150 yX12_readRegister ∈ q_WU := q_tab8 _ (List.mem_of_getElem? (i := 73) rfl) rfl
theorem q_w909 : Cond.code yX12_readRegister cX12_readRegister 2 (some .int) ∈ q_WU := q_tab8 _ (List.mem_of_getElem? (i := 76) rfl) rfl
theorem q_w910 : Cond.instanceMethod yX12_readRegister ∈ q_WU := q_tab8 _ (List.mem_of_getElem? (i := 75) rfl) rfl
theorem q_w911 : Cond.selects RX12 yX12_readRegister yX12_readRegister ∈ q_WU := q_priv1 _ (List.mem_map.mpr ⟨_, List.mem_of_getElem? (i := 4) rfl, rfl⟩) rfl
theorem q_w912 : Cond.methodLink RX12 153 yX12_writeRegister ∈ q_WU := q_tab8 _ (List.mem_of_getElem? (i := 98) rfl) rfl
theorem q_w913 : Cond.code yX12_writeRegister cX12_writeRegister 5 none ∈ q_WU := q_tab8 _ (List.mem_of_getElem? (i := 101) rfl) rfl
theorem q_w914 : Cond.instanceMethod yX12_writeRegister ∈ q_WU := q_tab8 _ (List.mem_of_getElem? (i := 100) rfl) rfl
theorem q_w915 : Cond.selects RX12 yX12_writeRegister yX12_writeRegister ∈ q_WU := q_priv1 _ (List.mem_map.mpr ⟨_, List.mem_of_getElem? (i := 9) rfl, rfl⟩) rfl
theorem q_w916 : Cond.methodLink RX12 157 yX12_isNoAddress ∈ q_WU := q_tab8 _ (List.mem_of_getElem? (i := 56) rfl) rfl
theorem q_w917 : Cond.code yX12_isNoAddress cX12_isNoAddress 1 (some .boolean) ∈ q_WU := q_tab8 _ (List.mem_of_getElem? (i := 58) rfl) rfl
theorem q_w918 : Cond.static yX12_isNoAddress ∈ q_WU := q_tab8 _ (List.mem_of_getElem? (i := 57) rfl) rfl
theorem q_w919 : Cond.methodLink RX12 161 yX12_isNoByte ∈ q_WU := q_tab8 _ (List.mem_of_getElem? (i := 62) rfl) rfl
theorem q_w920 : Cond.code yX12_isNoByte cX12_isNoByte 1 (some .boolean) ∈ q_WU := q_tab8 _ (List.mem_of_getElem? (i := 64) rfl) rfl
theorem q_w921 : Cond.static yX12_isNoByte ∈ q_WU := q_tab8 _ (List.mem_of_getElem? (i := 63) rfl) rfl
theorem q_w922 : Cond.methodLink RX12 164 yX12_fails ∈ q_WU := q_tab8 _ (List.mem_of_getElem? (i := 65) rfl) rfl
theorem q_w923 : Cond.code yX12_fails cX12_fails 2 (some .boolean) ∈ q_WU := q_tab8 _ (List.mem_of_getElem? (i := 68) rfl) rfl
theorem q_w924 : Cond.instanceMethod yX12_fails ∈ q_WU := q_tab8 _ (List.mem_of_getElem? (i := 67) rfl) rfl
theorem q_w925 : Cond.selects RX12 yX12_fails yX12_fails ∈ q_WU := q_priv1 _ (List.mem_map.mpr ⟨_, List.mem_of_getElem? (i := 2) rfl, rfl⟩) rfl
theorem q_w926 : Cond.methodLink RX12 167 yX12_reads ∈ q_WU := q_tab8 _ (List.mem_of_getElem? (i := 69) rfl) rfl
theorem q_w927 : Cond.code yX12_reads cX12_reads 2 (some .int) ∈ q_WU := q_tab8 _ (List.mem_of_getElem? (i := 72) rfl) rfl
theorem q_w928 : Cond.instanceMethod yX12_reads ∈ q_WU := q_tab8 _ (List.mem_of_getElem? (i := 71) rfl) rfl
theorem q_w929 : Cond.selects RX12 yX12_reads yX12_reads ∈ q_WU := q_priv1 _ (List.mem_map.mpr ⟨_, List.mem_of_getElem? (i := 3) rfl, rfl⟩) rfl
theorem q_w930 : Cond.methodLink RX12 170 yX12_writes ∈ q_WU := q_tab8 _ (List.mem_of_getElem? (i := 94) rfl) rfl
theorem q_w931 : Cond.code yX12_writes cX12_writes 3 none ∈ q_WU := q_tab8 _ (List.mem_of_getElem? (i := 97) rfl) rfl
theorem q_w932 : Cond.instanceMethod yX12_writes ∈ q_WU := q_tab8 _ (List.mem_of_getElem? (i := 96) rfl) rfl
theorem q_w933 : Cond.selects RX12 yX12_writes yX12_writes ∈ q_WU := q_priv1 _ (List.mem_map.mpr ⟨_, List.mem_of_getElem? (i := 8) rfl, rfl⟩) rfl
theorem q_w934 : Cond.methodLink RX12 173 yX12_keeps ∈ q_WU := q_tab8 _ (List.mem_of_getElem? (i := 105) rfl) rfl
theorem q_w935 : Cond.code yX12_keeps cX12_keeps 1 none ∈ q_WU := q_tab8 _ (List.mem_of_getElem? (i := 108) rfl) rfl
theorem q_w936 : Cond.instanceMethod yX12_keeps ∈ q_WU := q_tab8 _ (List.mem_of_getElem? (i := 107) rfl) rfl
theorem q_w937 : Cond.selects RX12 yX12_keeps yX12_keeps ∈ q_WU := q_priv1 _ (List.mem_map.mpr ⟨_, List.mem_of_getElem? (i := 10) rfl, rfl⟩) rfl
theorem q_w938 : Cond.methodLink RX12 176 yX12_wrap ∈ q_WU := q_tab8 _ (List.mem_of_getElem? (i := 129) rfl) rfl
theorem q_w939 : Cond.code yX12_wrap cX12_wrap 1 (some .int) ∈ q_WU := q_tab8 _ (List.mem_of_getElem? (i := 131) rfl) rfl
theorem q_w940 : Cond.static yX12_wrap ∈ q_WU := q_tab8 _ (List.mem_of_getElem? (i := 130) rfl) rfl
theorem q_w941 : Cond.methodLink RX12 179 yX12_rowNow ∈ q_WU := q_tab8 _ (List.mem_of_getElem? (i := 144) rfl) rfl
theorem q_w942 : Cond.code yX12_rowNow cX12_rowNow 1 (some .int) ∈ q_WU := q_tab8 _ (List.mem_of_getElem? (i := 147) rfl) rfl
theorem q_w943 : Cond.instanceMethod yX12_rowNow ∈ q_WU := q_tab8 _ (List.mem_of_getElem? (i := 146) rfl) rfl
theorem q_w944 : Cond.selects RX12 yX12_rowNow yX12_rowNow ∈ q_WU := q_priv1 _ (List.mem_map.mpr ⟨_, List.mem_of_getElem? (i := 13) rfl, rfl⟩) rfl
theorem q_w945 : Cond.methodLink RX12 182 yX12_isOn ∈ q_WU := q_tab8 _ (List.mem_of_getElem? (i := 148) rfl) rfl
theorem q_w946 : Cond.code yX12_isOn cX12_isOn 2 (some .boolean) ∈ q_WU := q_tab8 _ (List.mem_of_getElem? (i := 151) rfl) rfl
theorem q_w947 : Cond.instanceMethod yX12_isOn ∈ q_WU := q_tab8 _ (List.mem_of_getElem? (i := 150) rfl) rfl
theorem q_w948 : Cond.selects RX12 yX12_isOn yX12_isOn ∈ q_WU := q_priv1 _ (List.mem_map.mpr ⟨_, List.mem_of_getElem? (i := 14) rfl, rfl⟩) rfl
theorem q_w949 : Cond.methodLink RX12 185 yX12_isAmong ∈ q_WU := q_tab8 _ (List.mem_of_getElem? (i := 152) rfl) rfl
theorem q_w950 : Cond.code yX12_isAmong cX12_isAmong 4 (some .boolean) ∈ q_WU := q_tab8 _ (List.mem_of_getElem? (i := 155) rfl) rfl
theorem q_w951 : Cond.instanceMethod yX12_isAmong ∈ q_WU := q_tab8 _ (List.mem_of_getElem? (i := 154) rfl) rfl
theorem q_w952 : Cond.selects RX12 yX12_isAmong yX12_isAmong ∈ q_WU := q_priv1 _ (List.mem_map.mpr ⟨_, List.mem_of_getElem? (i := 15) rfl, rfl⟩) rfl
theorem q_w953 : Cond.methodLink RX12 188 yX12_pictureAt ∈ q_WU := q_tab8 _ (List.mem_of_getElem? (i := 160) rfl) rfl
theorem q_w954 : Cond.code yX12_pictureAt cX12_pictureAt 7 (some .int) ∈ q_WU := q_tab8 _ (List.mem_of_getElem? (i := 163) rfl) rfl
theorem q_w955 : Cond.instanceMethod yX12_pictureAt ∈ q_WU := q_tab8 _ (List.mem_of_getElem? (i := 162) rfl) rfl
theorem q_w956 : Cond.selects RX12 yX12_pictureAt yX12_pictureAt ∈ q_WU := q_priv2 _ (List.mem_map.mpr ⟨_, List.mem_of_getElem? (i := 1) rfl, rfl⟩) rfl
theorem q_w957 : Cond.methodLink RX12 192 yX12_covers ∈ q_WU := q_tab8 _ (List.mem_of_getElem? (i := 164) rfl) rfl
theorem q_w958 : Cond.code yX12_covers cX12_covers 6 (some .boolean) ∈ q_WU := q_tab8 _ (List.mem_of_getElem? (i := 167) rfl) rfl
theorem q_w959 : Cond.instanceMethod yX12_covers ∈ q_WU := q_tab8 _ (List.mem_of_getElem? (i := 166) rfl) rfl
theorem q_w960 : Cond.selects RX12 yX12_covers yX12_covers ∈ q_WU := q_priv2 _ (List.mem_map.mpr ⟨_, List.mem_of_getElem? (i := 2) rfl, rfl⟩) rfl
theorem q_w961 : Cond.methodLink RX12 195 yX12_counts ∈ q_WU := q_tab8 _ (List.mem_of_getElem? (i := 172) rfl) rfl
theorem q_w962 : Cond.code yX12_counts cX12_counts 2 (some .boolean) ∈ q_WU := q_tab8 _ (List.mem_of_getElem? (i := 175) rfl) rfl
theorem q_w963 : Cond.instanceMethod yX12_counts ∈ q_WU := q_tab8 _ (List.mem_of_getElem? (i := 174) rfl) rfl
theorem q_w964 : Cond.selects RX12 yX12_counts yX12_counts ∈ q_WU := q_priv2 _ (List.mem_map.mpr ⟨_, List.mem_of_getElem? (i := 4) rfl, rfl⟩) rfl
theorem q_w965 : Cond.fieldLink RX12 198 "RasterboxModel" "hasRunOut" "Z" ∈ q_WU := q_tab7 _ (List.mem_of_getElem? (i := 202) rfl) rfl
theorem q_w966 : Cond.constant RX12 202 (65536) ∈ q_WU := q_tab8 _ (List.mem_of_getElem? (i := 188) rfl) rfl
theorem q_w967 : Cond.constant RX12 203 (65535) ∈ q_WU := q_tab8 _ (List.mem_of_getElem? (i := 189) rfl) rfl
theorem q_w968 : Cond.methodLink RX12 204 Lib.Math.min.name ∈ q_WU := q_tab8 _ (List.mem_of_getElem? (i := 190) rfl) rfl
theorem q_w969 : Cond.static Lib.Math.min.name ∈ q_WU := q_tab5 _ (List.mem_of_getElem? (i := 132) rfl) rfl
theorem q_w970 : Cond.initialized "java/lang/Math" ∈ q_WU := q_tab1 _ (List.mem_of_getElem? (i := 29) rfl) rfl
theorem q_w971 : Cond.code Lib.Math.min.name Lib.Math.min.code 2 (some .int) ∈ q_WU := q_tab5 _ (List.mem_of_getElem? (i := 133) rfl) rfl
theorem q_w972 : Cond.methodLink RX12 209 Lib.Math.max.name ∈ q_WU := q_tab8 _ (List.mem_of_getElem? (i := 191) rfl) rfl
theorem q_w973 : Cond.static Lib.Math.max.name ∈ q_WU := q_tab5 _ (List.mem_of_getElem? (i := 114) rfl) rfl
theorem q_w974 : Cond.code Lib.Math.max.name Lib.Math.max.code 2 (some .int) ∈ q_WU := q_tab5 _ (List.mem_of_getElem? (i := 115) rfl) rfl
theorem q_w975 : Cond.constant RX12 212 (32768) ∈ q_WU := q_tab8 _ (List.mem_of_getElem? (i := 196) rfl) rfl
theorem q_w976 : Cond.methodLink RX12 213 yX12_sounds ∈ q_WU := q_tab8 _ (List.mem_of_getElem? (i := 184) rfl) rfl
theorem q_w977 : Cond.code yX12_sounds cX12_sounds 5 none ∈ q_WU := q_tab8 _ (List.mem_of_getElem? (i := 187) rfl) rfl
theorem q_w978 : Cond.instanceMethod yX12_sounds ∈ q_WU := q_tab8 _ (List.mem_of_getElem? (i := 186) rfl) rfl
theorem q_w979 : Cond.selects RX12 yX12_sounds yX12_sounds ∈ q_WU := q_priv2 _ (List.mem_map.mpr ⟨_, List.mem_of_getElem? (i := 7) rfl, rfl⟩) rfl
theorem q_w980 : Cond.methodLink RX12 217 yX12_gives ∈ q_WU := q_tab8 _ (List.mem_of_getElem? (i := 192) rfl) rfl
theorem q_w981 : Cond.code yX12_gives cX12_gives 4 (some .int) ∈ q_WU := q_tab8 _ (List.mem_of_getElem? (i := 195) rfl) rfl
theorem q_w982 : Cond.instanceMethod yX12_gives ∈ q_WU := q_tab8 _ (List.mem_of_getElem? (i := 194) rfl) rfl
theorem q_w983 : Cond.selects RX12 yX12_gives yX12_gives ∈ q_WU := q_priv2 _ (List.mem_map.mpr ⟨_, List.mem_of_getElem? (i := 8) rfl, rfl⟩) rfl
theorem q_w984 : Cond.methodLink RX12 220 yX12_isOfPicture ∈ q_WU := q_tab8 _ (List.mem_of_getElem? (i := 140) rfl) rfl
theorem q_w985 : Cond.code yX12_isOfPicture cX12_isOfPicture 3 (some .boolean) ∈ q_WU := q_tab8 _ (List.mem_of_getElem? (i := 143) rfl) rfl
theorem q_w986 : Cond.instanceMethod yX12_isOfPicture ∈ q_WU := q_tab8 _ (List.mem_of_getElem? (i := 142) rfl) rfl
theorem q_w987 : Cond.selects RX12 yX12_isOfPicture yX12_isOfPicture ∈ q_WU := q_priv1 _ (List.mem_map.mpr ⟨_, List.mem_of_getElem? (i := 12) rfl, rfl⟩) rfl
theorem q_w988 : Cond.methodLink RX12 223 yX12_draws ∈ q_WU := q_tab8 _ (List.mem_of_getElem? (i := 156) rfl) rfl
theorem q_w989 : Cond.code yX12_draws cX12_draws 8 none ∈ q_WU := q_tab8 _ (List.mem_of_getElem? (i := 159) rfl) rfl
theorem q_w990 : Cond.instanceMethod yX12_draws ∈ q_WU := q_tab8 _ (List.mem_of_getElem? (i := 158) rfl) rfl
theorem q_w991 : Cond.selects RX12 yX12_draws yX12_draws ∈ q_WU := q_priv2 _ (List.mem_map.mpr ⟨_, List.mem_of_getElem? (i := 0) rfl, rfl⟩) rfl
theorem q_w992 : Cond.methodLink RX12 226 yX12_times ∈ q_WU := q_tab8 _ (List.mem_of_getElem? (i := 168) rfl) rfl
theorem q_w993 : Cond.code yX12_times cX12_times 1 none ∈ q_WU := q_tab8 _ (List.mem_of_getElem? (i := 171) rfl) rfl
theorem q_w994 : Cond.instanceMethod yX12_times ∈ q_WU := q_tab8 _ (List.mem_of_getElem? (i := 170) rfl) rfl
theorem q_w995 : Cond.selects RX12 yX12_times yX12_times ∈ q_WU := q_priv2 _ (List.mem_map.mpr ⟨_, List.mem_of_getElem? (i := 3) rfl, rfl⟩) rfl
theorem q_w996 : Cond.methodLink RX12 229 yX12_winds ∈ q_WU := q_tab8 _ (List.mem_of_getElem? (i := 176) rfl) rfl
theorem q_w997 : Cond.code yX12_winds cX12_winds 1 none ∈ q_WU := q_tab8 _ (List.mem_of_getElem? (i := 179) rfl) rfl
theorem q_w998 : Cond.instanceMethod yX12_winds ∈ q_WU := q_tab8 _ (List.mem_of_getElem? (i := 178) rfl) rfl
theorem q_w999 : Cond.selects RX12 yX12_winds yX12_winds ∈ q_WU := q_priv2 _ (List.mem_map.mpr ⟨_, List.mem_of_getElem? (i := 5) rfl, rfl⟩) rfl
theorem q_w1000 : Cond.methodLink RX12 232 yX12_makesSample ∈ q_WU := q_tab8 _ (List.mem_of_getElem? (i := 180) rfl) rfl
theorem q_w1001 : Cond.code yX12_makesSample cX12_makesSample 3 none ∈ q_WU := q_tab8 _ (List.mem_of_getElem? (i := 183) rfl) rfl
theorem q_w1002 : Cond.instanceMethod yX12_makesSample ∈ q_WU := q_tab8 _ (List.mem_of_getElem? (i := 182) rfl) rfl
theorem q_w1003 : Cond.selects RX12 yX12_makesSample yX12_makesSample ∈ q_WU := q_priv2 _ (List.mem_map.mpr ⟨_, List.mem_of_getElem? (i := 6) rfl, rfl⟩) rfl
theorem q_w1004 : Cond.methodLink RX12 235 yX12_goesOn ∈ q_WU := q_tab8 _ (List.mem_of_getElem? (i := 197) rfl) rfl
theorem q_w1005 : Cond.code yX12_goesOn cX12_goesOn 1 none ∈ q_WU := q_tab8 _ (List.mem_of_getElem? (i := 200) rfl) rfl
theorem q_w1006 : Cond.instanceMethod yX12_goesOn ∈ q_WU := q_tab8 _ (List.mem_of_getElem? (i := 199) rfl) rfl
theorem q_w1007 : Cond.selects RX12 yX12_goesOn yX12_goesOn ∈ q_WU := q_priv2 _ (List.mem_map.mpr ⟨_, List.mem_of_getElem? (i := 9) rfl, rfl⟩) rfl
theorem q_w1008 : Cond.fieldLink RX12 238 "RasterboxModel" "pictured" "J" ∈ q_WU := q_tab7 _ (List.mem_of_getElem? (i := 180) rfl) rfl
theorem q_w1009 : Cond.methodLink RX12 241 yX12_passes ∈ q_WU := q_tab8 _ (List.mem_of_getElem? (i := 136) rfl) rfl
theorem q_w1010 : Cond.code yX12_passes cX12_passes 4 (some .boolean) ∈ q_WU := q_tab8 _ (List.mem_of_getElem? (i := 139) rfl) rfl
theorem q_w1011 : Cond.instanceMethod yX12_passes ∈ q_WU := q_tab8 _ (List.mem_of_getElem? (i := 138) rfl) rfl
theorem q_w1012 : Cond.selects RX12 yX12_passes yX12_passes ∈ q_WU := q_priv1 _ (List.mem_map.mpr ⟨_, List.mem_of_getElem? (i := 11) rfl, rfl⟩) rfl
theorem q_w1013 : Cond.methodLink RX12 244 yX12_tells ∈ q_WU := q_tab9 _ (List.mem_of_getElem? (i := 110) rfl) rfl
theorem q_w1014 : Cond.code yX12_tells cX12_tells 2 (some .int) ∈ q_WU := q_tab9 _ (List.mem_of_getElem? (i := 113) rfl) rfl
theorem q_w1015 : Cond.instanceMethod yX12_tells ∈ q_WU := q_tab9 _ (List.mem_of_getElem? (i := 112) rfl) rfl
theorem q_w1016 : Cond.selects RX12 yX12_tells yX12_tells ∈ q_WU := q_priv4 _ (List.mem_map.mpr ⟨_, List.mem_of_getElem? (i := 9) rfl, rfl⟩) rfl
theorem q_w1017 : Cond.methodLink RX12 247 yX12_operationOf ∈ q_WU := q_tab8 _ (List.mem_of_getElem? (i := 213) rfl) rfl
theorem q_w1018 : Cond.code yX12_operationOf cX12_operationOf 1 (some .int) ∈ q_WU := q_tab8 _ (List.mem_of_getElem? (i := 215) rfl) rfl
theorem q_w1019 : Cond.static yX12_operationOf ∈ q_WU := q_tab8 _ (List.mem_of_getElem? (i := 214) rfl) rfl
theorem q_w1020 : Cond.methodLink RX12 250 yX12_byteAt ∈ q_WU := q_tab8 _ (List.mem_of_getElem? (i := 209) rfl) rfl
theorem q_w1021 : Cond.code yX12_byteAt cX12_byteAt 2 (some .int) ∈ q_WU := q_tab8 _ (List.mem_of_getElem? (i := 212) rfl) rfl
theorem q_w1022 : Cond.instanceMethod yX12_byteAt ∈ q_WU := q_tab8 _ (List.mem_of_getElem? (i := 211) rfl) rfl
theorem q_w1023 : Cond.selects RX12 yX12_byteAt yX12_byteAt ∈ q_WU := q_priv2 _ (List.mem_map.mpr ⟨_, List.mem_of_getElem? (i := 12) rfl, rfl⟩) rfl
theorem q_w1024 : Cond.methodLink RX12 253 yX12_wordAt ∈ q_WU := q_tab8 _ (List.mem_of_getElem? (i := 224) rfl) rfl
theorem q_w1025 : Cond.code yX12_wordAt cX12_wordAt 2 (some .int) ∈ q_WU := q_tab8 _ (List.mem_of_getElem? (i := 227) rfl) rfl
theorem q_w1026 : Cond.instanceMethod yX12_wordAt ∈ q_WU := q_tab8 _ (List.mem_of_getElem? (i := 226) rfl) rfl
theorem q_w1027 : Cond.selects RX12 yX12_wordAt yX12_wordAt ∈ q_WU := q_priv2 _ (List.mem_map.mpr ⟨_, List.mem_of_getElem? (i := 15) rfl, rfl⟩) rfl
theorem q_w1028 : Cond.methodLink RX12 256 yX12_baseOf ∈ q_WU := q_tab8 _ (List.mem_of_getElem? (i := 220) rfl) rfl
theorem q_w1029 : Cond.code yX12_baseOf cX12_baseOf 4 (some .int) ∈ q_WU := q_tab8 _ (List.mem_of_getElem? (i := 223) rfl) rfl
theorem q_w1030 : Cond.instanceMethod yX12_baseOf ∈ q_WU := q_tab8 _ (List.mem_of_getElem? (i := 222) rfl) rfl
theorem q_w1031 : Cond.selects RX12 yX12_baseOf yX12_baseOf ∈ q_WU := q_priv2 _ (List.mem_map.mpr ⟨_, List.mem_of_getElem? (i := 14) rfl, rfl⟩) rfl
theorem q_w1032 : Cond.methodLink RX12 259 yX12_addressOf ∈ q_WU := q_tab8 _ (List.mem_of_getElem? (i := 228) rfl) rfl
theorem q_w1033 : Cond.code yX12_addressOf cX12_addressOf 4 (some .int) ∈ q_WU := q_tab8 _ (List.mem_of_getElem? (i := 231) rfl) rfl
theorem q_w1034 : Cond.instanceMethod yX12_addressOf ∈ q_WU := q_tab8 _ (List.mem_of_getElem? (i := 230) rfl) rfl
theorem q_w1035 : Cond.selects RX12 yX12_addressOf yX12_addressOf ∈ q_WU := q_priv3 _ (List.mem_map.mpr ⟨_, List.mem_of_getElem? (i := 0) rfl, rfl⟩) rfl
theorem q_w1036 : Cond.methodLink RX12 262 yX12_isWriting ∈ q_WU := q_tab8 _ (List.mem_of_getElem? (i := 232) rfl) rfl
theorem q_w1037 : Cond.code yX12_isWriting cX12_isWriting 1 (some .boolean) ∈ q_WU := q_tab8 _ (List.mem_of_getElem? (i := 234) rfl) rfl
theorem q_w1038 : Cond.static yX12_isWriting ∈ q_WU := q_tab8 _ (List.mem_of_getElem? (i := 233) rfl) rfl
theorem q_w1039 : Cond.methodLink RX12 265 yX12_modeCycles ∈ q_WU := q_tab8 _ (List.mem_of_getElem? (i := 216) rfl) rfl
theorem q_w1040 : Cond.code yX12_modeCycles cX12_modeCycles 7 (some .int) ∈ q_WU := q_tab8 _ (List.mem_of_getElem? (i := 219) rfl) rfl
theorem q_w1041 : Cond.instanceMethod yX12_modeCycles ∈ q_WU := q_tab8 _ (List.mem_of_getElem? (i := 218) rfl) rfl
theorem q_w1042 : Cond.selects RX12 yX12_modeCycles yX12_modeCycles ∈ q_WU := q_priv2 _ (List.mem_map.mpr ⟨_, List.mem_of_getElem? (i := 13) rfl, rfl⟩) rfl
theorem q_w1043 : Cond.methodLink RX12 269 yX12_isTaken ∈ q_WU := q_tab8 _ (List.mem_of_getElem? (i := 235) rfl) rfl
theorem q_w1044 : Cond.code yX12_isTaken cX12_isTaken 3 (some .boolean) ∈ q_WU := q_tab8 _ (List.mem_of_getElem? (i := 238) rfl) rfl
theorem q_w1045 : Cond.instanceMethod yX12_isTaken ∈ q_WU := q_tab8 _ (List.mem_of_getElem? (i := 237) rfl) rfl
theorem q_w1046 : Cond.selects RX12 yX12_isTaken yX12_isTaken ∈ q_WU := q_priv3 _ (List.mem_map.mpr ⟨_, List.mem_of_getElem? (i := 1) rfl, rfl⟩) rfl
theorem q_w1047 : Cond.methodLink RX12 272 yX12_targetOf ∈ q_WU := q_tab8 _ (List.mem_of_getElem? (i := 239) rfl) rfl
theorem q_w1048 : Cond.code yX12_targetOf cX12_targetOf 3 (some .int) ∈ q_WU := q_tab9 _ (List.mem_of_getElem? (i := 2) rfl) rfl
theorem q_w1049 : Cond.instanceMethod yX12_targetOf ∈ q_WU := q_tab9 _ (List.mem_of_getElem? (i := 1) rfl) rfl
theorem q_w1050 : Cond.selects RX12 yX12_targetOf yX12_targetOf ∈ q_WU := q_priv3 _ (List.mem_map.mpr ⟨_, List.mem_of_getElem? (i := 2) rfl, rfl⟩) rfl
theorem q_w1051 : Cond.methodLink RX12 275 yX12_bit ∈ q_WU := q_tab9 _ (List.mem_of_getElem? (i := 15) rfl) rfl
theorem q_w1052 : Cond.code yX12_bit cX12_bit 3 (some .int) ∈ q_WU := q_tab9 _ (List.mem_of_getElem? (i := 18) rfl) rfl
theorem q_w1053 : Cond.instanceMethod yX12_bit ∈ q_WU := q_tab9 _ (List.mem_of_getElem? (i := 17) rfl) rfl
theorem q_w1054 : Cond.selects RX12 yX12_bit yX12_bit ∈ q_WU := q_priv3 _ (List.mem_map.mpr ⟨_, List.mem_of_getElem? (i := 6) rfl, rfl⟩) rfl
theorem q_w1055 : Cond.methodLink RX12 278 yX12_pushes ∈ q_WU := q_tab9 _ (List.mem_of_getElem? (i := 7) rfl) rfl
theorem q_w1056 : Cond.code yX12_pushes cX12_pushes 2 none ∈ q_WU := q_tab9 _ (List.mem_of_getElem? (i := 10) rfl) rfl
theorem q_w1057 : Cond.instanceMethod yX12_pushes ∈ q_WU := q_tab9 _ (List.mem_of_getElem? (i := 9) rfl) rfl
theorem q_w1058 : Cond.selects RX12 yX12_pushes yX12_pushes ∈ q_WU := q_priv3 _ (List.mem_map.mpr ⟨_, List.mem_of_getElem? (i := 4) rfl, rfl⟩) rfl
theorem q_w1059 : Cond.methodLink RX12 281 yX12_statusWith ∈ q_WU := q_tab9 _ (List.mem_of_getElem? (i := 11) rfl) rfl
theorem q_w1060 : Cond.code yX12_statusWith cX12_statusWith 2 (some .int) ∈ q_WU := q_tab9 _ (List.mem_of_getElem? (i := 14) rfl) rfl
theorem q_w1061 : Cond.instanceMethod yX12_statusWith ∈ q_WU := q_tab9 _ (List.mem_of_getElem? (i := 13) rfl) rfl
theorem q_w1062 : Cond.selects RX12 yX12_statusWith yX12_statusWith ∈ q_WU := q_priv3 _ (List.mem_map.mpr ⟨_, List.mem_of_getElem? (i := 5) rfl, rfl⟩) rfl
theorem q_w1063 : Cond.methodLink RX12 284 yX12_sets ∈ q_WU := q_tab9 _ (List.mem_of_getElem? (i := 42) rfl) rfl
theorem q_w1064 : Cond.code yX12_sets cX12_sets 2 (some .int) ∈ q_WU := q_tab9 _ (List.mem_of_getElem? (i := 45) rfl) rfl
theorem q_w1065 : Cond.instanceMethod yX12_sets ∈ q_WU := q_tab9 _ (List.mem_of_getElem? (i := 44) rfl) rfl
theorem q_w1066 : Cond.selects RX12 yX12_sets yX12_sets ∈ q_WU := q_priv3 _ (List.mem_map.mpr ⟨_, List.mem_of_getElem? (i := 12) rfl, rfl⟩) rfl
theorem q_w1067 : Cond.methodLink RX12 287 yX12_adds ∈ q_WU := q_tab9 _ (List.mem_of_getElem? (i := 50) rfl) rfl
theorem q_w1068 : Cond.code yX12_adds cX12_adds 3 none ∈ q_WU := q_tab9 _ (List.mem_of_getElem? (i := 53) rfl) rfl
theorem q_w1069 : Cond.instanceMethod yX12_adds ∈ q_WU := q_tab9 _ (List.mem_of_getElem? (i := 52) rfl) rfl
theorem q_w1070 : Cond.selects RX12 yX12_adds yX12_adds ∈ q_WU := q_priv3 _ (List.mem_map.mpr ⟨_, List.mem_of_getElem? (i := 14) rfl, rfl⟩) rfl
theorem q_w1071 : Cond.methodLink RX12 290 yX12_addsDecimal ∈ q_WU := q_tab9 _ (List.mem_of_getElem? (i := 54) rfl) rfl
theorem q_w1072 : Cond.code yX12_addsDecimal cX12_addsDecimal 6 none ∈ q_WU := q_tab9 _ (List.mem_of_getElem? (i := 57) rfl) rfl
theorem q_w1073 : Cond.instanceMethod yX12_addsDecimal ∈ q_WU := q_tab9 _ (List.mem_of_getElem? (i := 56) rfl) rfl
theorem q_w1074 : Cond.selects RX12 yX12_addsDecimal yX12_addsDecimal ∈ q_WU := q_priv3 _ (List.mem_map.mpr ⟨_, List.mem_of_getElem? (i := 15) rfl, rfl⟩) rfl
theorem q_w1075 : Cond.methodLink RX12 294 yX12_takesDecimal ∈ q_WU := q_tab9 _ (List.mem_of_getElem? (i := 58) rfl) rfl
theorem q_w1076 : Cond.code yX12_takesDecimal cX12_takesDecimal 6 none ∈ q_WU := q_tab9 _ (List.mem_of_getElem? (i := 61) rfl) rfl
theorem q_w1077 : Cond.instanceMethod yX12_takesDecimal ∈ q_WU := q_tab9 _ (List.mem_of_getElem? (i := 60) rfl) rfl
theorem q_w1078 : Cond.selects RX12 yX12_takesDecimal yX12_takesDecimal ∈ q_WU := q_priv4 _ (List.mem_map.mpr ⟨_, List.mem_of_getElem? (i := 0) rfl, rfl⟩) rfl
theorem q_w1079 : Cond.methodLink RX12 297 yX12_becomes ∈ q_WU := q_tab9 _ (List.mem_of_getElem? (i := 66) rfl) rfl
theorem q_w1080 : Cond.code yX12_becomes cX12_becomes 3 none ∈ q_WU := q_tab9 _ (List.mem_of_getElem? (i := 69) rfl) rfl
theorem q_w1081 : Cond.instanceMethod yX12_becomes ∈ q_WU := q_tab9 _ (List.mem_of_getElem? (i := 68) rfl) rfl
theorem q_w1082 : Cond.selects RX12 yX12_becomes yX12_becomes ∈ q_WU := q_priv4 _ (List.mem_map.mpr ⟨_, List.mem_of_getElem? (i := 2) rfl, rfl⟩) rfl
theorem q_w1083 : Cond.methodLink RX12 300 yX12_calculates ∈ q_WU := q_tab9 _ (List.mem_of_getElem? (i := 46) rfl) rfl
theorem q_w1084 : Cond.code yX12_calculates cX12_calculates 5 none ∈ q_WU := q_tab9 _ (List.mem_of_getElem? (i := 49) rfl) rfl
theorem q_w1085 : Cond.instanceMethod yX12_calculates ∈ q_WU := q_tab9 _ (List.mem_of_getElem? (i := 48) rfl) rfl
theorem q_w1086 : Cond.selects RX12 yX12_calculates yX12_calculates ∈ q_WU := q_priv3 _ (List.mem_map.mpr ⟨_, List.mem_of_getElem? (i := 13) rfl, rfl⟩) rfl
theorem q_w1087 : Cond.methodLink RX12 304 yX12_compares ∈ q_WU := q_tab9 _ (List.mem_of_getElem? (i := 38) rfl) rfl
theorem q_w1088 : Cond.code yX12_compares cX12_compares 3 none ∈ q_WU := q_tab9 _ (List.mem_of_getElem? (i := 41) rfl) rfl
theorem q_w1089 : Cond.instanceMethod yX12_compares ∈ q_WU := q_tab9 _ (List.mem_of_getElem? (i := 40) rfl) rfl
theorem q_w1090 : Cond.selects RX12 yX12_compares yX12_compares ∈ q_WU := q_priv3 _ (List.mem_map.mpr ⟨_, List.mem_of_getElem? (i := 11) rfl, rfl⟩) rfl
theorem q_w1091 : Cond.methodLink RX12 307 yX12_takes ∈ q_WU := q_tab9 _ (List.mem_of_getElem? (i := 34) rfl) rfl
theorem q_w1092 : Cond.code yX12_takes cX12_takes 3 (some .int) ∈ q_WU := q_tab9 _ (List.mem_of_getElem? (i := 37) rfl) rfl
theorem q_w1093 : Cond.instanceMethod yX12_takes ∈ q_WU := q_tab9 _ (List.mem_of_getElem? (i := 36) rfl) rfl
theorem q_w1094 : Cond.selects RX12 yX12_takes yX12_takes ∈ q_WU := q_priv3 _ (List.mem_map.mpr ⟨_, List.mem_of_getElem? (i := 10) rfl, rfl⟩) rfl
theorem q_w1095 : Cond.methodLink RX12 310 yX12_changes ∈ q_WU := q_tab9 _ (List.mem_of_getElem? (i := 30) rfl) rfl
theorem q_w1096 : Cond.code yX12_changes cX12_changes 5 none ∈ q_WU := q_tab9 _ (List.mem_of_getElem? (i := 33) rfl) rfl
theorem q_w1097 : Cond.instanceMethod yX12_changes ∈ q_WU := q_tab9 _ (List.mem_of_getElem? (i := 32) rfl) rfl
theorem q_w1098 : Cond.selects RX12 yX12_changes yX12_changes ∈ q_WU := q_priv3 _ (List.mem_map.mpr ⟨_, List.mem_of_getElem? (i := 9) rfl, rfl⟩) rfl
theorem q_w1099 : Cond.methodLink RX12 313 yX12_operates ∈ q_WU := q_tab9 _ (List.mem_of_getElem? (i := 62) rfl) rfl
theorem q_w1100 : Cond.code yX12_operates cX12_operates 3 none ∈ q_WU := q_tab9 _ (List.mem_of_getElem? (i := 65) rfl) rfl
theorem q_w1101 : Cond.instanceMethod yX12_operates ∈ q_WU := q_tab9 _ (List.mem_of_getElem? (i := 64) rfl) rfl
theorem q_w1102 : Cond.selects RX12 yX12_operates yX12_operates ∈ q_WU := q_priv4 _ (List.mem_map.mpr ⟨_, List.mem_of_getElem? (i := 1) rfl, rfl⟩) rfl
theorem q_w1103 : Cond.methodLink RX12 316 yX12_pulls ∈ q_WU := q_tab9 _ (List.mem_of_getElem? (i := 70) rfl) rfl
theorem q_w1104 : Cond.code yX12_pulls cX12_pulls 1 (some .int) ∈ q_WU := q_tab9 _ (List.mem_of_getElem? (i := 73) rfl) rfl
theorem q_w1105 : Cond.instanceMethod yX12_pulls ∈ q_WU := q_tab9 _ (List.mem_of_getElem? (i := 72) rfl) rfl
theorem q_w1106 : Cond.selects RX12 yX12_pulls yX12_pulls ∈ q_WU := q_priv4 _ (List.mem_map.mpr ⟨_, List.mem_of_getElem? (i := 3) rfl, rfl⟩) rfl
theorem q_w1107 : Cond.methodLink RX12 319 yX12_becomesStatus ∈ q_WU := q_tab9 _ (List.mem_of_getElem? (i := 74) rfl) rfl
theorem q_w1108 : Cond.code yX12_becomesStatus cX12_becomesStatus 2 none ∈ q_WU := q_tab9 _ (List.mem_of_getElem? (i := 77) rfl) rfl
theorem q_w1109 : Cond.instanceMethod yX12_becomesStatus ∈ q_WU := q_tab9 _ (List.mem_of_getElem? (i := 76) rfl) rfl
theorem q_w1110 : Cond.selects RX12 yX12_becomesStatus yX12_becomesStatus ∈ q_WU := q_priv4 _ (List.mem_map.mpr ⟨_, List.mem_of_getElem? (i := 4) rfl, rfl⟩) rfl
theorem q_w1111 : Cond.methodLink RX12 322 yX12_shifts ∈ q_WU := q_tab9 _ (List.mem_of_getElem? (i := 90) rfl) rfl
theorem q_w1112 : Cond.code yX12_shifts cX12_shifts 4 none ∈ q_WU := q_tab9 _ (List.mem_of_getElem? (i := 93) rfl) rfl
theorem q_w1113 : Cond.instanceMethod yX12_shifts ∈ q_WU := q_tab9 _ (List.mem_of_getElem? (i := 92) rfl) rfl
theorem q_w1114 : Cond.selects RX12 yX12_shifts yX12_shifts ∈ q_WU := q_priv4 _ (List.mem_map.mpr ⟨_, List.mem_of_getElem? (i := 8) rfl, rfl⟩) rfl
theorem q_w1115 : Cond.methodLink RX12 325 yX12_lengthOf ∈ q_WU := q_tab9 _ (List.mem_of_getElem? (i := 23) rfl) rfl
theorem q_w1116 : Cond.code yX12_lengthOf cX12_lengthOf 2 (some .int) ∈ q_WU := q_tab9 _ (List.mem_of_getElem? (i := 25) rfl) rfl
theorem q_w1117 : Cond.static yX12_lengthOf ∈ q_WU := q_tab9 _ (List.mem_of_getElem? (i := 24) rfl) rfl
theorem q_w1118 : Cond.methodLink RX12 328 yX12_doesMode ∈ q_WU := q_tab9 _ (List.mem_of_getElem? (i := 26) rfl) rfl
theorem q_w1119 : Cond.code yX12_doesMode cX12_doesMode 4 none ∈ q_WU := q_tab9 _ (List.mem_of_getElem? (i := 29) rfl) rfl
theorem q_w1120 : Cond.instanceMethod yX12_doesMode ∈ q_WU := q_tab9 _ (List.mem_of_getElem? (i := 28) rfl) rfl
theorem q_w1121 : Cond.selects RX12 yX12_doesMode yX12_doesMode ∈ q_WU := q_priv3 _ (List.mem_map.mpr ⟨_, List.mem_of_getElem? (i := 8) rfl, rfl⟩) rfl
theorem q_w1122 : Cond.methodLink RX12 331 yX12_interrupts ∈ q_WU := q_tab9 _ (List.mem_of_getElem? (i := 3) rfl) rfl
theorem q_w1123 : Cond.code yX12_interrupts cX12_interrupts 4 none ∈ q_WU := q_tab9 _ (List.mem_of_getElem? (i := 6) rfl) rfl
theorem q_w1124 : Cond.instanceMethod yX12_interrupts ∈ q_WU := q_tab9 _ (List.mem_of_getElem? (i := 5) rfl) rfl
theorem q_w1125 : Cond.selects RX12 yX12_interrupts yX12_interrupts ∈ q_WU := q_priv3 _ (List.mem_map.mpr ⟨_, List.mem_of_getElem? (i := 3) rfl, rfl⟩) rfl
theorem q_w1126 : Cond.methodLink RX12 334 yX12_pulledAddress ∈ q_WU := q_tab9 _ (List.mem_of_getElem? (i := 78) rfl) rfl
theorem q_w1127 : Cond.code yX12_pulledAddress cX12_pulledAddress 3 (some .int) ∈ q_WU := q_tab9 _ (List.mem_of_getElem? (i := 81) rfl) rfl
theorem q_w1128 : Cond.instanceMethod yX12_pulledAddress ∈ q_WU := q_tab9 _ (List.mem_of_getElem? (i := 80) rfl) rfl
theorem q_w1129 : Cond.selects RX12 yX12_pulledAddress yX12_pulledAddress ∈ q_WU := q_priv4 _ (List.mem_map.mpr ⟨_, List.mem_of_getElem? (i := 5) rfl, rfl⟩) rfl
theorem q_w1130 : Cond.methodLink RX12 337 yX12_jumps ∈ q_WU := q_tab9 _ (List.mem_of_getElem? (i := 82) rfl) rfl
theorem q_w1131 : Cond.code yX12_jumps cX12_jumps 5 none ∈ q_WU := q_tab9 _ (List.mem_of_getElem? (i := 85) rfl) rfl
theorem q_w1132 : Cond.instanceMethod yX12_jumps ∈ q_WU := q_tab9 _ (List.mem_of_getElem? (i := 84) rfl) rfl
theorem q_w1133 : Cond.selects RX12 yX12_jumps yX12_jumps ∈ q_WU := q_priv4 _ (List.mem_map.mpr ⟨_, List.mem_of_getElem? (i := 6) rfl, rfl⟩) rfl
theorem q_w1134 : Cond.methodLink RX12 340 yX12_doesOther ∈ q_WU := q_tab9 _ (List.mem_of_getElem? (i := 86) rfl) rfl
theorem q_w1135 : Cond.code yX12_doesOther cX12_doesOther 3 none ∈ q_WU := q_tab9 _ (List.mem_of_getElem? (i := 89) rfl) rfl
theorem q_w1136 : Cond.instanceMethod yX12_doesOther ∈ q_WU := q_tab9 _ (List.mem_of_getElem? (i := 88) rfl) rfl
theorem q_w1137 : Cond.selects RX12 yX12_doesOther yX12_doesOther ∈ q_WU := q_priv4 _ (List.mem_map.mpr ⟨_, List.mem_of_getElem? (i := 7) rfl, rfl⟩) rfl
theorem q_w1138 : Cond.methodLink RX12 343 yX12_cyclesOf ∈ q_WU := q_tab8 _ (List.mem_of_getElem? (i := 205) rfl) rfl
theorem q_w1139 : Cond.code yX12_cyclesOf cX12_cyclesOf 4 (some .int) ∈ q_WU := q_tab8 _ (List.mem_of_getElem? (i := 208) rfl) rfl
theorem q_w1140 : Cond.instanceMethod yX12_cyclesOf ∈ q_WU := q_tab8 _ (List.mem_of_getElem? (i := 207) rfl) rfl
theorem q_w1141 : Cond.selects RX12 yX12_cyclesOf yX12_cyclesOf ∈ q_WU := q_priv2 _ (List.mem_map.mpr ⟨_, List.mem_of_getElem? (i := 11) rfl, rfl⟩) rfl
theorem q_w1142 : Cond.methodLink RX12 346 yX12_begins ∈ q_WU := q_tab8 _ (List.mem_of_getElem? (i := 201) rfl) rfl
theorem q_w1143 : Cond.code yX12_begins cX12_begins 1 none ∈ q_WU := q_tab8 _ (List.mem_of_getElem? (i := 204) rfl) rfl
theorem q_w1144 : Cond.instanceMethod yX12_begins ∈ q_WU := q_tab8 _ (List.mem_of_getElem? (i := 203) rfl) rfl
theorem q_w1145 : Cond.selects RX12 yX12_begins yX12_begins ∈ q_WU := q_priv2 _ (List.mem_map.mpr ⟨_, List.mem_of_getElem? (i := 10) rfl, rfl⟩) rfl
theorem q_w1146 : Cond.methodLink RX12 349 yX12_does ∈ q_WU := q_tab9 _ (List.mem_of_getElem? (i := 19) rfl) rfl
theorem q_w1147 : Cond.code yX12_does cX12_does 5 none ∈ q_WU := q_tab9 _ (List.mem_of_getElem? (i := 22) rfl) rfl
theorem q_w1148 : Cond.instanceMethod yX12_does ∈ q_WU := q_tab9 _ (List.mem_of_getElem? (i := 21) rfl) rfl
theorem q_w1149 : Cond.selects RX12 yX12_does yX12_does ∈ q_WU := q_priv3 _ (List.mem_map.mpr ⟨_, List.mem_of_getElem? (i := 7) rfl, rfl⟩) rfl
theorem q_w1150 : Cond.fieldLink RX12 352 "RasterboxModel" "written" "I" ∈ q_WU := q_tab7 _ (List.mem_of_getElem? (i := 199) rfl) rfl
theorem q_w1151 : Cond.methodLink RX12 355 yX12_putsNumber ∈ q_WU := q_tab9 _ (List.mem_of_getElem? (i := 134) rfl) rfl
theorem q_w1152 : Cond.code yX12_putsNumber cX12_putsNumber 2 none ∈ q_WU := q_tab9 _ (List.mem_of_getElem? (i := 137) rfl) rfl
theorem q_w1153 : Cond.instanceMethod yX12_putsNumber ∈ q_WU := q_tab9 _ (List.mem_of_getElem? (i := 136) rfl) rfl
theorem q_w1154 : Cond.selects RX12 yX12_putsNumber yX12_putsNumber ∈ q_WU := q_priv4 _ (List.mem_map.mpr ⟨_, List.mem_of_getElem? (i := 10) rfl, rfl⟩) rfl
theorem q_w1155 : Cond.methodLink RX12 358 yX12_puts ∈ q_WU := q_tab9 _ (List.mem_of_getElem? (i := 138) rfl) rfl
theorem q_w1156 : Cond.code yX12_puts cX12_puts 2 none ∈ q_WU := q_tab9 _ (List.mem_of_getElem? (i := 141) rfl) rfl
theorem q_w1157 : Cond.instanceMethod yX12_puts ∈ q_WU := q_tab9 _ (List.mem_of_getElem? (i := 140) rfl) rfl
theorem q_w1158 : Cond.selects RX12 yX12_puts yX12_puts ∈ q_WU := q_priv4 _ (List.mem_map.mpr ⟨_, List.mem_of_getElem? (i := 11) rfl, rfl⟩) rfl
theorem q_w1159 : Cond.fieldLink RX12 362 "RasterboxModel" "NAMES" "[C" ∈ q_WU := q_tab9 _ (List.mem_of_getElem? (i := 149) rfl) rfl
theorem q_w1160 : Cond.fieldLink RX12 365 "RasterboxModel" "OTHERS" "[C" ∈ q_WU := q_tab9 _ (List.mem_of_getElem? (i := 151) rfl) rfl
theorem q_w1161 : Cond.methodLink RX12 368 yX12_isJam ∈ q_WU := q_tab9 _ (List.mem_of_getElem? (i := 142) rfl) rfl
theorem q_w1162 : Cond.code yX12_isJam cX12_isJam 1 (some .boolean) ∈ q_WU := q_tab9 _ (List.mem_of_getElem? (i := 144) rfl) rfl
theorem q_w1163 : Cond.static yX12_isJam ∈ q_WU := q_tab9 _ (List.mem_of_getElem? (i := 143) rfl) rfl
theorem q_w1164 : Cond.methodLink RX12 371 yX12_putsName ∈ q_WU := q_tab9 _ (List.mem_of_getElem? (i := 145) rfl) rfl
theorem q_w1165 : Cond.code yX12_putsName cX12_putsName 4 none ∈ q_WU := q_tab9 _ (List.mem_of_getElem? (i := 148) rfl) rfl
theorem q_w1166 : Cond.instanceMethod yX12_putsName ∈ q_WU := q_tab9 _ (List.mem_of_getElem? (i := 147) rfl) rfl
theorem q_w1167 : Cond.selects RX12 yX12_putsName yX12_putsName ∈ q_WU := q_priv4 _ (List.mem_map.mpr ⟨_, List.mem_of_getElem? (i := 12) rfl, rfl⟩) rfl
theorem q_w1168 : Cond.methodLink RX12 374 yX12_putsMode ∈ q_WU := q_tab9 _ (List.mem_of_getElem? (i := 153) rfl) rfl
theorem q_w1169 : Cond.code yX12_putsMode cX12_putsMode 3 none ∈ q_WU := q_tab9 _ (List.mem_of_getElem? (i := 156) rfl) rfl
theorem q_w1170 : Cond.instanceMethod yX12_putsMode ∈ q_WU := q_tab9 _ (List.mem_of_getElem? (i := 155) rfl) rfl
theorem q_w1171 : Cond.selects RX12 yX12_putsMode yX12_putsMode ∈ q_WU := q_priv4 _ (List.mem_map.mpr ⟨_, List.mem_of_getElem? (i := 13) rfl, rfl⟩) rfl
theorem q_w1172 : Cond.methodLink RX12 377 yX12_putsOther ∈ q_WU := q_tab9 _ (List.mem_of_getElem? (i := 157) rfl) rfl
theorem q_w1173 : Cond.code yX12_putsOther cX12_putsOther 3 none ∈ q_WU := q_tab9 _ (List.mem_of_getElem? (i := 160) rfl) rfl
theorem q_w1174 : Cond.instanceMethod yX12_putsOther ∈ q_WU := q_tab9 _ (List.mem_of_getElem? (i := 159) rfl) rfl
theorem q_w1175 : Cond.selects RX12 yX12_putsOther yX12_putsOther ∈ q_WU := q_priv4 _ (List.mem_map.mpr ⟨_, List.mem_of_getElem? (i := 14) rfl, rfl⟩) rfl
theorem q_w1176 : Cond.methodLink RX12 380 yX12_pixelAt ∈ q_WU := q_tab9 _ (List.mem_of_getElem? (i := 189) rfl) rfl
theorem q_w1177 : Cond.code yX12_pixelAt cX12_pixelAt 3 (some .int) ∈ q_WU := q_tab9 _ (List.mem_of_getElem? (i := 192) rfl) rfl
theorem q_w1178 : Cond.instanceMethod yX12_pixelAt ∈ q_WU := q_tab9 _ (List.mem_of_getElem? (i := 191) rfl) rfl
theorem q_w1179 : Cond.selects RX12 yX12_pixelAt yX12_pixelAt ∈ q_WU := q_priv4 _ (List.mem_map.mpr ⟨_, List.mem_of_getElem? (i := 15) rfl, rfl⟩) rfl
theorem q_w1180 : Cond.fieldLink RX12 383 "RasterboxModel" "saved" "I" ∈ q_WU := q_tab7 _ (List.mem_of_getElem? (i := 181) rfl) rfl
theorem q_w1181 : Cond.methodLink RX12 386 yX12_lays ∈ q_WU := q_tab9 _ (List.mem_of_getElem? (i := 233) rfl) rfl
theorem q_w1182 : Cond.code yX12_lays cX12_lays 6 none ∈ q_WU := q_tab9 _ (List.mem_of_getElem? (i := 235) rfl) rfl
theorem q_w1183 : Cond.static yX12_lays ∈ q_WU := q_tab9 _ (List.mem_of_getElem? (i := 234) rfl) rfl
theorem q_w1184 : Cond.methodLink RX12 390 yX12_laysFlags ∈ q_WU := q_tab9 _ (List.mem_of_getElem? (i := 236) rfl) rfl
theorem q_w1185 : Cond.code yX12_laysFlags cX12_laysFlags 6 none ∈ q_WU := q_tab9 _ (List.mem_of_getElem? (i := 238) rfl) rfl
theorem q_w1186 : Cond.static yX12_laysFlags ∈ q_WU := q_tab9 _ (List.mem_of_getElem? (i := 237) rfl) rfl
theorem q_w1187 : Cond.methodLink RX12 394 yX12_unlike ∈ q_WU := q_tab10 _ (List.mem_of_getElem? (i := 3) rfl) rfl
theorem q_w1188 : Cond.code yX12_unlike cX12_unlike 4 (some .int) ∈ q_WU := q_tab10 _ (List.mem_of_getElem? (i := 6) rfl) rfl
theorem q_w1189 : Cond.instanceMethod yX12_unlike ∈ q_WU := q_tab10 _ (List.mem_of_getElem? (i := 5) rfl) rfl
theorem q_w1190 : Cond.selects RX12 yX12_unlike yX12_unlike ∈ q_WU := q_priv5 _ (List.mem_map.mpr ⟨_, List.mem_of_getElem? (i := 0) rfl, rfl⟩) rfl
theorem q_w1191 : Cond.constantFloat RX12 397 (1149239296) ∈ q_WU := q_tab10 _ (List.mem_of_getElem? (i := 35) rfl) rfl
theorem q_w1192 : Cond.constantDouble RX12 398 (4630826316843712512) ∈ q_WU := q_tab10 _ (List.mem_of_getElem? (i := 40) rfl) rfl
theorem q_w1193 : Cond.classLink RJ7 45 RJ4 ∈ q_WU := q_tab6 _ (List.mem_of_getElem? (i := 31) rfl) rfl
theorem q_w1194 : Cond.classLink RJ7 68 RJx00060 ∈ q_WU := q_tab6 _ (List.mem_of_getElem? (i := 82) rfl) rfl
theorem q_w1195 : Cond.instantiable RJx00060 6 ∈ q_WU := q_tab6 _ (List.mem_of_getElem? (i := 83) rfl) rfl
theorem q_w1196 : Cond.initialized RJx00060 ∈ q_WU := q_tab1 _ (List.mem_of_getElem? (i := 32) rfl) rfl
theorem q_w1197 : Cond.methodLink RJ7 13 yJ7_rangeCheck_23922 ∈ q_WU := q_tab6 _ (List.mem_of_getElem? (i := 76) rfl) rfl
theorem q_w1198 : Cond.code yJ7_rangeCheck_23922 cJ7_rangeCheck_23922 3 none ∈ q_WU := q_tab6 _ (List.mem_of_getElem? (i := 78) rfl) rfl
theorem q_w1199 : Cond.static yJ7_rangeCheck_23922 ∈ q_WU := q_tab6 _ (List.mem_of_getElem? (i := 77) rfl) rfl
theorem q_w1200 : Cond.methodLink RJ7 310 ⟨"[B", "clone", "()Ljava/lang/Object;"⟩ ∈ q_WU := q_tab5 _ (List.mem_of_getElem? (i := 124) rfl) rfl
theorem q_w1201 : Cond.arrayClass .byte ∈ q_WU := q_tab2 _ (List.mem_of_getElem? (i := 114) rfl) rfl
theorem q_w1202 : Cond.methodLink RJ7 304 Lib.Math.min.name ∈ q_WU := q_tab5 _ (List.mem_of_getElem? (i := 131) rfl) rfl
theorem q_w1203 : Cond.methodLink RJ7 150 arraycopyName ∈ q_WU := q_tab5 _ (List.mem_of_getElem? (i := 134) rfl) rfl
theorem q_w1204 : Cond.fieldLink RJ6 83 "java/lang/Integer" "DigitOnes" "[B" ∈ q_WU := q_tab5 _ (List.mem_of_getElem? (i := 222) rfl) rfl
theorem q_w1205 : Cond.fieldLink RJ6 87 "java/lang/Integer" "DigitTens" "[B" ∈ q_WU := q_tab5 _ (List.mem_of_getElem? (i := 224) rfl) rfl
theorem q_w1206 : Cond.constant RJ6 265 (1431655765) ∈ q_WU := q_tab3 _ (List.mem_of_getElem? (i := 71) rfl) rfl
theorem q_w1207 : Cond.constant RJ6 266 (858993459) ∈ q_WU := q_tab3 _ (List.mem_of_getElem? (i := 72) rfl) rfl
theorem q_w1208 : Cond.constant RJ6 267 (252645135) ∈ q_WU := q_tab3 _ (List.mem_of_getElem? (i := 73) rfl) rfl
theorem q_w1209 : Cond.methodLink RJ4 1 yJ5_init_d00df ∈ q_WU := q_tab2 _ (List.mem_of_getElem? (i := 87) rfl) rfl
theorem q_w1210 : Cond.code yJ5_init_d00df cJ5_init_d00df 2 none ∈ q_WU := q_tab2 _ (List.mem_of_getElem? (i := 89) rfl) rfl
theorem q_w1211 : Cond.instanceMethod yJ5_init_d00df ∈ q_WU := q_tab2 _ (List.mem_of_getElem? (i := 88) rfl) rfl
theorem q_w1212 : Cond.initialized RJ5 ∈ q_WU := q_tab1 _ (List.mem_of_getElem? (i := 11) rfl) rfl
theorem q_w1213 : Cond.methodLink RJ4 29 yJ5_append_cf1ce ∈ q_WU := q_tab5 _ (List.mem_of_getElem? (i := 95) rfl) rfl
theorem q_w1214 : Cond.code yJ5_append_cf1ce cJ5_append_cf1ce 3 (some (.object "java/lang/AbstractStringBuilder")) ∈ q_WU := q_tab5 _ (List.mem_of_getElem? (i := 97) rfl) rfl
theorem q_w1215 : Cond.instanceMethod yJ5_append_cf1ce ∈ q_WU := q_tab5 _ (List.mem_of_getElem? (i := 96) rfl) rfl
theorem q_w1216 : Cond.sameMethod "java/lang/AbstractStringBuilder" "java/lang/AbstractStringBuilder" "append" "(Ljava/lang/String;)Ljava/lang/AbstractStringBuilder;" ∈ q_WU := q_tab10 _ (List.mem_of_getElem? (i := 43) rfl) rfl
theorem q_w1217 : Cond.superclass RJ4 RJ5 ∈ q_WU := q_tab2 _ (List.mem_of_getElem? (i := 113) rfl) rfl
theorem q_w1218 : Cond.methodLink RJ4 50 yJ5_append_3fe6f ∈ q_WU := q_tab6 _ (List.mem_of_getElem? (i := 114) rfl) rfl
theorem q_w1219 : Cond.code yJ5_append_3fe6f cJ5_append_3fe6f 2 (some (.object "java/lang/AbstractStringBuilder")) ∈ q_WU := q_tab6 _ (List.mem_of_getElem? (i := 116) rfl) rfl
theorem q_w1220 : Cond.instanceMethod yJ5_append_3fe6f ∈ q_WU := q_tab6 _ (List.mem_of_getElem? (i := 115) rfl) rfl
theorem q_w1221 : Cond.sameMethod "java/lang/AbstractStringBuilder" "java/lang/AbstractStringBuilder" "append" "(C)Ljava/lang/AbstractStringBuilder;" ∈ q_WU := q_tab10 _ (List.mem_of_getElem? (i := 51) rfl) rfl
theorem q_w1222 : Cond.methodLink RJ4 53 yJ5_append_c97b9 ∈ q_WU := q_tab5 _ (List.mem_of_getElem? (i := 213) rfl) rfl
theorem q_w1223 : Cond.code yJ5_append_c97b9 cJ5_append_c97b9 4 (some (.object "java/lang/AbstractStringBuilder")) ∈ q_WU := q_tab5 _ (List.mem_of_getElem? (i := 215) rfl) rfl
theorem q_w1224 : Cond.instanceMethod yJ5_append_c97b9 ∈ q_WU := q_tab5 _ (List.mem_of_getElem? (i := 214) rfl) rfl
theorem q_w1225 : Cond.sameMethod "java/lang/AbstractStringBuilder" "java/lang/AbstractStringBuilder" "append" "(I)Ljava/lang/AbstractStringBuilder;" ∈ q_WU := q_tab10 _ (List.mem_of_getElem? (i := 50) rfl) rfl
theorem q_w1226 : Cond.methodLink RJ4 329 yJ5_charAt_5068e ∈ q_WU := q_tab6 _ (List.mem_of_getElem? (i := 183) rfl) rfl
theorem q_w1227 : Cond.code yJ5_charAt_5068e cJ5_charAt_5068e 5 (some .char) ∈ q_WU := q_tab6 _ (List.mem_of_getElem? (i := 185) rfl) rfl
theorem q_w1228 : Cond.instanceMethod yJ5_charAt_5068e ∈ q_WU := q_tab6 _ (List.mem_of_getElem? (i := 184) rfl) rfl
theorem q_w1229 : Cond.sameMethod "java/lang/AbstractStringBuilder" "java/lang/AbstractStringBuilder" "charAt" "(I)C" ∈ q_WU := q_tab10 _ (List.mem_of_getElem? (i := 53) rfl) rfl
theorem q_w1230 : Cond.methodLink RJ4 333 yJ5_setLength_d00df ∈ q_WU := q_tab5 _ (List.mem_of_getElem? (i := 80) rfl) rfl
theorem q_w1231 : Cond.code yJ5_setLength_d00df cJ5_setLength_d00df 2 none ∈ q_WU := q_tab5 _ (List.mem_of_getElem? (i := 82) rfl) rfl
theorem q_w1232 : Cond.instanceMethod yJ5_setLength_d00df ∈ q_WU := q_tab5 _ (List.mem_of_getElem? (i := 81) rfl) rfl
theorem q_w1233 : Cond.sameMethod "java/lang/AbstractStringBuilder" "java/lang/AbstractStringBuilder" "setLength" "(I)V" ∈ q_WU := q_tab10 _ (List.mem_of_getElem? (i := 42) rfl) rfl
theorem q_w1234 : Cond.methodLink RJ4 343 yJ5_length_8abf5 ∈ q_WU := q_tab6 _ (List.mem_of_getElem? (i := 18) rfl) rfl
theorem q_w1235 : Cond.code yJ5_length_8abf5 cJ5_length_8abf5 1 (some .int) ∈ q_WU := q_tab6 _ (List.mem_of_getElem? (i := 19) rfl) rfl
theorem q_w1236 : Cond.instanceMethod yJ5_length_8abf5 ∈ q_WU := q_tab6 _ (List.mem_of_getElem? (i := 13) rfl) rfl
theorem q_w1237 : Cond.sameMethod "java/lang/AbstractStringBuilder" "java/lang/AbstractStringBuilder" "length" "()I" ∈ q_WU := q_tab6 _ (List.mem_of_getElem? (i := 14) rfl) rfl
theorem q_w1238 : Cond.methodLink RJ5 3 objectInit ∈ q_WU := q_tab2 _ (List.mem_of_getElem? (i := 90) rfl) rfl
theorem q_w1239 : Cond.fieldLink RJ5 18 "java/lang/String" "COMPACT_STRINGS" "Z" ∈ q_WU := q_tab2 _ (List.mem_of_getElem? (i := 91) rfl) rfl
theorem q_w1240 : Cond.fieldLink RJ5 15 "java/lang/AbstractStringBuilder" "value" "[B" ∈ q_WU := q_tab2 _ (List.mem_of_getElem? (i := 100) rfl) rfl
theorem q_w1241 : Cond.fieldLink RJ5 22 "java/lang/AbstractStringBuilder" "coder" "B" ∈ q_WU := q_tab2 _ (List.mem_of_getElem? (i := 101) rfl) rfl
theorem q_w1242 : Cond.methodLink RJ5 26 yJ2_newBytesFor_77867 ∈ q_WU := q_tab2 _ (List.mem_of_getElem? (i := 93) rfl) rfl
theorem q_w1243 : Cond.code yJ2_newBytesFor_77867 cJ2_newBytesFor_77867 1 (some (.array .byte)) ∈ q_WU := q_tab2 _ (List.mem_of_getElem? (i := 95) rfl) rfl
theorem q_w1244 : Cond.static yJ2_newBytesFor_77867 ∈ q_WU := q_tab2 _ (List.mem_of_getElem? (i := 94) rfl) rfl
theorem q_w1245 : Cond.initialized RJ2 ∈ q_WU := q_tab1 _ (List.mem_of_getElem? (i := 14) rfl) rfl
theorem q_w1246 : Cond.fieldLink RJ5 79 "java/lang/AbstractStringBuilder" "count" "I" ∈ q_WU := q_tab2 _ (List.mem_of_getElem? (i := 104) rfl) rfl
theorem q_w1247 : Cond.methodLink RJ5 104 ⟨"java/lang/AbstractStringBuilder", "newCapacity", "(I)I"⟩ ∈ q_WU := q_tab5 _ (List.mem_of_getElem? (i := 106) rfl) rfl
theorem q_w1248 : Cond.code yJ5_newCapacity_0f7a4 cJ5_newCapacity_0f7a4 6 (some .int) ∈ q_WU := q_tab5 _ (List.mem_of_getElem? (i := 109) rfl) rfl
theorem q_w1249 : Cond.sameMethod "java/lang/AbstractStringBuilder" "java/lang/AbstractStringBuilder" "newCapacity" "(I)I" ∈ q_WU := q_tab10 _ (List.mem_of_getElem? (i := 46) rfl) rfl
theorem q_w1250 : Cond.selects RJ4 ⟨"java/lang/AbstractStringBuilder", "newCapacity", "(I)I"⟩ yJ5_newCapacity_0f7a4 ∈ q_WU := q_xin _ (List.mem_of_getElem? (i := 0) rfl) rfl
theorem q_w1251 : Cond.instanceMethod yJ5_newCapacity_0f7a4 ∈ q_WU := q_tab5 _ (List.mem_of_getElem? (i := 108) rfl) rfl
theorem q_w1252 : Cond.methodLink RJ5 108 yJ7_copyOf_9075b ∈ q_WU := q_tab5 _ (List.mem_of_getElem? (i := 121) rfl) rfl
theorem q_w1253 : Cond.code yJ7_copyOf_9075b cJ7_copyOf_9075b 3 (some (.array .byte)) ∈ q_WU := q_tab5 _ (List.mem_of_getElem? (i := 123) rfl) rfl
theorem q_w1254 : Cond.static yJ7_copyOf_9075b ∈ q_WU := q_tab5 _ (List.mem_of_getElem? (i := 122) rfl) rfl
theorem q_w1255 : Cond.methodLink RJ5 114 yJ8_newLength_cabcc ∈ q_WU := q_tab5 _ (List.mem_of_getElem? (i := 110) rfl) rfl
theorem q_w1256 : Cond.code yJ8_newLength_cabcc cJ8_newLength_cabcc 4 (some .int) ∈ q_WU := q_tab5 _ (List.mem_of_getElem? (i := 112) rfl) rfl
theorem q_w1257 : Cond.static yJ8_newLength_cabcc ∈ q_WU := q_tab5 _ (List.mem_of_getElem? (i := 111) rfl) rfl
theorem q_w1258 : Cond.initialized RJ8 ∈ q_WU := q_tab1 _ (List.mem_of_getElem? (i := 28) rfl) rfl
theorem q_w1259 : Cond.constant RJ5 39 (2147483647) ∈ q_WU := q_tab5 _ (List.mem_of_getElem? (i := 120) rfl) rfl
theorem q_w1260 : Cond.methodLink RJ5 83 ⟨"java/lang/AbstractStringBuilder", "isLatin1", "()Z"⟩ ∈ q_WU := q_tab5 _ (List.mem_of_getElem? (i := 135) rfl) rfl
theorem q_w1261 : Cond.code yJ5_isLatin1_aae02 cJ5_isLatin1_aae02 1 (some .boolean) ∈ q_WU := q_tab5 _ (List.mem_of_getElem? (i := 139) rfl) rfl
theorem q_w1262 : Cond.sameMethod "java/lang/AbstractStringBuilder" "java/lang/AbstractStringBuilder" "isLatin1" "()Z" ∈ q_WU := q_tab5 _ (List.mem_of_getElem? (i := 137) rfl) rfl
theorem q_w1263 : Cond.selects RJ4 ⟨"java/lang/AbstractStringBuilder", "isLatin1", "()Z"⟩ yJ5_isLatin1_aae02 ∈ q_WU := q_tab5 _ (List.mem_of_getElem? (i := 138) rfl) rfl
theorem q_w1264 : Cond.instanceMethod yJ5_isLatin1_aae02 ∈ q_WU := q_tab5 _ (List.mem_of_getElem? (i := 136) rfl) rfl
theorem q_w1265 : Cond.methodLink RJ5 125 yJ1_inflate_0e8fd ∈ q_WU := q_tab5 _ (List.mem_of_getElem? (i := 188) rfl) rfl
theorem q_w1266 : Cond.code yJ1_inflate_0e8fd cJ1_inflate_0e8fd 5 none ∈ q_WU := q_tab5 _ (List.mem_of_getElem? (i := 190) rfl) rfl
theorem q_w1267 : Cond.static yJ1_inflate_0e8fd ∈ q_WU := q_tab5 _ (List.mem_of_getElem? (i := 189) rfl) rfl
theorem q_w1268 : Cond.initialized RJ1 ∈ q_WU := q_tab1 _ (List.mem_of_getElem? (i := 31) rfl) rfl
theorem q_w1269 : Cond.classLink RJ5 129 RJx7c733 ∈ q_WU := q_tab5 _ (List.mem_of_getElem? (i := 83) rfl) rfl
theorem q_w1270 : Cond.instantiable RJx7c733 6 ∈ q_WU := q_tab5 _ (List.mem_of_getElem? (i := 84) rfl) rfl
theorem q_w1271 : Cond.initialized RJx7c733 ∈ q_WU := q_tab1 _ (List.mem_of_getElem? (i := 27) rfl) rfl
theorem q_w1272 : Cond.methodLink RJ5 100 ⟨"java/lang/AbstractStringBuilder", "ensureCapacityInternal", "(I)V"⟩ ∈ q_WU := q_tab5 _ (List.mem_of_getElem? (i := 102) rfl) rfl
theorem q_w1273 : Cond.code yJ5_ensureCapacityInternal_d00df cJ5_ensureCapacityInternal_d00df 3 none ∈ q_WU := q_tab5 _ (List.mem_of_getElem? (i := 105) rfl) rfl
theorem q_w1274 : Cond.sameMethod "java/lang/AbstractStringBuilder" "java/lang/AbstractStringBuilder" "ensureCapacityInternal" "(I)V" ∈ q_WU := q_tab10 _ (List.mem_of_getElem? (i := 45) rfl) rfl
theorem q_w1275 : Cond.selects RJ4 ⟨"java/lang/AbstractStringBuilder", "ensureCapacityInternal", "(I)V"⟩ yJ5_ensureCapacityInternal_d00df ∈ q_WU := q_xin _ (List.mem_of_getElem? (i := 1) rfl) rfl
theorem q_w1276 : Cond.instanceMethod yJ5_ensureCapacityInternal_d00df ∈ q_WU := q_tab5 _ (List.mem_of_getElem? (i := 104) rfl) rfl
theorem q_w1277 : Cond.methodLink RJ5 133 yJ1_fillNull_b72d1 ∈ q_WU := q_tab6 _ (List.mem_of_getElem? (i := 70) rfl) rfl
theorem q_w1278 : Cond.code yJ1_fillNull_b72d1 cJ1_fillNull_b72d1 3 none ∈ q_WU := q_tab6 _ (List.mem_of_getElem? (i := 72) rfl) rfl
theorem q_w1279 : Cond.static yJ1_fillNull_b72d1 ∈ q_WU := q_tab6 _ (List.mem_of_getElem? (i := 71) rfl) rfl
theorem q_w1280 : Cond.methodLink RJ5 137 yJ2_fillNull_b72d1 ∈ q_WU := q_tab6 _ (List.mem_of_getElem? (i := 105) rfl) rfl
theorem q_w1281 : Cond.code yJ2_fillNull_b72d1 cJ2_fillNull_b72d1 3 none ∈ q_WU := q_tab6 _ (List.mem_of_getElem? (i := 107) rfl) rfl
theorem q_w1282 : Cond.static yJ2_fillNull_b72d1 ∈ q_WU := q_tab6 _ (List.mem_of_getElem? (i := 106) rfl) rfl
theorem q_w1283 : Cond.fieldLink RJ5 73 "java/lang/AbstractStringBuilder" "maybeLatin1" "Z" ∈ q_WU := q_tab2 _ (List.mem_of_getElem? (i := 102) rfl) rfl
theorem q_w1284 : Cond.methodLink RJ5 138 Lib.Math.min.name ∈ q_WU := q_tab6 _ (List.mem_of_getElem? (i := 186) rfl) rfl
theorem q_w1285 : Cond.methodLink RJ5 144 yJ0_checkIndex_df160 ∈ q_WU := q_tab6 _ (List.mem_of_getElem? (i := 187) rfl) rfl
theorem q_w1286 : Cond.code yJ0_checkIndex_df160 cJ0_checkIndex_df160 2 none ∈ q_WU := q_tab6 _ (List.mem_of_getElem? (i := 128) rfl) rfl
theorem q_w1287 : Cond.static yJ0_checkIndex_df160 ∈ q_WU := q_tab6 _ (List.mem_of_getElem? (i := 127) rfl) rfl
theorem q_w1288 : Cond.methodLink RJ5 148 yJ2_getChar_3b067 ∈ q_WU := q_tab6 _ (List.mem_of_getElem? (i := 188) rfl) rfl
theorem q_w1289 : Cond.code yJ2_getChar_3b067 cJ2_getChar_3b067 2 (some .char) ∈ q_WU := q_tab6 _ (List.mem_of_getElem? (i := 46) rfl) rfl
theorem q_w1290 : Cond.static yJ2_getChar_3b067 ∈ q_WU := q_tab6 _ (List.mem_of_getElem? (i := 45) rfl) rfl
theorem q_w1291 : Cond.methodLink RJ5 204 ⟨"java/lang/AbstractStringBuilder", "appendNull", "()Ljava/lang/AbstractStringBuilder;"⟩ ∈ q_WU := q_tab5 _ (List.mem_of_getElem? (i := 98) rfl) rfl
theorem q_w1292 : Cond.code yJ5_appendNull_278bc cJ5_appendNull_278bc 3 (some (.object "java/lang/AbstractStringBuilder")) ∈ q_WU := q_tab5 _ (List.mem_of_getElem? (i := 101) rfl) rfl
theorem q_w1293 : Cond.sameMethod "java/lang/AbstractStringBuilder" "java/lang/AbstractStringBuilder" "appendNull" "()Ljava/lang/AbstractStringBuilder;" ∈ q_WU := q_tab10 _ (List.mem_of_getElem? (i := 44) rfl) rfl
theorem q_w1294 : Cond.selects RJ4 ⟨"java/lang/AbstractStringBuilder", "appendNull", "()Ljava/lang/AbstractStringBuilder;"⟩ yJ5_appendNull_278bc ∈ q_WU := q_xin _ (List.mem_of_getElem? (i := 2) rfl) rfl
theorem q_w1295 : Cond.instanceMethod yJ5_appendNull_278bc ∈ q_WU := q_tab5 _ (List.mem_of_getElem? (i := 100) rfl) rfl
theorem q_w1296 : Cond.methodLink RJ5 32 yJ0_length_8abf5 ∈ q_WU := q_tab5 _ (List.mem_of_getElem? (i := 166) rfl) rfl
theorem q_w1297 : Cond.methodLink RJ5 208 ⟨"java/lang/AbstractStringBuilder", "putStringAt", "(ILjava/lang/String;)V"⟩ ∈ q_WU := q_tab5 _ (List.mem_of_getElem? (i := 175) rfl) rfl
theorem q_w1298 : Cond.code yJ5_putStringAt_47b60 cJ5_putStringAt_47b60 3 none ∈ q_WU := q_tab5 _ (List.mem_of_getElem? (i := 178) rfl) rfl
theorem q_w1299 : Cond.sameMethod "java/lang/AbstractStringBuilder" "java/lang/AbstractStringBuilder" "putStringAt" "(ILjava/lang/String;)V" ∈ q_WU := q_tab10 _ (List.mem_of_getElem? (i := 47) rfl) rfl
theorem q_w1300 : Cond.selects RJ4 ⟨"java/lang/AbstractStringBuilder", "putStringAt", "(ILjava/lang/String;)V"⟩ yJ5_putStringAt_47b60 ∈ q_WU := q_xin _ (List.mem_of_getElem? (i := 3) rfl) rfl
theorem q_w1301 : Cond.instanceMethod yJ5_putStringAt_47b60 ∈ q_WU := q_tab5 _ (List.mem_of_getElem? (i := 177) rfl) rfl
theorem q_w1302 : Cond.methodLink RJ5 226 yJ2_putCharsAt_cd4e5 ∈ q_WU := q_tab5 _ (List.mem_of_getElem? (i := 140) rfl) rfl
theorem q_w1303 : Cond.code yJ2_putCharsAt_cd4e5 cJ2_putCharsAt_cd4e5 7 (some .int) ∈ q_WU := q_tab5 _ (List.mem_of_getElem? (i := 142) rfl) rfl
theorem q_w1304 : Cond.static yJ2_putCharsAt_cd4e5 ∈ q_WU := q_tab5 _ (List.mem_of_getElem? (i := 141) rfl) rfl
theorem q_w1305 : Cond.methodLink RJ5 191 yJ1_canEncode_fc78d ∈ q_WU := q_tab6 _ (List.mem_of_getElem? (i := 117) rfl) rfl
theorem q_w1306 : Cond.code yJ1_canEncode_fc78d cJ1_canEncode_fc78d 1 (some .boolean) ∈ q_WU := q_tab6 _ (List.mem_of_getElem? (i := 119) rfl) rfl
theorem q_w1307 : Cond.static yJ1_canEncode_fc78d ∈ q_WU := q_tab6 _ (List.mem_of_getElem? (i := 118) rfl) rfl
theorem q_w1308 : Cond.methodLink RJ5 195 ⟨"java/lang/AbstractStringBuilder", "inflate", "()V"⟩ ∈ q_WU := q_tab5 _ (List.mem_of_getElem? (i := 184) rfl) rfl
theorem q_w1309 : Cond.code yJ5_inflate_da8c8 cJ5_inflate_da8c8 2 none ∈ q_WU := q_tab5 _ (List.mem_of_getElem? (i := 187) rfl) rfl
theorem q_w1310 : Cond.sameMethod "java/lang/AbstractStringBuilder" "java/lang/AbstractStringBuilder" "inflate" "()V" ∈ q_WU := q_tab10 _ (List.mem_of_getElem? (i := 49) rfl) rfl
theorem q_w1311 : Cond.selects RJ4 ⟨"java/lang/AbstractStringBuilder", "inflate", "()V"⟩ yJ5_inflate_da8c8 ∈ q_WU := q_xin _ (List.mem_of_getElem? (i := 4) rfl) rfl
theorem q_w1312 : Cond.instanceMethod yJ5_inflate_da8c8 ∈ q_WU := q_tab5 _ (List.mem_of_getElem? (i := 186) rfl) rfl
theorem q_w1313 : Cond.methodLink RJ5 197 yJ2_putCharSB_b72d1 ∈ q_WU := q_tab6 _ (List.mem_of_getElem? (i := 120) rfl) rfl
theorem q_w1314 : Cond.code yJ2_putCharSB_b72d1 cJ2_putCharSB_b72d1 3 none ∈ q_WU := q_tab6 _ (List.mem_of_getElem? (i := 122) rfl) rfl
theorem q_w1315 : Cond.static yJ2_putCharSB_b72d1 ∈ q_WU := q_tab6 _ (List.mem_of_getElem? (i := 121) rfl) rfl
theorem q_w1316 : Cond.methodLink RJ5 245 yJ6_stringSize_0f7a4 ∈ q_WU := q_tab5 _ (List.mem_of_getElem? (i := 216) rfl) rfl
theorem q_w1317 : Cond.code yJ6_stringSize_0f7a4 cJ6_stringSize_0f7a4 4 (some .int) ∈ q_WU := q_tab5 _ (List.mem_of_getElem? (i := 218) rfl) rfl
theorem q_w1318 : Cond.static yJ6_stringSize_0f7a4 ∈ q_WU := q_tab5 _ (List.mem_of_getElem? (i := 217) rfl) rfl
theorem q_w1319 : Cond.methodLink RJ5 248 yJ6_getChars_ba4f3 ∈ q_WU := q_tab5 _ (List.mem_of_getElem? (i := 219) rfl) rfl
theorem q_w1320 : Cond.code yJ6_getChars_ba4f3 cJ6_getChars_ba4f3 7 (some .int) ∈ q_WU := q_tab5 _ (List.mem_of_getElem? (i := 221) rfl) rfl
theorem q_w1321 : Cond.static yJ6_getChars_ba4f3 ∈ q_WU := q_tab5 _ (List.mem_of_getElem? (i := 220) rfl) rfl
theorem q_w1322 : Cond.methodLink RJ5 251 yJ2_getChars_46870 ∈ q_WU := q_tab5 _ (List.mem_of_getElem? (i := 226) rfl) rfl
theorem q_w1323 : Cond.code yJ2_getChars_46870 cJ2_getChars_46870 5 (some .int) ∈ q_WU := q_tab5 _ (List.mem_of_getElem? (i := 228) rfl) rfl
theorem q_w1324 : Cond.static yJ2_getChars_46870 ∈ q_WU := q_tab5 _ (List.mem_of_getElem? (i := 227) rfl) rfl
theorem q_w1325 : Cond.methodLink RJ5 40 yJ0_coder_7d493 ∈ q_WU := q_tab5 _ (List.mem_of_getElem? (i := 183) rfl) rfl
theorem q_w1326 : Cond.code yJ0_coder_7d493 cJ0_coder_7d493 1 (some .byte) ∈ q_WU := q_tab5 _ (List.mem_of_getElem? (i := 173) rfl) rfl
theorem q_w1327 : Cond.instanceMethod yJ0_coder_7d493 ∈ q_WU := q_tab5 _ (List.mem_of_getElem? (i := 171) rfl) rfl
theorem q_w1328 : Cond.selects RJ0 yJ0_coder_7d493 yJ0_coder_7d493 ∈ q_WU := q_tab5 _ (List.mem_of_getElem? (i := 172) rfl) rfl
theorem q_w1329 : Cond.methodLink RJ5 397 ⟨"java/lang/AbstractStringBuilder", "inflateIfNeededFor", "(Ljava/lang/String;)V"⟩ ∈ q_WU := q_tab5 _ (List.mem_of_getElem? (i := 179) rfl) rfl
theorem q_w1330 : Cond.code yJ5_inflateIfNeededFor_a7421 cJ5_inflateIfNeededFor_a7421 2 none ∈ q_WU := q_tab5 _ (List.mem_of_getElem? (i := 182) rfl) rfl
theorem q_w1331 : Cond.sameMethod "java/lang/AbstractStringBuilder" "java/lang/AbstractStringBuilder" "inflateIfNeededFor" "(Ljava/lang/String;)V" ∈ q_WU := q_tab10 _ (List.mem_of_getElem? (i := 48) rfl) rfl
theorem q_w1332 : Cond.selects RJ4 ⟨"java/lang/AbstractStringBuilder", "inflateIfNeededFor", "(Ljava/lang/String;)V"⟩ yJ5_inflateIfNeededFor_a7421 ∈ q_WU := q_xin _ (List.mem_of_getElem? (i := 5) rfl) rfl
theorem q_w1333 : Cond.instanceMethod yJ5_inflateIfNeededFor_a7421 ∈ q_WU := q_tab5 _ (List.mem_of_getElem? (i := 181) rfl) rfl
theorem q_w1334 : Cond.methodLink RJ5 399 yJ0_getBytes_840e7 ∈ q_WU := q_tab5 _ (List.mem_of_getElem? (i := 203) rfl) rfl
theorem q_w1335 : Cond.code yJ0_getBytes_840e7 cJ0_getBytes_840e7 4 none ∈ q_WU := q_tab5 _ (List.mem_of_getElem? (i := 206) rfl) rfl
theorem q_w1336 : Cond.instanceMethod yJ0_getBytes_840e7 ∈ q_WU := q_tab5 _ (List.mem_of_getElem? (i := 204) rfl) rfl
theorem q_w1337 : Cond.selects RJ0 yJ0_getBytes_840e7 yJ0_getBytes_840e7 ∈ q_WU := q_tab5 _ (List.mem_of_getElem? (i := 205) rfl) rfl
theorem q_w1338 : Cond.fieldLink RJ0 9 "java/lang/String" "value" "[B" ∈ q_WU := q_tab6 _ (List.mem_of_getElem? (i := 51) rfl) rfl
theorem q_w1339 : Cond.methodLink RJ0 335 yJ0_coder_7d493 ∈ q_WU := q_tab5 _ (List.mem_of_getElem? (i := 170) rfl) rfl
theorem q_w1340 : Cond.methodLink RJ0 492 yJ0_isLatin1_aae02 ∈ q_WU := q_tab6 _ (List.mem_of_getElem? (i := 144) rfl) rfl
theorem q_w1341 : Cond.code yJ0_isLatin1_aae02 cJ0_isLatin1_aae02 1 (some .boolean) ∈ q_WU := q_tab6 _ (List.mem_of_getElem? (i := 147) rfl) rfl
theorem q_w1342 : Cond.instanceMethod yJ0_isLatin1_aae02 ∈ q_WU := q_tab6 _ (List.mem_of_getElem? (i := 145) rfl) rfl
theorem q_w1343 : Cond.selects RJ0 yJ0_isLatin1_aae02 yJ0_isLatin1_aae02 ∈ q_WU := q_tab6 _ (List.mem_of_getElem? (i := 146) rfl) rfl
theorem q_w1344 : Cond.methodLink RJ0 495 yJ1_charAt_3b067 ∈ q_WU := q_tab6 _ (List.mem_of_getElem? (i := 148) rfl) rfl
theorem q_w1345 : Cond.code yJ1_charAt_3b067 cJ1_charAt_3b067 2 (some .char) ∈ q_WU := q_tab6 _ (List.mem_of_getElem? (i := 150) rfl) rfl
theorem q_w1346 : Cond.static yJ1_charAt_3b067 ∈ q_WU := q_tab6 _ (List.mem_of_getElem? (i := 149) rfl) rfl
theorem q_w1347 : Cond.methodLink RJ0 498 yJ2_charAt_3b067 ∈ q_WU := q_tab6 _ (List.mem_of_getElem? (i := 152) rfl) rfl
theorem q_w1348 : Cond.code yJ2_charAt_3b067 cJ2_charAt_3b067 2 (some .char) ∈ q_WU := q_tab6 _ (List.mem_of_getElem? (i := 154) rfl) rfl
theorem q_w1349 : Cond.static yJ2_charAt_3b067 ∈ q_WU := q_tab6 _ (List.mem_of_getElem? (i := 153) rfl) rfl
theorem q_w1350 : Cond.methodLink RJ0 212 arraycopyName ∈ q_WU := q_tab5 _ (List.mem_of_getElem? (i := 207) rfl) rfl
theorem q_w1351 : Cond.methodLink RJ0 106 yJ1_inflate_0e8fd ∈ q_WU := q_tab5 _ (List.mem_of_getElem? (i := 208) rfl) rfl
theorem q_w1352 : Cond.fieldLink RJ0 38 "java/lang/String" "COMPACT_STRINGS" "Z" ∈ q_WU := q_tab5 _ (List.mem_of_getElem? (i := 174) rfl) rfl
theorem q_w1353 : Cond.fieldLink RJ0 15 "java/lang/String" "coder" "B" ∈ q_WU := q_tab6 _ (List.mem_of_getElem? (i := 52) rfl) rfl
theorem q_w1354 : Cond.fieldLink RJ0 1053 "jdk/internal/util/Preconditions" "SIOOBE_FORMATTER" "Ljava/util/function/BiFunction;" ∈ q_WU := q_tab5 _ (List.mem_of_getElem? (i := 152) rfl) rfl
theorem q_w1355 : Cond.methodLink RJ0 1059 yJ3_checkIndex_8e157 ∈ q_WU := q_tab6 _ (List.mem_of_getElem? (i := 129) rfl) rfl
theorem q_w1356 : Cond.code yJ3_checkIndex_8e157 cJ3_checkIndex_8e157 3 (some .int) ∈ q_WU := q_tab6 _ (List.mem_of_getElem? (i := 131) rfl) rfl
theorem q_w1357 : Cond.static yJ3_checkIndex_8e157 ∈ q_WU := q_tab6 _ (List.mem_of_getElem? (i := 130) rfl) rfl
theorem q_w1358 : Cond.initialized RJ3 ∈ q_WU := q_tab1 _ (List.mem_of_getElem? (i := 30) rfl) rfl
theorem q_w1359 : Cond.methodLink RJ0 1065 yJ3_checkFromIndexSize_8c36e ∈ q_WU := q_tab5 _ (List.mem_of_getElem? (i := 200) rfl) rfl
theorem q_w1360 : Cond.code yJ3_checkFromIndexSize_8c36e cJ3_checkFromIndexSize_8c36e 4 (some .int) ∈ q_WU := q_tab5 _ (List.mem_of_getElem? (i := 202) rfl) rfl
theorem q_w1361 : Cond.static yJ3_checkFromIndexSize_8c36e ∈ q_WU := q_tab5 _ (List.mem_of_getElem? (i := 201) rfl) rfl
theorem q_w1362 : Cond.methodLink RJ0 1062 yJ3_checkFromToIndex_8c36e ∈ q_WU := q_tab5 _ (List.mem_of_getElem? (i := 154) rfl) rfl
theorem q_w1363 : Cond.code yJ3_checkFromToIndex_8c36e cJ3_checkFromToIndex_8c36e 4 (some .int) ∈ q_WU := q_tab5 _ (List.mem_of_getElem? (i := 156) rfl) rfl
theorem q_w1364 : Cond.static yJ3_checkFromToIndex_8c36e ∈ q_WU := q_tab5 _ (List.mem_of_getElem? (i := 155) rfl) rfl
theorem q_w1365 : Cond.methodLink RJ1 9 yJ0_checkIndex_df160 ∈ q_WU := q_tab6 _ (List.mem_of_getElem? (i := 151) rfl) rfl
theorem q_w1366 : Cond.methodLink RJ1 236 yJ7_fill_eb02e ∈ q_WU := q_tab6 _ (List.mem_of_getElem? (i := 73) rfl) rfl
theorem q_w1367 : Cond.code yJ7_fill_eb02e cJ7_fill_eb02e 5 none ∈ q_WU := q_tab6 _ (List.mem_of_getElem? (i := 75) rfl) rfl
theorem q_w1368 : Cond.static yJ7_fill_eb02e ∈ q_WU := q_tab6 _ (List.mem_of_getElem? (i := 74) rfl) rfl
theorem q_w1369 : Cond.methodLink RJ1 240 yJ2_inflate_0e8fd ∈ q_WU := q_tab5 _ (List.mem_of_getElem? (i := 191) rfl) rfl
theorem q_w1370 : Cond.code yJ2_inflate_0e8fd cJ2_inflate_0e8fd 6 none ∈ q_WU := q_tab5 _ (List.mem_of_getElem? (i := 193) rfl) rfl
theorem q_w1371 : Cond.static yJ2_inflate_0e8fd ∈ q_WU := q_tab5 _ (List.mem_of_getElem? (i := 192) rfl) rfl
theorem q_w1372 : Cond.methodLink RJ2 11 yJ2_newBytesLength_0f7a4 ∈ q_WU := q_tab2 _ (List.mem_of_getElem? (i := 96) rfl) rfl
theorem q_w1373 : Cond.code yJ2_newBytesLength_0f7a4 cJ2_newBytesLength_0f7a4 1 (some .int) ∈ q_WU := q_tab2 _ (List.mem_of_getElem? (i := 98) rfl) rfl
theorem q_w1374 : Cond.static yJ2_newBytesLength_0f7a4 ∈ q_WU := q_tab2 _ (List.mem_of_getElem? (i := 97) rfl) rfl
theorem q_w1375 : Cond.constant RJ2 20 (1073741823) ∈ q_WU := q_tab2 _ (List.mem_of_getElem? (i := 99) rfl) rfl
theorem q_w1376 : Cond.fieldLink RJ2 44 "java/lang/StringUTF16" "$assertionsDisabled" "Z" ∈ q_WU := q_tab5 _ (List.mem_of_getElem? (i := 160) rfl) rfl
theorem q_w1377 : Cond.methodLink RJ2 48 yJ2_length_9d52b ∈ q_WU := q_tab5 _ (List.mem_of_getElem? (i := 146) rfl) rfl
theorem q_w1378 : Cond.code yJ2_length_9d52b cJ2_length_9d52b 1 (some .int) ∈ q_WU := q_tab5 _ (List.mem_of_getElem? (i := 148) rfl) rfl
theorem q_w1379 : Cond.static yJ2_length_9d52b ∈ q_WU := q_tab5 _ (List.mem_of_getElem? (i := 147) rfl) rfl
theorem q_w1380 : Cond.fieldLink RJ2 59 "java/lang/StringUTF16" "HI_BYTE_SHIFT" "I" ∈ q_WU := q_tab5 _ (List.mem_of_getElem? (i := 162) rfl) rfl
theorem q_w1381 : Cond.fieldLink RJ2 63 "java/lang/StringUTF16" "LO_BYTE_SHIFT" "I" ∈ q_WU := q_tab5 _ (List.mem_of_getElem? (i := 164) rfl) rfl
theorem q_w1382 : Cond.methodLink RJ2 380 yJ7_fill_eb02e ∈ q_WU := q_tab6 _ (List.mem_of_getElem? (i := 108) rfl) rfl
theorem q_w1383 : Cond.methodLink RJ2 67 yJ2_checkIndex_2214a ∈ q_WU := q_tab6 _ (List.mem_of_getElem? (i := 123) rfl) rfl
theorem q_w1384 : Cond.code yJ2_checkIndex_2214a cJ2_checkIndex_2214a 2 none ∈ q_WU := q_tab6 _ (List.mem_of_getElem? (i := 125) rfl) rfl
theorem q_w1385 : Cond.static yJ2_checkIndex_2214a ∈ q_WU := q_tab6 _ (List.mem_of_getElem? (i := 124) rfl) rfl
theorem q_w1386 : Cond.methodLink RJ2 111 yJ2_putChar_b72d1 ∈ q_WU := q_tab5 _ (List.mem_of_getElem? (i := 157) rfl) rfl
theorem q_w1387 : Cond.code yJ2_putChar_b72d1 cJ2_putChar_b72d1 3 none ∈ q_WU := q_tab5 _ (List.mem_of_getElem? (i := 159) rfl) rfl
theorem q_w1388 : Cond.static yJ2_putChar_b72d1 ∈ q_WU := q_tab5 _ (List.mem_of_getElem? (i := 158) rfl) rfl
theorem q_w1389 : Cond.methodLink RJ2 96 yJ2_checkBoundsBeginEnd_d044e ∈ q_WU := q_tab5 _ (List.mem_of_getElem? (i := 143) rfl) rfl
theorem q_w1390 : Cond.code yJ2_checkBoundsBeginEnd_d044e cJ2_checkBoundsBeginEnd_d044e 3 none ∈ q_WU := q_tab5 _ (List.mem_of_getElem? (i := 145) rfl) rfl
theorem q_w1391 : Cond.static yJ2_checkBoundsBeginEnd_d044e ∈ q_WU := q_tab5 _ (List.mem_of_getElem? (i := 144) rfl) rfl
theorem q_w1392 : Cond.methodLink RJ2 393 yJ2_getChars_ba4f3 ∈ q_WU := q_tab5 _ (List.mem_of_getElem? (i := 229) rfl) rfl
theorem q_w1393 : Cond.code yJ2_getChars_ba4f3 cJ2_getChars_ba4f3 7 (some .int) ∈ q_WU := q_tab5 _ (List.mem_of_getElem? (i := 231) rfl) rfl
theorem q_w1394 : Cond.static yJ2_getChars_ba4f3 ∈ q_WU := q_tab5 _ (List.mem_of_getElem? (i := 230) rfl) rfl
theorem q_w1395 : Cond.methodLink RJ2 71 yJ2_getChar_3b067 ∈ q_WU := q_tab6 _ (List.mem_of_getElem? (i := 44) rfl) rfl
theorem q_w1396 : Cond.methodLink RJ2 173 yJ2_checkBoundsOffCount_d044e ∈ q_WU := q_tab5 _ (List.mem_of_getElem? (i := 194) rfl) rfl
theorem q_w1397 : Cond.code yJ2_checkBoundsOffCount_d044e cJ2_checkBoundsOffCount_d044e 3 none ∈ q_WU := q_tab5 _ (List.mem_of_getElem? (i := 196) rfl) rfl
theorem q_w1398 : Cond.static yJ2_checkBoundsOffCount_d044e ∈ q_WU := q_tab5 _ (List.mem_of_getElem? (i := 195) rfl) rfl
theorem q_w1399 : Cond.fieldLink RJ2 403 "java/lang/Integer" "DigitOnes" "[B" ∈ q_WU := q_tab5 _ (List.mem_of_getElem? (i := 232) rfl) rfl
theorem q_w1400 : Cond.fieldLink RJ2 407 "java/lang/Integer" "DigitTens" "[B" ∈ q_WU := q_tab5 _ (List.mem_of_getElem? (i := 233) rfl) rfl
theorem q_w1401 : Cond.methodLink RJ2 414 yJ0_checkIndex_df160 ∈ q_WU := q_tab6 _ (List.mem_of_getElem? (i := 126) rfl) rfl
theorem q_w1402 : Cond.methodLink RJ2 241 yJ0_checkBoundsBeginEnd_23922 ∈ q_WU := q_tab5 _ (List.mem_of_getElem? (i := 149) rfl) rfl
theorem q_w1403 : Cond.code yJ0_checkBoundsBeginEnd_23922 cJ0_checkBoundsBeginEnd_23922 3 none ∈ q_WU := q_tab5 _ (List.mem_of_getElem? (i := 151) rfl) rfl
theorem q_w1404 : Cond.static yJ0_checkBoundsBeginEnd_23922 ∈ q_WU := q_tab5 _ (List.mem_of_getElem? (i := 150) rfl) rfl
theorem q_w1405 : Cond.methodLink RJ2 419 yJ0_checkBoundsOffCount_cabcc ∈ q_WU := q_tab5 _ (List.mem_of_getElem? (i := 197) rfl) rfl
theorem q_w1406 : Cond.code yJ0_checkBoundsOffCount_cabcc cJ0_checkBoundsOffCount_cabcc 3 (some .int) ∈ q_WU := q_tab5 _ (List.mem_of_getElem? (i := 199) rfl) rfl
theorem q_w1407 : Cond.static yJ0_checkBoundsOffCount_cabcc ∈ q_WU := q_tab5 _ (List.mem_of_getElem? (i := 198) rfl) rfl
theorem q_w1408 : Cond.methodLink RJ8 194 Lib.Math.max.name ∈ q_WU := q_tab5 _ (List.mem_of_getElem? (i := 113) rfl) rfl
theorem q_w1409 : Cond.constant RJ8 200 (2147483639) ∈ q_WU := q_tab5 _ (List.mem_of_getElem? (i := 116) rfl) rfl
theorem q_w1410 : Cond.methodLink RJ8 201 yJ8_hugeLength_7cf53 ∈ q_WU := q_tab5 _ (List.mem_of_getElem? (i := 117) rfl) rfl
theorem q_w1411 : Cond.code yJ8_hugeLength_7cf53 cJ8_hugeLength_7cf53 3 (some .int) ∈ q_WU := q_tab5 _ (List.mem_of_getElem? (i := 119) rfl) rfl
theorem q_w1412 : Cond.static yJ8_hugeLength_7cf53 ∈ q_WU := q_tab5 _ (List.mem_of_getElem? (i := 118) rfl) rfl
theorem q_w1413 : Cond.classLink RL 8 RX11 ∈ q_WU := q_tab1 _ (List.mem_of_getElem? (i := 35) rfl) rfl
theorem q_w1414 : Cond.instantiable RX11 6 ∈ q_WU := q_tab1 _ (List.mem_of_getElem? (i := 36) rfl) rfl
theorem q_w1415 : Cond.methodLink RL 105 yX11_init ∈ q_WU := q_tab1 _ (List.mem_of_getElem? (i := 37) rfl) rfl
theorem q_w1416 : Cond.code yX11_init cX11_init 2 none ∈ q_WU := q_tab1 _ (List.mem_of_getElem? (i := 39) rfl) rfl
theorem q_w1417 : Cond.instanceMethod yX11_init ∈ q_WU := q_tab1 _ (List.mem_of_getElem? (i := 38) rfl) rfl
theorem q_w1418 : Cond.classLink RL 106 RX12 ∈ q_WU := q_tab7 _ (List.mem_of_getElem? (i := 158) rfl) rfl
theorem q_w1419 : Cond.instantiable RX12 40 ∈ q_WU := q_tab7 _ (List.mem_of_getElem? (i := 159) rfl) rfl
theorem q_w1420 : Cond.methodLink RL 108 yX12_init ∈ q_WU := q_tab7 _ (List.mem_of_getElem? (i := 160) rfl) rfl
theorem q_w1421 : Cond.code yX12_init cX12_init 1 none ∈ q_WU := q_tab7 _ (List.mem_of_getElem? (i := 162) rfl) rfl
theorem q_w1422 : Cond.instanceMethod yX12_init ∈ q_WU := q_tab7 _ (List.mem_of_getElem? (i := 161) rfl) rfl
theorem q_w1423 : Cond.methodLink RL 109 yL_poke ∈ q_WU := q_tab4 _ (List.mem_of_getElem? (i := 160) rfl) rfl
theorem q_w1424 : Cond.codeWith yL_poke cL_poke 5 (some .int) [(0, 10, 13, 13), (0, 10, 17, 15)] ∈ q_WU := q_tab4 _ (List.mem_of_getElem? (i := 162) rfl) rfl
theorem q_w1425 : Cond.static yL_poke ∈ q_WU := q_tab4 _ (List.mem_of_getElem? (i := 161) rfl) rfl
theorem q_w1426 : Cond.initialized RL ∈ q_WU := q_tab1 _ (List.mem_of_getElem? (i := 0) rfl) rfl
theorem q_w1427 : Cond.methodLink RL 114 yX12_poke ∈ q_WU := q_tab8 _ (List.mem_of_getElem? (i := 52) rfl) rfl
theorem q_w1428 : Cond.code yX12_poke cX12_poke 4 (some .int) ∈ q_WU := q_tab8 _ (List.mem_of_getElem? (i := 55) rfl) rfl
theorem q_w1429 : Cond.instanceMethod yX12_poke ∈ q_WU := q_tab8 _ (List.mem_of_getElem? (i := 53) rfl) rfl
theorem q_w1430 : Cond.selects RX12 yX12_poke yX12_poke ∈ q_WU := q_tab8 _ (List.mem_of_getElem? (i := 54) rfl) rfl
theorem q_w1431 : Cond.methodLink RL 115 yL_pokeRom ∈ q_WU := q_tab5 _ (List.mem_of_getElem? (i := 27) rfl) rfl
theorem q_w1432 : Cond.codeWith yL_pokeRom cL_pokeRom 5 (some .int) [(0, 10, 13, 13), (0, 10, 17, 15)] ∈ q_WU := q_tab5 _ (List.mem_of_getElem? (i := 29) rfl) rfl
theorem q_w1433 : Cond.static yL_pokeRom ∈ q_WU := q_tab5 _ (List.mem_of_getElem? (i := 28) rfl) rfl
theorem q_w1434 : Cond.methodLink RL 117 yX12_pokeRom ∈ q_WU := q_tab8 _ (List.mem_of_getElem? (i := 109) rfl) rfl
theorem q_w1435 : Cond.code yX12_pokeRom cX12_pokeRom 4 (some .int) ∈ q_WU := q_tab8 _ (List.mem_of_getElem? (i := 112) rfl) rfl
theorem q_w1436 : Cond.instanceMethod yX12_pokeRom ∈ q_WU := q_tab8 _ (List.mem_of_getElem? (i := 110) rfl) rfl
theorem q_w1437 : Cond.selects RX12 yX12_pokeRom yX12_pokeRom ∈ q_WU := q_tab8 _ (List.mem_of_getElem? (i := 111) rfl) rfl
theorem q_w1438 : Cond.methodLink RL 118 yL_pokeCartridge ∈ q_WU := q_tab5 _ (List.mem_of_getElem? (i := 34) rfl) rfl
theorem q_w1439 : Cond.codeWith yL_pokeCartridge cL_pokeCartridge 6 (some .int) [(0, 12, 15, 13), (0, 12, 19, 15)] ∈ q_WU := q_tab5 _ (List.mem_of_getElem? (i := 36) rfl) rfl
theorem q_w1440 : Cond.static yL_pokeCartridge ∈ q_WU := q_tab5 _ (List.mem_of_getElem? (i := 35) rfl) rfl
theorem q_w1441 : Cond.methodLink RL 121 yX12_pokeCartridge ∈ q_WU := q_tab8 _ (List.mem_of_getElem? (i := 113) rfl) rfl
theorem q_w1442 : Cond.code yX12_pokeCartridge cX12_pokeCartridge 5 (some .int) ∈ q_WU := q_tab8 _ (List.mem_of_getElem? (i := 116) rfl) rfl
theorem q_w1443 : Cond.instanceMethod yX12_pokeCartridge ∈ q_WU := q_tab8 _ (List.mem_of_getElem? (i := 114) rfl) rfl
theorem q_w1444 : Cond.selects RX12 yX12_pokeCartridge yX12_pokeCartridge ∈ q_WU := q_tab8 _ (List.mem_of_getElem? (i := 115) rfl) rfl
theorem q_w1445 : Cond.methodLink RL 122 yL_peek ∈ q_WU := q_tab5 _ (List.mem_of_getElem? (i := 41) rfl) rfl
theorem q_w1446 : Cond.codeWith yL_peek cL_peek 4 (some .int) [(0, 9, 12, 13)] ∈ q_WU := q_tab5 _ (List.mem_of_getElem? (i := 43) rfl) rfl
theorem q_w1447 : Cond.static yL_peek ∈ q_WU := q_tab5 _ (List.mem_of_getElem? (i := 42) rfl) rfl
theorem q_w1448 : Cond.methodLink RL 125 yX12_peek ∈ q_WU := q_tab8 _ (List.mem_of_getElem? (i := 117) rfl) rfl
theorem q_w1449 : Cond.code yX12_peek cX12_peek 2 (some .int) ∈ q_WU := q_tab8 _ (List.mem_of_getElem? (i := 120) rfl) rfl
theorem q_w1450 : Cond.instanceMethod yX12_peek ∈ q_WU := q_tab8 _ (List.mem_of_getElem? (i := 118) rfl) rfl
theorem q_w1451 : Cond.selects RX12 yX12_peek yX12_peek ∈ q_WU := q_tab8 _ (List.mem_of_getElem? (i := 119) rfl) rfl
theorem q_w1452 : Cond.methodLink RL 126 yL_ram ∈ q_WU := q_tab5 _ (List.mem_of_getElem? (i := 49) rfl) rfl
theorem q_w1453 : Cond.codeWith yL_ram cL_ram 4 (some .int) [(0, 9, 12, 13)] ∈ q_WU := q_tab5 _ (List.mem_of_getElem? (i := 51) rfl) rfl
theorem q_w1454 : Cond.static yL_ram ∈ q_WU := q_tab5 _ (List.mem_of_getElem? (i := 50) rfl) rfl
theorem q_w1455 : Cond.methodLink RL 128 yX12_ram ∈ q_WU := q_tab8 _ (List.mem_of_getElem? (i := 121) rfl) rfl
theorem q_w1456 : Cond.code yX12_ram cX12_ram 2 (some .int) ∈ q_WU := q_tab8 _ (List.mem_of_getElem? (i := 124) rfl) rfl
theorem q_w1457 : Cond.instanceMethod yX12_ram ∈ q_WU := q_tab8 _ (List.mem_of_getElem? (i := 122) rfl) rfl
theorem q_w1458 : Cond.selects RX12 yX12_ram yX12_ram ∈ q_WU := q_tab8 _ (List.mem_of_getElem? (i := 123) rfl) rfl
theorem q_w1459 : Cond.methodLink RL 129 yL_assemble ∈ q_WU := q_tab5 _ (List.mem_of_getElem? (i := 56) rfl) rfl
theorem q_w1460 : Cond.codeWith yL_assemble cL_assemble 6 (some .int) [(0, 12, 15, 13), (0, 12, 19, 15)] ∈ q_WU := q_tab5 _ (List.mem_of_getElem? (i := 58) rfl) rfl
theorem q_w1461 : Cond.static yL_assemble ∈ q_WU := q_tab5 _ (List.mem_of_getElem? (i := 57) rfl) rfl
theorem q_w1462 : Cond.methodLink RL 131 yX12_assemble ∈ q_WU := q_tab9 _ (List.mem_of_getElem? (i := 126) rfl) rfl
theorem q_w1463 : Cond.code yX12_assemble cX12_assemble 4 (some .int) ∈ q_WU := q_tab9 _ (List.mem_of_getElem? (i := 129) rfl) rfl
theorem q_w1464 : Cond.instanceMethod yX12_assemble ∈ q_WU := q_tab9 _ (List.mem_of_getElem? (i := 127) rfl) rfl
theorem q_w1465 : Cond.selects RX12 yX12_assemble yX12_assemble ∈ q_WU := q_tab9 _ (List.mem_of_getElem? (i := 128) rfl) rfl
theorem q_w1466 : Cond.methodLink RL 132 yL_writeLine ∈ q_WU := q_tab5 _ (List.mem_of_getElem? (i := 64) rfl) rfl
theorem q_w1467 : Cond.codeWith yL_writeLine cL_writeLine 4 (some .int) [(0, 9, 12, 13)] ∈ q_WU := q_tab5 _ (List.mem_of_getElem? (i := 66) rfl) rfl
theorem q_w1468 : Cond.static yL_writeLine ∈ q_WU := q_tab5 _ (List.mem_of_getElem? (i := 65) rfl) rfl
theorem q_w1469 : Cond.methodLink RL 134 yX12_writeLine ∈ q_WU := q_tab9 _ (List.mem_of_getElem? (i := 130) rfl) rfl
theorem q_w1470 : Cond.code yX12_writeLine cX12_writeLine 3 (some .int) ∈ q_WU := q_tab9 _ (List.mem_of_getElem? (i := 133) rfl) rfl
theorem q_w1471 : Cond.instanceMethod yX12_writeLine ∈ q_WU := q_tab9 _ (List.mem_of_getElem? (i := 131) rfl) rfl
theorem q_w1472 : Cond.selects RX12 yX12_writeLine yX12_writeLine ∈ q_WU := q_tab9 _ (List.mem_of_getElem? (i := 132) rfl) rfl
theorem q_w1473 : Cond.methodLink RL 135 yL_lineAt ∈ q_WU := q_tab6 _ (List.mem_of_getElem? (i := 172) rfl) rfl
theorem q_w1474 : Cond.codeWith yL_lineAt cL_lineAt 4 (some .int) [(0, 9, 12, 13)] ∈ q_WU := q_tab6 _ (List.mem_of_getElem? (i := 174) rfl) rfl
theorem q_w1475 : Cond.static yL_lineAt ∈ q_WU := q_tab6 _ (List.mem_of_getElem? (i := 173) rfl) rfl
theorem q_w1476 : Cond.methodLink RL 137 yX12_lineAt ∈ q_WU := q_tab9 _ (List.mem_of_getElem? (i := 161) rfl) rfl
theorem q_w1477 : Cond.code yX12_lineAt cX12_lineAt 2 (some .char) ∈ q_WU := q_tab9 _ (List.mem_of_getElem? (i := 164) rfl) rfl
theorem q_w1478 : Cond.instanceMethod yX12_lineAt ∈ q_WU := q_tab9 _ (List.mem_of_getElem? (i := 162) rfl) rfl
theorem q_w1479 : Cond.selects RX12 yX12_lineAt yX12_lineAt ∈ q_WU := q_tab9 _ (List.mem_of_getElem? (i := 163) rfl) rfl
theorem q_w1480 : Cond.methodLink RL 138 yL_compare ∈ q_WU := q_tab6 _ (List.mem_of_getElem? (i := 189) rfl) rfl
theorem q_w1481 : Cond.codeWith yL_compare cL_compare 6 (some .int) [(0, 12, 15, 13), (0, 12, 19, 15)] ∈ q_WU := q_tab6 _ (List.mem_of_getElem? (i := 191) rfl) rfl
theorem q_w1482 : Cond.static yL_compare ∈ q_WU := q_tab6 _ (List.mem_of_getElem? (i := 190) rfl) rfl
theorem q_w1483 : Cond.methodLink RL 140 yX12_compare ∈ q_WU := q_tab8 _ (List.mem_of_getElem? (i := 125) rfl) rfl
theorem q_w1484 : Cond.code yX12_compare cX12_compare 6 (some .int) ∈ q_WU := q_tab8 _ (List.mem_of_getElem? (i := 128) rfl) rfl
theorem q_w1485 : Cond.instanceMethod yX12_compare ∈ q_WU := q_tab8 _ (List.mem_of_getElem? (i := 126) rfl) rfl
theorem q_w1486 : Cond.selects RX12 yX12_compare yX12_compare ∈ q_WU := q_tab8 _ (List.mem_of_getElem? (i := 127) rfl) rfl
theorem q_w1487 : Cond.methodLink RL 141 yL_register ∈ q_WU := q_tab6 _ (List.mem_of_getElem? (i := 196) rfl) rfl
theorem q_w1488 : Cond.codeWith yL_register cL_register 4 (some .int) [(0, 9, 12, 13)] ∈ q_WU := q_tab6 _ (List.mem_of_getElem? (i := 198) rfl) rfl
theorem q_w1489 : Cond.static yL_register ∈ q_WU := q_tab6 _ (List.mem_of_getElem? (i := 197) rfl) rfl
theorem q_w1490 : Cond.methodLink RL 143 yX12_register ∈ q_WU := q_tab9 _ (List.mem_of_getElem? (i := 165) rfl) rfl
theorem q_w1491 : Cond.code yX12_register cX12_register 2 (some .int) ∈ q_WU := q_tab9 _ (List.mem_of_getElem? (i := 168) rfl) rfl
theorem q_w1492 : Cond.instanceMethod yX12_register ∈ q_WU := q_tab9 _ (List.mem_of_getElem? (i := 166) rfl) rfl
theorem q_w1493 : Cond.selects RX12 yX12_register yX12_register ∈ q_WU := q_tab9 _ (List.mem_of_getElem? (i := 167) rfl) rfl
theorem q_w1494 : Cond.methodLink RL 144 yL_setRegister ∈ q_WU := q_tab6 _ (List.mem_of_getElem? (i := 204) rfl) rfl
theorem q_w1495 : Cond.codeWith yL_setRegister cL_setRegister 5 (some .int) [(0, 10, 13, 13), (0, 10, 17, 15), (0, 10, 21, 50)] ∈ q_WU := q_tab6 _ (List.mem_of_getElem? (i := 206) rfl) rfl
theorem q_w1496 : Cond.static yL_setRegister ∈ q_WU := q_tab6 _ (List.mem_of_getElem? (i := 205) rfl) rfl
theorem q_w1497 : Cond.methodLink RL 146 yX12_setRegister ∈ q_WU := q_tab9 _ (List.mem_of_getElem? (i := 169) rfl) rfl
theorem q_w1498 : Cond.code yX12_setRegister cX12_setRegister 4 (some .int) ∈ q_WU := q_tab9 _ (List.mem_of_getElem? (i := 172) rfl) rfl
theorem q_w1499 : Cond.instanceMethod yX12_setRegister ∈ q_WU := q_tab9 _ (List.mem_of_getElem? (i := 170) rfl) rfl
theorem q_w1500 : Cond.selects RX12 yX12_setRegister yX12_setRegister ∈ q_WU := q_tab9 _ (List.mem_of_getElem? (i := 171) rfl) rfl
theorem q_w1501 : Cond.methodLink RL 147 yX11_status ∈ q_WU := q_tab2 _ (List.mem_of_getElem? (i := 136) rfl) rfl
theorem q_w1502 : Cond.code yX11_status cX11_status 1 (some .int) ∈ q_WU := q_tab2 _ (List.mem_of_getElem? (i := 139) rfl) rfl
theorem q_w1503 : Cond.instanceMethod yX11_status ∈ q_WU := q_tab2 _ (List.mem_of_getElem? (i := 137) rfl) rfl
theorem q_w1504 : Cond.selects RX11 yX11_status yX11_status ∈ q_WU := q_tab2 _ (List.mem_of_getElem? (i := 138) rfl) rfl
theorem q_w1505 : Cond.methodLink RL 150 yX12_status ∈ q_WU := q_tab9 _ (List.mem_of_getElem? (i := 173) rfl) rfl
theorem q_w1506 : Cond.code yX12_status cX12_status 1 (some .int) ∈ q_WU := q_tab9 _ (List.mem_of_getElem? (i := 176) rfl) rfl
theorem q_w1507 : Cond.instanceMethod yX12_status ∈ q_WU := q_tab9 _ (List.mem_of_getElem? (i := 174) rfl) rfl
theorem q_w1508 : Cond.selects RX12 yX12_status yX12_status ∈ q_WU := q_tab9 _ (List.mem_of_getElem? (i := 175) rfl) rfl
theorem q_w1509 : Cond.methodLink RL 151 yX11_reset ∈ q_WU := q_tab2 _ (List.mem_of_getElem? (i := 140) rfl) rfl
theorem q_w1510 : Cond.code yX11_reset cX11_reset 1 (some .int) ∈ q_WU := q_tab2 _ (List.mem_of_getElem? (i := 143) rfl) rfl
theorem q_w1511 : Cond.instanceMethod yX11_reset ∈ q_WU := q_tab2 _ (List.mem_of_getElem? (i := 141) rfl) rfl
theorem q_w1512 : Cond.selects RX11 yX11_reset yX11_reset ∈ q_WU := q_tab2 _ (List.mem_of_getElem? (i := 142) rfl) rfl
theorem q_w1513 : Cond.methodLink RL 154 yX12_reset ∈ q_WU := q_tab9 _ (List.mem_of_getElem? (i := 177) rfl) rfl
theorem q_w1514 : Cond.code yX12_reset cX12_reset 2 (some .int) ∈ q_WU := q_tab9 _ (List.mem_of_getElem? (i := 180) rfl) rfl
theorem q_w1515 : Cond.instanceMethod yX12_reset ∈ q_WU := q_tab9 _ (List.mem_of_getElem? (i := 178) rfl) rfl
theorem q_w1516 : Cond.selects RX12 yX12_reset yX12_reset ∈ q_WU := q_tab9 _ (List.mem_of_getElem? (i := 179) rfl) rfl
theorem q_w1517 : Cond.methodLink RL 155 yX11_freeze ∈ q_WU := q_tab4 _ (List.mem_of_getElem? (i := 65) rfl) rfl
theorem q_w1518 : Cond.code yX11_freeze cX11_freeze 1 (some .int) ∈ q_WU := q_tab4 _ (List.mem_of_getElem? (i := 68) rfl) rfl
theorem q_w1519 : Cond.instanceMethod yX11_freeze ∈ q_WU := q_tab4 _ (List.mem_of_getElem? (i := 66) rfl) rfl
theorem q_w1520 : Cond.selects RX11 yX11_freeze yX11_freeze ∈ q_WU := q_tab4 _ (List.mem_of_getElem? (i := 67) rfl) rfl
theorem q_w1521 : Cond.methodLink RL 158 yX12_freeze ∈ q_WU := q_tab9 _ (List.mem_of_getElem? (i := 181) rfl) rfl
theorem q_w1522 : Cond.code yX12_freeze cX12_freeze 2 (some .int) ∈ q_WU := q_tab9 _ (List.mem_of_getElem? (i := 184) rfl) rfl
theorem q_w1523 : Cond.instanceMethod yX12_freeze ∈ q_WU := q_tab9 _ (List.mem_of_getElem? (i := 182) rfl) rfl
theorem q_w1524 : Cond.selects RX12 yX12_freeze yX12_freeze ∈ q_WU := q_tab9 _ (List.mem_of_getElem? (i := 183) rfl) rfl
theorem q_w1525 : Cond.methodLink RL 159 yL_run ∈ q_WU := q_tab6 _ (List.mem_of_getElem? (i := 228) rfl) rfl
theorem q_w1526 : Cond.codeWith yL_run cL_run 4 (some .int) [(0, 9, 12, 15)] ∈ q_WU := q_tab6 _ (List.mem_of_getElem? (i := 230) rfl) rfl
theorem q_w1527 : Cond.static yL_run ∈ q_WU := q_tab6 _ (List.mem_of_getElem? (i := 229) rfl) rfl
theorem q_w1528 : Cond.methodLink RL 161 yX12_run ∈ q_WU := q_tab8 _ (List.mem_of_getElem? (i := 132) rfl) rfl
theorem q_w1529 : Cond.code yX12_run cX12_run 4 (some .int) ∈ q_WU := q_tab8 _ (List.mem_of_getElem? (i := 135) rfl) rfl
theorem q_w1530 : Cond.instanceMethod yX12_run ∈ q_WU := q_tab8 _ (List.mem_of_getElem? (i := 133) rfl) rfl
theorem q_w1531 : Cond.selects RX12 yX12_run yX12_run ∈ q_WU := q_tab8 _ (List.mem_of_getElem? (i := 134) rfl) rfl
theorem q_w1532 : Cond.methodLink RL 162 yL_step ∈ q_WU := q_tab6 _ (List.mem_of_getElem? (i := 235) rfl) rfl
theorem q_w1533 : Cond.codeWith yL_step cL_step 3 (some .int) [(0, 8, 11, 50)] ∈ q_WU := q_tab6 _ (List.mem_of_getElem? (i := 237) rfl) rfl
theorem q_w1534 : Cond.static yL_step ∈ q_WU := q_tab6 _ (List.mem_of_getElem? (i := 236) rfl) rfl
theorem q_w1535 : Cond.methodLink RL 165 yX12_step ∈ q_WU := q_tab9 _ (List.mem_of_getElem? (i := 94) rfl) rfl
theorem q_w1536 : Cond.code yX12_step cX12_step 3 (some .int) ∈ q_WU := q_tab9 _ (List.mem_of_getElem? (i := 97) rfl) rfl
theorem q_w1537 : Cond.instanceMethod yX12_step ∈ q_WU := q_tab9 _ (List.mem_of_getElem? (i := 95) rfl) rfl
theorem q_w1538 : Cond.selects RX12 yX12_step yX12_step ∈ q_WU := q_tab9 _ (List.mem_of_getElem? (i := 96) rfl) rfl
theorem q_w1539 : Cond.methodLink RL 166 yX11_cycle ∈ q_WU := q_tab4 _ (List.mem_of_getElem? (i := 69) rfl) rfl
theorem q_w1540 : Cond.code yX11_cycle cX11_cycle 1 (some .long) ∈ q_WU := q_tab4 _ (List.mem_of_getElem? (i := 72) rfl) rfl
theorem q_w1541 : Cond.instanceMethod yX11_cycle ∈ q_WU := q_tab4 _ (List.mem_of_getElem? (i := 70) rfl) rfl
theorem q_w1542 : Cond.selects RX11 yX11_cycle yX11_cycle ∈ q_WU := q_tab4 _ (List.mem_of_getElem? (i := 71) rfl) rfl
theorem q_w1543 : Cond.methodLink RL 170 yX12_cycle ∈ q_WU := q_tab9 _ (List.mem_of_getElem? (i := 98) rfl) rfl
theorem q_w1544 : Cond.code yX12_cycle cX12_cycle 1 (some .long) ∈ q_WU := q_tab9 _ (List.mem_of_getElem? (i := 101) rfl) rfl
theorem q_w1545 : Cond.instanceMethod yX12_cycle ∈ q_WU := q_tab9 _ (List.mem_of_getElem? (i := 99) rfl) rfl
theorem q_w1546 : Cond.selects RX12 yX12_cycle yX12_cycle ∈ q_WU := q_tab9 _ (List.mem_of_getElem? (i := 100) rfl) rfl
theorem q_w1547 : Cond.methodLink RL 171 yX11_isPictures ∈ q_WU := q_tab4 _ (List.mem_of_getElem? (i := 73) rfl) rfl
theorem q_w1548 : Cond.code yX11_isPictures cX11_isPictures 1 (some .boolean) ∈ q_WU := q_tab4 _ (List.mem_of_getElem? (i := 76) rfl) rfl
theorem q_w1549 : Cond.instanceMethod yX11_isPictures ∈ q_WU := q_tab4 _ (List.mem_of_getElem? (i := 74) rfl) rfl
theorem q_w1550 : Cond.selects RX11 yX11_isPictures yX11_isPictures ∈ q_WU := q_tab4 _ (List.mem_of_getElem? (i := 75) rfl) rfl
theorem q_w1551 : Cond.methodLink RL 174 yX12_isPictures ∈ q_WU := q_tab9 _ (List.mem_of_getElem? (i := 102) rfl) rfl
theorem q_w1552 : Cond.code yX12_isPictures cX12_isPictures 1 (some .boolean) ∈ q_WU := q_tab9 _ (List.mem_of_getElem? (i := 105) rfl) rfl
theorem q_w1553 : Cond.instanceMethod yX12_isPictures ∈ q_WU := q_tab9 _ (List.mem_of_getElem? (i := 103) rfl) rfl
theorem q_w1554 : Cond.selects RX12 yX12_isPictures yX12_isPictures ∈ q_WU := q_tab9 _ (List.mem_of_getElem? (i := 104) rfl) rfl
theorem q_w1555 : Cond.methodLink RL 175 yX11_underWay ∈ q_WU := q_tab4 _ (List.mem_of_getElem? (i := 78) rfl) rfl
theorem q_w1556 : Cond.code yX11_underWay cX11_underWay 1 (some .int) ∈ q_WU := q_tab4 _ (List.mem_of_getElem? (i := 81) rfl) rfl
theorem q_w1557 : Cond.instanceMethod yX11_underWay ∈ q_WU := q_tab4 _ (List.mem_of_getElem? (i := 79) rfl) rfl
theorem q_w1558 : Cond.selects RX11 yX11_underWay yX11_underWay ∈ q_WU := q_tab4 _ (List.mem_of_getElem? (i := 80) rfl) rfl
theorem q_w1559 : Cond.methodLink RL 178 yX12_underWay ∈ q_WU := q_tab9 _ (List.mem_of_getElem? (i := 106) rfl) rfl
theorem q_w1560 : Cond.code yX12_underWay cX12_underWay 1 (some .int) ∈ q_WU := q_tab9 _ (List.mem_of_getElem? (i := 109) rfl) rfl
theorem q_w1561 : Cond.instanceMethod yX12_underWay ∈ q_WU := q_tab9 _ (List.mem_of_getElem? (i := 107) rfl) rfl
theorem q_w1562 : Cond.selects RX12 yX12_underWay yX12_underWay ∈ q_WU := q_tab9 _ (List.mem_of_getElem? (i := 108) rfl) rfl
theorem q_w1563 : Cond.methodLink RL 179 yX11_done ∈ q_WU := q_tab4 _ (List.mem_of_getElem? (i := 82) rfl) rfl
theorem q_w1564 : Cond.code yX11_done cX11_done 1 (some .int) ∈ q_WU := q_tab4 _ (List.mem_of_getElem? (i := 85) rfl) rfl
theorem q_w1565 : Cond.instanceMethod yX11_done ∈ q_WU := q_tab4 _ (List.mem_of_getElem? (i := 83) rfl) rfl
theorem q_w1566 : Cond.selects RX11 yX11_done yX11_done ∈ q_WU := q_tab4 _ (List.mem_of_getElem? (i := 84) rfl) rfl
theorem q_w1567 : Cond.methodLink RL 182 yX12_done ∈ q_WU := q_tab9 _ (List.mem_of_getElem? (i := 114) rfl) rfl
theorem q_w1568 : Cond.code yX12_done cX12_done 1 (some .int) ∈ q_WU := q_tab9 _ (List.mem_of_getElem? (i := 117) rfl) rfl
theorem q_w1569 : Cond.instanceMethod yX12_done ∈ q_WU := q_tab9 _ (List.mem_of_getElem? (i := 115) rfl) rfl
theorem q_w1570 : Cond.selects RX12 yX12_done yX12_done ∈ q_WU := q_tab9 _ (List.mem_of_getElem? (i := 116) rfl) rfl
theorem q_w1571 : Cond.methodLink RL 183 yX11_isJammed ∈ q_WU := q_tab4 _ (List.mem_of_getElem? (i := 86) rfl) rfl
theorem q_w1572 : Cond.code yX11_isJammed cX11_isJammed 1 (some .boolean) ∈ q_WU := q_tab4 _ (List.mem_of_getElem? (i := 89) rfl) rfl
theorem q_w1573 : Cond.instanceMethod yX11_isJammed ∈ q_WU := q_tab4 _ (List.mem_of_getElem? (i := 87) rfl) rfl
theorem q_w1574 : Cond.selects RX11 yX11_isJammed yX11_isJammed ∈ q_WU := q_tab4 _ (List.mem_of_getElem? (i := 88) rfl) rfl
theorem q_w1575 : Cond.methodLink RL 186 yX12_isJammed ∈ q_WU := q_tab9 _ (List.mem_of_getElem? (i := 118) rfl) rfl
theorem q_w1576 : Cond.code yX12_isJammed cX12_isJammed 1 (some .boolean) ∈ q_WU := q_tab9 _ (List.mem_of_getElem? (i := 121) rfl) rfl
theorem q_w1577 : Cond.instanceMethod yX12_isJammed ∈ q_WU := q_tab9 _ (List.mem_of_getElem? (i := 119) rfl) rfl
theorem q_w1578 : Cond.selects RX12 yX12_isJammed yX12_isJammed ∈ q_WU := q_tab9 _ (List.mem_of_getElem? (i := 120) rfl) rfl
theorem q_w1579 : Cond.methodLink RL 187 yL_traceAt ∈ q_WU := q_tab7 _ (List.mem_of_getElem? (i := 3) rfl) rfl
theorem q_w1580 : Cond.codeWith yL_traceAt cL_traceAt 4 (some .int) [(0, 9, 12, 13)] ∈ q_WU := q_tab7 _ (List.mem_of_getElem? (i := 5) rfl) rfl
theorem q_w1581 : Cond.static yL_traceAt ∈ q_WU := q_tab7 _ (List.mem_of_getElem? (i := 4) rfl) rfl
theorem q_w1582 : Cond.methodLink RL 189 yX12_traceAt ∈ q_WU := q_tab9 _ (List.mem_of_getElem? (i := 122) rfl) rfl
theorem q_w1583 : Cond.code yX12_traceAt cX12_traceAt 2 (some .int) ∈ q_WU := q_tab9 _ (List.mem_of_getElem? (i := 125) rfl) rfl
theorem q_w1584 : Cond.instanceMethod yX12_traceAt ∈ q_WU := q_tab9 _ (List.mem_of_getElem? (i := 123) rfl) rfl
theorem q_w1585 : Cond.selects RX12 yX12_traceAt yX12_traceAt ∈ q_WU := q_tab9 _ (List.mem_of_getElem? (i := 124) rfl) rfl
theorem q_w1586 : Cond.methodLink RL 190 yX12_thrown ∈ q_WU := q_tab8 _ (List.mem_of_getElem? (i := 48) rfl) rfl
theorem q_w1587 : Cond.code yX12_thrown cX12_thrown 1 (some .int) ∈ q_WU := q_tab8 _ (List.mem_of_getElem? (i := 51) rfl) rfl
theorem q_w1588 : Cond.instanceMethod yX12_thrown ∈ q_WU := q_tab8 _ (List.mem_of_getElem? (i := 49) rfl) rfl
theorem q_w1589 : Cond.selects RX12 yX12_thrown yX12_thrown ∈ q_WU := q_tab8 _ (List.mem_of_getElem? (i := 50) rfl) rfl
theorem q_w1590 : Cond.methodLink RL 193 yL_pixel ∈ q_WU := q_tab7 _ (List.mem_of_getElem? (i := 10) rfl) rfl
theorem q_w1591 : Cond.codeWith yL_pixel cL_pixel 5 (some .int) [(0, 10, 13, 13)] ∈ q_WU := q_tab7 _ (List.mem_of_getElem? (i := 12) rfl) rfl
theorem q_w1592 : Cond.static yL_pixel ∈ q_WU := q_tab7 _ (List.mem_of_getElem? (i := 11) rfl) rfl
theorem q_w1593 : Cond.methodLink RL 195 yX12_pixel ∈ q_WU := q_tab9 _ (List.mem_of_getElem? (i := 185) rfl) rfl
theorem q_w1594 : Cond.code yX12_pixel cX12_pixel 3 (some .int) ∈ q_WU := q_tab9 _ (List.mem_of_getElem? (i := 188) rfl) rfl
theorem q_w1595 : Cond.instanceMethod yX12_pixel ∈ q_WU := q_tab9 _ (List.mem_of_getElem? (i := 186) rfl) rfl
theorem q_w1596 : Cond.selects RX12 yX12_pixel yX12_pixel ∈ q_WU := q_tab9 _ (List.mem_of_getElem? (i := 187) rfl) rfl
theorem q_w1597 : Cond.methodLink RL 196 yL_pixelAgain ∈ q_WU := q_tab7 _ (List.mem_of_getElem? (i := 17) rfl) rfl
theorem q_w1598 : Cond.codeWith yL_pixelAgain cL_pixelAgain 5 (some .int) [(0, 10, 13, 13)] ∈ q_WU := q_tab7 _ (List.mem_of_getElem? (i := 19) rfl) rfl
theorem q_w1599 : Cond.static yL_pixelAgain ∈ q_WU := q_tab7 _ (List.mem_of_getElem? (i := 18) rfl) rfl
theorem q_w1600 : Cond.methodLink RL 198 yX12_pixelAgain ∈ q_WU := q_tab9 _ (List.mem_of_getElem? (i := 193) rfl) rfl
theorem q_w1601 : Cond.code yX12_pixelAgain cX12_pixelAgain 3 (some .int) ∈ q_WU := q_tab9 _ (List.mem_of_getElem? (i := 196) rfl) rfl
theorem q_w1602 : Cond.instanceMethod yX12_pixelAgain ∈ q_WU := q_tab9 _ (List.mem_of_getElem? (i := 194) rfl) rfl
theorem q_w1603 : Cond.selects RX12 yX12_pixelAgain yX12_pixelAgain ∈ q_WU := q_tab9 _ (List.mem_of_getElem? (i := 195) rfl) rfl
theorem q_w1604 : Cond.methodLink RL 199 yL_sample ∈ q_WU := q_tab7 _ (List.mem_of_getElem? (i := 38) rfl) rfl
theorem q_w1605 : Cond.codeWith yL_sample cL_sample 4 (some .int) [(0, 9, 12, 13)] ∈ q_WU := q_tab7 _ (List.mem_of_getElem? (i := 40) rfl) rfl
theorem q_w1606 : Cond.static yL_sample ∈ q_WU := q_tab7 _ (List.mem_of_getElem? (i := 39) rfl) rfl
theorem q_w1607 : Cond.methodLink RL 201 yX12_sample ∈ q_WU := q_tab9 _ (List.mem_of_getElem? (i := 197) rfl) rfl
theorem q_w1608 : Cond.code yX12_sample cX12_sample 2 (some .int) ∈ q_WU := q_tab9 _ (List.mem_of_getElem? (i := 200) rfl) rfl
theorem q_w1609 : Cond.instanceMethod yX12_sample ∈ q_WU := q_tab9 _ (List.mem_of_getElem? (i := 198) rfl) rfl
theorem q_w1610 : Cond.selects RX12 yX12_sample yX12_sample ∈ q_WU := q_tab9 _ (List.mem_of_getElem? (i := 199) rfl) rfl
theorem q_w1611 : Cond.methodLink RL 202 yL_level ∈ q_WU := q_tab7 _ (List.mem_of_getElem? (i := 45) rfl) rfl
theorem q_w1612 : Cond.codeWith yL_level cL_level 4 (some .int) [(0, 9, 12, 13)] ∈ q_WU := q_tab7 _ (List.mem_of_getElem? (i := 47) rfl) rfl
theorem q_w1613 : Cond.static yL_level ∈ q_WU := q_tab7 _ (List.mem_of_getElem? (i := 46) rfl) rfl
theorem q_w1614 : Cond.methodLink RL 204 yX12_level ∈ q_WU := q_tab9 _ (List.mem_of_getElem? (i := 201) rfl) rfl
theorem q_w1615 : Cond.code yX12_level cX12_level 2 (some .int) ∈ q_WU := q_tab9 _ (List.mem_of_getElem? (i := 204) rfl) rfl
theorem q_w1616 : Cond.instanceMethod yX12_level ∈ q_WU := q_tab9 _ (List.mem_of_getElem? (i := 202) rfl) rfl
theorem q_w1617 : Cond.selects RX12 yX12_level yX12_level ∈ q_WU := q_tab9 _ (List.mem_of_getElem? (i := 203) rfl) rfl
theorem q_w1618 : Cond.methodLink RL 205 yL_key ∈ q_WU := q_tab7 _ (List.mem_of_getElem? (i := 52) rfl) rfl
theorem q_w1619 : Cond.codeWith yL_key cL_key 6 (some .int) [(0, 19, 22, 13)] ∈ q_WU := q_tab7 _ (List.mem_of_getElem? (i := 54) rfl) rfl
theorem q_w1620 : Cond.static yL_key ∈ q_WU := q_tab7 _ (List.mem_of_getElem? (i := 53) rfl) rfl
theorem q_w1621 : Cond.methodLink RL 208 yX12_key ∈ q_WU := q_tab9 _ (List.mem_of_getElem? (i := 205) rfl) rfl
theorem q_w1622 : Cond.code yX12_key cX12_key 5 (some .boolean) ∈ q_WU := q_tab9 _ (List.mem_of_getElem? (i := 208) rfl) rfl
theorem q_w1623 : Cond.instanceMethod yX12_key ∈ q_WU := q_tab9 _ (List.mem_of_getElem? (i := 206) rfl) rfl
theorem q_w1624 : Cond.selects RX12 yX12_key yX12_key ∈ q_WU := q_tab9 _ (List.mem_of_getElem? (i := 207) rfl) rfl
theorem q_w1625 : Cond.methodLink RL 209 yL_columns ∈ q_WU := q_tab7 _ (List.mem_of_getElem? (i := 59) rfl) rfl
theorem q_w1626 : Cond.codeWith yL_columns cL_columns 4 (some .int) [(0, 9, 12, 15)] ∈ q_WU := q_tab7 _ (List.mem_of_getElem? (i := 61) rfl) rfl
theorem q_w1627 : Cond.static yL_columns ∈ q_WU := q_tab7 _ (List.mem_of_getElem? (i := 60) rfl) rfl
theorem q_w1628 : Cond.methodLink RL 211 yX12_columns ∈ q_WU := q_tab9 _ (List.mem_of_getElem? (i := 209) rfl) rfl
theorem q_w1629 : Cond.code yX12_columns cX12_columns 2 (some .int) ∈ q_WU := q_tab9 _ (List.mem_of_getElem? (i := 212) rfl) rfl
theorem q_w1630 : Cond.instanceMethod yX12_columns ∈ q_WU := q_tab9 _ (List.mem_of_getElem? (i := 210) rfl) rfl
theorem q_w1631 : Cond.selects RX12 yX12_columns yX12_columns ∈ q_WU := q_tab9 _ (List.mem_of_getElem? (i := 211) rfl) rfl
theorem q_w1632 : Cond.methodLink RL 212 yL_joystick ∈ q_WU := q_tab7 _ (List.mem_of_getElem? (i := 66) rfl) rfl
theorem q_w1633 : Cond.codeWith yL_joystick cL_joystick 4 (some .int) [(0, 9, 12, 15)] ∈ q_WU := q_tab7 _ (List.mem_of_getElem? (i := 68) rfl) rfl
theorem q_w1634 : Cond.static yL_joystick ∈ q_WU := q_tab7 _ (List.mem_of_getElem? (i := 67) rfl) rfl
theorem q_w1635 : Cond.methodLink RL 214 yX12_joystick ∈ q_WU := q_tab9 _ (List.mem_of_getElem? (i := 213) rfl) rfl
theorem q_w1636 : Cond.code yX12_joystick cX12_joystick 3 (some .int) ∈ q_WU := q_tab9 _ (List.mem_of_getElem? (i := 216) rfl) rfl
theorem q_w1637 : Cond.instanceMethod yX12_joystick ∈ q_WU := q_tab9 _ (List.mem_of_getElem? (i := 214) rfl) rfl
theorem q_w1638 : Cond.selects RX12 yX12_joystick yX12_joystick ∈ q_WU := q_tab9 _ (List.mem_of_getElem? (i := 215) rfl) rfl
theorem q_w1639 : Cond.methodLink RL 215 yL_addPulse ∈ q_WU := q_tab7 _ (List.mem_of_getElem? (i := 73) rfl) rfl
theorem q_w1640 : Cond.codeWith yL_addPulse cL_addPulse 4 (some .int) [(0, 9, 12, 15), (0, 9, 15, 50)] ∈ q_WU := q_tab7 _ (List.mem_of_getElem? (i := 75) rfl) rfl
theorem q_w1641 : Cond.static yL_addPulse ∈ q_WU := q_tab7 _ (List.mem_of_getElem? (i := 74) rfl) rfl
theorem q_w1642 : Cond.methodLink RL 217 yX12_addPulse ∈ q_WU := q_tab9 _ (List.mem_of_getElem? (i := 217) rfl) rfl
theorem q_w1643 : Cond.code yX12_addPulse cX12_addPulse 2 (some .int) ∈ q_WU := q_tab9 _ (List.mem_of_getElem? (i := 220) rfl) rfl
theorem q_w1644 : Cond.instanceMethod yX12_addPulse ∈ q_WU := q_tab9 _ (List.mem_of_getElem? (i := 218) rfl) rfl
theorem q_w1645 : Cond.selects RX12 yX12_addPulse yX12_addPulse ∈ q_WU := q_tab9 _ (List.mem_of_getElem? (i := 219) rfl) rfl
theorem q_w1646 : Cond.methodLink RL 218 yX11_rewind ∈ q_WU := q_tab4 _ (List.mem_of_getElem? (i := 90) rfl) rfl
theorem q_w1647 : Cond.code yX11_rewind cX11_rewind 1 (some .int) ∈ q_WU := q_tab4 _ (List.mem_of_getElem? (i := 93) rfl) rfl
theorem q_w1648 : Cond.instanceMethod yX11_rewind ∈ q_WU := q_tab4 _ (List.mem_of_getElem? (i := 91) rfl) rfl
theorem q_w1649 : Cond.selects RX11 yX11_rewind yX11_rewind ∈ q_WU := q_tab4 _ (List.mem_of_getElem? (i := 92) rfl) rfl
theorem q_w1650 : Cond.methodLink RL 221 yX12_rewind ∈ q_WU := q_tab9 _ (List.mem_of_getElem? (i := 221) rfl) rfl
theorem q_w1651 : Cond.code yX12_rewind cX12_rewind 2 (some .int) ∈ q_WU := q_tab9 _ (List.mem_of_getElem? (i := 224) rfl) rfl
theorem q_w1652 : Cond.instanceMethod yX12_rewind ∈ q_WU := q_tab9 _ (List.mem_of_getElem? (i := 222) rfl) rfl
theorem q_w1653 : Cond.selects RX12 yX12_rewind yX12_rewind ∈ q_WU := q_tab9 _ (List.mem_of_getElem? (i := 223) rfl) rfl
theorem q_w1654 : Cond.methodLink RL 222 yX11_pulsesLeft ∈ q_WU := q_tab4 _ (List.mem_of_getElem? (i := 94) rfl) rfl
theorem q_w1655 : Cond.code yX11_pulsesLeft cX11_pulsesLeft 1 (some .int) ∈ q_WU := q_tab4 _ (List.mem_of_getElem? (i := 97) rfl) rfl
theorem q_w1656 : Cond.instanceMethod yX11_pulsesLeft ∈ q_WU := q_tab4 _ (List.mem_of_getElem? (i := 95) rfl) rfl
theorem q_w1657 : Cond.selects RX11 yX11_pulsesLeft yX11_pulsesLeft ∈ q_WU := q_tab4 _ (List.mem_of_getElem? (i := 96) rfl) rfl
theorem q_w1658 : Cond.methodLink RL 225 yX12_pulsesLeft ∈ q_WU := q_tab9 _ (List.mem_of_getElem? (i := 225) rfl) rfl
theorem q_w1659 : Cond.code yX12_pulsesLeft cX12_pulsesLeft 1 (some .int) ∈ q_WU := q_tab9 _ (List.mem_of_getElem? (i := 228) rfl) rfl
theorem q_w1660 : Cond.instanceMethod yX12_pulsesLeft ∈ q_WU := q_tab9 _ (List.mem_of_getElem? (i := 226) rfl) rfl
theorem q_w1661 : Cond.selects RX12 yX12_pulsesLeft yX12_pulsesLeft ∈ q_WU := q_tab9 _ (List.mem_of_getElem? (i := 227) rfl) rfl
theorem q_w1662 : Cond.methodLink RL 226 yL_save ∈ q_WU := q_tab7 _ (List.mem_of_getElem? (i := 81) rfl) rfl
theorem q_w1663 : Cond.codeWith yL_save cL_save 3 (some .int) [(0, 8, 11, 50)] ∈ q_WU := q_tab7 _ (List.mem_of_getElem? (i := 83) rfl) rfl
theorem q_w1664 : Cond.static yL_save ∈ q_WU := q_tab7 _ (List.mem_of_getElem? (i := 82) rfl) rfl
theorem q_w1665 : Cond.methodLink RL 228 yX12_save ∈ q_WU := q_tab9 _ (List.mem_of_getElem? (i := 229) rfl) rfl
theorem q_w1666 : Cond.code yX12_save cX12_save 2 (some .int) ∈ q_WU := q_tab9 _ (List.mem_of_getElem? (i := 232) rfl) rfl
theorem q_w1667 : Cond.instanceMethod yX12_save ∈ q_WU := q_tab9 _ (List.mem_of_getElem? (i := 230) rfl) rfl
theorem q_w1668 : Cond.selects RX12 yX12_save yX12_save ∈ q_WU := q_tab9 _ (List.mem_of_getElem? (i := 231) rfl) rfl
theorem q_w1669 : Cond.methodLink RL 229 yL_restore ∈ q_WU := q_tab7 _ (List.mem_of_getElem? (i := 90) rfl) rfl
theorem q_w1670 : Cond.codeWith yL_restore cL_restore 4 (some .int) [(0, 9, 12, 93)] ∈ q_WU := q_tab7 _ (List.mem_of_getElem? (i := 92) rfl) rfl
theorem q_w1671 : Cond.static yL_restore ∈ q_WU := q_tab7 _ (List.mem_of_getElem? (i := 91) rfl) rfl
theorem q_w1672 : Cond.methodLink RL 231 yX12_restore ∈ q_WU := q_tab9 _ (List.mem_of_getElem? (i := 239) rfl) rfl
theorem q_w1673 : Cond.code yX12_restore cX12_restore 4 (some .int) ∈ q_WU := q_tab10 _ (List.mem_of_getElem? (i := 2) rfl) rfl
theorem q_w1674 : Cond.instanceMethod yX12_restore ∈ q_WU := q_tab10 _ (List.mem_of_getElem? (i := 0) rfl) rfl
theorem q_w1675 : Cond.selects RX12 yX12_restore yX12_restore ∈ q_WU := q_tab10 _ (List.mem_of_getElem? (i := 1) rfl) rfl
theorem q_w1676 : Cond.methodLink RL 232 yL_differences ∈ q_WU := q_tab7 _ (List.mem_of_getElem? (i := 122) rfl) rfl
theorem q_w1677 : Cond.codeWith yL_differences cL_differences 4 (some .int) [(0, 9, 12, 93)] ∈ q_WU := q_tab7 _ (List.mem_of_getElem? (i := 124) rfl) rfl
theorem q_w1678 : Cond.static yL_differences ∈ q_WU := q_tab7 _ (List.mem_of_getElem? (i := 123) rfl) rfl
theorem q_w1679 : Cond.methodLink RL 234 yX12_differences ∈ q_WU := q_tab10 _ (List.mem_of_getElem? (i := 7) rfl) rfl
theorem q_w1680 : Cond.code yX12_differences cX12_differences 2 (some .int) ∈ q_WU := q_tab10 _ (List.mem_of_getElem? (i := 10) rfl) rfl
theorem q_w1681 : Cond.instanceMethod yX12_differences ∈ q_WU := q_tab10 _ (List.mem_of_getElem? (i := 8) rfl) rfl
theorem q_w1682 : Cond.selects RX12 yX12_differences yX12_differences ∈ q_WU := q_tab10 _ (List.mem_of_getElem? (i := 9) rfl) rfl
theorem q_w1683 : Cond.methodLink RL 235 yX11_startRecord ∈ q_WU := q_tab4 _ (List.mem_of_getElem? (i := 98) rfl) rfl
theorem q_w1684 : Cond.code yX11_startRecord cX11_startRecord 2 (some .int) ∈ q_WU := q_tab4 _ (List.mem_of_getElem? (i := 101) rfl) rfl
theorem q_w1685 : Cond.instanceMethod yX11_startRecord ∈ q_WU := q_tab4 _ (List.mem_of_getElem? (i := 99) rfl) rfl
theorem q_w1686 : Cond.selects RX11 yX11_startRecord yX11_startRecord ∈ q_WU := q_tab4 _ (List.mem_of_getElem? (i := 100) rfl) rfl
theorem q_w1687 : Cond.methodLink RL 238 yX12_startRecord ∈ q_WU := q_tab10 _ (List.mem_of_getElem? (i := 11) rfl) rfl
theorem q_w1688 : Cond.code yX12_startRecord cX12_startRecord 2 (some .int) ∈ q_WU := q_tab10 _ (List.mem_of_getElem? (i := 14) rfl) rfl
theorem q_w1689 : Cond.instanceMethod yX12_startRecord ∈ q_WU := q_tab10 _ (List.mem_of_getElem? (i := 12) rfl) rfl
theorem q_w1690 : Cond.selects RX12 yX12_startRecord yX12_startRecord ∈ q_WU := q_tab10 _ (List.mem_of_getElem? (i := 13) rfl) rfl
theorem q_w1691 : Cond.methodLink RL 239 yL_recorded ∈ q_WU := q_tab7 _ (List.mem_of_getElem? (i := 129) rfl) rfl
theorem q_w1692 : Cond.codeWith yL_recorded cL_recorded 3 (some .int) [(0, 8, 11, 50)] ∈ q_WU := q_tab7 _ (List.mem_of_getElem? (i := 131) rfl) rfl
theorem q_w1693 : Cond.static yL_recorded ∈ q_WU := q_tab7 _ (List.mem_of_getElem? (i := 130) rfl) rfl
theorem q_w1694 : Cond.methodLink RL 241 yX12_recorded ∈ q_WU := q_tab10 _ (List.mem_of_getElem? (i := 15) rfl) rfl
theorem q_w1695 : Cond.code yX12_recorded cX12_recorded 1 (some .int) ∈ q_WU := q_tab10 _ (List.mem_of_getElem? (i := 18) rfl) rfl
theorem q_w1696 : Cond.instanceMethod yX12_recorded ∈ q_WU := q_tab10 _ (List.mem_of_getElem? (i := 16) rfl) rfl
theorem q_w1697 : Cond.selects RX12 yX12_recorded yX12_recorded ∈ q_WU := q_tab10 _ (List.mem_of_getElem? (i := 17) rfl) rfl
theorem q_w1698 : Cond.methodLink RL 242 yL_isSame ∈ q_WU := q_tab7 _ (List.mem_of_getElem? (i := 137) rfl) rfl
theorem q_w1699 : Cond.codeWith yL_isSame cL_isSame 3 (some .int) [(0, 15, 18, 50)] ∈ q_WU := q_tab7 _ (List.mem_of_getElem? (i := 139) rfl) rfl
theorem q_w1700 : Cond.static yL_isSame ∈ q_WU := q_tab7 _ (List.mem_of_getElem? (i := 138) rfl) rfl
theorem q_w1701 : Cond.methodLink RL 244 yX12_isSame ∈ q_WU := q_tab10 _ (List.mem_of_getElem? (i := 19) rfl) rfl
theorem q_w1702 : Cond.code yX12_isSame cX12_isSame 1 (some .boolean) ∈ q_WU := q_tab10 _ (List.mem_of_getElem? (i := 22) rfl) rfl
theorem q_w1703 : Cond.instanceMethod yX12_isSame ∈ q_WU := q_tab10 _ (List.mem_of_getElem? (i := 20) rfl) rfl
theorem q_w1704 : Cond.selects RX12 yX12_isSame yX12_isSame ∈ q_WU := q_tab10 _ (List.mem_of_getElem? (i := 21) rfl) rfl
theorem q_w1705 : Cond.methodLink RL 245 yX11_sumOfPicture ∈ q_WU := q_tab4 _ (List.mem_of_getElem? (i := 142) rfl) rfl
theorem q_w1706 : Cond.code yX11_sumOfPicture cX11_sumOfPicture 3 (some .int) ∈ q_WU := q_tab4 _ (List.mem_of_getElem? (i := 145) rfl) rfl
theorem q_w1707 : Cond.instanceMethod yX11_sumOfPicture ∈ q_WU := q_tab4 _ (List.mem_of_getElem? (i := 143) rfl) rfl
theorem q_w1708 : Cond.selects RX11 yX11_sumOfPicture yX11_sumOfPicture ∈ q_WU := q_tab4 _ (List.mem_of_getElem? (i := 144) rfl) rfl
theorem q_w1709 : Cond.methodLink RL 248 yX12_sumOfPicture ∈ q_WU := q_tab10 _ (List.mem_of_getElem? (i := 23) rfl) rfl
theorem q_w1710 : Cond.code yX12_sumOfPicture cX12_sumOfPicture 3 (some .int) ∈ q_WU := q_tab10 _ (List.mem_of_getElem? (i := 26) rfl) rfl
theorem q_w1711 : Cond.instanceMethod yX12_sumOfPicture ∈ q_WU := q_tab10 _ (List.mem_of_getElem? (i := 24) rfl) rfl
theorem q_w1712 : Cond.selects RX12 yX12_sumOfPicture yX12_sumOfPicture ∈ q_WU := q_tab10 _ (List.mem_of_getElem? (i := 25) rfl) rfl
theorem q_w1713 : Cond.methodLink RL 249 yX11_pictures ∈ q_WU := q_tab4 _ (List.mem_of_getElem? (i := 146) rfl) rfl
theorem q_w1714 : Cond.code yX11_pictures cX11_pictures 1 (some .long) ∈ q_WU := q_tab4 _ (List.mem_of_getElem? (i := 149) rfl) rfl
theorem q_w1715 : Cond.instanceMethod yX11_pictures ∈ q_WU := q_tab4 _ (List.mem_of_getElem? (i := 147) rfl) rfl
theorem q_w1716 : Cond.selects RX11 yX11_pictures yX11_pictures ∈ q_WU := q_tab4 _ (List.mem_of_getElem? (i := 148) rfl) rfl
theorem q_w1717 : Cond.methodLink RL 252 yX12_pictures ∈ q_WU := q_tab10 _ (List.mem_of_getElem? (i := 27) rfl) rfl
theorem q_w1718 : Cond.code yX12_pictures cX12_pictures 1 (some .long) ∈ q_WU := q_tab10 _ (List.mem_of_getElem? (i := 30) rfl) rfl
theorem q_w1719 : Cond.instanceMethod yX12_pictures ∈ q_WU := q_tab10 _ (List.mem_of_getElem? (i := 28) rfl) rfl
theorem q_w1720 : Cond.selects RX12 yX12_pictures yX12_pictures ∈ q_WU := q_tab10 _ (List.mem_of_getElem? (i := 29) rfl) rfl
theorem q_w1721 : Cond.methodLink RL 253 yX11_solidShare ∈ q_WU := q_tab4 _ (List.mem_of_getElem? (i := 150) rfl) rfl
theorem q_w1722 : Cond.code yX11_solidShare cX11_solidShare 4 (some .float) ∈ q_WU := q_tab4 _ (List.mem_of_getElem? (i := 153) rfl) rfl
theorem q_w1723 : Cond.instanceMethod yX11_solidShare ∈ q_WU := q_tab4 _ (List.mem_of_getElem? (i := 151) rfl) rfl
theorem q_w1724 : Cond.selects RX11 yX11_solidShare yX11_solidShare ∈ q_WU := q_tab4 _ (List.mem_of_getElem? (i := 152) rfl) rfl
theorem q_w1725 : Cond.methodLink RL 257 yX12_solidShare ∈ q_WU := q_tab10 _ (List.mem_of_getElem? (i := 31) rfl) rfl
theorem q_w1726 : Cond.code yX12_solidShare cX12_solidShare 3 (some .float) ∈ q_WU := q_tab10 _ (List.mem_of_getElem? (i := 34) rfl) rfl
theorem q_w1727 : Cond.instanceMethod yX12_solidShare ∈ q_WU := q_tab10 _ (List.mem_of_getElem? (i := 32) rfl) rfl
theorem q_w1728 : Cond.selects RX12 yX12_solidShare yX12_solidShare ∈ q_WU := q_tab10 _ (List.mem_of_getElem? (i := 33) rfl) rfl
theorem q_w1729 : Cond.methodLink RL 258 yX11_meanSample ∈ q_WU := q_tab4 _ (List.mem_of_getElem? (i := 155) rfl) rfl
theorem q_w1730 : Cond.code yX11_meanSample cX11_meanSample 3 (some .double) ∈ q_WU := q_tab4 _ (List.mem_of_getElem? (i := 158) rfl) rfl
theorem q_w1731 : Cond.instanceMethod yX11_meanSample ∈ q_WU := q_tab4 _ (List.mem_of_getElem? (i := 156) rfl) rfl
theorem q_w1732 : Cond.selects RX11 yX11_meanSample yX11_meanSample ∈ q_WU := q_tab4 _ (List.mem_of_getElem? (i := 157) rfl) rfl
theorem q_w1733 : Cond.methodLink RL 262 yX12_meanSample ∈ q_WU := q_tab10 _ (List.mem_of_getElem? (i := 36) rfl) rfl
theorem q_w1734 : Cond.code yX12_meanSample cX12_meanSample 3 (some .double) ∈ q_WU := q_tab10 _ (List.mem_of_getElem? (i := 39) rfl) rfl
theorem q_w1735 : Cond.instanceMethod yX12_meanSample ∈ q_WU := q_tab10 _ (List.mem_of_getElem? (i := 37) rfl) rfl
theorem q_w1736 : Cond.selects RX12 yX12_meanSample yX12_meanSample ∈ q_WU := q_tab10 _ (List.mem_of_getElem? (i := 38) rfl) rfl
theorem q_w1737 : Cond.lays RJ4 "java/lang/AbstractStringBuilder" "value" "[B" ∈ q_WU := q_tab2 _ (List.mem_of_getElem? (i := 105) rfl) rfl
theorem q_w1738 : Cond.lays RJ4 "java/lang/AbstractStringBuilder" "coder" "B" ∈ q_WU := q_tab2 _ (List.mem_of_getElem? (i := 107) rfl) rfl
theorem q_w1739 : Cond.lays RJ4 "java/lang/AbstractStringBuilder" "maybeLatin1" "Z" ∈ q_WU := q_tab2 _ (List.mem_of_getElem? (i := 109) rfl) rfl
theorem q_w1740 : Cond.lays RJ4 "java/lang/AbstractStringBuilder" "count" "I" ∈ q_WU := q_tab2 _ (List.mem_of_getElem? (i := 111) rfl) rfl
theorem q_w1741 : Cond.lays RJx00060 "java/lang/Throwable" "cause" "Ljava/lang/Throwable;" ∈ q_WU := q_tab6 _ (List.mem_of_getElem? (i := 88) rfl) rfl
theorem q_w1742 : Cond.lays RJx00060 "java/lang/Throwable" "stackTrace" "[Ljava/lang/StackTraceElement;" ∈ q_WU := q_tab6 _ (List.mem_of_getElem? (i := 89) rfl) rfl
theorem q_w1743 : Cond.lays RJx00060 "java/lang/Throwable" "suppressedExceptions" "Ljava/util/List;" ∈ q_WU := q_tab6 _ (List.mem_of_getElem? (i := 90) rfl) rfl
theorem q_w1744 : Cond.lays RJx00060 "java/lang/Throwable" "detailMessage" "Ljava/lang/String;" ∈ q_WU := q_tab6 _ (List.mem_of_getElem? (i := 91) rfl) rfl
theorem q_w1745 : Cond.lays RJx00060 "java/lang/Throwable" "backtrace" "Ljava/lang/Object;" ∈ q_WU := q_tab6 _ (List.mem_of_getElem? (i := 92) rfl) rfl
theorem q_w1746 : Cond.lays RJx00060 "java/lang/Throwable" "depth" "I" ∈ q_WU := q_tab6 _ (List.mem_of_getElem? (i := 103) rfl) rfl
theorem q_w1747 : Cond.lays RJx7c733 "java/lang/Throwable" "backtrace" "Ljava/lang/Object;" ∈ q_WU := q_tab6 _ (List.mem_of_getElem? (i := 63) rfl) rfl
theorem q_w1748 : Cond.lays RJx7c733 "java/lang/Throwable" "detailMessage" "Ljava/lang/String;" ∈ q_WU := q_tab6 _ (List.mem_of_getElem? (i := 64) rfl) rfl
theorem q_w1749 : Cond.lays RJx7c733 "java/lang/Throwable" "cause" "Ljava/lang/Throwable;" ∈ q_WU := q_tab6 _ (List.mem_of_getElem? (i := 65) rfl) rfl
theorem q_w1750 : Cond.lays RJx7c733 "java/lang/Throwable" "stackTrace" "[Ljava/lang/StackTraceElement;" ∈ q_WU := q_tab6 _ (List.mem_of_getElem? (i := 66) rfl) rfl
theorem q_w1751 : Cond.lays RJx7c733 "java/lang/Throwable" "depth" "I" ∈ q_WU := q_tab6 _ (List.mem_of_getElem? (i := 67) rfl) rfl
theorem q_w1752 : Cond.lays RJx7c733 "java/lang/Throwable" "suppressedExceptions" "Ljava/util/List;" ∈ q_WU := q_tab6 _ (List.mem_of_getElem? (i := 68) rfl) rfl
theorem q_w1753 : Cond.laysFinal RX0 "Rasterbox$Board" "scene" "LRasterbox$Scene;" ∈ q_WU := q_tab1 _ (List.mem_of_getElem? (i := 160) rfl) rfl
theorem q_w1754 : Cond.laysFinal RX0 "Rasterbox$Board" "rom" "[I" ∈ q_WU := q_tab1 _ (List.mem_of_getElem? (i := 162) rfl) rfl
theorem q_w1755 : Cond.laysFinal RX0 "Rasterbox$Board" "cartridge" "[I" ∈ q_WU := q_tab1 _ (List.mem_of_getElem? (i := 164) rfl) rfl
theorem q_w1756 : Cond.laysFinal RX0 "Rasterbox$Board" "counts" "[I" ∈ q_WU := q_tab1 _ (List.mem_of_getElem? (i := 166) rfl) rfl
theorem q_w1757 : Cond.laysFinal RX0 "Rasterbox$Board" "tape" "LRasterbox$Tape;" ∈ q_WU := q_tab1 _ (List.mem_of_getElem? (i := 168) rfl) rfl
theorem q_w1758 : Cond.laysFinal RX0 "Rasterbox$Board" "keys" "LRasterbox$Keys;" ∈ q_WU := q_tab1 _ (List.mem_of_getElem? (i := 170) rfl) rfl
theorem q_w1759 : Cond.laysFinal RX0 "Rasterbox$Board" "even" "LRasterbox$Frame;" ∈ q_WU := q_tab1 _ (List.mem_of_getElem? (i := 172) rfl) rfl
theorem q_w1760 : Cond.laysFinal RX0 "Rasterbox$Board" "odd" "LRasterbox$Frame;" ∈ q_WU := q_tab1 _ (List.mem_of_getElem? (i := 174) rfl) rfl
theorem q_w1761 : Cond.lays RX0 "Rasterbox$Board" "cycle" "J" ∈ q_WU := q_tab1 _ (List.mem_of_getElem? (i := 176) rfl) rfl
theorem q_w1762 : Cond.laysFinal RX10 "Rasterbox$Voices" "phases" "[I" ∈ q_WU := q_tab2 _ (List.mem_of_getElem? (i := 8) rfl) rfl
theorem q_w1763 : Cond.laysFinal RX10 "Rasterbox$Voices" "levels" "[I" ∈ q_WU := q_tab2 _ (List.mem_of_getElem? (i := 10) rfl) rfl
theorem q_w1764 : Cond.laysFinal RX10 "Rasterbox$Voices" "waits" "[I" ∈ q_WU := q_tab2 _ (List.mem_of_getElem? (i := 12) rfl) rfl
theorem q_w1765 : Cond.laysFinal RX10 "Rasterbox$Voices" "noises" "[I" ∈ q_WU := q_tab2 _ (List.mem_of_getElem? (i := 14) rfl) rfl
theorem q_w1766 : Cond.laysFinal RX10 "Rasterbox$Voices" "samples" "[I" ∈ q_WU := q_tab2 _ (List.mem_of_getElem? (i := 16) rfl) rfl
theorem q_w1767 : Cond.laysFinal RX11 "Rasterbox" "machine" "LRasterbox$Machine;" ∈ q_WU := q_tab2 _ (List.mem_of_getElem? (i := 123) rfl) rfl
theorem q_w1768 : Cond.laysFinal RX11 "Rasterbox" "snapshots" "[LRasterbox$Machine;" ∈ q_WU := q_tab2 _ (List.mem_of_getElem? (i := 125) rfl) rfl
theorem q_w1769 : Cond.lays RX11 "Rasterbox" "saved" "I" ∈ q_WU := q_tab2 _ (List.mem_of_getElem? (i := 127) rfl) rfl
theorem q_w1770 : Cond.laysFinal RX11 "Rasterbox" "recording" "LRasterbox$Recording;" ∈ q_WU := q_tab2 _ (List.mem_of_getElem? (i := 129) rfl) rfl
theorem q_w1771 : Cond.laysFinal RX11 "Rasterbox" "monitorLine" "Ljava/lang/StringBuilder;" ∈ q_WU := q_tab2 _ (List.mem_of_getElem? (i := 131) rfl) rfl
theorem q_w1772 : Cond.laysFinal RX11 "Rasterbox" "scratch" "LRasterbox$Scene;" ∈ q_WU := q_tab2 _ (List.mem_of_getElem? (i := 133) rfl) rfl
theorem q_w1773 : Cond.laysFinal RX12 "RasterboxModel" "ram" "[I" ∈ q_WU := q_tab7 _ (List.mem_of_getElem? (i := 204) rfl) rfl
theorem q_w1774 : Cond.laysFinal RX12 "RasterboxModel" "rom" "[I" ∈ q_WU := q_tab7 _ (List.mem_of_getElem? (i := 206) rfl) rfl
theorem q_w1775 : Cond.laysFinal RX12 "RasterboxModel" "cartridge" "[I" ∈ q_WU := q_tab7 _ (List.mem_of_getElem? (i := 208) rfl) rfl
theorem q_w1776 : Cond.laysFinal RX12 "RasterboxModel" "registers" "[I" ∈ q_WU := q_tab7 _ (List.mem_of_getElem? (i := 210) rfl) rfl
theorem q_w1777 : Cond.laysFinal RX12 "RasterboxModel" "pixels" "[I" ∈ q_WU := q_tab7 _ (List.mem_of_getElem? (i := 212) rfl) rfl
theorem q_w1778 : Cond.laysFinal RX12 "RasterboxModel" "samples" "[I" ∈ q_WU := q_tab7 _ (List.mem_of_getElem? (i := 214) rfl) rfl
theorem q_w1779 : Cond.laysFinal RX12 "RasterboxModel" "keys" "[Z" ∈ q_WU := q_tab7 _ (List.mem_of_getElem? (i := 216) rfl) rfl
theorem q_w1780 : Cond.laysFinal RX12 "RasterboxModel" "pulses" "[I" ∈ q_WU := q_tab7 _ (List.mem_of_getElem? (i := 218) rfl) rfl
theorem q_w1781 : Cond.laysFinal RX12 "RasterboxModel" "trace" "[I" ∈ q_WU := q_tab7 _ (List.mem_of_getElem? (i := 220) rfl) rfl
theorem q_w1782 : Cond.laysFinal RX12 "RasterboxModel" "phases" "[I" ∈ q_WU := q_tab7 _ (List.mem_of_getElem? (i := 222) rfl) rfl
theorem q_w1783 : Cond.laysFinal RX12 "RasterboxModel" "levels" "[I" ∈ q_WU := q_tab7 _ (List.mem_of_getElem? (i := 224) rfl) rfl
theorem q_w1784 : Cond.laysFinal RX12 "RasterboxModel" "waits" "[I" ∈ q_WU := q_tab7 _ (List.mem_of_getElem? (i := 226) rfl) rfl
theorem q_w1785 : Cond.laysFinal RX12 "RasterboxModel" "noises" "[I" ∈ q_WU := q_tab7 _ (List.mem_of_getElem? (i := 228) rfl) rfl
theorem q_w1786 : Cond.laysFinal RX12 "RasterboxModel" "numbers" "[I" ∈ q_WU := q_tab7 _ (List.mem_of_getElem? (i := 230) rfl) rfl
theorem q_w1787 : Cond.laysFinal RX12 "RasterboxModel" "flags" "[Z" ∈ q_WU := q_tab7 _ (List.mem_of_getElem? (i := 232) rfl) rfl
theorem q_w1788 : Cond.lays RX12 "RasterboxModel" "cycle" "J" ∈ q_WU := q_tab7 _ (List.mem_of_getElem? (i := 234) rfl) rfl
theorem q_w1789 : Cond.lays RX12 "RasterboxModel" "pictured" "J" ∈ q_WU := q_tab7 _ (List.mem_of_getElem? (i := 236) rfl) rfl
theorem q_w1790 : Cond.lays RX12 "RasterboxModel" "saved" "I" ∈ q_WU := q_tab7 _ (List.mem_of_getElem? (i := 238) rfl) rfl
theorem q_w1791 : Cond.laysFinal RX12 "RasterboxModel" "savedRam" "[I" ∈ q_WU := q_tab8 _ (List.mem_of_getElem? (i := 0) rfl) rfl
theorem q_w1792 : Cond.laysFinal RX12 "RasterboxModel" "savedRom" "[I" ∈ q_WU := q_tab8 _ (List.mem_of_getElem? (i := 2) rfl) rfl
theorem q_w1793 : Cond.laysFinal RX12 "RasterboxModel" "savedCartridge" "[I" ∈ q_WU := q_tab8 _ (List.mem_of_getElem? (i := 4) rfl) rfl
theorem q_w1794 : Cond.laysFinal RX12 "RasterboxModel" "savedRegisters" "[I" ∈ q_WU := q_tab8 _ (List.mem_of_getElem? (i := 6) rfl) rfl
theorem q_w1795 : Cond.laysFinal RX12 "RasterboxModel" "savedPixels" "[I" ∈ q_WU := q_tab8 _ (List.mem_of_getElem? (i := 8) rfl) rfl
theorem q_w1796 : Cond.laysFinal RX12 "RasterboxModel" "savedSamples" "[I" ∈ q_WU := q_tab8 _ (List.mem_of_getElem? (i := 10) rfl) rfl
theorem q_w1797 : Cond.laysFinal RX12 "RasterboxModel" "savedKeys" "[Z" ∈ q_WU := q_tab8 _ (List.mem_of_getElem? (i := 12) rfl) rfl
theorem q_w1798 : Cond.laysFinal RX12 "RasterboxModel" "savedPulses" "[I" ∈ q_WU := q_tab8 _ (List.mem_of_getElem? (i := 14) rfl) rfl
theorem q_w1799 : Cond.laysFinal RX12 "RasterboxModel" "savedTrace" "[I" ∈ q_WU := q_tab8 _ (List.mem_of_getElem? (i := 16) rfl) rfl
theorem q_w1800 : Cond.laysFinal RX12 "RasterboxModel" "savedPhases" "[I" ∈ q_WU := q_tab8 _ (List.mem_of_getElem? (i := 18) rfl) rfl
theorem q_w1801 : Cond.laysFinal RX12 "RasterboxModel" "savedLevels" "[I" ∈ q_WU := q_tab8 _ (List.mem_of_getElem? (i := 20) rfl) rfl
theorem q_w1802 : Cond.laysFinal RX12 "RasterboxModel" "savedWaits" "[I" ∈ q_WU := q_tab8 _ (List.mem_of_getElem? (i := 22) rfl) rfl
theorem q_w1803 : Cond.laysFinal RX12 "RasterboxModel" "savedNoises" "[I" ∈ q_WU := q_tab8 _ (List.mem_of_getElem? (i := 24) rfl) rfl
theorem q_w1804 : Cond.laysFinal RX12 "RasterboxModel" "savedNumbers" "[I" ∈ q_WU := q_tab8 _ (List.mem_of_getElem? (i := 26) rfl) rfl
theorem q_w1805 : Cond.laysFinal RX12 "RasterboxModel" "savedFlags" "[Z" ∈ q_WU := q_tab8 _ (List.mem_of_getElem? (i := 28) rfl) rfl
theorem q_w1806 : Cond.laysFinal RX12 "RasterboxModel" "savedCycles" "[J" ∈ q_WU := q_tab8 _ (List.mem_of_getElem? (i := 30) rfl) rfl
theorem q_w1807 : Cond.lays RX12 "RasterboxModel" "recorded" "I" ∈ q_WU := q_tab8 _ (List.mem_of_getElem? (i := 32) rfl) rfl
theorem q_w1808 : Cond.lays RX12 "RasterboxModel" "written" "I" ∈ q_WU := q_tab8 _ (List.mem_of_getElem? (i := 34) rfl) rfl
theorem q_w1809 : Cond.laysFinal RX12 "RasterboxModel" "line" "[C" ∈ q_WU := q_tab8 _ (List.mem_of_getElem? (i := 36) rfl) rfl
theorem q_w1810 : Cond.laysFinal RX12 "RasterboxModel" "live" "[Z" ∈ q_WU := q_tab8 _ (List.mem_of_getElem? (i := 38) rfl) rfl
theorem q_w1811 : Cond.lays RX12 "RasterboxModel" "hasRunOut" "Z" ∈ q_WU := q_tab8 _ (List.mem_of_getElem? (i := 40) rfl) rfl
theorem q_w1812 : Cond.lays RX12 "RasterboxModel" "code" "I" ∈ q_WU := q_tab8 _ (List.mem_of_getElem? (i := 42) rfl) rfl
theorem q_w1813 : Cond.laysFinal RX2 "Rasterbox$Frame" "start" "LRasterbox$Scene;" ∈ q_WU := q_tab1 _ (List.mem_of_getElem? (i := 134) rfl) rfl
theorem q_w1814 : Cond.laysFinal RX2 "Rasterbox$Frame" "writes" "[I" ∈ q_WU := q_tab1 _ (List.mem_of_getElem? (i := 136) rfl) rfl
theorem q_w1815 : Cond.lays RX2 "Rasterbox$Frame" "count" "I" ∈ q_WU := q_tab1 _ (List.mem_of_getElem? (i := 138) rfl) rfl
theorem q_w1816 : Cond.lays RX2 "Rasterbox$Frame" "time" "I" ∈ q_WU := q_tab1 _ (List.mem_of_getElem? (i := 140) rfl) rfl
theorem q_w1817 : Cond.laysFinal RX3 "Rasterbox$Keys" "pressed" "[I" ∈ q_WU := q_tab1 _ (List.mem_of_getElem? (i := 114) rfl) rfl
theorem q_w1818 : Cond.laysFinal RX3 "Rasterbox$Keys" "seen" "[I" ∈ q_WU := q_tab1 _ (List.mem_of_getElem? (i := 116) rfl) rfl
theorem q_w1819 : Cond.lays RX3 "Rasterbox$Keys" "stick" "I" ∈ q_WU := q_tab1 _ (List.mem_of_getElem? (i := 118) rfl) rfl
theorem q_w1820 : Cond.laysFinal RX4 "Rasterbox$Machine" "board" "LRasterbox$Board;" ∈ q_WU := q_tab2 _ (List.mem_of_getElem? (i := 29) rfl) rfl
theorem q_w1821 : Cond.laysFinal RX4 "Rasterbox$Machine" "processor" "LRasterbox$Processor;" ∈ q_WU := q_tab2 _ (List.mem_of_getElem? (i := 31) rfl) rfl
theorem q_w1822 : Cond.laysFinal RX4 "Rasterbox$Machine" "voices" "LRasterbox$Voices;" ∈ q_WU := q_tab2 _ (List.mem_of_getElem? (i := 33) rfl) rfl
theorem q_w1823 : Cond.laysFinal RX4 "Rasterbox$Machine" "pixels" "[I" ∈ q_WU := q_tab2 _ (List.mem_of_getElem? (i := 35) rfl) rfl
theorem q_w1824 : Cond.lays RX4 "Rasterbox$Machine" "ofPicture" "J" ∈ q_WU := q_tab2 _ (List.mem_of_getElem? (i := 37) rfl) rfl
theorem q_w1825 : Cond.lays RX6 "Rasterbox$Processor" "a" "I" ∈ q_WU := q_tab1 _ (List.mem_of_getElem? (i := 208) rfl) rfl
theorem q_w1826 : Cond.lays RX6 "Rasterbox$Processor" "x" "I" ∈ q_WU := q_tab1 _ (List.mem_of_getElem? (i := 210) rfl) rfl
theorem q_w1827 : Cond.lays RX6 "Rasterbox$Processor" "y" "I" ∈ q_WU := q_tab1 _ (List.mem_of_getElem? (i := 212) rfl) rfl
theorem q_w1828 : Cond.lays RX6 "Rasterbox$Processor" "s" "I" ∈ q_WU := q_tab1 _ (List.mem_of_getElem? (i := 214) rfl) rfl
theorem q_w1829 : Cond.lays RX6 "Rasterbox$Processor" "p" "I" ∈ q_WU := q_tab1 _ (List.mem_of_getElem? (i := 216) rfl) rfl
theorem q_w1830 : Cond.lays RX6 "Rasterbox$Processor" "flags" "I" ∈ q_WU := q_tab1 _ (List.mem_of_getElem? (i := 218) rfl) rfl
theorem q_w1831 : Cond.lays RX6 "Rasterbox$Processor" "isFreezing" "Z" ∈ q_WU := q_tab1 _ (List.mem_of_getElem? (i := 220) rfl) rfl
theorem q_w1832 : Cond.lays RX6 "Rasterbox$Processor" "isJammed" "Z" ∈ q_WU := q_tab1 _ (List.mem_of_getElem? (i := 222) rfl) rfl
theorem q_w1833 : Cond.lays RX6 "Rasterbox$Processor" "vector" "I" ∈ q_WU := q_tab1 _ (List.mem_of_getElem? (i := 224) rfl) rfl
theorem q_w1834 : Cond.lays RX6 "Rasterbox$Processor" "left" "I" ∈ q_WU := q_tab1 _ (List.mem_of_getElem? (i := 226) rfl) rfl
theorem q_w1835 : Cond.lays RX6 "Rasterbox$Processor" "done" "I" ∈ q_WU := q_tab1 _ (List.mem_of_getElem? (i := 228) rfl) rfl
theorem q_w1836 : Cond.lays RX6 "Rasterbox$Processor" "instructions" "I" ∈ q_WU := q_tab1 _ (List.mem_of_getElem? (i := 230) rfl) rfl
theorem q_w1837 : Cond.laysFinal RX6 "Rasterbox$Processor" "trace" "[I" ∈ q_WU := q_tab1 _ (List.mem_of_getElem? (i := 232) rfl) rfl
theorem q_w1838 : Cond.laysFinal RX7 "Rasterbox$Recording" "machine" "LRasterbox$Machine;" ∈ q_WU := q_tab2 _ (List.mem_of_getElem? (i := 65) rfl) rfl
theorem q_w1839 : Cond.laysFinal RX7 "Rasterbox$Recording" "kinds" "[I" ∈ q_WU := q_tab2 _ (List.mem_of_getElem? (i := 67) rfl) rfl
theorem q_w1840 : Cond.laysFinal RX7 "Rasterbox$Recording" "firsts" "[I" ∈ q_WU := q_tab2 _ (List.mem_of_getElem? (i := 69) rfl) rfl
theorem q_w1841 : Cond.laysFinal RX7 "Rasterbox$Recording" "seconds" "[I" ∈ q_WU := q_tab2 _ (List.mem_of_getElem? (i := 71) rfl) rfl
theorem q_w1842 : Cond.laysFinal RX7 "Rasterbox$Recording" "thirds" "[I" ∈ q_WU := q_tab2 _ (List.mem_of_getElem? (i := 73) rfl) rfl
theorem q_w1843 : Cond.lays RX7 "Rasterbox$Recording" "count" "I" ∈ q_WU := q_tab2 _ (List.mem_of_getElem? (i := 75) rfl) rfl
theorem q_w1844 : Cond.lays RX7 "Rasterbox$Recording" "played" "I" ∈ q_WU := q_tab2 _ (List.mem_of_getElem? (i := 77) rfl) rfl
theorem q_w1845 : Cond.lays RX7 "Rasterbox$Recording" "isOn" "Z" ∈ q_WU := q_tab2 _ (List.mem_of_getElem? (i := 79) rfl) rfl
theorem q_w1846 : Cond.laysFinal RX8 "Rasterbox$Scene" "ram" "[I" ∈ q_WU := q_tab1 _ (List.mem_of_getElem? (i := 69) rfl) rfl
theorem q_w1847 : Cond.laysFinal RX8 "Rasterbox$Scene" "registers" "[I" ∈ q_WU := q_tab1 _ (List.mem_of_getElem? (i := 71) rfl) rfl
theorem q_w1848 : Cond.laysFinal RX9 "Rasterbox$Tape" "lengths" "[I" ∈ q_WU := q_tab1 _ (List.mem_of_getElem? (i := 91) rfl) rfl
theorem q_w1849 : Cond.lays RX9 "Rasterbox$Tape" "count" "I" ∈ q_WU := q_tab1 _ (List.mem_of_getElem? (i := 93) rfl) rfl
theorem q_w1850 : Cond.lays RX9 "Rasterbox$Tape" "over" "I" ∈ q_WU := q_tab1 _ (List.mem_of_getElem? (i := 95) rfl) rfl
theorem q_w1851 : Cond.lays RX9 "Rasterbox$Tape" "elapsed" "I" ∈ q_WU := q_tab1 _ (List.mem_of_getElem? (i := 97) rfl) rfl
theorem q_w1852 : Cond.lays RX9 "Rasterbox$Tape" "level" "I" ∈ q_WU := q_tab1 _ (List.mem_of_getElem? (i := 99) rfl) rfl
theorem q_inJ4 : ∀ w ∈ u_ws RJ4 TJ4 4, w ∈ q_WU := List.forall_mem_cons.mpr ⟨q_w1737, List.forall_mem_cons.mpr ⟨q_w1738, List.forall_mem_cons.mpr ⟨q_w1739, List.forall_mem_cons.mpr ⟨q_w1740, fun w h => absurd h List.not_mem_nil⟩⟩⟩⟩
theorem q_inJx00060 : ∀ w ∈ u_ws RJx00060 TJx00060 6, w ∈ q_WU := List.forall_mem_cons.mpr ⟨q_w1741, List.forall_mem_cons.mpr ⟨q_w1742, List.forall_mem_cons.mpr ⟨q_w1743, List.forall_mem_cons.mpr ⟨q_w1744, List.forall_mem_cons.mpr ⟨q_w1745, List.forall_mem_cons.mpr ⟨q_w1746, fun w h => absurd h List.not_mem_nil⟩⟩⟩⟩⟩⟩
theorem q_inJx7c733 : ∀ w ∈ u_ws RJx7c733 TJx7c733 6, w ∈ q_WU := List.forall_mem_cons.mpr ⟨q_w1747, List.forall_mem_cons.mpr ⟨q_w1748, List.forall_mem_cons.mpr ⟨q_w1749, List.forall_mem_cons.mpr ⟨q_w1750, List.forall_mem_cons.mpr ⟨q_w1751, List.forall_mem_cons.mpr ⟨q_w1752, fun w h => absurd h List.not_mem_nil⟩⟩⟩⟩⟩⟩
theorem q_inX0 : ∀ w ∈ u_ws RX0 TX0 9, w ∈ q_WU := List.forall_mem_cons.mpr ⟨q_w1753, List.forall_mem_cons.mpr ⟨q_w1754, List.forall_mem_cons.mpr ⟨q_w1755, List.forall_mem_cons.mpr ⟨q_w1756, List.forall_mem_cons.mpr ⟨q_w1757, List.forall_mem_cons.mpr ⟨q_w1758, List.forall_mem_cons.mpr ⟨q_w1759, List.forall_mem_cons.mpr ⟨q_w1760, List.forall_mem_cons.mpr ⟨q_w1761, fun w h => absurd h List.not_mem_nil⟩⟩⟩⟩⟩⟩⟩⟩⟩
theorem q_inX10 : ∀ w ∈ u_ws RX10 TX10 5, w ∈ q_WU := List.forall_mem_cons.mpr ⟨q_w1762, List.forall_mem_cons.mpr ⟨q_w1763, List.forall_mem_cons.mpr ⟨q_w1764, List.forall_mem_cons.mpr ⟨q_w1765, List.forall_mem_cons.mpr ⟨q_w1766, fun w h => absurd h List.not_mem_nil⟩⟩⟩⟩⟩
theorem q_inX11 : ∀ w ∈ u_ws RX11 TX11 6, w ∈ q_WU := List.forall_mem_cons.mpr ⟨q_w1767, List.forall_mem_cons.mpr ⟨q_w1768, List.forall_mem_cons.mpr ⟨q_w1769, List.forall_mem_cons.mpr ⟨q_w1770, List.forall_mem_cons.mpr ⟨q_w1771, List.forall_mem_cons.mpr ⟨q_w1772, fun w h => absurd h List.not_mem_nil⟩⟩⟩⟩⟩⟩
theorem q_inX12 : ∀ w ∈ u_ws RX12 TX12 40, w ∈ q_WU := List.forall_mem_cons.mpr ⟨q_w1773, List.forall_mem_cons.mpr ⟨q_w1774, List.forall_mem_cons.mpr ⟨q_w1775, List.forall_mem_cons.mpr ⟨q_w1776, List.forall_mem_cons.mpr ⟨q_w1777, List.forall_mem_cons.mpr ⟨q_w1778, List.forall_mem_cons.mpr ⟨q_w1779, List.forall_mem_cons.mpr ⟨q_w1780, List.forall_mem_cons.mpr ⟨q_w1781, List.forall_mem_cons.mpr ⟨q_w1782, List.forall_mem_cons.mpr ⟨q_w1783, List.forall_mem_cons.mpr ⟨q_w1784, List.forall_mem_cons.mpr ⟨q_w1785, List.forall_mem_cons.mpr ⟨q_w1786, List.forall_mem_cons.mpr ⟨q_w1787, List.forall_mem_cons.mpr ⟨q_w1788, List.forall_mem_cons.mpr ⟨q_w1789, List.forall_mem_cons.mpr ⟨q_w1790, List.forall_mem_cons.mpr ⟨q_w1791, List.forall_mem_cons.mpr ⟨q_w1792, List.forall_mem_cons.mpr ⟨q_w1793, List.forall_mem_cons.mpr ⟨q_w1794, List.forall_mem_cons.mpr ⟨q_w1795, List.forall_mem_cons.mpr ⟨q_w1796, List.forall_mem_cons.mpr ⟨q_w1797, List.forall_mem_cons.mpr ⟨q_w1798, List.forall_mem_cons.mpr ⟨q_w1799, List.forall_mem_cons.mpr ⟨q_w1800, List.forall_mem_cons.mpr ⟨q_w1801, List.forall_mem_cons.mpr ⟨q_w1802, List.forall_mem_cons.mpr ⟨q_w1803, List.forall_mem_cons.mpr ⟨q_w1804, List.forall_mem_cons.mpr ⟨q_w1805, List.forall_mem_cons.mpr ⟨q_w1806, List.forall_mem_cons.mpr ⟨q_w1807, List.forall_mem_cons.mpr ⟨q_w1808, List.forall_mem_cons.mpr ⟨q_w1809, List.forall_mem_cons.mpr ⟨q_w1810, List.forall_mem_cons.mpr ⟨q_w1811, List.forall_mem_cons.mpr ⟨q_w1812, fun w h => absurd h List.not_mem_nil⟩⟩⟩⟩⟩⟩⟩⟩⟩⟩⟩⟩⟩⟩⟩⟩⟩⟩⟩⟩⟩⟩⟩⟩⟩⟩⟩⟩⟩⟩⟩⟩⟩⟩⟩⟩⟩⟩⟩⟩
theorem q_inX2 : ∀ w ∈ u_ws RX2 TX2 4, w ∈ q_WU := List.forall_mem_cons.mpr ⟨q_w1813, List.forall_mem_cons.mpr ⟨q_w1814, List.forall_mem_cons.mpr ⟨q_w1815, List.forall_mem_cons.mpr ⟨q_w1816, fun w h => absurd h List.not_mem_nil⟩⟩⟩⟩
theorem q_inX3 : ∀ w ∈ u_ws RX3 TX3 3, w ∈ q_WU := List.forall_mem_cons.mpr ⟨q_w1817, List.forall_mem_cons.mpr ⟨q_w1818, List.forall_mem_cons.mpr ⟨q_w1819, fun w h => absurd h List.not_mem_nil⟩⟩⟩
theorem q_inX4 : ∀ w ∈ u_ws RX4 TX4 5, w ∈ q_WU := List.forall_mem_cons.mpr ⟨q_w1820, List.forall_mem_cons.mpr ⟨q_w1821, List.forall_mem_cons.mpr ⟨q_w1822, List.forall_mem_cons.mpr ⟨q_w1823, List.forall_mem_cons.mpr ⟨q_w1824, fun w h => absurd h List.not_mem_nil⟩⟩⟩⟩⟩
theorem q_inX6 : ∀ w ∈ u_ws RX6 TX6 13, w ∈ q_WU := List.forall_mem_cons.mpr ⟨q_w1825, List.forall_mem_cons.mpr ⟨q_w1826, List.forall_mem_cons.mpr ⟨q_w1827, List.forall_mem_cons.mpr ⟨q_w1828, List.forall_mem_cons.mpr ⟨q_w1829, List.forall_mem_cons.mpr ⟨q_w1830, List.forall_mem_cons.mpr ⟨q_w1831, List.forall_mem_cons.mpr ⟨q_w1832, List.forall_mem_cons.mpr ⟨q_w1833, List.forall_mem_cons.mpr ⟨q_w1834, List.forall_mem_cons.mpr ⟨q_w1835, List.forall_mem_cons.mpr ⟨q_w1836, List.forall_mem_cons.mpr ⟨q_w1837, fun w h => absurd h List.not_mem_nil⟩⟩⟩⟩⟩⟩⟩⟩⟩⟩⟩⟩⟩
theorem q_inX7 : ∀ w ∈ u_ws RX7 TX7 8, w ∈ q_WU := List.forall_mem_cons.mpr ⟨q_w1838, List.forall_mem_cons.mpr ⟨q_w1839, List.forall_mem_cons.mpr ⟨q_w1840, List.forall_mem_cons.mpr ⟨q_w1841, List.forall_mem_cons.mpr ⟨q_w1842, List.forall_mem_cons.mpr ⟨q_w1843, List.forall_mem_cons.mpr ⟨q_w1844, List.forall_mem_cons.mpr ⟨q_w1845, fun w h => absurd h List.not_mem_nil⟩⟩⟩⟩⟩⟩⟩⟩
theorem q_inX8 : ∀ w ∈ u_ws RX8 TX8 2, w ∈ q_WU := List.forall_mem_cons.mpr ⟨q_w1846, List.forall_mem_cons.mpr ⟨q_w1847, fun w h => absurd h List.not_mem_nil⟩⟩
theorem q_inX9 : ∀ w ∈ u_ws RX9 TX9 5, w ∈ q_WU := List.forall_mem_cons.mpr ⟨q_w1848, List.forall_mem_cons.mpr ⟨q_w1849, List.forall_mem_cons.mpr ⟨q_w1850, List.forall_mem_cons.mpr ⟨q_w1851, List.forall_mem_cons.mpr ⟨q_w1852, fun w h => absurd h List.not_mem_nil⟩⟩⟩⟩⟩
