theorem qk_bm100 : (Int8.ofInt (-100)).toInt32 = (-100) := by decide +kernel
theorem qk_bm10 : (Int8.ofInt (-10)).toInt32 = (-10) := by decide +kernel
theorem qk_bm9 : (Int8.ofInt (-9)).toInt32 = (-9) := by decide +kernel
theorem qk_b6 : (Int8.ofInt 6).toInt32 = 6 := by decide +kernel
theorem qk_b7 : (Int8.ofInt 7).toInt32 = 7 := by decide +kernel
theorem qk_b8 : (Int8.ofInt 8).toInt32 = 8 := by decide +kernel
theorem qk_b9 : (Int8.ofInt 9).toInt32 = 9 := by decide +kernel
theorem qk_b10 : (Int8.ofInt 10).toInt32 = 10 := by decide +kernel
theorem qk_b11 : (Int8.ofInt 11).toInt32 = 11 := by decide +kernel
theorem qk_b12 : (Int8.ofInt 12).toInt32 = 12 := by decide +kernel
theorem qk_b13 : (Int8.ofInt 13).toInt32 = 13 := by decide +kernel
theorem qk_b14 : (Int8.ofInt 14).toInt32 = 14 := by decide +kernel
theorem qk_b15 : (Int8.ofInt 15).toInt32 = 15 := by decide +kernel
theorem qk_b16 : (Int8.ofInt 16).toInt32 = 16 := by decide +kernel
theorem qk_b17 : (Int8.ofInt 17).toInt32 = 17 := by decide +kernel
theorem qk_b18 : (Int8.ofInt 18).toInt32 = 18 := by decide +kernel
theorem qk_b19 : (Int8.ofInt 19).toInt32 = 19 := by decide +kernel
theorem qk_b20 : (Int8.ofInt 20).toInt32 = 20 := by decide +kernel
theorem qk_b21 : (Int8.ofInt 21).toInt32 = 21 := by decide +kernel
theorem qk_b23 : (Int8.ofInt 23).toInt32 = 23 := by decide +kernel
theorem qk_b24 : (Int8.ofInt 24).toInt32 = 24 := by decide +kernel
theorem qk_b27 : (Int8.ofInt 27).toInt32 = 27 := by decide +kernel
theorem qk_b28 : (Int8.ofInt 28).toInt32 = 28 := by decide +kernel
theorem qk_b29 : (Int8.ofInt 29).toInt32 = 29 := by decide +kernel
theorem qk_b30 : (Int8.ofInt 30).toInt32 = 30 := by decide +kernel
theorem qk_b31 : (Int8.ofInt 31).toInt32 = 31 := by decide +kernel
theorem qk_b32 : (Int8.ofInt 32).toInt32 = 32 := by decide +kernel
theorem qk_b34 : (Int8.ofInt 34).toInt32 = 34 := by decide +kernel
theorem qk_b35 : (Int8.ofInt 35).toInt32 = 35 := by decide +kernel
theorem qk_b39 : (Int8.ofInt 39).toInt32 = 39 := by decide +kernel
theorem qk_b40 : (Int8.ofInt 40).toInt32 = 40 := by decide +kernel
theorem qk_b41 : (Int8.ofInt 41).toInt32 = 41 := by decide +kernel
theorem qk_b43 : (Int8.ofInt 43).toInt32 = 43 := by decide +kernel
theorem qk_b44 : (Int8.ofInt 44).toInt32 = 44 := by decide +kernel
theorem qk_b45 : (Int8.ofInt 45).toInt32 = 45 := by decide +kernel
theorem qk_b48 : (Int8.ofInt 48).toInt32 = 48 := by decide +kernel
theorem qk_b63 : (Int8.ofInt 63).toInt32 = 63 := by decide +kernel
theorem qk_b64 : (Int8.ofInt 64).toInt32 = 64 := by decide +kernel
theorem qk_b72 : (Int8.ofInt 72).toInt32 = 72 := by decide +kernel
theorem qk_b97 : (Int8.ofInt 97).toInt32 = 97 := by decide +kernel
theorem qk_b100 : (Int8.ofInt 100).toInt32 = 100 := by decide +kernel
theorem qk_b106 : (Int8.ofInt 106).toInt32 = 106 := by decide +kernel
theorem qk_b108 : (Int8.ofInt 108).toInt32 = 108 := by decide +kernel
theorem qk_b109 : (Int8.ofInt 109).toInt32 = 109 := by decide +kernel
theorem qk_b110 : (Int8.ofInt 110).toInt32 = 110 := by decide +kernel
theorem qk_b117 : (Int8.ofInt 117).toInt32 = 117 := by decide +kernel
theorem qk_b120 : (Int8.ofInt 120).toInt32 = 120 := by decide +kernel
theorem qk_b121 : (Int8.ofInt 121).toInt32 = 121 := by decide +kernel
theorem qk_b127 : (Int8.ofInt 127).toInt32 = 127 := by decide +kernel
theorem qk_im10 : Int32.ofInt (-10) = (-10) := by decide +kernel
theorem qk_im1 : Int32.ofInt (-1) = (-1) := by decide +kernel
theorem qk_i0 : Int32.ofInt 0 = 0 := by decide +kernel
theorem qk_i1 : Int32.ofInt 1 = 1 := by decide +kernel
theorem qk_i2 : Int32.ofInt 2 = 2 := by decide +kernel
theorem qk_i3 : Int32.ofInt 3 = 3 := by decide +kernel
theorem qk_i4 : Int32.ofInt 4 = 4 := by decide +kernel
theorem qk_i5 : Int32.ofInt 5 = 5 := by decide +kernel
theorem qk_i10 : Int32.ofInt 10 = 10 := by decide +kernel
theorem qk_sm131 : (Int16.ofInt (-131)).toInt32 = (-131) := by decide +kernel
theorem qk_s128 : (Int16.ofInt 128).toInt32 = 128 := by decide +kernel
theorem qk_s137 : (Int16.ofInt 137).toInt32 = 137 := by decide +kernel
theorem qk_s138 : (Int16.ofInt 138).toInt32 = 138 := by decide +kernel
theorem qk_s139 : (Int16.ofInt 139).toInt32 = 139 := by decide +kernel
theorem qk_s140 : (Int16.ofInt 140).toInt32 = 140 := by decide +kernel
theorem qk_s141 : (Int16.ofInt 141).toInt32 = 141 := by decide +kernel
theorem qk_s142 : (Int16.ofInt 142).toInt32 = 142 := by decide +kernel
theorem qk_s144 : (Int16.ofInt 144).toInt32 = 144 := by decide +kernel
theorem qk_s148 : (Int16.ofInt 148).toInt32 = 148 := by decide +kernel
theorem qk_s150 : (Int16.ofInt 150).toInt32 = 150 := by decide +kernel
theorem qk_s151 : (Int16.ofInt 151).toInt32 = 151 := by decide +kernel
theorem qk_s152 : (Int16.ofInt 152).toInt32 = 152 := by decide +kernel
theorem qk_s154 : (Int16.ofInt 154).toInt32 = 154 := by decide +kernel
theorem qk_s155 : (Int16.ofInt 155).toInt32 = 155 := by decide +kernel
theorem qk_s156 : (Int16.ofInt 156).toInt32 = 156 := by decide +kernel
theorem qk_s157 : (Int16.ofInt 157).toInt32 = 157 := by decide +kernel
theorem qk_s158 : (Int16.ofInt 158).toInt32 = 158 := by decide +kernel
theorem qk_s159 : (Int16.ofInt 159).toInt32 = 159 := by decide +kernel
theorem qk_s160 : (Int16.ofInt 160).toInt32 = 160 := by decide +kernel
theorem qk_s161 : (Int16.ofInt 161).toInt32 = 161 := by decide +kernel
theorem qk_s162 : (Int16.ofInt 162).toInt32 = 162 := by decide +kernel
theorem qk_s163 : (Int16.ofInt 163).toInt32 = 163 := by decide +kernel
theorem qk_s164 : (Int16.ofInt 164).toInt32 = 164 := by decide +kernel
theorem qk_s165 : (Int16.ofInt 165).toInt32 = 165 := by decide +kernel
theorem qk_s166 : (Int16.ofInt 166).toInt32 = 166 := by decide +kernel
theorem qk_s167 : (Int16.ofInt 167).toInt32 = 167 := by decide +kernel
theorem qk_s192 : (Int16.ofInt 192).toInt32 = 192 := by decide +kernel
theorem qk_s200 : (Int16.ofInt 200).toInt32 = 200 := by decide +kernel
theorem qk_s207 : (Int16.ofInt 207).toInt32 = 207 := by decide +kernel
theorem qk_s231 : (Int16.ofInt 231).toInt32 = 231 := by decide +kernel
theorem qk_s255 : (Int16.ofInt 255).toInt32 = 255 := by decide +kernel
theorem qk_s256 : (Int16.ofInt 256).toInt32 = 256 := by decide +kernel
theorem qk_s511 : (Int16.ofInt 511).toInt32 = 511 := by decide +kernel
theorem qk_s512 : (Int16.ofInt 512).toInt32 = 512 := by decide +kernel
theorem qk_s999 : (Int16.ofInt 999).toInt32 = 999 := by decide +kernel
theorem qk_s1000 : (Int16.ofInt 1000).toInt32 = 1000 := by decide +kernel
theorem qk_s1023 : (Int16.ofInt 1023).toInt32 = 1023 := by decide +kernel
theorem qk_s1024 : (Int16.ofInt 1024).toInt32 = 1024 := by decide +kernel
theorem qk_s1536 : (Int16.ofInt 1536).toInt32 = 1536 := by decide +kernel
theorem qk_s2047 : (Int16.ofInt 2047).toInt32 = 2047 := by decide +kernel
theorem qk_s2048 : (Int16.ofInt 2048).toInt32 = 2048 := by decide +kernel
theorem qk_s2559 : (Int16.ofInt 2559).toInt32 = 2559 := by decide +kernel
theorem qk_s2560 : (Int16.ofInt 2560).toInt32 = 2560 := by decide +kernel
theorem qk_s3072 : (Int16.ofInt 3072).toInt32 = 3072 := by decide +kernel
theorem qk_s3583 : (Int16.ofInt 3583).toInt32 = 3583 := by decide +kernel
theorem qk_s3584 : (Int16.ofInt 3584).toInt32 = 3584 := by decide +kernel
theorem qk_s3834 : (Int16.ofInt 3834).toInt32 = 3834 := by decide +kernel
theorem qk_s3836 : (Int16.ofInt 3836).toInt32 = 3836 := by decide +kernel
theorem qk_s3838 : (Int16.ofInt 3838).toInt32 = 3838 := by decide +kernel
theorem qk_s3840 : (Int16.ofInt 3840).toInt32 = 3840 := by decide +kernel
theorem qk_s3850 : (Int16.ofInt 3850).toInt32 = 3850 := by decide +kernel
theorem qk_s3856 : (Int16.ofInt 3856).toInt32 = 3856 := by decide +kernel
theorem qk_s3869 : (Int16.ofInt 3869).toInt32 = 3869 := by decide +kernel
theorem qk_s3870 : (Int16.ofInt 3870).toInt32 = 3870 := by decide +kernel
theorem qk_s3887 : (Int16.ofInt 3887).toInt32 = 3887 := by decide +kernel
theorem qk_s4095 : (Int16.ofInt 4095).toInt32 = 4095 := by decide +kernel
theorem qk_s4096 : (Int16.ofInt 4096).toInt32 = 4096 := by decide +kernel
theorem qk_s6144 : (Int16.ofInt 6144).toInt32 = 6144 := by decide +kernel
theorem qk_s8191 : (Int16.ofInt 8191).toInt32 = 8191 := by decide +kernel
theorem qk_s12288 : (Int16.ofInt 12288).toInt32 = 12288 := by decide +kernel
theorem qk_s16384 : (Int16.ofInt 16384).toInt32 = 16384 := by decide +kernel
theorem qk_l0 : Int64.ofNat ((0 : Fin 2) : Nat) = 0 := by decide +kernel
theorem qk_l1 : Int64.ofNat ((1 : Fin 2) : Nat) = 1 := by decide +kernel
def q_vS (TB : Nat → Option (Nat × Nat × (Nat → Int32))) : Value := match TB 9 with
  | none => .null
  | some x => cond (Nat.beq x.1 99) (.ref 9) .null
theorem q_vS_ok {TB : Nat → Option (Nat × Nat × (Nat → Int32))} : ∀ a, q_vS TB = .ref a → a < 64 := by
  intro a h
  unfold q_vS at h
  split at h
  · cases h
  · rename_i x _
    cases hb : Nat.beq x.1 99 with
    | true => rw [hb] at h; cases h; exact Nat.le_of_ble_eq_true rfl
    | false => rw [hb] at h; cases h
def q_fvS (TB : Nat → Option (Nat × Nat × (Nat → Int32))) (_ : q_L) (st : List Value) : Option (List Value) := match TB 9 with
  | none => none
  | some x => some (cond (Nat.beq x.1 99) (.ref 9) .null :: st)
theorem q_fvS_J {WU : List Cond} {cl : List vw_C} {tyl : List FieldType} {GF : (Nat → Prop) → State → Heap → Prop} {τ : Nat → Nat} {own mname : String} {cc : ByteArray} {nL pc nx : Nat} {TB : Nat → Option (Nat × Nat × (Nat → Int32))} (h : q_J WU cl tyl GF τ own mname cc nL pc (q_st nx (q_fk (q_vS TB)))) : q_J WU cl tyl GF τ own mname cc nL pc (q_st nx (q_fvS TB)) := by
  intro g g' h1 h2
  refine h g g' h1 ?_
  unfold q_st q_fvS at h2
  unfold q_st q_fk q_vS
  dsimp only at h2 ⊢
  cases hT : TB 9 with
  | none => rw [hT] at h2; cases h2
  | some x => rw [hT] at h2; exact h2
abbrev q_tyl : List FieldType := [.int, .boolean, .long, .char, .byte, .object "Rasterbox$Machine"]
abbrev q_NWn : List Cond := [.methodLinkNest RX11 9 ⟨"Rasterbox$Machine", "<init>", "()V"⟩ "Rasterbox", .methodLinkNest RX4 11 ⟨"Rasterbox$Board", "<init>", "()V"⟩ "Rasterbox", .methodLinkNest RX0 11 ⟨"Rasterbox$Scene", "<init>", "()V"⟩ "Rasterbox", .methodLinkNest RX0 30 ⟨"Rasterbox$Tape", "<init>", "()V"⟩ "Rasterbox", .methodLinkNest RX0 37 ⟨"Rasterbox$Keys", "<init>", "()V"⟩ "Rasterbox", .methodLinkNest RX0 44 ⟨"Rasterbox$Frame", "<init>", "()V"⟩ "Rasterbox", .methodLinkNest RX2 11 ⟨"Rasterbox$Scene", "<init>", "()V"⟩ "Rasterbox", .methodLinkNest RX4 20 ⟨"Rasterbox$Processor", "<init>", "()V"⟩ "Rasterbox", .methodLinkNest RX4 27 ⟨"Rasterbox$Voices", "<init>", "()V"⟩ "Rasterbox", .methodLinkNest RX11 22 ⟨"Rasterbox$Recording", "<init>", "()V"⟩ "Rasterbox", .methodLinkNest RX7 11 ⟨"Rasterbox$Machine", "<init>", "()V"⟩ "Rasterbox", .methodLinkNest RX11 36 ⟨"Rasterbox$Scene", "<init>", "()V"⟩ "Rasterbox"]
abbrev q_exn : List String := ["java/lang/RuntimeException", "java/lang/Exception"]
def q_NW0 : List Cond := (vx_atS RX11 252 "java/lang/IndexOutOfBoundsException" q_exn).filter (fun w => !goodWord w)
def q_NW1 : List Cond := (vx_atS RX11 257 "java/lang/IllegalArgumentException" q_exn).filter (fun w => !goodWord w)
def q_NW2 : List Cond := (vx_atS RX11 117 "java/lang/IllegalStateException" q_exn).filter (fun w => !goodWord w)
def q_bsN : ByteArray := ⟨#[0x2a, 0x2b, 0xb7, 0x00, 0x0d, 0xb1]⟩
def q_NW3 : List Cond := (q_atN RX11 205 "java/util/NoSuchElementException" 13 q_bsN "java/lang/RuntimeException" ["java/lang/Exception"]).filter (fun w => !goodWord w)
def q_NW : List Cond := q_NWn ++ (q_NW0 ++ (q_NW1 ++ (q_NW2 ++ (([.castable "java/util/NoSuchElementException" "java/util/NoSuchElementException"]) ++ q_NW3))))
theorem q_NW_ok : ∀ w ∈ q_NW, q_nw w = true := by decide +kernel
theorem q_th0_a : ∀ w ∈ (vx_atS RX11 252 "java/lang/IndexOutOfBoundsException" q_exn).filter goodWord, w ∈ q_WU := fun w hw => q_WU_of w ((show ∀ w ∈ (vx_atS RX11 252 "java/lang/IndexOutOfBoundsException" q_exn).filter goodWord, w ∈ lw_tbl by decide +kernel) w hw) (List.mem_filter.mp hw).2
theorem q_th0_b : ∀ w ∈ (vx_atS RX11 252 "java/lang/IndexOutOfBoundsException" q_exn).filter (fun w => !goodWord w), w ∈ q_NW := fun w hw => List.mem_append_right _ (List.mem_append_left _ hw)
theorem q_th0_c : ∀ w ∈ Cond.classLink RX11 248 "java/lang/IndexOutOfBoundsException" :: Cond.initialized "java/lang/IndexOutOfBoundsException" :: vx_atS RX11 252 "java/lang/IndexOutOfBoundsException" q_exn, vx_ot w = true := by decide +kernel
theorem q_th0_d : ∀ w ∈ (vx_atS RX11 252 "java/lang/IndexOutOfBoundsException" q_exn).filter (fun w => !goodWord w), w.onTables = true := by decide +kernel
theorem q_cast0 : Cond.castable "java/lang/IndexOutOfBoundsException" "java/lang/IndexOutOfBoundsException" ∈ q_NW := q_th0_b _ (by decide +kernel)
theorem q_th1_a : ∀ w ∈ (vx_atS RX11 257 "java/lang/IllegalArgumentException" q_exn).filter goodWord, w ∈ q_WU := fun w hw => q_WU_of w ((show ∀ w ∈ (vx_atS RX11 257 "java/lang/IllegalArgumentException" q_exn).filter goodWord, w ∈ lw_tbl by decide +kernel) w hw) (List.mem_filter.mp hw).2
theorem q_th1_b : ∀ w ∈ (vx_atS RX11 257 "java/lang/IllegalArgumentException" q_exn).filter (fun w => !goodWord w), w ∈ q_NW := fun w hw => List.mem_append_right _ (List.mem_append_right _ (List.mem_append_left _ hw))
theorem q_th1_c : ∀ w ∈ Cond.classLink RX11 253 "java/lang/IllegalArgumentException" :: Cond.initialized "java/lang/IllegalArgumentException" :: vx_atS RX11 257 "java/lang/IllegalArgumentException" q_exn, vx_ot w = true := by decide +kernel
theorem q_th1_d : ∀ w ∈ (vx_atS RX11 257 "java/lang/IllegalArgumentException" q_exn).filter (fun w => !goodWord w), w.onTables = true := by decide +kernel
theorem q_cast1 : Cond.castable "java/lang/IllegalArgumentException" "java/lang/IllegalArgumentException" ∈ q_NW := q_th1_b _ (by decide +kernel)
theorem q_th2_a : ∀ w ∈ (vx_atS RX11 117 "java/lang/IllegalStateException" q_exn).filter goodWord, w ∈ q_WU := fun w hw => q_WU_of w ((show ∀ w ∈ (vx_atS RX11 117 "java/lang/IllegalStateException" q_exn).filter goodWord, w ∈ lw_tbl by decide +kernel) w hw) (List.mem_filter.mp hw).2
theorem q_th2_b : ∀ w ∈ (vx_atS RX11 117 "java/lang/IllegalStateException" q_exn).filter (fun w => !goodWord w), w ∈ q_NW := fun w hw => List.mem_append_right _ (List.mem_append_right _ (List.mem_append_right _ (List.mem_append_left _ hw)))
theorem q_th2_c : ∀ w ∈ Cond.classLink RX11 113 "java/lang/IllegalStateException" :: Cond.initialized "java/lang/IllegalStateException" :: vx_atS RX11 117 "java/lang/IllegalStateException" q_exn, vx_ot w = true := by decide +kernel
theorem q_th2_d : ∀ w ∈ (vx_atS RX11 117 "java/lang/IllegalStateException" q_exn).filter (fun w => !goodWord w), w.onTables = true := by decide +kernel
theorem q_cast2 : Cond.castable "java/lang/IllegalStateException" "java/lang/IllegalStateException" ∈ q_NW := q_th2_b _ (by decide +kernel)
theorem q_cast3 : Cond.castable "java/util/NoSuchElementException" "java/util/NoSuchElementException" ∈ q_NW := List.mem_append_right _ (List.mem_append_right _ (List.mem_append_right _ (List.mem_append_right _ (List.mem_append_left _ (List.mem_singleton.mpr rfl)))))
theorem q_th3_a : ∀ w ∈ (q_atN RX11 205 "java/util/NoSuchElementException" 13 q_bsN "java/lang/RuntimeException" ["java/lang/Exception"]).filter goodWord, w ∈ q_WU := fun w hw => q_WU_of w ((show ∀ w ∈ (q_atN RX11 205 "java/util/NoSuchElementException" 13 q_bsN "java/lang/RuntimeException" ["java/lang/Exception"]).filter goodWord, w ∈ lw_tbl by decide +kernel) w hw) (List.mem_filter.mp hw).2
theorem q_th3_b : ∀ w ∈ (q_atN RX11 205 "java/util/NoSuchElementException" 13 q_bsN "java/lang/RuntimeException" ["java/lang/Exception"]).filter (fun w => !goodWord w), w ∈ q_NW := fun w hw => List.mem_append_right _ (List.mem_append_right _ (List.mem_append_right _ (List.mem_append_right _ (List.mem_append_right _ hw))))
theorem q_th3_c : ∀ w ∈ Cond.classLink RX11 201 "java/util/NoSuchElementException" :: Cond.initialized "java/util/NoSuchElementException" :: (q_atN RX11 205 "java/util/NoSuchElementException" 13 q_bsN "java/lang/RuntimeException" ["java/lang/Exception"]), vx_ot w = true := by decide +kernel
theorem q_th3_d : ∀ w ∈ (q_atN RX11 205 "java/util/NoSuchElementException" 13 q_bsN "java/lang/RuntimeException" ["java/lang/Exception"]).filter (fun w => !goodWord w), w.onTables = true := by decide +kernel
abbrev q_NC : List (String × String) := [("java/lang/IllegalArgumentException", "java/lang/IndexOutOfBoundsException"), ("java/lang/IllegalStateException", "java/lang/IndexOutOfBoundsException"), ("java/lang/IllegalStateException", "java/lang/IllegalArgumentException")]
abbrev q_AO : List String := ["Rasterbox$Machine"]
abbrev q_SR : List (String × Nat × String × Nat) := [(RX11, 250, "no such index", 10), (RX11, 255, "out of range", 11), (RX1, 26, "ldaldxldystastxstyadcsbcandoraeorcmpcpxcpyincdeclaxsaxdcpiscbit", 12), (RX1, 28, "inxdexinydeytaxtxataytyatsxtxsphaplaphpplpsecclcsedcldseicliclvnopasllsrrolrorbrkrtirtsjmpjsrjmibnebeqbccbcsbplbmibvcbvs", 13), (RX1, 36, "jam", 14), (RX5, 60, ",x", 15), (RX5, 65, ",y", 16), (RX5, 67, "),y", 17), (RX5, 69, ",x)", 18), (RX11, 115, "an instruction or an interrupt is under way", 19), (RX11, 127, "the processor is jammed", 20), (RX11, 183, "the tape is full", 21), (RX11, 191, "there are 3 snapshots", 22), (RX11, 203, "no such snapshot", 23), (RX11, 217, "there is no record", 24)]
abbrev q_ZZ (TB : Nat → Option (Nat × Nat × (Nat → Int32))) : List (String × String × String × Value) := [("Rasterbox$Scene", "MASKS", "[I", .ref 1), ("Rasterbox$Codes", "MODE_CYCLES", "[I", .ref 2), ("Rasterbox$Codes", "SPECIAL_CYCLES", "[I", .ref 3), ("RasterboxModel", "NAMES", "[C", .ref 4), ("RasterboxModel", "OTHERS", "[C", .ref 5), ("java/lang/Integer", "DigitOnes", "[B", .ref 6), ("java/lang/Integer", "DigitTens", "[B", .ref 7), ("java/lang/String", "COMPACT_STRINGS", "Z", .int 1), ("java/lang/StringUTF16", "$assertionsDisabled", "Z", .int 1), ("java/lang/StringUTF16", "HI_BYTE_SHIFT", "I", .int 0), ("java/lang/StringUTF16", "LO_BYTE_SHIFT", "I", .int 8)] ++ [("jdk/internal/util/Preconditions", "SIOOBE_FORMATTER", "Ljava/util/function/BiFunction;", q_vS TB)]
abbrev q_SK : List Nat := [12, 13, 14, 15, 16, 17, 18]
abbrev q_SV : List (Nat × Value) := [(12, .ref 40), (13, .ref 41), (14, .ref 42), (15, .ref 43), (16, .ref 44), (17, .ref 45), (18, .ref 46)]
abbrev q_SC : List (Nat × Value) := [(12, .int 0), (13, .int 0), (14, .int 0), (15, .int 0), (16, .int 0), (17, .int 0), (18, .int 0)]
theorem q_SK_lo : ∀ x ∈ q_SK, x < 64 := by decide
theorem q_SV_lo : ∀ x ∈ q_SV, x.1 < 64 := fun x hx => of_decide_eq_true (List.all_eq_true.mp (show (q_SV.all fun x => decide (x.1 < 64)) = true from rfl) x hx)
theorem q_SC_lo : ∀ x ∈ q_SC, x.1 < 64 := fun x hx => of_decide_eq_true (List.all_eq_true.mp (show (q_SC.all fun x => decide (x.1 < 64)) = true from rfl) x hx)
def q_oklt (v : Value) : Bool := match v with | .ref a => decide (a < 64) | _ => true
theorem q_oklt_ok {t : List (Nat × Value)} (h : t.all (fun x => q_oklt x.2) = true) : ∀ x ∈ t, ∀ a, x.2 = .ref a → a < 64 := fun x hx a e => by have h2 : q_oklt x.2 = true := List.all_eq_true.mp h x hx; rw [e] at h2; exact of_decide_eq_true h2
theorem q_SV_ok : ∀ x ∈ q_SV, ∀ a, x.2 = .ref a → a < 64 := q_oklt_ok rfl
theorem q_SC_ok : ∀ x ∈ q_SC, ∀ a, x.2 = .ref a → a < 64 := q_oklt_ok rfl
def q_OB : List (String × String × String × Value × Nat) := q_SV.map (fun x => ("java/lang/String", "value", "[B", x.2, x.1)) ++ q_SC.map (fun x => ("java/lang/String", "coder", "B", x.2, x.1))
def q_OO : List (String × Nat) := q_SK.map fun k => ("java/lang/String", k)
theorem q_SV_in : ∀ x ∈ q_SV, ("java/lang/String", "value", "[B", x.2, x.1) ∈ q_OB := fun x hx => List.mem_append_left _ (List.mem_map.mpr ⟨x, hx, rfl⟩)
theorem q_SC_in : ∀ x ∈ q_SC, ("java/lang/String", "coder", "B", x.2, x.1) ∈ q_OB := fun x hx => List.mem_append_right _ (List.mem_map.mpr ⟨x, hx, rfl⟩)
abbrev q_gF (TB : Nat → Option (Nat × Nat × (Nat → Int32))) (τ : Nat → Nat) : (Nat → Prop) → State → Heap → Prop := q_gf9 q_NW q_NC q_AO q_SR (q_ZZ TB) q_OB q_OO q_tyl τ TB
theorem q_hTB {TB : Nat → Option (Nat × Nat × (Nat → Int32))} {τ : Nat → Nat} : q_TB TB q_tyl (q_gF TB τ) τ := fun a t n f ty A U H h1 h2 h => h.2.2.2.2.2.2.2.1 a t n f ty h1 h2
abbrev q_S9 (TB : Nat → Option (Nat × Nat × (Nat → Int32))) (τ : Nat → Nat) (M : q_M) (pc : Nat) (x : q_E) : Prop := q_Snd q_WU vwCl q_tyl (q_gF TB τ) τ q_mt M pc x
theorem q_sm_0 : (RX11, 250, "no such index", 10) ∈ q_SR := List.mem_cons_self
theorem q_sr0 {TB : Nat → Option (Nat × Nat × (Nat → Int32))} {τ : Nat → Nat} : ∀ A U H, q_gF TB τ A U H → vk_R RX11 250 "no such index" (τ 10) U := fun A U H h => h.2.2.2.1 (RX11, 250, "no such index", 10) q_sm_0
theorem q_sm_1 : (RX11, 255, "out of range", 11) ∈ q_SR := List.mem_cons_of_mem _ (List.mem_cons_self)
theorem q_sr1 {TB : Nat → Option (Nat × Nat × (Nat → Int32))} {τ : Nat → Nat} : ∀ A U H, q_gF TB τ A U H → vk_R RX11 255 "out of range" (τ 11) U := fun A U H h => h.2.2.2.1 (RX11, 255, "out of range", 11) q_sm_1
theorem q_sm_2 : (RX1, 26, "ldaldxldystastxstyadcsbcandoraeorcmpcpxcpyincdeclaxsaxdcpiscbit", 12) ∈ q_SR := List.mem_cons_of_mem _ (List.mem_cons_of_mem _ (List.mem_cons_self))
theorem q_sr2 {TB : Nat → Option (Nat × Nat × (Nat → Int32))} {τ : Nat → Nat} : ∀ A U H, q_gF TB τ A U H → vk_R RX1 26 "ldaldxldystastxstyadcsbcandoraeorcmpcpxcpyincdeclaxsaxdcpiscbit" (τ 12) U := fun A U H h => h.2.2.2.1 (RX1, 26, "ldaldxldystastxstyadcsbcandoraeorcmpcpxcpyincdeclaxsaxdcpiscbit", 12) q_sm_2
theorem q_sm_3 : (RX1, 28, "inxdexinydeytaxtxataytyatsxtxsphaplaphpplpsecclcsedcldseicliclvnopasllsrrolrorbrkrtirtsjmpjsrjmibnebeqbccbcsbplbmibvcbvs", 13) ∈ q_SR := List.mem_cons_of_mem _ (List.mem_cons_of_mem _ (List.mem_cons_of_mem _ (List.mem_cons_self)))
theorem q_sr3 {TB : Nat → Option (Nat × Nat × (Nat → Int32))} {τ : Nat → Nat} : ∀ A U H, q_gF TB τ A U H → vk_R RX1 28 "inxdexinydeytaxtxataytyatsxtxsphaplaphpplpsecclcsedcldseicliclvnopasllsrrolrorbrkrtirtsjmpjsrjmibnebeqbccbcsbplbmibvcbvs" (τ 13) U := fun A U H h => h.2.2.2.1 (RX1, 28, "inxdexinydeytaxtxataytyatsxtxsphaplaphpplpsecclcsedcldseicliclvnopasllsrrolrorbrkrtirtsjmpjsrjmibnebeqbccbcsbplbmibvcbvs", 13) q_sm_3
theorem q_sm_4 : (RX1, 36, "jam", 14) ∈ q_SR := List.mem_cons_of_mem _ (List.mem_cons_of_mem _ (List.mem_cons_of_mem _ (List.mem_cons_of_mem _ (List.mem_cons_self))))
theorem q_sr4 {TB : Nat → Option (Nat × Nat × (Nat → Int32))} {τ : Nat → Nat} : ∀ A U H, q_gF TB τ A U H → vk_R RX1 36 "jam" (τ 14) U := fun A U H h => h.2.2.2.1 (RX1, 36, "jam", 14) q_sm_4
theorem q_sm_5 : (RX5, 60, ",x", 15) ∈ q_SR := List.mem_cons_of_mem _ (List.mem_cons_of_mem _ (List.mem_cons_of_mem _ (List.mem_cons_of_mem _ (List.mem_cons_of_mem _ (List.mem_cons_self)))))
theorem q_sr5 {TB : Nat → Option (Nat × Nat × (Nat → Int32))} {τ : Nat → Nat} : ∀ A U H, q_gF TB τ A U H → vk_R RX5 60 ",x" (τ 15) U := fun A U H h => h.2.2.2.1 (RX5, 60, ",x", 15) q_sm_5
theorem q_sm_6 : (RX5, 65, ",y", 16) ∈ q_SR := List.mem_cons_of_mem _ (List.mem_cons_of_mem _ (List.mem_cons_of_mem _ (List.mem_cons_of_mem _ (List.mem_cons_of_mem _ (List.mem_cons_of_mem _ (List.mem_cons_self))))))
theorem q_sr6 {TB : Nat → Option (Nat × Nat × (Nat → Int32))} {τ : Nat → Nat} : ∀ A U H, q_gF TB τ A U H → vk_R RX5 65 ",y" (τ 16) U := fun A U H h => h.2.2.2.1 (RX5, 65, ",y", 16) q_sm_6
theorem q_sm_7 : (RX5, 67, "),y", 17) ∈ q_SR := List.mem_cons_of_mem _ (List.mem_cons_of_mem _ (List.mem_cons_of_mem _ (List.mem_cons_of_mem _ (List.mem_cons_of_mem _ (List.mem_cons_of_mem _ (List.mem_cons_of_mem _ (List.mem_cons_self)))))))
theorem q_sr7 {TB : Nat → Option (Nat × Nat × (Nat → Int32))} {τ : Nat → Nat} : ∀ A U H, q_gF TB τ A U H → vk_R RX5 67 "),y" (τ 17) U := fun A U H h => h.2.2.2.1 (RX5, 67, "),y", 17) q_sm_7
theorem q_sm_8 : (RX5, 69, ",x)", 18) ∈ q_SR := List.mem_cons_of_mem _ (List.mem_cons_of_mem _ (List.mem_cons_of_mem _ (List.mem_cons_of_mem _ (List.mem_cons_of_mem _ (List.mem_cons_of_mem _ (List.mem_cons_of_mem _ (List.mem_cons_of_mem _ (List.mem_cons_self))))))))
theorem q_sr8 {TB : Nat → Option (Nat × Nat × (Nat → Int32))} {τ : Nat → Nat} : ∀ A U H, q_gF TB τ A U H → vk_R RX5 69 ",x)" (τ 18) U := fun A U H h => h.2.2.2.1 (RX5, 69, ",x)", 18) q_sm_8
theorem q_sm_9 : (RX11, 115, "an instruction or an interrupt is under way", 19) ∈ q_SR := List.mem_cons_of_mem _ (List.mem_cons_of_mem _ (List.mem_cons_of_mem _ (List.mem_cons_of_mem _ (List.mem_cons_of_mem _ (List.mem_cons_of_mem _ (List.mem_cons_of_mem _ (List.mem_cons_of_mem _ (List.mem_cons_of_mem _ (List.mem_cons_self)))))))))
theorem q_sr9 {TB : Nat → Option (Nat × Nat × (Nat → Int32))} {τ : Nat → Nat} : ∀ A U H, q_gF TB τ A U H → vk_R RX11 115 "an instruction or an interrupt is under way" (τ 19) U := fun A U H h => h.2.2.2.1 (RX11, 115, "an instruction or an interrupt is under way", 19) q_sm_9
theorem q_sm_10 : (RX11, 127, "the processor is jammed", 20) ∈ q_SR := List.mem_cons_of_mem _ (List.mem_cons_of_mem _ (List.mem_cons_of_mem _ (List.mem_cons_of_mem _ (List.mem_cons_of_mem _ (List.mem_cons_of_mem _ (List.mem_cons_of_mem _ (List.mem_cons_of_mem _ (List.mem_cons_of_mem _ (List.mem_cons_of_mem _ (List.mem_cons_self))))))))))
theorem q_sr10 {TB : Nat → Option (Nat × Nat × (Nat → Int32))} {τ : Nat → Nat} : ∀ A U H, q_gF TB τ A U H → vk_R RX11 127 "the processor is jammed" (τ 20) U := fun A U H h => h.2.2.2.1 (RX11, 127, "the processor is jammed", 20) q_sm_10
theorem q_sm_11 : (RX11, 183, "the tape is full", 21) ∈ q_SR := List.mem_cons_of_mem _ (List.mem_cons_of_mem _ (List.mem_cons_of_mem _ (List.mem_cons_of_mem _ (List.mem_cons_of_mem _ (List.mem_cons_of_mem _ (List.mem_cons_of_mem _ (List.mem_cons_of_mem _ (List.mem_cons_of_mem _ (List.mem_cons_of_mem _ (List.mem_cons_of_mem _ (List.mem_cons_self)))))))))))
theorem q_sr11 {TB : Nat → Option (Nat × Nat × (Nat → Int32))} {τ : Nat → Nat} : ∀ A U H, q_gF TB τ A U H → vk_R RX11 183 "the tape is full" (τ 21) U := fun A U H h => h.2.2.2.1 (RX11, 183, "the tape is full", 21) q_sm_11
theorem q_sm_12 : (RX11, 191, "there are 3 snapshots", 22) ∈ q_SR := List.mem_cons_of_mem _ (List.mem_cons_of_mem _ (List.mem_cons_of_mem _ (List.mem_cons_of_mem _ (List.mem_cons_of_mem _ (List.mem_cons_of_mem _ (List.mem_cons_of_mem _ (List.mem_cons_of_mem _ (List.mem_cons_of_mem _ (List.mem_cons_of_mem _ (List.mem_cons_of_mem _ (List.mem_cons_of_mem _ (List.mem_cons_self))))))))))))
theorem q_sr12 {TB : Nat → Option (Nat × Nat × (Nat → Int32))} {τ : Nat → Nat} : ∀ A U H, q_gF TB τ A U H → vk_R RX11 191 "there are 3 snapshots" (τ 22) U := fun A U H h => h.2.2.2.1 (RX11, 191, "there are 3 snapshots", 22) q_sm_12
theorem q_sm_13 : (RX11, 203, "no such snapshot", 23) ∈ q_SR := List.mem_cons_of_mem _ (List.mem_cons_of_mem _ (List.mem_cons_of_mem _ (List.mem_cons_of_mem _ (List.mem_cons_of_mem _ (List.mem_cons_of_mem _ (List.mem_cons_of_mem _ (List.mem_cons_of_mem _ (List.mem_cons_of_mem _ (List.mem_cons_of_mem _ (List.mem_cons_of_mem _ (List.mem_cons_of_mem _ (List.mem_cons_of_mem _ (List.mem_cons_self)))))))))))))
theorem q_sr13 {TB : Nat → Option (Nat × Nat × (Nat → Int32))} {τ : Nat → Nat} : ∀ A U H, q_gF TB τ A U H → vk_R RX11 203 "no such snapshot" (τ 23) U := fun A U H h => h.2.2.2.1 (RX11, 203, "no such snapshot", 23) q_sm_13
theorem q_sm_14 : (RX11, 217, "there is no record", 24) ∈ q_SR := List.mem_cons_of_mem _ (List.mem_cons_of_mem _ (List.mem_cons_of_mem _ (List.mem_cons_of_mem _ (List.mem_cons_of_mem _ (List.mem_cons_of_mem _ (List.mem_cons_of_mem _ (List.mem_cons_of_mem _ (List.mem_cons_of_mem _ (List.mem_cons_of_mem _ (List.mem_cons_of_mem _ (List.mem_cons_of_mem _ (List.mem_cons_of_mem _ (List.mem_cons_of_mem _ (List.mem_cons_self))))))))))))))
theorem q_sr14 {TB : Nat → Option (Nat × Nat × (Nat → Int32))} {τ : Nat → Nat} : ∀ A U H, q_gF TB τ A U H → vk_R RX11 217 "there is no record" (τ 24) U := fun A U H h => h.2.2.2.1 (RX11, 217, "there is no record", 24) q_sm_14
