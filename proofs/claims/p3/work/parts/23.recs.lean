abbrev q_m0 : q_M := (yL_poke, cL_poke, 5, (some .int), [(0, 10, 13, 13), (0, 10, 17, 15)], "")
abbrev q_m1 : q_M := (yL_pokeRom, cL_pokeRom, 5, (some .int), [(0, 10, 13, 13), (0, 10, 17, 15)], "")
abbrev q_m2 : q_M := (yL_pokeCartridge, cL_pokeCartridge, 6, (some .int), [(0, 12, 15, 13), (0, 12, 19, 15)], "")
abbrev q_m3 : q_M := (yL_peek, cL_peek, 4, (some .int), [(0, 9, 12, 13)], "")
abbrev q_m4 : q_M := (yL_ram, cL_ram, 4, (some .int), [(0, 9, 12, 13)], "")
abbrev q_m5 : q_M := (yL_assemble, cL_assemble, 6, (some .int), [(0, 12, 15, 13), (0, 12, 19, 15)], "")
abbrev q_m6 : q_M := (yL_writeLine, cL_writeLine, 4, (some .int), [(0, 9, 12, 13)], "")
abbrev q_m7 : q_M := (yL_lineAt, cL_lineAt, 4, (some .int), [(0, 9, 12, 13)], "")
abbrev q_m8 : q_M := (yL_compare, cL_compare, 6, (some .int), [(0, 12, 15, 13), (0, 12, 19, 15)], "")
abbrev q_m9 : q_M := (yL_register, cL_register, 4, (some .int), [(0, 9, 12, 13)], "")
abbrev q_m10 : q_M := (yL_setRegister, cL_setRegister, 5, (some .int), [(0, 10, 13, 13), (0, 10, 17, 15), (0, 10, 21, 50)], "")
abbrev q_m11 : q_M := (yL_run, cL_run, 4, (some .int), [(0, 9, 12, 15)], "")
abbrev q_m12 : q_M := (yL_step, cL_step, 3, (some .int), [(0, 8, 11, 50)], "")
abbrev q_m13 : q_M := (yL_traceAt, cL_traceAt, 4, (some .int), [(0, 9, 12, 13)], "")
abbrev q_m14 : q_M := (yL_pixel, cL_pixel, 5, (some .int), [(0, 10, 13, 13)], "")
abbrev q_m15 : q_M := (yL_pixelAgain, cL_pixelAgain, 5, (some .int), [(0, 10, 13, 13)], "")
abbrev q_m16 : q_M := (yL_sample, cL_sample, 4, (some .int), [(0, 9, 12, 13)], "")
abbrev q_m17 : q_M := (yL_level, cL_level, 4, (some .int), [(0, 9, 12, 13)], "")
abbrev q_m18 : q_M := (yL_key, cL_key, 6, (some .int), [(0, 19, 22, 13)], "")
abbrev q_m19 : q_M := (yL_columns, cL_columns, 4, (some .int), [(0, 9, 12, 15)], "")
abbrev q_m20 : q_M := (yL_joystick, cL_joystick, 4, (some .int), [(0, 9, 12, 15)], "")
abbrev q_m21 : q_M := (yL_addPulse, cL_addPulse, 4, (some .int), [(0, 9, 12, 15), (0, 9, 15, 50)], "")
abbrev q_m22 : q_M := (yL_save, cL_save, 3, (some .int), [(0, 8, 11, 50)], "")
abbrev q_m23 : q_M := (yL_restore, cL_restore, 4, (some .int), [(0, 9, 12, 93)], "")
abbrev q_m24 : q_M := (yL_differences, cL_differences, 4, (some .int), [(0, 9, 12, 93)], "")
abbrev q_m25 : q_M := (yL_recorded, cL_recorded, 3, (some .int), [(0, 8, 11, 50)], "")
abbrev q_m26 : q_M := (yL_isSame, cL_isSame, 3, (some .int), [(0, 15, 18, 50)], "")
abbrev q_m27 : q_M := (yX11_init, cX11_init, 2, none, [], "")
abbrev q_m28 : q_M := (yX11_poke, cX11_poke, 3, (some .int), [], "")
abbrev q_m29 : q_M := (yX11_pokeRom, cX11_pokeRom, 3, (some .int), [], "")
abbrev q_m30 : q_M := (yX11_pokeCartridge, cX11_pokeCartridge, 4, (some .int), [], "")
abbrev q_m31 : q_M := (yX11_peek, cX11_peek, 2, (some .int), [], "")
abbrev q_m32 : q_M := (yX11_ram, cX11_ram, 2, (some .int), [], "")
abbrev q_m33 : q_M := (yX11_assemble, cX11_assemble, 4, (some .int), [], "")
abbrev q_m34 : q_M := (yX11_writeLine, cX11_writeLine, 2, (some .int), [], "")
abbrev q_m35 : q_M := (yX11_lineAt, cX11_lineAt, 2, (some .char), [], "")
abbrev q_m36 : q_M := (yX11_compare, cX11_compare, 7, (some .int), [], "")
abbrev q_m37 : q_M := (yX11_register, cX11_register, 2, (some .int), [], "")
abbrev q_m38 : q_M := (yX11_setRegister, cX11_setRegister, 3, (some .int), [], "")
abbrev q_m39 : q_M := (yX11_status, cX11_status, 1, (some .int), [], "")
abbrev q_m40 : q_M := (yX11_reset, cX11_reset, 1, (some .int), [], "")
abbrev q_m41 : q_M := (yX11_freeze, cX11_freeze, 1, (some .int), [], "")
abbrev q_m42 : q_M := (yX11_run, cX11_run, 2, (some .int), [], "")
abbrev q_m43 : q_M := (yX11_step, cX11_step, 1, (some .int), [], "")
abbrev q_m44 : q_M := (yX11_cycle, cX11_cycle, 1, (some .long), [], "")
abbrev q_m45 : q_M := (yX11_isPictures, cX11_isPictures, 1, (some .boolean), [], "")
abbrev q_m46 : q_M := (yX11_underWay, cX11_underWay, 1, (some .int), [], "")
abbrev q_m47 : q_M := (yX11_done, cX11_done, 1, (some .int), [], "")
abbrev q_m48 : q_M := (yX11_isJammed, cX11_isJammed, 1, (some .boolean), [], "")
abbrev q_m49 : q_M := (yX11_traceAt, cX11_traceAt, 3, (some .int), [], "")
abbrev q_m50 : q_M := (yX11_pixel, cX11_pixel, 3, (some .int), [], "")
abbrev q_m51 : q_M := (yX11_pixelAgain, cX11_pixelAgain, 3, (some .int), [], "")
abbrev q_m52 : q_M := (yX11_sample, cX11_sample, 2, (some .int), [], "")
abbrev q_m53 : q_M := (yX11_level, cX11_level, 2, (some .int), [], "")
abbrev q_m54 : q_M := (yX11_key, cX11_key, 5, (some .boolean), [], "")
abbrev q_m55 : q_M := (yX11_columns, cX11_columns, 2, (some .int), [], "")
abbrev q_m56 : q_M := (yX11_joystick, cX11_joystick, 2, (some .int), [], "")
abbrev q_m57 : q_M := (yX11_addPulse, cX11_addPulse, 2, (some .int), [], "")
abbrev q_m58 : q_M := (yX11_rewind, cX11_rewind, 1, (some .int), [], "")
abbrev q_m59 : q_M := (yX11_pulsesLeft, cX11_pulsesLeft, 1, (some .int), [], "")
abbrev q_m60 : q_M := (yX11_save, cX11_save, 2, (some .int), [], "")
abbrev q_m61 : q_M := (yX11_restore, cX11_restore, 4, (some .int), [], "")
abbrev q_m62 : q_M := (yX11_differences, cX11_differences, 3, (some .int), [], "")
abbrev q_m63 : q_M := (yX11_startRecord, cX11_startRecord, 2, (some .int), [], "")
abbrev q_m64 : q_M := (yX11_recorded, cX11_recorded, 1, (some .int), [], "")
abbrev q_m65 : q_M := (yX11_isSame, cX11_isSame, 4, (some .boolean), [], "")
abbrev q_m66 : q_M := (yX11_sumOfPicture, cX11_sumOfPicture, 3, (some .int), [], "")
abbrev q_m67 : q_M := (yX11_pictures, cX11_pictures, 1, (some .long), [], "")
abbrev q_m68 : q_M := (yX11_solidShare, cX11_solidShare, 4, (some .float), [], "")
abbrev q_m69 : q_M := (yX11_meanSample, cX11_meanSample, 3, (some .double), [], "")
abbrev q_m70 : q_M := (yX11_checkAddress, cX11_checkAddress, 1, none, [], "")
abbrev q_m71 : q_M := (yX11_checkIndex, cX11_checkIndex, 2, none, [], "")
abbrev q_m72 : q_M := (yX11_checkByte, cX11_checkByte, 1, none, [], "")
abbrev q_m73 : q_M := (yX11_checkArgument, cX11_checkArgument, 3, none, [], "")
abbrev q_m74 : q_M := (yX11_snapshotOf, cX11_snapshotOf, 2, (some (.object "Rasterbox$Machine")), [], "")
abbrev q_m75 : q_M := (yX4_init, cX4_init, 1, none, [], "")
abbrev q_m76 : q_M := (yX4_become, cX4_become, 2, none, [], "")
abbrev q_m77 : q_M := (yX4_isLike, cX4_isLike, 3, (some .boolean), [], "")
abbrev q_m78 : q_M := (yX4_perform, cX4_perform, 5, (some .int), [], "")
abbrev q_m79 : q_M := (yX4_startAnew, cX4_startAnew, 1, (some .int), [], "")
abbrev q_m80 : q_M := (yX4_pressFreeze, cX4_pressFreeze, 2, (some .int), [], "")
abbrev q_m81 : q_M := (yX4_letPass, cX4_letPass, 6, (some .int), [], "")
abbrev q_m82 : q_M := (yX4_passPicture, cX4_passPicture, 2, (some .boolean), [], "")
abbrev q_m83 : q_M := (yX0_init, cX0_init, 1, none, [], "")
abbrev q_m84 : q_M := (yX0_become, cX0_become, 2, none, [], "")
abbrev q_m85 : q_M := (yX0_position, cX0_position, 1, (some .int), [], "")
abbrev q_m86 : q_M := (yX0_column, cX0_column, 1, (some .int), [], "")
abbrev q_m87 : q_M := (yX0_present, cX0_present, 1, (some (.object "Rasterbox$Frame")), [], "")
abbrev q_m88 : q_M := (yX0_last, cX0_last, 1, (some (.object "Rasterbox$Frame")), [], "")
abbrev q_m89 : q_M := (yX0_read, cX0_read, 4, (some .int), [], "")
abbrev q_m90 : q_M := (yX0_readRegister, cX0_readRegister, 3, (some .int), [], "")
abbrev q_m91 : q_M := (yX0_readWord, cX0_readWord, 3, (some .int), [], "")
abbrev q_m92 : q_M := (yX0_load, cX0_load, 3, (some .int), [], "")
abbrev q_m93 : q_M := (yX0_write, cX0_write, 3, none, [], "")
abbrev q_m94 : q_M := (yX0_startTimers, cX0_startTimers, 3, none, [], "")
abbrev q_m95 : q_M := (yX0_clearRegisters, cX0_clearRegisters, 1, none, [], "")
abbrev q_m96 : q_M := (yX0_exchange, cX0_exchange, 4, (some .int), [], "")
abbrev q_m97 : q_M := (yX0_exchangeRom, cX0_exchangeRom, 5, (some .int), [], "")
abbrev q_m98 : q_M := (yX0_exchangeCartridge, cX0_exchangeCartridge, 5, (some .int), [], "")
abbrev q_m99 : q_M := (yX0_writeInstruction, cX0_writeInstruction, 5, (some .int), [], "")
abbrev q_m100 : q_M := (yX0_meetLine, cX0_meetLine, 1, none, [], "")
abbrev q_m101 : q_M := (yX0_isPictureNext, cX0_isPictureNext, 1, (some .boolean), [], "")
abbrev q_m102 : q_M := (yX0_draw, cX0_draw, 8, none, [], "")
abbrev q_m103 : q_M := (yX0_countTimers, cX0_countTimers, 3, none, [], "")
abbrev q_m104 : q_M := (yX0_countDown, cX0_countDown, 3, (some .boolean), [], "")
abbrev q_m105 : q_M := (yX0_moveTape, cX0_moveTape, 1, none, [], "")
abbrev q_m106 : q_M := (yX0_endCycle, cX0_endCycle, 1, none, [], "")
abbrev q_m107 : q_M := (yX0_drawnAgain, cX0_drawnAgain, 7, (some .int), [], "")
abbrev q_m108 : q_M := (yX8_init, cX8_init, 1, none, [], "")
abbrev q_m109 : q_M := (yX8_become, cX8_become, 2, none, [], "")
abbrev q_m110 : q_M := (yX8_bytesUnlike, cX8_bytesUnlike, 4, (some .int), [], "")
abbrev q_m111 : q_M := (yX8_put, cX8_put, 4, none, [], "")
abbrev q_m112 : q_M := (yX8_clearRegisters, cX8_clearRegisters, 1, none, [], "")
abbrev q_m113 : q_M := (yX8_scrollLeft, cX8_scrollLeft, 1, (some .int), [], "")
abbrev q_m114 : q_M := (yX8_scrollUp, cX8_scrollUp, 1, (some .int), [], "")
abbrev q_m115 : q_M := (yX8_takesCycle, cX8_takesCycle, 3, (some .boolean), [], "")
abbrev q_m116 : q_M := (yX8_isAmongRows, cX8_isAmongRows, 6, (some .boolean), [], "")
abbrev q_m117 : q_M := (yX8_bitOf, cX8_bitOf, 3, (some .int), [], "")
abbrev q_m118 : q_M := (yX8_valueAt, cX8_valueAt, 8, (some .int), [], "")
abbrev q_m119 : q_M := (yX8_byteAt, cX8_byteAt, 2, (some .int), [], "")
abbrev q_m120 : q_M := (yX8_isSolid, cX8_isSolid, 2, (some .boolean), [], "")
abbrev q_m121 : q_M := (yX8_spritesAt, cX8_spritesAt, 9, (some .int), [], "")
abbrev q_m122 : q_M := (yX8_colourOf, cX8_colourOf, 5, (some .int), [], "")
abbrev q_m123 : q_M := (yX8_noteHits, cX8_noteHits, 3, none, [], "")
abbrev q_m124 : q_M := (yX2_init, cX2_init, 1, none, [], "")
abbrev q_m125 : q_M := (yX2_become, cX2_become, 2, none, [], "")
abbrev q_m126 : q_M := (yX2_begin, cX2_begin, 2, none, [], "")
abbrev q_m127 : q_M := (yX2_keep, cX2_keep, 3, none, [], "")
abbrev q_m128 : q_M := (yX2_replay, cX2_replay, 5, none, [], "")
abbrev q_m129 : q_M := (yX6_init, cX6_init, 1, none, [], "")
abbrev q_m130 : q_M := (yX6_become, cX6_become, 2, none, [], "")
abbrev q_m131 : q_M := (yX6_isLike, cX6_isLike, 2, (some .boolean), [], "")
abbrev q_m132 : q_M := (yX6_registerOf, cX6_registerOf, 2, (some .int), [], "")
abbrev q_m133 : q_M := (yX6_exchange, cX6_exchange, 4, (some .int), [], "")
abbrev q_m134 : q_M := (yX6_startAnew, cX6_startAnew, 2, none, [], "")
abbrev q_m135 : q_M := (yX6_begin, cX6_begin, 3, none, [], "")
abbrev q_m136 : q_M := (yX6_cyclesAt, cX6_cyclesAt, 8, (some .int), [], "")
abbrev q_m137 : q_M := (yX6_cyclesOfBranch, cX6_cyclesOfBranch, 3, (some .int), [], "")
abbrev q_m138 : q_M := (yX6_targetOf, cX6_targetOf, 2, (some .int), [], "")
abbrev q_m139 : q_M := (yX6_behind, cX6_behind, 2, (some .int), [], "")
abbrev q_m140 : q_M := (yX6_isLastCycle, cX6_isLastCycle, 1, (some .boolean), [], "")
abbrev q_m141 : q_M := (yX6_finish, cX6_finish, 6, none, [], "")
abbrev q_m142 : q_M := (yX6_indexOf, cX6_indexOf, 2, (some .int), [], "")
abbrev q_m143 : q_M := (yX6_addressOf, cX6_addressOf, 3, (some .int), [], "")
abbrev q_m144 : q_M := (yX6_baseOf, cX6_baseOf, 5, (some .int), [], "")
abbrev q_m145 : q_M := (yX6_push, cX6_push, 3, none, [], "")
abbrev q_m146 : q_M := (yX6_pull, cX6_pull, 2, (some .int), [], "")
abbrev q_m147 : q_M := (yX6_interrupt, cX6_interrupt, 5, none, [], "")
abbrev q_m148 : q_M := (yX6_setFlag, cX6_setFlag, 3, none, [], "")
abbrev q_m149 : q_M := (yX6_judge, cX6_judge, 2, (some .int), [], "")
abbrev q_m150 : q_M := (yX6_match, cX6_match, 3, none, [], "")
abbrev q_m151 : q_M := (yX6_calculate, cX6_calculate, 3, none, [], "")
abbrev q_m152 : q_M := (yX6_store, cX6_store, 6, none, [], "")
abbrev q_m153 : q_M := (yX6_add, cX6_add, 5, none, [], "")
abbrev q_m154 : q_M := (yX6_subtract, cX6_subtract, 5, none, [], "")
abbrev q_m155 : q_M := (yX6_addBinary, cX6_addBinary, 3, none, [], "")
abbrev q_m156 : q_M := (yX6_doPlain, cX6_doPlain, 3, none, [], "")
abbrev q_m157 : q_M := (yX6_jump, cX6_jump, 5, (some .int), [], "")
abbrev q_m158 : q_M := (yX6_wordInPage, cX6_wordInPage, 4, (some .int), [], "")
abbrev q_m159 : q_M := (yX6_pullWord, cX6_pullWord, 3, (some .int), [], "")
abbrev q_m160 : q_M := (yX6_isTaken, cX6_isTaken, 2, (some .boolean), [], "")
abbrev q_m161 : q_M := (yX6_move, cX6_move, 2, none, [], "")
abbrev q_m162 : q_M := (yX6_changeFlag, cX6_changeFlag, 2, none, [], "")
abbrev q_m163 : q_M := (yX6_shift, cX6_shift, 3, none, [], "")
abbrev q_m164 : q_M := (yX10_init, cX10_init, 1, none, [], "")
abbrev q_m165 : q_M := (yX10_become, cX10_become, 2, none, [], "")
abbrev q_m166 : q_M := (yX10_isLike, cX10_isLike, 3, (some .boolean), [], "")
abbrev q_m167 : q_M := (yX10_sound, cX10_sound, 5, none, [], "")
abbrev q_m168 : q_M := (yX10_turn, cX10_turn, 6, none, [], "")
abbrev q_m169 : q_M := (yX10_swell, cX10_swell, 4, none, [], "")
abbrev q_m170 : q_M := (yX10_outputOf, cX10_outputOf, 6, (some .int), [], "")
abbrev q_m171 : q_M := (yX10_waveOf, cX10_waveOf, 3, (some .int), [], "")
abbrev q_m172 : q_M := (yX9_init, cX9_init, 1, none, [], "")
abbrev q_m173 : q_M := (yX9_become, cX9_become, 2, none, [], "")
abbrev q_m174 : q_M := (yX9_add, cX9_add, 2, (some .int), [], "")
abbrev q_m175 : q_M := (yX9_windBack, cX9_windBack, 2, (some .int), [], "")
abbrev q_m176 : q_M := (yX9_isPulseOver, cX9_isPulseOver, 1, (some .boolean), [], "")
abbrev q_m177 : q_M := (yX3_init, cX3_init, 1, none, [], "")
abbrev q_m178 : q_M := (yX3_become, cX3_become, 2, none, [], "")
abbrev q_m179 : q_M := (yX3_exchangeJoystick, cX3_exchangeJoystick, 3, (some .int), [], "")
abbrev q_m180 : q_M := (yX3_press, cX3_press, 7, (some .int), [], "")
abbrev q_m181 : q_M := (yX3_columnsSeen, cX3_columnsSeen, 6, (some .int), [], "")
abbrev q_m182 : q_M := (yX7_init, cX7_init, 1, none, [], "")
abbrev q_m183 : q_M := (yX7_begin, cX7_begin, 2, none, [], "")
abbrev q_m184 : q_M := (yX7_keep, cX7_keep, 5, none, [], "")
abbrev q_m185 : q_M := (yX1_operationOf, cX1_operationOf, 1, (some .int), [], "")
abbrev q_m186 : q_M := (yX1_isBranch, cX1_isBranch, 1, (some .boolean), [], "")
abbrev q_m187 : q_M := (yX1_isWriting, cX1_isWriting, 1, (some .boolean), [], "")
abbrev q_m188 : q_M := (yX1_isChanging, cX1_isChanging, 1, (some .boolean), [], "")
abbrev q_m189 : q_M := (yX1_lengthOf, cX1_lengthOf, 2, (some .int), [], "")
abbrev q_m190 : q_M := (yX1_cyclesOfMode, cX1_cyclesOfMode, 1, (some .int), [], "")
abbrev q_m191 : q_M := (yX1_cyclesOf, cX1_cyclesOf, 2, (some .int), [], "")
abbrev q_m192 : q_M := (yX1_targetOf, cX1_targetOf, 2, (some .int), [], "")
abbrev q_m193 : q_M := (yX1_appendName, cX1_appendName, 6, none, [], "")
abbrev q_m194 : q_M := (yX5_describe, cX5_describe, 7, none, [], "")
abbrev q_m195 : q_M := (yX5_layoutOf, cX5_layoutOf, 1, (some .int), [], "")
abbrev q_m196 : q_M := (yX5_appendOperand, cX5_appendOperand, 3, none, [], "")
abbrev q_m197 : q_M := (yX12_init, cX12_init, 1, none, [], "")
abbrev q_m198 : q_M := (yX12_thrown, cX12_thrown, 1, (some .int), [], "")
abbrev q_m199 : q_M := (yX12_fails, cX12_fails, 2, (some .boolean), [], "")
abbrev q_m200 : q_M := (yX12_tells, cX12_tells, 2, (some .int), [], "")
abbrev q_m201 : q_M := (yX12_in, cX12_in, 3, (some .boolean), [], "")
abbrev q_m202 : q_M := (yX12_isNoByte, cX12_isNoByte, 1, (some .boolean), [], "")
abbrev q_m203 : q_M := (yX12_isNoAddress, cX12_isNoAddress, 1, (some .boolean), [], "")
abbrev q_m204 : q_M := (yX12_keeps, cX12_keeps, 1, none, [], "")
abbrev q_m205 : q_M := (yX12_has, cX12_has, 2, (some .boolean), [], "")
abbrev q_m206 : q_M := (yX12_lineNow, cX12_lineNow, 1, (some .int), [], "")
abbrev q_m207 : q_M := (yX12_seenColumns, cX12_seenColumns, 5, (some .int), [], "")
abbrev q_m208 : q_M := (yX12_hasPulse, cX12_hasPulse, 1, (some .boolean), [], "")
abbrev q_m209 : q_M := (yX12_readRegister, cX12_readRegister, 2, (some .int), [], "")
abbrev q_m210 : q_M := (yX12_bitsOf, cX12_bitsOf, 1, (some .int), [], "")
abbrev q_m211 : q_M := (yX12_writeRegister, cX12_writeRegister, 5, none, [], "")
abbrev q_m212 : q_M := (yX12_wrap, cX12_wrap, 1, (some .int), [], "")
abbrev q_m213 : q_M := (yX12_reads, cX12_reads, 2, (some .int), [], "")
abbrev q_m214 : q_M := (yX12_writes, cX12_writes, 3, none, [], "")
abbrev q_m215 : q_M := (yX12_poke, cX12_poke, 4, (some .int), [], "")
abbrev q_m216 : q_M := (yX12_pokeRom, cX12_pokeRom, 4, (some .int), [], "")
abbrev q_m217 : q_M := (yX12_pokeCartridge, cX12_pokeCartridge, 5, (some .int), [], "")
abbrev q_m218 : q_M := (yX12_peek, cX12_peek, 2, (some .int), [], "")
abbrev q_m219 : q_M := (yX12_ram, cX12_ram, 2, (some .int), [], "")
abbrev q_m220 : q_M := (yX12_compare, cX12_compare, 6, (some .int), [], "")
abbrev q_m221 : q_M := (yX12_rowNow, cX12_rowNow, 1, (some .int), [], "")
abbrev q_m222 : q_M := (yX12_isOn, cX12_isOn, 2, (some .boolean), [], "")
abbrev q_m223 : q_M := (yX12_isAmong, cX12_isAmong, 4, (some .boolean), [], "")
abbrev q_m224 : q_M := (yX12_isOfPicture, cX12_isOfPicture, 3, (some .boolean), [], "")
abbrev q_m225 : q_M := (yX12_pictureAt, cX12_pictureAt, 7, (some .int), [], "")
abbrev q_m226 : q_M := (yX12_covers, cX12_covers, 6, (some .boolean), [], "")
abbrev q_m227 : q_M := (yX12_draws, cX12_draws, 8, none, [], "")
abbrev q_m228 : q_M := (yX12_counts, cX12_counts, 2, (some .boolean), [], "")
abbrev q_m229 : q_M := (yX12_times, cX12_times, 1, none, [], "")
abbrev q_m230 : q_M := (yX12_winds, cX12_winds, 1, none, [], "")
abbrev q_m231 : q_M := (yX12_sounds, cX12_sounds, 5, none, [], "")
abbrev q_m232 : q_M := (yX12_gives, cX12_gives, 4, (some .int), [], "")
abbrev q_m233 : q_M := (yX12_makesSample, cX12_makesSample, 3, none, [], "")
abbrev q_m234 : q_M := (yX12_passes, cX12_passes, 4, (some .boolean), [], "")
abbrev q_m235 : q_M := (yX12_run, cX12_run, 4, (some .int), [], "")
abbrev q_m236 : q_M := (yX12_step, cX12_step, 3, (some .int), [], "")
abbrev q_m237 : q_M := (yX12_cycle, cX12_cycle, 1, (some .long), [], "")
abbrev q_m238 : q_M := (yX12_isPictures, cX12_isPictures, 1, (some .boolean), [], "")
abbrev q_m239 : q_M := (yX12_underWay, cX12_underWay, 1, (some .int), [], "")
abbrev q_m240 : q_M := (yX12_done, cX12_done, 1, (some .int), [], "")
abbrev q_m241 : q_M := (yX12_isJammed, cX12_isJammed, 1, (some .boolean), [], "")
abbrev q_m242 : q_M := (yX12_traceAt, cX12_traceAt, 2, (some .int), [], "")
abbrev q_m243 : q_M := (yX12_operationOf, cX12_operationOf, 1, (some .int), [], "")
abbrev q_m244 : q_M := (yX12_isWriting, cX12_isWriting, 1, (some .boolean), [], "")
abbrev q_m245 : q_M := (yX12_lengthOf, cX12_lengthOf, 2, (some .int), [], "")
abbrev q_m246 : q_M := (yX12_byteAt, cX12_byteAt, 2, (some .int), [], "")
abbrev q_m247 : q_M := (yX12_wordAt, cX12_wordAt, 2, (some .int), [], "")
abbrev q_m248 : q_M := (yX12_baseOf, cX12_baseOf, 4, (some .int), [], "")
abbrev q_m249 : q_M := (yX12_addressOf, cX12_addressOf, 4, (some .int), [], "")
abbrev q_m250 : q_M := (yX12_modeCycles, cX12_modeCycles, 7, (some .int), [], "")
abbrev q_m251 : q_M := (yX12_isTaken, cX12_isTaken, 3, (some .boolean), [], "")
abbrev q_m252 : q_M := (yX12_targetOf, cX12_targetOf, 3, (some .int), [], "")
abbrev q_m253 : q_M := (yX12_cyclesOf, cX12_cyclesOf, 4, (some .int), [], "")
abbrev q_m254 : q_M := (yX12_pushes, cX12_pushes, 2, none, [], "")
abbrev q_m255 : q_M := (yX12_pulls, cX12_pulls, 1, (some .int), [], "")
abbrev q_m256 : q_M := (yX12_bit, cX12_bit, 3, (some .int), [], "")
abbrev q_m257 : q_M := (yX12_statusWith, cX12_statusWith, 2, (some .int), [], "")
abbrev q_m258 : q_M := (yX12_becomesStatus, cX12_becomesStatus, 2, none, [], "")
abbrev q_m259 : q_M := (yX12_interrupts, cX12_interrupts, 4, none, [], "")
abbrev q_m260 : q_M := (yX12_sets, cX12_sets, 2, (some .int), [], "")
abbrev q_m261 : q_M := (yX12_becomes, cX12_becomes, 3, none, [], "")
abbrev q_m262 : q_M := (yX12_compares, cX12_compares, 3, none, [], "")
abbrev q_m263 : q_M := (yX12_adds, cX12_adds, 3, none, [], "")
abbrev q_m264 : q_M := (yX12_addsDecimal, cX12_addsDecimal, 6, none, [], "")
abbrev q_m265 : q_M := (yX12_takesDecimal, cX12_takesDecimal, 6, none, [], "")
abbrev q_m266 : q_M := (yX12_calculates, cX12_calculates, 5, none, [], "")
abbrev q_m267 : q_M := (yX12_takes, cX12_takes, 3, (some .int), [], "")
abbrev q_m268 : q_M := (yX12_operates, cX12_operates, 3, none, [], "")
abbrev q_m269 : q_M := (yX12_changes, cX12_changes, 5, none, [], "")
abbrev q_m270 : q_M := (yX12_doesMode, cX12_doesMode, 4, none, [], "")
abbrev q_m271 : q_M := (yX12_shifts, cX12_shifts, 4, none, [], "")
abbrev q_m272 : q_M := (yX12_doesOther, cX12_doesOther, 3, none, [], "")
abbrev q_m273 : q_M := (yX12_pulledAddress, cX12_pulledAddress, 3, (some .int), [], "")
abbrev q_m274 : q_M := (yX12_jumps, cX12_jumps, 5, none, [], "")
abbrev q_m275 : q_M := (yX12_does, cX12_does, 5, none, [], "")
abbrev q_m276 : q_M := (yX12_begins, cX12_begins, 1, none, [], "")
abbrev q_m277 : q_M := (yX12_goesOn, cX12_goesOn, 1, none, [], "")
abbrev q_m278 : q_M := (yX12_assemble, cX12_assemble, 4, (some .int), [], "")
abbrev q_m279 : q_M := (yX12_puts, cX12_puts, 2, none, [], "")
abbrev q_m280 : q_M := (yX12_putsNumber, cX12_putsNumber, 2, none, [], "")
abbrev q_m281 : q_M := (yX12_putsName, cX12_putsName, 4, none, [], "")
abbrev q_m282 : q_M := (yX12_putsMode, cX12_putsMode, 3, none, [], "")
abbrev q_m283 : q_M := (yX12_putsOther, cX12_putsOther, 3, none, [], "")
abbrev q_m284 : q_M := (yX12_isJam, cX12_isJam, 1, (some .boolean), [], "")
abbrev q_m285 : q_M := (yX12_writeLine, cX12_writeLine, 3, (some .int), [], "")
abbrev q_m286 : q_M := (yX12_lineAt, cX12_lineAt, 2, (some .char), [], "")
abbrev q_m287 : q_M := (yX12_register, cX12_register, 2, (some .int), [], "")
abbrev q_m288 : q_M := (yX12_setRegister, cX12_setRegister, 4, (some .int), [], "")
abbrev q_m289 : q_M := (yX12_status, cX12_status, 1, (some .int), [], "")
abbrev q_m290 : q_M := (yX12_reset, cX12_reset, 2, (some .int), [], "")
abbrev q_m291 : q_M := (yX12_freeze, cX12_freeze, 2, (some .int), [], "")
abbrev q_m292 : q_M := (yX12_pixelAt, cX12_pixelAt, 3, (some .int), [], "")
abbrev q_m293 : q_M := (yX12_pixel, cX12_pixel, 3, (some .int), [], "")
abbrev q_m294 : q_M := (yX12_pixelAgain, cX12_pixelAgain, 3, (some .int), [], "")
abbrev q_m295 : q_M := (yX12_sample, cX12_sample, 2, (some .int), [], "")
abbrev q_m296 : q_M := (yX12_level, cX12_level, 2, (some .int), [], "")
abbrev q_m297 : q_M := (yX12_key, cX12_key, 5, (some .boolean), [], "")
abbrev q_m298 : q_M := (yX12_columns, cX12_columns, 2, (some .int), [], "")
abbrev q_m299 : q_M := (yX12_joystick, cX12_joystick, 3, (some .int), [], "")
abbrev q_m300 : q_M := (yX12_addPulse, cX12_addPulse, 2, (some .int), [], "")
abbrev q_m301 : q_M := (yX12_rewind, cX12_rewind, 2, (some .int), [], "")
abbrev q_m302 : q_M := (yX12_pulsesLeft, cX12_pulsesLeft, 1, (some .int), [], "")
abbrev q_m303 : q_M := (yX12_lays, cX12_lays, 6, none, [], "")
abbrev q_m304 : q_M := (yX12_laysFlags, cX12_laysFlags, 6, none, [], "")
abbrev q_m305 : q_M := (yX12_save, cX12_save, 2, (some .int), [], "")
abbrev q_m306 : q_M := (yX12_unlike, cX12_unlike, 4, (some .int), [], "")
abbrev q_m307 : q_M := (yX12_restore, cX12_restore, 4, (some .int), [], "")
abbrev q_m308 : q_M := (yX12_differences, cX12_differences, 2, (some .int), [], "")
abbrev q_m309 : q_M := (yX12_startRecord, cX12_startRecord, 2, (some .int), [], "")
abbrev q_m310 : q_M := (yX12_recorded, cX12_recorded, 1, (some .int), [], "")
abbrev q_m311 : q_M := (yX12_isSame, cX12_isSame, 1, (some .boolean), [], "")
abbrev q_m312 : q_M := (yX12_sumOfPicture, cX12_sumOfPicture, 3, (some .int), [], "")
abbrev q_m313 : q_M := (yX12_pictures, cX12_pictures, 1, (some .long), [], "")
abbrev q_m314 : q_M := (yX12_solidShare, cX12_solidShare, 3, (some .float), [], "")
abbrev q_m315 : q_M := (yX12_meanSample, cX12_meanSample, 3, (some .double), [], "")
abbrev q_m316 : q_M := (yJ7_rangeCheck_23922, cJ7_rangeCheck_23922, 3, none, [], "")
abbrev q_m317 : q_M := (yJ7_fill_53178, cJ7_fill_53178, 4, none, [], "")
abbrev q_m318 : q_M := (yJ7_fill_eb02e, cJ7_fill_eb02e, 5, none, [], "")
abbrev q_m319 : q_M := (yJ7_copyOf_9075b, cJ7_copyOf_9075b, 3, (some (.array .byte)), [], "")
abbrev q_m320 : q_M := (yJ6_getChars_ba4f3, cJ6_getChars_ba4f3, 7, (some .int), [], "")
abbrev q_m321 : q_M := (yJ6_stringSize_0f7a4, cJ6_stringSize_0f7a4, 4, (some .int), [], "")
abbrev q_m322 : q_M := (yJ6_bitCount_0f7a4, cJ6_bitCount_0f7a4, 1, (some .int), [], "")
abbrev q_m323 : q_M := (yJ4_init_da8c8, cJ4_init_da8c8, 1, none, [], "")
abbrev q_m324 : q_M := (yJ4_append_15ec4, cJ4_append_15ec4, 2, (some (.object "java/lang/StringBuilder")), [], "")
abbrev q_m325 : q_M := (yJ4_append_cf468, cJ4_append_cf468, 2, (some (.object "java/lang/StringBuilder")), [], "")
abbrev q_m326 : q_M := (yJ4_append_bf812, cJ4_append_bf812, 2, (some (.object "java/lang/StringBuilder")), [], "")
abbrev q_m327 : q_M := (yJ4_charAt_5068e, cJ4_charAt_5068e, 2, (some .char), [], "")
abbrev q_m328 : q_M := (yJ4_setLength_d00df, cJ4_setLength_d00df, 2, none, [], "")
abbrev q_m329 : q_M := (yJ4_length_8abf5, cJ4_length_8abf5, 1, (some .int), [], "")
abbrev q_m330 : q_M := (yJ5_init_d00df, cJ5_init_d00df, 2, none, [], "")
abbrev q_m331 : q_M := (yJ5_length_8abf5, cJ5_length_8abf5, 1, (some .int), [], "")
abbrev q_m332 : q_M := (yJ5_ensureCapacityInternal_d00df, cJ5_ensureCapacityInternal_d00df, 3, none, [], "")
abbrev q_m333 : q_M := (yJ5_newCapacity_0f7a4, cJ5_newCapacity_0f7a4, 6, (some .int), [], "")
abbrev q_m334 : q_M := (yJ5_inflate_da8c8, cJ5_inflate_da8c8, 2, none, [], "")
abbrev q_m335 : q_M := (yJ5_setLength_d00df, cJ5_setLength_d00df, 2, none, [], "")
abbrev q_m336 : q_M := (yJ5_charAt_5068e, cJ5_charAt_5068e, 5, (some .char), [], "")
abbrev q_m337 : q_M := (yJ5_append_cf1ce, cJ5_append_cf1ce, 3, (some (.object "java/lang/AbstractStringBuilder")), [], "")
abbrev q_m338 : q_M := (yJ5_appendNull_278bc, cJ5_appendNull_278bc, 3, (some (.object "java/lang/AbstractStringBuilder")), [], "")
abbrev q_m339 : q_M := (yJ5_append_3fe6f, cJ5_append_3fe6f, 2, (some (.object "java/lang/AbstractStringBuilder")), [], "")
abbrev q_m340 : q_M := (yJ5_append_c97b9, cJ5_append_c97b9, 4, (some (.object "java/lang/AbstractStringBuilder")), [], "")
abbrev q_m341 : q_M := (yJ5_isLatin1_aae02, cJ5_isLatin1_aae02, 1, (some .boolean), [], "")
abbrev q_m342 : q_M := (yJ5_inflateIfNeededFor_a7421, cJ5_inflateIfNeededFor_a7421, 2, none, [], "")
abbrev q_m343 : q_M := (yJ5_putStringAt_47b60, cJ5_putStringAt_47b60, 3, none, [], "")
abbrev q_m344 : q_M := (yJ0_length_8abf5, cJ0_length_8abf5, 1, (some .int), [], "")
abbrev q_m345 : q_M := (yJ0_charAt_5068e, cJ0_charAt_5068e, 2, (some .char), [], "")
abbrev q_m346 : q_M := (yJ0_getBytes_840e7, cJ0_getBytes_840e7, 4, none, [], "")
abbrev q_m347 : q_M := (yJ0_coder_7d493, cJ0_coder_7d493, 1, (some .byte), [], "")
abbrev q_m348 : q_M := (yJ0_isLatin1_aae02, cJ0_isLatin1_aae02, 1, (some .boolean), [], "")
abbrev q_m349 : q_M := (yJ0_checkIndex_df160, cJ0_checkIndex_df160, 2, none, [], "")
abbrev q_m350 : q_M := (yJ0_checkBoundsOffCount_cabcc, cJ0_checkBoundsOffCount_cabcc, 3, (some .int), [], "")
abbrev q_m351 : q_M := (yJ0_checkBoundsBeginEnd_23922, cJ0_checkBoundsBeginEnd_23922, 3, none, [], "")
abbrev q_m352 : q_M := (yJ1_charAt_3b067, cJ1_charAt_3b067, 2, (some .char), [], "")
abbrev q_m353 : q_M := (yJ1_canEncode_fc78d, cJ1_canEncode_fc78d, 1, (some .boolean), [], "")
abbrev q_m354 : q_M := (yJ1_fillNull_b72d1, cJ1_fillNull_b72d1, 3, none, [], "")
abbrev q_m355 : q_M := (yJ1_inflate_0e8fd, cJ1_inflate_0e8fd, 5, none, [], "")
abbrev q_m356 : q_M := (yJ2_newBytesFor_77867, cJ2_newBytesFor_77867, 1, (some (.array .byte)), [], "")
abbrev q_m357 : q_M := (yJ2_newBytesLength_0f7a4, cJ2_newBytesLength_0f7a4, 1, (some .int), [], "")
abbrev q_m358 : q_M := (yJ2_putChar_b72d1, cJ2_putChar_b72d1, 3, none, [], "")
abbrev q_m359 : q_M := (yJ2_getChar_3b067, cJ2_getChar_3b067, 2, (some .char), [], "")
abbrev q_m360 : q_M := (yJ2_length_9d52b, cJ2_length_9d52b, 1, (some .int), [], "")
abbrev q_m361 : q_M := (yJ2_fillNull_b72d1, cJ2_fillNull_b72d1, 3, none, [], "")
abbrev q_m362 : q_M := (yJ2_putCharSB_b72d1, cJ2_putCharSB_b72d1, 3, none, [], "")
abbrev q_m363 : q_M := (yJ2_getChars_46870, cJ2_getChars_46870, 5, (some .int), [], "")
abbrev q_m364 : q_M := (yJ2_putCharsAt_cd4e5, cJ2_putCharsAt_cd4e5, 7, (some .int), [], "")
abbrev q_m365 : q_M := (yJ2_charAt_3b067, cJ2_charAt_3b067, 2, (some .char), [], "")
abbrev q_m366 : q_M := (yJ2_inflate_0e8fd, cJ2_inflate_0e8fd, 6, none, [], "")
abbrev q_m367 : q_M := (yJ2_getChars_ba4f3, cJ2_getChars_ba4f3, 7, (some .int), [], "")
abbrev q_m368 : q_M := (yJ2_checkIndex_2214a, cJ2_checkIndex_2214a, 2, none, [], "")
abbrev q_m369 : q_M := (yJ2_checkBoundsBeginEnd_d044e, cJ2_checkBoundsBeginEnd_d044e, 3, none, [], "")
abbrev q_m370 : q_M := (yJ2_checkBoundsOffCount_d044e, cJ2_checkBoundsOffCount_d044e, 3, none, [], "")
abbrev q_m371 : q_M := (yJ3_checkIndex_8e157, cJ3_checkIndex_8e157, 3, (some .int), [], "")
abbrev q_m372 : q_M := (yJ3_checkFromToIndex_8c36e, cJ3_checkFromToIndex_8c36e, 4, (some .int), [], "")
abbrev q_m373 : q_M := (yJ3_checkFromIndexSize_8c36e, cJ3_checkFromIndexSize_8c36e, 4, (some .int), [], "")
abbrev q_m374 : q_M := (yJ8_newLength_cabcc, cJ8_newLength_cabcc, 4, (some .int), [], "")
abbrev q_m375 : q_M := (yJ8_hugeLength_7cf53, cJ8_hugeLength_7cf53, 3, (some .int), [], "")
abbrev q_m376 : q_M := (⟨RL, "law", "([I)Z"⟩, cL_law, 9, some .boolean, [], "")
def q_mt : Nat → q_M := q_mn 187 (q_mn 93 (q_mn 46 (q_mn 22 (q_mn 10 (q_mn 4 (q_mn 1 (q_mn 0 (fun _ => q_m0) (fun _ => q_m1)) (q_mn 2 (fun _ => q_m2) (q_mn 3 (fun _ => q_m3) (fun _ => q_m4)))) (q_mn 7 (q_mn 5 (fun _ => q_m5) (q_mn 6 (fun _ => q_m6) (fun _ => q_m7))) (q_mn 8 (fun _ => q_m8) (q_mn 9 (fun _ => q_m9) (fun _ => q_m10))))) (q_mn 16 (q_mn 13 (q_mn 11 (fun _ => q_m11) (q_mn 12 (fun _ => q_m12) (fun _ => q_m13))) (q_mn 14 (fun _ => q_m14) (q_mn 15 (fun _ => q_m15) (fun _ => q_m16)))) (q_mn 19 (q_mn 17 (fun _ => q_m17) (q_mn 18 (fun _ => q_m18) (fun _ => q_m19))) (q_mn 20 (fun _ => q_m20) (q_mn 21 (fun _ => q_m21) (fun _ => q_m22)))))) (q_mn 34 (q_mn 28 (q_mn 25 (q_mn 23 (fun _ => q_m23) (q_mn 24 (fun _ => q_m24) (fun _ => q_m25))) (q_mn 26 (fun _ => q_m26) (q_mn 27 (fun _ => q_m27) (fun _ => q_m28)))) (q_mn 31 (q_mn 29 (fun _ => q_m29) (q_mn 30 (fun _ => q_m30) (fun _ => q_m31))) (q_mn 32 (fun _ => q_m32) (q_mn 33 (fun _ => q_m33) (fun _ => q_m34))))) (q_mn 40 (q_mn 37 (q_mn 35 (fun _ => q_m35) (q_mn 36 (fun _ => q_m36) (fun _ => q_m37))) (q_mn 38 (fun _ => q_m38) (q_mn 39 (fun _ => q_m39) (fun _ => q_m40)))) (q_mn 43 (q_mn 41 (fun _ => q_m41) (q_mn 42 (fun _ => q_m42) (fun _ => q_m43))) (q_mn 44 (fun _ => q_m44) (q_mn 45 (fun _ => q_m45) (fun _ => q_m46))))))) (q_mn 69 (q_mn 57 (q_mn 51 (q_mn 48 (q_mn 47 (fun _ => q_m47) (fun _ => q_m48)) (q_mn 49 (fun _ => q_m49) (q_mn 50 (fun _ => q_m50) (fun _ => q_m51)))) (q_mn 54 (q_mn 52 (fun _ => q_m52) (q_mn 53 (fun _ => q_m53) (fun _ => q_m54))) (q_mn 55 (fun _ => q_m55) (q_mn 56 (fun _ => q_m56) (fun _ => q_m57))))) (q_mn 63 (q_mn 60 (q_mn 58 (fun _ => q_m58) (q_mn 59 (fun _ => q_m59) (fun _ => q_m60))) (q_mn 61 (fun _ => q_m61) (q_mn 62 (fun _ => q_m62) (fun _ => q_m63)))) (q_mn 66 (q_mn 64 (fun _ => q_m64) (q_mn 65 (fun _ => q_m65) (fun _ => q_m66))) (q_mn 67 (fun _ => q_m67) (q_mn 68 (fun _ => q_m68) (fun _ => q_m69)))))) (q_mn 81 (q_mn 75 (q_mn 72 (q_mn 70 (fun _ => q_m70) (q_mn 71 (fun _ => q_m71) (fun _ => q_m72))) (q_mn 73 (fun _ => q_m73) (q_mn 74 (fun _ => q_m74) (fun _ => q_m75)))) (q_mn 78 (q_mn 76 (fun _ => q_m76) (q_mn 77 (fun _ => q_m77) (fun _ => q_m78))) (q_mn 79 (fun _ => q_m79) (q_mn 80 (fun _ => q_m80) (fun _ => q_m81))))) (q_mn 87 (q_mn 84 (q_mn 82 (fun _ => q_m82) (q_mn 83 (fun _ => q_m83) (fun _ => q_m84))) (q_mn 85 (fun _ => q_m85) (q_mn 86 (fun _ => q_m86) (fun _ => q_m87)))) (q_mn 90 (q_mn 88 (fun _ => q_m88) (q_mn 89 (fun _ => q_m89) (fun _ => q_m90))) (q_mn 91 (fun _ => q_m91) (q_mn 92 (fun _ => q_m92) (fun _ => q_m93)))))))) (q_mn 140 (q_mn 116 (q_mn 104 (q_mn 98 (q_mn 95 (q_mn 94 (fun _ => q_m94) (fun _ => q_m95)) (q_mn 96 (fun _ => q_m96) (q_mn 97 (fun _ => q_m97) (fun _ => q_m98)))) (q_mn 101 (q_mn 99 (fun _ => q_m99) (q_mn 100 (fun _ => q_m100) (fun _ => q_m101))) (q_mn 102 (fun _ => q_m102) (q_mn 103 (fun _ => q_m103) (fun _ => q_m104))))) (q_mn 110 (q_mn 107 (q_mn 105 (fun _ => q_m105) (q_mn 106 (fun _ => q_m106) (fun _ => q_m107))) (q_mn 108 (fun _ => q_m108) (q_mn 109 (fun _ => q_m109) (fun _ => q_m110)))) (q_mn 113 (q_mn 111 (fun _ => q_m111) (q_mn 112 (fun _ => q_m112) (fun _ => q_m113))) (q_mn 114 (fun _ => q_m114) (q_mn 115 (fun _ => q_m115) (fun _ => q_m116)))))) (q_mn 128 (q_mn 122 (q_mn 119 (q_mn 117 (fun _ => q_m117) (q_mn 118 (fun _ => q_m118) (fun _ => q_m119))) (q_mn 120 (fun _ => q_m120) (q_mn 121 (fun _ => q_m121) (fun _ => q_m122)))) (q_mn 125 (q_mn 123 (fun _ => q_m123) (q_mn 124 (fun _ => q_m124) (fun _ => q_m125))) (q_mn 126 (fun _ => q_m126) (q_mn 127 (fun _ => q_m127) (fun _ => q_m128))))) (q_mn 134 (q_mn 131 (q_mn 129 (fun _ => q_m129) (q_mn 130 (fun _ => q_m130) (fun _ => q_m131))) (q_mn 132 (fun _ => q_m132) (q_mn 133 (fun _ => q_m133) (fun _ => q_m134)))) (q_mn 137 (q_mn 135 (fun _ => q_m135) (q_mn 136 (fun _ => q_m136) (fun _ => q_m137))) (q_mn 138 (fun _ => q_m138) (q_mn 139 (fun _ => q_m139) (fun _ => q_m140))))))) (q_mn 163 (q_mn 151 (q_mn 145 (q_mn 142 (q_mn 141 (fun _ => q_m141) (fun _ => q_m142)) (q_mn 143 (fun _ => q_m143) (q_mn 144 (fun _ => q_m144) (fun _ => q_m145)))) (q_mn 148 (q_mn 146 (fun _ => q_m146) (q_mn 147 (fun _ => q_m147) (fun _ => q_m148))) (q_mn 149 (fun _ => q_m149) (q_mn 150 (fun _ => q_m150) (fun _ => q_m151))))) (q_mn 157 (q_mn 154 (q_mn 152 (fun _ => q_m152) (q_mn 153 (fun _ => q_m153) (fun _ => q_m154))) (q_mn 155 (fun _ => q_m155) (q_mn 156 (fun _ => q_m156) (fun _ => q_m157)))) (q_mn 160 (q_mn 158 (fun _ => q_m158) (q_mn 159 (fun _ => q_m159) (fun _ => q_m160))) (q_mn 161 (fun _ => q_m161) (q_mn 162 (fun _ => q_m162) (fun _ => q_m163)))))) (q_mn 175 (q_mn 169 (q_mn 166 (q_mn 164 (fun _ => q_m164) (q_mn 165 (fun _ => q_m165) (fun _ => q_m166))) (q_mn 167 (fun _ => q_m167) (q_mn 168 (fun _ => q_m168) (fun _ => q_m169)))) (q_mn 172 (q_mn 170 (fun _ => q_m170) (q_mn 171 (fun _ => q_m171) (fun _ => q_m172))) (q_mn 173 (fun _ => q_m173) (q_mn 174 (fun _ => q_m174) (fun _ => q_m175))))) (q_mn 181 (q_mn 178 (q_mn 176 (fun _ => q_m176) (q_mn 177 (fun _ => q_m177) (fun _ => q_m178))) (q_mn 179 (fun _ => q_m179) (q_mn 180 (fun _ => q_m180) (fun _ => q_m181)))) (q_mn 184 (q_mn 182 (fun _ => q_m182) (q_mn 183 (fun _ => q_m183) (fun _ => q_m184))) (q_mn 185 (fun _ => q_m185) (q_mn 186 (fun _ => q_m186) (fun _ => q_m187))))))))) (q_mn 281 (q_mn 234 (q_mn 210 (q_mn 198 (q_mn 192 (q_mn 189 (q_mn 188 (fun _ => q_m188) (fun _ => q_m189)) (q_mn 190 (fun _ => q_m190) (q_mn 191 (fun _ => q_m191) (fun _ => q_m192)))) (q_mn 195 (q_mn 193 (fun _ => q_m193) (q_mn 194 (fun _ => q_m194) (fun _ => q_m195))) (q_mn 196 (fun _ => q_m196) (q_mn 197 (fun _ => q_m197) (fun _ => q_m198))))) (q_mn 204 (q_mn 201 (q_mn 199 (fun _ => q_m199) (q_mn 200 (fun _ => q_m200) (fun _ => q_m201))) (q_mn 202 (fun _ => q_m202) (q_mn 203 (fun _ => q_m203) (fun _ => q_m204)))) (q_mn 207 (q_mn 205 (fun _ => q_m205) (q_mn 206 (fun _ => q_m206) (fun _ => q_m207))) (q_mn 208 (fun _ => q_m208) (q_mn 209 (fun _ => q_m209) (fun _ => q_m210)))))) (q_mn 222 (q_mn 216 (q_mn 213 (q_mn 211 (fun _ => q_m211) (q_mn 212 (fun _ => q_m212) (fun _ => q_m213))) (q_mn 214 (fun _ => q_m214) (q_mn 215 (fun _ => q_m215) (fun _ => q_m216)))) (q_mn 219 (q_mn 217 (fun _ => q_m217) (q_mn 218 (fun _ => q_m218) (fun _ => q_m219))) (q_mn 220 (fun _ => q_m220) (q_mn 221 (fun _ => q_m221) (fun _ => q_m222))))) (q_mn 228 (q_mn 225 (q_mn 223 (fun _ => q_m223) (q_mn 224 (fun _ => q_m224) (fun _ => q_m225))) (q_mn 226 (fun _ => q_m226) (q_mn 227 (fun _ => q_m227) (fun _ => q_m228)))) (q_mn 231 (q_mn 229 (fun _ => q_m229) (q_mn 230 (fun _ => q_m230) (fun _ => q_m231))) (q_mn 232 (fun _ => q_m232) (q_mn 233 (fun _ => q_m233) (fun _ => q_m234))))))) (q_mn 257 (q_mn 245 (q_mn 239 (q_mn 236 (q_mn 235 (fun _ => q_m235) (fun _ => q_m236)) (q_mn 237 (fun _ => q_m237) (q_mn 238 (fun _ => q_m238) (fun _ => q_m239)))) (q_mn 242 (q_mn 240 (fun _ => q_m240) (q_mn 241 (fun _ => q_m241) (fun _ => q_m242))) (q_mn 243 (fun _ => q_m243) (q_mn 244 (fun _ => q_m244) (fun _ => q_m245))))) (q_mn 251 (q_mn 248 (q_mn 246 (fun _ => q_m246) (q_mn 247 (fun _ => q_m247) (fun _ => q_m248))) (q_mn 249 (fun _ => q_m249) (q_mn 250 (fun _ => q_m250) (fun _ => q_m251)))) (q_mn 254 (q_mn 252 (fun _ => q_m252) (q_mn 253 (fun _ => q_m253) (fun _ => q_m254))) (q_mn 255 (fun _ => q_m255) (q_mn 256 (fun _ => q_m256) (fun _ => q_m257)))))) (q_mn 269 (q_mn 263 (q_mn 260 (q_mn 258 (fun _ => q_m258) (q_mn 259 (fun _ => q_m259) (fun _ => q_m260))) (q_mn 261 (fun _ => q_m261) (q_mn 262 (fun _ => q_m262) (fun _ => q_m263)))) (q_mn 266 (q_mn 264 (fun _ => q_m264) (q_mn 265 (fun _ => q_m265) (fun _ => q_m266))) (q_mn 267 (fun _ => q_m267) (q_mn 268 (fun _ => q_m268) (fun _ => q_m269))))) (q_mn 275 (q_mn 272 (q_mn 270 (fun _ => q_m270) (q_mn 271 (fun _ => q_m271) (fun _ => q_m272))) (q_mn 273 (fun _ => q_m273) (q_mn 274 (fun _ => q_m274) (fun _ => q_m275)))) (q_mn 278 (q_mn 276 (fun _ => q_m276) (q_mn 277 (fun _ => q_m277) (fun _ => q_m278))) (q_mn 279 (fun _ => q_m279) (q_mn 280 (fun _ => q_m280) (fun _ => q_m281)))))))) (q_mn 328 (q_mn 304 (q_mn 292 (q_mn 286 (q_mn 283 (q_mn 282 (fun _ => q_m282) (fun _ => q_m283)) (q_mn 284 (fun _ => q_m284) (q_mn 285 (fun _ => q_m285) (fun _ => q_m286)))) (q_mn 289 (q_mn 287 (fun _ => q_m287) (q_mn 288 (fun _ => q_m288) (fun _ => q_m289))) (q_mn 290 (fun _ => q_m290) (q_mn 291 (fun _ => q_m291) (fun _ => q_m292))))) (q_mn 298 (q_mn 295 (q_mn 293 (fun _ => q_m293) (q_mn 294 (fun _ => q_m294) (fun _ => q_m295))) (q_mn 296 (fun _ => q_m296) (q_mn 297 (fun _ => q_m297) (fun _ => q_m298)))) (q_mn 301 (q_mn 299 (fun _ => q_m299) (q_mn 300 (fun _ => q_m300) (fun _ => q_m301))) (q_mn 302 (fun _ => q_m302) (q_mn 303 (fun _ => q_m303) (fun _ => q_m304)))))) (q_mn 316 (q_mn 310 (q_mn 307 (q_mn 305 (fun _ => q_m305) (q_mn 306 (fun _ => q_m306) (fun _ => q_m307))) (q_mn 308 (fun _ => q_m308) (q_mn 309 (fun _ => q_m309) (fun _ => q_m310)))) (q_mn 313 (q_mn 311 (fun _ => q_m311) (q_mn 312 (fun _ => q_m312) (fun _ => q_m313))) (q_mn 314 (fun _ => q_m314) (q_mn 315 (fun _ => q_m315) (fun _ => q_m316))))) (q_mn 322 (q_mn 319 (q_mn 317 (fun _ => q_m317) (q_mn 318 (fun _ => q_m318) (fun _ => q_m319))) (q_mn 320 (fun _ => q_m320) (q_mn 321 (fun _ => q_m321) (fun _ => q_m322)))) (q_mn 325 (q_mn 323 (fun _ => q_m323) (q_mn 324 (fun _ => q_m324) (fun _ => q_m325))) (q_mn 326 (fun _ => q_m326) (q_mn 327 (fun _ => q_m327) (fun _ => q_m328))))))) (q_mn 352 (q_mn 340 (q_mn 334 (q_mn 331 (q_mn 329 (fun _ => q_m329) (q_mn 330 (fun _ => q_m330) (fun _ => q_m331))) (q_mn 332 (fun _ => q_m332) (q_mn 333 (fun _ => q_m333) (fun _ => q_m334)))) (q_mn 337 (q_mn 335 (fun _ => q_m335) (q_mn 336 (fun _ => q_m336) (fun _ => q_m337))) (q_mn 338 (fun _ => q_m338) (q_mn 339 (fun _ => q_m339) (fun _ => q_m340))))) (q_mn 346 (q_mn 343 (q_mn 341 (fun _ => q_m341) (q_mn 342 (fun _ => q_m342) (fun _ => q_m343))) (q_mn 344 (fun _ => q_m344) (q_mn 345 (fun _ => q_m345) (fun _ => q_m346)))) (q_mn 349 (q_mn 347 (fun _ => q_m347) (q_mn 348 (fun _ => q_m348) (fun _ => q_m349))) (q_mn 350 (fun _ => q_m350) (q_mn 351 (fun _ => q_m351) (fun _ => q_m352)))))) (q_mn 364 (q_mn 358 (q_mn 355 (q_mn 353 (fun _ => q_m353) (q_mn 354 (fun _ => q_m354) (fun _ => q_m355))) (q_mn 356 (fun _ => q_m356) (q_mn 357 (fun _ => q_m357) (fun _ => q_m358)))) (q_mn 361 (q_mn 359 (fun _ => q_m359) (q_mn 360 (fun _ => q_m360) (fun _ => q_m361))) (q_mn 362 (fun _ => q_m362) (q_mn 363 (fun _ => q_m363) (fun _ => q_m364))))) (q_mn 370 (q_mn 367 (q_mn 365 (fun _ => q_m365) (q_mn 366 (fun _ => q_m366) (fun _ => q_m367))) (q_mn 368 (fun _ => q_m368) (q_mn 369 (fun _ => q_m369) (fun _ => q_m370)))) (q_mn 373 (q_mn 371 (fun _ => q_m371) (q_mn 372 (fun _ => q_m372) (fun _ => q_m373))) (q_mn 374 (fun _ => q_m374) (q_mn 375 (fun _ => q_m375) (fun _ => q_m376)))))))))
theorem q_e0 : q_mt 0 = q_m0 := rfl
theorem q_e1 : q_mt 1 = q_m1 := rfl
theorem q_e2 : q_mt 2 = q_m2 := rfl
theorem q_e3 : q_mt 3 = q_m3 := rfl
theorem q_e4 : q_mt 4 = q_m4 := rfl
theorem q_e5 : q_mt 5 = q_m5 := rfl
theorem q_e6 : q_mt 6 = q_m6 := rfl
theorem q_e7 : q_mt 7 = q_m7 := rfl
theorem q_e8 : q_mt 8 = q_m8 := rfl
theorem q_e9 : q_mt 9 = q_m9 := rfl
theorem q_e10 : q_mt 10 = q_m10 := rfl
theorem q_e11 : q_mt 11 = q_m11 := rfl
theorem q_e12 : q_mt 12 = q_m12 := rfl
theorem q_e13 : q_mt 13 = q_m13 := rfl
theorem q_e14 : q_mt 14 = q_m14 := rfl
theorem q_e15 : q_mt 15 = q_m15 := rfl
theorem q_e16 : q_mt 16 = q_m16 := rfl
theorem q_e17 : q_mt 17 = q_m17 := rfl
theorem q_e18 : q_mt 18 = q_m18 := rfl
theorem q_e19 : q_mt 19 = q_m19 := rfl
theorem q_e20 : q_mt 20 = q_m20 := rfl
theorem q_e21 : q_mt 21 = q_m21 := rfl
theorem q_e22 : q_mt 22 = q_m22 := rfl
theorem q_e23 : q_mt 23 = q_m23 := rfl
theorem q_e24 : q_mt 24 = q_m24 := rfl
theorem q_e25 : q_mt 25 = q_m25 := rfl
theorem q_e26 : q_mt 26 = q_m26 := rfl
theorem q_e27 : q_mt 27 = q_m27 := rfl
theorem q_e28 : q_mt 28 = q_m28 := rfl
theorem q_e29 : q_mt 29 = q_m29 := rfl
theorem q_e30 : q_mt 30 = q_m30 := rfl
theorem q_e31 : q_mt 31 = q_m31 := rfl
theorem q_e32 : q_mt 32 = q_m32 := rfl
theorem q_e33 : q_mt 33 = q_m33 := rfl
theorem q_e34 : q_mt 34 = q_m34 := rfl
theorem q_e35 : q_mt 35 = q_m35 := rfl
theorem q_e36 : q_mt 36 = q_m36 := rfl
theorem q_e37 : q_mt 37 = q_m37 := rfl
theorem q_e38 : q_mt 38 = q_m38 := rfl
theorem q_e39 : q_mt 39 = q_m39 := rfl
theorem q_e40 : q_mt 40 = q_m40 := rfl
theorem q_e41 : q_mt 41 = q_m41 := rfl
theorem q_e42 : q_mt 42 = q_m42 := rfl
theorem q_e43 : q_mt 43 = q_m43 := rfl
theorem q_e44 : q_mt 44 = q_m44 := rfl
theorem q_e45 : q_mt 45 = q_m45 := rfl
theorem q_e46 : q_mt 46 = q_m46 := rfl
theorem q_e47 : q_mt 47 = q_m47 := rfl
theorem q_e48 : q_mt 48 = q_m48 := rfl
theorem q_e49 : q_mt 49 = q_m49 := rfl
theorem q_e50 : q_mt 50 = q_m50 := rfl
theorem q_e51 : q_mt 51 = q_m51 := rfl
theorem q_e52 : q_mt 52 = q_m52 := rfl
theorem q_e53 : q_mt 53 = q_m53 := rfl
theorem q_e54 : q_mt 54 = q_m54 := rfl
theorem q_e55 : q_mt 55 = q_m55 := rfl
theorem q_e56 : q_mt 56 = q_m56 := rfl
theorem q_e57 : q_mt 57 = q_m57 := rfl
theorem q_e58 : q_mt 58 = q_m58 := rfl
theorem q_e59 : q_mt 59 = q_m59 := rfl
theorem q_e60 : q_mt 60 = q_m60 := rfl
theorem q_e61 : q_mt 61 = q_m61 := rfl
theorem q_e62 : q_mt 62 = q_m62 := rfl
theorem q_e63 : q_mt 63 = q_m63 := rfl
theorem q_e64 : q_mt 64 = q_m64 := rfl
theorem q_e65 : q_mt 65 = q_m65 := rfl
theorem q_e66 : q_mt 66 = q_m66 := rfl
theorem q_e67 : q_mt 67 = q_m67 := rfl
theorem q_e68 : q_mt 68 = q_m68 := rfl
theorem q_e69 : q_mt 69 = q_m69 := rfl
theorem q_e70 : q_mt 70 = q_m70 := rfl
theorem q_e71 : q_mt 71 = q_m71 := rfl
theorem q_e72 : q_mt 72 = q_m72 := rfl
theorem q_e73 : q_mt 73 = q_m73 := rfl
theorem q_e74 : q_mt 74 = q_m74 := rfl
theorem q_e75 : q_mt 75 = q_m75 := rfl
theorem q_e76 : q_mt 76 = q_m76 := rfl
theorem q_e77 : q_mt 77 = q_m77 := rfl
theorem q_e78 : q_mt 78 = q_m78 := rfl
theorem q_e79 : q_mt 79 = q_m79 := rfl
theorem q_e80 : q_mt 80 = q_m80 := rfl
theorem q_e81 : q_mt 81 = q_m81 := rfl
theorem q_e82 : q_mt 82 = q_m82 := rfl
theorem q_e83 : q_mt 83 = q_m83 := rfl
theorem q_e84 : q_mt 84 = q_m84 := rfl
theorem q_e85 : q_mt 85 = q_m85 := rfl
theorem q_e86 : q_mt 86 = q_m86 := rfl
theorem q_e87 : q_mt 87 = q_m87 := rfl
theorem q_e88 : q_mt 88 = q_m88 := rfl
theorem q_e89 : q_mt 89 = q_m89 := rfl
theorem q_e90 : q_mt 90 = q_m90 := rfl
theorem q_e91 : q_mt 91 = q_m91 := rfl
theorem q_e92 : q_mt 92 = q_m92 := rfl
theorem q_e93 : q_mt 93 = q_m93 := rfl
theorem q_e94 : q_mt 94 = q_m94 := rfl
theorem q_e95 : q_mt 95 = q_m95 := rfl
theorem q_e96 : q_mt 96 = q_m96 := rfl
theorem q_e97 : q_mt 97 = q_m97 := rfl
theorem q_e98 : q_mt 98 = q_m98 := rfl
theorem q_e99 : q_mt 99 = q_m99 := rfl
theorem q_e100 : q_mt 100 = q_m100 := rfl
theorem q_e101 : q_mt 101 = q_m101 := rfl
theorem q_e102 : q_mt 102 = q_m102 := rfl
theorem q_e103 : q_mt 103 = q_m103 := rfl
theorem q_e104 : q_mt 104 = q_m104 := rfl
theorem q_e105 : q_mt 105 = q_m105 := rfl
theorem q_e106 : q_mt 106 = q_m106 := rfl
theorem q_e107 : q_mt 107 = q_m107 := rfl
theorem q_e108 : q_mt 108 = q_m108 := rfl
theorem q_e109 : q_mt 109 = q_m109 := rfl
theorem q_e110 : q_mt 110 = q_m110 := rfl
theorem q_e111 : q_mt 111 = q_m111 := rfl
theorem q_e112 : q_mt 112 = q_m112 := rfl
theorem q_e113 : q_mt 113 = q_m113 := rfl
theorem q_e114 : q_mt 114 = q_m114 := rfl
theorem q_e115 : q_mt 115 = q_m115 := rfl
theorem q_e116 : q_mt 116 = q_m116 := rfl
theorem q_e117 : q_mt 117 = q_m117 := rfl
theorem q_e118 : q_mt 118 = q_m118 := rfl
theorem q_e119 : q_mt 119 = q_m119 := rfl
theorem q_e120 : q_mt 120 = q_m120 := rfl
theorem q_e121 : q_mt 121 = q_m121 := rfl
theorem q_e122 : q_mt 122 = q_m122 := rfl
theorem q_e123 : q_mt 123 = q_m123 := rfl
theorem q_e124 : q_mt 124 = q_m124 := rfl
theorem q_e125 : q_mt 125 = q_m125 := rfl
theorem q_e126 : q_mt 126 = q_m126 := rfl
theorem q_e127 : q_mt 127 = q_m127 := rfl
theorem q_e128 : q_mt 128 = q_m128 := rfl
theorem q_e129 : q_mt 129 = q_m129 := rfl
theorem q_e130 : q_mt 130 = q_m130 := rfl
theorem q_e131 : q_mt 131 = q_m131 := rfl
theorem q_e132 : q_mt 132 = q_m132 := rfl
theorem q_e133 : q_mt 133 = q_m133 := rfl
theorem q_e134 : q_mt 134 = q_m134 := rfl
theorem q_e135 : q_mt 135 = q_m135 := rfl
theorem q_e136 : q_mt 136 = q_m136 := rfl
theorem q_e137 : q_mt 137 = q_m137 := rfl
theorem q_e138 : q_mt 138 = q_m138 := rfl
theorem q_e139 : q_mt 139 = q_m139 := rfl
theorem q_e140 : q_mt 140 = q_m140 := rfl
theorem q_e141 : q_mt 141 = q_m141 := rfl
theorem q_e142 : q_mt 142 = q_m142 := rfl
theorem q_e143 : q_mt 143 = q_m143 := rfl
theorem q_e144 : q_mt 144 = q_m144 := rfl
theorem q_e145 : q_mt 145 = q_m145 := rfl
theorem q_e146 : q_mt 146 = q_m146 := rfl
theorem q_e147 : q_mt 147 = q_m147 := rfl
theorem q_e148 : q_mt 148 = q_m148 := rfl
theorem q_e149 : q_mt 149 = q_m149 := rfl
theorem q_e150 : q_mt 150 = q_m150 := rfl
theorem q_e151 : q_mt 151 = q_m151 := rfl
theorem q_e152 : q_mt 152 = q_m152 := rfl
theorem q_e153 : q_mt 153 = q_m153 := rfl
theorem q_e154 : q_mt 154 = q_m154 := rfl
theorem q_e155 : q_mt 155 = q_m155 := rfl
theorem q_e156 : q_mt 156 = q_m156 := rfl
theorem q_e157 : q_mt 157 = q_m157 := rfl
theorem q_e158 : q_mt 158 = q_m158 := rfl
theorem q_e159 : q_mt 159 = q_m159 := rfl
theorem q_e160 : q_mt 160 = q_m160 := rfl
theorem q_e161 : q_mt 161 = q_m161 := rfl
theorem q_e162 : q_mt 162 = q_m162 := rfl
theorem q_e163 : q_mt 163 = q_m163 := rfl
theorem q_e164 : q_mt 164 = q_m164 := rfl
theorem q_e165 : q_mt 165 = q_m165 := rfl
theorem q_e166 : q_mt 166 = q_m166 := rfl
theorem q_e167 : q_mt 167 = q_m167 := rfl
theorem q_e168 : q_mt 168 = q_m168 := rfl
theorem q_e169 : q_mt 169 = q_m169 := rfl
theorem q_e170 : q_mt 170 = q_m170 := rfl
theorem q_e171 : q_mt 171 = q_m171 := rfl
theorem q_e172 : q_mt 172 = q_m172 := rfl
theorem q_e173 : q_mt 173 = q_m173 := rfl
theorem q_e174 : q_mt 174 = q_m174 := rfl
theorem q_e175 : q_mt 175 = q_m175 := rfl
theorem q_e176 : q_mt 176 = q_m176 := rfl
theorem q_e177 : q_mt 177 = q_m177 := rfl
theorem q_e178 : q_mt 178 = q_m178 := rfl
theorem q_e179 : q_mt 179 = q_m179 := rfl
theorem q_e180 : q_mt 180 = q_m180 := rfl
theorem q_e181 : q_mt 181 = q_m181 := rfl
theorem q_e182 : q_mt 182 = q_m182 := rfl
theorem q_e183 : q_mt 183 = q_m183 := rfl
theorem q_e184 : q_mt 184 = q_m184 := rfl
theorem q_e185 : q_mt 185 = q_m185 := rfl
theorem q_e186 : q_mt 186 = q_m186 := rfl
theorem q_e187 : q_mt 187 = q_m187 := rfl
theorem q_e188 : q_mt 188 = q_m188 := rfl
theorem q_e189 : q_mt 189 = q_m189 := rfl
theorem q_e190 : q_mt 190 = q_m190 := rfl
theorem q_e191 : q_mt 191 = q_m191 := rfl
theorem q_e192 : q_mt 192 = q_m192 := rfl
theorem q_e193 : q_mt 193 = q_m193 := rfl
theorem q_e194 : q_mt 194 = q_m194 := rfl
theorem q_e195 : q_mt 195 = q_m195 := rfl
theorem q_e196 : q_mt 196 = q_m196 := rfl
theorem q_e197 : q_mt 197 = q_m197 := rfl
theorem q_e198 : q_mt 198 = q_m198 := rfl
theorem q_e199 : q_mt 199 = q_m199 := rfl
theorem q_e200 : q_mt 200 = q_m200 := rfl
theorem q_e201 : q_mt 201 = q_m201 := rfl
theorem q_e202 : q_mt 202 = q_m202 := rfl
theorem q_e203 : q_mt 203 = q_m203 := rfl
theorem q_e204 : q_mt 204 = q_m204 := rfl
theorem q_e205 : q_mt 205 = q_m205 := rfl
theorem q_e206 : q_mt 206 = q_m206 := rfl
theorem q_e207 : q_mt 207 = q_m207 := rfl
theorem q_e208 : q_mt 208 = q_m208 := rfl
theorem q_e209 : q_mt 209 = q_m209 := rfl
theorem q_e210 : q_mt 210 = q_m210 := rfl
theorem q_e211 : q_mt 211 = q_m211 := rfl
theorem q_e212 : q_mt 212 = q_m212 := rfl
theorem q_e213 : q_mt 213 = q_m213 := rfl
theorem q_e214 : q_mt 214 = q_m214 := rfl
theorem q_e215 : q_mt 215 = q_m215 := rfl
theorem q_e216 : q_mt 216 = q_m216 := rfl
theorem q_e217 : q_mt 217 = q_m217 := rfl
theorem q_e218 : q_mt 218 = q_m218 := rfl
theorem q_e219 : q_mt 219 = q_m219 := rfl
theorem q_e220 : q_mt 220 = q_m220 := rfl
theorem q_e221 : q_mt 221 = q_m221 := rfl
theorem q_e222 : q_mt 222 = q_m222 := rfl
theorem q_e223 : q_mt 223 = q_m223 := rfl
theorem q_e224 : q_mt 224 = q_m224 := rfl
theorem q_e225 : q_mt 225 = q_m225 := rfl
theorem q_e226 : q_mt 226 = q_m226 := rfl
theorem q_e227 : q_mt 227 = q_m227 := rfl
theorem q_e228 : q_mt 228 = q_m228 := rfl
theorem q_e229 : q_mt 229 = q_m229 := rfl
theorem q_e230 : q_mt 230 = q_m230 := rfl
theorem q_e231 : q_mt 231 = q_m231 := rfl
theorem q_e232 : q_mt 232 = q_m232 := rfl
theorem q_e233 : q_mt 233 = q_m233 := rfl
theorem q_e234 : q_mt 234 = q_m234 := rfl
theorem q_e235 : q_mt 235 = q_m235 := rfl
theorem q_e236 : q_mt 236 = q_m236 := rfl
theorem q_e237 : q_mt 237 = q_m237 := rfl
theorem q_e238 : q_mt 238 = q_m238 := rfl
theorem q_e239 : q_mt 239 = q_m239 := rfl
theorem q_e240 : q_mt 240 = q_m240 := rfl
theorem q_e241 : q_mt 241 = q_m241 := rfl
theorem q_e242 : q_mt 242 = q_m242 := rfl
theorem q_e243 : q_mt 243 = q_m243 := rfl
theorem q_e244 : q_mt 244 = q_m244 := rfl
theorem q_e245 : q_mt 245 = q_m245 := rfl
theorem q_e246 : q_mt 246 = q_m246 := rfl
theorem q_e247 : q_mt 247 = q_m247 := rfl
theorem q_e248 : q_mt 248 = q_m248 := rfl
theorem q_e249 : q_mt 249 = q_m249 := rfl
theorem q_e250 : q_mt 250 = q_m250 := rfl
theorem q_e251 : q_mt 251 = q_m251 := rfl
theorem q_e252 : q_mt 252 = q_m252 := rfl
theorem q_e253 : q_mt 253 = q_m253 := rfl
theorem q_e254 : q_mt 254 = q_m254 := rfl
theorem q_e255 : q_mt 255 = q_m255 := rfl
theorem q_e256 : q_mt 256 = q_m256 := rfl
theorem q_e257 : q_mt 257 = q_m257 := rfl
theorem q_e258 : q_mt 258 = q_m258 := rfl
theorem q_e259 : q_mt 259 = q_m259 := rfl
theorem q_e260 : q_mt 260 = q_m260 := rfl
theorem q_e261 : q_mt 261 = q_m261 := rfl
theorem q_e262 : q_mt 262 = q_m262 := rfl
theorem q_e263 : q_mt 263 = q_m263 := rfl
theorem q_e264 : q_mt 264 = q_m264 := rfl
theorem q_e265 : q_mt 265 = q_m265 := rfl
theorem q_e266 : q_mt 266 = q_m266 := rfl
theorem q_e267 : q_mt 267 = q_m267 := rfl
theorem q_e268 : q_mt 268 = q_m268 := rfl
theorem q_e269 : q_mt 269 = q_m269 := rfl
theorem q_e270 : q_mt 270 = q_m270 := rfl
theorem q_e271 : q_mt 271 = q_m271 := rfl
theorem q_e272 : q_mt 272 = q_m272 := rfl
theorem q_e273 : q_mt 273 = q_m273 := rfl
theorem q_e274 : q_mt 274 = q_m274 := rfl
theorem q_e275 : q_mt 275 = q_m275 := rfl
theorem q_e276 : q_mt 276 = q_m276 := rfl
theorem q_e277 : q_mt 277 = q_m277 := rfl
theorem q_e278 : q_mt 278 = q_m278 := rfl
theorem q_e279 : q_mt 279 = q_m279 := rfl
theorem q_e280 : q_mt 280 = q_m280 := rfl
theorem q_e281 : q_mt 281 = q_m281 := rfl
theorem q_e282 : q_mt 282 = q_m282 := rfl
theorem q_e283 : q_mt 283 = q_m283 := rfl
theorem q_e284 : q_mt 284 = q_m284 := rfl
theorem q_e285 : q_mt 285 = q_m285 := rfl
theorem q_e286 : q_mt 286 = q_m286 := rfl
theorem q_e287 : q_mt 287 = q_m287 := rfl
theorem q_e288 : q_mt 288 = q_m288 := rfl
theorem q_e289 : q_mt 289 = q_m289 := rfl
theorem q_e290 : q_mt 290 = q_m290 := rfl
theorem q_e291 : q_mt 291 = q_m291 := rfl
theorem q_e292 : q_mt 292 = q_m292 := rfl
theorem q_e293 : q_mt 293 = q_m293 := rfl
theorem q_e294 : q_mt 294 = q_m294 := rfl
theorem q_e295 : q_mt 295 = q_m295 := rfl
theorem q_e296 : q_mt 296 = q_m296 := rfl
theorem q_e297 : q_mt 297 = q_m297 := rfl
theorem q_e298 : q_mt 298 = q_m298 := rfl
theorem q_e299 : q_mt 299 = q_m299 := rfl
theorem q_e300 : q_mt 300 = q_m300 := rfl
theorem q_e301 : q_mt 301 = q_m301 := rfl
theorem q_e302 : q_mt 302 = q_m302 := rfl
theorem q_e303 : q_mt 303 = q_m303 := rfl
theorem q_e304 : q_mt 304 = q_m304 := rfl
theorem q_e305 : q_mt 305 = q_m305 := rfl
theorem q_e306 : q_mt 306 = q_m306 := rfl
theorem q_e307 : q_mt 307 = q_m307 := rfl
theorem q_e308 : q_mt 308 = q_m308 := rfl
theorem q_e309 : q_mt 309 = q_m309 := rfl
theorem q_e310 : q_mt 310 = q_m310 := rfl
theorem q_e311 : q_mt 311 = q_m311 := rfl
theorem q_e312 : q_mt 312 = q_m312 := rfl
theorem q_e313 : q_mt 313 = q_m313 := rfl
theorem q_e314 : q_mt 314 = q_m314 := rfl
theorem q_e315 : q_mt 315 = q_m315 := rfl
theorem q_e316 : q_mt 316 = q_m316 := rfl
theorem q_e317 : q_mt 317 = q_m317 := rfl
theorem q_e318 : q_mt 318 = q_m318 := rfl
theorem q_e319 : q_mt 319 = q_m319 := rfl
theorem q_e320 : q_mt 320 = q_m320 := rfl
theorem q_e321 : q_mt 321 = q_m321 := rfl
theorem q_e322 : q_mt 322 = q_m322 := rfl
theorem q_e323 : q_mt 323 = q_m323 := rfl
theorem q_e324 : q_mt 324 = q_m324 := rfl
theorem q_e325 : q_mt 325 = q_m325 := rfl
theorem q_e326 : q_mt 326 = q_m326 := rfl
theorem q_e327 : q_mt 327 = q_m327 := rfl
theorem q_e328 : q_mt 328 = q_m328 := rfl
theorem q_e329 : q_mt 329 = q_m329 := rfl
theorem q_e330 : q_mt 330 = q_m330 := rfl
theorem q_e331 : q_mt 331 = q_m331 := rfl
theorem q_e332 : q_mt 332 = q_m332 := rfl
theorem q_e333 : q_mt 333 = q_m333 := rfl
theorem q_e334 : q_mt 334 = q_m334 := rfl
theorem q_e335 : q_mt 335 = q_m335 := rfl
theorem q_e336 : q_mt 336 = q_m336 := rfl
theorem q_e337 : q_mt 337 = q_m337 := rfl
theorem q_e338 : q_mt 338 = q_m338 := rfl
theorem q_e339 : q_mt 339 = q_m339 := rfl
theorem q_e340 : q_mt 340 = q_m340 := rfl
theorem q_e341 : q_mt 341 = q_m341 := rfl
theorem q_e342 : q_mt 342 = q_m342 := rfl
theorem q_e343 : q_mt 343 = q_m343 := rfl
theorem q_e344 : q_mt 344 = q_m344 := rfl
theorem q_e345 : q_mt 345 = q_m345 := rfl
theorem q_e346 : q_mt 346 = q_m346 := rfl
theorem q_e347 : q_mt 347 = q_m347 := rfl
theorem q_e348 : q_mt 348 = q_m348 := rfl
theorem q_e349 : q_mt 349 = q_m349 := rfl
theorem q_e350 : q_mt 350 = q_m350 := rfl
theorem q_e351 : q_mt 351 = q_m351 := rfl
theorem q_e352 : q_mt 352 = q_m352 := rfl
theorem q_e353 : q_mt 353 = q_m353 := rfl
theorem q_e354 : q_mt 354 = q_m354 := rfl
theorem q_e355 : q_mt 355 = q_m355 := rfl
theorem q_e356 : q_mt 356 = q_m356 := rfl
theorem q_e357 : q_mt 357 = q_m357 := rfl
theorem q_e358 : q_mt 358 = q_m358 := rfl
theorem q_e359 : q_mt 359 = q_m359 := rfl
theorem q_e360 : q_mt 360 = q_m360 := rfl
theorem q_e361 : q_mt 361 = q_m361 := rfl
theorem q_e362 : q_mt 362 = q_m362 := rfl
theorem q_e363 : q_mt 363 = q_m363 := rfl
theorem q_e364 : q_mt 364 = q_m364 := rfl
theorem q_e365 : q_mt 365 = q_m365 := rfl
theorem q_e366 : q_mt 366 = q_m366 := rfl
theorem q_e367 : q_mt 367 = q_m367 := rfl
theorem q_e368 : q_mt 368 = q_m368 := rfl
theorem q_e369 : q_mt 369 = q_m369 := rfl
theorem q_e370 : q_mt 370 = q_m370 := rfl
theorem q_e371 : q_mt 371 = q_m371 := rfl
theorem q_e372 : q_mt 372 = q_m372 := rfl
theorem q_e373 : q_mt 373 = q_m373 := rfl
theorem q_e374 : q_mt 374 = q_m374 := rfl
theorem q_e375 : q_mt 375 = q_m375 := rfl
theorem q_e376 : q_mt 376 = q_m376 := rfl
theorem q_mnL {m : Nat} {A B : Nat → q_M} (hA : ∀ k, (A k).2.2.1 ≤ 80) (hB : ∀ k, (B k).2.2.1 ≤ 80) : ∀ k, (q_mn m A B k).2.2.1 ≤ 80 := q_mn_ok (P := fun M => M.2.2.1 ≤ 80) hA hB
theorem q_mnP {m : Nat} {A B : Nat → q_M} (hA : ∀ k, plainName (A k).1.cls = true) (hB : ∀ k, plainName (B k).1.cls = true) : ∀ k, plainName (q_mn m A B k).1.cls = true := q_mn_ok (P := fun M => plainName M.1.cls = true) hA hB
theorem q_mt_ml : ∀ j, (q_mt j).2.2.1 ≤ 80 := q_mnL (q_mnL (q_mnL (q_mnL (q_mnL (q_mnL (q_mnL (q_mnL (fun _ => Nat.le_of_ble_eq_true rfl) (fun _ => Nat.le_of_ble_eq_true rfl)) (q_mnL (fun _ => Nat.le_of_ble_eq_true rfl) (q_mnL (fun _ => Nat.le_of_ble_eq_true rfl) (fun _ => Nat.le_of_ble_eq_true rfl)))) (q_mnL (q_mnL (fun _ => Nat.le_of_ble_eq_true rfl) (q_mnL (fun _ => Nat.le_of_ble_eq_true rfl) (fun _ => Nat.le_of_ble_eq_true rfl))) (q_mnL (fun _ => Nat.le_of_ble_eq_true rfl) (q_mnL (fun _ => Nat.le_of_ble_eq_true rfl) (fun _ => Nat.le_of_ble_eq_true rfl))))) (q_mnL (q_mnL (q_mnL (fun _ => Nat.le_of_ble_eq_true rfl) (q_mnL (fun _ => Nat.le_of_ble_eq_true rfl) (fun _ => Nat.le_of_ble_eq_true rfl))) (q_mnL (fun _ => Nat.le_of_ble_eq_true rfl) (q_mnL (fun _ => Nat.le_of_ble_eq_true rfl) (fun _ => Nat.le_of_ble_eq_true rfl)))) (q_mnL (q_mnL (fun _ => Nat.le_of_ble_eq_true rfl) (q_mnL (fun _ => Nat.le_of_ble_eq_true rfl) (fun _ => Nat.le_of_ble_eq_true rfl))) (q_mnL (fun _ => Nat.le_of_ble_eq_true rfl) (q_mnL (fun _ => Nat.le_of_ble_eq_true rfl) (fun _ => Nat.le_of_ble_eq_true rfl)))))) (q_mnL (q_mnL (q_mnL (q_mnL (fun _ => Nat.le_of_ble_eq_true rfl) (q_mnL (fun _ => Nat.le_of_ble_eq_true rfl) (fun _ => Nat.le_of_ble_eq_true rfl))) (q_mnL (fun _ => Nat.le_of_ble_eq_true rfl) (q_mnL (fun _ => Nat.le_of_ble_eq_true rfl) (fun _ => Nat.le_of_ble_eq_true rfl)))) (q_mnL (q_mnL (fun _ => Nat.le_of_ble_eq_true rfl) (q_mnL (fun _ => Nat.le_of_ble_eq_true rfl) (fun _ => Nat.le_of_ble_eq_true rfl))) (q_mnL (fun _ => Nat.le_of_ble_eq_true rfl) (q_mnL (fun _ => Nat.le_of_ble_eq_true rfl) (fun _ => Nat.le_of_ble_eq_true rfl))))) (q_mnL (q_mnL (q_mnL (fun _ => Nat.le_of_ble_eq_true rfl) (q_mnL (fun _ => Nat.le_of_ble_eq_true rfl) (fun _ => Nat.le_of_ble_eq_true rfl))) (q_mnL (fun _ => Nat.le_of_ble_eq_true rfl) (q_mnL (fun _ => Nat.le_of_ble_eq_true rfl) (fun _ => Nat.le_of_ble_eq_true rfl)))) (q_mnL (q_mnL (fun _ => Nat.le_of_ble_eq_true rfl) (q_mnL (fun _ => Nat.le_of_ble_eq_true rfl) (fun _ => Nat.le_of_ble_eq_true rfl))) (q_mnL (fun _ => Nat.le_of_ble_eq_true rfl) (q_mnL (fun _ => Nat.le_of_ble_eq_true rfl) (fun _ => Nat.le_of_ble_eq_true rfl))))))) (q_mnL (q_mnL (q_mnL (q_mnL (q_mnL (fun _ => Nat.le_of_ble_eq_true rfl) (fun _ => Nat.le_of_ble_eq_true rfl)) (q_mnL (fun _ => Nat.le_of_ble_eq_true rfl) (q_mnL (fun _ => Nat.le_of_ble_eq_true rfl) (fun _ => Nat.le_of_ble_eq_true rfl)))) (q_mnL (q_mnL (fun _ => Nat.le_of_ble_eq_true rfl) (q_mnL (fun _ => Nat.le_of_ble_eq_true rfl) (fun _ => Nat.le_of_ble_eq_true rfl))) (q_mnL (fun _ => Nat.le_of_ble_eq_true rfl) (q_mnL (fun _ => Nat.le_of_ble_eq_true rfl) (fun _ => Nat.le_of_ble_eq_true rfl))))) (q_mnL (q_mnL (q_mnL (fun _ => Nat.le_of_ble_eq_true rfl) (q_mnL (fun _ => Nat.le_of_ble_eq_true rfl) (fun _ => Nat.le_of_ble_eq_true rfl))) (q_mnL (fun _ => Nat.le_of_ble_eq_true rfl) (q_mnL (fun _ => Nat.le_of_ble_eq_true rfl) (fun _ => Nat.le_of_ble_eq_true rfl)))) (q_mnL (q_mnL (fun _ => Nat.le_of_ble_eq_true rfl) (q_mnL (fun _ => Nat.le_of_ble_eq_true rfl) (fun _ => Nat.le_of_ble_eq_true rfl))) (q_mnL (fun _ => Nat.le_of_ble_eq_true rfl) (q_mnL (fun _ => Nat.le_of_ble_eq_true rfl) (fun _ => Nat.le_of_ble_eq_true rfl)))))) (q_mnL (q_mnL (q_mnL (q_mnL (fun _ => Nat.le_of_ble_eq_true rfl) (q_mnL (fun _ => Nat.le_of_ble_eq_true rfl) (fun _ => Nat.le_of_ble_eq_true rfl))) (q_mnL (fun _ => Nat.le_of_ble_eq_true rfl) (q_mnL (fun _ => Nat.le_of_ble_eq_true rfl) (fun _ => Nat.le_of_ble_eq_true rfl)))) (q_mnL (q_mnL (fun _ => Nat.le_of_ble_eq_true rfl) (q_mnL (fun _ => Nat.le_of_ble_eq_true rfl) (fun _ => Nat.le_of_ble_eq_true rfl))) (q_mnL (fun _ => Nat.le_of_ble_eq_true rfl) (q_mnL (fun _ => Nat.le_of_ble_eq_true rfl) (fun _ => Nat.le_of_ble_eq_true rfl))))) (q_mnL (q_mnL (q_mnL (fun _ => Nat.le_of_ble_eq_true rfl) (q_mnL (fun _ => Nat.le_of_ble_eq_true rfl) (fun _ => Nat.le_of_ble_eq_true rfl))) (q_mnL (fun _ => Nat.le_of_ble_eq_true rfl) (q_mnL (fun _ => Nat.le_of_ble_eq_true rfl) (fun _ => Nat.le_of_ble_eq_true rfl)))) (q_mnL (q_mnL (fun _ => Nat.le_of_ble_eq_true rfl) (q_mnL (fun _ => Nat.le_of_ble_eq_true rfl) (fun _ => Nat.le_of_ble_eq_true rfl))) (q_mnL (fun _ => Nat.le_of_ble_eq_true rfl) (q_mnL (fun _ => Nat.le_of_ble_eq_true rfl) (fun _ => Nat.le_of_ble_eq_true rfl)))))))) (q_mnL (q_mnL (q_mnL (q_mnL (q_mnL (q_mnL (fun _ => Nat.le_of_ble_eq_true rfl) (fun _ => Nat.le_of_ble_eq_true rfl)) (q_mnL (fun _ => Nat.le_of_ble_eq_true rfl) (q_mnL (fun _ => Nat.le_of_ble_eq_true rfl) (fun _ => Nat.le_of_ble_eq_true rfl)))) (q_mnL (q_mnL (fun _ => Nat.le_of_ble_eq_true rfl) (q_mnL (fun _ => Nat.le_of_ble_eq_true rfl) (fun _ => Nat.le_of_ble_eq_true rfl))) (q_mnL (fun _ => Nat.le_of_ble_eq_true rfl) (q_mnL (fun _ => Nat.le_of_ble_eq_true rfl) (fun _ => Nat.le_of_ble_eq_true rfl))))) (q_mnL (q_mnL (q_mnL (fun _ => Nat.le_of_ble_eq_true rfl) (q_mnL (fun _ => Nat.le_of_ble_eq_true rfl) (fun _ => Nat.le_of_ble_eq_true rfl))) (q_mnL (fun _ => Nat.le_of_ble_eq_true rfl) (q_mnL (fun _ => Nat.le_of_ble_eq_true rfl) (fun _ => Nat.le_of_ble_eq_true rfl)))) (q_mnL (q_mnL (fun _ => Nat.le_of_ble_eq_true rfl) (q_mnL (fun _ => Nat.le_of_ble_eq_true rfl) (fun _ => Nat.le_of_ble_eq_true rfl))) (q_mnL (fun _ => Nat.le_of_ble_eq_true rfl) (q_mnL (fun _ => Nat.le_of_ble_eq_true rfl) (fun _ => Nat.le_of_ble_eq_true rfl)))))) (q_mnL (q_mnL (q_mnL (q_mnL (fun _ => Nat.le_of_ble_eq_true rfl) (q_mnL (fun _ => Nat.le_of_ble_eq_true rfl) (fun _ => Nat.le_of_ble_eq_true rfl))) (q_mnL (fun _ => Nat.le_of_ble_eq_true rfl) (q_mnL (fun _ => Nat.le_of_ble_eq_true rfl) (fun _ => Nat.le_of_ble_eq_true rfl)))) (q_mnL (q_mnL (fun _ => Nat.le_of_ble_eq_true rfl) (q_mnL (fun _ => Nat.le_of_ble_eq_true rfl) (fun _ => Nat.le_of_ble_eq_true rfl))) (q_mnL (fun _ => Nat.le_of_ble_eq_true rfl) (q_mnL (fun _ => Nat.le_of_ble_eq_true rfl) (fun _ => Nat.le_of_ble_eq_true rfl))))) (q_mnL (q_mnL (q_mnL (fun _ => Nat.le_of_ble_eq_true rfl) (q_mnL (fun _ => Nat.le_of_ble_eq_true rfl) (fun _ => Nat.le_of_ble_eq_true rfl))) (q_mnL (fun _ => Nat.le_of_ble_eq_true rfl) (q_mnL (fun _ => Nat.le_of_ble_eq_true rfl) (fun _ => Nat.le_of_ble_eq_true rfl)))) (q_mnL (q_mnL (fun _ => Nat.le_of_ble_eq_true rfl) (q_mnL (fun _ => Nat.le_of_ble_eq_true rfl) (fun _ => Nat.le_of_ble_eq_true rfl))) (q_mnL (fun _ => Nat.le_of_ble_eq_true rfl) (q_mnL (fun _ => Nat.le_of_ble_eq_true rfl) (fun _ => Nat.le_of_ble_eq_true rfl))))))) (q_mnL (q_mnL (q_mnL (q_mnL (q_mnL (fun _ => Nat.le_of_ble_eq_true rfl) (fun _ => Nat.le_of_ble_eq_true rfl)) (q_mnL (fun _ => Nat.le_of_ble_eq_true rfl) (q_mnL (fun _ => Nat.le_of_ble_eq_true rfl) (fun _ => Nat.le_of_ble_eq_true rfl)))) (q_mnL (q_mnL (fun _ => Nat.le_of_ble_eq_true rfl) (q_mnL (fun _ => Nat.le_of_ble_eq_true rfl) (fun _ => Nat.le_of_ble_eq_true rfl))) (q_mnL (fun _ => Nat.le_of_ble_eq_true rfl) (q_mnL (fun _ => Nat.le_of_ble_eq_true rfl) (fun _ => Nat.le_of_ble_eq_true rfl))))) (q_mnL (q_mnL (q_mnL (fun _ => Nat.le_of_ble_eq_true rfl) (q_mnL (fun _ => Nat.le_of_ble_eq_true rfl) (fun _ => Nat.le_of_ble_eq_true rfl))) (q_mnL (fun _ => Nat.le_of_ble_eq_true rfl) (q_mnL (fun _ => Nat.le_of_ble_eq_true rfl) (fun _ => Nat.le_of_ble_eq_true rfl)))) (q_mnL (q_mnL (fun _ => Nat.le_of_ble_eq_true rfl) (q_mnL (fun _ => Nat.le_of_ble_eq_true rfl) (fun _ => Nat.le_of_ble_eq_true rfl))) (q_mnL (fun _ => Nat.le_of_ble_eq_true rfl) (q_mnL (fun _ => Nat.le_of_ble_eq_true rfl) (fun _ => Nat.le_of_ble_eq_true rfl)))))) (q_mnL (q_mnL (q_mnL (q_mnL (fun _ => Nat.le_of_ble_eq_true rfl) (q_mnL (fun _ => Nat.le_of_ble_eq_true rfl) (fun _ => Nat.le_of_ble_eq_true rfl))) (q_mnL (fun _ => Nat.le_of_ble_eq_true rfl) (q_mnL (fun _ => Nat.le_of_ble_eq_true rfl) (fun _ => Nat.le_of_ble_eq_true rfl)))) (q_mnL (q_mnL (fun _ => Nat.le_of_ble_eq_true rfl) (q_mnL (fun _ => Nat.le_of_ble_eq_true rfl) (fun _ => Nat.le_of_ble_eq_true rfl))) (q_mnL (fun _ => Nat.le_of_ble_eq_true rfl) (q_mnL (fun _ => Nat.le_of_ble_eq_true rfl) (fun _ => Nat.le_of_ble_eq_true rfl))))) (q_mnL (q_mnL (q_mnL (fun _ => Nat.le_of_ble_eq_true rfl) (q_mnL (fun _ => Nat.le_of_ble_eq_true rfl) (fun _ => Nat.le_of_ble_eq_true rfl))) (q_mnL (fun _ => Nat.le_of_ble_eq_true rfl) (q_mnL (fun _ => Nat.le_of_ble_eq_true rfl) (fun _ => Nat.le_of_ble_eq_true rfl)))) (q_mnL (q_mnL (fun _ => Nat.le_of_ble_eq_true rfl) (q_mnL (fun _ => Nat.le_of_ble_eq_true rfl) (fun _ => Nat.le_of_ble_eq_true rfl))) (q_mnL (fun _ => Nat.le_of_ble_eq_true rfl) (q_mnL (fun _ => Nat.le_of_ble_eq_true rfl) (fun _ => Nat.le_of_ble_eq_true rfl))))))))) (q_mnL (q_mnL (q_mnL (q_mnL (q_mnL (q_mnL (q_mnL (fun _ => Nat.le_of_ble_eq_true rfl) (fun _ => Nat.le_of_ble_eq_true rfl)) (q_mnL (fun _ => Nat.le_of_ble_eq_true rfl) (q_mnL (fun _ => Nat.le_of_ble_eq_true rfl) (fun _ => Nat.le_of_ble_eq_true rfl)))) (q_mnL (q_mnL (fun _ => Nat.le_of_ble_eq_true rfl) (q_mnL (fun _ => Nat.le_of_ble_eq_true rfl) (fun _ => Nat.le_of_ble_eq_true rfl))) (q_mnL (fun _ => Nat.le_of_ble_eq_true rfl) (q_mnL (fun _ => Nat.le_of_ble_eq_true rfl) (fun _ => Nat.le_of_ble_eq_true rfl))))) (q_mnL (q_mnL (q_mnL (fun _ => Nat.le_of_ble_eq_true rfl) (q_mnL (fun _ => Nat.le_of_ble_eq_true rfl) (fun _ => Nat.le_of_ble_eq_true rfl))) (q_mnL (fun _ => Nat.le_of_ble_eq_true rfl) (q_mnL (fun _ => Nat.le_of_ble_eq_true rfl) (fun _ => Nat.le_of_ble_eq_true rfl)))) (q_mnL (q_mnL (fun _ => Nat.le_of_ble_eq_true rfl) (q_mnL (fun _ => Nat.le_of_ble_eq_true rfl) (fun _ => Nat.le_of_ble_eq_true rfl))) (q_mnL (fun _ => Nat.le_of_ble_eq_true rfl) (q_mnL (fun _ => Nat.le_of_ble_eq_true rfl) (fun _ => Nat.le_of_ble_eq_true rfl)))))) (q_mnL (q_mnL (q_mnL (q_mnL (fun _ => Nat.le_of_ble_eq_true rfl) (q_mnL (fun _ => Nat.le_of_ble_eq_true rfl) (fun _ => Nat.le_of_ble_eq_true rfl))) (q_mnL (fun _ => Nat.le_of_ble_eq_true rfl) (q_mnL (fun _ => Nat.le_of_ble_eq_true rfl) (fun _ => Nat.le_of_ble_eq_true rfl)))) (q_mnL (q_mnL (fun _ => Nat.le_of_ble_eq_true rfl) (q_mnL (fun _ => Nat.le_of_ble_eq_true rfl) (fun _ => Nat.le_of_ble_eq_true rfl))) (q_mnL (fun _ => Nat.le_of_ble_eq_true rfl) (q_mnL (fun _ => Nat.le_of_ble_eq_true rfl) (fun _ => Nat.le_of_ble_eq_true rfl))))) (q_mnL (q_mnL (q_mnL (fun _ => Nat.le_of_ble_eq_true rfl) (q_mnL (fun _ => Nat.le_of_ble_eq_true rfl) (fun _ => Nat.le_of_ble_eq_true rfl))) (q_mnL (fun _ => Nat.le_of_ble_eq_true rfl) (q_mnL (fun _ => Nat.le_of_ble_eq_true rfl) (fun _ => Nat.le_of_ble_eq_true rfl)))) (q_mnL (q_mnL (fun _ => Nat.le_of_ble_eq_true rfl) (q_mnL (fun _ => Nat.le_of_ble_eq_true rfl) (fun _ => Nat.le_of_ble_eq_true rfl))) (q_mnL (fun _ => Nat.le_of_ble_eq_true rfl) (q_mnL (fun _ => Nat.le_of_ble_eq_true rfl) (fun _ => Nat.le_of_ble_eq_true rfl))))))) (q_mnL (q_mnL (q_mnL (q_mnL (q_mnL (fun _ => Nat.le_of_ble_eq_true rfl) (fun _ => Nat.le_of_ble_eq_true rfl)) (q_mnL (fun _ => Nat.le_of_ble_eq_true rfl) (q_mnL (fun _ => Nat.le_of_ble_eq_true rfl) (fun _ => Nat.le_of_ble_eq_true rfl)))) (q_mnL (q_mnL (fun _ => Nat.le_of_ble_eq_true rfl) (q_mnL (fun _ => Nat.le_of_ble_eq_true rfl) (fun _ => Nat.le_of_ble_eq_true rfl))) (q_mnL (fun _ => Nat.le_of_ble_eq_true rfl) (q_mnL (fun _ => Nat.le_of_ble_eq_true rfl) (fun _ => Nat.le_of_ble_eq_true rfl))))) (q_mnL (q_mnL (q_mnL (fun _ => Nat.le_of_ble_eq_true rfl) (q_mnL (fun _ => Nat.le_of_ble_eq_true rfl) (fun _ => Nat.le_of_ble_eq_true rfl))) (q_mnL (fun _ => Nat.le_of_ble_eq_true rfl) (q_mnL (fun _ => Nat.le_of_ble_eq_true rfl) (fun _ => Nat.le_of_ble_eq_true rfl)))) (q_mnL (q_mnL (fun _ => Nat.le_of_ble_eq_true rfl) (q_mnL (fun _ => Nat.le_of_ble_eq_true rfl) (fun _ => Nat.le_of_ble_eq_true rfl))) (q_mnL (fun _ => Nat.le_of_ble_eq_true rfl) (q_mnL (fun _ => Nat.le_of_ble_eq_true rfl) (fun _ => Nat.le_of_ble_eq_true rfl)))))) (q_mnL (q_mnL (q_mnL (q_mnL (fun _ => Nat.le_of_ble_eq_true rfl) (q_mnL (fun _ => Nat.le_of_ble_eq_true rfl) (fun _ => Nat.le_of_ble_eq_true rfl))) (q_mnL (fun _ => Nat.le_of_ble_eq_true rfl) (q_mnL (fun _ => Nat.le_of_ble_eq_true rfl) (fun _ => Nat.le_of_ble_eq_true rfl)))) (q_mnL (q_mnL (fun _ => Nat.le_of_ble_eq_true rfl) (q_mnL (fun _ => Nat.le_of_ble_eq_true rfl) (fun _ => Nat.le_of_ble_eq_true rfl))) (q_mnL (fun _ => Nat.le_of_ble_eq_true rfl) (q_mnL (fun _ => Nat.le_of_ble_eq_true rfl) (fun _ => Nat.le_of_ble_eq_true rfl))))) (q_mnL (q_mnL (q_mnL (fun _ => Nat.le_of_ble_eq_true rfl) (q_mnL (fun _ => Nat.le_of_ble_eq_true rfl) (fun _ => Nat.le_of_ble_eq_true rfl))) (q_mnL (fun _ => Nat.le_of_ble_eq_true rfl) (q_mnL (fun _ => Nat.le_of_ble_eq_true rfl) (fun _ => Nat.le_of_ble_eq_true rfl)))) (q_mnL (q_mnL (fun _ => Nat.le_of_ble_eq_true rfl) (q_mnL (fun _ => Nat.le_of_ble_eq_true rfl) (fun _ => Nat.le_of_ble_eq_true rfl))) (q_mnL (fun _ => Nat.le_of_ble_eq_true rfl) (q_mnL (fun _ => Nat.le_of_ble_eq_true rfl) (fun _ => Nat.le_of_ble_eq_true rfl)))))))) (q_mnL (q_mnL (q_mnL (q_mnL (q_mnL (q_mnL (fun _ => Nat.le_of_ble_eq_true rfl) (fun _ => Nat.le_of_ble_eq_true rfl)) (q_mnL (fun _ => Nat.le_of_ble_eq_true rfl) (q_mnL (fun _ => Nat.le_of_ble_eq_true rfl) (fun _ => Nat.le_of_ble_eq_true rfl)))) (q_mnL (q_mnL (fun _ => Nat.le_of_ble_eq_true rfl) (q_mnL (fun _ => Nat.le_of_ble_eq_true rfl) (fun _ => Nat.le_of_ble_eq_true rfl))) (q_mnL (fun _ => Nat.le_of_ble_eq_true rfl) (q_mnL (fun _ => Nat.le_of_ble_eq_true rfl) (fun _ => Nat.le_of_ble_eq_true rfl))))) (q_mnL (q_mnL (q_mnL (fun _ => Nat.le_of_ble_eq_true rfl) (q_mnL (fun _ => Nat.le_of_ble_eq_true rfl) (fun _ => Nat.le_of_ble_eq_true rfl))) (q_mnL (fun _ => Nat.le_of_ble_eq_true rfl) (q_mnL (fun _ => Nat.le_of_ble_eq_true rfl) (fun _ => Nat.le_of_ble_eq_true rfl)))) (q_mnL (q_mnL (fun _ => Nat.le_of_ble_eq_true rfl) (q_mnL (fun _ => Nat.le_of_ble_eq_true rfl) (fun _ => Nat.le_of_ble_eq_true rfl))) (q_mnL (fun _ => Nat.le_of_ble_eq_true rfl) (q_mnL (fun _ => Nat.le_of_ble_eq_true rfl) (fun _ => Nat.le_of_ble_eq_true rfl)))))) (q_mnL (q_mnL (q_mnL (q_mnL (fun _ => Nat.le_of_ble_eq_true rfl) (q_mnL (fun _ => Nat.le_of_ble_eq_true rfl) (fun _ => Nat.le_of_ble_eq_true rfl))) (q_mnL (fun _ => Nat.le_of_ble_eq_true rfl) (q_mnL (fun _ => Nat.le_of_ble_eq_true rfl) (fun _ => Nat.le_of_ble_eq_true rfl)))) (q_mnL (q_mnL (fun _ => Nat.le_of_ble_eq_true rfl) (q_mnL (fun _ => Nat.le_of_ble_eq_true rfl) (fun _ => Nat.le_of_ble_eq_true rfl))) (q_mnL (fun _ => Nat.le_of_ble_eq_true rfl) (q_mnL (fun _ => Nat.le_of_ble_eq_true rfl) (fun _ => Nat.le_of_ble_eq_true rfl))))) (q_mnL (q_mnL (q_mnL (fun _ => Nat.le_of_ble_eq_true rfl) (q_mnL (fun _ => Nat.le_of_ble_eq_true rfl) (fun _ => Nat.le_of_ble_eq_true rfl))) (q_mnL (fun _ => Nat.le_of_ble_eq_true rfl) (q_mnL (fun _ => Nat.le_of_ble_eq_true rfl) (fun _ => Nat.le_of_ble_eq_true rfl)))) (q_mnL (q_mnL (fun _ => Nat.le_of_ble_eq_true rfl) (q_mnL (fun _ => Nat.le_of_ble_eq_true rfl) (fun _ => Nat.le_of_ble_eq_true rfl))) (q_mnL (fun _ => Nat.le_of_ble_eq_true rfl) (q_mnL (fun _ => Nat.le_of_ble_eq_true rfl) (fun _ => Nat.le_of_ble_eq_true rfl))))))) (q_mnL (q_mnL (q_mnL (q_mnL (q_mnL (fun _ => Nat.le_of_ble_eq_true rfl) (q_mnL (fun _ => Nat.le_of_ble_eq_true rfl) (fun _ => Nat.le_of_ble_eq_true rfl))) (q_mnL (fun _ => Nat.le_of_ble_eq_true rfl) (q_mnL (fun _ => Nat.le_of_ble_eq_true rfl) (fun _ => Nat.le_of_ble_eq_true rfl)))) (q_mnL (q_mnL (fun _ => Nat.le_of_ble_eq_true rfl) (q_mnL (fun _ => Nat.le_of_ble_eq_true rfl) (fun _ => Nat.le_of_ble_eq_true rfl))) (q_mnL (fun _ => Nat.le_of_ble_eq_true rfl) (q_mnL (fun _ => Nat.le_of_ble_eq_true rfl) (fun _ => Nat.le_of_ble_eq_true rfl))))) (q_mnL (q_mnL (q_mnL (fun _ => Nat.le_of_ble_eq_true rfl) (q_mnL (fun _ => Nat.le_of_ble_eq_true rfl) (fun _ => Nat.le_of_ble_eq_true rfl))) (q_mnL (fun _ => Nat.le_of_ble_eq_true rfl) (q_mnL (fun _ => Nat.le_of_ble_eq_true rfl) (fun _ => Nat.le_of_ble_eq_true rfl)))) (q_mnL (q_mnL (fun _ => Nat.le_of_ble_eq_true rfl) (q_mnL (fun _ => Nat.le_of_ble_eq_true rfl) (fun _ => Nat.le_of_ble_eq_true rfl))) (q_mnL (fun _ => Nat.le_of_ble_eq_true rfl) (q_mnL (fun _ => Nat.le_of_ble_eq_true rfl) (fun _ => Nat.le_of_ble_eq_true rfl)))))) (q_mnL (q_mnL (q_mnL (q_mnL (fun _ => Nat.le_of_ble_eq_true rfl) (q_mnL (fun _ => Nat.le_of_ble_eq_true rfl) (fun _ => Nat.le_of_ble_eq_true rfl))) (q_mnL (fun _ => Nat.le_of_ble_eq_true rfl) (q_mnL (fun _ => Nat.le_of_ble_eq_true rfl) (fun _ => Nat.le_of_ble_eq_true rfl)))) (q_mnL (q_mnL (fun _ => Nat.le_of_ble_eq_true rfl) (q_mnL (fun _ => Nat.le_of_ble_eq_true rfl) (fun _ => Nat.le_of_ble_eq_true rfl))) (q_mnL (fun _ => Nat.le_of_ble_eq_true rfl) (q_mnL (fun _ => Nat.le_of_ble_eq_true rfl) (fun _ => Nat.le_of_ble_eq_true rfl))))) (q_mnL (q_mnL (q_mnL (fun _ => Nat.le_of_ble_eq_true rfl) (q_mnL (fun _ => Nat.le_of_ble_eq_true rfl) (fun _ => Nat.le_of_ble_eq_true rfl))) (q_mnL (fun _ => Nat.le_of_ble_eq_true rfl) (q_mnL (fun _ => Nat.le_of_ble_eq_true rfl) (fun _ => Nat.le_of_ble_eq_true rfl)))) (q_mnL (q_mnL (fun _ => Nat.le_of_ble_eq_true rfl) (q_mnL (fun _ => Nat.le_of_ble_eq_true rfl) (fun _ => Nat.le_of_ble_eq_true rfl))) (q_mnL (fun _ => Nat.le_of_ble_eq_true rfl) (q_mnL (fun _ => Nat.le_of_ble_eq_true rfl) (fun _ => Nat.le_of_ble_eq_true rfl)))))))))
theorem q_mt_pl : ∀ j, plainName (q_mt j).1.cls = true := q_mnP (q_mnP (q_mnP (q_mnP (q_mnP (q_mnP (q_mnP (q_mnP (fun _ => rfl) (fun _ => rfl)) (q_mnP (fun _ => rfl) (q_mnP (fun _ => rfl) (fun _ => rfl)))) (q_mnP (q_mnP (fun _ => rfl) (q_mnP (fun _ => rfl) (fun _ => rfl))) (q_mnP (fun _ => rfl) (q_mnP (fun _ => rfl) (fun _ => rfl))))) (q_mnP (q_mnP (q_mnP (fun _ => rfl) (q_mnP (fun _ => rfl) (fun _ => rfl))) (q_mnP (fun _ => rfl) (q_mnP (fun _ => rfl) (fun _ => rfl)))) (q_mnP (q_mnP (fun _ => rfl) (q_mnP (fun _ => rfl) (fun _ => rfl))) (q_mnP (fun _ => rfl) (q_mnP (fun _ => rfl) (fun _ => rfl)))))) (q_mnP (q_mnP (q_mnP (q_mnP (fun _ => rfl) (q_mnP (fun _ => rfl) (fun _ => rfl))) (q_mnP (fun _ => rfl) (q_mnP (fun _ => rfl) (fun _ => rfl)))) (q_mnP (q_mnP (fun _ => rfl) (q_mnP (fun _ => rfl) (fun _ => rfl))) (q_mnP (fun _ => rfl) (q_mnP (fun _ => rfl) (fun _ => rfl))))) (q_mnP (q_mnP (q_mnP (fun _ => rfl) (q_mnP (fun _ => rfl) (fun _ => rfl))) (q_mnP (fun _ => rfl) (q_mnP (fun _ => rfl) (fun _ => rfl)))) (q_mnP (q_mnP (fun _ => rfl) (q_mnP (fun _ => rfl) (fun _ => rfl))) (q_mnP (fun _ => rfl) (q_mnP (fun _ => rfl) (fun _ => rfl))))))) (q_mnP (q_mnP (q_mnP (q_mnP (q_mnP (fun _ => rfl) (fun _ => rfl)) (q_mnP (fun _ => rfl) (q_mnP (fun _ => rfl) (fun _ => rfl)))) (q_mnP (q_mnP (fun _ => rfl) (q_mnP (fun _ => rfl) (fun _ => rfl))) (q_mnP (fun _ => rfl) (q_mnP (fun _ => rfl) (fun _ => rfl))))) (q_mnP (q_mnP (q_mnP (fun _ => rfl) (q_mnP (fun _ => rfl) (fun _ => rfl))) (q_mnP (fun _ => rfl) (q_mnP (fun _ => rfl) (fun _ => rfl)))) (q_mnP (q_mnP (fun _ => rfl) (q_mnP (fun _ => rfl) (fun _ => rfl))) (q_mnP (fun _ => rfl) (q_mnP (fun _ => rfl) (fun _ => rfl)))))) (q_mnP (q_mnP (q_mnP (q_mnP (fun _ => rfl) (q_mnP (fun _ => rfl) (fun _ => rfl))) (q_mnP (fun _ => rfl) (q_mnP (fun _ => rfl) (fun _ => rfl)))) (q_mnP (q_mnP (fun _ => rfl) (q_mnP (fun _ => rfl) (fun _ => rfl))) (q_mnP (fun _ => rfl) (q_mnP (fun _ => rfl) (fun _ => rfl))))) (q_mnP (q_mnP (q_mnP (fun _ => rfl) (q_mnP (fun _ => rfl) (fun _ => rfl))) (q_mnP (fun _ => rfl) (q_mnP (fun _ => rfl) (fun _ => rfl)))) (q_mnP (q_mnP (fun _ => rfl) (q_mnP (fun _ => rfl) (fun _ => rfl))) (q_mnP (fun _ => rfl) (q_mnP (fun _ => rfl) (fun _ => rfl)))))))) (q_mnP (q_mnP (q_mnP (q_mnP (q_mnP (q_mnP (fun _ => rfl) (fun _ => rfl)) (q_mnP (fun _ => rfl) (q_mnP (fun _ => rfl) (fun _ => rfl)))) (q_mnP (q_mnP (fun _ => rfl) (q_mnP (fun _ => rfl) (fun _ => rfl))) (q_mnP (fun _ => rfl) (q_mnP (fun _ => rfl) (fun _ => rfl))))) (q_mnP (q_mnP (q_mnP (fun _ => rfl) (q_mnP (fun _ => rfl) (fun _ => rfl))) (q_mnP (fun _ => rfl) (q_mnP (fun _ => rfl) (fun _ => rfl)))) (q_mnP (q_mnP (fun _ => rfl) (q_mnP (fun _ => rfl) (fun _ => rfl))) (q_mnP (fun _ => rfl) (q_mnP (fun _ => rfl) (fun _ => rfl)))))) (q_mnP (q_mnP (q_mnP (q_mnP (fun _ => rfl) (q_mnP (fun _ => rfl) (fun _ => rfl))) (q_mnP (fun _ => rfl) (q_mnP (fun _ => rfl) (fun _ => rfl)))) (q_mnP (q_mnP (fun _ => rfl) (q_mnP (fun _ => rfl) (fun _ => rfl))) (q_mnP (fun _ => rfl) (q_mnP (fun _ => rfl) (fun _ => rfl))))) (q_mnP (q_mnP (q_mnP (fun _ => rfl) (q_mnP (fun _ => rfl) (fun _ => rfl))) (q_mnP (fun _ => rfl) (q_mnP (fun _ => rfl) (fun _ => rfl)))) (q_mnP (q_mnP (fun _ => rfl) (q_mnP (fun _ => rfl) (fun _ => rfl))) (q_mnP (fun _ => rfl) (q_mnP (fun _ => rfl) (fun _ => rfl))))))) (q_mnP (q_mnP (q_mnP (q_mnP (q_mnP (fun _ => rfl) (fun _ => rfl)) (q_mnP (fun _ => rfl) (q_mnP (fun _ => rfl) (fun _ => rfl)))) (q_mnP (q_mnP (fun _ => rfl) (q_mnP (fun _ => rfl) (fun _ => rfl))) (q_mnP (fun _ => rfl) (q_mnP (fun _ => rfl) (fun _ => rfl))))) (q_mnP (q_mnP (q_mnP (fun _ => rfl) (q_mnP (fun _ => rfl) (fun _ => rfl))) (q_mnP (fun _ => rfl) (q_mnP (fun _ => rfl) (fun _ => rfl)))) (q_mnP (q_mnP (fun _ => rfl) (q_mnP (fun _ => rfl) (fun _ => rfl))) (q_mnP (fun _ => rfl) (q_mnP (fun _ => rfl) (fun _ => rfl)))))) (q_mnP (q_mnP (q_mnP (q_mnP (fun _ => rfl) (q_mnP (fun _ => rfl) (fun _ => rfl))) (q_mnP (fun _ => rfl) (q_mnP (fun _ => rfl) (fun _ => rfl)))) (q_mnP (q_mnP (fun _ => rfl) (q_mnP (fun _ => rfl) (fun _ => rfl))) (q_mnP (fun _ => rfl) (q_mnP (fun _ => rfl) (fun _ => rfl))))) (q_mnP (q_mnP (q_mnP (fun _ => rfl) (q_mnP (fun _ => rfl) (fun _ => rfl))) (q_mnP (fun _ => rfl) (q_mnP (fun _ => rfl) (fun _ => rfl)))) (q_mnP (q_mnP (fun _ => rfl) (q_mnP (fun _ => rfl) (fun _ => rfl))) (q_mnP (fun _ => rfl) (q_mnP (fun _ => rfl) (fun _ => rfl))))))))) (q_mnP (q_mnP (q_mnP (q_mnP (q_mnP (q_mnP (q_mnP (fun _ => rfl) (fun _ => rfl)) (q_mnP (fun _ => rfl) (q_mnP (fun _ => rfl) (fun _ => rfl)))) (q_mnP (q_mnP (fun _ => rfl) (q_mnP (fun _ => rfl) (fun _ => rfl))) (q_mnP (fun _ => rfl) (q_mnP (fun _ => rfl) (fun _ => rfl))))) (q_mnP (q_mnP (q_mnP (fun _ => rfl) (q_mnP (fun _ => rfl) (fun _ => rfl))) (q_mnP (fun _ => rfl) (q_mnP (fun _ => rfl) (fun _ => rfl)))) (q_mnP (q_mnP (fun _ => rfl) (q_mnP (fun _ => rfl) (fun _ => rfl))) (q_mnP (fun _ => rfl) (q_mnP (fun _ => rfl) (fun _ => rfl)))))) (q_mnP (q_mnP (q_mnP (q_mnP (fun _ => rfl) (q_mnP (fun _ => rfl) (fun _ => rfl))) (q_mnP (fun _ => rfl) (q_mnP (fun _ => rfl) (fun _ => rfl)))) (q_mnP (q_mnP (fun _ => rfl) (q_mnP (fun _ => rfl) (fun _ => rfl))) (q_mnP (fun _ => rfl) (q_mnP (fun _ => rfl) (fun _ => rfl))))) (q_mnP (q_mnP (q_mnP (fun _ => rfl) (q_mnP (fun _ => rfl) (fun _ => rfl))) (q_mnP (fun _ => rfl) (q_mnP (fun _ => rfl) (fun _ => rfl)))) (q_mnP (q_mnP (fun _ => rfl) (q_mnP (fun _ => rfl) (fun _ => rfl))) (q_mnP (fun _ => rfl) (q_mnP (fun _ => rfl) (fun _ => rfl))))))) (q_mnP (q_mnP (q_mnP (q_mnP (q_mnP (fun _ => rfl) (fun _ => rfl)) (q_mnP (fun _ => rfl) (q_mnP (fun _ => rfl) (fun _ => rfl)))) (q_mnP (q_mnP (fun _ => rfl) (q_mnP (fun _ => rfl) (fun _ => rfl))) (q_mnP (fun _ => rfl) (q_mnP (fun _ => rfl) (fun _ => rfl))))) (q_mnP (q_mnP (q_mnP (fun _ => rfl) (q_mnP (fun _ => rfl) (fun _ => rfl))) (q_mnP (fun _ => rfl) (q_mnP (fun _ => rfl) (fun _ => rfl)))) (q_mnP (q_mnP (fun _ => rfl) (q_mnP (fun _ => rfl) (fun _ => rfl))) (q_mnP (fun _ => rfl) (q_mnP (fun _ => rfl) (fun _ => rfl)))))) (q_mnP (q_mnP (q_mnP (q_mnP (fun _ => rfl) (q_mnP (fun _ => rfl) (fun _ => rfl))) (q_mnP (fun _ => rfl) (q_mnP (fun _ => rfl) (fun _ => rfl)))) (q_mnP (q_mnP (fun _ => rfl) (q_mnP (fun _ => rfl) (fun _ => rfl))) (q_mnP (fun _ => rfl) (q_mnP (fun _ => rfl) (fun _ => rfl))))) (q_mnP (q_mnP (q_mnP (fun _ => rfl) (q_mnP (fun _ => rfl) (fun _ => rfl))) (q_mnP (fun _ => rfl) (q_mnP (fun _ => rfl) (fun _ => rfl)))) (q_mnP (q_mnP (fun _ => rfl) (q_mnP (fun _ => rfl) (fun _ => rfl))) (q_mnP (fun _ => rfl) (q_mnP (fun _ => rfl) (fun _ => rfl)))))))) (q_mnP (q_mnP (q_mnP (q_mnP (q_mnP (q_mnP (fun _ => rfl) (fun _ => rfl)) (q_mnP (fun _ => rfl) (q_mnP (fun _ => rfl) (fun _ => rfl)))) (q_mnP (q_mnP (fun _ => rfl) (q_mnP (fun _ => rfl) (fun _ => rfl))) (q_mnP (fun _ => rfl) (q_mnP (fun _ => rfl) (fun _ => rfl))))) (q_mnP (q_mnP (q_mnP (fun _ => rfl) (q_mnP (fun _ => rfl) (fun _ => rfl))) (q_mnP (fun _ => rfl) (q_mnP (fun _ => rfl) (fun _ => rfl)))) (q_mnP (q_mnP (fun _ => rfl) (q_mnP (fun _ => rfl) (fun _ => rfl))) (q_mnP (fun _ => rfl) (q_mnP (fun _ => rfl) (fun _ => rfl)))))) (q_mnP (q_mnP (q_mnP (q_mnP (fun _ => rfl) (q_mnP (fun _ => rfl) (fun _ => rfl))) (q_mnP (fun _ => rfl) (q_mnP (fun _ => rfl) (fun _ => rfl)))) (q_mnP (q_mnP (fun _ => rfl) (q_mnP (fun _ => rfl) (fun _ => rfl))) (q_mnP (fun _ => rfl) (q_mnP (fun _ => rfl) (fun _ => rfl))))) (q_mnP (q_mnP (q_mnP (fun _ => rfl) (q_mnP (fun _ => rfl) (fun _ => rfl))) (q_mnP (fun _ => rfl) (q_mnP (fun _ => rfl) (fun _ => rfl)))) (q_mnP (q_mnP (fun _ => rfl) (q_mnP (fun _ => rfl) (fun _ => rfl))) (q_mnP (fun _ => rfl) (q_mnP (fun _ => rfl) (fun _ => rfl))))))) (q_mnP (q_mnP (q_mnP (q_mnP (q_mnP (fun _ => rfl) (q_mnP (fun _ => rfl) (fun _ => rfl))) (q_mnP (fun _ => rfl) (q_mnP (fun _ => rfl) (fun _ => rfl)))) (q_mnP (q_mnP (fun _ => rfl) (q_mnP (fun _ => rfl) (fun _ => rfl))) (q_mnP (fun _ => rfl) (q_mnP (fun _ => rfl) (fun _ => rfl))))) (q_mnP (q_mnP (q_mnP (fun _ => rfl) (q_mnP (fun _ => rfl) (fun _ => rfl))) (q_mnP (fun _ => rfl) (q_mnP (fun _ => rfl) (fun _ => rfl)))) (q_mnP (q_mnP (fun _ => rfl) (q_mnP (fun _ => rfl) (fun _ => rfl))) (q_mnP (fun _ => rfl) (q_mnP (fun _ => rfl) (fun _ => rfl)))))) (q_mnP (q_mnP (q_mnP (q_mnP (fun _ => rfl) (q_mnP (fun _ => rfl) (fun _ => rfl))) (q_mnP (fun _ => rfl) (q_mnP (fun _ => rfl) (fun _ => rfl)))) (q_mnP (q_mnP (fun _ => rfl) (q_mnP (fun _ => rfl) (fun _ => rfl))) (q_mnP (fun _ => rfl) (q_mnP (fun _ => rfl) (fun _ => rfl))))) (q_mnP (q_mnP (q_mnP (fun _ => rfl) (q_mnP (fun _ => rfl) (fun _ => rfl))) (q_mnP (fun _ => rfl) (q_mnP (fun _ => rfl) (fun _ => rfl)))) (q_mnP (q_mnP (fun _ => rfl) (q_mnP (fun _ => rfl) (fun _ => rfl))) (q_mnP (fun _ => rfl) (q_mnP (fun _ => rfl) (fun _ => rfl)))))))))
theorem qk_bm100 : (Int8.ofInt (-100)).toInt32 = (-100) := by decide +kernel
theorem qk_bm10 : (Int8.ofInt (-10)).toInt32 = (-10) := by decide +kernel
theorem qk_bm9 : (Int8.ofInt (-9)).toInt32 = (-9) := by decide +kernel
theorem qk_b6 : (Int8.ofInt 6).toInt32 = 6 := by decide +kernel
theorem qk_b7 : (Int8.ofInt 7).toInt32 = 7 := by decide +kernel
theorem qk_b8 : (Int8.ofInt 8).toInt32 = 8 := by decide +kernel
theorem qk_b9 : (Int8.ofInt 9).toInt32 = 9 := by decide +kernel
theorem qk_b10 : (Int8.ofInt 10).toInt32 = 10 := by decide +kernel
theorem qk_b11 : (Int8.ofInt 11).toInt32 = 11 := by decide +kernel
theorem qk_b12 : (Int8.ofInt 12).toInt32 = 12 := by decide +kernel
theorem qk_b13 : (Int8.ofInt 13).toInt32 = 13 := by decide +kernel
theorem qk_b14 : (Int8.ofInt 14).toInt32 = 14 := by decide +kernel
theorem qk_b15 : (Int8.ofInt 15).toInt32 = 15 := by decide +kernel
theorem qk_b16 : (Int8.ofInt 16).toInt32 = 16 := by decide +kernel
theorem qk_b17 : (Int8.ofInt 17).toInt32 = 17 := by decide +kernel
theorem qk_b18 : (Int8.ofInt 18).toInt32 = 18 := by decide +kernel
theorem qk_b19 : (Int8.ofInt 19).toInt32 = 19 := by decide +kernel
theorem qk_b20 : (Int8.ofInt 20).toInt32 = 20 := by decide +kernel
theorem qk_b21 : (Int8.ofInt 21).toInt32 = 21 := by decide +kernel
theorem qk_b23 : (Int8.ofInt 23).toInt32 = 23 := by decide +kernel
theorem qk_b24 : (Int8.ofInt 24).toInt32 = 24 := by decide +kernel
theorem qk_b27 : (Int8.ofInt 27).toInt32 = 27 := by decide +kernel
theorem qk_b28 : (Int8.ofInt 28).toInt32 = 28 := by decide +kernel
theorem qk_b29 : (Int8.ofInt 29).toInt32 = 29 := by decide +kernel
theorem qk_b30 : (Int8.ofInt 30).toInt32 = 30 := by decide +kernel
theorem qk_b31 : (Int8.ofInt 31).toInt32 = 31 := by decide +kernel
theorem qk_b32 : (Int8.ofInt 32).toInt32 = 32 := by decide +kernel
theorem qk_b34 : (Int8.ofInt 34).toInt32 = 34 := by decide +kernel
theorem qk_b35 : (Int8.ofInt 35).toInt32 = 35 := by decide +kernel
theorem qk_b39 : (Int8.ofInt 39).toInt32 = 39 := by decide +kernel
theorem qk_b40 : (Int8.ofInt 40).toInt32 = 40 := by decide +kernel
theorem qk_b41 : (Int8.ofInt 41).toInt32 = 41 := by decide +kernel
theorem qk_b43 : (Int8.ofInt 43).toInt32 = 43 := by decide +kernel
theorem qk_b44 : (Int8.ofInt 44).toInt32 = 44 := by decide +kernel
theorem qk_b45 : (Int8.ofInt 45).toInt32 = 45 := by decide +kernel
theorem qk_b48 : (Int8.ofInt 48).toInt32 = 48 := by decide +kernel
theorem qk_b63 : (Int8.ofInt 63).toInt32 = 63 := by decide +kernel
theorem qk_b64 : (Int8.ofInt 64).toInt32 = 64 := by decide +kernel
theorem qk_b72 : (Int8.ofInt 72).toInt32 = 72 := by decide +kernel
theorem qk_b97 : (Int8.ofInt 97).toInt32 = 97 := by decide +kernel
theorem qk_b100 : (Int8.ofInt 100).toInt32 = 100 := by decide +kernel
theorem qk_b106 : (Int8.ofInt 106).toInt32 = 106 := by decide +kernel
theorem qk_b108 : (Int8.ofInt 108).toInt32 = 108 := by decide +kernel
theorem qk_b109 : (Int8.ofInt 109).toInt32 = 109 := by decide +kernel
theorem qk_b110 : (Int8.ofInt 110).toInt32 = 110 := by decide +kernel
theorem qk_b117 : (Int8.ofInt 117).toInt32 = 117 := by decide +kernel
theorem qk_b120 : (Int8.ofInt 120).toInt32 = 120 := by decide +kernel
theorem qk_b121 : (Int8.ofInt 121).toInt32 = 121 := by decide +kernel
theorem qk_b127 : (Int8.ofInt 127).toInt32 = 127 := by decide +kernel
theorem qk_im10 : Int32.ofInt (-10) = (-10) := by decide +kernel
theorem qk_im1 : Int32.ofInt (-1) = (-1) := by decide +kernel
theorem qk_i0 : Int32.ofInt 0 = 0 := by decide +kernel
theorem qk_i1 : Int32.ofInt 1 = 1 := by decide +kernel
theorem qk_i2 : Int32.ofInt 2 = 2 := by decide +kernel
theorem qk_i3 : Int32.ofInt 3 = 3 := by decide +kernel
theorem qk_i4 : Int32.ofInt 4 = 4 := by decide +kernel
theorem qk_i5 : Int32.ofInt 5 = 5 := by decide +kernel
theorem qk_i10 : Int32.ofInt 10 = 10 := by decide +kernel
theorem qk_sm131 : (Int16.ofInt (-131)).toInt32 = (-131) := by decide +kernel
theorem qk_s128 : (Int16.ofInt 128).toInt32 = 128 := by decide +kernel
theorem qk_s137 : (Int16.ofInt 137).toInt32 = 137 := by decide +kernel
theorem qk_s138 : (Int16.ofInt 138).toInt32 = 138 := by decide +kernel
theorem qk_s139 : (Int16.ofInt 139).toInt32 = 139 := by decide +kernel
theorem qk_s140 : (Int16.ofInt 140).toInt32 = 140 := by decide +kernel
theorem qk_s141 : (Int16.ofInt 141).toInt32 = 141 := by decide +kernel
theorem qk_s142 : (Int16.ofInt 142).toInt32 = 142 := by decide +kernel
theorem qk_s144 : (Int16.ofInt 144).toInt32 = 144 := by decide +kernel
theorem qk_s148 : (Int16.ofInt 148).toInt32 = 148 := by decide +kernel
theorem qk_s150 : (Int16.ofInt 150).toInt32 = 150 := by decide +kernel
theorem qk_s151 : (Int16.ofInt 151).toInt32 = 151 := by decide +kernel
theorem qk_s152 : (Int16.ofInt 152).toInt32 = 152 := by decide +kernel
theorem qk_s154 : (Int16.ofInt 154).toInt32 = 154 := by decide +kernel
theorem qk_s155 : (Int16.ofInt 155).toInt32 = 155 := by decide +kernel
theorem qk_s156 : (Int16.ofInt 156).toInt32 = 156 := by decide +kernel
theorem qk_s157 : (Int16.ofInt 157).toInt32 = 157 := by decide +kernel
theorem qk_s158 : (Int16.ofInt 158).toInt32 = 158 := by decide +kernel
theorem qk_s159 : (Int16.ofInt 159).toInt32 = 159 := by decide +kernel
theorem qk_s160 : (Int16.ofInt 160).toInt32 = 160 := by decide +kernel
theorem qk_s161 : (Int16.ofInt 161).toInt32 = 161 := by decide +kernel
theorem qk_s162 : (Int16.ofInt 162).toInt32 = 162 := by decide +kernel
theorem qk_s163 : (Int16.ofInt 163).toInt32 = 163 := by decide +kernel
theorem qk_s164 : (Int16.ofInt 164).toInt32 = 164 := by decide +kernel
theorem qk_s165 : (Int16.ofInt 165).toInt32 = 165 := by decide +kernel
theorem qk_s166 : (Int16.ofInt 166).toInt32 = 166 := by decide +kernel
theorem qk_s167 : (Int16.ofInt 167).toInt32 = 167 := by decide +kernel
theorem qk_s192 : (Int16.ofInt 192).toInt32 = 192 := by decide +kernel
theorem qk_s200 : (Int16.ofInt 200).toInt32 = 200 := by decide +kernel
theorem qk_s207 : (Int16.ofInt 207).toInt32 = 207 := by decide +kernel
theorem qk_s231 : (Int16.ofInt 231).toInt32 = 231 := by decide +kernel
theorem qk_s255 : (Int16.ofInt 255).toInt32 = 255 := by decide +kernel
theorem qk_s256 : (Int16.ofInt 256).toInt32 = 256 := by decide +kernel
theorem qk_s511 : (Int16.ofInt 511).toInt32 = 511 := by decide +kernel
theorem qk_s512 : (Int16.ofInt 512).toInt32 = 512 := by decide +kernel
theorem qk_s999 : (Int16.ofInt 999).toInt32 = 999 := by decide +kernel
theorem qk_s1000 : (Int16.ofInt 1000).toInt32 = 1000 := by decide +kernel
theorem qk_s1023 : (Int16.ofInt 1023).toInt32 = 1023 := by decide +kernel
theorem qk_s1024 : (Int16.ofInt 1024).toInt32 = 1024 := by decide +kernel
theorem qk_s1536 : (Int16.ofInt 1536).toInt32 = 1536 := by decide +kernel
theorem qk_s2047 : (Int16.ofInt 2047).toInt32 = 2047 := by decide +kernel
theorem qk_s2048 : (Int16.ofInt 2048).toInt32 = 2048 := by decide +kernel
theorem qk_s2559 : (Int16.ofInt 2559).toInt32 = 2559 := by decide +kernel
theorem qk_s2560 : (Int16.ofInt 2560).toInt32 = 2560 := by decide +kernel
theorem qk_s3072 : (Int16.ofInt 3072).toInt32 = 3072 := by decide +kernel
theorem qk_s3583 : (Int16.ofInt 3583).toInt32 = 3583 := by decide +kernel
theorem qk_s3584 : (Int16.ofInt 3584).toInt32 = 3584 := by decide +kernel
theorem qk_s3834 : (Int16.ofInt 3834).toInt32 = 3834 := by decide +kernel
theorem qk_s3836 : (Int16.ofInt 3836).toInt32 = 3836 := by decide +kernel
theorem qk_s3838 : (Int16.ofInt 3838).toInt32 = 3838 := by decide +kernel
theorem qk_s3840 : (Int16.ofInt 3840).toInt32 = 3840 := by decide +kernel
theorem qk_s3850 : (Int16.ofInt 3850).toInt32 = 3850 := by decide +kernel
theorem qk_s3856 : (Int16.ofInt 3856).toInt32 = 3856 := by decide +kernel
theorem qk_s3869 : (Int16.ofInt 3869).toInt32 = 3869 := by decide +kernel
theorem qk_s3870 : (Int16.ofInt 3870).toInt32 = 3870 := by decide +kernel
theorem qk_s3887 : (Int16.ofInt 3887).toInt32 = 3887 := by decide +kernel
theorem qk_s4095 : (Int16.ofInt 4095).toInt32 = 4095 := by decide +kernel
theorem qk_s4096 : (Int16.ofInt 4096).toInt32 = 4096 := by decide +kernel
theorem qk_s6144 : (Int16.ofInt 6144).toInt32 = 6144 := by decide +kernel
theorem qk_s8191 : (Int16.ofInt 8191).toInt32 = 8191 := by decide +kernel
theorem qk_s12288 : (Int16.ofInt 12288).toInt32 = 12288 := by decide +kernel
theorem qk_s16384 : (Int16.ofInt 16384).toInt32 = 16384 := by decide +kernel
theorem qk_l0 : Int64.ofNat ((0 : Fin 2) : Nat) = 0 := by decide +kernel
theorem qk_l1 : Int64.ofNat ((1 : Fin 2) : Nat) = 1 := by decide +kernel
def q_vS (TB : Nat → Option (Nat × Nat × (Nat → Int32))) : Value := match TB 9 with
  | none => .null
  | some x => cond (Nat.beq x.1 99) (.ref 9) .null
theorem q_vS_ok {TB : Nat → Option (Nat × Nat × (Nat → Int32))} : ∀ a, q_vS TB = .ref a → a < 64 := by
  intro a h
  unfold q_vS at h
  split at h
  · cases h
  · rename_i x _
    cases hb : Nat.beq x.1 99 with
    | true => rw [hb] at h; cases h; exact Nat.le_of_ble_eq_true rfl
    | false => rw [hb] at h; cases h
def q_fvS (TB : Nat → Option (Nat × Nat × (Nat → Int32))) (_ : q_L) (st : List Value) : Option (List Value) := match TB 9 with
  | none => none
  | some x => some (cond (Nat.beq x.1 99) (.ref 9) .null :: st)
theorem q_fvS_J {WU : List Cond} {cl : List vw_C} {tyl : List FieldType} {GF : (Nat → Prop) → State → Heap → Prop} {τ : Nat → Nat} {own mname : String} {cc : ByteArray} {nL pc nx : Nat} {TB : Nat → Option (Nat × Nat × (Nat → Int32))} (h : q_J WU cl tyl GF τ own mname cc nL pc (q_st nx (q_fk (q_vS TB)))) : q_J WU cl tyl GF τ own mname cc nL pc (q_st nx (q_fvS TB)) := by
  intro g g' h1 h2
  refine h g g' h1 ?_
  unfold q_st q_fvS at h2
  unfold q_st q_fk q_vS
  dsimp only at h2 ⊢
  cases hT : TB 9 with
  | none => rw [hT] at h2; cases h2
  | some x => rw [hT] at h2; exact h2
abbrev q_tyl : List FieldType := [.int, .boolean, .long, .char, .byte, .object "Rasterbox$Machine"]
abbrev q_NWn : List Cond := [.methodLinkNest RX11 9 ⟨"Rasterbox$Machine", "<init>", "()V"⟩ "Rasterbox", .methodLinkNest RX4 11 ⟨"Rasterbox$Board", "<init>", "()V"⟩ "Rasterbox", .methodLinkNest RX0 11 ⟨"Rasterbox$Scene", "<init>", "()V"⟩ "Rasterbox", .methodLinkNest RX0 30 ⟨"Rasterbox$Tape", "<init>", "()V"⟩ "Rasterbox", .methodLinkNest RX0 37 ⟨"Rasterbox$Keys", "<init>", "()V"⟩ "Rasterbox", .methodLinkNest RX0 44 ⟨"Rasterbox$Frame", "<init>", "()V"⟩ "Rasterbox", .methodLinkNest RX2 11 ⟨"Rasterbox$Scene", "<init>", "()V"⟩ "Rasterbox", .methodLinkNest RX4 20 ⟨"Rasterbox$Processor", "<init>", "()V"⟩ "Rasterbox", .methodLinkNest RX4 27 ⟨"Rasterbox$Voices", "<init>", "()V"⟩ "Rasterbox", .methodLinkNest RX11 22 ⟨"Rasterbox$Recording", "<init>", "()V"⟩ "Rasterbox", .methodLinkNest RX7 11 ⟨"Rasterbox$Machine", "<init>", "()V"⟩ "Rasterbox", .methodLinkNest RX11 36 ⟨"Rasterbox$Scene", "<init>", "()V"⟩ "Rasterbox"]
abbrev q_exn : List String := ["java/lang/RuntimeException", "java/lang/Exception"]
def q_NW0 : List Cond := (vx_atS RX11 252 "java/lang/IndexOutOfBoundsException" q_exn).filter (fun w => !goodWord w)
def q_NW1 : List Cond := (vx_atS RX11 257 "java/lang/IllegalArgumentException" q_exn).filter (fun w => !goodWord w)
def q_NW2 : List Cond := (vx_atS RX11 117 "java/lang/IllegalStateException" q_exn).filter (fun w => !goodWord w)
def q_bsN : ByteArray := ⟨#[0x2a, 0x2b, 0xb7, 0x00, 0x0d, 0xb1]⟩
def q_NW3 : List Cond := (q_atN RX11 205 "java/util/NoSuchElementException" 13 q_bsN "java/lang/RuntimeException" ["java/lang/Exception"]).filter (fun w => !goodWord w)
def q_NW : List Cond := q_NWn ++ (q_NW0 ++ (q_NW1 ++ (q_NW2 ++ (([.castable "java/util/NoSuchElementException" "java/util/NoSuchElementException"]) ++ q_NW3))))
theorem q_NW_ok : ∀ w ∈ q_NW, q_nw w = true := by decide +kernel
theorem q_th0_a : ∀ w ∈ (vx_atS RX11 252 "java/lang/IndexOutOfBoundsException" q_exn).filter goodWord, w ∈ q_WU := fun w hw => q_WU_of w ((show ∀ w ∈ (vx_atS RX11 252 "java/lang/IndexOutOfBoundsException" q_exn).filter goodWord, w ∈ lw_tbl by decide +kernel) w hw) (List.mem_filter.mp hw).2
theorem q_th0_b : ∀ w ∈ (vx_atS RX11 252 "java/lang/IndexOutOfBoundsException" q_exn).filter (fun w => !goodWord w), w ∈ q_NW := fun w hw => List.mem_append_right _ (List.mem_append_left _ hw)
theorem q_th0_c : ∀ w ∈ Cond.classLink RX11 248 "java/lang/IndexOutOfBoundsException" :: Cond.initialized "java/lang/IndexOutOfBoundsException" :: vx_atS RX11 252 "java/lang/IndexOutOfBoundsException" q_exn, vx_ot w = true := by decide +kernel
theorem q_th0_d : ∀ w ∈ (vx_atS RX11 252 "java/lang/IndexOutOfBoundsException" q_exn).filter (fun w => !goodWord w), w.onTables = true := by decide +kernel
theorem q_cast0 : Cond.castable "java/lang/IndexOutOfBoundsException" "java/lang/IndexOutOfBoundsException" ∈ q_NW := q_th0_b _ (by decide +kernel)
theorem q_th1_a : ∀ w ∈ (vx_atS RX11 257 "java/lang/IllegalArgumentException" q_exn).filter goodWord, w ∈ q_WU := fun w hw => q_WU_of w ((show ∀ w ∈ (vx_atS RX11 257 "java/lang/IllegalArgumentException" q_exn).filter goodWord, w ∈ lw_tbl by decide +kernel) w hw) (List.mem_filter.mp hw).2
theorem q_th1_b : ∀ w ∈ (vx_atS RX11 257 "java/lang/IllegalArgumentException" q_exn).filter (fun w => !goodWord w), w ∈ q_NW := fun w hw => List.mem_append_right _ (List.mem_append_right _ (List.mem_append_left _ hw))
theorem q_th1_c : ∀ w ∈ Cond.classLink RX11 253 "java/lang/IllegalArgumentException" :: Cond.initialized "java/lang/IllegalArgumentException" :: vx_atS RX11 257 "java/lang/IllegalArgumentException" q_exn, vx_ot w = true := by decide +kernel
theorem q_th1_d : ∀ w ∈ (vx_atS RX11 257 "java/lang/IllegalArgumentException" q_exn).filter (fun w => !goodWord w), w.onTables = true := by decide +kernel
theorem q_cast1 : Cond.castable "java/lang/IllegalArgumentException" "java/lang/IllegalArgumentException" ∈ q_NW := q_th1_b _ (by decide +kernel)
theorem q_th2_a : ∀ w ∈ (vx_atS RX11 117 "java/lang/IllegalStateException" q_exn).filter goodWord, w ∈ q_WU := fun w hw => q_WU_of w ((show ∀ w ∈ (vx_atS RX11 117 "java/lang/IllegalStateException" q_exn).filter goodWord, w ∈ lw_tbl by decide +kernel) w hw) (List.mem_filter.mp hw).2
theorem q_th2_b : ∀ w ∈ (vx_atS RX11 117 "java/lang/IllegalStateException" q_exn).filter (fun w => !goodWord w), w ∈ q_NW := fun w hw => List.mem_append_right _ (List.mem_append_right _ (List.mem_append_right _ (List.mem_append_left _ hw)))
theorem q_th2_c : ∀ w ∈ Cond.classLink RX11 113 "java/lang/IllegalStateException" :: Cond.initialized "java/lang/IllegalStateException" :: vx_atS RX11 117 "java/lang/IllegalStateException" q_exn, vx_ot w = true := by decide +kernel
theorem q_th2_d : ∀ w ∈ (vx_atS RX11 117 "java/lang/IllegalStateException" q_exn).filter (fun w => !goodWord w), w.onTables = true := by decide +kernel
theorem q_cast2 : Cond.castable "java/lang/IllegalStateException" "java/lang/IllegalStateException" ∈ q_NW := q_th2_b _ (by decide +kernel)
theorem q_cast3 : Cond.castable "java/util/NoSuchElementException" "java/util/NoSuchElementException" ∈ q_NW := List.mem_append_right _ (List.mem_append_right _ (List.mem_append_right _ (List.mem_append_right _ (List.mem_append_left _ (List.mem_singleton.mpr rfl)))))
theorem q_th3_a : ∀ w ∈ (q_atN RX11 205 "java/util/NoSuchElementException" 13 q_bsN "java/lang/RuntimeException" ["java/lang/Exception"]).filter goodWord, w ∈ q_WU := fun w hw => q_WU_of w ((show ∀ w ∈ (q_atN RX11 205 "java/util/NoSuchElementException" 13 q_bsN "java/lang/RuntimeException" ["java/lang/Exception"]).filter goodWord, w ∈ lw_tbl by decide +kernel) w hw) (List.mem_filter.mp hw).2
theorem q_th3_b : ∀ w ∈ (q_atN RX11 205 "java/util/NoSuchElementException" 13 q_bsN "java/lang/RuntimeException" ["java/lang/Exception"]).filter (fun w => !goodWord w), w ∈ q_NW := fun w hw => List.mem_append_right _ (List.mem_append_right _ (List.mem_append_right _ (List.mem_append_right _ (List.mem_append_right _ hw))))
theorem q_th3_c : ∀ w ∈ Cond.classLink RX11 201 "java/util/NoSuchElementException" :: Cond.initialized "java/util/NoSuchElementException" :: (q_atN RX11 205 "java/util/NoSuchElementException" 13 q_bsN "java/lang/RuntimeException" ["java/lang/Exception"]), vx_ot w = true := by decide +kernel
theorem q_th3_d : ∀ w ∈ (q_atN RX11 205 "java/util/NoSuchElementException" 13 q_bsN "java/lang/RuntimeException" ["java/lang/Exception"]).filter (fun w => !goodWord w), w.onTables = true := by decide +kernel
abbrev q_NC : List (String × String) := [("java/lang/IllegalArgumentException", "java/lang/IndexOutOfBoundsException"), ("java/lang/IllegalStateException", "java/lang/IndexOutOfBoundsException"), ("java/lang/IllegalStateException", "java/lang/IllegalArgumentException")]
abbrev q_AO : List String := ["Rasterbox$Machine"]
abbrev q_SR : List (String × Nat × String × Nat) := [(RX11, 250, "no such index", 10), (RX11, 255, "out of range", 11), (RX1, 26, "ldaldxldystastxstyadcsbcandoraeorcmpcpxcpyincdeclaxsaxdcpiscbit", 12), (RX1, 28, "inxdexinydeytaxtxataytyatsxtxsphaplaphpplpsecclcsedcldseicliclvnopasllsrrolrorbrkrtirtsjmpjsrjmibnebeqbccbcsbplbmibvcbvs", 13), (RX1, 36, "jam", 14), (RX5, 60, ",x", 15), (RX5, 65, ",y", 16), (RX5, 67, "),y", 17), (RX5, 69, ",x)", 18), (RX11, 115, "an instruction or an interrupt is under way", 19), (RX11, 127, "the processor is jammed", 20), (RX11, 183, "the tape is full", 21), (RX11, 191, "there are 3 snapshots", 22), (RX11, 203, "no such snapshot", 23), (RX11, 217, "there is no record", 24)]
abbrev q_ZZ (TB : Nat → Option (Nat × Nat × (Nat → Int32))) : List (String × String × String × Value) := [("Rasterbox$Scene", "MASKS", "[I", .ref 1), ("Rasterbox$Codes", "MODE_CYCLES", "[I", .ref 2), ("Rasterbox$Codes", "SPECIAL_CYCLES", "[I", .ref 3), ("RasterboxModel", "NAMES", "[C", .ref 4), ("RasterboxModel", "OTHERS", "[C", .ref 5), ("java/lang/Integer", "DigitOnes", "[B", .ref 6), ("java/lang/Integer", "DigitTens", "[B", .ref 7), ("java/lang/String", "COMPACT_STRINGS", "Z", .int 1), ("java/lang/StringUTF16", "$assertionsDisabled", "Z", .int 1), ("java/lang/StringUTF16", "HI_BYTE_SHIFT", "I", .int 0), ("java/lang/StringUTF16", "LO_BYTE_SHIFT", "I", .int 8)] ++ [("jdk/internal/util/Preconditions", "SIOOBE_FORMATTER", "Ljava/util/function/BiFunction;", q_vS TB)]
abbrev q_SK : List Nat := [12, 13, 14, 15, 16, 17, 18]
abbrev q_SV : List (Nat × Value) := [(12, .ref 40), (13, .ref 41), (14, .ref 42), (15, .ref 43), (16, .ref 44), (17, .ref 45), (18, .ref 46)]
abbrev q_SC : List (Nat × Value) := [(12, .int 0), (13, .int 0), (14, .int 0), (15, .int 0), (16, .int 0), (17, .int 0), (18, .int 0)]
theorem q_SK_lo : ∀ x ∈ q_SK, x < 64 := by decide
theorem q_SV_lo : ∀ x ∈ q_SV, x.1 < 64 := fun x hx => of_decide_eq_true (List.all_eq_true.mp (show (q_SV.all fun x => decide (x.1 < 64)) = true from rfl) x hx)
theorem q_SC_lo : ∀ x ∈ q_SC, x.1 < 64 := fun x hx => of_decide_eq_true (List.all_eq_true.mp (show (q_SC.all fun x => decide (x.1 < 64)) = true from rfl) x hx)
def q_oklt (v : Value) : Bool := match v with | .ref a => decide (a < 64) | _ => true
theorem q_oklt_ok {t : List (Nat × Value)} (h : t.all (fun x => q_oklt x.2) = true) : ∀ x ∈ t, ∀ a, x.2 = .ref a → a < 64 := fun x hx a e => by have h2 : q_oklt x.2 = true := List.all_eq_true.mp h x hx; rw [e] at h2; exact of_decide_eq_true h2
theorem q_SV_ok : ∀ x ∈ q_SV, ∀ a, x.2 = .ref a → a < 64 := q_oklt_ok rfl
theorem q_SC_ok : ∀ x ∈ q_SC, ∀ a, x.2 = .ref a → a < 64 := q_oklt_ok rfl
def q_OB : List (String × String × String × Value × Nat) := q_SV.map (fun x => ("java/lang/String", "value", "[B", x.2, x.1)) ++ q_SC.map (fun x => ("java/lang/String", "coder", "B", x.2, x.1))
def q_OO : List (String × Nat) := q_SK.map fun k => ("java/lang/String", k)
theorem q_SV_in : ∀ x ∈ q_SV, ("java/lang/String", "value", "[B", x.2, x.1) ∈ q_OB := fun x hx => List.mem_append_left _ (List.mem_map.mpr ⟨x, hx, rfl⟩)
theorem q_SC_in : ∀ x ∈ q_SC, ("java/lang/String", "coder", "B", x.2, x.1) ∈ q_OB := fun x hx => List.mem_append_right _ (List.mem_map.mpr ⟨x, hx, rfl⟩)
abbrev q_gF (TB : Nat → Option (Nat × Nat × (Nat → Int32))) (τ : Nat → Nat) : (Nat → Prop) → State → Heap → Prop := q_gf9 q_NW q_NC q_AO q_SR (q_ZZ TB) q_OB q_OO q_tyl τ TB
theorem q_hTB {TB : Nat → Option (Nat × Nat × (Nat → Int32))} {τ : Nat → Nat} : q_TB TB q_tyl (q_gF TB τ) τ := fun a t n f ty A U H h1 h2 h => h.2.2.2.2.2.2.2.1 a t n f ty h1 h2
abbrev q_S9 (TB : Nat → Option (Nat × Nat × (Nat → Int32))) (τ : Nat → Nat) (M : q_M) (pc : Nat) (x : q_E) : Prop := q_Snd q_WU vwCl q_tyl (q_gF TB τ) τ q_mt M pc x
theorem q_sm_0 : (RX11, 250, "no such index", 10) ∈ q_SR := List.mem_cons_self
theorem q_sr0 {TB : Nat → Option (Nat × Nat × (Nat → Int32))} {τ : Nat → Nat} : ∀ A U H, q_gF TB τ A U H → vk_R RX11 250 "no such index" (τ 10) U := fun A U H h => h.2.2.2.1 (RX11, 250, "no such index", 10) q_sm_0
theorem q_sm_1 : (RX11, 255, "out of range", 11) ∈ q_SR := List.mem_cons_of_mem _ (List.mem_cons_self)
theorem q_sr1 {TB : Nat → Option (Nat × Nat × (Nat → Int32))} {τ : Nat → Nat} : ∀ A U H, q_gF TB τ A U H → vk_R RX11 255 "out of range" (τ 11) U := fun A U H h => h.2.2.2.1 (RX11, 255, "out of range", 11) q_sm_1
theorem q_sm_2 : (RX1, 26, "ldaldxldystastxstyadcsbcandoraeorcmpcpxcpyincdeclaxsaxdcpiscbit", 12) ∈ q_SR := List.mem_cons_of_mem _ (List.mem_cons_of_mem _ (List.mem_cons_self))
theorem q_sr2 {TB : Nat → Option (Nat × Nat × (Nat → Int32))} {τ : Nat → Nat} : ∀ A U H, q_gF TB τ A U H → vk_R RX1 26 "ldaldxldystastxstyadcsbcandoraeorcmpcpxcpyincdeclaxsaxdcpiscbit" (τ 12) U := fun A U H h => h.2.2.2.1 (RX1, 26, "ldaldxldystastxstyadcsbcandoraeorcmpcpxcpyincdeclaxsaxdcpiscbit", 12) q_sm_2
theorem q_sm_3 : (RX1, 28, "inxdexinydeytaxtxataytyatsxtxsphaplaphpplpsecclcsedcldseicliclvnopasllsrrolrorbrkrtirtsjmpjsrjmibnebeqbccbcsbplbmibvcbvs", 13) ∈ q_SR := List.mem_cons_of_mem _ (List.mem_cons_of_mem _ (List.mem_cons_of_mem _ (List.mem_cons_self)))
theorem q_sr3 {TB : Nat → Option (Nat × Nat × (Nat → Int32))} {τ : Nat → Nat} : ∀ A U H, q_gF TB τ A U H → vk_R RX1 28 "inxdexinydeytaxtxataytyatsxtxsphaplaphpplpsecclcsedcldseicliclvnopasllsrrolrorbrkrtirtsjmpjsrjmibnebeqbccbcsbplbmibvcbvs" (τ 13) U := fun A U H h => h.2.2.2.1 (RX1, 28, "inxdexinydeytaxtxataytyatsxtxsphaplaphpplpsecclcsedcldseicliclvnopasllsrrolrorbrkrtirtsjmpjsrjmibnebeqbccbcsbplbmibvcbvs", 13) q_sm_3
theorem q_sm_4 : (RX1, 36, "jam", 14) ∈ q_SR := List.mem_cons_of_mem _ (List.mem_cons_of_mem _ (List.mem_cons_of_mem _ (List.mem_cons_of_mem _ (List.mem_cons_self))))
theorem q_sr4 {TB : Nat → Option (Nat × Nat × (Nat → Int32))} {τ : Nat → Nat} : ∀ A U H, q_gF TB τ A U H → vk_R RX1 36 "jam" (τ 14) U := fun A U H h => h.2.2.2.1 (RX1, 36, "jam", 14) q_sm_4
theorem q_sm_5 : (RX5, 60, ",x", 15) ∈ q_SR := List.mem_cons_of_mem _ (List.mem_cons_of_mem _ (List.mem_cons_of_mem _ (List.mem_cons_of_mem _ (List.mem_cons_of_mem _ (List.mem_cons_self)))))
theorem q_sr5 {TB : Nat → Option (Nat × Nat × (Nat → Int32))} {τ : Nat → Nat} : ∀ A U H, q_gF TB τ A U H → vk_R RX5 60 ",x" (τ 15) U := fun A U H h => h.2.2.2.1 (RX5, 60, ",x", 15) q_sm_5
theorem q_sm_6 : (RX5, 65, ",y", 16) ∈ q_SR := List.mem_cons_of_mem _ (List.mem_cons_of_mem _ (List.mem_cons_of_mem _ (List.mem_cons_of_mem _ (List.mem_cons_of_mem _ (List.mem_cons_of_mem _ (List.mem_cons_self))))))
theorem q_sr6 {TB : Nat → Option (Nat × Nat × (Nat → Int32))} {τ : Nat → Nat} : ∀ A U H, q_gF TB τ A U H → vk_R RX5 65 ",y" (τ 16) U := fun A U H h => h.2.2.2.1 (RX5, 65, ",y", 16) q_sm_6
theorem q_sm_7 : (RX5, 67, "),y", 17) ∈ q_SR := List.mem_cons_of_mem _ (List.mem_cons_of_mem _ (List.mem_cons_of_mem _ (List.mem_cons_of_mem _ (List.mem_cons_of_mem _ (List.mem_cons_of_mem _ (List.mem_cons_of_mem _ (List.mem_cons_self)))))))
theorem q_sr7 {TB : Nat → Option (Nat × Nat × (Nat → Int32))} {τ : Nat → Nat} : ∀ A U H, q_gF TB τ A U H → vk_R RX5 67 "),y" (τ 17) U := fun A U H h => h.2.2.2.1 (RX5, 67, "),y", 17) q_sm_7
theorem q_sm_8 : (RX5, 69, ",x)", 18) ∈ q_SR := List.mem_cons_of_mem _ (List.mem_cons_of_mem _ (List.mem_cons_of_mem _ (List.mem_cons_of_mem _ (List.mem_cons_of_mem _ (List.mem_cons_of_mem _ (List.mem_cons_of_mem _ (List.mem_cons_of_mem _ (List.mem_cons_self))))))))
theorem q_sr8 {TB : Nat → Option (Nat × Nat × (Nat → Int32))} {τ : Nat → Nat} : ∀ A U H, q_gF TB τ A U H → vk_R RX5 69 ",x)" (τ 18) U := fun A U H h => h.2.2.2.1 (RX5, 69, ",x)", 18) q_sm_8
theorem q_sm_9 : (RX11, 115, "an instruction or an interrupt is under way", 19) ∈ q_SR := List.mem_cons_of_mem _ (List.mem_cons_of_mem _ (List.mem_cons_of_mem _ (List.mem_cons_of_mem _ (List.mem_cons_of_mem _ (List.mem_cons_of_mem _ (List.mem_cons_of_mem _ (List.mem_cons_of_mem _ (List.mem_cons_of_mem _ (List.mem_cons_self)))))))))
theorem q_sr9 {TB : Nat → Option (Nat × Nat × (Nat → Int32))} {τ : Nat → Nat} : ∀ A U H, q_gF TB τ A U H → vk_R RX11 115 "an instruction or an interrupt is under way" (τ 19) U := fun A U H h => h.2.2.2.1 (RX11, 115, "an instruction or an interrupt is under way", 19) q_sm_9
theorem q_sm_10 : (RX11, 127, "the processor is jammed", 20) ∈ q_SR := List.mem_cons_of_mem _ (List.mem_cons_of_mem _ (List.mem_cons_of_mem _ (List.mem_cons_of_mem _ (List.mem_cons_of_mem _ (List.mem_cons_of_mem _ (List.mem_cons_of_mem _ (List.mem_cons_of_mem _ (List.mem_cons_of_mem _ (List.mem_cons_of_mem _ (List.mem_cons_self))))))))))
theorem q_sr10 {TB : Nat → Option (Nat × Nat × (Nat → Int32))} {τ : Nat → Nat} : ∀ A U H, q_gF TB τ A U H → vk_R RX11 127 "the processor is jammed" (τ 20) U := fun A U H h => h.2.2.2.1 (RX11, 127, "the processor is jammed", 20) q_sm_10
theorem q_sm_11 : (RX11, 183, "the tape is full", 21) ∈ q_SR := List.mem_cons_of_mem _ (List.mem_cons_of_mem _ (List.mem_cons_of_mem _ (List.mem_cons_of_mem _ (List.mem_cons_of_mem _ (List.mem_cons_of_mem _ (List.mem_cons_of_mem _ (List.mem_cons_of_mem _ (List.mem_cons_of_mem _ (List.mem_cons_of_mem _ (List.mem_cons_of_mem _ (List.mem_cons_self)))))))))))
theorem q_sr11 {TB : Nat → Option (Nat × Nat × (Nat → Int32))} {τ : Nat → Nat} : ∀ A U H, q_gF TB τ A U H → vk_R RX11 183 "the tape is full" (τ 21) U := fun A U H h => h.2.2.2.1 (RX11, 183, "the tape is full", 21) q_sm_11
theorem q_sm_12 : (RX11, 191, "there are 3 snapshots", 22) ∈ q_SR := List.mem_cons_of_mem _ (List.mem_cons_of_mem _ (List.mem_cons_of_mem _ (List.mem_cons_of_mem _ (List.mem_cons_of_mem _ (List.mem_cons_of_mem _ (List.mem_cons_of_mem _ (List.mem_cons_of_mem _ (List.mem_cons_of_mem _ (List.mem_cons_of_mem _ (List.mem_cons_of_mem _ (List.mem_cons_of_mem _ (List.mem_cons_self))))))))))))
theorem q_sr12 {TB : Nat → Option (Nat × Nat × (Nat → Int32))} {τ : Nat → Nat} : ∀ A U H, q_gF TB τ A U H → vk_R RX11 191 "there are 3 snapshots" (τ 22) U := fun A U H h => h.2.2.2.1 (RX11, 191, "there are 3 snapshots", 22) q_sm_12
theorem q_sm_13 : (RX11, 203, "no such snapshot", 23) ∈ q_SR := List.mem_cons_of_mem _ (List.mem_cons_of_mem _ (List.mem_cons_of_mem _ (List.mem_cons_of_mem _ (List.mem_cons_of_mem _ (List.mem_cons_of_mem _ (List.mem_cons_of_mem _ (List.mem_cons_of_mem _ (List.mem_cons_of_mem _ (List.mem_cons_of_mem _ (List.mem_cons_of_mem _ (List.mem_cons_of_mem _ (List.mem_cons_of_mem _ (List.mem_cons_self)))))))))))))
theorem q_sr13 {TB : Nat → Option (Nat × Nat × (Nat → Int32))} {τ : Nat → Nat} : ∀ A U H, q_gF TB τ A U H → vk_R RX11 203 "no such snapshot" (τ 23) U := fun A U H h => h.2.2.2.1 (RX11, 203, "no such snapshot", 23) q_sm_13
theorem q_sm_14 : (RX11, 217, "there is no record", 24) ∈ q_SR := List.mem_cons_of_mem _ (List.mem_cons_of_mem _ (List.mem_cons_of_mem _ (List.mem_cons_of_mem _ (List.mem_cons_of_mem _ (List.mem_cons_of_mem _ (List.mem_cons_of_mem _ (List.mem_cons_of_mem _ (List.mem_cons_of_mem _ (List.mem_cons_of_mem _ (List.mem_cons_of_mem _ (List.mem_cons_of_mem _ (List.mem_cons_of_mem _ (List.mem_cons_of_mem _ (List.mem_cons_self))))))))))))))
theorem q_sr14 {TB : Nat → Option (Nat × Nat × (Nat → Int32))} {τ : Nat → Nat} : ∀ A U H, q_gF TB τ A U H → vk_R RX11 217 "there is no record" (τ 24) U := fun A U H h => h.2.2.2.1 (RX11, 217, "there is no record", 24) q_sm_14
