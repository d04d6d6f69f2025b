theorem dX6_shift_107 : decode cX6_shift 107 = .ok (.putfield 22, 3) := by decide +kernel
theorem dX6_shift_110 : decode cX6_shift 110 = .ok (.goto 85, 3) := by decide +kernel
theorem dX6_shift_113 : decode cX6_shift 113 = .ok (.aload_n 0, 1) := by decide +kernel
theorem dX6_shift_114 : decode cX6_shift 114 = .ok (.iconst 1, 1) := by decide +kernel
theorem dX6_shift_115 : decode cX6_shift 115 = .ok (.aload_n 0, 1) := by decide +kernel
theorem dX6_shift_116 : decode cX6_shift 116 = .ok (.getfield 22, 3) := by decide +kernel
theorem dX6_shift_119 : decode cX6_shift 119 = .ok (.bipush 127, 2) := by decide +kernel
theorem dX6_shift_121 : decode cX6_shift 121 = .ok (.if_icmp .le 7, 3) := by decide +kernel
theorem dX6_shift_124 : decode cX6_shift 124 = .ok (.iconst 1, 1) := by decide +kernel
theorem dX6_shift_125 : decode cX6_shift 125 = .ok (.goto 4, 3) := by decide +kernel
theorem dX6_shift_128 : decode cX6_shift 128 = .ok (.iconst 0, 1) := by decide +kernel
theorem dX6_shift_129 : decode cX6_shift 129 = .ok (.invokevirtual 165, 3) := by decide +kernel
theorem dX6_shift_132 : decode cX6_shift 132 = .ok (.aload_n 0, 1) := by decide +kernel
theorem dX6_shift_133 : decode cX6_shift 133 = .ok (.aload_n 0, 1) := by decide +kernel
theorem dX6_shift_134 : decode cX6_shift 134 = .ok (.iconst 2, 1) := by decide +kernel
theorem dX6_shift_135 : decode cX6_shift 135 = .ok (.aload_n 0, 1) := by decide +kernel
theorem dX6_shift_136 : decode cX6_shift 136 = .ok (.getfield 22, 3) := by decide +kernel
theorem dX6_shift_139 : decode cX6_shift 139 = .ok (.imul, 1) := by decide +kernel
theorem dX6_shift_140 : decode cX6_shift 140 = .ok (.iload_n 2, 1) := by decide +kernel
theorem dX6_shift_141 : decode cX6_shift 141 = .ok (.iadd, 1) := by decide +kernel
theorem dX6_shift_142 : decode cX6_shift 142 = .ok (.sipush 255, 3) := by decide +kernel
theorem dX6_shift_145 : decode cX6_shift 145 = .ok (.iand, 1) := by decide +kernel
theorem dX6_shift_146 : decode cX6_shift 146 = .ok (.invokevirtual 169, 3) := by decide +kernel
theorem dX6_shift_149 : decode cX6_shift 149 = .ok (.putfield 22, 3) := by decide +kernel
theorem dX6_shift_152 : decode cX6_shift 152 = .ok (.goto 43, 3) := by decide +kernel
theorem dX6_shift_155 : decode cX6_shift 155 = .ok (.aload_n 0, 1) := by decide +kernel
theorem dX6_shift_156 : decode cX6_shift 156 = .ok (.iconst 1, 1) := by decide +kernel
theorem dX6_shift_157 : decode cX6_shift 157 = .ok (.aload_n 0, 1) := by decide +kernel
theorem dX6_shift_158 : decode cX6_shift 158 = .ok (.getfield 22, 3) := by decide +kernel
theorem dX6_shift_161 : decode cX6_shift 161 = .ok (.iconst 2, 1) := by decide +kernel
theorem dX6_shift_162 : decode cX6_shift 162 = .ok (.irem, 1) := by decide +kernel
theorem dX6_shift_163 : decode cX6_shift 163 = .ok (.iconst 1, 1) := by decide +kernel
theorem dX6_shift_164 : decode cX6_shift 164 = .ok (.if_icmp .ne 7, 3) := by decide +kernel
theorem dX6_shift_167 : decode cX6_shift 167 = .ok (.iconst 1, 1) := by decide +kernel
theorem dX6_shift_168 : decode cX6_shift 168 = .ok (.goto 4, 3) := by decide +kernel
theorem dX6_shift_171 : decode cX6_shift 171 = .ok (.iconst 0, 1) := by decide +kernel
theorem dX6_shift_172 : decode cX6_shift 172 = .ok (.invokevirtual 165, 3) := by decide +kernel
theorem dX6_shift_175 : decode cX6_shift 175 = .ok (.aload_n 0, 1) := by decide +kernel
theorem dX6_shift_176 : decode cX6_shift 176 = .ok (.aload_n 0, 1) := by decide +kernel
theorem dX6_shift_177 : decode cX6_shift 177 = .ok (.aload_n 0, 1) := by decide +kernel
theorem dX6_shift_178 : decode cX6_shift 178 = .ok (.getfield 22, 3) := by decide +kernel
theorem dX6_shift_181 : decode cX6_shift 181 = .ok (.iconst 2, 1) := by decide +kernel
theorem dX6_shift_182 : decode cX6_shift 182 = .ok (.idiv, 1) := by decide +kernel
theorem dX6_shift_183 : decode cX6_shift 183 = .ok (.sipush 128, 3) := by decide +kernel
theorem dX6_shift_186 : decode cX6_shift 186 = .ok (.iload_n 2, 1) := by decide +kernel
theorem dX6_shift_187 : decode cX6_shift 187 = .ok (.imul, 1) := by decide +kernel
theorem dX6_shift_188 : decode cX6_shift 188 = .ok (.iadd, 1) := by decide +kernel
theorem dX6_shift_189 : decode cX6_shift 189 = .ok (.invokevirtual 169, 3) := by decide +kernel
theorem dX6_shift_192 : decode cX6_shift 192 = .ok (.putfield 22, 3) := by decide +kernel
theorem dX6_shift_195 : decode cX6_shift 195 = .ok (.return_, 1) := by decide +kernel
theorem dX7_init_0 : decode cX7_init 0 = .ok (.aload_n 0, 1) := by decide +kernel
theorem dX7_init_1 : decode cX7_init 1 = .ok (.invokespecial 3, 3) := by decide +kernel
theorem dX7_init_4 : decode cX7_init 4 = .ok (.aload_n 0, 1) := by decide +kernel
theorem dX7_init_5 : decode cX7_init 5 = .ok (.new 9, 3) := by decide +kernel
theorem dX7_init_8 : decode cX7_init 8 = .ok (.dup, 1) := by decide +kernel
theorem dX7_init_9 : decode cX7_init 9 = .ok (.invokespecial 11, 3) := by decide +kernel
theorem dX7_init_12 : decode cX7_init 12 = .ok (.putfield 12, 3) := by decide +kernel
theorem dX7_init_15 : decode cX7_init 15 = .ok (.aload_n 0, 1) := by decide +kernel
theorem dX7_init_16 : decode cX7_init 16 = .ok (.sipush 512, 3) := by decide +kernel
theorem dX7_init_19 : decode cX7_init 19 = .ok (.newarray .int, 2) := by decide +kernel
theorem dX7_init_21 : decode cX7_init 21 = .ok (.putfield 18, 3) := by decide +kernel
theorem dX7_init_24 : decode cX7_init 24 = .ok (.aload_n 0, 1) := by decide +kernel
theorem dX7_init_25 : decode cX7_init 25 = .ok (.sipush 512, 3) := by decide +kernel
theorem dX7_init_28 : decode cX7_init 28 = .ok (.newarray .int, 2) := by decide +kernel
theorem dX7_init_30 : decode cX7_init 30 = .ok (.putfield 22, 3) := by decide +kernel
theorem dX7_init_33 : decode cX7_init 33 = .ok (.aload_n 0, 1) := by decide +kernel
theorem dX7_init_34 : decode cX7_init 34 = .ok (.sipush 512, 3) := by decide +kernel
theorem dX7_init_37 : decode cX7_init 37 = .ok (.newarray .int, 2) := by decide +kernel
theorem dX7_init_39 : decode cX7_init 39 = .ok (.putfield 25, 3) := by decide +kernel
theorem dX7_init_42 : decode cX7_init 42 = .ok (.aload_n 0, 1) := by decide +kernel
theorem dX7_init_43 : decode cX7_init 43 = .ok (.sipush 512, 3) := by decide +kernel
theorem dX7_init_46 : decode cX7_init 46 = .ok (.newarray .int, 2) := by decide +kernel
theorem dX7_init_48 : decode cX7_init 48 = .ok (.putfield 28, 3) := by decide +kernel
theorem dX7_init_51 : decode cX7_init 51 = .ok (.return_, 1) := by decide +kernel
theorem dX7_begin_0 : decode cX7_begin 0 = .ok (.aload_n 0, 1) := by decide +kernel
theorem dX7_begin_1 : decode cX7_begin 1 = .ok (.getfield 12, 3) := by decide +kernel
theorem dX7_begin_4 : decode cX7_begin 4 = .ok (.aload_n 1, 1) := by decide +kernel
theorem dX7_begin_5 : decode cX7_begin 5 = .ok (.invokevirtual 31, 3) := by decide +kernel
theorem dX7_begin_8 : decode cX7_begin 8 = .ok (.aload_n 0, 1) := by decide +kernel
theorem dX7_begin_9 : decode cX7_begin 9 = .ok (.iconst 0, 1) := by decide +kernel
theorem dX7_begin_10 : decode cX7_begin 10 = .ok (.putfield 35, 3) := by decide +kernel
theorem dX7_begin_13 : decode cX7_begin 13 = .ok (.aload_n 0, 1) := by decide +kernel
theorem dX7_begin_14 : decode cX7_begin 14 = .ok (.iconst 0, 1) := by decide +kernel
theorem dX7_begin_15 : decode cX7_begin 15 = .ok (.putfield 39, 3) := by decide +kernel
theorem dX7_begin_18 : decode cX7_begin 18 = .ok (.aload_n 0, 1) := by decide +kernel
theorem dX7_begin_19 : decode cX7_begin 19 = .ok (.iconst 1, 1) := by decide +kernel
theorem dX7_begin_20 : decode cX7_begin 20 = .ok (.putfield 42, 3) := by decide +kernel
theorem dX7_begin_23 : decode cX7_begin 23 = .ok (.return_, 1) := by decide +kernel
theorem dX7_keep_0 : decode cX7_keep 0 = .ok (.aload_n 0, 1) := by decide +kernel
theorem dX7_keep_1 : decode cX7_keep 1 = .ok (.getfield 42, 3) := by decide +kernel
theorem dX7_keep_4 : decode cX7_keep 4 = .ok (.ifCond .eq 71, 3) := by decide +kernel
theorem dX7_keep_7 : decode cX7_keep 7 = .ok (.aload_n 0, 1) := by decide +kernel
theorem dX7_keep_8 : decode cX7_keep 8 = .ok (.getfield 35, 3) := by decide +kernel
theorem dX7_keep_11 : decode cX7_keep 11 = .ok (.ifCond .lt 64, 3) := by decide +kernel
theorem dX7_keep_14 : decode cX7_keep 14 = .ok (.aload_n 0, 1) := by decide +kernel
theorem dX7_keep_15 : decode cX7_keep 15 = .ok (.getfield 35, 3) := by decide +kernel
theorem dX7_keep_18 : decode cX7_keep 18 = .ok (.sipush 512, 3) := by decide +kernel
theorem dX7_keep_21 : decode cX7_keep 21 = .ok (.if_icmp .ge 54, 3) := by decide +kernel
theorem dX7_keep_24 : decode cX7_keep 24 = .ok (.aload_n 0, 1) := by decide +kernel
theorem dX7_keep_25 : decode cX7_keep 25 = .ok (.getfield 18, 3) := by decide +kernel
theorem dX7_keep_28 : decode cX7_keep 28 = .ok (.aload_n 0, 1) := by decide +kernel
theorem dX7_keep_29 : decode cX7_keep 29 = .ok (.getfield 35, 3) := by decide +kernel
theorem dX7_keep_32 : decode cX7_keep 32 = .ok (.iload_n 1, 1) := by decide +kernel
theorem dX7_keep_33 : decode cX7_keep 33 = .ok (.iastore, 1) := by decide +kernel
theorem dX7_keep_34 : decode cX7_keep 34 = .ok (.aload_n 0, 1) := by decide +kernel
theorem dX7_keep_35 : decode cX7_keep 35 = .ok (.getfield 22, 3) := by decide +kernel
theorem dX7_keep_38 : decode cX7_keep 38 = .ok (.aload_n 0, 1) := by decide +kernel
theorem dX7_keep_39 : decode cX7_keep 39 = .ok (.getfield 35, 3) := by decide +kernel
theorem dX7_keep_42 : decode cX7_keep 42 = .ok (.iload_n 2, 1) := by decide +kernel
theorem dX7_keep_43 : decode cX7_keep 43 = .ok (.iastore, 1) := by decide +kernel
theorem dX7_keep_44 : decode cX7_keep 44 = .ok (.aload_n 0, 1) := by decide +kernel
theorem dX7_keep_45 : decode cX7_keep 45 = .ok (.getfield 25, 3) := by decide +kernel
theorem dX7_keep_48 : decode cX7_keep 48 = .ok (.aload_n 0, 1) := by decide +kernel
theorem dX7_keep_49 : decode cX7_keep 49 = .ok (.getfield 35, 3) := by decide +kernel
theorem dX7_keep_52 : decode cX7_keep 52 = .ok (.iload_n 3, 1) := by decide +kernel
theorem dX7_keep_53 : decode cX7_keep 53 = .ok (.iastore, 1) := by decide +kernel
theorem dX7_keep_54 : decode cX7_keep 54 = .ok (.aload_n 0, 1) := by decide +kernel
theorem dX7_keep_55 : decode cX7_keep 55 = .ok (.getfield 28, 3) := by decide +kernel
theorem dX7_keep_58 : decode cX7_keep 58 = .ok (.aload_n 0, 1) := by decide +kernel
theorem dX7_keep_59 : decode cX7_keep 59 = .ok (.getfield 35, 3) := by decide +kernel
theorem dX7_keep_62 : decode cX7_keep 62 = .ok (.iload 4, 2) := by decide +kernel
theorem dX7_keep_64 : decode cX7_keep 64 = .ok (.iastore, 1) := by decide +kernel
theorem dX7_keep_65 : decode cX7_keep 65 = .ok (.aload_n 0, 1) := by decide +kernel
theorem dX7_keep_66 : decode cX7_keep 66 = .ok (.dup, 1) := by decide +kernel
theorem dX7_keep_67 : decode cX7_keep 67 = .ok (.getfield 35, 3) := by decide +kernel
theorem dX7_keep_70 : decode cX7_keep 70 = .ok (.iconst 1, 1) := by decide +kernel
theorem dX7_keep_71 : decode cX7_keep 71 = .ok (.iadd, 1) := by decide +kernel
theorem dX7_keep_72 : decode cX7_keep 72 = .ok (.putfield 35, 3) := by decide +kernel
theorem dX7_keep_75 : decode cX7_keep 75 = .ok (.return_, 1) := by decide +kernel
theorem dX8_init_0 : decode cX8_init 0 = .ok (.aload_n 0, 1) := by decide +kernel
theorem dX8_init_1 : decode cX8_init 1 = .ok (.invokespecial 3, 3) := by decide +kernel
theorem dX8_init_4 : decode cX8_init 4 = .ok (.aload_n 0, 1) := by decide +kernel
theorem dX8_init_5 : decode cX8_init 5 = .ok (.sipush 4096, 3) := by decide +kernel
theorem dX8_init_8 : decode cX8_init 8 = .ok (.newarray .int, 2) := by decide +kernel
theorem dX8_init_10 : decode cX8_init 10 = .ok (.putfield 9, 3) := by decide +kernel
theorem dX8_init_13 : decode cX8_init 13 = .ok (.aload_n 0, 1) := by decide +kernel
theorem dX8_init_14 : decode cX8_init 14 = .ok (.bipush 48, 2) := by decide +kernel
theorem dX8_init_16 : decode cX8_init 16 = .ok (.newarray .int, 2) := by decide +kernel
theorem dX8_init_18 : decode cX8_init 18 = .ok (.putfield 15, 3) := by decide +kernel
theorem dX8_init_21 : decode cX8_init 21 = .ok (.return_, 1) := by decide +kernel
theorem dX8_become_0 : decode cX8_become 0 = .ok (.aload_n 1, 1) := by decide +kernel
theorem dX8_become_1 : decode cX8_become 1 = .ok (.getfield 9, 3) := by decide +kernel
theorem dX8_become_4 : decode cX8_become 4 = .ok (.iconst 0, 1) := by decide +kernel
theorem dX8_become_5 : decode cX8_become 5 = .ok (.aload_n 0, 1) := by decide +kernel
theorem dX8_become_6 : decode cX8_become 6 = .ok (.getfield 9, 3) := by decide +kernel
theorem dX8_become_9 : decode cX8_become 9 = .ok (.iconst 0, 1) := by decide +kernel
theorem dX8_become_10 : decode cX8_become 10 = .ok (.sipush 4096, 3) := by decide +kernel
theorem dX8_become_13 : decode cX8_become 13 = .ok (.invokestatic 18, 3) := by decide +kernel
theorem dX8_become_16 : decode cX8_become 16 = .ok (.aload_n 1, 1) := by decide +kernel
theorem dX8_become_17 : decode cX8_become 17 = .ok (.getfield 15, 3) := by decide +kernel
theorem dX8_become_20 : decode cX8_become 20 = .ok (.iconst 0, 1) := by decide +kernel
theorem dX8_become_21 : decode cX8_become 21 = .ok (.aload_n 0, 1) := by decide +kernel
theorem dX8_become_22 : decode cX8_become 22 = .ok (.getfield 15, 3) := by decide +kernel
theorem dX8_become_25 : decode cX8_become 25 = .ok (.iconst 0, 1) := by decide +kernel
theorem dX8_become_26 : decode cX8_become 26 = .ok (.bipush 48, 2) := by decide +kernel
theorem dX8_become_28 : decode cX8_become 28 = .ok (.invokestatic 18, 3) := by decide +kernel
theorem dX8_become_31 : decode cX8_become 31 = .ok (.return_, 1) := by decide +kernel
theorem dX8_bytesUnlike_0 : decode cX8_bytesUnlike 0 = .ok (.iconst 0, 1) := by decide +kernel
theorem dX8_bytesUnlike_1 : decode cX8_bytesUnlike 1 = .ok (.istore_n 2, 1) := by decide +kernel
theorem dX8_bytesUnlike_2 : decode cX8_bytesUnlike 2 = .ok (.iconst 0, 1) := by decide +kernel
theorem dX8_bytesUnlike_3 : decode cX8_bytesUnlike 3 = .ok (.istore_n 3, 1) := by decide +kernel
theorem dX8_bytesUnlike_4 : decode cX8_bytesUnlike 4 = .ok (.iload_n 3, 1) := by decide +kernel
theorem dX8_bytesUnlike_5 : decode cX8_bytesUnlike 5 = .ok (.sipush 4096, 3) := by decide +kernel
theorem dX8_bytesUnlike_8 : decode cX8_bytesUnlike 8 = .ok (.if_icmp .ge 27, 3) := by decide +kernel
theorem dX8_bytesUnlike_11 : decode cX8_bytesUnlike 11 = .ok (.aload_n 0, 1) := by decide +kernel
theorem dX8_bytesUnlike_12 : decode cX8_bytesUnlike 12 = .ok (.getfield 9, 3) := by decide +kernel
theorem dX8_bytesUnlike_15 : decode cX8_bytesUnlike 15 = .ok (.iload_n 3, 1) := by decide +kernel
theorem dX8_bytesUnlike_16 : decode cX8_bytesUnlike 16 = .ok (.iaload, 1) := by decide +kernel
theorem dX8_bytesUnlike_17 : decode cX8_bytesUnlike 17 = .ok (.aload_n 1, 1) := by decide +kernel
theorem dX8_bytesUnlike_18 : decode cX8_bytesUnlike 18 = .ok (.getfield 9, 3) := by decide +kernel
theorem dX8_bytesUnlike_21 : decode cX8_bytesUnlike 21 = .ok (.iload_n 3, 1) := by decide +kernel
theorem dX8_bytesUnlike_22 : decode cX8_bytesUnlike 22 = .ok (.iaload, 1) := by decide +kernel
theorem dX8_bytesUnlike_23 : decode cX8_bytesUnlike 23 = .ok (.if_icmp .eq 6, 3) := by decide +kernel
theorem dX8_bytesUnlike_26 : decode cX8_bytesUnlike 26 = .ok (.iinc 2 1, 3) := by decide +kernel
theorem dX8_bytesUnlike_29 : decode cX8_bytesUnlike 29 = .ok (.iinc 3 1, 3) := by decide +kernel
theorem dX8_bytesUnlike_32 : decode cX8_bytesUnlike 32 = .ok (.goto (-28), 3) := by decide +kernel
theorem dX8_bytesUnlike_35 : decode cX8_bytesUnlike 35 = .ok (.iload_n 2, 1) := by decide +kernel
theorem dX8_bytesUnlike_36 : decode cX8_bytesUnlike 36 = .ok (.ireturn, 1) := by decide +kernel
theorem dX8_put_0 : decode cX8_put 0 = .ok (.iload_n 1, 1) := by decide +kernel
theorem dX8_put_1 : decode cX8_put 1 = .ok (.sipush 3840, 3) := by decide +kernel
theorem dX8_put_4 : decode cX8_put 4 = .ok (.isub, 1) := by decide +kernel
theorem dX8_put_5 : decode cX8_put 5 = .ok (.istore_n 3, 1) := by decide +kernel
theorem dX8_put_6 : decode cX8_put 6 = .ok (.iload_n 3, 1) := by decide +kernel
theorem dX8_put_7 : decode cX8_put 7 = .ok (.ifCond .lt 9, 3) := by decide +kernel
theorem dX8_put_10 : decode cX8_put 10 = .ok (.iload_n 3, 1) := by decide +kernel
theorem dX8_put_11 : decode cX8_put 11 = .ok (.bipush 48, 2) := by decide +kernel
theorem dX8_put_13 : decode cX8_put 13 = .ok (.if_icmp .lt 21, 3) := by decide +kernel
theorem dX8_put_16 : decode cX8_put 16 = .ok (.aload_n 0, 1) := by decide +kernel
theorem dX8_put_17 : decode cX8_put 17 = .ok (.getfield 9, 3) := by decide +kernel
theorem dX8_put_20 : decode cX8_put 20 = .ok (.iload_n 1, 1) := by decide +kernel
theorem dX8_put_21 : decode cX8_put 21 = .ok (.sipush 4095, 3) := by decide +kernel
theorem dX8_put_24 : decode cX8_put 24 = .ok (.iand, 1) := by decide +kernel
theorem dX8_put_25 : decode cX8_put 25 = .ok (.iload_n 2, 1) := by decide +kernel
theorem dX8_put_26 : decode cX8_put 26 = .ok (.sipush 255, 3) := by decide +kernel
theorem dX8_put_29 : decode cX8_put 29 = .ok (.iand, 1) := by decide +kernel
theorem dX8_put_30 : decode cX8_put 30 = .ok (.iastore, 1) := by decide +kernel
theorem dX8_put_31 : decode cX8_put 31 = .ok (.goto 24, 3) := by decide +kernel
theorem dX8_put_34 : decode cX8_put 34 = .ok (.getstatic 24, 3) := by decide +kernel
theorem dX8_put_37 : decode cX8_put 37 = .ok (.iload_n 3, 1) := by decide +kernel
theorem dX8_put_38 : decode cX8_put 38 = .ok (.iaload, 1) := by decide +kernel
theorem dX8_put_39 : decode cX8_put 39 = .ok (.ifCond .eq 16, 3) := by decide +kernel
theorem dX8_put_42 : decode cX8_put 42 = .ok (.aload_n 0, 1) := by decide +kernel
theorem dX8_put_43 : decode cX8_put 43 = .ok (.getfield 15, 3) := by decide +kernel
theorem dX8_put_46 : decode cX8_put 46 = .ok (.iload_n 3, 1) := by decide +kernel
theorem dX8_put_47 : decode cX8_put 47 = .ok (.iload_n 2, 1) := by decide +kernel
theorem dX8_put_48 : decode cX8_put 48 = .ok (.getstatic 24, 3) := by decide +kernel
theorem dX8_put_51 : decode cX8_put 51 = .ok (.iload_n 3, 1) := by decide +kernel
theorem dX8_put_52 : decode cX8_put 52 = .ok (.iaload, 1) := by decide +kernel
theorem dX8_put_53 : decode cX8_put 53 = .ok (.iand, 1) := by decide +kernel
theorem dX8_put_54 : decode cX8_put 54 = .ok (.iastore, 1) := by decide +kernel
theorem dX8_put_55 : decode cX8_put 55 = .ok (.return_, 1) := by decide +kernel
theorem dX8_clearRegisters_0 : decode cX8_clearRegisters 0 = .ok (.aload_n 0, 1) := by decide +kernel
theorem dX8_clearRegisters_1 : decode cX8_clearRegisters 1 = .ok (.getfield 15, 3) := by decide +kernel
theorem dX8_clearRegisters_4 : decode cX8_clearRegisters 4 = .ok (.iconst 0, 1) := by decide +kernel
theorem dX8_clearRegisters_5 : decode cX8_clearRegisters 5 = .ok (.invokestatic 27, 3) := by decide +kernel
theorem dX8_clearRegisters_8 : decode cX8_clearRegisters 8 = .ok (.return_, 1) := by decide +kernel
theorem dX8_scrollLeft_0 : decode cX8_scrollLeft 0 = .ok (.aload_n 0, 1) := by decide +kernel
theorem dX8_scrollLeft_1 : decode cX8_scrollLeft 1 = .ok (.getfield 15, 3) := by decide +kernel
theorem dX8_scrollLeft_4 : decode cX8_scrollLeft 4 = .ok (.iconst 2, 1) := by decide +kernel
theorem dX8_scrollLeft_5 : decode cX8_scrollLeft 5 = .ok (.iaload, 1) := by decide +kernel
theorem dX8_scrollLeft_6 : decode cX8_scrollLeft 6 = .ok (.iconst 3, 1) := by decide +kernel
theorem dX8_scrollLeft_7 : decode cX8_scrollLeft 7 = .ok (.iand, 1) := by decide +kernel
theorem dX8_scrollLeft_8 : decode cX8_scrollLeft 8 = .ok (.ireturn, 1) := by decide +kernel
theorem dX8_scrollUp_0 : decode cX8_scrollUp 0 = .ok (.aload_n 0, 1) := by decide +kernel
theorem dX8_scrollUp_1 : decode cX8_scrollUp 1 = .ok (.getfield 15, 3) := by decide +kernel
theorem dX8_scrollUp_4 : decode cX8_scrollUp 4 = .ok (.iconst 2, 1) := by decide +kernel
theorem dX8_scrollUp_5 : decode cX8_scrollUp 5 = .ok (.iaload, 1) := by decide +kernel
theorem dX8_scrollUp_6 : decode cX8_scrollUp 6 = .ok (.iconst 2, 1) := by decide +kernel
theorem dX8_scrollUp_7 : decode cX8_scrollUp 7 = .ok (.ishr, 1) := by decide +kernel
theorem dX8_scrollUp_8 : decode cX8_scrollUp 8 = .ok (.ireturn, 1) := by decide +kernel
theorem dX8_takesCycle_0 : decode cX8_takesCycle 0 = .ok (.iload_n 1, 1) := by decide +kernel
theorem dX8_takesCycle_1 : decode cX8_takesCycle 1 = .ok (.ifCond .lt 21, 3) := by decide +kernel
theorem dX8_takesCycle_4 : decode cX8_takesCycle 4 = .ok (.iload_n 1, 1) := by decide +kernel
theorem dX8_takesCycle_5 : decode cX8_takesCycle 5 = .ok (.bipush 32, 2) := by decide +kernel
theorem dX8_takesCycle_7 : decode cX8_takesCycle 7 = .ok (.if_icmp .ge 15, 3) := by decide +kernel
theorem dX8_takesCycle_10 : decode cX8_takesCycle 10 = .ok (.iload_n 2, 1) := by decide +kernel
theorem dX8_takesCycle_11 : decode cX8_takesCycle 11 = .ok (.bipush 8, 2) := by decide +kernel
theorem dX8_takesCycle_13 : decode cX8_takesCycle 13 = .ok (.if_icmp .lt 11, 3) := by decide +kernel
theorem dX8_takesCycle_16 : decode cX8_takesCycle 16 = .ok (.iload_n 2, 1) := by decide +kernel
theorem dX8_takesCycle_17 : decode cX8_takesCycle 17 = .ok (.bipush 20, 2) := by decide +kernel
theorem dX8_takesCycle_19 : decode cX8_takesCycle 19 = .ok (.if_icmp .ge 5, 3) := by decide +kernel
theorem dX8_takesCycle_22 : decode cX8_takesCycle 22 = .ok (.iconst 0, 1) := by decide +kernel
theorem dX8_takesCycle_23 : decode cX8_takesCycle 23 = .ok (.ireturn, 1) := by decide +kernel
theorem dX8_takesCycle_24 : decode cX8_takesCycle 24 = .ok (.iload_n 2, 1) := by decide +kernel
theorem dX8_takesCycle_25 : decode cX8_takesCycle 25 = .ok (.bipush 20, 2) := by decide +kernel
theorem dX8_takesCycle_27 : decode cX8_takesCycle 27 = .ok (.if_icmp .lt 13, 3) := by decide +kernel
theorem dX8_takesCycle_30 : decode cX8_takesCycle 30 = .ok (.aload_n 0, 1) := by decide +kernel
theorem dX8_takesCycle_31 : decode cX8_takesCycle 31 = .ok (.iload_n 2, 1) := by decide +kernel
theorem dX8_takesCycle_32 : decode cX8_takesCycle 32 = .ok (.bipush 20, 2) := by decide +kernel
theorem dX8_takesCycle_34 : decode cX8_takesCycle 34 = .ok (.isub, 1) := by decide +kernel
theorem dX8_takesCycle_35 : decode cX8_takesCycle 35 = .ok (.iload_n 1, 1) := by decide +kernel
theorem dX8_takesCycle_36 : decode cX8_takesCycle 36 = .ok (.invokevirtual 33, 3) := by decide +kernel
theorem dX8_takesCycle_39 : decode cX8_takesCycle 39 = .ok (.ireturn, 1) := by decide +kernel
theorem dX8_takesCycle_40 : decode cX8_takesCycle 40 = .ok (.aload_n 0, 1) := by decide +kernel
theorem dX8_takesCycle_41 : decode cX8_takesCycle 41 = .ok (.getfield 15, 3) := by decide +kernel
theorem dX8_takesCycle_44 : decode cX8_takesCycle 44 = .ok (.iconst 1, 1) := by decide +kernel
theorem dX8_takesCycle_45 : decode cX8_takesCycle 45 = .ok (.iaload, 1) := by decide +kernel
theorem dX8_takesCycle_46 : decode cX8_takesCycle 46 = .ok (.ifCond .ne 21, 3) := by decide +kernel
theorem dX8_takesCycle_49 : decode cX8_takesCycle 49 = .ok (.iload_n 1, 1) := by decide +kernel
theorem dX8_takesCycle_50 : decode cX8_takesCycle 50 = .ok (.aload_n 0, 1) := by decide +kernel
theorem dX8_takesCycle_51 : decode cX8_takesCycle 51 = .ok (.invokevirtual 37, 3) := by decide +kernel
theorem dX8_takesCycle_54 : decode cX8_takesCycle 54 = .ok (.iadd, 1) := by decide +kernel
theorem dX8_takesCycle_55 : decode cX8_takesCycle 55 = .ok (.bipush 8, 2) := by decide +kernel
theorem dX8_takesCycle_57 : decode cX8_takesCycle 57 = .ok (.irem, 1) := by decide +kernel
theorem dX8_takesCycle_58 : decode cX8_takesCycle 58 = .ok (.ifCond .ne 7, 3) := by decide +kernel
theorem dX8_takesCycle_61 : decode cX8_takesCycle 61 = .ok (.iconst 1, 1) := by decide +kernel
theorem dX8_takesCycle_62 : decode cX8_takesCycle 62 = .ok (.goto 4, 3) := by decide +kernel
theorem dX8_takesCycle_65 : decode cX8_takesCycle 65 = .ok (.iconst 0, 1) := by decide +kernel
theorem dX8_takesCycle_66 : decode cX8_takesCycle 66 = .ok (.ireturn, 1) := by decide +kernel
theorem dX8_takesCycle_67 : decode cX8_takesCycle 67 = .ok (.aload_n 0, 1) := by decide +kernel
theorem dX8_takesCycle_68 : decode cX8_takesCycle 68 = .ok (.getfield 15, 3) := by decide +kernel
theorem dX8_takesCycle_71 : decode cX8_takesCycle 71 = .ok (.iconst 1, 1) := by decide +kernel
theorem dX8_takesCycle_72 : decode cX8_takesCycle 72 = .ok (.iaload, 1) := by decide +kernel
theorem dX8_takesCycle_73 : decode cX8_takesCycle 73 = .ok (.iconst 3, 1) := by decide +kernel
theorem dX8_takesCycle_74 : decode cX8_takesCycle 74 = .ok (.if_icmp .eq 12, 3) := by decide +kernel
theorem dX8_takesCycle_77 : decode cX8_takesCycle 77 = .ok (.iload_n 2, 1) := by decide +kernel
theorem dX8_takesCycle_78 : decode cX8_takesCycle 78 = .ok (.iconst 4, 1) := by decide +kernel
theorem dX8_takesCycle_79 : decode cX8_takesCycle 79 = .ok (.if_icmp .ge 7, 3) := by decide +kernel
theorem dX8_takesCycle_82 : decode cX8_takesCycle 82 = .ok (.iconst 1, 1) := by decide +kernel
theorem dX8_takesCycle_83 : decode cX8_takesCycle 83 = .ok (.goto 4, 3) := by decide +kernel
theorem dX8_takesCycle_86 : decode cX8_takesCycle 86 = .ok (.iconst 0, 1) := by decide +kernel
theorem dX8_takesCycle_87 : decode cX8_takesCycle 87 = .ok (.ireturn, 1) := by decide +kernel
theorem dX8_isAmongRows_0 : decode cX8_isAmongRows 0 = .ok (.iload_n 1, 1) := by decide +kernel
theorem dX8_isAmongRows_1 : decode cX8_isAmongRows 1 = .ok (.iconst 3, 1) := by decide +kernel
theorem dX8_isAmongRows_2 : decode cX8_isAmongRows 2 = .ok (.iand, 1) := by decide +kernel
theorem dX8_isAmongRows_3 : decode cX8_isAmongRows 3 = .ok (.istore_n 3, 1) := by decide +kernel
theorem dX8_isAmongRows_4 : decode cX8_isAmongRows 4 = .ok (.aload_n 0, 1) := by decide +kernel
theorem dX8_isAmongRows_5 : decode cX8_isAmongRows 5 = .ok (.getfield 15, 3) := by decide +kernel
theorem dX8_isAmongRows_8 : decode cX8_isAmongRows 8 = .ok (.bipush 24, 2) := by decide +kernel
theorem dX8_isAmongRows_10 : decode cX8_isAmongRows 10 = .ok (.iload_n 3, 1) := by decide +kernel
theorem dX8_isAmongRows_11 : decode cX8_isAmongRows 11 = .ok (.iadd, 1) := by decide +kernel
theorem dX8_isAmongRows_12 : decode cX8_isAmongRows 12 = .ok (.iaload, 1) := by decide +kernel
theorem dX8_isAmongRows_13 : decode cX8_isAmongRows 13 = .ok (.istore 4, 2) := by decide +kernel
theorem dX8_isAmongRows_15 : decode cX8_isAmongRows 15 = .ok (.bipush 8, 2) := by decide +kernel
theorem dX8_isAmongRows_17 : decode cX8_isAmongRows 17 = .ok (.aload_n 0, 1) := by decide +kernel
theorem dX8_isAmongRows_18 : decode cX8_isAmongRows 18 = .ok (.bipush 18, 2) := by decide +kernel
theorem dX8_isAmongRows_20 : decode cX8_isAmongRows 20 = .ok (.iload_n 3, 1) := by decide +kernel
theorem dX8_isAmongRows_21 : decode cX8_isAmongRows 21 = .ok (.invokevirtual 41, 3) := by decide +kernel
theorem dX8_isAmongRows_24 : decode cX8_isAmongRows 24 = .ok (.ishl, 1) := by decide +kernel
theorem dX8_isAmongRows_25 : decode cX8_isAmongRows 25 = .ok (.istore 5, 2) := by decide +kernel
theorem dX8_isAmongRows_27 : decode cX8_isAmongRows 27 = .ok (.aload_n 0, 1) := by decide +kernel
theorem dX8_isAmongRows_28 : decode cX8_isAmongRows 28 = .ok (.bipush 17, 2) := by decide +kernel
theorem dX8_isAmongRows_30 : decode cX8_isAmongRows 30 = .ok (.iload_n 3, 1) := by decide +kernel
theorem dX8_isAmongRows_31 : decode cX8_isAmongRows 31 = .ok (.invokevirtual 41, 3) := by decide +kernel
theorem dX8_isAmongRows_34 : decode cX8_isAmongRows 34 = .ok (.iconst 1, 1) := by decide +kernel
theorem dX8_isAmongRows_35 : decode cX8_isAmongRows 35 = .ok (.if_icmp .ne 22, 3) := by decide +kernel
theorem dX8_isAmongRows_38 : decode cX8_isAmongRows 38 = .ok (.iload_n 2, 1) := by decide +kernel
theorem dX8_isAmongRows_39 : decode cX8_isAmongRows 39 = .ok (.iload 4, 2) := by decide +kernel
theorem dX8_isAmongRows_41 : decode cX8_isAmongRows 41 = .ok (.if_icmp .lt 16, 3) := by decide +kernel
theorem dX8_isAmongRows_44 : decode cX8_isAmongRows 44 = .ok (.iload_n 2, 1) := by decide +kernel
theorem dX8_isAmongRows_45 : decode cX8_isAmongRows 45 = .ok (.iload 4, 2) := by decide +kernel
theorem dX8_isAmongRows_47 : decode cX8_isAmongRows 47 = .ok (.iload 5, 2) := by decide +kernel
theorem dX8_isAmongRows_49 : decode cX8_isAmongRows 49 = .ok (.iadd, 1) := by decide +kernel
theorem dX8_isAmongRows_50 : decode cX8_isAmongRows 50 = .ok (.if_icmp .ge 7, 3) := by decide +kernel
theorem dX8_isAmongRows_53 : decode cX8_isAmongRows 53 = .ok (.iconst 1, 1) := by decide +kernel
theorem dX8_isAmongRows_54 : decode cX8_isAmongRows 54 = .ok (.goto 4, 3) := by decide +kernel
theorem dX8_isAmongRows_57 : decode cX8_isAmongRows 57 = .ok (.iconst 0, 1) := by decide +kernel
theorem dX8_isAmongRows_58 : decode cX8_isAmongRows 58 = .ok (.ireturn, 1) := by decide +kernel
theorem dX8_bitOf_0 : decode cX8_bitOf 0 = .ok (.iload_n 1, 1) := by decide +kernel
theorem dX8_bitOf_1 : decode cX8_bitOf 1 = .ok (.ifCond .lt 22, 3) := by decide +kernel
theorem dX8_bitOf_4 : decode cX8_bitOf 4 = .ok (.iload_n 1, 1) := by decide +kernel
theorem dX8_bitOf_5 : decode cX8_bitOf 5 = .ok (.bipush 48, 2) := by decide +kernel
theorem dX8_bitOf_7 : decode cX8_bitOf 7 = .ok (.if_icmp .ge 16, 3) := by decide +kernel
theorem dX8_bitOf_10 : decode cX8_bitOf 10 = .ok (.aload_n 0, 1) := by decide +kernel
theorem dX8_bitOf_11 : decode cX8_bitOf 11 = .ok (.getfield 15, 3) := by decide +kernel
theorem dX8_bitOf_14 : decode cX8_bitOf 14 = .ok (.iload_n 1, 1) := by decide +kernel
theorem dX8_bitOf_15 : decode cX8_bitOf 15 = .ok (.iaload, 1) := by decide +kernel
theorem dX8_bitOf_16 : decode cX8_bitOf 16 = .ok (.iload_n 2, 1) := by decide +kernel
theorem dX8_bitOf_17 : decode cX8_bitOf 17 = .ok (.ishr, 1) := by decide +kernel
theorem dX8_bitOf_18 : decode cX8_bitOf 18 = .ok (.iconst 1, 1) := by decide +kernel
theorem dX8_bitOf_19 : decode cX8_bitOf 19 = .ok (.iand, 1) := by decide +kernel
theorem dX8_bitOf_20 : decode cX8_bitOf 20 = .ok (.goto 4, 3) := by decide +kernel
theorem dX8_bitOf_23 : decode cX8_bitOf 23 = .ok (.iconst 0, 1) := by decide +kernel
theorem dX8_bitOf_24 : decode cX8_bitOf 24 = .ok (.ireturn, 1) := by decide +kernel
theorem dX8_valueAt_0 : decode cX8_valueAt 0 = .ok (.iload_n 1, 1) := by decide +kernel
theorem dX8_valueAt_1 : decode cX8_valueAt 1 = .ok (.aload_n 0, 1) := by decide +kernel
theorem dX8_valueAt_2 : decode cX8_valueAt 2 = .ok (.invokevirtual 45, 3) := by decide +kernel
theorem dX8_valueAt_5 : decode cX8_valueAt 5 = .ok (.iadd, 1) := by decide +kernel
theorem dX8_valueAt_6 : decode cX8_valueAt 6 = .ok (.bipush 32, 2) := by decide +kernel
theorem dX8_valueAt_8 : decode cX8_valueAt 8 = .ok (.irem, 1) := by decide +kernel
theorem dX8_valueAt_9 : decode cX8_valueAt 9 = .ok (.istore_n 3, 1) := by decide +kernel
theorem dX8_valueAt_10 : decode cX8_valueAt 10 = .ok (.iload_n 2, 1) := by decide +kernel
theorem dX8_valueAt_11 : decode cX8_valueAt 11 = .ok (.aload_n 0, 1) := by decide +kernel
theorem dX8_valueAt_12 : decode cX8_valueAt 12 = .ok (.invokevirtual 37, 3) := by decide +kernel
theorem dX8_valueAt_15 : decode cX8_valueAt 15 = .ok (.iadd, 1) := by decide +kernel
theorem dX8_valueAt_16 : decode cX8_valueAt 16 = .ok (.bipush 32, 2) := by decide +kernel
theorem dX8_valueAt_18 : decode cX8_valueAt 18 = .ok (.irem, 1) := by decide +kernel
theorem dX8_valueAt_19 : decode cX8_valueAt 19 = .ok (.istore 4, 2) := by decide +kernel
theorem dX8_valueAt_21 : decode cX8_valueAt 21 = .ok (.sipush 256, 3) := by decide +kernel
theorem dX8_valueAt_24 : decode cX8_valueAt 24 = .ok (.aload_n 0, 1) := by decide +kernel
theorem dX8_valueAt_25 : decode cX8_valueAt 25 = .ok (.getfield 15, 3) := by decide +kernel
theorem dX8_valueAt_28 : decode cX8_valueAt 28 = .ok (.bipush 7, 2) := by decide +kernel
theorem dX8_valueAt_30 : decode cX8_valueAt 30 = .ok (.iaload, 1) := by decide +kernel
theorem dX8_valueAt_31 : decode cX8_valueAt 31 = .ok (.imul, 1) := by decide +kernel
theorem dX8_valueAt_32 : decode cX8_valueAt 32 = .ok (.istore 5, 2) := by decide +kernel
theorem dX8_valueAt_34 : decode cX8_valueAt 34 = .ok (.aload_n 0, 1) := by decide +kernel
theorem dX8_valueAt_35 : decode cX8_valueAt 35 = .ok (.iload 5, 2) := by decide +kernel
theorem dX8_valueAt_37 : decode cX8_valueAt 37 = .ok (.iconst 4, 1) := by decide +kernel
theorem dX8_valueAt_38 : decode cX8_valueAt 38 = .ok (.iload 4, 2) := by decide +kernel
theorem dX8_valueAt_40 : decode cX8_valueAt 40 = .ok (.imul, 1) := by decide +kernel
theorem dX8_valueAt_41 : decode cX8_valueAt 41 = .ok (.iadd, 1) := by decide +kernel
theorem dX8_valueAt_42 : decode cX8_valueAt 42 = .ok (.iload_n 3, 1) := by decide +kernel
theorem dX8_valueAt_43 : decode cX8_valueAt 43 = .ok (.bipush 8, 2) := by decide +kernel
theorem dX8_valueAt_45 : decode cX8_valueAt 45 = .ok (.idiv, 1) := by decide +kernel
theorem dX8_valueAt_46 : decode cX8_valueAt 46 = .ok (.iadd, 1) := by decide +kernel
theorem dX8_valueAt_47 : decode cX8_valueAt 47 = .ok (.invokevirtual 48, 3) := by decide +kernel
theorem dX8_valueAt_50 : decode cX8_valueAt 50 = .ok (.istore 6, 2) := by decide +kernel
theorem dX8_valueAt_52 : decode cX8_valueAt 52 = .ok (.aload_n 0, 1) := by decide +kernel
theorem dX8_valueAt_53 : decode cX8_valueAt 53 = .ok (.getfield 15, 3) := by decide +kernel
theorem dX8_valueAt_56 : decode cX8_valueAt 56 = .ok (.iconst 1, 1) := by decide +kernel
theorem dX8_valueAt_57 : decode cX8_valueAt 57 = .ok (.iaload, 1) := by decide +kernel
theorem dX8_valueAt_58 : decode cX8_valueAt 58 = .ok (.tableswitch 113 0 2 #[26, 83, 96], 26) := by decide +kernel
theorem dX8_valueAt_84 : decode cX8_valueAt 84 = .ok (.aload_n 0, 1) := by decide +kernel
theorem dX8_valueAt_85 : decode cX8_valueAt 85 = .ok (.iload 5, 2) := by decide +kernel
theorem dX8_valueAt_87 : decode cX8_valueAt 87 = .ok (.bipush 8, 2) := by decide +kernel
theorem dX8_valueAt_89 : decode cX8_valueAt 89 = .ok (.iload 4, 2) := by decide +kernel
theorem dX8_valueAt_91 : decode cX8_valueAt 91 = .ok (.bipush 8, 2) := by decide +kernel
theorem dX8_valueAt_93 : decode cX8_valueAt 93 = .ok (.idiv, 1) := by decide +kernel
theorem dX8_valueAt_94 : decode cX8_valueAt 94 = .ok (.imul, 1) := by decide +kernel
theorem dX8_valueAt_95 : decode cX8_valueAt 95 = .ok (.iadd, 1) := by decide +kernel
theorem dX8_valueAt_96 : decode cX8_valueAt 96 = .ok (.iload_n 3, 1) := by decide +kernel
theorem dX8_valueAt_97 : decode cX8_valueAt 97 = .ok (.iconst 4, 1) := by decide +kernel
theorem dX8_valueAt_98 : decode cX8_valueAt 98 = .ok (.idiv, 1) := by decide +kernel
theorem dX8_valueAt_99 : decode cX8_valueAt 99 = .ok (.iadd, 1) := by decide +kernel
theorem dX8_valueAt_100 : decode cX8_valueAt 100 = .ok (.invokevirtual 48, 3) := by decide +kernel
theorem dX8_valueAt_103 : decode cX8_valueAt 103 = .ok (.istore 7, 2) := by decide +kernel
theorem dX8_valueAt_105 : decode cX8_valueAt 105 = .ok (.aload_n 0, 1) := by decide +kernel
theorem dX8_valueAt_106 : decode cX8_valueAt 106 = .ok (.sipush 256, 3) := by decide +kernel
theorem dX8_valueAt_109 : decode cX8_valueAt 109 = .ok (.aload_n 0, 1) := by decide +kernel
theorem dX8_valueAt_110 : decode cX8_valueAt 110 = .ok (.getfield 15, 3) := by decide +kernel
theorem dX8_valueAt_113 : decode cX8_valueAt 113 = .ok (.bipush 8, 2) := by decide +kernel
theorem dX8_valueAt_115 : decode cX8_valueAt 115 = .ok (.iaload, 1) := by decide +kernel
theorem dX8_valueAt_116 : decode cX8_valueAt 116 = .ok (.imul, 1) := by decide +kernel
theorem dX8_valueAt_117 : decode cX8_valueAt 117 = .ok (.bipush 8, 2) := by decide +kernel
theorem dX8_valueAt_119 : decode cX8_valueAt 119 = .ok (.iload 7, 2) := by decide +kernel
theorem dX8_valueAt_121 : decode cX8_valueAt 121 = .ok (.imul, 1) := by decide +kernel
theorem dX8_valueAt_122 : decode cX8_valueAt 122 = .ok (.iadd, 1) := by decide +kernel
theorem dX8_valueAt_123 : decode cX8_valueAt 123 = .ok (.iload 4, 2) := by decide +kernel
theorem dX8_valueAt_125 : decode cX8_valueAt 125 = .ok (.bipush 8, 2) := by decide +kernel
theorem dX8_valueAt_127 : decode cX8_valueAt 127 = .ok (.irem, 1) := by decide +kernel
theorem dX8_valueAt_128 : decode cX8_valueAt 128 = .ok (.iadd, 1) := by decide +kernel
theorem dX8_valueAt_129 : decode cX8_valueAt 129 = .ok (.invokevirtual 48, 3) := by decide +kernel
theorem dX8_valueAt_132 : decode cX8_valueAt 132 = .ok (.iconst 3, 1) := by decide +kernel
theorem dX8_valueAt_133 : decode cX8_valueAt 133 = .ok (.iload_n 3, 1) := by decide +kernel
theorem dX8_valueAt_134 : decode cX8_valueAt 134 = .ok (.iconst 4, 1) := by decide +kernel
theorem dX8_valueAt_135 : decode cX8_valueAt 135 = .ok (.irem, 1) := by decide +kernel
theorem dX8_valueAt_136 : decode cX8_valueAt 136 = .ok (.isub, 1) := by decide +kernel
theorem dX8_valueAt_137 : decode cX8_valueAt 137 = .ok (.ishr, 1) := by decide +kernel
theorem dX8_valueAt_138 : decode cX8_valueAt 138 = .ok (.iconst 1, 1) := by decide +kernel
theorem dX8_valueAt_139 : decode cX8_valueAt 139 = .ok (.iand, 1) := by decide +kernel
theorem dX8_valueAt_140 : decode cX8_valueAt 140 = .ok (.ireturn, 1) := by decide +kernel
theorem dX8_valueAt_141 : decode cX8_valueAt 141 = .ok (.iload 6, 2) := by decide +kernel
theorem dX8_valueAt_143 : decode cX8_valueAt 143 = .ok (.bipush 7, 2) := by decide +kernel
theorem dX8_valueAt_145 : decode cX8_valueAt 145 = .ok (.iload_n 3, 1) := by decide +kernel
theorem dX8_valueAt_146 : decode cX8_valueAt 146 = .ok (.bipush 8, 2) := by decide +kernel
theorem dX8_valueAt_148 : decode cX8_valueAt 148 = .ok (.irem, 1) := by decide +kernel
theorem dX8_valueAt_149 : decode cX8_valueAt 149 = .ok (.isub, 1) := by decide +kernel
theorem dX8_valueAt_150 : decode cX8_valueAt 150 = .ok (.ishr, 1) := by decide +kernel
theorem dX8_valueAt_151 : decode cX8_valueAt 151 = .ok (.iconst 1, 1) := by decide +kernel
theorem dX8_valueAt_152 : decode cX8_valueAt 152 = .ok (.iand, 1) := by decide +kernel
theorem dX8_valueAt_153 : decode cX8_valueAt 153 = .ok (.ireturn, 1) := by decide +kernel
theorem dX8_valueAt_154 : decode cX8_valueAt 154 = .ok (.iload 6, 2) := by decide +kernel
theorem dX8_valueAt_156 : decode cX8_valueAt 156 = .ok (.bipush 6, 2) := by decide +kernel
theorem dX8_valueAt_158 : decode cX8_valueAt 158 = .ok (.iconst 2, 1) := by decide +kernel
theorem dX8_valueAt_159 : decode cX8_valueAt 159 = .ok (.iload_n 3, 1) := by decide +kernel
theorem dX8_valueAt_160 : decode cX8_valueAt 160 = .ok (.bipush 8, 2) := by decide +kernel
theorem dX8_valueAt_162 : decode cX8_valueAt 162 = .ok (.irem, 1) := by decide +kernel
theorem dX8_valueAt_163 : decode cX8_valueAt 163 = .ok (.iconst 2, 1) := by decide +kernel
theorem dX8_valueAt_164 : decode cX8_valueAt 164 = .ok (.idiv, 1) := by decide +kernel
theorem dX8_valueAt_165 : decode cX8_valueAt 165 = .ok (.imul, 1) := by decide +kernel
theorem dX8_valueAt_166 : decode cX8_valueAt 166 = .ok (.isub, 1) := by decide +kernel
theorem dX8_valueAt_167 : decode cX8_valueAt 167 = .ok (.ishr, 1) := by decide +kernel
theorem dX8_valueAt_168 : decode cX8_valueAt 168 = .ok (.iconst 3, 1) := by decide +kernel
theorem dX8_valueAt_169 : decode cX8_valueAt 169 = .ok (.iand, 1) := by decide +kernel
theorem dX8_valueAt_170 : decode cX8_valueAt 170 = .ok (.ireturn, 1) := by decide +kernel
theorem dX8_valueAt_171 : decode cX8_valueAt 171 = .ok (.iconst 0, 1) := by decide +kernel
theorem dX8_valueAt_172 : decode cX8_valueAt 172 = .ok (.ireturn, 1) := by decide +kernel
theorem dX8_byteAt_0 : decode cX8_byteAt 0 = .ok (.aload_n 0, 1) := by decide +kernel
theorem dX8_byteAt_1 : decode cX8_byteAt 1 = .ok (.getfield 9, 3) := by decide +kernel
theorem dX8_byteAt_4 : decode cX8_byteAt 4 = .ok (.iload_n 1, 1) := by decide +kernel
theorem dX8_byteAt_5 : decode cX8_byteAt 5 = .ok (.sipush 4095, 3) := by decide +kernel
theorem dX8_byteAt_8 : decode cX8_byteAt 8 = .ok (.iand, 1) := by decide +kernel
theorem dX8_byteAt_9 : decode cX8_byteAt 9 = .ok (.iaload, 1) := by decide +kernel
theorem dX8_byteAt_10 : decode cX8_byteAt 10 = .ok (.ireturn, 1) := by decide +kernel
theorem dX8_isSolid_0 : decode cX8_isSolid 0 = .ok (.aload_n 0, 1) := by decide +kernel
theorem dX8_isSolid_1 : decode cX8_isSolid 1 = .ok (.getfield 15, 3) := by decide +kernel
theorem dX8_isSolid_4 : decode cX8_isSolid 4 = .ok (.iconst 1, 1) := by decide +kernel
theorem dX8_isSolid_5 : decode cX8_isSolid 5 = .ok (.iaload, 1) := by decide +kernel
theorem dX8_isSolid_6 : decode cX8_isSolid 6 = .ok (.iconst 2, 1) := by decide +kernel
theorem dX8_isSolid_7 : decode cX8_isSolid 7 = .ok (.if_icmp .ne 16, 3) := by decide +kernel
theorem dX8_isSolid_10 : decode cX8_isSolid 10 = .ok (.iload_n 1, 1) := by decide +kernel
theorem dX8_isSolid_11 : decode cX8_isSolid 11 = .ok (.iconst 2, 1) := by decide +kernel
theorem dX8_isSolid_12 : decode cX8_isSolid 12 = .ok (.if_icmp .lt 7, 3) := by decide +kernel
theorem dX8_isSolid_15 : decode cX8_isSolid 15 = .ok (.iconst 1, 1) := by decide +kernel
theorem dX8_isSolid_16 : decode cX8_isSolid 16 = .ok (.goto 17, 3) := by decide +kernel
theorem dX8_isSolid_19 : decode cX8_isSolid 19 = .ok (.iconst 0, 1) := by decide +kernel
theorem dX8_isSolid_20 : decode cX8_isSolid 20 = .ok (.goto 13, 3) := by decide +kernel
theorem dX8_isSolid_23 : decode cX8_isSolid 23 = .ok (.iload_n 1, 1) := by decide +kernel
theorem dX8_isSolid_24 : decode cX8_isSolid 24 = .ok (.iconst 1, 1) := by decide +kernel
theorem dX8_isSolid_25 : decode cX8_isSolid 25 = .ok (.if_icmp .ne 7, 3) := by decide +kernel
theorem dX8_isSolid_28 : decode cX8_isSolid 28 = .ok (.iconst 1, 1) := by decide +kernel
theorem dX8_isSolid_29 : decode cX8_isSolid 29 = .ok (.goto 4, 3) := by decide +kernel
theorem dX8_isSolid_32 : decode cX8_isSolid 32 = .ok (.iconst 0, 1) := by decide +kernel
theorem dX8_isSolid_33 : decode cX8_isSolid 33 = .ok (.ireturn, 1) := by decide +kernel
theorem dX8_spritesAt_0 : decode cX8_spritesAt 0 = .ok (.iconst 0, 1) := by decide +kernel
theorem dX8_spritesAt_1 : decode cX8_spritesAt 1 = .ok (.istore_n 3, 1) := by decide +kernel
theorem dX8_spritesAt_2 : decode cX8_spritesAt 2 = .ok (.iconst 0, 1) := by decide +kernel
theorem dX8_spritesAt_3 : decode cX8_spritesAt 3 = .ok (.istore 4, 2) := by decide +kernel
theorem dX8_spritesAt_5 : decode cX8_spritesAt 5 = .ok (.iload 4, 2) := by decide +kernel
theorem dX8_spritesAt_7 : decode cX8_spritesAt 7 = .ok (.iconst 4, 1) := by decide +kernel
theorem dX8_spritesAt_8 : decode cX8_spritesAt 8 = .ok (.if_icmp .ge 135, 3) := by decide +kernel
theorem dX8_spritesAt_11 : decode cX8_spritesAt 11 = .ok (.aload_n 0, 1) := by decide +kernel
theorem dX8_spritesAt_12 : decode cX8_spritesAt 12 = .ok (.bipush 18, 2) := by decide +kernel
theorem dX8_spritesAt_14 : decode cX8_spritesAt 14 = .ok (.iload 4, 2) := by decide +kernel
theorem dX8_spritesAt_16 : decode cX8_spritesAt 16 = .ok (.invokevirtual 41, 3) := by decide +kernel
theorem dX8_spritesAt_19 : decode cX8_spritesAt 19 = .ok (.istore 5, 2) := by decide +kernel
theorem dX8_spritesAt_21 : decode cX8_spritesAt 21 = .ok (.iload_n 1, 1) := by decide +kernel
theorem dX8_spritesAt_22 : decode cX8_spritesAt 22 = .ok (.aload_n 0, 1) := by decide +kernel
theorem dX8_spritesAt_23 : decode cX8_spritesAt 23 = .ok (.getfield 15, 3) := by decide +kernel
theorem dX8_spritesAt_26 : decode cX8_spritesAt 26 = .ok (.bipush 20, 2) := by decide +kernel
theorem dX8_spritesAt_28 : decode cX8_spritesAt 28 = .ok (.iload 4, 2) := by decide +kernel
theorem dX8_spritesAt_30 : decode cX8_spritesAt 30 = .ok (.iadd, 1) := by decide +kernel
theorem dX8_spritesAt_31 : decode cX8_spritesAt 31 = .ok (.iaload, 1) := by decide +kernel
theorem dX8_spritesAt_32 : decode cX8_spritesAt 32 = .ok (.isub, 1) := by decide +kernel
theorem dX8_spritesAt_33 : decode cX8_spritesAt 33 = .ok (.iload 5, 2) := by decide +kernel
theorem dX8_spritesAt_35 : decode cX8_spritesAt 35 = .ok (.ishr, 1) := by decide +kernel
theorem dX8_spritesAt_36 : decode cX8_spritesAt 36 = .ok (.istore 6, 2) := by decide +kernel
theorem dX8_spritesAt_38 : decode cX8_spritesAt 38 = .ok (.iload_n 2, 1) := by decide +kernel
theorem dX8_spritesAt_39 : decode cX8_spritesAt 39 = .ok (.aload_n 0, 1) := by decide +kernel
theorem dX8_spritesAt_40 : decode cX8_spritesAt 40 = .ok (.getfield 15, 3) := by decide +kernel
theorem dX8_spritesAt_43 : decode cX8_spritesAt 43 = .ok (.bipush 24, 2) := by decide +kernel
theorem dX8_spritesAt_45 : decode cX8_spritesAt 45 = .ok (.iload 4, 2) := by decide +kernel
theorem dX8_spritesAt_47 : decode cX8_spritesAt 47 = .ok (.iadd, 1) := by decide +kernel
theorem dX8_spritesAt_48 : decode cX8_spritesAt 48 = .ok (.iaload, 1) := by decide +kernel
theorem dX8_spritesAt_49 : decode cX8_spritesAt 49 = .ok (.isub, 1) := by decide +kernel
theorem dX8_spritesAt_50 : decode cX8_spritesAt 50 = .ok (.iload 5, 2) := by decide +kernel
theorem dX8_spritesAt_52 : decode cX8_spritesAt 52 = .ok (.ishr, 1) := by decide +kernel
theorem dX8_spritesAt_53 : decode cX8_spritesAt 53 = .ok (.istore 7, 2) := by decide +kernel
theorem dX8_spritesAt_55 : decode cX8_spritesAt 55 = .ok (.aload_n 0, 1) := by decide +kernel
theorem dX8_spritesAt_56 : decode cX8_spritesAt 56 = .ok (.bipush 17, 2) := by decide +kernel
theorem dX8_spritesAt_58 : decode cX8_spritesAt 58 = .ok (.iload 4, 2) := by decide +kernel
theorem dX8_spritesAt_60 : decode cX8_spritesAt 60 = .ok (.invokevirtual 41, 3) := by decide +kernel
theorem dX8_spritesAt_63 : decode cX8_spritesAt 63 = .ok (.iconst 1, 1) := by decide +kernel
theorem dX8_spritesAt_64 : decode cX8_spritesAt 64 = .ok (.if_icmp .ne 73, 3) := by decide +kernel
theorem dX8_spritesAt_67 : decode cX8_spritesAt 67 = .ok (.iload 6, 2) := by decide +kernel
theorem dX8_spritesAt_69 : decode cX8_spritesAt 69 = .ok (.ifCond .lt 68, 3) := by decide +kernel
theorem dX8_spritesAt_72 : decode cX8_spritesAt 72 = .ok (.iload 6, 2) := by decide +kernel
theorem dX8_spritesAt_74 : decode cX8_spritesAt 74 = .ok (.bipush 8, 2) := by decide +kernel
theorem dX8_spritesAt_76 : decode cX8_spritesAt 76 = .ok (.if_icmp .ge 61, 3) := by decide +kernel
theorem dX8_spritesAt_79 : decode cX8_spritesAt 79 = .ok (.iload 7, 2) := by decide +kernel
theorem dX8_spritesAt_81 : decode cX8_spritesAt 81 = .ok (.ifCond .lt 56, 3) := by decide +kernel
theorem dX8_spritesAt_84 : decode cX8_spritesAt 84 = .ok (.iload 7, 2) := by decide +kernel
theorem dX8_spritesAt_86 : decode cX8_spritesAt 86 = .ok (.bipush 8, 2) := by decide +kernel
theorem dX8_spritesAt_88 : decode cX8_spritesAt 88 = .ok (.if_icmp .ge 49, 3) := by decide +kernel
theorem dX8_spritesAt_91 : decode cX8_spritesAt 91 = .ok (.aload_n 0, 1) := by decide +kernel
theorem dX8_spritesAt_92 : decode cX8_spritesAt 92 = .ok (.sipush 256, 3) := by decide +kernel
theorem dX8_spritesAt_95 : decode cX8_spritesAt 95 = .ok (.aload_n 0, 1) := by decide +kernel
theorem dX8_spritesAt_96 : decode cX8_spritesAt 96 = .ok (.getfield 15, 3) := by decide +kernel
theorem dX8_spritesAt_99 : decode cX8_spritesAt 99 = .ok (.bipush 7, 2) := by decide +kernel
theorem dX8_spritesAt_101 : decode cX8_spritesAt 101 = .ok (.iaload, 1) := by decide +kernel
theorem dX8_spritesAt_102 : decode cX8_spritesAt 102 = .ok (.imul, 1) := by decide +kernel
theorem dX8_spritesAt_103 : decode cX8_spritesAt 103 = .ok (.sipush 128, 3) := by decide +kernel
theorem dX8_spritesAt_106 : decode cX8_spritesAt 106 = .ok (.iadd, 1) := by decide +kernel
theorem dX8_spritesAt_107 : decode cX8_spritesAt 107 = .ok (.bipush 8, 2) := by decide +kernel
theorem dX8_spritesAt_109 : decode cX8_spritesAt 109 = .ok (.iload 4, 2) := by decide +kernel
theorem dX8_spritesAt_111 : decode cX8_spritesAt 111 = .ok (.imul, 1) := by decide +kernel
theorem dX8_spritesAt_112 : decode cX8_spritesAt 112 = .ok (.iadd, 1) := by decide +kernel
theorem dX8_spritesAt_113 : decode cX8_spritesAt 113 = .ok (.iload 7, 2) := by decide +kernel
theorem dX8_spritesAt_115 : decode cX8_spritesAt 115 = .ok (.iadd, 1) := by decide +kernel
theorem dX8_spritesAt_116 : decode cX8_spritesAt 116 = .ok (.invokevirtual 48, 3) := by decide +kernel
theorem dX8_spritesAt_119 : decode cX8_spritesAt 119 = .ok (.istore 8, 2) := by decide +kernel
theorem dX8_spritesAt_121 : decode cX8_spritesAt 121 = .ok (.iload_n 3, 1) := by decide +kernel
theorem dX8_spritesAt_122 : decode cX8_spritesAt 122 = .ok (.iload 8, 2) := by decide +kernel
theorem dX8_spritesAt_124 : decode cX8_spritesAt 124 = .ok (.bipush 7, 2) := by decide +kernel
theorem dX8_spritesAt_126 : decode cX8_spritesAt 126 = .ok (.iload 6, 2) := by decide +kernel
theorem dX8_spritesAt_128 : decode cX8_spritesAt 128 = .ok (.isub, 1) := by decide +kernel
theorem dX8_spritesAt_129 : decode cX8_spritesAt 129 = .ok (.ishr, 1) := by decide +kernel
theorem dX8_spritesAt_130 : decode cX8_spritesAt 130 = .ok (.iconst 1, 1) := by decide +kernel
theorem dX8_spritesAt_131 : decode cX8_spritesAt 131 = .ok (.iand, 1) := by decide +kernel
theorem dX8_spritesAt_132 : decode cX8_spritesAt 132 = .ok (.iload 4, 2) := by decide +kernel
theorem dX8_spritesAt_134 : decode cX8_spritesAt 134 = .ok (.ishl, 1) := by decide +kernel
theorem dX8_spritesAt_135 : decode cX8_spritesAt 135 = .ok (.ior, 1) := by decide +kernel
theorem dX8_spritesAt_136 : decode cX8_spritesAt 136 = .ok (.istore_n 3, 1) := by decide +kernel
theorem dX8_spritesAt_137 : decode cX8_spritesAt 137 = .ok (.iinc 4 1, 3) := by decide +kernel
theorem dX8_spritesAt_140 : decode cX8_spritesAt 140 = .ok (.goto (-135), 3) := by decide +kernel
theorem dX8_spritesAt_143 : decode cX8_spritesAt 143 = .ok (.iload_n 3, 1) := by decide +kernel
theorem dX8_spritesAt_144 : decode cX8_spritesAt 144 = .ok (.ireturn, 1) := by decide +kernel
theorem dX8_colourOf_0 : decode cX8_colourOf 0 = .ok (.iconst 0, 1) := by decide +kernel
theorem dX8_colourOf_1 : decode cX8_colourOf 1 = .ok (.istore_n 3, 1) := by decide +kernel
theorem dX8_colourOf_2 : decode cX8_colourOf 2 = .ok (.iload_n 3, 1) := by decide +kernel
theorem dX8_colourOf_3 : decode cX8_colourOf 3 = .ok (.iconst 4, 1) := by decide +kernel
theorem dX8_colourOf_4 : decode cX8_colourOf 4 = .ok (.if_icmp .ge 75, 3) := by decide +kernel
theorem dX8_colourOf_7 : decode cX8_colourOf 7 = .ok (.iload_n 2, 1) := by decide +kernel
theorem dX8_colourOf_8 : decode cX8_colourOf 8 = .ok (.iload_n 3, 1) := by decide +kernel
theorem dX8_colourOf_9 : decode cX8_colourOf 9 = .ok (.ishr, 1) := by decide +kernel
theorem dX8_colourOf_10 : decode cX8_colourOf 10 = .ok (.iconst 1, 1) := by decide +kernel
theorem dX8_colourOf_11 : decode cX8_colourOf 11 = .ok (.iand, 1) := by decide +kernel
theorem dX8_colourOf_12 : decode cX8_colourOf 12 = .ok (.iconst 1, 1) := by decide +kernel
theorem dX8_colourOf_13 : decode cX8_colourOf 13 = .ok (.if_icmp .ne 60, 3) := by decide +kernel
theorem dX8_colourOf_16 : decode cX8_colourOf 16 = .ok (.aload_n 0, 1) := by decide +kernel
theorem dX8_colourOf_17 : decode cX8_colourOf 17 = .ok (.bipush 19, 2) := by decide +kernel
theorem dX8_colourOf_19 : decode cX8_colourOf 19 = .ok (.iload_n 3, 1) := by decide +kernel
theorem dX8_colourOf_20 : decode cX8_colourOf 20 = .ok (.invokevirtual 41, 3) := by decide +kernel
theorem dX8_colourOf_23 : decode cX8_colourOf 23 = .ok (.iconst 1, 1) := by decide +kernel
theorem dX8_colourOf_24 : decode cX8_colourOf 24 = .ok (.if_icmp .ne 15, 3) := by decide +kernel
theorem dX8_colourOf_27 : decode cX8_colourOf 27 = .ok (.aload_n 0, 1) := by decide +kernel
theorem dX8_colourOf_28 : decode cX8_colourOf 28 = .ok (.iload_n 1, 1) := by decide +kernel
theorem dX8_colourOf_29 : decode cX8_colourOf 29 = .ok (.invokevirtual 52, 3) := by decide +kernel
theorem dX8_colourOf_32 : decode cX8_colourOf 32 = .ok (.ifCond .eq 7, 3) := by decide +kernel
theorem dX8_colourOf_35 : decode cX8_colourOf 35 = .ok (.iconst 1, 1) := by decide +kernel
theorem dX8_colourOf_36 : decode cX8_colourOf 36 = .ok (.goto 4, 3) := by decide +kernel
theorem dX8_colourOf_39 : decode cX8_colourOf 39 = .ok (.iconst 0, 1) := by decide +kernel
theorem dX8_colourOf_40 : decode cX8_colourOf 40 = .ok (.istore 4, 2) := by decide +kernel
theorem dX8_colourOf_42 : decode cX8_colourOf 42 = .ok (.iload 4, 2) := by decide +kernel
theorem dX8_colourOf_44 : decode cX8_colourOf 44 = .ok (.ifCond .eq 16, 3) := by decide +kernel
theorem dX8_colourOf_47 : decode cX8_colourOf 47 = .ok (.aload_n 0, 1) := by decide +kernel
theorem dX8_colourOf_48 : decode cX8_colourOf 48 = .ok (.getfield 15, 3) := by decide +kernel
theorem dX8_colourOf_51 : decode cX8_colourOf 51 = .ok (.iconst 3, 1) := by decide +kernel
theorem dX8_colourOf_52 : decode cX8_colourOf 52 = .ok (.iload_n 1, 1) := by decide +kernel
theorem dX8_colourOf_53 : decode cX8_colourOf 53 = .ok (.iconst 3, 1) := by decide +kernel
theorem dX8_colourOf_54 : decode cX8_colourOf 54 = .ok (.iand, 1) := by decide +kernel
theorem dX8_colourOf_55 : decode cX8_colourOf 55 = .ok (.iadd, 1) := by decide +kernel
theorem dX8_colourOf_56 : decode cX8_colourOf 56 = .ok (.iaload, 1) := by decide +kernel
theorem dX8_colourOf_57 : decode cX8_colourOf 57 = .ok (.goto 15, 3) := by decide +kernel
theorem dX8_colourOf_60 : decode cX8_colourOf 60 = .ok (.aload_n 0, 1) := by decide +kernel
theorem dX8_colourOf_61 : decode cX8_colourOf 61 = .ok (.getfield 15, 3) := by decide +kernel
theorem dX8_colourOf_64 : decode cX8_colourOf 64 = .ok (.bipush 28, 2) := by decide +kernel
theorem dX8_colourOf_66 : decode cX8_colourOf 66 = .ok (.iaload, 1) := by decide +kernel
theorem dX8_colourOf_67 : decode cX8_colourOf 67 = .ok (.iload_n 3, 1) := by decide +kernel
theorem dX8_colourOf_68 : decode cX8_colourOf 68 = .ok (.iadd, 1) := by decide +kernel
theorem dX8_colourOf_69 : decode cX8_colourOf 69 = .ok (.bipush 16, 2) := by decide +kernel
theorem dX8_colourOf_71 : decode cX8_colourOf 71 = .ok (.irem, 1) := by decide +kernel
theorem dX8_colourOf_72 : decode cX8_colourOf 72 = .ok (.ireturn, 1) := by decide +kernel
theorem dX8_colourOf_73 : decode cX8_colourOf 73 = .ok (.iinc 3 1, 3) := by decide +kernel
theorem dX8_colourOf_76 : decode cX8_colourOf 76 = .ok (.goto (-74), 3) := by decide +kernel
theorem dX8_colourOf_79 : decode cX8_colourOf 79 = .ok (.aload_n 0, 1) := by decide +kernel
theorem dX8_colourOf_80 : decode cX8_colourOf 80 = .ok (.getfield 15, 3) := by decide +kernel
theorem dX8_colourOf_83 : decode cX8_colourOf 83 = .ok (.iconst 3, 1) := by decide +kernel
theorem dX8_colourOf_84 : decode cX8_colourOf 84 = .ok (.iload_n 1, 1) := by decide +kernel
theorem dX8_colourOf_85 : decode cX8_colourOf 85 = .ok (.iconst 3, 1) := by decide +kernel
theorem dX8_colourOf_86 : decode cX8_colourOf 86 = .ok (.iand, 1) := by decide +kernel
theorem dX8_colourOf_87 : decode cX8_colourOf 87 = .ok (.iadd, 1) := by decide +kernel
theorem dX8_colourOf_88 : decode cX8_colourOf 88 = .ok (.iaload, 1) := by decide +kernel
theorem dX8_colourOf_89 : decode cX8_colourOf 89 = .ok (.ireturn, 1) := by decide +kernel
theorem dX8_noteHits_0 : decode cX8_noteHits 0 = .ok (.iload_n 2, 1) := by decide +kernel
theorem dX8_noteHits_1 : decode cX8_noteHits 1 = .ok (.invokestatic 56, 3) := by decide +kernel
theorem dX8_noteHits_4 : decode cX8_noteHits 4 = .ok (.iconst 1, 1) := by decide +kernel
theorem dX8_noteHits_5 : decode cX8_noteHits 5 = .ok (.if_icmp .le 14, 3) := by decide +kernel
theorem dX8_noteHits_8 : decode cX8_noteHits 8 = .ok (.aload_n 0, 1) := by decide +kernel
theorem dX8_noteHits_9 : decode cX8_noteHits 9 = .ok (.getfield 15, 3) := by decide +kernel
theorem dX8_noteHits_12 : decode cX8_noteHits 12 = .ok (.bipush 29, 2) := by decide +kernel
theorem dX8_noteHits_14 : decode cX8_noteHits 14 = .ok (.dup2, 1) := by decide +kernel
theorem dX8_noteHits_15 : decode cX8_noteHits 15 = .ok (.iaload, 1) := by decide +kernel
theorem dX8_noteHits_16 : decode cX8_noteHits 16 = .ok (.iload_n 2, 1) := by decide +kernel
theorem dX8_noteHits_17 : decode cX8_noteHits 17 = .ok (.ior, 1) := by decide +kernel
theorem dX8_noteHits_18 : decode cX8_noteHits 18 = .ok (.iastore, 1) := by decide +kernel
theorem dX8_noteHits_19 : decode cX8_noteHits 19 = .ok (.aload_n 0, 1) := by decide +kernel
theorem dX8_noteHits_20 : decode cX8_noteHits 20 = .ok (.iload_n 1, 1) := by decide +kernel
theorem dX8_noteHits_21 : decode cX8_noteHits 21 = .ok (.invokevirtual 52, 3) := by decide +kernel
theorem dX8_noteHits_24 : decode cX8_noteHits 24 = .ok (.ifCond .eq 14, 3) := by decide +kernel
theorem dX8_noteHits_27 : decode cX8_noteHits 27 = .ok (.aload_n 0, 1) := by decide +kernel
theorem dX8_noteHits_28 : decode cX8_noteHits 28 = .ok (.getfield 15, 3) := by decide +kernel
theorem dX8_noteHits_31 : decode cX8_noteHits 31 = .ok (.bipush 30, 2) := by decide +kernel
theorem dX8_noteHits_33 : decode cX8_noteHits 33 = .ok (.dup2, 1) := by decide +kernel
theorem dX8_noteHits_34 : decode cX8_noteHits 34 = .ok (.iaload, 1) := by decide +kernel
theorem dX8_noteHits_35 : decode cX8_noteHits 35 = .ok (.iload_n 2, 1) := by decide +kernel
theorem dX8_noteHits_36 : decode cX8_noteHits 36 = .ok (.ior, 1) := by decide +kernel
theorem dX8_noteHits_37 : decode cX8_noteHits 37 = .ok (.iastore, 1) := by decide +kernel
theorem dX8_noteHits_38 : decode cX8_noteHits 38 = .ok (.return_, 1) := by decide +kernel
theorem dX9_init_0 : decode cX9_init 0 = .ok (.aload_n 0, 1) := by decide +kernel
theorem dX9_init_1 : decode cX9_init 1 = .ok (.invokespecial 3, 3) := by decide +kernel
theorem dX9_init_4 : decode cX9_init 4 = .ok (.aload_n 0, 1) := by decide +kernel
theorem dX9_init_5 : decode cX9_init 5 = .ok (.bipush 40, 2) := by decide +kernel
theorem dX9_init_7 : decode cX9_init 7 = .ok (.newarray .int, 2) := by decide +kernel
theorem dX9_init_9 : decode cX9_init 9 = .ok (.putfield 9, 3) := by decide +kernel
theorem dX9_init_12 : decode cX9_init 12 = .ok (.return_, 1) := by decide +kernel
theorem dX9_become_0 : decode cX9_become 0 = .ok (.aload_n 1, 1) := by decide +kernel
theorem dX9_become_1 : decode cX9_become 1 = .ok (.getfield 9, 3) := by decide +kernel
theorem dX9_become_4 : decode cX9_become 4 = .ok (.iconst 0, 1) := by decide +kernel
theorem dX9_become_5 : decode cX9_become 5 = .ok (.aload_n 0, 1) := by decide +kernel
theorem dX9_become_6 : decode cX9_become 6 = .ok (.getfield 9, 3) := by decide +kernel
theorem dX9_become_9 : decode cX9_become 9 = .ok (.iconst 0, 1) := by decide +kernel
theorem dX9_become_10 : decode cX9_become 10 = .ok (.bipush 40, 2) := by decide +kernel
theorem dX9_become_12 : decode cX9_become 12 = .ok (.invokestatic 15, 3) := by decide +kernel
theorem dX9_become_15 : decode cX9_become 15 = .ok (.aload_n 0, 1) := by decide +kernel
theorem dX9_become_16 : decode cX9_become 16 = .ok (.aload_n 1, 1) := by decide +kernel
theorem dX9_become_17 : decode cX9_become 17 = .ok (.getfield 21, 3) := by decide +kernel
theorem dX9_become_20 : decode cX9_become 20 = .ok (.putfield 21, 3) := by decide +kernel
theorem dX9_become_23 : decode cX9_become 23 = .ok (.aload_n 0, 1) := by decide +kernel
theorem dX9_become_24 : decode cX9_become 24 = .ok (.aload_n 1, 1) := by decide +kernel
theorem dX9_become_25 : decode cX9_become 25 = .ok (.getfield 25, 3) := by decide +kernel
theorem dX9_become_28 : decode cX9_become 28 = .ok (.putfield 25, 3) := by decide +kernel
theorem dX9_become_31 : decode cX9_become 31 = .ok (.aload_n 0, 1) := by decide +kernel
theorem dX9_become_32 : decode cX9_become 32 = .ok (.aload_n 1, 1) := by decide +kernel
theorem dX9_become_33 : decode cX9_become 33 = .ok (.getfield 28, 3) := by decide +kernel
theorem dX9_become_36 : decode cX9_become 36 = .ok (.putfield 28, 3) := by decide +kernel
theorem dX9_become_39 : decode cX9_become 39 = .ok (.aload_n 0, 1) := by decide +kernel
theorem dX9_become_40 : decode cX9_become 40 = .ok (.aload_n 1, 1) := by decide +kernel
theorem dX9_become_41 : decode cX9_become 41 = .ok (.getfield 31, 3) := by decide +kernel
theorem dX9_become_44 : decode cX9_become 44 = .ok (.putfield 31, 3) := by decide +kernel
theorem dX9_become_47 : decode cX9_become 47 = .ok (.return_, 1) := by decide +kernel
theorem dX9_add_0 : decode cX9_add 0 = .ok (.aload_n 0, 1) := by decide +kernel
theorem dX9_add_1 : decode cX9_add 1 = .ok (.getfield 21, 3) := by decide +kernel
theorem dX9_add_4 : decode cX9_add 4 = .ok (.ifCond .lt 32, 3) := by decide +kernel
theorem dX9_add_7 : decode cX9_add 7 = .ok (.aload_n 0, 1) := by decide +kernel
theorem dX9_add_8 : decode cX9_add 8 = .ok (.getfield 21, 3) := by decide +kernel
theorem dX9_add_11 : decode cX9_add 11 = .ok (.bipush 40, 2) := by decide +kernel
theorem dX9_add_13 : decode cX9_add 13 = .ok (.if_icmp .ge 23, 3) := by decide +kernel
theorem dX9_add_16 : decode cX9_add 16 = .ok (.aload_n 0, 1) := by decide +kernel
theorem dX9_add_17 : decode cX9_add 17 = .ok (.getfield 9, 3) := by decide +kernel
theorem dX9_add_20 : decode cX9_add 20 = .ok (.aload_n 0, 1) := by decide +kernel
theorem dX9_add_21 : decode cX9_add 21 = .ok (.getfield 21, 3) := by decide +kernel
theorem dX9_add_24 : decode cX9_add 24 = .ok (.iload_n 1, 1) := by decide +kernel
theorem dX9_add_25 : decode cX9_add 25 = .ok (.iastore, 1) := by decide +kernel
theorem dX9_add_26 : decode cX9_add 26 = .ok (.aload_n 0, 1) := by decide +kernel
theorem dX9_add_27 : decode cX9_add 27 = .ok (.dup, 1) := by decide +kernel
theorem dX9_add_28 : decode cX9_add 28 = .ok (.getfield 21, 3) := by decide +kernel
theorem dX9_add_31 : decode cX9_add 31 = .ok (.iconst 1, 1) := by decide +kernel
theorem dX9_add_32 : decode cX9_add 32 = .ok (.iadd, 1) := by decide +kernel
theorem dX9_add_33 : decode cX9_add 33 = .ok (.putfield 21, 3) := by decide +kernel
theorem dX9_add_36 : decode cX9_add 36 = .ok (.aload_n 0, 1) := by decide +kernel
theorem dX9_add_37 : decode cX9_add 37 = .ok (.getfield 21, 3) := by decide +kernel
theorem dX9_add_40 : decode cX9_add 40 = .ok (.ireturn, 1) := by decide +kernel
theorem dX9_windBack_0 : decode cX9_windBack 0 = .ok (.aload_n 0, 1) := by decide +kernel
theorem dX9_windBack_1 : decode cX9_windBack 1 = .ok (.getfield 25, 3) := by decide +kernel
theorem dX9_windBack_4 : decode cX9_windBack 4 = .ok (.istore_n 1, 1) := by decide +kernel
theorem dX9_windBack_5 : decode cX9_windBack 5 = .ok (.aload_n 0, 1) := by decide +kernel
theorem dX9_windBack_6 : decode cX9_windBack 6 = .ok (.iconst 0, 1) := by decide +kernel
theorem dX9_windBack_7 : decode cX9_windBack 7 = .ok (.putfield 25, 3) := by decide +kernel
theorem dX9_windBack_10 : decode cX9_windBack 10 = .ok (.aload_n 0, 1) := by decide +kernel
theorem dX9_windBack_11 : decode cX9_windBack 11 = .ok (.iconst 0, 1) := by decide +kernel
theorem dX9_windBack_12 : decode cX9_windBack 12 = .ok (.putfield 28, 3) := by decide +kernel
theorem dX9_windBack_15 : decode cX9_windBack 15 = .ok (.iload_n 1, 1) := by decide +kernel
theorem dX9_windBack_16 : decode cX9_windBack 16 = .ok (.ireturn, 1) := by decide +kernel
theorem dX9_isPulseOver_0 : decode cX9_isPulseOver 0 = .ok (.aload_n 0, 1) := by decide +kernel
theorem dX9_isPulseOver_1 : decode cX9_isPulseOver 1 = .ok (.getfield 25, 3) := by decide +kernel
theorem dX9_isPulseOver_4 : decode cX9_isPulseOver 4 = .ok (.ifCond .lt 23, 3) := by decide +kernel
theorem dX9_isPulseOver_7 : decode cX9_isPulseOver 7 = .ok (.aload_n 0, 1) := by decide +kernel
theorem dX9_isPulseOver_8 : decode cX9_isPulseOver 8 = .ok (.getfield 25, 3) := by decide +kernel
theorem dX9_isPulseOver_11 : decode cX9_isPulseOver 11 = .ok (.aload_n 0, 1) := by decide +kernel
theorem dX9_isPulseOver_12 : decode cX9_isPulseOver 12 = .ok (.getfield 21, 3) := by decide +kernel
theorem dX9_isPulseOver_15 : decode cX9_isPulseOver 15 = .ok (.if_icmp .ge 12, 3) := by decide +kernel
theorem dX9_isPulseOver_18 : decode cX9_isPulseOver 18 = .ok (.aload_n 0, 1) := by decide +kernel
theorem dX9_isPulseOver_19 : decode cX9_isPulseOver 19 = .ok (.getfield 25, 3) := by decide +kernel
theorem dX9_isPulseOver_22 : decode cX9_isPulseOver 22 = .ok (.bipush 40, 2) := by decide +kernel
theorem dX9_isPulseOver_24 : decode cX9_isPulseOver 24 = .ok (.if_icmp .lt 5, 3) := by decide +kernel
theorem dX9_isPulseOver_27 : decode cX9_isPulseOver 27 = .ok (.iconst 0, 1) := by decide +kernel
theorem dX9_isPulseOver_28 : decode cX9_isPulseOver 28 = .ok (.ireturn, 1) := by decide +kernel
theorem dX9_isPulseOver_29 : decode cX9_isPulseOver 29 = .ok (.aload_n 0, 1) := by decide +kernel
theorem dX9_isPulseOver_30 : decode cX9_isPulseOver 30 = .ok (.dup, 1) := by decide +kernel
theorem dX9_isPulseOver_31 : decode cX9_isPulseOver 31 = .ok (.getfield 28, 3) := by decide +kernel
theorem dX9_isPulseOver_34 : decode cX9_isPulseOver 34 = .ok (.iconst 1, 1) := by decide +kernel
theorem dX9_isPulseOver_35 : decode cX9_isPulseOver 35 = .ok (.iadd, 1) := by decide +kernel
theorem dX9_isPulseOver_36 : decode cX9_isPulseOver 36 = .ok (.putfield 28, 3) := by decide +kernel
theorem dX9_isPulseOver_39 : decode cX9_isPulseOver 39 = .ok (.aload_n 0, 1) := by decide +kernel
theorem dX9_isPulseOver_40 : decode cX9_isPulseOver 40 = .ok (.getfield 28, 3) := by decide +kernel
theorem dX9_isPulseOver_43 : decode cX9_isPulseOver 43 = .ok (.aload_n 0, 1) := by decide +kernel
theorem dX9_isPulseOver_44 : decode cX9_isPulseOver 44 = .ok (.getfield 9, 3) := by decide +kernel
theorem dX9_isPulseOver_47 : decode cX9_isPulseOver 47 = .ok (.aload_n 0, 1) := by decide +kernel
theorem dX9_isPulseOver_48 : decode cX9_isPulseOver 48 = .ok (.getfield 25, 3) := by decide +kernel
theorem dX9_isPulseOver_51 : decode cX9_isPulseOver 51 = .ok (.iaload, 1) := by decide +kernel
theorem dX9_isPulseOver_52 : decode cX9_isPulseOver 52 = .ok (.if_icmp .ge 5, 3) := by decide +kernel
theorem dX9_isPulseOver_55 : decode cX9_isPulseOver 55 = .ok (.iconst 0, 1) := by decide +kernel
theorem dX9_isPulseOver_56 : decode cX9_isPulseOver 56 = .ok (.ireturn, 1) := by decide +kernel
theorem dX9_isPulseOver_57 : decode cX9_isPulseOver 57 = .ok (.aload_n 0, 1) := by decide +kernel
theorem dX9_isPulseOver_58 : decode cX9_isPulseOver 58 = .ok (.iconst 0, 1) := by decide +kernel
theorem dX9_isPulseOver_59 : decode cX9_isPulseOver 59 = .ok (.putfield 28, 3) := by decide +kernel
theorem dX9_isPulseOver_62 : decode cX9_isPulseOver 62 = .ok (.aload_n 0, 1) := by decide +kernel
theorem dX9_isPulseOver_63 : decode cX9_isPulseOver 63 = .ok (.dup, 1) := by decide +kernel
theorem dX9_isPulseOver_64 : decode cX9_isPulseOver 64 = .ok (.getfield 25, 3) := by decide +kernel
theorem dX9_isPulseOver_67 : decode cX9_isPulseOver 67 = .ok (.iconst 1, 1) := by decide +kernel
theorem dX9_isPulseOver_68 : decode cX9_isPulseOver 68 = .ok (.iadd, 1) := by decide +kernel
theorem dX9_isPulseOver_69 : decode cX9_isPulseOver 69 = .ok (.putfield 25, 3) := by decide +kernel
theorem dX9_isPulseOver_72 : decode cX9_isPulseOver 72 = .ok (.aload_n 0, 1) := by decide +kernel
theorem dX9_isPulseOver_73 : decode cX9_isPulseOver 73 = .ok (.iconst 1, 1) := by decide +kernel
theorem dX9_isPulseOver_74 : decode cX9_isPulseOver 74 = .ok (.aload_n 0, 1) := by decide +kernel
theorem dX9_isPulseOver_75 : decode cX9_isPulseOver 75 = .ok (.getfield 31, 3) := by decide +kernel
theorem dX9_isPulseOver_78 : decode cX9_isPulseOver 78 = .ok (.isub, 1) := by decide +kernel
theorem dX9_isPulseOver_79 : decode cX9_isPulseOver 79 = .ok (.putfield 31, 3) := by decide +kernel
theorem dX9_isPulseOver_82 : decode cX9_isPulseOver 82 = .ok (.iconst 1, 1) := by decide +kernel
theorem dX9_isPulseOver_83 : decode cX9_isPulseOver 83 = .ok (.ireturn, 1) := by decide +kernel
theorem dX10_init_0 : decode cX10_init 0 = .ok (.aload_n 0, 1) := by decide +kernel
theorem dX10_init_1 : decode cX10_init 1 = .ok (.invokespecial 3, 3) := by decide +kernel
theorem dX10_init_4 : decode cX10_init 4 = .ok (.aload_n 0, 1) := by decide +kernel
theorem dX10_init_5 : decode cX10_init 5 = .ok (.iconst 3, 1) := by decide +kernel
theorem dX10_init_6 : decode cX10_init 6 = .ok (.newarray .int, 2) := by decide +kernel
theorem dX10_init_8 : decode cX10_init 8 = .ok (.putfield 11, 3) := by decide +kernel
theorem dX10_init_11 : decode cX10_init 11 = .ok (.aload_n 0, 1) := by decide +kernel
theorem dX10_init_12 : decode cX10_init 12 = .ok (.iconst 3, 1) := by decide +kernel
theorem dX10_init_13 : decode cX10_init 13 = .ok (.newarray .int, 2) := by decide +kernel
theorem dX10_init_15 : decode cX10_init 15 = .ok (.putfield 15, 3) := by decide +kernel
theorem dX10_init_18 : decode cX10_init 18 = .ok (.aload_n 0, 1) := by decide +kernel
theorem dX10_init_19 : decode cX10_init 19 = .ok (.iconst 3, 1) := by decide +kernel
theorem dX10_init_20 : decode cX10_init 20 = .ok (.newarray .int, 2) := by decide +kernel
theorem dX10_init_22 : decode cX10_init 22 = .ok (.putfield 18, 3) := by decide +kernel
theorem dX10_init_25 : decode cX10_init 25 = .ok (.aload_n 0, 1) := by decide +kernel
theorem dX10_init_26 : decode cX10_init 26 = .ok (.iconst 3, 1) := by decide +kernel
theorem dX10_init_27 : decode cX10_init 27 = .ok (.newarray .int, 2) := by decide +kernel
theorem dX10_init_29 : decode cX10_init 29 = .ok (.dup, 1) := by decide +kernel
theorem dX10_init_30 : decode cX10_init 30 = .ok (.iconst 0, 1) := by decide +kernel
theorem dX10_init_31 : decode cX10_init 31 = .ok (.iconst 1, 1) := by decide +kernel
theorem dX10_init_32 : decode cX10_init 32 = .ok (.iastore, 1) := by decide +kernel
theorem dX10_init_33 : decode cX10_init 33 = .ok (.dup, 1) := by decide +kernel
theorem dX10_init_34 : decode cX10_init 34 = .ok (.iconst 1, 1) := by decide +kernel
theorem dX10_init_35 : decode cX10_init 35 = .ok (.iconst 1, 1) := by decide +kernel
theorem dX10_init_36 : decode cX10_init 36 = .ok (.iastore, 1) := by decide +kernel
theorem dX10_init_37 : decode cX10_init 37 = .ok (.dup, 1) := by decide +kernel
theorem dX10_init_38 : decode cX10_init 38 = .ok (.iconst 2, 1) := by decide +kernel
theorem dX10_init_39 : decode cX10_init 39 = .ok (.iconst 1, 1) := by decide +kernel
theorem dX10_init_40 : decode cX10_init 40 = .ok (.iastore, 1) := by decide +kernel
theorem dX10_init_41 : decode cX10_init 41 = .ok (.putfield 21, 3) := by decide +kernel
theorem dX10_init_44 : decode cX10_init 44 = .ok (.aload_n 0, 1) := by decide +kernel
theorem dX10_init_45 : decode cX10_init 45 = .ok (.bipush 40, 2) := by decide +kernel
theorem dX10_init_47 : decode cX10_init 47 = .ok (.newarray .int, 2) := by decide +kernel
theorem dX10_init_49 : decode cX10_init 49 = .ok (.putfield 24, 3) := by decide +kernel
theorem dX10_init_52 : decode cX10_init 52 = .ok (.return_, 1) := by decide +kernel
theorem dX10_become_0 : decode cX10_become 0 = .ok (.aload_n 1, 1) := by decide +kernel
theorem dX10_become_1 : decode cX10_become 1 = .ok (.getfield 11, 3) := by decide +kernel
theorem dX10_become_4 : decode cX10_become 4 = .ok (.iconst 0, 1) := by decide +kernel
theorem dX10_become_5 : decode cX10_become 5 = .ok (.aload_n 0, 1) := by decide +kernel
theorem dX10_become_6 : decode cX10_become 6 = .ok (.getfield 11, 3) := by decide +kernel
theorem dX10_become_9 : decode cX10_become 9 = .ok (.iconst 0, 1) := by decide +kernel
theorem dX10_become_10 : decode cX10_become 10 = .ok (.iconst 3, 1) := by decide +kernel
theorem dX10_become_11 : decode cX10_become 11 = .ok (.invokestatic 27, 3) := by decide +kernel
theorem dX10_become_14 : decode cX10_become 14 = .ok (.aload_n 1, 1) := by decide +kernel
theorem dX10_become_15 : decode cX10_become 15 = .ok (.getfield 15, 3) := by decide +kernel
theorem dX10_become_18 : decode cX10_become 18 = .ok (.iconst 0, 1) := by decide +kernel
theorem dX10_become_19 : decode cX10_become 19 = .ok (.aload_n 0, 1) := by decide +kernel
theorem dX10_become_20 : decode cX10_become 20 = .ok (.getfield 15, 3) := by decide +kernel
theorem dX10_become_23 : decode cX10_become 23 = .ok (.iconst 0, 1) := by decide +kernel
theorem dX10_become_24 : decode cX10_become 24 = .ok (.iconst 3, 1) := by decide +kernel
theorem dX10_become_25 : decode cX10_become 25 = .ok (.invokestatic 27, 3) := by decide +kernel
theorem dX10_become_28 : decode cX10_become 28 = .ok (.aload_n 1, 1) := by decide +kernel
theorem dX10_become_29 : decode cX10_become 29 = .ok (.getfield 18, 3) := by decide +kernel
theorem dX10_become_32 : decode cX10_become 32 = .ok (.iconst 0, 1) := by decide +kernel
theorem dX10_become_33 : decode cX10_become 33 = .ok (.aload_n 0, 1) := by decide +kernel
theorem dX10_become_34 : decode cX10_become 34 = .ok (.getfield 18, 3) := by decide +kernel
theorem dX10_become_37 : decode cX10_become 37 = .ok (.iconst 0, 1) := by decide +kernel
theorem dX10_become_38 : decode cX10_become 38 = .ok (.iconst 3, 1) := by decide +kernel
theorem dX10_become_39 : decode cX10_become 39 = .ok (.invokestatic 27, 3) := by decide +kernel
theorem dX10_become_42 : decode cX10_become 42 = .ok (.aload_n 1, 1) := by decide +kernel
theorem dX10_become_43 : decode cX10_become 43 = .ok (.getfield 21, 3) := by decide +kernel
theorem dX10_become_46 : decode cX10_become 46 = .ok (.iconst 0, 1) := by decide +kernel
theorem dX10_become_47 : decode cX10_become 47 = .ok (.aload_n 0, 1) := by decide +kernel
theorem dX10_become_48 : decode cX10_become 48 = .ok (.getfield 21, 3) := by decide +kernel
theorem dX10_become_51 : decode cX10_become 51 = .ok (.iconst 0, 1) := by decide +kernel
theorem dX10_become_52 : decode cX10_become 52 = .ok (.iconst 3, 1) := by decide +kernel
theorem dX10_become_53 : decode cX10_become 53 = .ok (.invokestatic 27, 3) := by decide +kernel
theorem dX10_become_56 : decode cX10_become 56 = .ok (.aload_n 1, 1) := by decide +kernel
theorem dX10_become_57 : decode cX10_become 57 = .ok (.getfield 24, 3) := by decide +kernel
theorem dX10_become_60 : decode cX10_become 60 = .ok (.iconst 0, 1) := by decide +kernel
theorem dX10_become_61 : decode cX10_become 61 = .ok (.aload_n 0, 1) := by decide +kernel
theorem dX10_become_62 : decode cX10_become 62 = .ok (.getfield 24, 3) := by decide +kernel
theorem dX10_become_65 : decode cX10_become 65 = .ok (.iconst 0, 1) := by decide +kernel
theorem dX10_become_66 : decode cX10_become 66 = .ok (.bipush 40, 2) := by decide +kernel
theorem dX10_become_68 : decode cX10_become 68 = .ok (.invokestatic 27, 3) := by decide +kernel
theorem dX10_become_71 : decode cX10_become 71 = .ok (.return_, 1) := by decide +kernel
theorem dX10_isLike_0 : decode cX10_isLike 0 = .ok (.iconst 0, 1) := by decide +kernel
theorem dX10_isLike_1 : decode cX10_isLike 1 = .ok (.istore_n 2, 1) := by decide +kernel
theorem dX10_isLike_2 : decode cX10_isLike 2 = .ok (.iload_n 2, 1) := by decide +kernel
theorem dX10_isLike_3 : decode cX10_isLike 3 = .ok (.bipush 40, 2) := by decide +kernel
theorem dX10_isLike_5 : decode cX10_isLike 5 = .ok (.if_icmp .ge 26, 3) := by decide +kernel
theorem dX10_isLike_8 : decode cX10_isLike 8 = .ok (.aload_n 0, 1) := by decide +kernel
theorem dX10_isLike_9 : decode cX10_isLike 9 = .ok (.getfield 24, 3) := by decide +kernel
theorem dX10_isLike_12 : decode cX10_isLike 12 = .ok (.iload_n 2, 1) := by decide +kernel
theorem dX10_isLike_13 : decode cX10_isLike 13 = .ok (.iaload, 1) := by decide +kernel
theorem dX10_isLike_14 : decode cX10_isLike 14 = .ok (.aload_n 1, 1) := by decide +kernel
theorem dX10_isLike_15 : decode cX10_isLike 15 = .ok (.getfield 24, 3) := by decide +kernel
theorem dX10_isLike_18 : decode cX10_isLike 18 = .ok (.iload_n 2, 1) := by decide +kernel
theorem dX10_isLike_19 : decode cX10_isLike 19 = .ok (.iaload, 1) := by decide +kernel
theorem dX10_isLike_20 : decode cX10_isLike 20 = .ok (.if_icmp .eq 5, 3) := by decide +kernel
theorem dX10_isLike_23 : decode cX10_isLike 23 = .ok (.iconst 0, 1) := by decide +kernel
theorem dX10_isLike_24 : decode cX10_isLike 24 = .ok (.ireturn, 1) := by decide +kernel
theorem dX10_isLike_25 : decode cX10_isLike 25 = .ok (.iinc 2 1, 3) := by decide +kernel
theorem dX10_isLike_28 : decode cX10_isLike 28 = .ok (.goto (-26), 3) := by decide +kernel
theorem dX10_isLike_31 : decode cX10_isLike 31 = .ok (.iconst 1, 1) := by decide +kernel
theorem dX10_isLike_32 : decode cX10_isLike 32 = .ok (.ireturn, 1) := by decide +kernel
theorem dX10_sound_0 : decode cX10_sound 0 = .ok (.aload_n 1, 1) := by decide +kernel
theorem dX10_sound_1 : decode cX10_sound 1 = .ok (.arraylength, 1) := by decide +kernel
theorem dX10_sound_2 : decode cX10_sound 2 = .ok (.bipush 48, 2) := by decide +kernel
theorem dX10_sound_4 : decode cX10_sound 4 = .ok (.if_icmp .lt 13, 3) := by decide +kernel
theorem dX10_sound_7 : decode cX10_sound 7 = .ok (.iload_n 2, 1) := by decide +kernel
theorem dX10_sound_8 : decode cX10_sound 8 = .ok (.ifCond .lt 9, 3) := by decide +kernel
theorem dX10_sound_11 : decode cX10_sound 11 = .ok (.iload_n 2, 1) := by decide +kernel
theorem dX10_sound_12 : decode cX10_sound 12 = .ok (.bipush 40, 2) := by decide +kernel
theorem dX10_sound_14 : decode cX10_sound 14 = .ok (.if_icmp .lt 4, 3) := by decide +kernel
theorem dX10_sound_17 : decode cX10_sound 17 = .ok (.return_, 1) := by decide +kernel
theorem dX10_sound_18 : decode cX10_sound 18 = .ok (.iconst 0, 1) := by decide +kernel
theorem dX10_sound_19 : decode cX10_sound 19 = .ok (.istore_n 3, 1) := by decide +kernel
theorem dX10_sound_20 : decode cX10_sound 20 = .ok (.iload_n 3, 1) := by decide +kernel
theorem dX10_sound_21 : decode cX10_sound 21 = .ok (.iconst 3, 1) := by decide +kernel
theorem dX10_sound_22 : decode cX10_sound 22 = .ok (.if_icmp .ge 65, 3) := by decide +kernel
theorem dX10_sound_25 : decode cX10_sound 25 = .ok (.bipush 32, 2) := by decide +kernel
theorem dX10_sound_27 : decode cX10_sound 27 = .ok (.iconst 4, 1) := by decide +kernel
theorem dX10_sound_28 : decode cX10_sound 28 = .ok (.iload_n 3, 1) := by decide +kernel
theorem dX10_sound_29 : decode cX10_sound 29 = .ok (.imul, 1) := by decide +kernel
theorem dX10_sound_30 : decode cX10_sound 30 = .ok (.iadd, 1) := by decide +kernel
theorem dX10_sound_31 : decode cX10_sound 31 = .ok (.istore 4, 2) := by decide +kernel
theorem dX10_sound_33 : decode cX10_sound 33 = .ok (.aload_n 0, 1) := by decide +kernel
theorem dX10_sound_34 : decode cX10_sound 34 = .ok (.iload_n 3, 1) := by decide +kernel
theorem dX10_sound_35 : decode cX10_sound 35 = .ok (.aload_n 1, 1) := by decide +kernel
theorem dX10_sound_36 : decode cX10_sound 36 = .ok (.iload 4, 2) := by decide +kernel
theorem dX10_sound_38 : decode cX10_sound 38 = .ok (.iaload, 1) := by decide +kernel
theorem dX10_sound_39 : decode cX10_sound 39 = .ok (.sipush 256, 3) := by decide +kernel
theorem dX10_sound_42 : decode cX10_sound 42 = .ok (.aload_n 1, 1) := by decide +kernel
theorem dX10_sound_43 : decode cX10_sound 43 = .ok (.iload 4, 2) := by decide +kernel
theorem dX10_sound_45 : decode cX10_sound 45 = .ok (.iconst 1, 1) := by decide +kernel
theorem dX10_sound_46 : decode cX10_sound 46 = .ok (.iadd, 1) := by decide +kernel
theorem dX10_sound_47 : decode cX10_sound 47 = .ok (.iaload, 1) := by decide +kernel
theorem dX10_sound_48 : decode cX10_sound 48 = .ok (.imul, 1) := by decide +kernel
theorem dX10_sound_49 : decode cX10_sound 49 = .ok (.iadd, 1) := by decide +kernel
theorem dX10_sound_50 : decode cX10_sound 50 = .ok (.invokevirtual 33, 3) := by decide +kernel
theorem dX10_sound_53 : decode cX10_sound 53 = .ok (.aload_n 0, 1) := by decide +kernel
theorem dX10_sound_54 : decode cX10_sound 54 = .ok (.iload_n 3, 1) := by decide +kernel
theorem dX10_sound_55 : decode cX10_sound 55 = .ok (.aload_n 1, 1) := by decide +kernel
theorem dX10_sound_56 : decode cX10_sound 56 = .ok (.iload 4, 2) := by decide +kernel
theorem dX10_sound_58 : decode cX10_sound 58 = .ok (.iconst 2, 1) := by decide +kernel
theorem dX10_sound_59 : decode cX10_sound 59 = .ok (.iadd, 1) := by decide +kernel
theorem dX10_sound_60 : decode cX10_sound 60 = .ok (.iaload, 1) := by decide +kernel
theorem dX10_sound_61 : decode cX10_sound 61 = .ok (.iconst 1, 1) := by decide +kernel
theorem dX10_sound_62 : decode cX10_sound 62 = .ok (.iand, 1) := by decide +kernel
theorem dX10_sound_63 : decode cX10_sound 63 = .ok (.iconst 1, 1) := by decide +kernel
theorem dX10_sound_64 : decode cX10_sound 64 = .ok (.if_icmp .ne 7, 3) := by decide +kernel
theorem dX10_sound_67 : decode cX10_sound 67 = .ok (.iconst 1, 1) := by decide +kernel
theorem dX10_sound_68 : decode cX10_sound 68 = .ok (.goto 4, 3) := by decide +kernel
theorem dX10_sound_71 : decode cX10_sound 71 = .ok (.iconst 0, 1) := by decide +kernel
theorem dX10_sound_72 : decode cX10_sound 72 = .ok (.aload_n 1, 1) := by decide +kernel
theorem dX10_sound_73 : decode cX10_sound 73 = .ok (.iload 4, 2) := by decide +kernel
theorem dX10_sound_75 : decode cX10_sound 75 = .ok (.iconst 3, 1) := by decide +kernel
theorem dX10_sound_76 : decode cX10_sound 76 = .ok (.iadd, 1) := by decide +kernel
theorem dX10_sound_77 : decode cX10_sound 77 = .ok (.iaload, 1) := by decide +kernel
theorem dX10_sound_78 : decode cX10_sound 78 = .ok (.invokevirtual 37, 3) := by decide +kernel
theorem dX10_sound_81 : decode cX10_sound 81 = .ok (.iinc 3 1, 3) := by decide +kernel
theorem dX10_sound_84 : decode cX10_sound 84 = .ok (.goto (-64), 3) := by decide +kernel
theorem dX10_sound_87 : decode cX10_sound 87 = .ok (.iconst 0, 1) := by decide +kernel
theorem dX10_sound_88 : decode cX10_sound 88 = .ok (.istore_n 3, 1) := by decide +kernel
theorem dX10_sound_89 : decode cX10_sound 89 = .ok (.iconst 0, 1) := by decide +kernel
theorem dX10_sound_90 : decode cX10_sound 90 = .ok (.istore 4, 2) := by decide +kernel
theorem dX10_sound_92 : decode cX10_sound 92 = .ok (.iload 4, 2) := by decide +kernel
theorem dX10_sound_94 : decode cX10_sound 94 = .ok (.iconst 3, 1) := by decide +kernel
theorem dX10_sound_95 : decode cX10_sound 95 = .ok (.if_icmp .ge 37, 3) := by decide +kernel
theorem dX10_sound_98 : decode cX10_sound 98 = .ok (.iload_n 3, 1) := by decide +kernel
theorem dX10_sound_99 : decode cX10_sound 99 = .ok (.aload_n 0, 1) := by decide +kernel
theorem dX10_sound_100 : decode cX10_sound 100 = .ok (.iload 4, 2) := by decide +kernel
theorem dX10_sound_102 : decode cX10_sound 102 = .ok (.aload_n 1, 1) := by decide +kernel
theorem dX10_sound_103 : decode cX10_sound 103 = .ok (.bipush 32, 2) := by decide +kernel
theorem dX10_sound_105 : decode cX10_sound 105 = .ok (.iconst 4, 1) := by decide +kernel
theorem dX10_sound_106 : decode cX10_sound 106 = .ok (.iload 4, 2) := by decide +kernel
theorem dX10_sound_108 : decode cX10_sound 108 = .ok (.imul, 1) := by decide +kernel
theorem dX10_sound_109 : decode cX10_sound 109 = .ok (.iadd, 1) := by decide +kernel
theorem dX10_sound_110 : decode cX10_sound 110 = .ok (.iconst 2, 1) := by decide +kernel
theorem dX10_sound_111 : decode cX10_sound 111 = .ok (.iadd, 1) := by decide +kernel
theorem dX10_sound_112 : decode cX10_sound 112 = .ok (.iaload, 1) := by decide +kernel
theorem dX10_sound_113 : decode cX10_sound 113 = .ok (.invokevirtual 41, 3) := by decide +kernel
theorem dX10_sound_116 : decode cX10_sound 116 = .ok (.aload_n 0, 1) := by decide +kernel
theorem dX10_sound_117 : decode cX10_sound 117 = .ok (.getfield 15, 3) := by decide +kernel
theorem dX10_sound_120 : decode cX10_sound 120 = .ok (.iload 4, 2) := by decide +kernel
theorem dX10_sound_122 : decode cX10_sound 122 = .ok (.iaload, 1) := by decide +kernel
theorem dX10_sound_123 : decode cX10_sound 123 = .ok (.imul, 1) := by decide +kernel
theorem dX10_sound_124 : decode cX10_sound 124 = .ok (.iadd, 1) := by decide +kernel
theorem dX10_sound_125 : decode cX10_sound 125 = .ok (.istore_n 3, 1) := by decide +kernel
theorem dX10_sound_126 : decode cX10_sound 126 = .ok (.iinc 4 1, 3) := by decide +kernel
theorem dX10_sound_129 : decode cX10_sound 129 = .ok (.goto (-37), 3) := by decide +kernel
theorem dX10_sound_132 : decode cX10_sound 132 = .ok (.aload_n 0, 1) := by decide +kernel
theorem dX10_sound_133 : decode cX10_sound 133 = .ok (.getfield 24, 3) := by decide +kernel
theorem dX10_sound_136 : decode cX10_sound 136 = .ok (.iload_n 2, 1) := by decide +kernel
theorem dX10_sound_137 : decode cX10_sound 137 = .ok (.iload_n 3, 1) := by decide +kernel
theorem dX10_sound_138 : decode cX10_sound 138 = .ok (.bipush 15, 2) := by decide +kernel
theorem dX10_sound_140 : decode cX10_sound 140 = .ok (.idiv, 1) := by decide +kernel
theorem dX10_sound_141 : decode cX10_sound 141 = .ok (.iastore, 1) := by decide +kernel
theorem dX10_sound_142 : decode cX10_sound 142 = .ok (.return_, 1) := by decide +kernel
theorem dX10_turn_0 : decode cX10_turn 0 = .ok (.iload_n 1, 1) := by decide +kernel
theorem dX10_turn_1 : decode cX10_turn 1 = .ok (.ifCond .lt 8, 3) := by decide +kernel
theorem dX10_turn_4 : decode cX10_turn 4 = .ok (.iload_n 1, 1) := by decide +kernel
theorem dX10_turn_5 : decode cX10_turn 5 = .ok (.iconst 3, 1) := by decide +kernel
theorem dX10_turn_6 : decode cX10_turn 6 = .ok (.if_icmp .lt 4, 3) := by decide +kernel
theorem dX10_turn_9 : decode cX10_turn 9 = .ok (.return_, 1) := by decide +kernel
theorem dX10_turn_10 : decode cX10_turn 10 = .ok (.aload_n 0, 1) := by decide +kernel
theorem dX10_turn_11 : decode cX10_turn 11 = .ok (.getfield 11, 3) := by decide +kernel
theorem dX10_turn_14 : decode cX10_turn 14 = .ok (.iload_n 1, 1) := by decide +kernel
theorem dX10_turn_15 : decode cX10_turn 15 = .ok (.iaload, 1) := by decide +kernel
theorem dX10_turn_16 : decode cX10_turn 16 = .ok (.iload_n 2, 1) := by decide +kernel
theorem dX10_turn_17 : decode cX10_turn 17 = .ok (.iadd, 1) := by decide +kernel
theorem dX10_turn_18 : decode cX10_turn 18 = .ok (.istore_n 3, 1) := by decide +kernel
theorem dX10_turn_19 : decode cX10_turn 19 = .ok (.aload_n 0, 1) := by decide +kernel
theorem dX10_turn_20 : decode cX10_turn 20 = .ok (.getfield 21, 3) := by decide +kernel
theorem dX10_turn_23 : decode cX10_turn 23 = .ok (.iload_n 1, 1) := by decide +kernel
theorem dX10_turn_24 : decode cX10_turn 24 = .ok (.iaload, 1) := by decide +kernel
theorem dX10_turn_25 : decode cX10_turn 25 = .ok (.istore 4, 2) := by decide +kernel
theorem dX10_turn_27 : decode cX10_turn 27 = .ok (.aload_n 0, 1) := by decide +kernel
theorem dX10_turn_28 : decode cX10_turn 28 = .ok (.getfield 11, 3) := by decide +kernel
theorem dX10_turn_31 : decode cX10_turn 31 = .ok (.iload_n 1, 1) := by decide +kernel
theorem dX10_turn_32 : decode cX10_turn 32 = .ok (.iload_n 3, 1) := by decide +kernel
theorem dX10_turn_33 : decode cX10_turn 33 = .ok (.ldc 45, 2) := by decide +kernel
theorem dX10_turn_35 : decode cX10_turn 35 = .ok (.irem, 1) := by decide +kernel
theorem dX10_turn_36 : decode cX10_turn 36 = .ok (.iastore, 1) := by decide +kernel
theorem dX10_turn_37 : decode cX10_turn 37 = .ok (.iload_n 3, 1) := by decide +kernel
theorem dX10_turn_38 : decode cX10_turn 38 = .ok (.ldc 46, 2) := by decide +kernel
theorem dX10_turn_40 : decode cX10_turn 40 = .ok (.if_icmp .le 49, 3) := by decide +kernel
theorem dX10_turn_43 : decode cX10_turn 43 = .ok (.iload 4, 2) := by decide +kernel
theorem dX10_turn_45 : decode cX10_turn 45 = .ok (.iconst 3, 1) := by decide +kernel
theorem dX10_turn_46 : decode cX10_turn 46 = .ok (.iand, 1) := by decide +kernel
theorem dX10_turn_47 : decode cX10_turn 47 = .ok (.iconst 1, 1) := by decide +kernel
theorem dX10_turn_48 : decode cX10_turn 48 = .ok (.if_icmp .eq 11, 3) := by decide +kernel
theorem dX10_turn_51 : decode cX10_turn 51 = .ok (.iload 4, 2) := by decide +kernel
theorem dX10_turn_53 : decode cX10_turn 53 = .ok (.iconst 3, 1) := by decide +kernel
theorem dX10_turn_54 : decode cX10_turn 54 = .ok (.iand, 1) := by decide +kernel
theorem dX10_turn_55 : decode cX10_turn 55 = .ok (.iconst 2, 1) := by decide +kernel
theorem dX10_turn_56 : decode cX10_turn 56 = .ok (.if_icmp .ne 7, 3) := by decide +kernel
theorem dX10_turn_59 : decode cX10_turn 59 = .ok (.iconst 1, 1) := by decide +kernel
theorem dX10_turn_60 : decode cX10_turn 60 = .ok (.goto 4, 3) := by decide +kernel
theorem dX10_turn_63 : decode cX10_turn 63 = .ok (.iconst 0, 1) := by decide +kernel
theorem dX10_turn_64 : decode cX10_turn 64 = .ok (.istore 5, 2) := by decide +kernel
theorem dX10_turn_66 : decode cX10_turn 66 = .ok (.aload_n 0, 1) := by decide +kernel
theorem dX10_turn_67 : decode cX10_turn 67 = .ok (.getfield 21, 3) := by decide +kernel
theorem dX10_turn_70 : decode cX10_turn 70 = .ok (.iload_n 1, 1) := by decide +kernel
theorem dX10_turn_71 : decode cX10_turn 71 = .ok (.iload 4, 2) := by decide +kernel
theorem dX10_turn_73 : decode cX10_turn 73 = .ok (.iconst 2, 1) := by decide +kernel
theorem dX10_turn_74 : decode cX10_turn 74 = .ok (.idiv, 1) := by decide +kernel
theorem dX10_turn_75 : decode cX10_turn 75 = .ok (.iload 5, 2) := by decide +kernel
theorem dX10_turn_77 : decode cX10_turn 77 = .ok (.ifCond .eq 9, 3) := by decide +kernel
theorem dX10_turn_80 : decode cX10_turn 80 = .ok (.sipush 16384, 3) := by decide +kernel
theorem dX10_turn_83 : decode cX10_turn 83 = .ok (.goto 4, 3) := by decide +kernel
theorem dX10_turn_86 : decode cX10_turn 86 = .ok (.iconst 0, 1) := by decide +kernel
theorem dX10_turn_87 : decode cX10_turn 87 = .ok (.iadd, 1) := by decide +kernel
theorem dX10_turn_88 : decode cX10_turn 88 = .ok (.iastore, 1) := by decide +kernel
theorem dX10_turn_89 : decode cX10_turn 89 = .ok (.return_, 1) := by decide +kernel
theorem dX10_swell_0 : decode cX10_swell 0 = .ok (.iload_n 1, 1) := by decide +kernel
theorem dX10_swell_1 : decode cX10_swell 1 = .ok (.ifCond .lt 8, 3) := by decide +kernel
theorem dX10_swell_4 : decode cX10_swell 4 = .ok (.iload_n 1, 1) := by decide +kernel
theorem dX10_swell_5 : decode cX10_swell 5 = .ok (.iconst 3, 1) := by decide +kernel
theorem dX10_swell_6 : decode cX10_swell 6 = .ok (.if_icmp .lt 4, 3) := by decide +kernel
theorem dX10_swell_9 : decode cX10_swell 9 = .ok (.return_, 1) := by decide +kernel
theorem dX10_swell_10 : decode cX10_swell 10 = .ok (.aload_n 0, 1) := by decide +kernel
theorem dX10_swell_11 : decode cX10_swell 11 = .ok (.getfield 18, 3) := by decide +kernel
theorem dX10_swell_14 : decode cX10_swell 14 = .ok (.iload_n 1, 1) := by decide +kernel
theorem dX10_swell_15 : decode cX10_swell 15 = .ok (.dup2, 1) := by decide +kernel
theorem dX10_swell_16 : decode cX10_swell 16 = .ok (.iaload, 1) := by decide +kernel
theorem dX10_swell_17 : decode cX10_swell 17 = .ok (.iconst 1, 1) := by decide +kernel
theorem dX10_swell_18 : decode cX10_swell 18 = .ok (.iadd, 1) := by decide +kernel
theorem dX10_swell_19 : decode cX10_swell 19 = .ok (.iastore, 1) := by decide +kernel
theorem dX10_swell_20 : decode cX10_swell 20 = .ok (.aload_n 0, 1) := by decide +kernel
theorem dX10_swell_21 : decode cX10_swell 21 = .ok (.getfield 18, 3) := by decide +kernel
theorem dX10_swell_24 : decode cX10_swell 24 = .ok (.iload_n 1, 1) := by decide +kernel
theorem dX10_swell_25 : decode cX10_swell 25 = .ok (.iaload, 1) := by decide +kernel
theorem dX10_swell_26 : decode cX10_swell 26 = .ok (.iload_n 2, 1) := by decide +kernel
theorem dX10_swell_27 : decode cX10_swell 27 = .ok (.ifCond .eq 10, 3) := by decide +kernel
theorem dX10_swell_30 : decode cX10_swell 30 = .ok (.iload_n 3, 1) := by decide +kernel
theorem dX10_swell_31 : decode cX10_swell 31 = .ok (.bipush 16, 2) := by decide +kernel
theorem dX10_swell_33 : decode cX10_swell 33 = .ok (.irem, 1) := by decide +kernel
theorem dX10_swell_34 : decode cX10_swell 34 = .ok (.goto 7, 3) := by decide +kernel
theorem dX10_swell_37 : decode cX10_swell 37 = .ok (.iload_n 3, 1) := by decide +kernel
theorem dX10_swell_38 : decode cX10_swell 38 = .ok (.bipush 16, 2) := by decide +kernel
theorem dX10_swell_40 : decode cX10_swell 40 = .ok (.idiv, 1) := by decide +kernel
theorem dX10_swell_41 : decode cX10_swell 41 = .ok (.if_icmp .gt 4, 3) := by decide +kernel
theorem dX10_swell_44 : decode cX10_swell 44 = .ok (.return_, 1) := by decide +kernel
theorem dX10_swell_45 : decode cX10_swell 45 = .ok (.aload_n 0, 1) := by decide +kernel
theorem dX10_swell_46 : decode cX10_swell 46 = .ok (.getfield 18, 3) := by decide +kernel
theorem dX10_swell_49 : decode cX10_swell 49 = .ok (.iload_n 1, 1) := by decide +kernel
theorem dX10_swell_50 : decode cX10_swell 50 = .ok (.iconst 0, 1) := by decide +kernel
theorem dX10_swell_51 : decode cX10_swell 51 = .ok (.iastore, 1) := by decide +kernel
theorem dX10_swell_52 : decode cX10_swell 52 = .ok (.iload_n 2, 1) := by decide +kernel
theorem dX10_swell_53 : decode cX10_swell 53 = .ok (.ifCond .eq 27, 3) := by decide +kernel
theorem dX10_swell_56 : decode cX10_swell 56 = .ok (.aload_n 0, 1) := by decide +kernel
theorem dX10_swell_57 : decode cX10_swell 57 = .ok (.getfield 15, 3) := by decide +kernel
theorem dX10_swell_60 : decode cX10_swell 60 = .ok (.iload_n 1, 1) := by decide +kernel
theorem dX10_swell_61 : decode cX10_swell 61 = .ok (.iaload, 1) := by decide +kernel
theorem dX10_swell_62 : decode cX10_swell 62 = .ok (.bipush 15, 2) := by decide +kernel
theorem dX10_swell_64 : decode cX10_swell 64 = .ok (.if_icmp .ge 16, 3) := by decide +kernel
theorem dX10_swell_67 : decode cX10_swell 67 = .ok (.aload_n 0, 1) := by decide +kernel
theorem dX10_swell_68 : decode cX10_swell 68 = .ok (.getfield 15, 3) := by decide +kernel
theorem dX10_swell_71 : decode cX10_swell 71 = .ok (.iload_n 1, 1) := by decide +kernel
theorem dX10_swell_72 : decode cX10_swell 72 = .ok (.dup2, 1) := by decide +kernel
theorem dX10_swell_73 : decode cX10_swell 73 = .ok (.iaload, 1) := by decide +kernel
theorem dX10_swell_74 : decode cX10_swell 74 = .ok (.iconst 1, 1) := by decide +kernel
theorem dX10_swell_75 : decode cX10_swell 75 = .ok (.iadd, 1) := by decide +kernel
theorem dX10_swell_76 : decode cX10_swell 76 = .ok (.iastore, 1) := by decide +kernel
theorem dX10_swell_77 : decode cX10_swell 77 = .ok (.goto 26, 3) := by decide +kernel
theorem dX10_swell_80 : decode cX10_swell 80 = .ok (.iload_n 2, 1) := by decide +kernel
theorem dX10_swell_81 : decode cX10_swell 81 = .ok (.ifCond .ne 22, 3) := by decide +kernel
theorem dX10_swell_84 : decode cX10_swell 84 = .ok (.aload_n 0, 1) := by decide +kernel
theorem dX10_swell_85 : decode cX10_swell 85 = .ok (.getfield 15, 3) := by decide +kernel
theorem dX10_swell_88 : decode cX10_swell 88 = .ok (.iload_n 1, 1) := by decide +kernel
theorem dX10_swell_89 : decode cX10_swell 89 = .ok (.iaload, 1) := by decide +kernel
theorem dX10_swell_90 : decode cX10_swell 90 = .ok (.ifCond .le 13, 3) := by decide +kernel
theorem dX10_swell_93 : decode cX10_swell 93 = .ok (.aload_n 0, 1) := by decide +kernel
theorem dX10_swell_94 : decode cX10_swell 94 = .ok (.getfield 15, 3) := by decide +kernel
theorem dX10_swell_97 : decode cX10_swell 97 = .ok (.iload_n 1, 1) := by decide +kernel
theorem dX10_swell_98 : decode cX10_swell 98 = .ok (.dup2, 1) := by decide +kernel
theorem dX10_swell_99 : decode cX10_swell 99 = .ok (.iaload, 1) := by decide +kernel
theorem dX10_swell_100 : decode cX10_swell 100 = .ok (.iconst 1, 1) := by decide +kernel
theorem dX10_swell_101 : decode cX10_swell 101 = .ok (.isub, 1) := by decide +kernel
theorem dX10_swell_102 : decode cX10_swell 102 = .ok (.iastore, 1) := by decide +kernel
theorem dX10_swell_103 : decode cX10_swell 103 = .ok (.return_, 1) := by decide +kernel
theorem dX10_outputOf_0 : decode cX10_outputOf 0 = .ok (.iload_n 1, 1) := by decide +kernel
theorem dX10_outputOf_1 : decode cX10_outputOf 1 = .ok (.ifCond .lt 8, 3) := by decide +kernel
theorem dX10_outputOf_4 : decode cX10_outputOf 4 = .ok (.iload_n 1, 1) := by decide +kernel
theorem dX10_outputOf_5 : decode cX10_outputOf 5 = .ok (.iconst 3, 1) := by decide +kernel
theorem dX10_outputOf_6 : decode cX10_outputOf 6 = .ok (.if_icmp .lt 5, 3) := by decide +kernel
theorem dX10_outputOf_9 : decode cX10_outputOf 9 = .ok (.iconst 0, 1) := by decide +kernel
theorem dX10_outputOf_10 : decode cX10_outputOf 10 = .ok (.ireturn, 1) := by decide +kernel
theorem dX10_outputOf_11 : decode cX10_outputOf 11 = .ok (.iload_n 2, 1) := by decide +kernel
theorem dX10_outputOf_12 : decode cX10_outputOf 12 = .ok (.iconst 1, 1) := by decide +kernel
theorem dX10_outputOf_13 : decode cX10_outputOf 13 = .ok (.ishr, 1) := by decide +kernel
theorem dX10_outputOf_14 : decode cX10_outputOf 14 = .ok (.iconst 3, 1) := by decide +kernel
theorem dX10_outputOf_15 : decode cX10_outputOf 15 = .ok (.iand, 1) := by decide +kernel
theorem dX10_outputOf_16 : decode cX10_outputOf 16 = .ok (.aload_n 0, 1) := by decide +kernel
theorem dX10_outputOf_17 : decode cX10_outputOf 17 = .ok (.getfield 11, 3) := by decide +kernel
theorem dX10_outputOf_20 : decode cX10_outputOf 20 = .ok (.iload_n 1, 1) := by decide +kernel
theorem dX10_outputOf_21 : decode cX10_outputOf 21 = .ok (.iaload, 1) := by decide +kernel
theorem dX10_outputOf_22 : decode cX10_outputOf 22 = .ok (.aload_n 0, 1) := by decide +kernel
theorem dX10_outputOf_23 : decode cX10_outputOf 23 = .ok (.getfield 21, 3) := by decide +kernel
theorem dX10_outputOf_26 : decode cX10_outputOf 26 = .ok (.iload_n 1, 1) := by decide +kernel
theorem dX10_outputOf_27 : decode cX10_outputOf 27 = .ok (.iaload, 1) := by decide +kernel
theorem dX10_outputOf_28 : decode cX10_outputOf 28 = .ok (.invokestatic 47, 3) := by decide +kernel
theorem dX10_outputOf_31 : decode cX10_outputOf 31 = .ok (.istore_n 3, 1) := by decide +kernel
theorem dX10_outputOf_32 : decode cX10_outputOf 32 = .ok (.iload_n 1, 1) := by decide +kernel
theorem dX10_outputOf_33 : decode cX10_outputOf 33 = .ok (.ifCond .ne 7, 3) := by decide +kernel
theorem dX10_outputOf_36 : decode cX10_outputOf 36 = .ok (.iconst 2, 1) := by decide +kernel
theorem dX10_outputOf_37 : decode cX10_outputOf 37 = .ok (.goto 6, 3) := by decide +kernel
theorem dX10_outputOf_40 : decode cX10_outputOf 40 = .ok (.iload_n 1, 1) := by decide +kernel
theorem dX10_outputOf_41 : decode cX10_outputOf 41 = .ok (.iconst 1, 1) := by decide +kernel
theorem dX10_outputOf_42 : decode cX10_outputOf 42 = .ok (.isub, 1) := by decide +kernel
theorem dX10_outputOf_43 : decode cX10_outputOf 43 = .ok (.istore 4, 2) := by decide +kernel
theorem dX10_outputOf_45 : decode cX10_outputOf 45 = .ok (.iload_n 2, 1) := by decide +kernel
theorem dX10_outputOf_46 : decode cX10_outputOf 46 = .ok (.bipush 8, 2) := by decide +kernel
theorem dX10_outputOf_48 : decode cX10_outputOf 48 = .ok (.iand, 1) := by decide +kernel
theorem dX10_outputOf_49 : decode cX10_outputOf 49 = .ok (.bipush 8, 2) := by decide +kernel
theorem dX10_outputOf_51 : decode cX10_outputOf 51 = .ok (.if_icmp .ne 19, 3) := by decide +kernel
theorem dX10_outputOf_54 : decode cX10_outputOf 54 = .ok (.aload_n 0, 1) := by decide +kernel
theorem dX10_outputOf_55 : decode cX10_outputOf 55 = .ok (.getfield 11, 3) := by decide +kernel
theorem dX10_outputOf_58 : decode cX10_outputOf 58 = .ok (.iload 4, 2) := by decide +kernel
theorem dX10_outputOf_60 : decode cX10_outputOf 60 = .ok (.iaload, 1) := by decide +kernel
theorem dX10_outputOf_61 : decode cX10_outputOf 61 = .ok (.ldc 51, 2) := by decide +kernel
theorem dX10_outputOf_63 : decode cX10_outputOf 63 = .ok (.if_icmp .lt 7, 3) := by decide +kernel
theorem dX10_outputOf_66 : decode cX10_outputOf 66 = .ok (.iconst 1, 1) := by decide +kernel
theorem dX10_outputOf_67 : decode cX10_outputOf 67 = .ok (.goto 4, 3) := by decide +kernel
theorem dX10_outputOf_70 : decode cX10_outputOf 70 = .ok (.iconst 0, 1) := by decide +kernel
theorem dX10_outputOf_71 : decode cX10_outputOf 71 = .ok (.istore 5, 2) := by decide +kernel
theorem dX10_outputOf_73 : decode cX10_outputOf 73 = .ok (.iload 5, 2) := by decide +kernel
theorem dX10_outputOf_75 : decode cX10_outputOf 75 = .ok (.ifCond .eq 10, 3) := by decide +kernel
theorem dX10_outputOf_78 : decode cX10_outputOf 78 = .ok (.bipush 15, 2) := by decide +kernel
theorem dX10_outputOf_80 : decode cX10_outputOf 80 = .ok (.iload_n 3, 1) := by decide +kernel
theorem dX10_outputOf_81 : decode cX10_outputOf 81 = .ok (.isub, 1) := by decide +kernel
theorem dX10_outputOf_82 : decode cX10_outputOf 82 = .ok (.goto 4, 3) := by decide +kernel
theorem dX10_outputOf_85 : decode cX10_outputOf 85 = .ok (.iload_n 3, 1) := by decide +kernel
theorem dX10_outputOf_86 : decode cX10_outputOf 86 = .ok (.ireturn, 1) := by decide +kernel
theorem dX10_waveOf_0 : decode cX10_waveOf 0 = .ok (.iload_n 0, 1) := by decide +kernel
theorem dX10_waveOf_1 : decode cX10_waveOf 1 = .ok (.tableswitch 51 0 2 #[27, 33, 46], 27) := by decide +kernel
theorem dX10_waveOf_28 : decode cX10_waveOf 28 = .ok (.iload_n 1, 1) := by decide +kernel
theorem dX10_waveOf_29 : decode cX10_waveOf 29 = .ok (.sipush 4096, 3) := by decide +kernel
theorem dX10_waveOf_32 : decode cX10_waveOf 32 = .ok (.idiv, 1) := by decide +kernel
theorem dX10_waveOf_33 : decode cX10_waveOf 33 = .ok (.ireturn, 1) := by decide +kernel
theorem dX10_waveOf_34 : decode cX10_waveOf 34 = .ok (.iload_n 1, 1) := by decide +kernel
theorem dX10_waveOf_35 : decode cX10_waveOf 35 = .ok (.ldc 51, 2) := by decide +kernel
theorem dX10_waveOf_37 : decode cX10_waveOf 37 = .ok (.if_icmp .lt 8, 3) := by decide +kernel
theorem dX10_waveOf_40 : decode cX10_waveOf 40 = .ok (.bipush 15, 2) := by decide +kernel
theorem dX10_waveOf_42 : decode cX10_waveOf 42 = .ok (.goto 4, 3) := by decide +kernel
theorem dX10_waveOf_45 : decode cX10_waveOf 45 = .ok (.iconst 0, 1) := by decide +kernel
theorem dX10_waveOf_46 : decode cX10_waveOf 46 = .ok (.ireturn, 1) := by decide +kernel
theorem dX10_waveOf_47 : decode cX10_waveOf 47 = .ok (.iload_n 2, 1) := by decide +kernel
theorem dX10_waveOf_48 : decode cX10_waveOf 48 = .ok (.bipush 16, 2) := by decide +kernel
theorem dX10_waveOf_50 : decode cX10_waveOf 50 = .ok (.irem, 1) := by decide +kernel
theorem dX10_waveOf_51 : decode cX10_waveOf 51 = .ok (.ireturn, 1) := by decide +kernel
theorem dX10_waveOf_52 : decode cX10_waveOf 52 = .ok (.iconst 0, 1) := by decide +kernel
theorem dX10_waveOf_53 : decode cX10_waveOf 53 = .ok (.ireturn, 1) := by decide +kernel
theorem dX11_init_0 : decode cX11_init 0 = .ok (.aload_n 0, 1) := by decide +kernel
theorem dX11_init_1 : decode cX11_init 1 = .ok (.invokespecial 1, 3) := by decide +kernel
theorem dX11_init_4 : decode cX11_init 4 = .ok (.aload_n 0, 1) := by decide +kernel
theorem dX11_init_5 : decode cX11_init 5 = .ok (.new 7, 3) := by decide +kernel
theorem dX11_init_8 : decode cX11_init 8 = .ok (.dup, 1) := by decide +kernel
theorem dX11_init_9 : decode cX11_init 9 = .ok (.invokespecial 9, 3) := by decide +kernel
theorem dX11_init_12 : decode cX11_init 12 = .ok (.putfield 10, 3) := by decide +kernel
theorem dX11_init_15 : decode cX11_init 15 = .ok (.aload_n 0, 1) := by decide +kernel
theorem dX11_init_16 : decode cX11_init 16 = .ok (.iconst 3, 1) := by decide +kernel
theorem dX11_init_17 : decode cX11_init 17 = .ok (.anewarray 7, 3) := by decide +kernel
theorem dX11_init_20 : decode cX11_init 20 = .ok (.putfield 16, 3) := by decide +kernel
theorem dX11_init_23 : decode cX11_init 23 = .ok (.aload_n 0, 1) := by decide +kernel
theorem dX11_init_24 : decode cX11_init 24 = .ok (.new 20, 3) := by decide +kernel
theorem dX11_init_27 : decode cX11_init 27 = .ok (.dup, 1) := by decide +kernel
theorem dX11_init_28 : decode cX11_init 28 = .ok (.invokespecial 22, 3) := by decide +kernel
theorem dX11_init_31 : decode cX11_init 31 = .ok (.putfield 23, 3) := by decide +kernel
theorem dX11_init_34 : decode cX11_init 34 = .ok (.aload_n 0, 1) := by decide +kernel
theorem dX11_init_35 : decode cX11_init 35 = .ok (.new 27, 3) := by decide +kernel
theorem dX11_init_38 : decode cX11_init 38 = .ok (.dup, 1) := by decide +kernel
theorem dX11_init_39 : decode cX11_init 39 = .ok (.invokespecial 29, 3) := by decide +kernel
theorem dX11_init_42 : decode cX11_init 42 = .ok (.putfield 30, 3) := by decide +kernel
theorem dX11_init_45 : decode cX11_init 45 = .ok (.aload_n 0, 1) := by decide +kernel
theorem dX11_init_46 : decode cX11_init 46 = .ok (.new 34, 3) := by decide +kernel
theorem dX11_init_49 : decode cX11_init 49 = .ok (.dup, 1) := by decide +kernel
theorem dX11_init_50 : decode cX11_init 50 = .ok (.invokespecial 36, 3) := by decide +kernel
theorem dX11_init_53 : decode cX11_init 53 = .ok (.putfield 37, 3) := by decide +kernel
theorem dX11_init_56 : decode cX11_init 56 = .ok (.iconst 0, 1) := by decide +kernel
theorem dX11_init_57 : decode cX11_init 57 = .ok (.istore_n 1, 1) := by decide +kernel
theorem dX11_init_58 : decode cX11_init 58 = .ok (.iload_n 1, 1) := by decide +kernel
theorem dX11_init_59 : decode cX11_init 59 = .ok (.iconst 3, 1) := by decide +kernel
theorem dX11_init_60 : decode cX11_init 60 = .ok (.if_icmp .ge 22, 3) := by decide +kernel
theorem dX11_init_63 : decode cX11_init 63 = .ok (.aload_n 0, 1) := by decide +kernel
theorem dX11_init_64 : decode cX11_init 64 = .ok (.getfield 16, 3) := by decide +kernel
theorem dX11_init_67 : decode cX11_init 67 = .ok (.iload_n 1, 1) := by decide +kernel
theorem dX11_init_68 : decode cX11_init 68 = .ok (.new 7, 3) := by decide +kernel
theorem dX11_init_71 : decode cX11_init 71 = .ok (.dup, 1) := by decide +kernel
theorem dX11_init_72 : decode cX11_init 72 = .ok (.invokespecial 9, 3) := by decide +kernel
theorem dX11_init_75 : decode cX11_init 75 = .ok (.aastore, 1) := by decide +kernel
theorem dX11_init_76 : decode cX11_init 76 = .ok (.iinc 1 1, 3) := by decide +kernel
theorem dX11_init_79 : decode cX11_init 79 = .ok (.goto (-21), 3) := by decide +kernel
theorem dX11_init_82 : decode cX11_init 82 = .ok (.return_, 1) := by decide +kernel
theorem dX11_poke_0 : decode cX11_poke 0 = .ok (.iload_n 1, 1) := by decide +kernel
theorem dX11_poke_1 : decode cX11_poke 1 = .ok (.invokestatic 41, 3) := by decide +kernel
theorem dX11_poke_4 : decode cX11_poke 4 = .ok (.iload_n 2, 1) := by decide +kernel
theorem dX11_poke_5 : decode cX11_poke 5 = .ok (.invokestatic 45, 3) := by decide +kernel
theorem dX11_poke_8 : decode cX11_poke 8 = .ok (.aload_n 0, 1) := by decide +kernel
theorem dX11_poke_9 : decode cX11_poke 9 = .ok (.getfield 23, 3) := by decide +kernel
theorem dX11_poke_12 : decode cX11_poke 12 = .ok (.iconst 0, 1) := by decide +kernel
theorem dX11_poke_13 : decode cX11_poke 13 = .ok (.iload_n 1, 1) := by decide +kernel
theorem dX11_poke_14 : decode cX11_poke 14 = .ok (.iload_n 2, 1) := by decide +kernel
theorem dX11_poke_15 : decode cX11_poke 15 = .ok (.iconst 0, 1) := by decide +kernel
theorem dX11_poke_16 : decode cX11_poke 16 = .ok (.invokevirtual 48, 3) := by decide +kernel
theorem dX11_poke_19 : decode cX11_poke 19 = .ok (.aload_n 0, 1) := by decide +kernel
theorem dX11_poke_20 : decode cX11_poke 20 = .ok (.getfield 10, 3) := by decide +kernel
theorem dX11_poke_23 : decode cX11_poke 23 = .ok (.iconst 0, 1) := by decide +kernel
theorem dX11_poke_24 : decode cX11_poke 24 = .ok (.iload_n 1, 1) := by decide +kernel
theorem dX11_poke_25 : decode cX11_poke 25 = .ok (.iload_n 2, 1) := by decide +kernel
theorem dX11_poke_26 : decode cX11_poke 26 = .ok (.iconst 0, 1) := by decide +kernel
theorem dX11_poke_27 : decode cX11_poke 27 = .ok (.invokevirtual 52, 3) := by decide +kernel
theorem dX11_poke_30 : decode cX11_poke 30 = .ok (.ireturn, 1) := by decide +kernel
theorem dX11_pokeRom_0 : decode cX11_pokeRom 0 = .ok (.iload_n 1, 1) := by decide +kernel
theorem dX11_pokeRom_1 : decode cX11_pokeRom 1 = .ok (.sipush 512, 3) := by decide +kernel
theorem dX11_pokeRom_4 : decode cX11_pokeRom 4 = .ok (.invokestatic 56, 3) := by decide +kernel
theorem dX11_pokeRom_7 : decode cX11_pokeRom 7 = .ok (.iload_n 2, 1) := by decide +kernel
theorem dX11_pokeRom_8 : decode cX11_pokeRom 8 = .ok (.invokestatic 45, 3) := by decide +kernel
theorem dX11_pokeRom_11 : decode cX11_pokeRom 11 = .ok (.aload_n 0, 1) := by decide +kernel
theorem dX11_pokeRom_12 : decode cX11_pokeRom 12 = .ok (.getfield 23, 3) := by decide +kernel
theorem dX11_pokeRom_15 : decode cX11_pokeRom 15 = .ok (.iconst 1, 1) := by decide +kernel
theorem dX11_pokeRom_16 : decode cX11_pokeRom 16 = .ok (.iload_n 1, 1) := by decide +kernel
theorem dX11_pokeRom_17 : decode cX11_pokeRom 17 = .ok (.iload_n 2, 1) := by decide +kernel
theorem dX11_pokeRom_18 : decode cX11_pokeRom 18 = .ok (.iconst 0, 1) := by decide +kernel
theorem dX11_pokeRom_19 : decode cX11_pokeRom 19 = .ok (.invokevirtual 48, 3) := by decide +kernel
theorem dX11_pokeRom_22 : decode cX11_pokeRom 22 = .ok (.aload_n 0, 1) := by decide +kernel
theorem dX11_pokeRom_23 : decode cX11_pokeRom 23 = .ok (.getfield 10, 3) := by decide +kernel
theorem dX11_pokeRom_26 : decode cX11_pokeRom 26 = .ok (.iconst 1, 1) := by decide +kernel
theorem dX11_pokeRom_27 : decode cX11_pokeRom 27 = .ok (.iload_n 1, 1) := by decide +kernel
theorem dX11_pokeRom_28 : decode cX11_pokeRom 28 = .ok (.iload_n 2, 1) := by decide +kernel
theorem dX11_pokeRom_29 : decode cX11_pokeRom 29 = .ok (.iconst 0, 1) := by decide +kernel
theorem dX11_pokeRom_30 : decode cX11_pokeRom 30 = .ok (.invokevirtual 52, 3) := by decide +kernel
theorem dX11_pokeRom_33 : decode cX11_pokeRom 33 = .ok (.ireturn, 1) := by decide +kernel
theorem dX11_pokeCartridge_0 : decode cX11_pokeCartridge 0 = .ok (.iload_n 1, 1) := by decide +kernel
theorem dX11_pokeCartridge_1 : decode cX11_pokeCartridge 1 = .ok (.iconst 4, 1) := by decide +kernel
theorem dX11_pokeCartridge_2 : decode cX11_pokeCartridge 2 = .ok (.invokestatic 56, 3) := by decide +kernel
theorem dX11_pokeCartridge_5 : decode cX11_pokeCartridge 5 = .ok (.iload_n 2, 1) := by decide +kernel
theorem dX11_pokeCartridge_6 : decode cX11_pokeCartridge 6 = .ok (.sipush 512, 3) := by decide +kernel
theorem dX11_pokeCartridge_9 : decode cX11_pokeCartridge 9 = .ok (.invokestatic 56, 3) := by decide +kernel
theorem dX11_pokeCartridge_12 : decode cX11_pokeCartridge 12 = .ok (.iload_n 3, 1) := by decide +kernel
theorem dX11_pokeCartridge_13 : decode cX11_pokeCartridge 13 = .ok (.invokestatic 45, 3) := by decide +kernel
theorem dX11_pokeCartridge_16 : decode cX11_pokeCartridge 16 = .ok (.aload_n 0, 1) := by decide +kernel
theorem dX11_pokeCartridge_17 : decode cX11_pokeCartridge 17 = .ok (.getfield 23, 3) := by decide +kernel
theorem dX11_pokeCartridge_20 : decode cX11_pokeCartridge 20 = .ok (.iconst 2, 1) := by decide +kernel
theorem dX11_pokeCartridge_21 : decode cX11_pokeCartridge 21 = .ok (.iload_n 1, 1) := by decide +kernel
theorem dX11_pokeCartridge_22 : decode cX11_pokeCartridge 22 = .ok (.iload_n 2, 1) := by decide +kernel
theorem dX11_pokeCartridge_23 : decode cX11_pokeCartridge 23 = .ok (.iload_n 3, 1) := by decide +kernel
theorem dX11_pokeCartridge_24 : decode cX11_pokeCartridge 24 = .ok (.invokevirtual 48, 3) := by decide +kernel
theorem dX11_pokeCartridge_27 : decode cX11_pokeCartridge 27 = .ok (.aload_n 0, 1) := by decide +kernel
theorem dX11_pokeCartridge_28 : decode cX11_pokeCartridge 28 = .ok (.getfield 10, 3) := by decide +kernel
theorem dX11_pokeCartridge_31 : decode cX11_pokeCartridge 31 = .ok (.iconst 2, 1) := by decide +kernel
theorem dX11_pokeCartridge_32 : decode cX11_pokeCartridge 32 = .ok (.iload_n 1, 1) := by decide +kernel
theorem dX11_pokeCartridge_33 : decode cX11_pokeCartridge 33 = .ok (.iload_n 2, 1) := by decide +kernel
theorem dX11_pokeCartridge_34 : decode cX11_pokeCartridge 34 = .ok (.iload_n 3, 1) := by decide +kernel
theorem dX11_pokeCartridge_35 : decode cX11_pokeCartridge 35 = .ok (.invokevirtual 52, 3) := by decide +kernel
theorem dX11_pokeCartridge_38 : decode cX11_pokeCartridge 38 = .ok (.ireturn, 1) := by decide +kernel
theorem dX11_peek_0 : decode cX11_peek 0 = .ok (.iload_n 1, 1) := by decide +kernel
theorem dX11_peek_1 : decode cX11_peek 1 = .ok (.invokestatic 41, 3) := by decide +kernel
theorem dX11_peek_4 : decode cX11_peek 4 = .ok (.aload_n 0, 1) := by decide +kernel
theorem dX11_peek_5 : decode cX11_peek 5 = .ok (.getfield 10, 3) := by decide +kernel
theorem dX11_peek_8 : decode cX11_peek 8 = .ok (.getfield 60, 3) := by decide +kernel
theorem dX11_peek_11 : decode cX11_peek 11 = .ok (.iload_n 1, 1) := by decide +kernel
theorem dX11_peek_12 : decode cX11_peek 12 = .ok (.invokevirtual 64, 3) := by decide +kernel
theorem dX11_peek_15 : decode cX11_peek 15 = .ok (.ireturn, 1) := by decide +kernel
theorem dX11_ram_0 : decode cX11_ram 0 = .ok (.iload_n 1, 1) := by decide +kernel
theorem dX11_ram_1 : decode cX11_ram 1 = .ok (.invokestatic 41, 3) := by decide +kernel
theorem dX11_ram_4 : decode cX11_ram 4 = .ok (.aload_n 0, 1) := by decide +kernel
theorem dX11_ram_5 : decode cX11_ram 5 = .ok (.getfield 10, 3) := by decide +kernel
theorem dX11_ram_8 : decode cX11_ram 8 = .ok (.getfield 60, 3) := by decide +kernel
theorem dX11_ram_11 : decode cX11_ram 11 = .ok (.getfield 70, 3) := by decide +kernel
theorem dX11_ram_14 : decode cX11_ram 14 = .ok (.getfield 73, 3) := by decide +kernel
theorem dX11_ram_17 : decode cX11_ram 17 = .ok (.iload_n 1, 1) := by decide +kernel
theorem dX11_ram_18 : decode cX11_ram 18 = .ok (.sipush 4095, 3) := by decide +kernel
theorem dX11_ram_21 : decode cX11_ram 21 = .ok (.iand, 1) := by decide +kernel
theorem dX11_ram_22 : decode cX11_ram 22 = .ok (.iaload, 1) := by decide +kernel
theorem dX11_ram_23 : decode cX11_ram 23 = .ok (.ireturn, 1) := by decide +kernel
theorem dX11_assemble_0 : decode cX11_assemble 0 = .ok (.iload_n 1, 1) := by decide +kernel
theorem dX11_assemble_1 : decode cX11_assemble 1 = .ok (.invokestatic 41, 3) := by decide +kernel
theorem dX11_assemble_4 : decode cX11_assemble 4 = .ok (.iload_n 2, 1) := by decide +kernel
theorem dX11_assemble_5 : decode cX11_assemble 5 = .ok (.invokestatic 45, 3) := by decide +kernel
theorem dX11_assemble_8 : decode cX11_assemble 8 = .ok (.iload_n 3, 1) := by decide +kernel
theorem dX11_assemble_9 : decode cX11_assemble 9 = .ok (.iconst 0, 1) := by decide +kernel
theorem dX11_assemble_10 : decode cX11_assemble 10 = .ok (.sipush 4095, 3) := by decide +kernel
theorem dX11_assemble_13 : decode cX11_assemble 13 = .ok (.invokestatic 77, 3) := by decide +kernel
theorem dX11_assemble_16 : decode cX11_assemble 16 = .ok (.iload_n 2, 1) := by decide +kernel
theorem dX11_assemble_17 : decode cX11_assemble 17 = .ok (.invokestatic 81, 3) := by decide +kernel
theorem dX11_assemble_20 : decode cX11_assemble 20 = .ok (.iconst 2, 1) := by decide +kernel
theorem dX11_assemble_21 : decode cX11_assemble 21 = .ok (.if_icmp .ne 7, 3) := by decide +kernel
theorem dX11_assemble_24 : decode cX11_assemble 24 = .ok (.iload_n 3, 1) := by decide +kernel
theorem dX11_assemble_25 : decode cX11_assemble 25 = .ok (.invokestatic 45, 3) := by decide +kernel
theorem dX11_assemble_28 : decode cX11_assemble 28 = .ok (.aload_n 0, 1) := by decide +kernel
theorem dX11_assemble_29 : decode cX11_assemble 29 = .ok (.getfield 23, 3) := by decide +kernel
theorem dX11_assemble_32 : decode cX11_assemble 32 = .ok (.iconst 3, 1) := by decide +kernel
theorem dX11_assemble_33 : decode cX11_assemble 33 = .ok (.iload_n 1, 1) := by decide +kernel
theorem dX11_assemble_34 : decode cX11_assemble 34 = .ok (.iload_n 2, 1) := by decide +kernel
theorem dX11_assemble_35 : decode cX11_assemble 35 = .ok (.iload_n 3, 1) := by decide +kernel
theorem dX11_assemble_36 : decode cX11_assemble 36 = .ok (.invokevirtual 48, 3) := by decide +kernel
theorem dX11_assemble_39 : decode cX11_assemble 39 = .ok (.aload_n 0, 1) := by decide +kernel
theorem dX11_assemble_40 : decode cX11_assemble 40 = .ok (.getfield 10, 3) := by decide +kernel
theorem dX11_assemble_43 : decode cX11_assemble 43 = .ok (.iconst 3, 1) := by decide +kernel
theorem dX11_assemble_44 : decode cX11_assemble 44 = .ok (.iload_n 1, 1) := by decide +kernel
theorem dX11_assemble_45 : decode cX11_assemble 45 = .ok (.iload_n 2, 1) := by decide +kernel
theorem dX11_assemble_46 : decode cX11_assemble 46 = .ok (.iload_n 3, 1) := by decide +kernel
theorem dX11_assemble_47 : decode cX11_assemble 47 = .ok (.invokevirtual 52, 3) := by decide +kernel
theorem dX11_assemble_50 : decode cX11_assemble 50 = .ok (.ireturn, 1) := by decide +kernel
theorem dX11_writeLine_0 : decode cX11_writeLine 0 = .ok (.iload_n 1, 1) := by decide +kernel
theorem dX11_writeLine_1 : decode cX11_writeLine 1 = .ok (.invokestatic 41, 3) := by decide +kernel
theorem dX11_writeLine_4 : decode cX11_writeLine 4 = .ok (.aload_n 0, 1) := by decide +kernel
theorem dX11_writeLine_5 : decode cX11_writeLine 5 = .ok (.getfield 30, 3) := by decide +kernel
theorem dX11_writeLine_8 : decode cX11_writeLine 8 = .ok (.aload_n 0, 1) := by decide +kernel
theorem dX11_writeLine_9 : decode cX11_writeLine 9 = .ok (.getfield 10, 3) := by decide +kernel
theorem dX11_writeLine_12 : decode cX11_writeLine 12 = .ok (.getfield 60, 3) := by decide +kernel
theorem dX11_writeLine_15 : decode cX11_writeLine 15 = .ok (.iload_n 1, 1) := by decide +kernel
theorem dX11_writeLine_16 : decode cX11_writeLine 16 = .ok (.invokestatic 86, 3) := by decide +kernel
theorem dX11_writeLine_19 : decode cX11_writeLine 19 = .ok (.aload_n 0, 1) := by decide +kernel
theorem dX11_writeLine_20 : decode cX11_writeLine 20 = .ok (.getfield 30, 3) := by decide +kernel
theorem dX11_writeLine_23 : decode cX11_writeLine 23 = .ok (.invokevirtual 92, 3) := by decide +kernel
theorem dX11_writeLine_26 : decode cX11_writeLine 26 = .ok (.ireturn, 1) := by decide +kernel
theorem dX11_lineAt_0 : decode cX11_lineAt 0 = .ok (.iload_n 1, 1) := by decide +kernel
theorem dX11_lineAt_1 : decode cX11_lineAt 1 = .ok (.aload_n 0, 1) := by decide +kernel
theorem dX11_lineAt_2 : decode cX11_lineAt 2 = .ok (.getfield 30, 3) := by decide +kernel
theorem dX11_lineAt_5 : decode cX11_lineAt 5 = .ok (.invokevirtual 92, 3) := by decide +kernel
theorem dX11_lineAt_8 : decode cX11_lineAt 8 = .ok (.invokestatic 56, 3) := by decide +kernel
theorem dX11_lineAt_11 : decode cX11_lineAt 11 = .ok (.aload_n 0, 1) := by decide +kernel
theorem dX11_lineAt_12 : decode cX11_lineAt 12 = .ok (.getfield 30, 3) := by decide +kernel
theorem dX11_lineAt_15 : decode cX11_lineAt 15 = .ok (.iload_n 1, 1) := by decide +kernel
theorem dX11_lineAt_16 : decode cX11_lineAt 16 = .ok (.invokevirtual 96, 3) := by decide +kernel
theorem dX11_lineAt_19 : decode cX11_lineAt 19 = .ok (.ireturn, 1) := by decide +kernel
theorem dX11_compare_0 : decode cX11_compare 0 = .ok (.iload_n 1, 1) := by decide +kernel
theorem dX11_compare_1 : decode cX11_compare 1 = .ok (.invokestatic 41, 3) := by decide +kernel
theorem dX11_compare_4 : decode cX11_compare 4 = .ok (.iload_n 2, 1) := by decide +kernel
theorem dX11_compare_5 : decode cX11_compare 5 = .ok (.invokestatic 41, 3) := by decide +kernel
theorem dX11_compare_8 : decode cX11_compare 8 = .ok (.iload_n 3, 1) := by decide +kernel
theorem dX11_compare_9 : decode cX11_compare 9 = .ok (.iconst 1, 1) := by decide +kernel
theorem dX11_compare_10 : decode cX11_compare 10 = .ok (.sipush 4096, 3) := by decide +kernel
theorem dX11_compare_13 : decode cX11_compare 13 = .ok (.invokestatic 77, 3) := by decide +kernel
theorem dX11_compare_16 : decode cX11_compare 16 = .ok (.iconst 0, 1) := by decide +kernel
theorem dX11_compare_17 : decode cX11_compare 17 = .ok (.istore 4, 2) := by decide +kernel
theorem dX11_compare_19 : decode cX11_compare 19 = .ok (.iconst 0, 1) := by decide +kernel
theorem dX11_compare_20 : decode cX11_compare 20 = .ok (.istore 5, 2) := by decide +kernel
theorem dX11_compare_22 : decode cX11_compare 22 = .ok (.iload 5, 2) := by decide +kernel
theorem dX11_compare_24 : decode cX11_compare 24 = .ok (.iload_n 3, 1) := by decide +kernel
theorem dX11_compare_25 : decode cX11_compare 25 = .ok (.if_icmp .ge 55, 3) := by decide +kernel
theorem dX11_compare_28 : decode cX11_compare 28 = .ok (.aload_n 0, 1) := by decide +kernel
theorem dX11_compare_29 : decode cX11_compare 29 = .ok (.getfield 10, 3) := by decide +kernel
theorem dX11_compare_32 : decode cX11_compare 32 = .ok (.getfield 60, 3) := by decide +kernel
theorem dX11_compare_35 : decode cX11_compare 35 = .ok (.iload_n 1, 1) := by decide +kernel
theorem dX11_compare_36 : decode cX11_compare 36 = .ok (.iload 5, 2) := by decide +kernel
theorem dX11_compare_38 : decode cX11_compare 38 = .ok (.iadd, 1) := by decide +kernel
theorem dX11_compare_39 : decode cX11_compare 39 = .ok (.sipush 4095, 3) := by decide +kernel
theorem dX11_compare_42 : decode cX11_compare 42 = .ok (.iand, 1) := by decide +kernel
theorem dX11_compare_43 : decode cX11_compare 43 = .ok (.invokevirtual 64, 3) := by decide +kernel
theorem dX11_compare_46 : decode cX11_compare 46 = .ok (.istore 6, 2) := by decide +kernel
theorem dX11_compare_48 : decode cX11_compare 48 = .ok (.iload 6, 2) := by decide +kernel
theorem dX11_compare_50 : decode cX11_compare 50 = .ok (.aload_n 0, 1) := by decide +kernel
theorem dX11_compare_51 : decode cX11_compare 51 = .ok (.getfield 10, 3) := by decide +kernel
theorem dX11_compare_54 : decode cX11_compare 54 = .ok (.getfield 60, 3) := by decide +kernel
theorem dX11_compare_57 : decode cX11_compare 57 = .ok (.iload_n 2, 1) := by decide +kernel
theorem dX11_compare_58 : decode cX11_compare 58 = .ok (.iload 5, 2) := by decide +kernel
theorem dX11_compare_60 : decode cX11_compare 60 = .ok (.iadd, 1) := by decide +kernel
theorem dX11_compare_61 : decode cX11_compare 61 = .ok (.sipush 4095, 3) := by decide +kernel
theorem dX11_compare_64 : decode cX11_compare 64 = .ok (.iand, 1) := by decide +kernel
theorem dX11_compare_65 : decode cX11_compare 65 = .ok (.invokevirtual 64, 3) := by decide +kernel
theorem dX11_compare_68 : decode cX11_compare 68 = .ok (.if_icmp .eq 6, 3) := by decide +kernel
theorem dX11_compare_71 : decode cX11_compare 71 = .ok (.iinc 4 1, 3) := by decide +kernel
theorem dX11_compare_74 : decode cX11_compare 74 = .ok (.iinc 5 1, 3) := by decide +kernel
theorem dX11_compare_77 : decode cX11_compare 77 = .ok (.goto (-55), 3) := by decide +kernel
theorem dX11_compare_80 : decode cX11_compare 80 = .ok (.iload 4, 2) := by decide +kernel
theorem dX11_compare_82 : decode cX11_compare 82 = .ok (.ireturn, 1) := by decide +kernel
theorem dX11_register_0 : decode cX11_register 0 = .ok (.iload_n 1, 1) := by decide +kernel
theorem dX11_register_1 : decode cX11_register 1 = .ok (.iconst 5, 1) := by decide +kernel
theorem dX11_register_2 : decode cX11_register 2 = .ok (.invokestatic 56, 3) := by decide +kernel
theorem dX11_register_5 : decode cX11_register 5 = .ok (.aload_n 0, 1) := by decide +kernel
theorem dX11_register_6 : decode cX11_register 6 = .ok (.getfield 10, 3) := by decide +kernel
theorem dX11_register_9 : decode cX11_register 9 = .ok (.getfield 100, 3) := by decide +kernel
theorem dX11_register_12 : decode cX11_register 12 = .ok (.iload_n 1, 1) := by decide +kernel
theorem dX11_register_13 : decode cX11_register 13 = .ok (.invokevirtual 104, 3) := by decide +kernel
theorem dX11_register_16 : decode cX11_register 16 = .ok (.ireturn, 1) := by decide +kernel
theorem dX11_setRegister_0 : decode cX11_setRegister 0 = .ok (.iload_n 1, 1) := by decide +kernel
theorem dX11_setRegister_1 : decode cX11_setRegister 1 = .ok (.iconst 5, 1) := by decide +kernel
theorem dX11_setRegister_2 : decode cX11_setRegister 2 = .ok (.invokestatic 56, 3) := by decide +kernel
theorem dX11_setRegister_5 : decode cX11_setRegister 5 = .ok (.iload_n 2, 1) := by decide +kernel
theorem dX11_setRegister_6 : decode cX11_setRegister 6 = .ok (.iconst 0, 1) := by decide +kernel
theorem dX11_setRegister_7 : decode cX11_setRegister 7 = .ok (.iload_n 1, 1) := by decide +kernel
theorem dX11_setRegister_8 : decode cX11_setRegister 8 = .ok (.iconst 4, 1) := by decide +kernel
theorem dX11_setRegister_9 : decode cX11_setRegister 9 = .ok (.if_icmp .ne 9, 3) := by decide +kernel
theorem dX11_setRegister_12 : decode cX11_setRegister 12 = .ok (.sipush 4095, 3) := by decide +kernel
theorem dX11_setRegister_15 : decode cX11_setRegister 15 = .ok (.goto 6, 3) := by decide +kernel
theorem dX11_setRegister_18 : decode cX11_setRegister 18 = .ok (.sipush 255, 3) := by decide +kernel
theorem dX11_setRegister_21 : decode cX11_setRegister 21 = .ok (.invokestatic 77, 3) := by decide +kernel
theorem dX11_setRegister_24 : decode cX11_setRegister 24 = .ok (.aload_n 0, 1) := by decide +kernel
theorem dX11_setRegister_25 : decode cX11_setRegister 25 = .ok (.getfield 10, 3) := by decide +kernel
theorem dX11_setRegister_28 : decode cX11_setRegister 28 = .ok (.getfield 100, 3) := by decide +kernel
theorem dX11_setRegister_31 : decode cX11_setRegister 31 = .ok (.getfield 109, 3) := by decide +kernel
theorem dX11_setRegister_34 : decode cX11_setRegister 34 = .ok (.ifCond .le 13, 3) := by decide +kernel
theorem dX11_setRegister_37 : decode cX11_setRegister 37 = .ok (.new 113, 3) := by decide +kernel
theorem dX11_setRegister_40 : decode cX11_setRegister 40 = .ok (.dup, 1) := by decide +kernel
theorem dX11_setRegister_41 : decode cX11_setRegister 41 = .ok (.ldc 115, 2) := by decide +kernel
theorem dX11_setRegister_43 : decode cX11_setRegister 43 = .ok (.invokespecial 117, 3) := by decide +kernel
theorem dX11_setRegister_46 : decode cX11_setRegister 46 = .ok (.athrow, 1) := by decide +kernel
theorem dX11_setRegister_47 : decode cX11_setRegister 47 = .ok (.aload_n 0, 1) := by decide +kernel
theorem dX11_setRegister_48 : decode cX11_setRegister 48 = .ok (.getfield 23, 3) := by decide +kernel
theorem dX11_setRegister_51 : decode cX11_setRegister 51 = .ok (.iconst 4, 1) := by decide +kernel
theorem dX11_setRegister_52 : decode cX11_setRegister 52 = .ok (.iload_n 1, 1) := by decide +kernel
theorem dX11_setRegister_53 : decode cX11_setRegister 53 = .ok (.iload_n 2, 1) := by decide +kernel
theorem dX11_setRegister_54 : decode cX11_setRegister 54 = .ok (.iconst 0, 1) := by decide +kernel
theorem dX11_setRegister_55 : decode cX11_setRegister 55 = .ok (.invokevirtual 48, 3) := by decide +kernel
theorem dX11_setRegister_58 : decode cX11_setRegister 58 = .ok (.aload_n 0, 1) := by decide +kernel
theorem dX11_setRegister_59 : decode cX11_setRegister 59 = .ok (.getfield 10, 3) := by decide +kernel
theorem dX11_setRegister_62 : decode cX11_setRegister 62 = .ok (.iconst 4, 1) := by decide +kernel
theorem dX11_setRegister_63 : decode cX11_setRegister 63 = .ok (.iload_n 1, 1) := by decide +kernel
theorem dX11_setRegister_64 : decode cX11_setRegister 64 = .ok (.iload_n 2, 1) := by decide +kernel
theorem dX11_setRegister_65 : decode cX11_setRegister 65 = .ok (.iconst 0, 1) := by decide +kernel
theorem dX11_setRegister_66 : decode cX11_setRegister 66 = .ok (.invokevirtual 52, 3) := by decide +kernel
theorem dX11_setRegister_69 : decode cX11_setRegister 69 = .ok (.ireturn, 1) := by decide +kernel
theorem dX11_status_0 : decode cX11_status 0 = .ok (.aload_n 0, 1) := by decide +kernel
theorem dX11_status_1 : decode cX11_status 1 = .ok (.getfield 10, 3) := by decide +kernel
theorem dX11_status_4 : decode cX11_status 4 = .ok (.getfield 100, 3) := by decide +kernel
theorem dX11_status_7 : decode cX11_status 7 = .ok (.getfield 120, 3) := by decide +kernel
theorem dX11_status_10 : decode cX11_status 10 = .ok (.bipush 32, 2) := by decide +kernel
theorem dX11_status_12 : decode cX11_status 12 = .ok (.ior, 1) := by decide +kernel
theorem dX11_status_13 : decode cX11_status 13 = .ok (.bipush 16, 2) := by decide +kernel
theorem dX11_status_15 : decode cX11_status 15 = .ok (.ior, 1) := by decide +kernel
theorem dX11_status_16 : decode cX11_status 16 = .ok (.ireturn, 1) := by decide +kernel
theorem dX11_reset_0 : decode cX11_reset 0 = .ok (.aload_n 0, 1) := by decide +kernel
theorem dX11_reset_1 : decode cX11_reset 1 = .ok (.getfield 23, 3) := by decide +kernel
theorem dX11_reset_4 : decode cX11_reset 4 = .ok (.iconst 5, 1) := by decide +kernel
theorem dX11_reset_5 : decode cX11_reset 5 = .ok (.iconst 0, 1) := by decide +kernel
theorem dX11_reset_6 : decode cX11_reset 6 = .ok (.iconst 0, 1) := by decide +kernel
theorem dX11_reset_7 : decode cX11_reset 7 = .ok (.iconst 0, 1) := by decide +kernel
theorem dX11_reset_8 : decode cX11_reset 8 = .ok (.invokevirtual 48, 3) := by decide +kernel
theorem dX11_reset_11 : decode cX11_reset 11 = .ok (.aload_n 0, 1) := by decide +kernel
theorem dX11_reset_12 : decode cX11_reset 12 = .ok (.getfield 10, 3) := by decide +kernel
theorem dX11_reset_15 : decode cX11_reset 15 = .ok (.iconst 5, 1) := by decide +kernel
theorem dX11_reset_16 : decode cX11_reset 16 = .ok (.iconst 0, 1) := by decide +kernel
theorem dX11_reset_17 : decode cX11_reset 17 = .ok (.iconst 0, 1) := by decide +kernel
theorem dX11_reset_18 : decode cX11_reset 18 = .ok (.iconst 0, 1) := by decide +kernel
theorem dX11_reset_19 : decode cX11_reset 19 = .ok (.invokevirtual 52, 3) := by decide +kernel
theorem dX11_reset_22 : decode cX11_reset 22 = .ok (.ireturn, 1) := by decide +kernel
theorem dX11_freeze_0 : decode cX11_freeze 0 = .ok (.aload_n 0, 1) := by decide +kernel
theorem dX11_freeze_1 : decode cX11_freeze 1 = .ok (.getfield 23, 3) := by decide +kernel
theorem dX11_freeze_4 : decode cX11_freeze 4 = .ok (.bipush 6, 2) := by decide +kernel
theorem dX11_freeze_6 : decode cX11_freeze 6 = .ok (.iconst 0, 1) := by decide +kernel
theorem dX11_freeze_7 : decode cX11_freeze 7 = .ok (.iconst 0, 1) := by decide +kernel
theorem dX11_freeze_8 : decode cX11_freeze 8 = .ok (.iconst 0, 1) := by decide +kernel
theorem dX11_freeze_9 : decode cX11_freeze 9 = .ok (.invokevirtual 48, 3) := by decide +kernel
theorem dX11_freeze_12 : decode cX11_freeze 12 = .ok (.aload_n 0, 1) := by decide +kernel
theorem dX11_freeze_13 : decode cX11_freeze 13 = .ok (.getfield 10, 3) := by decide +kernel
theorem dX11_freeze_16 : decode cX11_freeze 16 = .ok (.bipush 6, 2) := by decide +kernel
theorem dX11_freeze_18 : decode cX11_freeze 18 = .ok (.iconst 0, 1) := by decide +kernel
theorem dX11_freeze_19 : decode cX11_freeze 19 = .ok (.iconst 0, 1) := by decide +kernel
theorem dX11_freeze_20 : decode cX11_freeze 20 = .ok (.iconst 0, 1) := by decide +kernel
theorem dX11_freeze_21 : decode cX11_freeze 21 = .ok (.invokevirtual 52, 3) := by decide +kernel
theorem dX11_freeze_24 : decode cX11_freeze 24 = .ok (.ireturn, 1) := by decide +kernel
theorem dX11_run_0 : decode cX11_run 0 = .ok (.iload_n 1, 1) := by decide +kernel
theorem dX11_run_1 : decode cX11_run 1 = .ok (.iconst 1, 1) := by decide +kernel
theorem dX11_run_2 : decode cX11_run 2 = .ok (.sipush 1000, 3) := by decide +kernel
theorem dX11_run_5 : decode cX11_run 5 = .ok (.invokestatic 77, 3) := by decide +kernel
theorem dX11_run_8 : decode cX11_run 8 = .ok (.aload_n 0, 1) := by decide +kernel
theorem dX11_run_9 : decode cX11_run 9 = .ok (.getfield 23, 3) := by decide +kernel
theorem dX11_run_12 : decode cX11_run 12 = .ok (.bipush 7, 2) := by decide +kernel
theorem dX11_run_14 : decode cX11_run 14 = .ok (.iload_n 1, 1) := by decide +kernel
theorem dX11_run_15 : decode cX11_run 15 = .ok (.iconst 0, 1) := by decide +kernel
theorem dX11_run_16 : decode cX11_run 16 = .ok (.iconst 0, 1) := by decide +kernel
theorem dX11_run_17 : decode cX11_run 17 = .ok (.invokevirtual 48, 3) := by decide +kernel
theorem dX11_run_20 : decode cX11_run 20 = .ok (.aload_n 0, 1) := by decide +kernel
theorem dX11_run_21 : decode cX11_run 21 = .ok (.getfield 10, 3) := by decide +kernel
theorem dX11_run_24 : decode cX11_run 24 = .ok (.bipush 7, 2) := by decide +kernel
theorem dX11_run_26 : decode cX11_run 26 = .ok (.iload_n 1, 1) := by decide +kernel
theorem dX11_run_27 : decode cX11_run 27 = .ok (.iconst 0, 1) := by decide +kernel
theorem dX11_run_28 : decode cX11_run 28 = .ok (.iconst 0, 1) := by decide +kernel
theorem dX11_run_29 : decode cX11_run 29 = .ok (.invokevirtual 52, 3) := by decide +kernel
theorem dX11_run_32 : decode cX11_run 32 = .ok (.ireturn, 1) := by decide +kernel
theorem dX11_step_0 : decode cX11_step 0 = .ok (.aload_n 0, 1) := by decide +kernel
theorem dX11_step_1 : decode cX11_step 1 = .ok (.getfield 10, 3) := by decide +kernel
theorem dX11_step_4 : decode cX11_step 4 = .ok (.getfield 100, 3) := by decide +kernel
theorem dX11_step_7 : decode cX11_step 7 = .ok (.getfield 123, 3) := by decide +kernel
theorem dX11_step_10 : decode cX11_step 10 = .ok (.ifCond .eq 13, 3) := by decide +kernel
theorem dX11_step_13 : decode cX11_step 13 = .ok (.new 113, 3) := by decide +kernel
theorem dX11_step_16 : decode cX11_step 16 = .ok (.dup, 1) := by decide +kernel
theorem dX11_step_17 : decode cX11_step 17 = .ok (.ldc 127, 2) := by decide +kernel
theorem dX11_step_19 : decode cX11_step 19 = .ok (.invokespecial 117, 3) := by decide +kernel
theorem dX11_step_22 : decode cX11_step 22 = .ok (.athrow, 1) := by decide +kernel
theorem dX11_step_23 : decode cX11_step 23 = .ok (.aload_n 0, 1) := by decide +kernel
theorem dX11_step_24 : decode cX11_step 24 = .ok (.getfield 23, 3) := by decide +kernel
theorem dX11_step_27 : decode cX11_step 27 = .ok (.bipush 8, 2) := by decide +kernel
theorem dX11_step_29 : decode cX11_step 29 = .ok (.iconst 0, 1) := by decide +kernel
theorem dX11_step_30 : decode cX11_step 30 = .ok (.iconst 0, 1) := by decide +kernel
theorem dX11_step_31 : decode cX11_step 31 = .ok (.iconst 0, 1) := by decide +kernel
theorem dX11_step_32 : decode cX11_step 32 = .ok (.invokevirtual 48, 3) := by decide +kernel
theorem dX11_step_35 : decode cX11_step 35 = .ok (.aload_n 0, 1) := by decide +kernel
theorem dX11_step_36 : decode cX11_step 36 = .ok (.getfield 10, 3) := by decide +kernel
theorem dX11_step_39 : decode cX11_step 39 = .ok (.bipush 8, 2) := by decide +kernel
theorem dX11_step_41 : decode cX11_step 41 = .ok (.iconst 0, 1) := by decide +kernel
theorem dX11_step_42 : decode cX11_step 42 = .ok (.iconst 0, 1) := by decide +kernel
theorem dX11_step_43 : decode cX11_step 43 = .ok (.iconst 0, 1) := by decide +kernel
theorem dX11_step_44 : decode cX11_step 44 = .ok (.invokevirtual 52, 3) := by decide +kernel
theorem dX11_step_47 : decode cX11_step 47 = .ok (.ireturn, 1) := by decide +kernel
theorem dX11_cycle_0 : decode cX11_cycle 0 = .ok (.aload_n 0, 1) := by decide +kernel
theorem dX11_cycle_1 : decode cX11_cycle 1 = .ok (.getfield 10, 3) := by decide +kernel
theorem dX11_cycle_4 : decode cX11_cycle 4 = .ok (.getfield 60, 3) := by decide +kernel
theorem dX11_cycle_7 : decode cX11_cycle 7 = .ok (.getfield 129, 3) := by decide +kernel
theorem dX11_cycle_10 : decode cX11_cycle 10 = .ok (.lreturn, 1) := by decide +kernel
theorem dX11_isPictures_0 : decode cX11_isPictures 0 = .ok (.aload_n 0, 1) := by decide +kernel
theorem dX11_isPictures_1 : decode cX11_isPictures 1 = .ok (.getfield 10, 3) := by decide +kernel
theorem dX11_isPictures_4 : decode cX11_isPictures 4 = .ok (.getfield 60, 3) := by decide +kernel
theorem dX11_isPictures_7 : decode cX11_isPictures 7 = .ok (.invokevirtual 133, 3) := by decide +kernel
theorem dX11_isPictures_10 : decode cX11_isPictures 10 = .ok (.ireturn, 1) := by decide +kernel
theorem dX11_underWay_0 : decode cX11_underWay 0 = .ok (.aload_n 0, 1) := by decide +kernel
theorem dX11_underWay_1 : decode cX11_underWay 1 = .ok (.getfield 10, 3) := by decide +kernel
theorem dX11_underWay_4 : decode cX11_underWay 4 = .ok (.getfield 100, 3) := by decide +kernel
theorem dX11_underWay_7 : decode cX11_underWay 7 = .ok (.getfield 109, 3) := by decide +kernel
theorem dX11_underWay_10 : decode cX11_underWay 10 = .ok (.ireturn, 1) := by decide +kernel
theorem dX11_done_0 : decode cX11_done 0 = .ok (.aload_n 0, 1) := by decide +kernel
theorem dX11_done_1 : decode cX11_done 1 = .ok (.getfield 10, 3) := by decide +kernel
theorem dX11_done_4 : decode cX11_done 4 = .ok (.getfield 100, 3) := by decide +kernel
theorem dX11_done_7 : decode cX11_done 7 = .ok (.getfield 137, 3) := by decide +kernel
theorem dX11_done_10 : decode cX11_done 10 = .ok (.ireturn, 1) := by decide +kernel
theorem dX11_isJammed_0 : decode cX11_isJammed 0 = .ok (.aload_n 0, 1) := by decide +kernel
theorem dX11_isJammed_1 : decode cX11_isJammed 1 = .ok (.getfield 10, 3) := by decide +kernel
theorem dX11_isJammed_4 : decode cX11_isJammed 4 = .ok (.getfield 100, 3) := by decide +kernel
theorem dX11_isJammed_7 : decode cX11_isJammed 7 = .ok (.getfield 123, 3) := by decide +kernel
theorem dX11_isJammed_10 : decode cX11_isJammed 10 = .ok (.ireturn, 1) := by decide +kernel
theorem dX11_traceAt_0 : decode cX11_traceAt 0 = .ok (.aload_n 0, 1) := by decide +kernel
theorem dX11_traceAt_1 : decode cX11_traceAt 1 = .ok (.getfield 10, 3) := by decide +kernel
theorem dX11_traceAt_4 : decode cX11_traceAt 4 = .ok (.getfield 100, 3) := by decide +kernel
theorem dX11_traceAt_7 : decode cX11_traceAt 7 = .ok (.astore_n 2, 1) := by decide +kernel
theorem dX11_traceAt_8 : decode cX11_traceAt 8 = .ok (.iload_n 1, 1) := by decide +kernel
theorem dX11_traceAt_9 : decode cX11_traceAt 9 = .ok (.aload_n 2, 1) := by decide +kernel
theorem dX11_traceAt_10 : decode cX11_traceAt 10 = .ok (.getfield 140, 3) := by decide +kernel
theorem dX11_traceAt_13 : decode cX11_traceAt 13 = .ok (.bipush 16, 2) := by decide +kernel
theorem dX11_traceAt_15 : decode cX11_traceAt 15 = .ok (.if_icmp .ge 10, 3) := by decide +kernel
theorem dX11_traceAt_18 : decode cX11_traceAt 18 = .ok (.aload_n 2, 1) := by decide +kernel
theorem dX11_traceAt_19 : decode cX11_traceAt 19 = .ok (.getfield 140, 3) := by decide +kernel
theorem dX11_traceAt_22 : decode cX11_traceAt 22 = .ok (.goto 5, 3) := by decide +kernel
theorem dX11_traceAt_25 : decode cX11_traceAt 25 = .ok (.bipush 16, 2) := by decide +kernel
theorem dX11_traceAt_27 : decode cX11_traceAt 27 = .ok (.invokestatic 56, 3) := by decide +kernel
theorem dX11_traceAt_30 : decode cX11_traceAt 30 = .ok (.aload_n 2, 1) := by decide +kernel
theorem dX11_traceAt_31 : decode cX11_traceAt 31 = .ok (.getfield 143, 3) := by decide +kernel
theorem dX11_traceAt_34 : decode cX11_traceAt 34 = .ok (.aload_n 2, 1) := by decide +kernel
theorem dX11_traceAt_35 : decode cX11_traceAt 35 = .ok (.getfield 140, 3) := by decide +kernel
theorem dX11_traceAt_38 : decode cX11_traceAt 38 = .ok (.iconst 1, 1) := by decide +kernel
theorem dX11_traceAt_39 : decode cX11_traceAt 39 = .ok (.isub, 1) := by decide +kernel
theorem dX11_traceAt_40 : decode cX11_traceAt 40 = .ok (.iload_n 1, 1) := by decide +kernel
theorem dX11_traceAt_41 : decode cX11_traceAt 41 = .ok (.isub, 1) := by decide +kernel
theorem dX11_traceAt_42 : decode cX11_traceAt 42 = .ok (.bipush 15, 2) := by decide +kernel
theorem dX11_traceAt_44 : decode cX11_traceAt 44 = .ok (.iand, 1) := by decide +kernel
theorem dX11_traceAt_45 : decode cX11_traceAt 45 = .ok (.iaload, 1) := by decide +kernel
theorem dX11_traceAt_46 : decode cX11_traceAt 46 = .ok (.ireturn, 1) := by decide +kernel
theorem dX11_pixel_0 : decode cX11_pixel 0 = .ok (.iload_n 1, 1) := by decide +kernel
theorem dX11_pixel_1 : decode cX11_pixel 1 = .ok (.bipush 32, 2) := by decide +kernel
theorem dX11_pixel_3 : decode cX11_pixel 3 = .ok (.invokestatic 56, 3) := by decide +kernel
theorem dX11_pixel_6 : decode cX11_pixel 6 = .ok (.iload_n 2, 1) := by decide +kernel
theorem dX11_pixel_7 : decode cX11_pixel 7 = .ok (.bipush 32, 2) := by decide +kernel
theorem dX11_pixel_9 : decode cX11_pixel 9 = .ok (.invokestatic 56, 3) := by decide +kernel
theorem dX11_pixel_12 : decode cX11_pixel 12 = .ok (.aload_n 0, 1) := by decide +kernel
theorem dX11_pixel_13 : decode cX11_pixel 13 = .ok (.getfield 10, 3) := by decide +kernel
theorem dX11_pixel_16 : decode cX11_pixel 16 = .ok (.getfield 146, 3) := by decide +kernel
theorem dX11_pixel_19 : decode cX11_pixel 19 = .ok (.bipush 32, 2) := by decide +kernel
theorem dX11_pixel_21 : decode cX11_pixel 21 = .ok (.iload_n 2, 1) := by decide +kernel
theorem dX11_pixel_22 : decode cX11_pixel 22 = .ok (.imul, 1) := by decide +kernel
theorem dX11_pixel_23 : decode cX11_pixel 23 = .ok (.iload_n 1, 1) := by decide +kernel
theorem dX11_pixel_24 : decode cX11_pixel 24 = .ok (.iadd, 1) := by decide +kernel
theorem dX11_pixel_25 : decode cX11_pixel 25 = .ok (.sipush 1023, 3) := by decide +kernel
theorem dX11_pixel_28 : decode cX11_pixel 28 = .ok (.iand, 1) := by decide +kernel
theorem dX11_pixel_29 : decode cX11_pixel 29 = .ok (.iaload, 1) := by decide +kernel
theorem dX11_pixel_30 : decode cX11_pixel 30 = .ok (.ireturn, 1) := by decide +kernel
theorem dX11_pixelAgain_0 : decode cX11_pixelAgain 0 = .ok (.iload_n 1, 1) := by decide +kernel
theorem dX11_pixelAgain_1 : decode cX11_pixelAgain 1 = .ok (.bipush 32, 2) := by decide +kernel
theorem dX11_pixelAgain_3 : decode cX11_pixelAgain 3 = .ok (.invokestatic 56, 3) := by decide +kernel
theorem dX11_pixelAgain_6 : decode cX11_pixelAgain 6 = .ok (.iload_n 2, 1) := by decide +kernel
theorem dX11_pixelAgain_7 : decode cX11_pixelAgain 7 = .ok (.bipush 32, 2) := by decide +kernel
theorem dX11_pixelAgain_9 : decode cX11_pixelAgain 9 = .ok (.invokestatic 56, 3) := by decide +kernel
theorem dX11_pixelAgain_12 : decode cX11_pixelAgain 12 = .ok (.aload_n 0, 1) := by decide +kernel
theorem dX11_pixelAgain_13 : decode cX11_pixelAgain 13 = .ok (.getfield 10, 3) := by decide +kernel
theorem dX11_pixelAgain_16 : decode cX11_pixelAgain 16 = .ok (.getfield 60, 3) := by decide +kernel
theorem dX11_pixelAgain_19 : decode cX11_pixelAgain 19 = .ok (.iload_n 1, 1) := by decide +kernel
theorem dX11_pixelAgain_20 : decode cX11_pixelAgain 20 = .ok (.iload_n 2, 1) := by decide +kernel
theorem dX11_pixelAgain_21 : decode cX11_pixelAgain 21 = .ok (.aload_n 0, 1) := by decide +kernel
theorem dX11_pixelAgain_22 : decode cX11_pixelAgain 22 = .ok (.getfield 37, 3) := by decide +kernel
theorem dX11_pixelAgain_25 : decode cX11_pixelAgain 25 = .ok (.invokevirtual 149, 3) := by decide +kernel
theorem dX11_pixelAgain_28 : decode cX11_pixelAgain 28 = .ok (.ireturn, 1) := by decide +kernel
theorem dX11_sample_0 : decode cX11_sample 0 = .ok (.iload_n 1, 1) := by decide +kernel
theorem dX11_sample_1 : decode cX11_sample 1 = .ok (.bipush 40, 2) := by decide +kernel
theorem dX11_sample_3 : decode cX11_sample 3 = .ok (.invokestatic 56, 3) := by decide +kernel
theorem dX11_sample_6 : decode cX11_sample 6 = .ok (.aload_n 0, 1) := by decide +kernel
theorem dX11_sample_7 : decode cX11_sample 7 = .ok (.getfield 10, 3) := by decide +kernel
theorem dX11_sample_10 : decode cX11_sample 10 = .ok (.getfield 153, 3) := by decide +kernel
theorem dX11_sample_13 : decode cX11_sample 13 = .ok (.getfield 157, 3) := by decide +kernel
theorem dX11_sample_16 : decode cX11_sample 16 = .ok (.iload_n 1, 1) := by decide +kernel
theorem dX11_sample_17 : decode cX11_sample 17 = .ok (.iaload, 1) := by decide +kernel
theorem dX11_sample_18 : decode cX11_sample 18 = .ok (.ireturn, 1) := by decide +kernel
theorem dX11_level_0 : decode cX11_level 0 = .ok (.iload_n 1, 1) := by decide +kernel
theorem dX11_level_1 : decode cX11_level 1 = .ok (.iconst 3, 1) := by decide +kernel
theorem dX11_level_2 : decode cX11_level 2 = .ok (.invokestatic 56, 3) := by decide +kernel
theorem dX11_level_5 : decode cX11_level 5 = .ok (.aload_n 0, 1) := by decide +kernel
theorem dX11_level_6 : decode cX11_level 6 = .ok (.getfield 10, 3) := by decide +kernel
theorem dX11_level_9 : decode cX11_level 9 = .ok (.getfield 153, 3) := by decide +kernel
theorem dX11_level_12 : decode cX11_level 12 = .ok (.getfield 162, 3) := by decide +kernel
theorem dX11_level_15 : decode cX11_level 15 = .ok (.iload_n 1, 1) := by decide +kernel
theorem dX11_level_16 : decode cX11_level 16 = .ok (.iaload, 1) := by decide +kernel
theorem dX11_level_17 : decode cX11_level 17 = .ok (.ireturn, 1) := by decide +kernel
theorem dX11_key_0 : decode cX11_key 0 = .ok (.iload_n 1, 1) := by decide +kernel
theorem dX11_key_1 : decode cX11_key 1 = .ok (.iconst 4, 1) := by decide +kernel
theorem dX11_key_2 : decode cX11_key 2 = .ok (.invokestatic 56, 3) := by decide +kernel
theorem dX11_key_5 : decode cX11_key 5 = .ok (.iload_n 2, 1) := by decide +kernel
theorem dX11_key_6 : decode cX11_key 6 = .ok (.iconst 4, 1) := by decide +kernel
theorem dX11_key_7 : decode cX11_key 7 = .ok (.invokestatic 56, 3) := by decide +kernel
theorem dX11_key_10 : decode cX11_key 10 = .ok (.iload_n 3, 1) := by decide +kernel
theorem dX11_key_11 : decode cX11_key 11 = .ok (.ifCond .eq 7, 3) := by decide +kernel
theorem dX11_key_14 : decode cX11_key 14 = .ok (.iconst 1, 1) := by decide +kernel
theorem dX11_key_15 : decode cX11_key 15 = .ok (.goto 4, 3) := by decide +kernel
theorem dX11_key_18 : decode cX11_key 18 = .ok (.iconst 0, 1) := by decide +kernel
theorem dX11_key_19 : decode cX11_key 19 = .ok (.istore 4, 2) := by decide +kernel
theorem dX11_key_21 : decode cX11_key 21 = .ok (.aload_n 0, 1) := by decide +kernel
theorem dX11_key_22 : decode cX11_key 22 = .ok (.getfield 23, 3) := by decide +kernel
theorem dX11_key_25 : decode cX11_key 25 = .ok (.bipush 9, 2) := by decide +kernel
theorem dX11_key_27 : decode cX11_key 27 = .ok (.iload_n 1, 1) := by decide +kernel
theorem dX11_key_28 : decode cX11_key 28 = .ok (.iload_n 2, 1) := by decide +kernel
theorem dX11_key_29 : decode cX11_key 29 = .ok (.iload 4, 2) := by decide +kernel
theorem dX11_key_31 : decode cX11_key 31 = .ok (.invokevirtual 48, 3) := by decide +kernel
theorem dX11_key_34 : decode cX11_key 34 = .ok (.aload_n 0, 1) := by decide +kernel
theorem dX11_key_35 : decode cX11_key 35 = .ok (.getfield 10, 3) := by decide +kernel
theorem dX11_key_38 : decode cX11_key 38 = .ok (.bipush 9, 2) := by decide +kernel
theorem dX11_key_40 : decode cX11_key 40 = .ok (.iload_n 1, 1) := by decide +kernel
theorem dX11_key_41 : decode cX11_key 41 = .ok (.iload_n 2, 1) := by decide +kernel
theorem dX11_key_42 : decode cX11_key 42 = .ok (.iload 4, 2) := by decide +kernel
theorem dX11_key_44 : decode cX11_key 44 = .ok (.invokevirtual 52, 3) := by decide +kernel
theorem dX11_key_47 : decode cX11_key 47 = .ok (.iconst 1, 1) := by decide +kernel
theorem dX11_key_48 : decode cX11_key 48 = .ok (.if_icmp .ne 7, 3) := by decide +kernel
theorem dX11_key_51 : decode cX11_key 51 = .ok (.iconst 1, 1) := by decide +kernel
theorem dX11_key_52 : decode cX11_key 52 = .ok (.goto 4, 3) := by decide +kernel
theorem dX11_key_55 : decode cX11_key 55 = .ok (.iconst 0, 1) := by decide +kernel
theorem dX11_key_56 : decode cX11_key 56 = .ok (.ireturn, 1) := by decide +kernel
theorem dX11_columns_0 : decode cX11_columns 0 = .ok (.iload_n 1, 1) := by decide +kernel
theorem dX11_columns_1 : decode cX11_columns 1 = .ok (.iconst 0, 1) := by decide +kernel
theorem dX11_columns_2 : decode cX11_columns 2 = .ok (.bipush 15, 2) := by decide +kernel
theorem dX11_columns_4 : decode cX11_columns 4 = .ok (.invokestatic 77, 3) := by decide +kernel
theorem dX11_columns_7 : decode cX11_columns 7 = .ok (.aload_n 0, 1) := by decide +kernel
theorem dX11_columns_8 : decode cX11_columns 8 = .ok (.getfield 10, 3) := by decide +kernel
theorem dX11_columns_11 : decode cX11_columns 11 = .ok (.getfield 60, 3) := by decide +kernel
theorem dX11_columns_14 : decode cX11_columns 14 = .ok (.getfield 167, 3) := by decide +kernel
theorem dX11_columns_17 : decode cX11_columns 17 = .ok (.getfield 171, 3) := by decide +kernel
theorem dX11_columns_20 : decode cX11_columns 20 = .ok (.iload_n 1, 1) := by decide +kernel
theorem dX11_columns_21 : decode cX11_columns 21 = .ok (.bipush 15, 2) := by decide +kernel
theorem dX11_columns_23 : decode cX11_columns 23 = .ok (.iand, 1) := by decide +kernel
theorem dX11_columns_24 : decode cX11_columns 24 = .ok (.iaload, 1) := by decide +kernel
theorem dX11_columns_25 : decode cX11_columns 25 = .ok (.ireturn, 1) := by decide +kernel
theorem dX11_joystick_0 : decode cX11_joystick 0 = .ok (.iload_n 1, 1) := by decide +kernel
theorem dX11_joystick_1 : decode cX11_joystick 1 = .ok (.iconst 0, 1) := by decide +kernel
theorem dX11_joystick_2 : decode cX11_joystick 2 = .ok (.bipush 15, 2) := by decide +kernel
theorem dX11_joystick_4 : decode cX11_joystick 4 = .ok (.invokestatic 77, 3) := by decide +kernel
theorem dX11_joystick_7 : decode cX11_joystick 7 = .ok (.aload_n 0, 1) := by decide +kernel
theorem dX11_joystick_8 : decode cX11_joystick 8 = .ok (.getfield 23, 3) := by decide +kernel
theorem dX11_joystick_11 : decode cX11_joystick 11 = .ok (.bipush 10, 2) := by decide +kernel
theorem dX11_joystick_13 : decode cX11_joystick 13 = .ok (.iload_n 1, 1) := by decide +kernel
theorem dX11_joystick_14 : decode cX11_joystick 14 = .ok (.iconst 0, 1) := by decide +kernel
theorem dX11_joystick_15 : decode cX11_joystick 15 = .ok (.iconst 0, 1) := by decide +kernel
theorem dX11_joystick_16 : decode cX11_joystick 16 = .ok (.invokevirtual 48, 3) := by decide +kernel
theorem dX11_joystick_19 : decode cX11_joystick 19 = .ok (.aload_n 0, 1) := by decide +kernel
theorem dX11_joystick_20 : decode cX11_joystick 20 = .ok (.getfield 10, 3) := by decide +kernel
theorem dX11_joystick_23 : decode cX11_joystick 23 = .ok (.bipush 10, 2) := by decide +kernel
theorem dX11_joystick_25 : decode cX11_joystick 25 = .ok (.iload_n 1, 1) := by decide +kernel
theorem dX11_joystick_26 : decode cX11_joystick 26 = .ok (.iconst 0, 1) := by decide +kernel
theorem dX11_joystick_27 : decode cX11_joystick 27 = .ok (.iconst 0, 1) := by decide +kernel
theorem dX11_joystick_28 : decode cX11_joystick 28 = .ok (.invokevirtual 52, 3) := by decide +kernel
theorem dX11_joystick_31 : decode cX11_joystick 31 = .ok (.ireturn, 1) := by decide +kernel
theorem dX11_addPulse_0 : decode cX11_addPulse 0 = .ok (.iload_n 1, 1) := by decide +kernel
theorem dX11_addPulse_1 : decode cX11_addPulse 1 = .ok (.iconst 1, 1) := by decide +kernel
theorem dX11_addPulse_2 : decode cX11_addPulse 2 = .ok (.sipush 999, 3) := by decide +kernel
theorem dX11_addPulse_5 : decode cX11_addPulse 5 = .ok (.invokestatic 77, 3) := by decide +kernel
theorem dX11_addPulse_8 : decode cX11_addPulse 8 = .ok (.aload_n 0, 1) := by decide +kernel
theorem dX11_addPulse_9 : decode cX11_addPulse 9 = .ok (.getfield 10, 3) := by decide +kernel
theorem dX11_addPulse_12 : decode cX11_addPulse 12 = .ok (.getfield 60, 3) := by decide +kernel
theorem dX11_addPulse_15 : decode cX11_addPulse 15 = .ok (.getfield 174, 3) := by decide +kernel
theorem dX11_addPulse_18 : decode cX11_addPulse 18 = .ok (.getfield 178, 3) := by decide +kernel
theorem dX11_addPulse_21 : decode cX11_addPulse 21 = .ok (.bipush 40, 2) := by decide +kernel
theorem dX11_addPulse_23 : decode cX11_addPulse 23 = .ok (.if_icmp .lt 13, 3) := by decide +kernel
theorem dX11_addPulse_26 : decode cX11_addPulse 26 = .ok (.new 113, 3) := by decide +kernel
theorem dX11_addPulse_29 : decode cX11_addPulse 29 = .ok (.dup, 1) := by decide +kernel
theorem dX11_addPulse_30 : decode cX11_addPulse 30 = .ok (.ldc 183, 2) := by decide +kernel
theorem dX11_addPulse_32 : decode cX11_addPulse 32 = .ok (.invokespecial 117, 3) := by decide +kernel
theorem dX11_addPulse_35 : decode cX11_addPulse 35 = .ok (.athrow, 1) := by decide +kernel
theorem dX11_addPulse_36 : decode cX11_addPulse 36 = .ok (.aload_n 0, 1) := by decide +kernel
theorem dX11_addPulse_37 : decode cX11_addPulse 37 = .ok (.getfield 23, 3) := by decide +kernel
theorem dX11_addPulse_40 : decode cX11_addPulse 40 = .ok (.bipush 11, 2) := by decide +kernel
theorem dX11_addPulse_42 : decode cX11_addPulse 42 = .ok (.iload_n 1, 1) := by decide +kernel
theorem dX11_addPulse_43 : decode cX11_addPulse 43 = .ok (.iconst 0, 1) := by decide +kernel
theorem dX11_addPulse_44 : decode cX11_addPulse 44 = .ok (.iconst 0, 1) := by decide +kernel
theorem dX11_addPulse_45 : decode cX11_addPulse 45 = .ok (.invokevirtual 48, 3) := by decide +kernel
theorem dX11_addPulse_48 : decode cX11_addPulse 48 = .ok (.aload_n 0, 1) := by decide +kernel
theorem dX11_addPulse_49 : decode cX11_addPulse 49 = .ok (.getfield 10, 3) := by decide +kernel
theorem dX11_addPulse_52 : decode cX11_addPulse 52 = .ok (.bipush 11, 2) := by decide +kernel
theorem dX11_addPulse_54 : decode cX11_addPulse 54 = .ok (.iload_n 1, 1) := by decide +kernel
theorem dX11_addPulse_55 : decode cX11_addPulse 55 = .ok (.iconst 0, 1) := by decide +kernel
theorem dX11_addPulse_56 : decode cX11_addPulse 56 = .ok (.iconst 0, 1) := by decide +kernel
theorem dX11_addPulse_57 : decode cX11_addPulse 57 = .ok (.invokevirtual 52, 3) := by decide +kernel
theorem dX11_addPulse_60 : decode cX11_addPulse 60 = .ok (.ireturn, 1) := by decide +kernel
theorem dX11_rewind_0 : decode cX11_rewind 0 = .ok (.aload_n 0, 1) := by decide +kernel
theorem dX11_rewind_1 : decode cX11_rewind 1 = .ok (.getfield 23, 3) := by decide +kernel
theorem dX11_rewind_4 : decode cX11_rewind 4 = .ok (.bipush 12, 2) := by decide +kernel
theorem dX11_rewind_6 : decode cX11_rewind 6 = .ok (.iconst 0, 1) := by decide +kernel
theorem dX11_rewind_7 : decode cX11_rewind 7 = .ok (.iconst 0, 1) := by decide +kernel
theorem dX11_rewind_8 : decode cX11_rewind 8 = .ok (.iconst 0, 1) := by decide +kernel
theorem dX11_rewind_9 : decode cX11_rewind 9 = .ok (.invokevirtual 48, 3) := by decide +kernel
theorem dX11_rewind_12 : decode cX11_rewind 12 = .ok (.aload_n 0, 1) := by decide +kernel
theorem dX11_rewind_13 : decode cX11_rewind 13 = .ok (.getfield 10, 3) := by decide +kernel
theorem dX11_rewind_16 : decode cX11_rewind 16 = .ok (.bipush 12, 2) := by decide +kernel
theorem dX11_rewind_18 : decode cX11_rewind 18 = .ok (.iconst 0, 1) := by decide +kernel
theorem dX11_rewind_19 : decode cX11_rewind 19 = .ok (.iconst 0, 1) := by decide +kernel
theorem dX11_rewind_20 : decode cX11_rewind 20 = .ok (.iconst 0, 1) := by decide +kernel
theorem dX11_rewind_21 : decode cX11_rewind 21 = .ok (.invokevirtual 52, 3) := by decide +kernel
theorem dX11_rewind_24 : decode cX11_rewind 24 = .ok (.ireturn, 1) := by decide +kernel
theorem dX11_pulsesLeft_0 : decode cX11_pulsesLeft 0 = .ok (.aload_n 0, 1) := by decide +kernel
theorem dX11_pulsesLeft_1 : decode cX11_pulsesLeft 1 = .ok (.getfield 10, 3) := by decide +kernel
theorem dX11_pulsesLeft_4 : decode cX11_pulsesLeft 4 = .ok (.getfield 60, 3) := by decide +kernel
theorem dX11_pulsesLeft_7 : decode cX11_pulsesLeft 7 = .ok (.getfield 174, 3) := by decide +kernel
theorem dX11_pulsesLeft_10 : decode cX11_pulsesLeft 10 = .ok (.getfield 178, 3) := by decide +kernel
theorem dX11_pulsesLeft_13 : decode cX11_pulsesLeft 13 = .ok (.aload_n 0, 1) := by decide +kernel
theorem dX11_pulsesLeft_14 : decode cX11_pulsesLeft 14 = .ok (.getfield 10, 3) := by decide +kernel
theorem dX11_pulsesLeft_17 : decode cX11_pulsesLeft 17 = .ok (.getfield 60, 3) := by decide +kernel
theorem dX11_pulsesLeft_20 : decode cX11_pulsesLeft 20 = .ok (.getfield 174, 3) := by decide +kernel
theorem dX11_pulsesLeft_23 : decode cX11_pulsesLeft 23 = .ok (.getfield 185, 3) := by decide +kernel
theorem dX11_pulsesLeft_26 : decode cX11_pulsesLeft 26 = .ok (.isub, 1) := by decide +kernel
theorem dX11_pulsesLeft_27 : decode cX11_pulsesLeft 27 = .ok (.ireturn, 1) := by decide +kernel
theorem dX11_save_0 : decode cX11_save 0 = .ok (.aload_n 0, 1) := by decide +kernel
theorem dX11_save_1 : decode cX11_save 1 = .ok (.getfield 188, 3) := by decide +kernel
theorem dX11_save_4 : decode cX11_save 4 = .ok (.istore_n 1, 1) := by decide +kernel
theorem dX11_save_5 : decode cX11_save 5 = .ok (.iload_n 1, 1) := by decide +kernel
theorem dX11_save_6 : decode cX11_save 6 = .ok (.ifCond .lt 8, 3) := by decide +kernel
theorem dX11_save_9 : decode cX11_save 9 = .ok (.iload_n 1, 1) := by decide +kernel
theorem dX11_save_10 : decode cX11_save 10 = .ok (.iconst 3, 1) := by decide +kernel
theorem dX11_save_11 : decode cX11_save 11 = .ok (.if_icmp .lt 13, 3) := by decide +kernel
theorem dX11_save_14 : decode cX11_save 14 = .ok (.new 113, 3) := by decide +kernel
theorem dX11_save_17 : decode cX11_save 17 = .ok (.dup, 1) := by decide +kernel
theorem dX11_save_18 : decode cX11_save 18 = .ok (.ldc 191, 2) := by decide +kernel
theorem dX11_save_20 : decode cX11_save 20 = .ok (.invokespecial 117, 3) := by decide +kernel
theorem dX11_save_23 : decode cX11_save 23 = .ok (.athrow, 1) := by decide +kernel
theorem dX11_save_24 : decode cX11_save 24 = .ok (.aload_n 0, 1) := by decide +kernel
theorem dX11_save_25 : decode cX11_save 25 = .ok (.getfield 16, 3) := by decide +kernel
theorem dX11_save_28 : decode cX11_save 28 = .ok (.iload_n 1, 1) := by decide +kernel
theorem dX11_save_29 : decode cX11_save 29 = .ok (.aaload, 1) := by decide +kernel
theorem dX11_save_30 : decode cX11_save 30 = .ok (.aload_n 0, 1) := by decide +kernel
theorem dX11_save_31 : decode cX11_save 31 = .ok (.getfield 10, 3) := by decide +kernel
theorem dX11_save_34 : decode cX11_save 34 = .ok (.invokevirtual 193, 3) := by decide +kernel
theorem dX11_save_37 : decode cX11_save 37 = .ok (.aload_n 0, 1) := by decide +kernel
theorem dX11_save_38 : decode cX11_save 38 = .ok (.iload_n 1, 1) := by decide +kernel
theorem dX11_save_39 : decode cX11_save 39 = .ok (.iconst 1, 1) := by decide +kernel
theorem dX11_save_40 : decode cX11_save 40 = .ok (.iadd, 1) := by decide +kernel
theorem dX11_save_41 : decode cX11_save 41 = .ok (.putfield 188, 3) := by decide +kernel
theorem dX11_save_44 : decode cX11_save 44 = .ok (.iload_n 1, 1) := by decide +kernel
theorem dX11_save_45 : decode cX11_save 45 = .ok (.ireturn, 1) := by decide +kernel
theorem dX11_restore_0 : decode cX11_restore 0 = .ok (.aload_n 0, 1) := by decide +kernel
theorem dX11_restore_1 : decode cX11_restore 1 = .ok (.iload_n 1, 1) := by decide +kernel
theorem dX11_restore_2 : decode cX11_restore 2 = .ok (.invokevirtual 197, 3) := by decide +kernel
theorem dX11_restore_5 : decode cX11_restore 5 = .ok (.astore_n 2, 1) := by decide +kernel
theorem dX11_restore_6 : decode cX11_restore 6 = .ok (.aload_n 2, 1) := by decide +kernel
theorem dX11_restore_7 : decode cX11_restore 7 = .ok (.ifnonnull 13, 3) := by decide +kernel
theorem dX11_restore_10 : decode cX11_restore 10 = .ok (.new 201, 3) := by decide +kernel
theorem dX11_restore_13 : decode cX11_restore 13 = .ok (.dup, 1) := by decide +kernel
theorem dX11_restore_14 : decode cX11_restore 14 = .ok (.ldc 203, 2) := by decide +kernel
theorem dX11_restore_16 : decode cX11_restore 16 = .ok (.invokespecial 205, 3) := by decide +kernel
theorem dX11_restore_19 : decode cX11_restore 19 = .ok (.athrow, 1) := by decide +kernel
theorem dX11_restore_20 : decode cX11_restore 20 = .ok (.aload_n 0, 1) := by decide +kernel
theorem dX11_restore_21 : decode cX11_restore 21 = .ok (.getfield 10, 3) := by decide +kernel
theorem dX11_restore_24 : decode cX11_restore 24 = .ok (.getfield 60, 3) := by decide +kernel
theorem dX11_restore_27 : decode cX11_restore 27 = .ok (.getfield 70, 3) := by decide +kernel
theorem dX11_restore_30 : decode cX11_restore 30 = .ok (.aload_n 2, 1) := by decide +kernel
theorem dX11_restore_31 : decode cX11_restore 31 = .ok (.getfield 60, 3) := by decide +kernel
theorem dX11_restore_34 : decode cX11_restore 34 = .ok (.getfield 70, 3) := by decide +kernel
theorem dX11_restore_37 : decode cX11_restore 37 = .ok (.invokevirtual 206, 3) := by decide +kernel
theorem dX11_restore_40 : decode cX11_restore 40 = .ok (.istore_n 3, 1) := by decide +kernel
theorem dX11_restore_41 : decode cX11_restore 41 = .ok (.aload_n 0, 1) := by decide +kernel
theorem dX11_restore_42 : decode cX11_restore 42 = .ok (.getfield 10, 3) := by decide +kernel
theorem dX11_restore_45 : decode cX11_restore 45 = .ok (.aload_n 2, 1) := by decide +kernel
theorem dX11_restore_46 : decode cX11_restore 46 = .ok (.invokevirtual 193, 3) := by decide +kernel
theorem dX11_restore_49 : decode cX11_restore 49 = .ok (.aload_n 0, 1) := by decide +kernel
theorem dX11_restore_50 : decode cX11_restore 50 = .ok (.getfield 23, 3) := by decide +kernel
theorem dX11_restore_53 : decode cX11_restore 53 = .ok (.iconst 0, 1) := by decide +kernel
theorem dX11_restore_54 : decode cX11_restore 54 = .ok (.putfield 210, 3) := by decide +kernel
theorem dX11_restore_57 : decode cX11_restore 57 = .ok (.iload_n 3, 1) := by decide +kernel
theorem dX11_restore_58 : decode cX11_restore 58 = .ok (.ireturn, 1) := by decide +kernel
theorem dX11_differences_0 : decode cX11_differences 0 = .ok (.aload_n 0, 1) := by decide +kernel
theorem dX11_differences_1 : decode cX11_differences 1 = .ok (.iload_n 1, 1) := by decide +kernel
theorem dX11_differences_2 : decode cX11_differences 2 = .ok (.invokevirtual 197, 3) := by decide +kernel
theorem dX11_differences_5 : decode cX11_differences 5 = .ok (.astore_n 2, 1) := by decide +kernel
theorem dX11_differences_6 : decode cX11_differences 6 = .ok (.aload_n 2, 1) := by decide +kernel
theorem dX11_differences_7 : decode cX11_differences 7 = .ok (.ifnonnull 13, 3) := by decide +kernel
theorem dX11_differences_10 : decode cX11_differences 10 = .ok (.new 201, 3) := by decide +kernel
theorem dX11_differences_13 : decode cX11_differences 13 = .ok (.dup, 1) := by decide +kernel
theorem dX11_differences_14 : decode cX11_differences 14 = .ok (.ldc 203, 2) := by decide +kernel
theorem dX11_differences_16 : decode cX11_differences 16 = .ok (.invokespecial 205, 3) := by decide +kernel
theorem dX11_differences_19 : decode cX11_differences 19 = .ok (.athrow, 1) := by decide +kernel
theorem dX11_differences_20 : decode cX11_differences 20 = .ok (.aload_n 0, 1) := by decide +kernel
theorem dX11_differences_21 : decode cX11_differences 21 = .ok (.getfield 10, 3) := by decide +kernel
theorem dX11_differences_24 : decode cX11_differences 24 = .ok (.getfield 60, 3) := by decide +kernel
theorem dX11_differences_27 : decode cX11_differences 27 = .ok (.getfield 70, 3) := by decide +kernel
theorem dX11_differences_30 : decode cX11_differences 30 = .ok (.aload_n 2, 1) := by decide +kernel
theorem dX11_differences_31 : decode cX11_differences 31 = .ok (.getfield 60, 3) := by decide +kernel
theorem dX11_differences_34 : decode cX11_differences 34 = .ok (.getfield 70, 3) := by decide +kernel
theorem dX11_differences_37 : decode cX11_differences 37 = .ok (.invokevirtual 206, 3) := by decide +kernel
theorem dX11_differences_40 : decode cX11_differences 40 = .ok (.ireturn, 1) := by decide +kernel
theorem dX11_startRecord_0 : decode cX11_startRecord 0 = .ok (.aload_n 0, 1) := by decide +kernel
theorem dX11_startRecord_1 : decode cX11_startRecord 1 = .ok (.getfield 23, 3) := by decide +kernel
theorem dX11_startRecord_4 : decode cX11_startRecord 4 = .ok (.getfield 210, 3) := by decide +kernel
theorem dX11_startRecord_7 : decode cX11_startRecord 7 = .ok (.ifCond .eq 13, 3) := by decide +kernel
theorem dX11_startRecord_10 : decode cX11_startRecord 10 = .ok (.aload_n 0, 1) := by decide +kernel
theorem dX11_startRecord_11 : decode cX11_startRecord 11 = .ok (.getfield 23, 3) := by decide +kernel
theorem dX11_startRecord_14 : decode cX11_startRecord 14 = .ok (.getfield 213, 3) := by decide +kernel
theorem dX11_startRecord_17 : decode cX11_startRecord 17 = .ok (.goto 4, 3) := by decide +kernel
theorem dX11_startRecord_20 : decode cX11_startRecord 20 = .ok (.iconst 0, 1) := by decide +kernel
theorem dX11_startRecord_21 : decode cX11_startRecord 21 = .ok (.istore_n 1, 1) := by decide +kernel
theorem dX11_startRecord_22 : decode cX11_startRecord 22 = .ok (.aload_n 0, 1) := by decide +kernel
theorem dX11_startRecord_23 : decode cX11_startRecord 23 = .ok (.getfield 23, 3) := by decide +kernel
theorem dX11_startRecord_26 : decode cX11_startRecord 26 = .ok (.aload_n 0, 1) := by decide +kernel
theorem dX11_startRecord_27 : decode cX11_startRecord 27 = .ok (.getfield 10, 3) := by decide +kernel
theorem dX11_startRecord_30 : decode cX11_startRecord 30 = .ok (.invokevirtual 214, 3) := by decide +kernel
theorem dX11_startRecord_33 : decode cX11_startRecord 33 = .ok (.iload_n 1, 1) := by decide +kernel
theorem dX11_startRecord_34 : decode cX11_startRecord 34 = .ok (.ireturn, 1) := by decide +kernel
theorem dX11_recorded_0 : decode cX11_recorded 0 = .ok (.aload_n 0, 1) := by decide +kernel
theorem dX11_recorded_1 : decode cX11_recorded 1 = .ok (.getfield 23, 3) := by decide +kernel
theorem dX11_recorded_4 : decode cX11_recorded 4 = .ok (.getfield 210, 3) := by decide +kernel
theorem dX11_recorded_7 : decode cX11_recorded 7 = .ok (.ifCond .ne 13, 3) := by decide +kernel
theorem dX11_recorded_10 : decode cX11_recorded 10 = .ok (.new 113, 3) := by decide +kernel
theorem dX11_recorded_13 : decode cX11_recorded 13 = .ok (.dup, 1) := by decide +kernel
theorem dX11_recorded_14 : decode cX11_recorded 14 = .ok (.ldc 217, 2) := by decide +kernel
theorem dX11_recorded_16 : decode cX11_recorded 16 = .ok (.invokespecial 117, 3) := by decide +kernel
theorem dX11_recorded_19 : decode cX11_recorded 19 = .ok (.athrow, 1) := by decide +kernel
theorem dX11_recorded_20 : decode cX11_recorded 20 = .ok (.aload_n 0, 1) := by decide +kernel
theorem dX11_recorded_21 : decode cX11_recorded 21 = .ok (.getfield 23, 3) := by decide +kernel
theorem dX11_recorded_24 : decode cX11_recorded 24 = .ok (.getfield 213, 3) := by decide +kernel
theorem dX11_recorded_27 : decode cX11_recorded 27 = .ok (.ireturn, 1) := by decide +kernel
theorem dX11_isSame_0 : decode cX11_isSame 0 = .ok (.aload_n 0, 1) := by decide +kernel
theorem dX11_isSame_1 : decode cX11_isSame 1 = .ok (.getfield 23, 3) := by decide +kernel
theorem dX11_isSame_4 : decode cX11_isSame 4 = .ok (.astore_n 1, 1) := by decide +kernel
theorem dX11_isSame_5 : decode cX11_isSame 5 = .ok (.aload_n 1, 1) := by decide +kernel
theorem dX11_isSame_6 : decode cX11_isSame 6 = .ok (.getfield 210, 3) := by decide +kernel
theorem dX11_isSame_9 : decode cX11_isSame 9 = .ok (.ifCond .ne 13, 3) := by decide +kernel
theorem dX11_isSame_12 : decode cX11_isSame 12 = .ok (.new 113, 3) := by decide +kernel
theorem dX11_isSame_15 : decode cX11_isSame 15 = .ok (.dup, 1) := by decide +kernel
theorem dX11_isSame_16 : decode cX11_isSame 16 = .ok (.ldc 217, 2) := by decide +kernel
theorem dX11_isSame_18 : decode cX11_isSame 18 = .ok (.invokespecial 117, 3) := by decide +kernel
theorem dX11_isSame_21 : decode cX11_isSame 21 = .ok (.athrow, 1) := by decide +kernel
theorem dX11_isSame_22 : decode cX11_isSame 22 = .ok (.aload_n 1, 1) := by decide +kernel
theorem dX11_isSame_23 : decode cX11_isSame 23 = .ok (.getfield 219, 3) := by decide +kernel
theorem dX11_isSame_26 : decode cX11_isSame 26 = .ok (.istore_n 2, 1) := by decide +kernel
theorem dX11_isSame_27 : decode cX11_isSame 27 = .ok (.iload_n 2, 1) := by decide +kernel
theorem dX11_isSame_28 : decode cX11_isSame 28 = .ok (.aload_n 1, 1) := by decide +kernel
theorem dX11_isSame_29 : decode cX11_isSame 29 = .ok (.getfield 213, 3) := by decide +kernel
theorem dX11_isSame_32 : decode cX11_isSame 32 = .ok (.if_icmp .ge 47, 3) := by decide +kernel
theorem dX11_isSame_35 : decode cX11_isSame 35 = .ok (.iload_n 2, 1) := by decide +kernel
theorem dX11_isSame_36 : decode cX11_isSame 36 = .ok (.sipush 511, 3) := by decide +kernel
theorem dX11_isSame_39 : decode cX11_isSame 39 = .ok (.iand, 1) := by decide +kernel
theorem dX11_isSame_40 : decode cX11_isSame 40 = .ok (.istore_n 3, 1) := by decide +kernel
theorem dX11_isSame_41 : decode cX11_isSame 41 = .ok (.aload_n 1, 1) := by decide +kernel
theorem dX11_isSame_42 : decode cX11_isSame 42 = .ok (.getfield 222, 3) := by decide +kernel
theorem dX11_isSame_45 : decode cX11_isSame 45 = .ok (.aload_n 1, 1) := by decide +kernel
theorem dX11_isSame_46 : decode cX11_isSame 46 = .ok (.getfield 223, 3) := by decide +kernel
theorem dX11_isSame_49 : decode cX11_isSame 49 = .ok (.iload_n 3, 1) := by decide +kernel
theorem dX11_isSame_50 : decode cX11_isSame 50 = .ok (.iaload, 1) := by decide +kernel
theorem dX11_isSame_51 : decode cX11_isSame 51 = .ok (.aload_n 1, 1) := by decide +kernel
theorem dX11_isSame_52 : decode cX11_isSame 52 = .ok (.getfield 226, 3) := by decide +kernel
theorem dX11_isSame_55 : decode cX11_isSame 55 = .ok (.iload_n 3, 1) := by decide +kernel
theorem dX11_isSame_56 : decode cX11_isSame 56 = .ok (.iaload, 1) := by decide +kernel
theorem dX11_isSame_57 : decode cX11_isSame 57 = .ok (.aload_n 1, 1) := by decide +kernel
theorem dX11_isSame_58 : decode cX11_isSame 58 = .ok (.getfield 229, 3) := by decide +kernel
theorem dX11_isSame_61 : decode cX11_isSame 61 = .ok (.iload_n 3, 1) := by decide +kernel
theorem dX11_isSame_62 : decode cX11_isSame 62 = .ok (.iaload, 1) := by decide +kernel
theorem dX11_isSame_63 : decode cX11_isSame 63 = .ok (.aload_n 1, 1) := by decide +kernel
theorem dX11_isSame_64 : decode cX11_isSame 64 = .ok (.getfield 232, 3) := by decide +kernel
theorem dX11_isSame_67 : decode cX11_isSame 67 = .ok (.iload_n 3, 1) := by decide +kernel
theorem dX11_isSame_68 : decode cX11_isSame 68 = .ok (.iaload, 1) := by decide +kernel
theorem dX11_isSame_69 : decode cX11_isSame 69 = .ok (.invokevirtual 52, 3) := by decide +kernel
theorem dX11_isSame_72 : decode cX11_isSame 72 = .ok (.pop, 1) := by decide +kernel
theorem dX11_isSame_73 : decode cX11_isSame 73 = .ok (.iinc 2 1, 3) := by decide +kernel
theorem dX11_isSame_76 : decode cX11_isSame 76 = .ok (.goto (-49), 3) := by decide +kernel
theorem dX11_isSame_79 : decode cX11_isSame 79 = .ok (.aload_n 1, 1) := by decide +kernel
theorem dX11_isSame_80 : decode cX11_isSame 80 = .ok (.aload_n 1, 1) := by decide +kernel
theorem dX11_isSame_81 : decode cX11_isSame 81 = .ok (.getfield 213, 3) := by decide +kernel
theorem dX11_isSame_84 : decode cX11_isSame 84 = .ok (.putfield 219, 3) := by decide +kernel
theorem dX11_isSame_87 : decode cX11_isSame 87 = .ok (.aload_n 1, 1) := by decide +kernel
theorem dX11_isSame_88 : decode cX11_isSame 88 = .ok (.getfield 222, 3) := by decide +kernel
theorem dX11_isSame_91 : decode cX11_isSame 91 = .ok (.aload_n 0, 1) := by decide +kernel
theorem dX11_isSame_92 : decode cX11_isSame 92 = .ok (.getfield 10, 3) := by decide +kernel
theorem dX11_isSame_95 : decode cX11_isSame 95 = .ok (.invokevirtual 235, 3) := by decide +kernel
theorem dX11_isSame_98 : decode cX11_isSame 98 = .ok (.ireturn, 1) := by decide +kernel
theorem dX11_sumOfPicture_0 : decode cX11_sumOfPicture 0 = .ok (.iconst 0, 1) := by decide +kernel
theorem dX11_sumOfPicture_1 : decode cX11_sumOfPicture 1 = .ok (.istore_n 1, 1) := by decide +kernel
theorem dX11_sumOfPicture_2 : decode cX11_sumOfPicture 2 = .ok (.iconst 0, 1) := by decide +kernel
theorem dX11_sumOfPicture_3 : decode cX11_sumOfPicture 3 = .ok (.istore_n 2, 1) := by decide +kernel
theorem dX11_sumOfPicture_4 : decode cX11_sumOfPicture 4 = .ok (.iload_n 2, 1) := by decide +kernel
theorem dX11_sumOfPicture_5 : decode cX11_sumOfPicture 5 = .ok (.sipush 1024, 3) := by decide +kernel
theorem dX11_sumOfPicture_8 : decode cX11_sumOfPicture 8 = .ok (.if_icmp .ge 24, 3) := by decide +kernel
theorem dX11_sumOfPicture_11 : decode cX11_sumOfPicture 11 = .ok (.bipush 31, 2) := by decide +kernel
theorem dX11_sumOfPicture_13 : decode cX11_sumOfPicture 13 = .ok (.iload_n 1, 1) := by decide +kernel
theorem dX11_sumOfPicture_14 : decode cX11_sumOfPicture 14 = .ok (.imul, 1) := by decide +kernel
theorem dX11_sumOfPicture_15 : decode cX11_sumOfPicture 15 = .ok (.aload_n 0, 1) := by decide +kernel
theorem dX11_sumOfPicture_16 : decode cX11_sumOfPicture 16 = .ok (.getfield 10, 3) := by decide +kernel
theorem dX11_sumOfPicture_19 : decode cX11_sumOfPicture 19 = .ok (.getfield 146, 3) := by decide +kernel
theorem dX11_sumOfPicture_22 : decode cX11_sumOfPicture 22 = .ok (.iload_n 2, 1) := by decide +kernel
theorem dX11_sumOfPicture_23 : decode cX11_sumOfPicture 23 = .ok (.iaload, 1) := by decide +kernel
theorem dX11_sumOfPicture_24 : decode cX11_sumOfPicture 24 = .ok (.iadd, 1) := by decide +kernel
theorem dX11_sumOfPicture_25 : decode cX11_sumOfPicture 25 = .ok (.istore_n 1, 1) := by decide +kernel
theorem dX11_sumOfPicture_26 : decode cX11_sumOfPicture 26 = .ok (.iinc 2 1, 3) := by decide +kernel
theorem dX11_sumOfPicture_29 : decode cX11_sumOfPicture 29 = .ok (.goto (-25), 3) := by decide +kernel
theorem dX11_sumOfPicture_32 : decode cX11_sumOfPicture 32 = .ok (.iload_n 1, 1) := by decide +kernel
theorem dX11_sumOfPicture_33 : decode cX11_sumOfPicture 33 = .ok (.ireturn, 1) := by decide +kernel
theorem dX11_pictures_0 : decode cX11_pictures 0 = .ok (.aload_n 0, 1) := by decide +kernel
theorem dX11_pictures_1 : decode cX11_pictures 1 = .ok (.getfield 10, 3) := by decide +kernel
theorem dX11_pictures_4 : decode cX11_pictures 4 = .ok (.getfield 239, 3) := by decide +kernel
theorem dX11_pictures_7 : decode cX11_pictures 7 = .ok (.lreturn, 1) := by decide +kernel
theorem dX11_solidShare_0 : decode cX11_solidShare 0 = .ok (.aload_n 0, 1) := by decide +kernel
theorem dX11_solidShare_1 : decode cX11_solidShare 1 = .ok (.getfield 10, 3) := by decide +kernel
theorem dX11_solidShare_4 : decode cX11_solidShare 4 = .ok (.getfield 60, 3) := by decide +kernel
theorem dX11_solidShare_7 : decode cX11_solidShare 7 = .ok (.getfield 70, 3) := by decide +kernel
theorem dX11_solidShare_10 : decode cX11_solidShare 10 = .ok (.getfield 242, 3) := by decide +kernel
theorem dX11_solidShare_13 : decode cX11_solidShare 13 = .ok (.iconst 3, 1) := by decide +kernel
theorem dX11_solidShare_14 : decode cX11_solidShare 14 = .ok (.iaload, 1) := by decide +kernel
theorem dX11_solidShare_15 : decode cX11_solidShare 15 = .ok (.istore_n 1, 1) := by decide +kernel
theorem dX11_solidShare_16 : decode cX11_solidShare 16 = .ok (.iconst 0, 1) := by decide +kernel
theorem dX11_solidShare_17 : decode cX11_solidShare 17 = .ok (.istore_n 2, 1) := by decide +kernel
theorem dX11_solidShare_18 : decode cX11_solidShare 18 = .ok (.iconst 0, 1) := by decide +kernel
theorem dX11_solidShare_19 : decode cX11_solidShare 19 = .ok (.istore_n 3, 1) := by decide +kernel
theorem dX11_solidShare_20 : decode cX11_solidShare 20 = .ok (.iload_n 3, 1) := by decide +kernel
theorem dX11_solidShare_21 : decode cX11_solidShare 21 = .ok (.sipush 1024, 3) := by decide +kernel
theorem dX11_solidShare_24 : decode cX11_solidShare 24 = .ok (.if_icmp .ge 25, 3) := by decide +kernel
theorem dX11_solidShare_27 : decode cX11_solidShare 27 = .ok (.aload_n 0, 1) := by decide +kernel
theorem dX11_solidShare_28 : decode cX11_solidShare 28 = .ok (.getfield 10, 3) := by decide +kernel
theorem dX11_solidShare_31 : decode cX11_solidShare 31 = .ok (.getfield 146, 3) := by decide +kernel
theorem dX11_solidShare_34 : decode cX11_solidShare 34 = .ok (.iload_n 3, 1) := by decide +kernel
theorem dX11_solidShare_35 : decode cX11_solidShare 35 = .ok (.iaload, 1) := by decide +kernel
theorem dX11_solidShare_36 : decode cX11_solidShare 36 = .ok (.iload_n 1, 1) := by decide +kernel
theorem dX11_solidShare_37 : decode cX11_solidShare 37 = .ok (.if_icmp .eq 6, 3) := by decide +kernel
theorem dX11_solidShare_40 : decode cX11_solidShare 40 = .ok (.iinc 2 1, 3) := by decide +kernel
theorem dX11_solidShare_43 : decode cX11_solidShare 43 = .ok (.iinc 3 1, 3) := by decide +kernel
theorem dX11_solidShare_46 : decode cX11_solidShare 46 = .ok (.goto (-26), 3) := by decide +kernel
theorem dX11_solidShare_49 : decode cX11_solidShare 49 = .ok (.iload_n 2, 1) := by decide +kernel
theorem dX11_solidShare_50 : decode cX11_solidShare 50 = .ok (.i2f, 1) := by decide +kernel
theorem dX11_solidShare_51 : decode cX11_solidShare 51 = .ok (.ldc 245, 2) := by decide +kernel
theorem dX11_solidShare_53 : decode cX11_solidShare 53 = .ok (.fdiv, 1) := by decide +kernel
theorem dX11_solidShare_54 : decode cX11_solidShare 54 = .ok (.freturn, 1) := by decide +kernel
theorem dX11_meanSample_0 : decode cX11_meanSample 0 = .ok (.iconst 0, 1) := by decide +kernel
theorem dX11_meanSample_1 : decode cX11_meanSample 1 = .ok (.istore_n 1, 1) := by decide +kernel
theorem dX11_meanSample_2 : decode cX11_meanSample 2 = .ok (.iconst 0, 1) := by decide +kernel
theorem dX11_meanSample_3 : decode cX11_meanSample 3 = .ok (.istore_n 2, 1) := by decide +kernel
theorem dX11_meanSample_4 : decode cX11_meanSample 4 = .ok (.iload_n 2, 1) := by decide +kernel
theorem dX11_meanSample_5 : decode cX11_meanSample 5 = .ok (.bipush 40, 2) := by decide +kernel
theorem dX11_meanSample_7 : decode cX11_meanSample 7 = .ok (.if_icmp .ge 24, 3) := by decide +kernel
theorem dX11_meanSample_10 : decode cX11_meanSample 10 = .ok (.iload_n 1, 1) := by decide +kernel
theorem dX11_meanSample_11 : decode cX11_meanSample 11 = .ok (.aload_n 0, 1) := by decide +kernel
theorem dX11_meanSample_12 : decode cX11_meanSample 12 = .ok (.getfield 10, 3) := by decide +kernel
theorem dX11_meanSample_15 : decode cX11_meanSample 15 = .ok (.getfield 153, 3) := by decide +kernel
theorem dX11_meanSample_18 : decode cX11_meanSample 18 = .ok (.getfield 157, 3) := by decide +kernel
theorem dX11_meanSample_21 : decode cX11_meanSample 21 = .ok (.iload_n 2, 1) := by decide +kernel
theorem dX11_meanSample_22 : decode cX11_meanSample 22 = .ok (.iaload, 1) := by decide +kernel
theorem dX11_meanSample_23 : decode cX11_meanSample 23 = .ok (.iadd, 1) := by decide +kernel
theorem dX11_meanSample_24 : decode cX11_meanSample 24 = .ok (.istore_n 1, 1) := by decide +kernel
theorem dX11_meanSample_25 : decode cX11_meanSample 25 = .ok (.iinc 2 1, 3) := by decide +kernel
theorem dX11_meanSample_28 : decode cX11_meanSample 28 = .ok (.goto (-24), 3) := by decide +kernel
theorem dX11_meanSample_31 : decode cX11_meanSample 31 = .ok (.iload_n 1, 1) := by decide +kernel
theorem dX11_meanSample_32 : decode cX11_meanSample 32 = .ok (.i2d, 1) := by decide +kernel
theorem dX11_meanSample_33 : decode cX11_meanSample 33 = .ok (.ldc2_w 246, 3) := by decide +kernel
theorem dX11_meanSample_36 : decode cX11_meanSample 36 = .ok (.ddiv, 1) := by decide +kernel
theorem dX11_meanSample_37 : decode cX11_meanSample 37 = .ok (.dreturn, 1) := by decide +kernel
theorem dX11_checkAddress_0 : decode cX11_checkAddress 0 = .ok (.iload_n 0, 1) := by decide +kernel
theorem dX11_checkAddress_1 : decode cX11_checkAddress 1 = .ok (.sipush 4096, 3) := by decide +kernel
theorem dX11_checkAddress_4 : decode cX11_checkAddress 4 = .ok (.invokestatic 56, 3) := by decide +kernel
theorem dX11_checkAddress_7 : decode cX11_checkAddress 7 = .ok (.return_, 1) := by decide +kernel
theorem dX11_checkIndex_0 : decode cX11_checkIndex 0 = .ok (.iload_n 0, 1) := by decide +kernel
theorem dX11_checkIndex_1 : decode cX11_checkIndex 1 = .ok (.ifCond .lt 8, 3) := by decide +kernel
theorem dX11_checkIndex_4 : decode cX11_checkIndex 4 = .ok (.iload_n 0, 1) := by decide +kernel
theorem dX11_checkIndex_5 : decode cX11_checkIndex 5 = .ok (.iload_n 1, 1) := by decide +kernel
theorem dX11_checkIndex_6 : decode cX11_checkIndex 6 = .ok (.if_icmp .lt 13, 3) := by decide +kernel
theorem dX11_checkIndex_9 : decode cX11_checkIndex 9 = .ok (.new 248, 3) := by decide +kernel
theorem dX11_checkIndex_12 : decode cX11_checkIndex 12 = .ok (.dup, 1) := by decide +kernel
theorem dX11_checkIndex_13 : decode cX11_checkIndex 13 = .ok (.ldc 250, 2) := by decide +kernel
theorem dX11_checkIndex_15 : decode cX11_checkIndex 15 = .ok (.invokespecial 252, 3) := by decide +kernel
theorem dX11_checkIndex_18 : decode cX11_checkIndex 18 = .ok (.athrow, 1) := by decide +kernel
theorem dX11_checkIndex_19 : decode cX11_checkIndex 19 = .ok (.return_, 1) := by decide +kernel
theorem dX11_checkByte_0 : decode cX11_checkByte 0 = .ok (.iload_n 0, 1) := by decide +kernel
theorem dX11_checkByte_1 : decode cX11_checkByte 1 = .ok (.iconst 0, 1) := by decide +kernel
theorem dX11_checkByte_2 : decode cX11_checkByte 2 = .ok (.sipush 255, 3) := by decide +kernel
theorem dX11_checkByte_5 : decode cX11_checkByte 5 = .ok (.invokestatic 77, 3) := by decide +kernel
theorem dX11_checkByte_8 : decode cX11_checkByte 8 = .ok (.return_, 1) := by decide +kernel
theorem dX11_checkArgument_0 : decode cX11_checkArgument 0 = .ok (.iload_n 0, 1) := by decide +kernel
theorem dX11_checkArgument_1 : decode cX11_checkArgument 1 = .ok (.iload_n 1, 1) := by decide +kernel
theorem dX11_checkArgument_2 : decode cX11_checkArgument 2 = .ok (.if_icmp .lt 8, 3) := by decide +kernel
theorem dX11_checkArgument_5 : decode cX11_checkArgument 5 = .ok (.iload_n 0, 1) := by decide +kernel
theorem dX11_checkArgument_6 : decode cX11_checkArgument 6 = .ok (.iload_n 2, 1) := by decide +kernel
theorem dX11_checkArgument_7 : decode cX11_checkArgument 7 = .ok (.if_icmp .le 13, 3) := by decide +kernel
theorem dX11_checkArgument_10 : decode cX11_checkArgument 10 = .ok (.new 253, 3) := by decide +kernel
theorem dX11_checkArgument_13 : decode cX11_checkArgument 13 = .ok (.dup, 1) := by decide +kernel
theorem dX11_checkArgument_14 : decode cX11_checkArgument 14 = .ok (.ldc 255, 2) := by decide +kernel
theorem dX11_checkArgument_16 : decode cX11_checkArgument 16 = .ok (.invokespecial 257, 3) := by decide +kernel
theorem dX11_checkArgument_19 : decode cX11_checkArgument 19 = .ok (.athrow, 1) := by decide +kernel
theorem dX11_checkArgument_20 : decode cX11_checkArgument 20 = .ok (.return_, 1) := by decide +kernel
theorem dX11_snapshotOf_0 : decode cX11_snapshotOf 0 = .ok (.iload_n 1, 1) := by decide +kernel
theorem dX11_snapshotOf_1 : decode cX11_snapshotOf 1 = .ok (.ifCond .lt 25, 3) := by decide +kernel
theorem dX11_snapshotOf_4 : decode cX11_snapshotOf 4 = .ok (.iload_n 1, 1) := by decide +kernel
theorem dX11_snapshotOf_5 : decode cX11_snapshotOf 5 = .ok (.aload_n 0, 1) := by decide +kernel
theorem dX11_snapshotOf_6 : decode cX11_snapshotOf 6 = .ok (.getfield 188, 3) := by decide +kernel
theorem dX11_snapshotOf_9 : decode cX11_snapshotOf 9 = .ok (.if_icmp .ge 17, 3) := by decide +kernel
theorem dX11_snapshotOf_12 : decode cX11_snapshotOf 12 = .ok (.iload_n 1, 1) := by decide +kernel
theorem dX11_snapshotOf_13 : decode cX11_snapshotOf 13 = .ok (.iconst 3, 1) := by decide +kernel
theorem dX11_snapshotOf_14 : decode cX11_snapshotOf 14 = .ok (.if_icmp .ge 12, 3) := by decide +kernel
theorem dX11_snapshotOf_17 : decode cX11_snapshotOf 17 = .ok (.aload_n 0, 1) := by decide +kernel
theorem dX11_snapshotOf_18 : decode cX11_snapshotOf 18 = .ok (.getfield 16, 3) := by decide +kernel
theorem dX11_snapshotOf_21 : decode cX11_snapshotOf 21 = .ok (.iload_n 1, 1) := by decide +kernel
theorem dX11_snapshotOf_22 : decode cX11_snapshotOf 22 = .ok (.aaload, 1) := by decide +kernel
theorem dX11_snapshotOf_23 : decode cX11_snapshotOf 23 = .ok (.goto 4, 3) := by decide +kernel
theorem dX11_snapshotOf_26 : decode cX11_snapshotOf 26 = .ok (.aconst_null, 1) := by decide +kernel
theorem dX11_snapshotOf_27 : decode cX11_snapshotOf 27 = .ok (.areturn, 1) := by decide +kernel
theorem dX12_init_0 : decode cX12_init 0 = .ok (.aload_n 0, 1) := by decide +kernel
theorem dX12_init_1 : decode cX12_init 1 = .ok (.invokespecial 1, 3) := by decide +kernel
theorem dX12_init_4 : decode cX12_init 4 = .ok (.aload_n 0, 1) := by decide +kernel
theorem dX12_init_5 : decode cX12_init 5 = .ok (.sipush 4096, 3) := by decide +kernel
theorem dX12_init_8 : decode cX12_init 8 = .ok (.newarray .int, 2) := by decide +kernel
theorem dX12_init_10 : decode cX12_init 10 = .ok (.putfield 7, 3) := by decide +kernel
theorem dX12_init_13 : decode cX12_init 13 = .ok (.aload_n 0, 1) := by decide +kernel
theorem dX12_init_14 : decode cX12_init 14 = .ok (.sipush 512, 3) := by decide +kernel
theorem dX12_init_17 : decode cX12_init 17 = .ok (.newarray .int, 2) := by decide +kernel
theorem dX12_init_19 : decode cX12_init 19 = .ok (.putfield 13, 3) := by decide +kernel
theorem dX12_init_22 : decode cX12_init 22 = .ok (.aload_n 0, 1) := by decide +kernel
theorem dX12_init_23 : decode cX12_init 23 = .ok (.sipush 2048, 3) := by decide +kernel
theorem dX12_init_26 : decode cX12_init 26 = .ok (.newarray .int, 2) := by decide +kernel
theorem dX12_init_28 : decode cX12_init 28 = .ok (.putfield 16, 3) := by decide +kernel
theorem dX12_init_31 : decode cX12_init 31 = .ok (.aload_n 0, 1) := by decide +kernel
theorem dX12_init_32 : decode cX12_init 32 = .ok (.bipush 48, 2) := by decide +kernel
theorem dX12_init_34 : decode cX12_init 34 = .ok (.newarray .int, 2) := by decide +kernel
theorem dX12_init_36 : decode cX12_init 36 = .ok (.putfield 19, 3) := by decide +kernel
theorem dX12_init_39 : decode cX12_init 39 = .ok (.aload_n 0, 1) := by decide +kernel
theorem dX12_init_40 : decode cX12_init 40 = .ok (.sipush 1024, 3) := by decide +kernel
theorem dX12_init_43 : decode cX12_init 43 = .ok (.newarray .int, 2) := by decide +kernel
theorem dX12_init_45 : decode cX12_init 45 = .ok (.putfield 22, 3) := by decide +kernel
theorem dX12_init_48 : decode cX12_init 48 = .ok (.aload_n 0, 1) := by decide +kernel
theorem dX12_init_49 : decode cX12_init 49 = .ok (.bipush 40, 2) := by decide +kernel
theorem dX12_init_51 : decode cX12_init 51 = .ok (.newarray .int, 2) := by decide +kernel
theorem dX12_init_53 : decode cX12_init 53 = .ok (.putfield 25, 3) := by decide +kernel
theorem dX12_init_56 : decode cX12_init 56 = .ok (.aload_n 0, 1) := by decide +kernel
theorem dX12_init_57 : decode cX12_init 57 = .ok (.bipush 16, 2) := by decide +kernel
theorem dX12_init_59 : decode cX12_init 59 = .ok (.newarray .boolean, 2) := by decide +kernel
theorem dX12_init_61 : decode cX12_init 61 = .ok (.putfield 28, 3) := by decide +kernel
theorem dX12_init_64 : decode cX12_init 64 = .ok (.aload_n 0, 1) := by decide +kernel
theorem dX12_init_65 : decode cX12_init 65 = .ok (.bipush 40, 2) := by decide +kernel
theorem dX12_init_67 : decode cX12_init 67 = .ok (.newarray .int, 2) := by decide +kernel
theorem dX12_init_69 : decode cX12_init 69 = .ok (.putfield 32, 3) := by decide +kernel
theorem dX12_init_72 : decode cX12_init 72 = .ok (.aload_n 0, 1) := by decide +kernel
theorem dX12_init_73 : decode cX12_init 73 = .ok (.bipush 16, 2) := by decide +kernel
theorem dX12_init_75 : decode cX12_init 75 = .ok (.newarray .int, 2) := by decide +kernel
theorem dX12_init_77 : decode cX12_init 77 = .ok (.putfield 35, 3) := by decide +kernel
theorem dX12_init_80 : decode cX12_init 80 = .ok (.aload_n 0, 1) := by decide +kernel
theorem dX12_init_81 : decode cX12_init 81 = .ok (.iconst 3, 1) := by decide +kernel
theorem dX12_init_82 : decode cX12_init 82 = .ok (.newarray .int, 2) := by decide +kernel
theorem dX12_init_84 : decode cX12_init 84 = .ok (.putfield 38, 3) := by decide +kernel
theorem dX12_init_87 : decode cX12_init 87 = .ok (.aload_n 0, 1) := by decide +kernel
theorem dX12_init_88 : decode cX12_init 88 = .ok (.iconst 3, 1) := by decide +kernel
theorem dX12_init_89 : decode cX12_init 89 = .ok (.newarray .int, 2) := by decide +kernel
theorem dX12_init_91 : decode cX12_init 91 = .ok (.putfield 41, 3) := by decide +kernel
theorem dX12_init_94 : decode cX12_init 94 = .ok (.aload_n 0, 1) := by decide +kernel
theorem dX12_init_95 : decode cX12_init 95 = .ok (.iconst 3, 1) := by decide +kernel
theorem dX12_init_96 : decode cX12_init 96 = .ok (.newarray .int, 2) := by decide +kernel
theorem dX12_init_98 : decode cX12_init 98 = .ok (.putfield 44, 3) := by decide +kernel
theorem dX12_init_101 : decode cX12_init 101 = .ok (.aload_n 0, 1) := by decide +kernel
theorem dX12_init_102 : decode cX12_init 102 = .ok (.iconst 3, 1) := by decide +kernel
theorem dX12_init_103 : decode cX12_init 103 = .ok (.newarray .int, 2) := by decide +kernel
theorem dX12_init_105 : decode cX12_init 105 = .ok (.dup, 1) := by decide +kernel
theorem dX12_init_106 : decode cX12_init 106 = .ok (.iconst 0, 1) := by decide +kernel
theorem dX12_init_107 : decode cX12_init 107 = .ok (.iconst 1, 1) := by decide +kernel
theorem dX12_init_108 : decode cX12_init 108 = .ok (.iastore, 1) := by decide +kernel
theorem dX12_init_109 : decode cX12_init 109 = .ok (.dup, 1) := by decide +kernel
theorem dX12_init_110 : decode cX12_init 110 = .ok (.iconst 1, 1) := by decide +kernel
theorem dX12_init_111 : decode cX12_init 111 = .ok (.iconst 1, 1) := by decide +kernel
theorem dX12_init_112 : decode cX12_init 112 = .ok (.iastore, 1) := by decide +kernel
theorem dX12_init_113 : decode cX12_init 113 = .ok (.dup, 1) := by decide +kernel
theorem dX12_init_114 : decode cX12_init 114 = .ok (.iconst 2, 1) := by decide +kernel
theorem dX12_init_115 : decode cX12_init 115 = .ok (.iconst 1, 1) := by decide +kernel
theorem dX12_init_116 : decode cX12_init 116 = .ok (.iastore, 1) := by decide +kernel
theorem dX12_init_117 : decode cX12_init 117 = .ok (.putfield 47, 3) := by decide +kernel
theorem dX12_init_120 : decode cX12_init 120 = .ok (.aload_n 0, 1) := by decide +kernel
theorem dX12_init_121 : decode cX12_init 121 = .ok (.bipush 24, 2) := by decide +kernel
theorem dX12_init_123 : decode cX12_init 123 = .ok (.newarray .int, 2) := by decide +kernel
theorem dX12_init_125 : decode cX12_init 125 = .ok (.putfield 50, 3) := by decide +kernel
theorem dX12_init_128 : decode cX12_init 128 = .ok (.aload_n 0, 1) := by decide +kernel
theorem dX12_init_129 : decode cX12_init 129 = .ok (.bipush 8, 2) := by decide +kernel
theorem dX12_init_131 : decode cX12_init 131 = .ok (.newarray .boolean, 2) := by decide +kernel
theorem dX12_init_133 : decode cX12_init 133 = .ok (.putfield 53, 3) := by decide +kernel
theorem dX12_init_136 : decode cX12_init 136 = .ok (.aload_n 0, 1) := by decide +kernel
theorem dX12_init_137 : decode cX12_init 137 = .ok (.sipush 12288, 3) := by decide +kernel
theorem dX12_init_140 : decode cX12_init 140 = .ok (.newarray .int, 2) := by decide +kernel
theorem dX12_init_142 : decode cX12_init 142 = .ok (.putfield 56, 3) := by decide +kernel
theorem dX12_init_145 : decode cX12_init 145 = .ok (.aload_n 0, 1) := by decide +kernel
theorem dX12_init_146 : decode cX12_init 146 = .ok (.sipush 1536, 3) := by decide +kernel
theorem dX12_init_149 : decode cX12_init 149 = .ok (.newarray .int, 2) := by decide +kernel
theorem dX12_init_151 : decode cX12_init 151 = .ok (.putfield 59, 3) := by decide +kernel
theorem dX12_init_154 : decode cX12_init 154 = .ok (.aload_n 0, 1) := by decide +kernel
theorem dX12_init_155 : decode cX12_init 155 = .ok (.sipush 6144, 3) := by decide +kernel
theorem dX12_init_158 : decode cX12_init 158 = .ok (.newarray .int, 2) := by decide +kernel
theorem dX12_init_160 : decode cX12_init 160 = .ok (.putfield 62, 3) := by decide +kernel
theorem dX12_init_163 : decode cX12_init 163 = .ok (.aload_n 0, 1) := by decide +kernel
theorem dX12_init_164 : decode cX12_init 164 = .ok (.sipush 144, 3) := by decide +kernel
theorem dX12_init_167 : decode cX12_init 167 = .ok (.newarray .int, 2) := by decide +kernel
theorem dX12_init_169 : decode cX12_init 169 = .ok (.putfield 65, 3) := by decide +kernel
theorem dX12_init_172 : decode cX12_init 172 = .ok (.aload_n 0, 1) := by decide +kernel
theorem dX12_init_173 : decode cX12_init 173 = .ok (.sipush 3072, 3) := by decide +kernel
theorem dX12_init_176 : decode cX12_init 176 = .ok (.newarray .int, 2) := by decide +kernel
theorem dX12_init_178 : decode cX12_init 178 = .ok (.putfield 68, 3) := by decide +kernel
theorem dX12_init_181 : decode cX12_init 181 = .ok (.aload_n 0, 1) := by decide +kernel
theorem dX12_init_182 : decode cX12_init 182 = .ok (.bipush 120, 2) := by decide +kernel
theorem dX12_init_184 : decode cX12_init 184 = .ok (.newarray .int, 2) := by decide +kernel
theorem dX12_init_186 : decode cX12_init 186 = .ok (.putfield 71, 3) := by decide +kernel
theorem dX12_init_189 : decode cX12_init 189 = .ok (.aload_n 0, 1) := by decide +kernel
theorem dX12_init_190 : decode cX12_init 190 = .ok (.bipush 48, 2) := by decide +kernel
theorem dX12_init_192 : decode cX12_init 192 = .ok (.newarray .boolean, 2) := by decide +kernel
theorem dX12_init_194 : decode cX12_init 194 = .ok (.putfield 74, 3) := by decide +kernel
theorem dX12_init_197 : decode cX12_init 197 = .ok (.aload_n 0, 1) := by decide +kernel
theorem dX12_init_198 : decode cX12_init 198 = .ok (.bipush 120, 2) := by decide +kernel
theorem dX12_init_200 : decode cX12_init 200 = .ok (.newarray .int, 2) := by decide +kernel
theorem dX12_init_202 : decode cX12_init 202 = .ok (.putfield 77, 3) := by decide +kernel
theorem dX12_init_205 : decode cX12_init 205 = .ok (.aload_n 0, 1) := by decide +kernel
theorem dX12_init_206 : decode cX12_init 206 = .ok (.bipush 48, 2) := by decide +kernel
theorem dX12_init_208 : decode cX12_init 208 = .ok (.newarray .int, 2) := by decide +kernel
theorem dX12_init_210 : decode cX12_init 210 = .ok (.putfield 80, 3) := by decide +kernel
theorem dX12_init_213 : decode cX12_init 213 = .ok (.aload_n 0, 1) := by decide +kernel
theorem dX12_init_214 : decode cX12_init 214 = .ok (.bipush 9, 2) := by decide +kernel
theorem dX12_init_216 : decode cX12_init 216 = .ok (.newarray .int, 2) := by decide +kernel
theorem dX12_init_218 : decode cX12_init 218 = .ok (.putfield 83, 3) := by decide +kernel
theorem dX12_init_221 : decode cX12_init 221 = .ok (.aload_n 0, 1) := by decide +kernel
theorem dX12_init_222 : decode cX12_init 222 = .ok (.bipush 9, 2) := by decide +kernel
theorem dX12_init_224 : decode cX12_init 224 = .ok (.newarray .int, 2) := by decide +kernel
theorem dX12_init_226 : decode cX12_init 226 = .ok (.putfield 86, 3) := by decide +kernel
theorem dX12_init_229 : decode cX12_init 229 = .ok (.aload_n 0, 1) := by decide +kernel
theorem dX12_init_230 : decode cX12_init 230 = .ok (.bipush 9, 2) := by decide +kernel
theorem dX12_init_232 : decode cX12_init 232 = .ok (.newarray .int, 2) := by decide +kernel
theorem dX12_init_234 : decode cX12_init 234 = .ok (.putfield 89, 3) := by decide +kernel
theorem dX12_init_237 : decode cX12_init 237 = .ok (.aload_n 0, 1) := by decide +kernel
theorem dX12_init_238 : decode cX12_init 238 = .ok (.bipush 9, 2) := by decide +kernel
theorem dX12_init_240 : decode cX12_init 240 = .ok (.newarray .int, 2) := by decide +kernel
theorem dX12_init_242 : decode cX12_init 242 = .ok (.putfield 92, 3) := by decide +kernel
theorem dX12_init_245 : decode cX12_init 245 = .ok (.aload_n 0, 1) := by decide +kernel
theorem dX12_init_246 : decode cX12_init 246 = .ok (.bipush 72, 2) := by decide +kernel
theorem dX12_init_248 : decode cX12_init 248 = .ok (.newarray .int, 2) := by decide +kernel
theorem dX12_init_250 : decode cX12_init 250 = .ok (.putfield 95, 3) := by decide +kernel
theorem dX12_init_253 : decode cX12_init 253 = .ok (.aload_n 0, 1) := by decide +kernel
theorem dX12_init_254 : decode cX12_init 254 = .ok (.bipush 24, 2) := by decide +kernel
theorem dX12_init_256 : decode cX12_init 256 = .ok (.newarray .boolean, 2) := by decide +kernel
theorem dX12_init_258 : decode cX12_init 258 = .ok (.putfield 98, 3) := by decide +kernel
theorem dX12_init_261 : decode cX12_init 261 = .ok (.aload_n 0, 1) := by decide +kernel
theorem dX12_init_262 : decode cX12_init 262 = .ok (.bipush 6, 2) := by decide +kernel
theorem dX12_init_264 : decode cX12_init 264 = .ok (.newarray .long, 2) := by decide +kernel
theorem dX12_init_266 : decode cX12_init 266 = .ok (.putfield 101, 3) := by decide +kernel
theorem dX12_init_269 : decode cX12_init 269 = .ok (.aload_n 0, 1) := by decide +kernel
theorem dX12_init_270 : decode cX12_init 270 = .ok (.iconst (-1), 1) := by decide +kernel
theorem dX12_init_271 : decode cX12_init 271 = .ok (.putfield 105, 3) := by decide +kernel
theorem dX12_init_274 : decode cX12_init 274 = .ok (.aload_n 0, 1) := by decide +kernel
theorem dX12_init_275 : decode cX12_init 275 = .ok (.bipush 40, 2) := by decide +kernel
theorem dX12_init_277 : decode cX12_init 277 = .ok (.newarray .char, 2) := by decide +kernel
theorem dX12_init_279 : decode cX12_init 279 = .ok (.putfield 109, 3) := by decide +kernel
theorem dX12_init_282 : decode cX12_init 282 = .ok (.aload_n 0, 1) := by decide +kernel
theorem dX12_init_283 : decode cX12_init 283 = .ok (.bipush 8, 2) := by decide +kernel
theorem dX12_init_285 : decode cX12_init 285 = .ok (.newarray .boolean, 2) := by decide +kernel
theorem dX12_init_287 : decode cX12_init 287 = .ok (.putfield 113, 3) := by decide +kernel
theorem dX12_init_290 : decode cX12_init 290 = .ok (.aload_n 0, 1) := by decide +kernel
theorem dX12_init_291 : decode cX12_init 291 = .ok (.getfield 50, 3) := by decide +kernel
theorem dX12_init_294 : decode cX12_init 294 = .ok (.iconst 3, 1) := by decide +kernel
theorem dX12_init_295 : decode cX12_init 295 = .ok (.sipush 255, 3) := by decide +kernel
theorem dX12_init_298 : decode cX12_init 298 = .ok (.iastore, 1) := by decide +kernel
theorem dX12_init_299 : decode cX12_init 299 = .ok (.aload_n 0, 1) := by decide +kernel
theorem dX12_init_300 : decode cX12_init 300 = .ok (.getfield 53, 3) := by decide +kernel
theorem dX12_init_303 : decode cX12_init 303 = .ok (.iconst 3, 1) := by decide +kernel
theorem dX12_init_304 : decode cX12_init 304 = .ok (.iconst 1, 1) := by decide +kernel
theorem dX12_init_305 : decode cX12_init 305 = .ok (.bastore, 1) := by decide +kernel
theorem dX12_init_306 : decode cX12_init 306 = .ok (.return_, 1) := by decide +kernel
theorem dX12_thrown_0 : decode cX12_thrown 0 = .ok (.aload_n 0, 1) := by decide +kernel
theorem dX12_thrown_1 : decode cX12_thrown 1 = .ok (.getfield 116, 3) := by decide +kernel
theorem dX12_thrown_4 : decode cX12_thrown 4 = .ok (.ireturn, 1) := by decide +kernel
theorem dX12_fails_0 : decode cX12_fails 0 = .ok (.aload_n 0, 1) := by decide +kernel
theorem dX12_fails_1 : decode cX12_fails 1 = .ok (.iload_n 1, 1) := by decide +kernel
theorem dX12_fails_2 : decode cX12_fails 2 = .ok (.putfield 116, 3) := by decide +kernel
theorem dX12_fails_5 : decode cX12_fails 5 = .ok (.iload_n 1, 1) := by decide +kernel
theorem dX12_fails_6 : decode cX12_fails 6 = .ok (.ifCond .le 7, 3) := by decide +kernel
theorem dX12_fails_9 : decode cX12_fails 9 = .ok (.iconst 1, 1) := by decide +kernel
theorem dX12_fails_10 : decode cX12_fails 10 = .ok (.goto 4, 3) := by decide +kernel
theorem dX12_fails_13 : decode cX12_fails 13 = .ok (.iconst 0, 1) := by decide +kernel
theorem dX12_fails_14 : decode cX12_fails 14 = .ok (.ireturn, 1) := by decide +kernel
theorem dX12_tells_0 : decode cX12_tells 0 = .ok (.aload_n 0, 1) := by decide +kernel
theorem dX12_tells_1 : decode cX12_tells 1 = .ok (.iconst 0, 1) := by decide +kernel
theorem dX12_tells_2 : decode cX12_tells 2 = .ok (.putfield 116, 3) := by decide +kernel
theorem dX12_tells_5 : decode cX12_tells 5 = .ok (.iload_n 1, 1) := by decide +kernel
theorem dX12_tells_6 : decode cX12_tells 6 = .ok (.ireturn, 1) := by decide +kernel
theorem dX12_in_0 : decode cX12_in 0 = .ok (.iload_n 0, 1) := by decide +kernel
theorem dX12_in_1 : decode cX12_in 1 = .ok (.iload_n 1, 1) := by decide +kernel
theorem dX12_in_2 : decode cX12_in 2 = .ok (.if_icmp .lt 12, 3) := by decide +kernel
theorem dX12_in_5 : decode cX12_in 5 = .ok (.iload_n 0, 1) := by decide +kernel
theorem dX12_in_6 : decode cX12_in 6 = .ok (.iload_n 2, 1) := by decide +kernel
theorem dX12_in_7 : decode cX12_in 7 = .ok (.if_icmp .gt 7, 3) := by decide +kernel
theorem dX12_in_10 : decode cX12_in 10 = .ok (.iconst 1, 1) := by decide +kernel
theorem dX12_in_11 : decode cX12_in 11 = .ok (.goto 4, 3) := by decide +kernel
theorem dX12_in_14 : decode cX12_in 14 = .ok (.iconst 0, 1) := by decide +kernel
theorem dX12_in_15 : decode cX12_in 15 = .ok (.ireturn, 1) := by decide +kernel
theorem dX12_isNoByte_0 : decode cX12_isNoByte 0 = .ok (.iload_n 0, 1) := by decide +kernel
theorem dX12_isNoByte_1 : decode cX12_isNoByte 1 = .ok (.iconst 0, 1) := by decide +kernel
theorem dX12_isNoByte_2 : decode cX12_isNoByte 2 = .ok (.sipush 255, 3) := by decide +kernel
theorem dX12_isNoByte_5 : decode cX12_isNoByte 5 = .ok (.invokestatic 119, 3) := by decide +kernel
theorem dX12_isNoByte_8 : decode cX12_isNoByte 8 = .ok (.ifCond .ne 7, 3) := by decide +kernel
theorem dX12_isNoByte_11 : decode cX12_isNoByte 11 = .ok (.iconst 1, 1) := by decide +kernel
theorem dX12_isNoByte_12 : decode cX12_isNoByte 12 = .ok (.goto 4, 3) := by decide +kernel
theorem dX12_isNoByte_15 : decode cX12_isNoByte 15 = .ok (.iconst 0, 1) := by decide +kernel
theorem dX12_isNoByte_16 : decode cX12_isNoByte 16 = .ok (.ireturn, 1) := by decide +kernel
theorem dX12_isNoAddress_0 : decode cX12_isNoAddress 0 = .ok (.iload_n 0, 1) := by decide +kernel
theorem dX12_isNoAddress_1 : decode cX12_isNoAddress 1 = .ok (.iconst 0, 1) := by decide +kernel
theorem dX12_isNoAddress_2 : decode cX12_isNoAddress 2 = .ok (.sipush 4095, 3) := by decide +kernel
theorem dX12_isNoAddress_5 : decode cX12_isNoAddress 5 = .ok (.invokestatic 119, 3) := by decide +kernel
theorem dX12_isNoAddress_8 : decode cX12_isNoAddress 8 = .ok (.ifCond .ne 7, 3) := by decide +kernel
theorem dX12_isNoAddress_11 : decode cX12_isNoAddress 11 = .ok (.iconst 1, 1) := by decide +kernel
theorem dX12_isNoAddress_12 : decode cX12_isNoAddress 12 = .ok (.goto 4, 3) := by decide +kernel
theorem dX12_isNoAddress_15 : decode cX12_isNoAddress 15 = .ok (.iconst 0, 1) := by decide +kernel
theorem dX12_isNoAddress_16 : decode cX12_isNoAddress 16 = .ok (.ireturn, 1) := by decide +kernel
theorem dX12_keeps_0 : decode cX12_keeps 0 = .ok (.aload_n 0, 1) := by decide +kernel
theorem dX12_keeps_1 : decode cX12_keeps 1 = .ok (.getfield 105, 3) := by decide +kernel
theorem dX12_keeps_4 : decode cX12_keeps 4 = .ok (.ifCond .lt 13, 3) := by decide +kernel
theorem dX12_keeps_7 : decode cX12_keeps 7 = .ok (.aload_n 0, 1) := by decide +kernel
theorem dX12_keeps_8 : decode cX12_keeps 8 = .ok (.dup, 1) := by decide +kernel
theorem dX12_keeps_9 : decode cX12_keeps 9 = .ok (.getfield 105, 3) := by decide +kernel
theorem dX12_keeps_12 : decode cX12_keeps 12 = .ok (.iconst 1, 1) := by decide +kernel
theorem dX12_keeps_13 : decode cX12_keeps 13 = .ok (.iadd, 1) := by decide +kernel
theorem dX12_keeps_14 : decode cX12_keeps 14 = .ok (.putfield 105, 3) := by decide +kernel
theorem dX12_keeps_17 : decode cX12_keeps 17 = .ok (.return_, 1) := by decide +kernel
theorem dX12_has_0 : decode cX12_has 0 = .ok (.iload_n 0, 1) := by decide +kernel
theorem dX12_has_1 : decode cX12_has 1 = .ok (.iload_n 1, 1) := by decide +kernel
theorem dX12_has_2 : decode cX12_has 2 = .ok (.ishr, 1) := by decide +kernel
theorem dX12_has_3 : decode cX12_has 3 = .ok (.iconst 1, 1) := by decide +kernel
theorem dX12_has_4 : decode cX12_has 4 = .ok (.iand, 1) := by decide +kernel
theorem dX12_has_5 : decode cX12_has 5 = .ok (.iconst 1, 1) := by decide +kernel
theorem dX12_has_6 : decode cX12_has 6 = .ok (.if_icmp .ne 7, 3) := by decide +kernel
theorem dX12_has_9 : decode cX12_has 9 = .ok (.iconst 1, 1) := by decide +kernel
theorem dX12_has_10 : decode cX12_has 10 = .ok (.goto 4, 3) := by decide +kernel
theorem dX12_has_13 : decode cX12_has 13 = .ok (.iconst 0, 1) := by decide +kernel
theorem dX12_has_14 : decode cX12_has 14 = .ok (.ireturn, 1) := by decide +kernel
theorem dX12_lineNow_0 : decode cX12_lineNow 0 = .ok (.aload_n 0, 1) := by decide +kernel
theorem dX12_lineNow_1 : decode cX12_lineNow 1 = .ok (.getfield 123, 3) := by decide +kernel
theorem dX12_lineNow_4 : decode cX12_lineNow 4 = .ok (.ldc2_w 127, 3) := by decide +kernel
theorem dX12_lineNow_7 : decode cX12_lineNow 7 = .ok (.ldiv, 1) := by decide +kernel
theorem dX12_lineNow_8 : decode cX12_lineNow 8 = .ok (.ldc2_w 129, 3) := by decide +kernel
theorem dX12_lineNow_11 : decode cX12_lineNow 11 = .ok (.lrem, 1) := by decide +kernel
theorem dX12_lineNow_12 : decode cX12_lineNow 12 = .ok (.l2i, 1) := by decide +kernel
theorem dX12_lineNow_13 : decode cX12_lineNow 13 = .ok (.ireturn, 1) := by decide +kernel
theorem dX12_seenColumns_0 : decode cX12_seenColumns 0 = .ok (.iconst 0, 1) := by decide +kernel
theorem dX12_seenColumns_1 : decode cX12_seenColumns 1 = .ok (.istore_n 2, 1) := by decide +kernel
theorem dX12_seenColumns_2 : decode cX12_seenColumns 2 = .ok (.iload_n 2, 1) := by decide +kernel
theorem dX12_seenColumns_3 : decode cX12_seenColumns 3 = .ok (.iconst 4, 1) := by decide +kernel
theorem dX12_seenColumns_4 : decode cX12_seenColumns 4 = .ok (.if_icmp .ge 29, 3) := by decide +kernel
theorem dX12_seenColumns_7 : decode cX12_seenColumns 7 = .ok (.aload_n 0, 1) := by decide +kernel
theorem dX12_seenColumns_8 : decode cX12_seenColumns 8 = .ok (.getfield 113, 3) := by decide +kernel
theorem dX12_seenColumns_11 : decode cX12_seenColumns 11 = .ok (.iload_n 2, 1) := by decide +kernel
theorem dX12_seenColumns_12 : decode cX12_seenColumns 12 = .ok (.iload_n 1, 1) := by decide +kernel
theorem dX12_seenColumns_13 : decode cX12_seenColumns 13 = .ok (.iload_n 2, 1) := by decide +kernel
theorem dX12_seenColumns_14 : decode cX12_seenColumns 14 = .ok (.invokestatic 131, 3) := by decide +kernel
theorem dX12_seenColumns_17 : decode cX12_seenColumns 17 = .ok (.bastore, 1) := by decide +kernel
theorem dX12_seenColumns_18 : decode cX12_seenColumns 18 = .ok (.aload_n 0, 1) := by decide +kernel
theorem dX12_seenColumns_19 : decode cX12_seenColumns 19 = .ok (.getfield 113, 3) := by decide +kernel
theorem dX12_seenColumns_22 : decode cX12_seenColumns 22 = .ok (.iconst 4, 1) := by decide +kernel
theorem dX12_seenColumns_23 : decode cX12_seenColumns 23 = .ok (.iload_n 2, 1) := by decide +kernel
theorem dX12_seenColumns_24 : decode cX12_seenColumns 24 = .ok (.iadd, 1) := by decide +kernel
theorem dX12_seenColumns_25 : decode cX12_seenColumns 25 = .ok (.iconst 0, 1) := by decide +kernel
theorem dX12_seenColumns_26 : decode cX12_seenColumns 26 = .ok (.bastore, 1) := by decide +kernel
theorem dX12_seenColumns_27 : decode cX12_seenColumns 27 = .ok (.iinc 2 1, 3) := by decide +kernel
theorem dX12_seenColumns_30 : decode cX12_seenColumns 30 = .ok (.goto (-28), 3) := by decide +kernel
theorem dX12_seenColumns_33 : decode cX12_seenColumns 33 = .ok (.iconst 0, 1) := by decide +kernel
theorem dX12_seenColumns_34 : decode cX12_seenColumns 34 = .ok (.istore_n 2, 1) := by decide +kernel
theorem dX12_seenColumns_35 : decode cX12_seenColumns 35 = .ok (.iload_n 2, 1) := by decide +kernel
theorem dX12_seenColumns_36 : decode cX12_seenColumns 36 = .ok (.bipush 8, 2) := by decide +kernel
theorem dX12_seenColumns_38 : decode cX12_seenColumns 38 = .ok (.if_icmp .ge 88, 3) := by decide +kernel
theorem dX12_seenColumns_41 : decode cX12_seenColumns 41 = .ok (.iconst 0, 1) := by decide +kernel
theorem dX12_seenColumns_42 : decode cX12_seenColumns 42 = .ok (.istore_n 3, 1) := by decide +kernel
theorem dX12_seenColumns_43 : decode cX12_seenColumns 43 = .ok (.iload_n 3, 1) := by decide +kernel
theorem dX12_seenColumns_44 : decode cX12_seenColumns 44 = .ok (.bipush 16, 2) := by decide +kernel
theorem dX12_seenColumns_46 : decode cX12_seenColumns 46 = .ok (.if_icmp .ge 74, 3) := by decide +kernel
theorem dX12_seenColumns_49 : decode cX12_seenColumns 49 = .ok (.aload_n 0, 1) := by decide +kernel
theorem dX12_seenColumns_50 : decode cX12_seenColumns 50 = .ok (.getfield 28, 3) := by decide +kernel
theorem dX12_seenColumns_53 : decode cX12_seenColumns 53 = .ok (.iload_n 3, 1) := by decide +kernel
theorem dX12_seenColumns_54 : decode cX12_seenColumns 54 = .ok (.baload, 1) := by decide +kernel
theorem dX12_seenColumns_55 : decode cX12_seenColumns 55 = .ok (.ifCond .ne 6, 3) := by decide +kernel
theorem dX12_seenColumns_58 : decode cX12_seenColumns 58 = .ok (.goto 56, 3) := by decide +kernel
theorem dX12_seenColumns_61 : decode cX12_seenColumns 61 = .ok (.aload_n 0, 1) := by decide +kernel
theorem dX12_seenColumns_62 : decode cX12_seenColumns 62 = .ok (.getfield 113, 3) := by decide +kernel
theorem dX12_seenColumns_65 : decode cX12_seenColumns 65 = .ok (.iload_n 3, 1) := by decide +kernel
theorem dX12_seenColumns_66 : decode cX12_seenColumns 66 = .ok (.iconst 4, 1) := by decide +kernel
theorem dX12_seenColumns_67 : decode cX12_seenColumns 67 = .ok (.idiv, 1) := by decide +kernel
theorem dX12_seenColumns_68 : decode cX12_seenColumns 68 = .ok (.baload, 1) := by decide +kernel
theorem dX12_seenColumns_69 : decode cX12_seenColumns 69 = .ok (.ifCond .ne 16, 3) := by decide +kernel
theorem dX12_seenColumns_72 : decode cX12_seenColumns 72 = .ok (.aload_n 0, 1) := by decide +kernel
theorem dX12_seenColumns_73 : decode cX12_seenColumns 73 = .ok (.getfield 113, 3) := by decide +kernel
theorem dX12_seenColumns_76 : decode cX12_seenColumns 76 = .ok (.iconst 4, 1) := by decide +kernel
theorem dX12_seenColumns_77 : decode cX12_seenColumns 77 = .ok (.iload_n 3, 1) := by decide +kernel
theorem dX12_seenColumns_78 : decode cX12_seenColumns 78 = .ok (.iconst 4, 1) := by decide +kernel
theorem dX12_seenColumns_79 : decode cX12_seenColumns 79 = .ok (.irem, 1) := by decide +kernel
theorem dX12_seenColumns_80 : decode cX12_seenColumns 80 = .ok (.iadd, 1) := by decide +kernel
theorem dX12_seenColumns_81 : decode cX12_seenColumns 81 = .ok (.baload, 1) := by decide +kernel
theorem dX12_seenColumns_82 : decode cX12_seenColumns 82 = .ok (.ifCond .eq 7, 3) := by decide +kernel
theorem dX12_seenColumns_85 : decode cX12_seenColumns 85 = .ok (.iconst 1, 1) := by decide +kernel
theorem dX12_seenColumns_86 : decode cX12_seenColumns 86 = .ok (.goto 4, 3) := by decide +kernel
theorem dX12_seenColumns_89 : decode cX12_seenColumns 89 = .ok (.iconst 0, 1) := by decide +kernel
theorem dX12_seenColumns_90 : decode cX12_seenColumns 90 = .ok (.istore 4, 2) := by decide +kernel
theorem dX12_seenColumns_92 : decode cX12_seenColumns 92 = .ok (.aload_n 0, 1) := by decide +kernel
theorem dX12_seenColumns_93 : decode cX12_seenColumns 93 = .ok (.getfield 113, 3) := by decide +kernel
theorem dX12_seenColumns_96 : decode cX12_seenColumns 96 = .ok (.iload_n 3, 1) := by decide +kernel
theorem dX12_seenColumns_97 : decode cX12_seenColumns 97 = .ok (.iconst 4, 1) := by decide +kernel
theorem dX12_seenColumns_98 : decode cX12_seenColumns 98 = .ok (.idiv, 1) := by decide +kernel
theorem dX12_seenColumns_99 : decode cX12_seenColumns 99 = .ok (.iload 4, 2) := by decide +kernel
theorem dX12_seenColumns_101 : decode cX12_seenColumns 101 = .ok (.bastore, 1) := by decide +kernel
theorem dX12_seenColumns_102 : decode cX12_seenColumns 102 = .ok (.aload_n 0, 1) := by decide +kernel
theorem dX12_seenColumns_103 : decode cX12_seenColumns 103 = .ok (.getfield 113, 3) := by decide +kernel
theorem dX12_seenColumns_106 : decode cX12_seenColumns 106 = .ok (.iconst 4, 1) := by decide +kernel
theorem dX12_seenColumns_107 : decode cX12_seenColumns 107 = .ok (.iload_n 3, 1) := by decide +kernel
theorem dX12_seenColumns_108 : decode cX12_seenColumns 108 = .ok (.iconst 4, 1) := by decide +kernel
theorem dX12_seenColumns_109 : decode cX12_seenColumns 109 = .ok (.irem, 1) := by decide +kernel
theorem dX12_seenColumns_110 : decode cX12_seenColumns 110 = .ok (.iadd, 1) := by decide +kernel
theorem dX12_seenColumns_111 : decode cX12_seenColumns 111 = .ok (.iload 4, 2) := by decide +kernel
theorem dX12_seenColumns_113 : decode cX12_seenColumns 113 = .ok (.bastore, 1) := by decide +kernel
theorem dX12_seenColumns_114 : decode cX12_seenColumns 114 = .ok (.iinc 3 1, 3) := by decide +kernel
theorem dX12_seenColumns_117 : decode cX12_seenColumns 117 = .ok (.goto (-74), 3) := by decide +kernel
theorem dX12_seenColumns_120 : decode cX12_seenColumns 120 = .ok (.iinc 2 1, 3) := by decide +kernel
theorem dX12_seenColumns_123 : decode cX12_seenColumns 123 = .ok (.goto (-88), 3) := by decide +kernel
theorem dX12_seenColumns_126 : decode cX12_seenColumns 126 = .ok (.iconst 0, 1) := by decide +kernel
theorem dX12_seenColumns_127 : decode cX12_seenColumns 127 = .ok (.istore_n 2, 1) := by decide +kernel
theorem dX12_seenColumns_128 : decode cX12_seenColumns 128 = .ok (.iconst 0, 1) := by decide +kernel
theorem dX12_seenColumns_129 : decode cX12_seenColumns 129 = .ok (.istore_n 3, 1) := by decide +kernel
theorem dX12_seenColumns_130 : decode cX12_seenColumns 130 = .ok (.iload_n 3, 1) := by decide +kernel
theorem dX12_seenColumns_131 : decode cX12_seenColumns 131 = .ok (.iconst 4, 1) := by decide +kernel
theorem dX12_seenColumns_132 : decode cX12_seenColumns 132 = .ok (.if_icmp .ge 30, 3) := by decide +kernel
theorem dX12_seenColumns_135 : decode cX12_seenColumns 135 = .ok (.iload_n 2, 1) := by decide +kernel
theorem dX12_seenColumns_136 : decode cX12_seenColumns 136 = .ok (.aload_n 0, 1) := by decide +kernel
theorem dX12_seenColumns_137 : decode cX12_seenColumns 137 = .ok (.getfield 113, 3) := by decide +kernel
theorem dX12_seenColumns_140 : decode cX12_seenColumns 140 = .ok (.iconst 4, 1) := by decide +kernel
theorem dX12_seenColumns_141 : decode cX12_seenColumns 141 = .ok (.iload_n 3, 1) := by decide +kernel
theorem dX12_seenColumns_142 : decode cX12_seenColumns 142 = .ok (.iadd, 1) := by decide +kernel
theorem dX12_seenColumns_143 : decode cX12_seenColumns 143 = .ok (.baload, 1) := by decide +kernel
theorem dX12_seenColumns_144 : decode cX12_seenColumns 144 = .ok (.ifCond .eq 9, 3) := by decide +kernel
theorem dX12_seenColumns_147 : decode cX12_seenColumns 147 = .ok (.iconst 1, 1) := by decide +kernel
theorem dX12_seenColumns_148 : decode cX12_seenColumns 148 = .ok (.iload_n 3, 1) := by decide +kernel
theorem dX12_seenColumns_149 : decode cX12_seenColumns 149 = .ok (.ishl, 1) := by decide +kernel
theorem dX12_seenColumns_150 : decode cX12_seenColumns 150 = .ok (.goto 4, 3) := by decide +kernel
theorem dX12_seenColumns_153 : decode cX12_seenColumns 153 = .ok (.iconst 0, 1) := by decide +kernel
theorem dX12_seenColumns_154 : decode cX12_seenColumns 154 = .ok (.iadd, 1) := by decide +kernel
theorem dX12_seenColumns_155 : decode cX12_seenColumns 155 = .ok (.istore_n 2, 1) := by decide +kernel
theorem dX12_seenColumns_156 : decode cX12_seenColumns 156 = .ok (.iinc 3 1, 3) := by decide +kernel
theorem dX12_seenColumns_159 : decode cX12_seenColumns 159 = .ok (.goto (-29), 3) := by decide +kernel
theorem dX12_seenColumns_162 : decode cX12_seenColumns 162 = .ok (.iload_n 2, 1) := by decide +kernel
theorem dX12_seenColumns_163 : decode cX12_seenColumns 163 = .ok (.ireturn, 1) := by decide +kernel
theorem dX12_hasPulse_0 : decode cX12_hasPulse 0 = .ok (.aload_n 0, 1) := by decide +kernel
theorem dX12_hasPulse_1 : decode cX12_hasPulse 1 = .ok (.getfield 50, 3) := by decide +kernel
theorem dX12_hasPulse_4 : decode cX12_hasPulse 4 = .ok (.bipush 14, 2) := by decide +kernel
theorem dX12_hasPulse_6 : decode cX12_hasPulse 6 = .ok (.iaload, 1) := by decide +kernel
theorem dX12_hasPulse_7 : decode cX12_hasPulse 7 = .ok (.aload_n 0, 1) := by decide +kernel
theorem dX12_hasPulse_8 : decode cX12_hasPulse 8 = .ok (.getfield 50, 3) := by decide +kernel
theorem dX12_hasPulse_11 : decode cX12_hasPulse 11 = .ok (.bipush 13, 2) := by decide +kernel
theorem dX12_hasPulse_13 : decode cX12_hasPulse 13 = .ok (.iaload, 1) := by decide +kernel
theorem dX12_hasPulse_14 : decode cX12_hasPulse 14 = .ok (.if_icmp .ge 7, 3) := by decide +kernel
theorem dX12_hasPulse_17 : decode cX12_hasPulse 17 = .ok (.iconst 1, 1) := by decide +kernel
theorem dX12_hasPulse_18 : decode cX12_hasPulse 18 = .ok (.goto 4, 3) := by decide +kernel
theorem dX12_hasPulse_21 : decode cX12_hasPulse 21 = .ok (.iconst 0, 1) := by decide +kernel
theorem dX12_hasPulse_22 : decode cX12_hasPulse 22 = .ok (.ireturn, 1) := by decide +kernel
theorem dX12_readRegister_0 : decode cX12_readRegister 0 = .ok (.iload_n 1, 1) := by decide +kernel
theorem dX12_readRegister_1 : decode cX12_readRegister 1 = .ok (.bipush 9, 2) := by decide +kernel
theorem dX12_readRegister_3 : decode cX12_readRegister 3 = .ok (.if_icmp .ne 8, 3) := by decide +kernel
theorem dX12_readRegister_6 : decode cX12_readRegister 6 = .ok (.aload_n 0, 1) := by decide +kernel
theorem dX12_readRegister_7 : decode cX12_readRegister 7 = .ok (.invokevirtual 135, 3) := by decide +kernel
theorem dX12_readRegister_10 : decode cX12_readRegister 10 = .ok (.ireturn, 1) := by decide +kernel
theorem dX12_readRegister_11 : decode cX12_readRegister 11 = .ok (.iload_n 1, 1) := by decide +kernel
theorem dX12_readRegister_12 : decode cX12_readRegister 12 = .ok (.bipush 10, 2) := by decide +kernel
theorem dX12_readRegister_14 : decode cX12_readRegister 14 = .ok (.if_icmp .ne 11, 3) := by decide +kernel
theorem dX12_readRegister_17 : decode cX12_readRegister 17 = .ok (.aload_n 0, 1) := by decide +kernel
theorem dX12_readRegister_18 : decode cX12_readRegister 18 = .ok (.getfield 50, 3) := by decide +kernel
theorem dX12_readRegister_21 : decode cX12_readRegister 21 = .ok (.bipush 9, 2) := by decide +kernel
theorem dX12_readRegister_23 : decode cX12_readRegister 23 = .ok (.iaload, 1) := by decide +kernel
theorem dX12_readRegister_24 : decode cX12_readRegister 24 = .ok (.ireturn, 1) := by decide +kernel
theorem dX12_readRegister_25 : decode cX12_readRegister 25 = .ok (.iload_n 1, 1) := by decide +kernel
theorem dX12_readRegister_26 : decode cX12_readRegister 26 = .ok (.bipush 12, 2) := by decide +kernel
theorem dX12_readRegister_28 : decode cX12_readRegister 28 = .ok (.bipush 15, 2) := by decide +kernel
theorem dX12_readRegister_30 : decode cX12_readRegister 30 = .ok (.invokestatic 119, 3) := by decide +kernel
theorem dX12_readRegister_33 : decode cX12_readRegister 33 = .ok (.ifCond .eq 47, 3) := by decide +kernel
theorem dX12_readRegister_36 : decode cX12_readRegister 36 = .ok (.iload_n 1, 1) := by decide +kernel
theorem dX12_readRegister_37 : decode cX12_readRegister 37 = .ok (.iconst 2, 1) := by decide +kernel
theorem dX12_readRegister_38 : decode cX12_readRegister 38 = .ok (.irem, 1) := by decide +kernel
theorem dX12_readRegister_39 : decode cX12_readRegister 39 = .ok (.ifCond .ne 19, 3) := by decide +kernel
theorem dX12_readRegister_42 : decode cX12_readRegister 42 = .ok (.aload_n 0, 1) := by decide +kernel
theorem dX12_readRegister_43 : decode cX12_readRegister 43 = .ok (.getfield 50, 3) := by decide +kernel
theorem dX12_readRegister_46 : decode cX12_readRegister 46 = .ok (.iconst 5, 1) := by decide +kernel
theorem dX12_readRegister_47 : decode cX12_readRegister 47 = .ok (.iload_n 1, 1) := by decide +kernel
theorem dX12_readRegister_48 : decode cX12_readRegister 48 = .ok (.bipush 12, 2) := by decide +kernel
theorem dX12_readRegister_50 : decode cX12_readRegister 50 = .ok (.isub, 1) := by decide +kernel
theorem dX12_readRegister_51 : decode cX12_readRegister 51 = .ok (.iconst 2, 1) := by decide +kernel
theorem dX12_readRegister_52 : decode cX12_readRegister 52 = .ok (.idiv, 1) := by decide +kernel
theorem dX12_readRegister_53 : decode cX12_readRegister 53 = .ok (.iadd, 1) := by decide +kernel
theorem dX12_readRegister_54 : decode cX12_readRegister 54 = .ok (.iaload, 1) := by decide +kernel
theorem dX12_readRegister_55 : decode cX12_readRegister 55 = .ok (.goto 20, 3) := by decide +kernel
theorem dX12_readRegister_58 : decode cX12_readRegister 58 = .ok (.aload_n 0, 1) := by decide +kernel
theorem dX12_readRegister_59 : decode cX12_readRegister 59 = .ok (.getfield 50, 3) := by decide +kernel
theorem dX12_readRegister_62 : decode cX12_readRegister 62 = .ok (.iconst 5, 1) := by decide +kernel
theorem dX12_readRegister_63 : decode cX12_readRegister 63 = .ok (.iload_n 1, 1) := by decide +kernel
theorem dX12_readRegister_64 : decode cX12_readRegister 64 = .ok (.bipush 12, 2) := by decide +kernel
theorem dX12_readRegister_66 : decode cX12_readRegister 66 = .ok (.isub, 1) := by decide +kernel
theorem dX12_readRegister_67 : decode cX12_readRegister 67 = .ok (.iconst 2, 1) := by decide +kernel
theorem dX12_readRegister_68 : decode cX12_readRegister 68 = .ok (.idiv, 1) := by decide +kernel
theorem dX12_readRegister_69 : decode cX12_readRegister 69 = .ok (.iadd, 1) := by decide +kernel
theorem dX12_readRegister_70 : decode cX12_readRegister 70 = .ok (.iaload, 1) := by decide +kernel
theorem dX12_readRegister_71 : decode cX12_readRegister 71 = .ok (.sipush 256, 3) := by decide +kernel
theorem dX12_readRegister_74 : decode cX12_readRegister 74 = .ok (.idiv, 1) := by decide +kernel
theorem dX12_readRegister_75 : decode cX12_readRegister 75 = .ok (.sipush 256, 3) := by decide +kernel
theorem dX12_readRegister_78 : decode cX12_readRegister 78 = .ok (.irem, 1) := by decide +kernel
theorem dX12_readRegister_79 : decode cX12_readRegister 79 = .ok (.ireturn, 1) := by decide +kernel
theorem dX12_readRegister_80 : decode cX12_readRegister 80 = .ok (.iload_n 1, 1) := by decide +kernel
theorem dX12_readRegister_81 : decode cX12_readRegister 81 = .ok (.bipush 29, 2) := by decide +kernel
theorem dX12_readRegister_83 : decode cX12_readRegister 83 = .ok (.if_icmp .ne 11, 3) := by decide +kernel
theorem dX12_readRegister_86 : decode cX12_readRegister 86 = .ok (.aload_n 0, 1) := by decide +kernel
theorem dX12_readRegister_87 : decode cX12_readRegister 87 = .ok (.getfield 50, 3) := by decide +kernel
theorem dX12_readRegister_90 : decode cX12_readRegister 90 = .ok (.bipush 10, 2) := by decide +kernel
theorem dX12_readRegister_92 : decode cX12_readRegister 92 = .ok (.iaload, 1) := by decide +kernel
theorem dX12_readRegister_93 : decode cX12_readRegister 93 = .ok (.ireturn, 1) := by decide +kernel
theorem dX12_readRegister_94 : decode cX12_readRegister 94 = .ok (.iload_n 1, 1) := by decide +kernel
theorem dX12_readRegister_95 : decode cX12_readRegister 95 = .ok (.bipush 30, 2) := by decide +kernel
theorem dX12_readRegister_97 : decode cX12_readRegister 97 = .ok (.if_icmp .ne 11, 3) := by decide +kernel
theorem dX12_readRegister_100 : decode cX12_readRegister 100 = .ok (.aload_n 0, 1) := by decide +kernel
theorem dX12_readRegister_101 : decode cX12_readRegister 101 = .ok (.getfield 50, 3) := by decide +kernel
theorem dX12_readRegister_104 : decode cX12_readRegister 104 = .ok (.bipush 11, 2) := by decide +kernel
theorem dX12_readRegister_106 : decode cX12_readRegister 106 = .ok (.iaload, 1) := by decide +kernel
theorem dX12_readRegister_107 : decode cX12_readRegister 107 = .ok (.ireturn, 1) := by decide +kernel
theorem dX12_readRegister_108 : decode cX12_readRegister 108 = .ok (.iload_n 1, 1) := by decide +kernel
theorem dX12_readRegister_109 : decode cX12_readRegister 109 = .ok (.bipush 31, 2) := by decide +kernel
theorem dX12_readRegister_111 : decode cX12_readRegister 111 = .ok (.if_icmp .ne 26, 3) := by decide +kernel
theorem dX12_readRegister_114 : decode cX12_readRegister 114 = .ok (.aload_n 0, 1) := by decide +kernel
theorem dX12_readRegister_115 : decode cX12_readRegister 115 = .ok (.aload_n 0, 1) := by decide +kernel
theorem dX12_readRegister_116 : decode cX12_readRegister 116 = .ok (.getfield 19, 3) := by decide +kernel
theorem dX12_readRegister_119 : decode cX12_readRegister 119 = .ok (.bipush 31, 2) := by decide +kernel
theorem dX12_readRegister_121 : decode cX12_readRegister 121 = .ok (.iaload, 1) := by decide +kernel
theorem dX12_readRegister_122 : decode cX12_readRegister 122 = .ok (.invokevirtual 139, 3) := by decide +kernel
theorem dX12_readRegister_125 : decode cX12_readRegister 125 = .ok (.bipush 16, 2) := by decide +kernel
theorem dX12_readRegister_127 : decode cX12_readRegister 127 = .ok (.aload_n 0, 1) := by decide +kernel
theorem dX12_readRegister_128 : decode cX12_readRegister 128 = .ok (.getfield 50, 3) := by decide +kernel
theorem dX12_readRegister_131 : decode cX12_readRegister 131 = .ok (.bipush 12, 2) := by decide +kernel
theorem dX12_readRegister_133 : decode cX12_readRegister 133 = .ok (.iaload, 1) := by decide +kernel
theorem dX12_readRegister_134 : decode cX12_readRegister 134 = .ok (.imul, 1) := by decide +kernel
theorem dX12_readRegister_135 : decode cX12_readRegister 135 = .ok (.iadd, 1) := by decide +kernel
theorem dX12_readRegister_136 : decode cX12_readRegister 136 = .ok (.ireturn, 1) := by decide +kernel
theorem dX12_readRegister_137 : decode cX12_readRegister 137 = .ok (.iload_n 1, 1) := by decide +kernel
theorem dX12_readRegister_138 : decode cX12_readRegister 138 = .ok (.bipush 44, 2) := by decide +kernel
theorem dX12_readRegister_140 : decode cX12_readRegister 140 = .ok (.if_icmp .ne 34, 3) := by decide +kernel
theorem dX12_readRegister_143 : decode cX12_readRegister 143 = .ok (.aload_n 0, 1) := by decide +kernel
theorem dX12_readRegister_144 : decode cX12_readRegister 144 = .ok (.getfield 19, 3) := by decide +kernel
theorem dX12_readRegister_147 : decode cX12_readRegister 147 = .ok (.bipush 44, 2) := by decide +kernel
theorem dX12_readRegister_149 : decode cX12_readRegister 149 = .ok (.iaload, 1) := by decide +kernel
theorem dX12_readRegister_150 : decode cX12_readRegister 150 = .ok (.iconst 2, 1) := by decide +kernel
theorem dX12_readRegister_151 : decode cX12_readRegister 151 = .ok (.aload_n 0, 1) := by decide +kernel
theorem dX12_readRegister_152 : decode cX12_readRegister 152 = .ok (.getfield 50, 3) := by decide +kernel
theorem dX12_readRegister_155 : decode cX12_readRegister 155 = .ok (.bipush 16, 2) := by decide +kernel
theorem dX12_readRegister_157 : decode cX12_readRegister 157 = .ok (.iaload, 1) := by decide +kernel
theorem dX12_readRegister_158 : decode cX12_readRegister 158 = .ok (.imul, 1) := by decide +kernel
theorem dX12_readRegister_159 : decode cX12_readRegister 159 = .ok (.iadd, 1) := by decide +kernel
theorem dX12_readRegister_160 : decode cX12_readRegister 160 = .ok (.aload_n 0, 1) := by decide +kernel
theorem dX12_readRegister_161 : decode cX12_readRegister 161 = .ok (.invokevirtual 143, 3) := by decide +kernel
theorem dX12_readRegister_164 : decode cX12_readRegister 164 = .ok (.ifCond .eq 7, 3) := by decide +kernel
theorem dX12_readRegister_167 : decode cX12_readRegister 167 = .ok (.iconst 4, 1) := by decide +kernel
theorem dX12_readRegister_168 : decode cX12_readRegister 168 = .ok (.goto 4, 3) := by decide +kernel
theorem dX12_readRegister_171 : decode cX12_readRegister 171 = .ok (.iconst 0, 1) := by decide +kernel
theorem dX12_readRegister_172 : decode cX12_readRegister 172 = .ok (.iadd, 1) := by decide +kernel
theorem dX12_readRegister_173 : decode cX12_readRegister 173 = .ok (.ireturn, 1) := by decide +kernel
theorem dX12_readRegister_174 : decode cX12_readRegister 174 = .ok (.iload_n 1, 1) := by decide +kernel
theorem dX12_readRegister_175 : decode cX12_readRegister 175 = .ok (.bipush 44, 2) := by decide +kernel
theorem dX12_readRegister_177 : decode cX12_readRegister 177 = .ok (.if_icmp .le 7, 3) := by decide +kernel
theorem dX12_readRegister_180 : decode cX12_readRegister 180 = .ok (.iconst 0, 1) := by decide +kernel
theorem dX12_readRegister_181 : decode cX12_readRegister 181 = .ok (.goto 9, 3) := by decide +kernel
theorem dX12_readRegister_184 : decode cX12_readRegister 184 = .ok (.aload_n 0, 1) := by decide +kernel
theorem dX12_readRegister_185 : decode cX12_readRegister 185 = .ok (.getfield 19, 3) := by decide +kernel
theorem dX12_readRegister_188 : decode cX12_readRegister 188 = .ok (.iload_n 1, 1) := by decide +kernel
theorem dX12_readRegister_189 : decode cX12_readRegister 189 = .ok (.iaload, 1) := by decide +kernel
theorem dX12_readRegister_190 : decode cX12_readRegister 190 = .ok (.ireturn, 1) := by decide +kernel
theorem dX12_bitsOf_0 : decode cX12_bitsOf 0 = .ok (.iload_n 0, 1) := by decide +kernel
theorem dX12_bitsOf_1 : decode cX12_bitsOf 1 = .ok (.iconst 1, 1) := by decide +kernel
theorem dX12_bitsOf_2 : decode cX12_bitsOf 2 = .ok (.if_icmp .ne 5, 3) := by decide +kernel
theorem dX12_bitsOf_5 : decode cX12_bitsOf 5 = .ok (.iconst 2, 1) := by decide +kernel
theorem dX12_bitsOf_6 : decode cX12_bitsOf 6 = .ok (.ireturn, 1) := by decide +kernel
theorem dX12_bitsOf_7 : decode cX12_bitsOf 7 = .ok (.iload_n 0, 1) := by decide +kernel
theorem dX12_bitsOf_8 : decode cX12_bitsOf 8 = .ok (.iconst 2, 1) := by decide +kernel
theorem dX12_bitsOf_9 : decode cX12_bitsOf 9 = .ok (.if_icmp .ne 5, 3) := by decide +kernel
theorem dX12_bitsOf_12 : decode cX12_bitsOf 12 = .ok (.iconst 5, 1) := by decide +kernel
theorem dX12_bitsOf_13 : decode cX12_bitsOf 13 = .ok (.ireturn, 1) := by decide +kernel
theorem dX12_bitsOf_14 : decode cX12_bitsOf 14 = .ok (.iload_n 0, 1) := by decide +kernel
theorem dX12_bitsOf_15 : decode cX12_bitsOf 15 = .ok (.bipush 16, 2) := by decide +kernel
theorem dX12_bitsOf_17 : decode cX12_bitsOf 17 = .ok (.if_icmp .ne 5, 3) := by decide +kernel
theorem dX12_bitsOf_20 : decode cX12_bitsOf 20 = .ok (.iconst 3, 1) := by decide +kernel
theorem dX12_bitsOf_21 : decode cX12_bitsOf 21 = .ok (.ireturn, 1) := by decide +kernel
theorem dX12_bitsOf_22 : decode cX12_bitsOf 22 = .ok (.iload_n 0, 1) := by decide +kernel
theorem dX12_bitsOf_23 : decode cX12_bitsOf 23 = .ok (.bipush 20, 2) := by decide +kernel
theorem dX12_bitsOf_25 : decode cX12_bitsOf 25 = .ok (.bipush 27, 2) := by decide +kernel
theorem dX12_bitsOf_27 : decode cX12_bitsOf 27 = .ok (.invokestatic 119, 3) := by decide +kernel
theorem dX12_bitsOf_30 : decode cX12_bitsOf 30 = .ok (.ifCond .eq 6, 3) := by decide +kernel
theorem dX12_bitsOf_33 : decode cX12_bitsOf 33 = .ok (.bipush 6, 2) := by decide +kernel
theorem dX12_bitsOf_35 : decode cX12_bitsOf 35 = .ok (.ireturn, 1) := by decide +kernel
theorem dX12_bitsOf_36 : decode cX12_bitsOf 36 = .ok (.iload_n 0, 1) := by decide +kernel
theorem dX12_bitsOf_37 : decode cX12_bitsOf 37 = .ok (.bipush 9, 2) := by decide +kernel
theorem dX12_bitsOf_39 : decode cX12_bitsOf 39 = .ok (.if_icmp .eq 25, 3) := by decide +kernel
theorem dX12_bitsOf_42 : decode cX12_bitsOf 42 = .ok (.iload_n 0, 1) := by decide +kernel
theorem dX12_bitsOf_43 : decode cX12_bitsOf 43 = .ok (.bipush 12, 2) := by decide +kernel
theorem dX12_bitsOf_45 : decode cX12_bitsOf 45 = .ok (.bipush 15, 2) := by decide +kernel
theorem dX12_bitsOf_47 : decode cX12_bitsOf 47 = .ok (.invokestatic 119, 3) := by decide +kernel
theorem dX12_bitsOf_50 : decode cX12_bitsOf 50 = .ok (.ifCond .ne 14, 3) := by decide +kernel
theorem dX12_bitsOf_53 : decode cX12_bitsOf 53 = .ok (.iload_n 0, 1) := by decide +kernel
theorem dX12_bitsOf_54 : decode cX12_bitsOf 54 = .ok (.bipush 32, 2) := by decide +kernel
theorem dX12_bitsOf_56 : decode cX12_bitsOf 56 = .ok (.bipush 43, 2) := by decide +kernel
theorem dX12_bitsOf_58 : decode cX12_bitsOf 58 = .ok (.invokestatic 119, 3) := by decide +kernel
theorem dX12_bitsOf_61 : decode cX12_bitsOf 61 = .ok (.ifCond .eq 6, 3) := by decide +kernel
theorem dX12_bitsOf_64 : decode cX12_bitsOf 64 = .ok (.bipush 8, 2) := by decide +kernel
theorem dX12_bitsOf_66 : decode cX12_bitsOf 66 = .ok (.ireturn, 1) := by decide +kernel
theorem dX12_bitsOf_67 : decode cX12_bitsOf 67 = .ok (.iload_n 0, 1) := by decide +kernel
theorem dX12_bitsOf_68 : decode cX12_bitsOf 68 = .ok (.bipush 44, 2) := by decide +kernel
theorem dX12_bitsOf_70 : decode cX12_bitsOf 70 = .ok (.if_icmp .ne 7, 3) := by decide +kernel
theorem dX12_bitsOf_73 : decode cX12_bitsOf 73 = .ok (.iconst 1, 1) := by decide +kernel
theorem dX12_bitsOf_74 : decode cX12_bitsOf 74 = .ok (.goto 4, 3) := by decide +kernel
theorem dX12_bitsOf_77 : decode cX12_bitsOf 77 = .ok (.iconst 4, 1) := by decide +kernel
theorem dX12_bitsOf_78 : decode cX12_bitsOf 78 = .ok (.ireturn, 1) := by decide +kernel
theorem dX12_writeRegister_0 : decode cX12_writeRegister 0 = .ok (.iload_n 1, 1) := by decide +kernel
theorem dX12_writeRegister_1 : decode cX12_writeRegister 1 = .ok (.bipush 44, 2) := by decide +kernel
theorem dX12_writeRegister_3 : decode cX12_writeRegister 3 = .ok (.if_icmp .gt 15, 3) := by decide +kernel
theorem dX12_writeRegister_6 : decode cX12_writeRegister 6 = .ok (.iload_n 1, 1) := by decide +kernel
theorem dX12_writeRegister_7 : decode cX12_writeRegister 7 = .ok (.bipush 29, 2) := by decide +kernel
theorem dX12_writeRegister_9 : decode cX12_writeRegister 9 = .ok (.if_icmp .eq 9, 3) := by decide +kernel
theorem dX12_writeRegister_12 : decode cX12_writeRegister 12 = .ok (.iload_n 1, 1) := by decide +kernel
theorem dX12_writeRegister_13 : decode cX12_writeRegister 13 = .ok (.bipush 30, 2) := by decide +kernel
theorem dX12_writeRegister_15 : decode cX12_writeRegister 15 = .ok (.if_icmp .ne 4, 3) := by decide +kernel
theorem dX12_writeRegister_18 : decode cX12_writeRegister 18 = .ok (.return_, 1) := by decide +kernel
theorem dX12_writeRegister_19 : decode cX12_writeRegister 19 = .ok (.iload_n 2, 1) := by decide +kernel
theorem dX12_writeRegister_20 : decode cX12_writeRegister 20 = .ok (.iconst 1, 1) := by decide +kernel
theorem dX12_writeRegister_21 : decode cX12_writeRegister 21 = .ok (.iload_n 1, 1) := by decide +kernel
theorem dX12_writeRegister_22 : decode cX12_writeRegister 22 = .ok (.invokestatic 147, 3) := by decide +kernel
theorem dX12_writeRegister_25 : decode cX12_writeRegister 25 = .ok (.ishl, 1) := by decide +kernel
theorem dX12_writeRegister_26 : decode cX12_writeRegister 26 = .ok (.iconst 1, 1) := by decide +kernel
theorem dX12_writeRegister_27 : decode cX12_writeRegister 27 = .ok (.isub, 1) := by decide +kernel
theorem dX12_writeRegister_28 : decode cX12_writeRegister 28 = .ok (.iand, 1) := by decide +kernel
theorem dX12_writeRegister_29 : decode cX12_writeRegister 29 = .ok (.istore_n 3, 1) := by decide +kernel
theorem dX12_writeRegister_30 : decode cX12_writeRegister 30 = .ok (.iload_n 1, 1) := by decide +kernel
theorem dX12_writeRegister_31 : decode cX12_writeRegister 31 = .ok (.bipush 10, 2) := by decide +kernel
theorem dX12_writeRegister_33 : decode cX12_writeRegister 33 = .ok (.if_icmp .ne 17, 3) := by decide +kernel
theorem dX12_writeRegister_36 : decode cX12_writeRegister 36 = .ok (.aload_n 0, 1) := by decide +kernel
theorem dX12_writeRegister_37 : decode cX12_writeRegister 37 = .ok (.getfield 50, 3) := by decide +kernel
theorem dX12_writeRegister_40 : decode cX12_writeRegister 40 = .ok (.bipush 9, 2) := by decide +kernel
theorem dX12_writeRegister_42 : decode cX12_writeRegister 42 = .ok (.dup2, 1) := by decide +kernel
theorem dX12_writeRegister_43 : decode cX12_writeRegister 43 = .ok (.iaload, 1) := by decide +kernel
theorem dX12_writeRegister_44 : decode cX12_writeRegister 44 = .ok (.iload_n 2, 1) := by decide +kernel
theorem dX12_writeRegister_45 : decode cX12_writeRegister 45 = .ok (.iconst (-1), 1) := by decide +kernel
theorem dX12_writeRegister_46 : decode cX12_writeRegister 46 = .ok (.ixor, 1) := by decide +kernel
theorem dX12_writeRegister_47 : decode cX12_writeRegister 47 = .ok (.iand, 1) := by decide +kernel
theorem dX12_writeRegister_48 : decode cX12_writeRegister 48 = .ok (.iastore, 1) := by decide +kernel
theorem dX12_writeRegister_49 : decode cX12_writeRegister 49 = .ok (.return_, 1) := by decide +kernel
theorem dX12_writeRegister_50 : decode cX12_writeRegister 50 = .ok (.iload_n 1, 1) := by decide +kernel
theorem dX12_writeRegister_51 : decode cX12_writeRegister 51 = .ok (.bipush 12, 2) := by decide +kernel
theorem dX12_writeRegister_53 : decode cX12_writeRegister 53 = .ok (.bipush 15, 2) := by decide +kernel
theorem dX12_writeRegister_55 : decode cX12_writeRegister 55 = .ok (.invokestatic 119, 3) := by decide +kernel
theorem dX12_writeRegister_58 : decode cX12_writeRegister 58 = .ok (.ifCond .eq 65, 3) := by decide +kernel
theorem dX12_writeRegister_61 : decode cX12_writeRegister 61 = .ok (.bipush 7, 2) := by decide +kernel
theorem dX12_writeRegister_63 : decode cX12_writeRegister 63 = .ok (.iload_n 1, 1) := by decide +kernel
theorem dX12_writeRegister_64 : decode cX12_writeRegister 64 = .ok (.bipush 12, 2) := by decide +kernel
theorem dX12_writeRegister_66 : decode cX12_writeRegister 66 = .ok (.isub, 1) := by decide +kernel
theorem dX12_writeRegister_67 : decode cX12_writeRegister 67 = .ok (.iconst 2, 1) := by decide +kernel
theorem dX12_writeRegister_68 : decode cX12_writeRegister 68 = .ok (.idiv, 1) := by decide +kernel
theorem dX12_writeRegister_69 : decode cX12_writeRegister 69 = .ok (.iadd, 1) := by decide +kernel
theorem dX12_writeRegister_70 : decode cX12_writeRegister 70 = .ok (.istore 4, 2) := by decide +kernel
theorem dX12_writeRegister_72 : decode cX12_writeRegister 72 = .ok (.aload_n 0, 1) := by decide +kernel
theorem dX12_writeRegister_73 : decode cX12_writeRegister 73 = .ok (.getfield 50, 3) := by decide +kernel
theorem dX12_writeRegister_76 : decode cX12_writeRegister 76 = .ok (.iload 4, 2) := by decide +kernel
theorem dX12_writeRegister_78 : decode cX12_writeRegister 78 = .ok (.iload_n 1, 1) := by decide +kernel
theorem dX12_writeRegister_79 : decode cX12_writeRegister 79 = .ok (.iconst 2, 1) := by decide +kernel
theorem dX12_writeRegister_80 : decode cX12_writeRegister 80 = .ok (.irem, 1) := by decide +kernel
theorem dX12_writeRegister_81 : decode cX12_writeRegister 81 = .ok (.ifCond .ne 23, 3) := by decide +kernel
theorem dX12_writeRegister_84 : decode cX12_writeRegister 84 = .ok (.aload_n 0, 1) := by decide +kernel
theorem dX12_writeRegister_85 : decode cX12_writeRegister 85 = .ok (.getfield 50, 3) := by decide +kernel
theorem dX12_writeRegister_88 : decode cX12_writeRegister 88 = .ok (.iload 4, 2) := by decide +kernel
theorem dX12_writeRegister_90 : decode cX12_writeRegister 90 = .ok (.iaload, 1) := by decide +kernel
theorem dX12_writeRegister_91 : decode cX12_writeRegister 91 = .ok (.sipush 256, 3) := by decide +kernel
theorem dX12_writeRegister_94 : decode cX12_writeRegister 94 = .ok (.idiv, 1) := by decide +kernel
theorem dX12_writeRegister_95 : decode cX12_writeRegister 95 = .ok (.sipush 256, 3) := by decide +kernel
theorem dX12_writeRegister_98 : decode cX12_writeRegister 98 = .ok (.imul, 1) := by decide +kernel
theorem dX12_writeRegister_99 : decode cX12_writeRegister 99 = .ok (.iload_n 2, 1) := by decide +kernel
theorem dX12_writeRegister_100 : decode cX12_writeRegister 100 = .ok (.iadd, 1) := by decide +kernel
theorem dX12_writeRegister_101 : decode cX12_writeRegister 101 = .ok (.goto 20, 3) := by decide +kernel
theorem dX12_writeRegister_104 : decode cX12_writeRegister 104 = .ok (.aload_n 0, 1) := by decide +kernel
theorem dX12_writeRegister_105 : decode cX12_writeRegister 105 = .ok (.getfield 50, 3) := by decide +kernel
theorem dX12_writeRegister_108 : decode cX12_writeRegister 108 = .ok (.iload 4, 2) := by decide +kernel
theorem dX12_writeRegister_110 : decode cX12_writeRegister 110 = .ok (.iaload, 1) := by decide +kernel
theorem dX12_writeRegister_111 : decode cX12_writeRegister 111 = .ok (.sipush 256, 3) := by decide +kernel
theorem dX12_writeRegister_114 : decode cX12_writeRegister 114 = .ok (.irem, 1) := by decide +kernel
theorem dX12_writeRegister_115 : decode cX12_writeRegister 115 = .ok (.sipush 256, 3) := by decide +kernel
theorem dX12_writeRegister_118 : decode cX12_writeRegister 118 = .ok (.iload_n 2, 1) := by decide +kernel
theorem dX12_writeRegister_119 : decode cX12_writeRegister 119 = .ok (.imul, 1) := by decide +kernel
theorem dX12_writeRegister_120 : decode cX12_writeRegister 120 = .ok (.iadd, 1) := by decide +kernel
theorem dX12_writeRegister_121 : decode cX12_writeRegister 121 = .ok (.iastore, 1) := by decide +kernel
theorem dX12_writeRegister_122 : decode cX12_writeRegister 122 = .ok (.return_, 1) := by decide +kernel
theorem dX12_writeRegister_123 : decode cX12_writeRegister 123 = .ok (.iconst 0, 1) := by decide +kernel
theorem dX12_writeRegister_124 : decode cX12_writeRegister 124 = .ok (.istore 4, 2) := by decide +kernel
theorem dX12_writeRegister_126 : decode cX12_writeRegister 126 = .ok (.iload_n 1, 1) := by decide +kernel
theorem dX12_writeRegister_127 : decode cX12_writeRegister 127 = .ok (.bipush 16, 2) := by decide +kernel
theorem dX12_writeRegister_129 : decode cX12_writeRegister 129 = .ok (.if_icmp .ne 58, 3) := by decide +kernel
theorem dX12_writeRegister_132 : decode cX12_writeRegister 132 = .ok (.iload 4, 2) := by decide +kernel
theorem dX12_writeRegister_134 : decode cX12_writeRegister 134 = .ok (.iconst 2, 1) := by decide +kernel
theorem dX12_writeRegister_135 : decode cX12_writeRegister 135 = .ok (.if_icmp .ge 52, 3) := by decide +kernel
theorem dX12_writeRegister_138 : decode cX12_writeRegister 138 = .ok (.iload_n 3, 1) := by decide +kernel
theorem dX12_writeRegister_139 : decode cX12_writeRegister 139 = .ok (.iload 4, 2) := by decide +kernel
theorem dX12_writeRegister_141 : decode cX12_writeRegister 141 = .ok (.invokestatic 131, 3) := by decide +kernel
theorem dX12_writeRegister_144 : decode cX12_writeRegister 144 = .ok (.ifCond .eq 37, 3) := by decide +kernel
theorem dX12_writeRegister_147 : decode cX12_writeRegister 147 = .ok (.aload_n 0, 1) := by decide +kernel
theorem dX12_writeRegister_148 : decode cX12_writeRegister 148 = .ok (.getfield 19, 3) := by decide +kernel
theorem dX12_writeRegister_151 : decode cX12_writeRegister 151 = .ok (.bipush 16, 2) := by decide +kernel
theorem dX12_writeRegister_153 : decode cX12_writeRegister 153 = .ok (.iaload, 1) := by decide +kernel
theorem dX12_writeRegister_154 : decode cX12_writeRegister 154 = .ok (.iload 4, 2) := by decide +kernel
theorem dX12_writeRegister_156 : decode cX12_writeRegister 156 = .ok (.invokestatic 131, 3) := by decide +kernel
theorem dX12_writeRegister_159 : decode cX12_writeRegister 159 = .ok (.ifCond .ne 22, 3) := by decide +kernel
theorem dX12_writeRegister_162 : decode cX12_writeRegister 162 = .ok (.aload_n 0, 1) := by decide +kernel
theorem dX12_writeRegister_163 : decode cX12_writeRegister 163 = .ok (.getfield 50, 3) := by decide +kernel
theorem dX12_writeRegister_166 : decode cX12_writeRegister 166 = .ok (.iconst 5, 1) := by decide +kernel
theorem dX12_writeRegister_167 : decode cX12_writeRegister 167 = .ok (.iload 4, 2) := by decide +kernel
theorem dX12_writeRegister_169 : decode cX12_writeRegister 169 = .ok (.iadd, 1) := by decide +kernel
theorem dX12_writeRegister_170 : decode cX12_writeRegister 170 = .ok (.aload_n 0, 1) := by decide +kernel
theorem dX12_writeRegister_171 : decode cX12_writeRegister 171 = .ok (.getfield 50, 3) := by decide +kernel
theorem dX12_writeRegister_174 : decode cX12_writeRegister 174 = .ok (.bipush 7, 2) := by decide +kernel
theorem dX12_writeRegister_176 : decode cX12_writeRegister 176 = .ok (.iload 4, 2) := by decide +kernel
theorem dX12_writeRegister_178 : decode cX12_writeRegister 178 = .ok (.iadd, 1) := by decide +kernel
theorem dX12_writeRegister_179 : decode cX12_writeRegister 179 = .ok (.iaload, 1) := by decide +kernel
theorem dX12_writeRegister_180 : decode cX12_writeRegister 180 = .ok (.iastore, 1) := by decide +kernel
theorem dX12_writeRegister_181 : decode cX12_writeRegister 181 = .ok (.iinc 4 1, 3) := by decide +kernel
theorem dX12_writeRegister_184 : decode cX12_writeRegister 184 = .ok (.goto (-58), 3) := by decide +kernel
theorem dX12_writeRegister_187 : decode cX12_writeRegister 187 = .ok (.aload_n 0, 1) := by decide +kernel
theorem dX12_writeRegister_188 : decode cX12_writeRegister 188 = .ok (.getfield 19, 3) := by decide +kernel
theorem dX12_writeRegister_191 : decode cX12_writeRegister 191 = .ok (.iload_n 1, 1) := by decide +kernel
theorem dX12_writeRegister_192 : decode cX12_writeRegister 192 = .ok (.iload_n 3, 1) := by decide +kernel
theorem dX12_writeRegister_193 : decode cX12_writeRegister 193 = .ok (.iastore, 1) := by decide +kernel
theorem dX12_writeRegister_194 : decode cX12_writeRegister 194 = .ok (.return_, 1) := by decide +kernel
theorem dX12_wrap_0 : decode cX12_wrap 0 = .ok (.iload_n 0, 1) := by decide +kernel
theorem dX12_wrap_1 : decode cX12_wrap 1 = .ok (.sipush 4095, 3) := by decide +kernel
theorem dX12_wrap_4 : decode cX12_wrap 4 = .ok (.iand, 1) := by decide +kernel
theorem dX12_wrap_5 : decode cX12_wrap 5 = .ok (.ireturn, 1) := by decide +kernel
theorem dX12_reads_0 : decode cX12_reads 0 = .ok (.iload_n 1, 1) := by decide +kernel
theorem dX12_reads_1 : decode cX12_reads 1 = .ok (.sipush 3840, 3) := by decide +kernel
theorem dX12_reads_4 : decode cX12_reads 4 = .ok (.sipush 3887, 3) := by decide +kernel
theorem dX12_reads_7 : decode cX12_reads 7 = .ok (.invokestatic 119, 3) := by decide +kernel
theorem dX12_reads_10 : decode cX12_reads 10 = .ok (.ifCond .eq 13, 3) := by decide +kernel
theorem dX12_reads_13 : decode cX12_reads 13 = .ok (.aload_n 0, 1) := by decide +kernel
theorem dX12_reads_14 : decode cX12_reads 14 = .ok (.iload_n 1, 1) := by decide +kernel
theorem dX12_reads_15 : decode cX12_reads 15 = .ok (.sipush 3840, 3) := by decide +kernel
theorem dX12_reads_18 : decode cX12_reads 18 = .ok (.isub, 1) := by decide +kernel
theorem dX12_reads_19 : decode cX12_reads 19 = .ok (.invokevirtual 150, 3) := by decide +kernel
theorem dX12_reads_22 : decode cX12_reads 22 = .ok (.ireturn, 1) := by decide +kernel
theorem dX12_reads_23 : decode cX12_reads 23 = .ok (.iload_n 1, 1) := by decide +kernel
theorem dX12_reads_24 : decode cX12_reads 24 = .ok (.sipush 3072, 3) := by decide +kernel
theorem dX12_reads_27 : decode cX12_reads 27 = .ok (.sipush 3583, 3) := by decide +kernel
theorem dX12_reads_30 : decode cX12_reads 30 = .ok (.invokestatic 119, 3) := by decide +kernel
theorem dX12_reads_33 : decode cX12_reads 33 = .ok (.ifCond .eq 27, 3) := by decide +kernel
theorem dX12_reads_36 : decode cX12_reads 36 = .ok (.aload_n 0, 1) := by decide +kernel
theorem dX12_reads_37 : decode cX12_reads 37 = .ok (.getfield 19, 3) := by decide +kernel
theorem dX12_reads_40 : decode cX12_reads 40 = .ok (.iconst 0, 1) := by decide +kernel
theorem dX12_reads_41 : decode cX12_reads 41 = .ok (.iaload, 1) := by decide +kernel
theorem dX12_reads_42 : decode cX12_reads 42 = .ok (.iconst 0, 1) := by decide +kernel
theorem dX12_reads_43 : decode cX12_reads 43 = .ok (.invokestatic 131, 3) := by decide +kernel
theorem dX12_reads_46 : decode cX12_reads 46 = .ok (.ifCond .eq 14, 3) := by decide +kernel
theorem dX12_reads_49 : decode cX12_reads 49 = .ok (.aload_n 0, 1) := by decide +kernel
theorem dX12_reads_50 : decode cX12_reads 50 = .ok (.getfield 13, 3) := by decide +kernel
theorem dX12_reads_53 : decode cX12_reads 53 = .ok (.iload_n 1, 1) := by decide +kernel
theorem dX12_reads_54 : decode cX12_reads 54 = .ok (.sipush 3072, 3) := by decide +kernel
theorem dX12_reads_57 : decode cX12_reads 57 = .ok (.isub, 1) := by decide +kernel
theorem dX12_reads_58 : decode cX12_reads 58 = .ok (.iaload, 1) := by decide +kernel
theorem dX12_reads_59 : decode cX12_reads 59 = .ok (.ireturn, 1) := by decide +kernel
theorem dX12_reads_60 : decode cX12_reads 60 = .ok (.iload_n 1, 1) := by decide +kernel
theorem dX12_reads_61 : decode cX12_reads 61 = .ok (.sipush 2048, 3) := by decide +kernel
theorem dX12_reads_64 : decode cX12_reads 64 = .ok (.sipush 2559, 3) := by decide +kernel
theorem dX12_reads_67 : decode cX12_reads 67 = .ok (.invokestatic 119, 3) := by decide +kernel
theorem dX12_reads_70 : decode cX12_reads 70 = .ok (.ifCond .eq 40, 3) := by decide +kernel
theorem dX12_reads_73 : decode cX12_reads 73 = .ok (.aload_n 0, 1) := by decide +kernel
theorem dX12_reads_74 : decode cX12_reads 74 = .ok (.getfield 19, 3) := by decide +kernel
theorem dX12_reads_77 : decode cX12_reads 77 = .ok (.iconst 0, 1) := by decide +kernel
theorem dX12_reads_78 : decode cX12_reads 78 = .ok (.iaload, 1) := by decide +kernel
theorem dX12_reads_79 : decode cX12_reads 79 = .ok (.iconst 1, 1) := by decide +kernel
theorem dX12_reads_80 : decode cX12_reads 80 = .ok (.invokestatic 131, 3) := by decide +kernel
theorem dX12_reads_83 : decode cX12_reads 83 = .ok (.ifCond .eq 27, 3) := by decide +kernel
theorem dX12_reads_86 : decode cX12_reads 86 = .ok (.aload_n 0, 1) := by decide +kernel
theorem dX12_reads_87 : decode cX12_reads 87 = .ok (.getfield 16, 3) := by decide +kernel
theorem dX12_reads_90 : decode cX12_reads 90 = .ok (.sipush 512, 3) := by decide +kernel
theorem dX12_reads_93 : decode cX12_reads 93 = .ok (.aload_n 0, 1) := by decide +kernel
theorem dX12_reads_94 : decode cX12_reads 94 = .ok (.getfield 19, 3) := by decide +kernel
theorem dX12_reads_97 : decode cX12_reads 97 = .ok (.iconst 0, 1) := by decide +kernel
theorem dX12_reads_98 : decode cX12_reads 98 = .ok (.iaload, 1) := by decide +kernel
theorem dX12_reads_99 : decode cX12_reads 99 = .ok (.iconst 4, 1) := by decide +kernel
theorem dX12_reads_100 : decode cX12_reads 100 = .ok (.idiv, 1) := by decide +kernel
theorem dX12_reads_101 : decode cX12_reads 101 = .ok (.imul, 1) := by decide +kernel
theorem dX12_reads_102 : decode cX12_reads 102 = .ok (.iload_n 1, 1) := by decide +kernel
theorem dX12_reads_103 : decode cX12_reads 103 = .ok (.iadd, 1) := by decide +kernel
theorem dX12_reads_104 : decode cX12_reads 104 = .ok (.sipush 2048, 3) := by decide +kernel
theorem dX12_reads_107 : decode cX12_reads 107 = .ok (.isub, 1) := by decide +kernel
theorem dX12_reads_108 : decode cX12_reads 108 = .ok (.iaload, 1) := by decide +kernel
theorem dX12_reads_109 : decode cX12_reads 109 = .ok (.ireturn, 1) := by decide +kernel
theorem dX12_reads_110 : decode cX12_reads 110 = .ok (.aload_n 0, 1) := by decide +kernel
theorem dX12_reads_111 : decode cX12_reads 111 = .ok (.getfield 7, 3) := by decide +kernel
theorem dX12_reads_114 : decode cX12_reads 114 = .ok (.iload_n 1, 1) := by decide +kernel
theorem dX12_reads_115 : decode cX12_reads 115 = .ok (.iaload, 1) := by decide +kernel
theorem dX12_reads_116 : decode cX12_reads 116 = .ok (.ireturn, 1) := by decide +kernel
theorem dX12_writes_0 : decode cX12_writes 0 = .ok (.iload_n 1, 1) := by decide +kernel
theorem dX12_writes_1 : decode cX12_writes 1 = .ok (.sipush 3840, 3) := by decide +kernel
theorem dX12_writes_4 : decode cX12_writes 4 = .ok (.sipush 3887, 3) := by decide +kernel
theorem dX12_writes_7 : decode cX12_writes 7 = .ok (.invokestatic 119, 3) := by decide +kernel
theorem dX12_writes_10 : decode cX12_writes 10 = .ok (.ifCond .eq 16, 3) := by decide +kernel
theorem dX12_writes_13 : decode cX12_writes 13 = .ok (.aload_n 0, 1) := by decide +kernel
theorem dX12_writes_14 : decode cX12_writes 14 = .ok (.iload_n 1, 1) := by decide +kernel
theorem dX12_writes_15 : decode cX12_writes 15 = .ok (.sipush 3840, 3) := by decide +kernel
theorem dX12_writes_18 : decode cX12_writes 18 = .ok (.isub, 1) := by decide +kernel
theorem dX12_writes_19 : decode cX12_writes 19 = .ok (.iload_n 2, 1) := by decide +kernel
theorem dX12_writes_20 : decode cX12_writes 20 = .ok (.invokevirtual 153, 3) := by decide +kernel
theorem dX12_writes_23 : decode cX12_writes 23 = .ok (.goto 10, 3) := by decide +kernel
theorem dX12_writes_26 : decode cX12_writes 26 = .ok (.aload_n 0, 1) := by decide +kernel
theorem dX12_writes_27 : decode cX12_writes 27 = .ok (.getfield 7, 3) := by decide +kernel
theorem dX12_writes_30 : decode cX12_writes 30 = .ok (.iload_n 1, 1) := by decide +kernel
theorem dX12_writes_31 : decode cX12_writes 31 = .ok (.iload_n 2, 1) := by decide +kernel
theorem dX12_writes_32 : decode cX12_writes 32 = .ok (.iastore, 1) := by decide +kernel
theorem dX12_writes_33 : decode cX12_writes 33 = .ok (.return_, 1) := by decide +kernel
theorem dX12_poke_0 : decode cX12_poke 0 = .ok (.aload_n 0, 1) := by decide +kernel
theorem dX12_poke_1 : decode cX12_poke 1 = .ok (.iload_n 1, 1) := by decide +kernel
theorem dX12_poke_2 : decode cX12_poke 2 = .ok (.invokestatic 157, 3) := by decide +kernel
theorem dX12_poke_5 : decode cX12_poke 5 = .ok (.ifCond .eq 7, 3) := by decide +kernel
theorem dX12_poke_8 : decode cX12_poke 8 = .ok (.iconst 1, 1) := by decide +kernel
theorem dX12_poke_9 : decode cX12_poke 9 = .ok (.goto 15, 3) := by decide +kernel
theorem dX12_poke_12 : decode cX12_poke 12 = .ok (.iload_n 2, 1) := by decide +kernel
theorem dX12_poke_13 : decode cX12_poke 13 = .ok (.invokestatic 161, 3) := by decide +kernel
theorem dX12_poke_16 : decode cX12_poke 16 = .ok (.ifCond .eq 7, 3) := by decide +kernel
theorem dX12_poke_19 : decode cX12_poke 19 = .ok (.iconst 2, 1) := by decide +kernel
theorem dX12_poke_20 : decode cX12_poke 20 = .ok (.goto 4, 3) := by decide +kernel
theorem dX12_poke_23 : decode cX12_poke 23 = .ok (.iconst 0, 1) := by decide +kernel
theorem dX12_poke_24 : decode cX12_poke 24 = .ok (.invokevirtual 164, 3) := by decide +kernel
theorem dX12_poke_27 : decode cX12_poke 27 = .ok (.ifCond .eq 5, 3) := by decide +kernel
theorem dX12_poke_30 : decode cX12_poke 30 = .ok (.iconst 0, 1) := by decide +kernel
theorem dX12_poke_31 : decode cX12_poke 31 = .ok (.ireturn, 1) := by decide +kernel
theorem dX12_poke_32 : decode cX12_poke 32 = .ok (.aload_n 0, 1) := by decide +kernel
theorem dX12_poke_33 : decode cX12_poke 33 = .ok (.iload_n 1, 1) := by decide +kernel
theorem dX12_poke_34 : decode cX12_poke 34 = .ok (.invokevirtual 167, 3) := by decide +kernel
theorem dX12_poke_37 : decode cX12_poke 37 = .ok (.istore_n 3, 1) := by decide +kernel
theorem dX12_poke_38 : decode cX12_poke 38 = .ok (.aload_n 0, 1) := by decide +kernel
theorem dX12_poke_39 : decode cX12_poke 39 = .ok (.iload_n 1, 1) := by decide +kernel
theorem dX12_poke_40 : decode cX12_poke 40 = .ok (.iload_n 2, 1) := by decide +kernel
theorem dX12_poke_41 : decode cX12_poke 41 = .ok (.invokevirtual 170, 3) := by decide +kernel
theorem dX12_poke_44 : decode cX12_poke 44 = .ok (.aload_n 0, 1) := by decide +kernel
theorem dX12_poke_45 : decode cX12_poke 45 = .ok (.invokevirtual 173, 3) := by decide +kernel
theorem dX12_poke_48 : decode cX12_poke 48 = .ok (.iload_n 3, 1) := by decide +kernel
theorem dX12_poke_49 : decode cX12_poke 49 = .ok (.ireturn, 1) := by decide +kernel
theorem dX12_pokeRom_0 : decode cX12_pokeRom 0 = .ok (.aload_n 0, 1) := by decide +kernel
theorem dX12_pokeRom_1 : decode cX12_pokeRom 1 = .ok (.iload_n 1, 1) := by decide +kernel
theorem dX12_pokeRom_2 : decode cX12_pokeRom 2 = .ok (.iconst 0, 1) := by decide +kernel
theorem dX12_pokeRom_3 : decode cX12_pokeRom 3 = .ok (.sipush 511, 3) := by decide +kernel
theorem dX12_pokeRom_6 : decode cX12_pokeRom 6 = .ok (.invokestatic 119, 3) := by decide +kernel
theorem dX12_pokeRom_9 : decode cX12_pokeRom 9 = .ok (.ifCond .ne 7, 3) := by decide +kernel
theorem dX12_pokeRom_12 : decode cX12_pokeRom 12 = .ok (.iconst 1, 1) := by decide +kernel
theorem dX12_pokeRom_13 : decode cX12_pokeRom 13 = .ok (.goto 15, 3) := by decide +kernel
theorem dX12_pokeRom_16 : decode cX12_pokeRom 16 = .ok (.iload_n 2, 1) := by decide +kernel
theorem dX12_pokeRom_17 : decode cX12_pokeRom 17 = .ok (.invokestatic 161, 3) := by decide +kernel
theorem dX12_pokeRom_20 : decode cX12_pokeRom 20 = .ok (.ifCond .eq 7, 3) := by decide +kernel
theorem dX12_pokeRom_23 : decode cX12_pokeRom 23 = .ok (.iconst 2, 1) := by decide +kernel
theorem dX12_pokeRom_24 : decode cX12_pokeRom 24 = .ok (.goto 4, 3) := by decide +kernel
theorem dX12_pokeRom_27 : decode cX12_pokeRom 27 = .ok (.iconst 0, 1) := by decide +kernel
theorem dX12_pokeRom_28 : decode cX12_pokeRom 28 = .ok (.invokevirtual 164, 3) := by decide +kernel
theorem dX12_pokeRom_31 : decode cX12_pokeRom 31 = .ok (.ifCond .eq 5, 3) := by decide +kernel
theorem dX12_pokeRom_34 : decode cX12_pokeRom 34 = .ok (.iconst 0, 1) := by decide +kernel
theorem dX12_pokeRom_35 : decode cX12_pokeRom 35 = .ok (.ireturn, 1) := by decide +kernel
theorem dX12_pokeRom_36 : decode cX12_pokeRom 36 = .ok (.aload_n 0, 1) := by decide +kernel
theorem dX12_pokeRom_37 : decode cX12_pokeRom 37 = .ok (.getfield 13, 3) := by decide +kernel
theorem dX12_pokeRom_40 : decode cX12_pokeRom 40 = .ok (.iload_n 1, 1) := by decide +kernel
theorem dX12_pokeRom_41 : decode cX12_pokeRom 41 = .ok (.iaload, 1) := by decide +kernel
theorem dX12_pokeRom_42 : decode cX12_pokeRom 42 = .ok (.istore_n 3, 1) := by decide +kernel
theorem dX12_pokeRom_43 : decode cX12_pokeRom 43 = .ok (.aload_n 0, 1) := by decide +kernel
theorem dX12_pokeRom_44 : decode cX12_pokeRom 44 = .ok (.getfield 13, 3) := by decide +kernel
theorem dX12_pokeRom_47 : decode cX12_pokeRom 47 = .ok (.iload_n 1, 1) := by decide +kernel
theorem dX12_pokeRom_48 : decode cX12_pokeRom 48 = .ok (.iload_n 2, 1) := by decide +kernel
theorem dX12_pokeRom_49 : decode cX12_pokeRom 49 = .ok (.iastore, 1) := by decide +kernel
theorem dX12_pokeRom_50 : decode cX12_pokeRom 50 = .ok (.aload_n 0, 1) := by decide +kernel
theorem dX12_pokeRom_51 : decode cX12_pokeRom 51 = .ok (.invokevirtual 173, 3) := by decide +kernel
theorem dX12_pokeRom_54 : decode cX12_pokeRom 54 = .ok (.iload_n 3, 1) := by decide +kernel
theorem dX12_pokeRom_55 : decode cX12_pokeRom 55 = .ok (.ireturn, 1) := by decide +kernel
theorem dX12_pokeCartridge_0 : decode cX12_pokeCartridge 0 = .ok (.aload_n 0, 1) := by decide +kernel
theorem dX12_pokeCartridge_1 : decode cX12_pokeCartridge 1 = .ok (.iload_n 1, 1) := by decide +kernel
theorem dX12_pokeCartridge_2 : decode cX12_pokeCartridge 2 = .ok (.iconst 0, 1) := by decide +kernel
theorem dX12_pokeCartridge_3 : decode cX12_pokeCartridge 3 = .ok (.iconst 3, 1) := by decide +kernel
theorem dX12_pokeCartridge_4 : decode cX12_pokeCartridge 4 = .ok (.invokestatic 119, 3) := by decide +kernel
theorem dX12_pokeCartridge_7 : decode cX12_pokeCartridge 7 = .ok (.ifCond .eq 14, 3) := by decide +kernel
theorem dX12_pokeCartridge_10 : decode cX12_pokeCartridge 10 = .ok (.iload_n 2, 1) := by decide +kernel
theorem dX12_pokeCartridge_11 : decode cX12_pokeCartridge 11 = .ok (.iconst 0, 1) := by decide +kernel
theorem dX12_pokeCartridge_12 : decode cX12_pokeCartridge 12 = .ok (.sipush 511, 3) := by decide +kernel
theorem dX12_pokeCartridge_15 : decode cX12_pokeCartridge 15 = .ok (.invokestatic 119, 3) := by decide +kernel
theorem dX12_pokeCartridge_18 : decode cX12_pokeCartridge 18 = .ok (.ifCond .ne 7, 3) := by decide +kernel
theorem dX12_pokeCartridge_21 : decode cX12_pokeCartridge 21 = .ok (.iconst 1, 1) := by decide +kernel
theorem dX12_pokeCartridge_22 : decode cX12_pokeCartridge 22 = .ok (.goto 15, 3) := by decide +kernel
theorem dX12_pokeCartridge_25 : decode cX12_pokeCartridge 25 = .ok (.iload_n 3, 1) := by decide +kernel
theorem dX12_pokeCartridge_26 : decode cX12_pokeCartridge 26 = .ok (.invokestatic 161, 3) := by decide +kernel
theorem dX12_pokeCartridge_29 : decode cX12_pokeCartridge 29 = .ok (.ifCond .eq 7, 3) := by decide +kernel
theorem dX12_pokeCartridge_32 : decode cX12_pokeCartridge 32 = .ok (.iconst 2, 1) := by decide +kernel
theorem dX12_pokeCartridge_33 : decode cX12_pokeCartridge 33 = .ok (.goto 4, 3) := by decide +kernel
theorem dX12_pokeCartridge_36 : decode cX12_pokeCartridge 36 = .ok (.iconst 0, 1) := by decide +kernel
theorem dX12_pokeCartridge_37 : decode cX12_pokeCartridge 37 = .ok (.invokevirtual 164, 3) := by decide +kernel
theorem dX12_pokeCartridge_40 : decode cX12_pokeCartridge 40 = .ok (.ifCond .eq 5, 3) := by decide +kernel
theorem dX12_pokeCartridge_43 : decode cX12_pokeCartridge 43 = .ok (.iconst 0, 1) := by decide +kernel
theorem dX12_pokeCartridge_44 : decode cX12_pokeCartridge 44 = .ok (.ireturn, 1) := by decide +kernel
theorem dX12_pokeCartridge_45 : decode cX12_pokeCartridge 45 = .ok (.aload_n 0, 1) := by decide +kernel
theorem dX12_pokeCartridge_46 : decode cX12_pokeCartridge 46 = .ok (.getfield 16, 3) := by decide +kernel
theorem dX12_pokeCartridge_49 : decode cX12_pokeCartridge 49 = .ok (.sipush 512, 3) := by decide +kernel
theorem dX12_pokeCartridge_52 : decode cX12_pokeCartridge 52 = .ok (.iload_n 1, 1) := by decide +kernel
theorem dX12_pokeCartridge_53 : decode cX12_pokeCartridge 53 = .ok (.imul, 1) := by decide +kernel
theorem dX12_pokeCartridge_54 : decode cX12_pokeCartridge 54 = .ok (.iload_n 2, 1) := by decide +kernel
theorem dX12_pokeCartridge_55 : decode cX12_pokeCartridge 55 = .ok (.iadd, 1) := by decide +kernel
theorem dX12_pokeCartridge_56 : decode cX12_pokeCartridge 56 = .ok (.iaload, 1) := by decide +kernel
theorem dX12_pokeCartridge_57 : decode cX12_pokeCartridge 57 = .ok (.istore 4, 2) := by decide +kernel
theorem dX12_pokeCartridge_59 : decode cX12_pokeCartridge 59 = .ok (.aload_n 0, 1) := by decide +kernel
theorem dX12_pokeCartridge_60 : decode cX12_pokeCartridge 60 = .ok (.getfield 16, 3) := by decide +kernel
theorem dX12_pokeCartridge_63 : decode cX12_pokeCartridge 63 = .ok (.sipush 512, 3) := by decide +kernel
theorem dX12_pokeCartridge_66 : decode cX12_pokeCartridge 66 = .ok (.iload_n 1, 1) := by decide +kernel
theorem dX12_pokeCartridge_67 : decode cX12_pokeCartridge 67 = .ok (.imul, 1) := by decide +kernel
theorem dX12_pokeCartridge_68 : decode cX12_pokeCartridge 68 = .ok (.iload_n 2, 1) := by decide +kernel
theorem dX12_pokeCartridge_69 : decode cX12_pokeCartridge 69 = .ok (.iadd, 1) := by decide +kernel
theorem dX12_pokeCartridge_70 : decode cX12_pokeCartridge 70 = .ok (.iload_n 3, 1) := by decide +kernel
theorem dX12_pokeCartridge_71 : decode cX12_pokeCartridge 71 = .ok (.iastore, 1) := by decide +kernel
theorem dX12_pokeCartridge_72 : decode cX12_pokeCartridge 72 = .ok (.aload_n 0, 1) := by decide +kernel
theorem dX12_pokeCartridge_73 : decode cX12_pokeCartridge 73 = .ok (.invokevirtual 173, 3) := by decide +kernel
theorem dX12_pokeCartridge_76 : decode cX12_pokeCartridge 76 = .ok (.iload 4, 2) := by decide +kernel
theorem dX12_pokeCartridge_78 : decode cX12_pokeCartridge 78 = .ok (.ireturn, 1) := by decide +kernel
theorem dX12_peek_0 : decode cX12_peek 0 = .ok (.aload_n 0, 1) := by decide +kernel
theorem dX12_peek_1 : decode cX12_peek 1 = .ok (.iload_n 1, 1) := by decide +kernel
theorem dX12_peek_2 : decode cX12_peek 2 = .ok (.invokestatic 157, 3) := by decide +kernel
theorem dX12_peek_5 : decode cX12_peek 5 = .ok (.ifCond .eq 7, 3) := by decide +kernel
theorem dX12_peek_8 : decode cX12_peek 8 = .ok (.iconst 1, 1) := by decide +kernel
theorem dX12_peek_9 : decode cX12_peek 9 = .ok (.goto 4, 3) := by decide +kernel
theorem dX12_peek_12 : decode cX12_peek 12 = .ok (.iconst 0, 1) := by decide +kernel
theorem dX12_peek_13 : decode cX12_peek 13 = .ok (.invokevirtual 164, 3) := by decide +kernel
theorem dX12_peek_16 : decode cX12_peek 16 = .ok (.ifCond .eq 7, 3) := by decide +kernel
theorem dX12_peek_19 : decode cX12_peek 19 = .ok (.iconst 0, 1) := by decide +kernel
theorem dX12_peek_20 : decode cX12_peek 20 = .ok (.goto 8, 3) := by decide +kernel
theorem dX12_peek_23 : decode cX12_peek 23 = .ok (.aload_n 0, 1) := by decide +kernel
theorem dX12_peek_24 : decode cX12_peek 24 = .ok (.iload_n 1, 1) := by decide +kernel
theorem dX12_peek_25 : decode cX12_peek 25 = .ok (.invokevirtual 167, 3) := by decide +kernel
theorem dX12_peek_28 : decode cX12_peek 28 = .ok (.ireturn, 1) := by decide +kernel
theorem dX12_ram_0 : decode cX12_ram 0 = .ok (.aload_n 0, 1) := by decide +kernel
theorem dX12_ram_1 : decode cX12_ram 1 = .ok (.iload_n 1, 1) := by decide +kernel
theorem dX12_ram_2 : decode cX12_ram 2 = .ok (.invokestatic 157, 3) := by decide +kernel
theorem dX12_ram_5 : decode cX12_ram 5 = .ok (.ifCond .eq 7, 3) := by decide +kernel
theorem dX12_ram_8 : decode cX12_ram 8 = .ok (.iconst 1, 1) := by decide +kernel
theorem dX12_ram_9 : decode cX12_ram 9 = .ok (.goto 4, 3) := by decide +kernel
theorem dX12_ram_12 : decode cX12_ram 12 = .ok (.iconst 0, 1) := by decide +kernel
theorem dX12_ram_13 : decode cX12_ram 13 = .ok (.invokevirtual 164, 3) := by decide +kernel
theorem dX12_ram_16 : decode cX12_ram 16 = .ok (.ifCond .eq 7, 3) := by decide +kernel
theorem dX12_ram_19 : decode cX12_ram 19 = .ok (.iconst 0, 1) := by decide +kernel
theorem dX12_ram_20 : decode cX12_ram 20 = .ok (.goto 9, 3) := by decide +kernel
theorem dX12_ram_23 : decode cX12_ram 23 = .ok (.aload_n 0, 1) := by decide +kernel
theorem dX12_ram_24 : decode cX12_ram 24 = .ok (.getfield 7, 3) := by decide +kernel
theorem dX12_ram_27 : decode cX12_ram 27 = .ok (.iload_n 1, 1) := by decide +kernel
theorem dX12_ram_28 : decode cX12_ram 28 = .ok (.iaload, 1) := by decide +kernel
theorem dX12_ram_29 : decode cX12_ram 29 = .ok (.ireturn, 1) := by decide +kernel
theorem dX12_compare_0 : decode cX12_compare 0 = .ok (.aload_n 0, 1) := by decide +kernel
theorem dX12_compare_1 : decode cX12_compare 1 = .ok (.iload_n 1, 1) := by decide +kernel
theorem dX12_compare_2 : decode cX12_compare 2 = .ok (.invokestatic 157, 3) := by decide +kernel
theorem dX12_compare_5 : decode cX12_compare 5 = .ok (.ifCond .ne 10, 3) := by decide +kernel
theorem dX12_compare_8 : decode cX12_compare 8 = .ok (.iload_n 2, 1) := by decide +kernel
theorem dX12_compare_9 : decode cX12_compare 9 = .ok (.invokestatic 157, 3) := by decide +kernel
theorem dX12_compare_12 : decode cX12_compare 12 = .ok (.ifCond .eq 7, 3) := by decide +kernel
theorem dX12_compare_15 : decode cX12_compare 15 = .ok (.iconst 1, 1) := by decide +kernel
theorem dX12_compare_16 : decode cX12_compare 16 = .ok (.goto 19, 3) := by decide +kernel
theorem dX12_compare_19 : decode cX12_compare 19 = .ok (.iload_n 3, 1) := by decide +kernel
theorem dX12_compare_20 : decode cX12_compare 20 = .ok (.iconst 1, 1) := by decide +kernel
theorem dX12_compare_21 : decode cX12_compare 21 = .ok (.sipush 4096, 3) := by decide +kernel
theorem dX12_compare_24 : decode cX12_compare 24 = .ok (.invokestatic 119, 3) := by decide +kernel
theorem dX12_compare_27 : decode cX12_compare 27 = .ok (.ifCond .eq 7, 3) := by decide +kernel
theorem dX12_compare_30 : decode cX12_compare 30 = .ok (.iconst 0, 1) := by decide +kernel
theorem dX12_compare_31 : decode cX12_compare 31 = .ok (.goto 4, 3) := by decide +kernel
theorem dX12_compare_34 : decode cX12_compare 34 = .ok (.iconst 2, 1) := by decide +kernel
theorem dX12_compare_35 : decode cX12_compare 35 = .ok (.invokevirtual 164, 3) := by decide +kernel
theorem dX12_compare_38 : decode cX12_compare 38 = .ok (.ifCond .eq 5, 3) := by decide +kernel
theorem dX12_compare_41 : decode cX12_compare 41 = .ok (.iconst 0, 1) := by decide +kernel
theorem dX12_compare_42 : decode cX12_compare 42 = .ok (.ireturn, 1) := by decide +kernel
theorem dX12_compare_43 : decode cX12_compare 43 = .ok (.iconst 0, 1) := by decide +kernel
theorem dX12_compare_44 : decode cX12_compare 44 = .ok (.istore 4, 2) := by decide +kernel
theorem dX12_compare_46 : decode cX12_compare 46 = .ok (.iconst 0, 1) := by decide +kernel
theorem dX12_compare_47 : decode cX12_compare 47 = .ok (.istore 5, 2) := by decide +kernel
theorem dX12_compare_49 : decode cX12_compare 49 = .ok (.iload 5, 2) := by decide +kernel
theorem dX12_compare_51 : decode cX12_compare 51 = .ok (.iload_n 3, 1) := by decide +kernel
theorem dX12_compare_52 : decode cX12_compare 52 = .ok (.if_icmp .ge 44, 3) := by decide +kernel
theorem dX12_compare_55 : decode cX12_compare 55 = .ok (.iload 4, 2) := by decide +kernel
theorem dX12_compare_57 : decode cX12_compare 57 = .ok (.aload_n 0, 1) := by decide +kernel
theorem dX12_compare_58 : decode cX12_compare 58 = .ok (.iload_n 1, 1) := by decide +kernel
theorem dX12_compare_59 : decode cX12_compare 59 = .ok (.iload 5, 2) := by decide +kernel
theorem dX12_compare_61 : decode cX12_compare 61 = .ok (.iadd, 1) := by decide +kernel
theorem dX12_compare_62 : decode cX12_compare 62 = .ok (.invokestatic 176, 3) := by decide +kernel
theorem dX12_compare_65 : decode cX12_compare 65 = .ok (.invokevirtual 167, 3) := by decide +kernel
theorem dX12_compare_68 : decode cX12_compare 68 = .ok (.aload_n 0, 1) := by decide +kernel
theorem dX12_compare_69 : decode cX12_compare 69 = .ok (.iload_n 2, 1) := by decide +kernel
theorem dX12_compare_70 : decode cX12_compare 70 = .ok (.iload 5, 2) := by decide +kernel
theorem dX12_compare_72 : decode cX12_compare 72 = .ok (.iadd, 1) := by decide +kernel
theorem dX12_compare_73 : decode cX12_compare 73 = .ok (.invokestatic 176, 3) := by decide +kernel
theorem dX12_compare_76 : decode cX12_compare 76 = .ok (.invokevirtual 167, 3) := by decide +kernel
theorem dX12_compare_79 : decode cX12_compare 79 = .ok (.if_icmp .ne 7, 3) := by decide +kernel
theorem dX12_compare_82 : decode cX12_compare 82 = .ok (.iconst 0, 1) := by decide +kernel
theorem dX12_compare_83 : decode cX12_compare 83 = .ok (.goto 4, 3) := by decide +kernel
theorem dX12_compare_86 : decode cX12_compare 86 = .ok (.iconst 1, 1) := by decide +kernel
theorem dX12_compare_87 : decode cX12_compare 87 = .ok (.iadd, 1) := by decide +kernel
theorem dX12_compare_88 : decode cX12_compare 88 = .ok (.istore 4, 2) := by decide +kernel
theorem dX12_compare_90 : decode cX12_compare 90 = .ok (.iinc 5 1, 3) := by decide +kernel
theorem dX12_compare_93 : decode cX12_compare 93 = .ok (.goto (-44), 3) := by decide +kernel
theorem dX12_compare_96 : decode cX12_compare 96 = .ok (.iload 4, 2) := by decide +kernel
theorem dX12_compare_98 : decode cX12_compare 98 = .ok (.ireturn, 1) := by decide +kernel
theorem dX12_rowNow_0 : decode cX12_rowNow 0 = .ok (.aload_n 0, 1) := by decide +kernel
theorem dX12_rowNow_1 : decode cX12_rowNow 1 = .ok (.invokevirtual 135, 3) := by decide +kernel
theorem dX12_rowNow_4 : decode cX12_rowNow 4 = .ok (.iconst 4, 1) := by decide +kernel
theorem dX12_rowNow_5 : decode cX12_rowNow 5 = .ok (.isub, 1) := by decide +kernel
theorem dX12_rowNow_6 : decode cX12_rowNow 6 = .ok (.ireturn, 1) := by decide +kernel
theorem dX12_isOn_0 : decode cX12_isOn 0 = .ok (.aload_n 0, 1) := by decide +kernel
theorem dX12_isOn_1 : decode cX12_isOn 1 = .ok (.getfield 19, 3) := by decide +kernel
theorem dX12_isOn_4 : decode cX12_isOn 4 = .ok (.bipush 17, 2) := by decide +kernel
theorem dX12_isOn_6 : decode cX12_isOn 6 = .ok (.iaload, 1) := by decide +kernel
theorem dX12_isOn_7 : decode cX12_isOn 7 = .ok (.iload_n 1, 1) := by decide +kernel
theorem dX12_isOn_8 : decode cX12_isOn 8 = .ok (.invokestatic 131, 3) := by decide +kernel
theorem dX12_isOn_11 : decode cX12_isOn 11 = .ok (.ireturn, 1) := by decide +kernel
theorem dX12_isAmong_0 : decode cX12_isAmong 0 = .ok (.aload_n 0, 1) := by decide +kernel
theorem dX12_isAmong_1 : decode cX12_isAmong 1 = .ok (.getfield 19, 3) := by decide +kernel
theorem dX12_isAmong_4 : decode cX12_isAmong 4 = .ok (.bipush 24, 2) := by decide +kernel
theorem dX12_isAmong_6 : decode cX12_isAmong 6 = .ok (.iload_n 1, 1) := by decide +kernel
theorem dX12_isAmong_7 : decode cX12_isAmong 7 = .ok (.iadd, 1) := by decide +kernel
theorem dX12_isAmong_8 : decode cX12_isAmong 8 = .ok (.iaload, 1) := by decide +kernel
theorem dX12_isAmong_9 : decode cX12_isAmong 9 = .ok (.istore_n 3, 1) := by decide +kernel
theorem dX12_isAmong_10 : decode cX12_isAmong 10 = .ok (.iload_n 2, 1) := by decide +kernel
theorem dX12_isAmong_11 : decode cX12_isAmong 11 = .ok (.iload_n 3, 1) := by decide +kernel
theorem dX12_isAmong_12 : decode cX12_isAmong 12 = .ok (.if_icmp .lt 34, 3) := by decide +kernel
theorem dX12_isAmong_15 : decode cX12_isAmong 15 = .ok (.iload_n 2, 1) := by decide +kernel
theorem dX12_isAmong_16 : decode cX12_isAmong 16 = .ok (.iload_n 3, 1) := by decide +kernel
theorem dX12_isAmong_17 : decode cX12_isAmong 17 = .ok (.aload_n 0, 1) := by decide +kernel
theorem dX12_isAmong_18 : decode cX12_isAmong 18 = .ok (.getfield 19, 3) := by decide +kernel
theorem dX12_isAmong_21 : decode cX12_isAmong 21 = .ok (.bipush 18, 2) := by decide +kernel
theorem dX12_isAmong_23 : decode cX12_isAmong 23 = .ok (.iaload, 1) := by decide +kernel
theorem dX12_isAmong_24 : decode cX12_isAmong 24 = .ok (.iload_n 1, 1) := by decide +kernel
theorem dX12_isAmong_25 : decode cX12_isAmong 25 = .ok (.invokestatic 131, 3) := by decide +kernel
theorem dX12_isAmong_28 : decode cX12_isAmong 28 = .ok (.ifCond .eq 8, 3) := by decide +kernel
theorem dX12_isAmong_31 : decode cX12_isAmong 31 = .ok (.bipush 16, 2) := by decide +kernel
theorem dX12_isAmong_33 : decode cX12_isAmong 33 = .ok (.goto 5, 3) := by decide +kernel
theorem dX12_isAmong_36 : decode cX12_isAmong 36 = .ok (.bipush 8, 2) := by decide +kernel
theorem dX12_isAmong_38 : decode cX12_isAmong 38 = .ok (.iadd, 1) := by decide +kernel
theorem dX12_isAmong_39 : decode cX12_isAmong 39 = .ok (.if_icmp .ge 7, 3) := by decide +kernel
theorem dX12_isAmong_42 : decode cX12_isAmong 42 = .ok (.iconst 1, 1) := by decide +kernel
theorem dX12_isAmong_43 : decode cX12_isAmong 43 = .ok (.goto 4, 3) := by decide +kernel
theorem dX12_isAmong_46 : decode cX12_isAmong 46 = .ok (.iconst 0, 1) := by decide +kernel
theorem dX12_isAmong_47 : decode cX12_isAmong 47 = .ok (.ireturn, 1) := by decide +kernel
theorem dX12_isOfPicture_0 : decode cX12_isOfPicture 0 = .ok (.aload_n 0, 1) := by decide +kernel
theorem dX12_isOfPicture_1 : decode cX12_isOfPicture 1 = .ok (.invokevirtual 179, 3) := by decide +kernel
theorem dX12_isOfPicture_4 : decode cX12_isOfPicture 4 = .ok (.istore_n 1, 1) := by decide +kernel
theorem dX12_isOfPicture_5 : decode cX12_isOfPicture 5 = .ok (.aload_n 0, 1) := by decide +kernel
theorem dX12_isOfPicture_6 : decode cX12_isOfPicture 6 = .ok (.getfield 123, 3) := by decide +kernel
theorem dX12_isOfPicture_9 : decode cX12_isOfPicture 9 = .ok (.ldc2_w 127, 3) := by decide +kernel
theorem dX12_isOfPicture_12 : decode cX12_isOfPicture 12 = .ok (.lrem, 1) := by decide +kernel
theorem dX12_isOfPicture_13 : decode cX12_isOfPicture 13 = .ok (.l2i, 1) := by decide +kernel
theorem dX12_isOfPicture_14 : decode cX12_isOfPicture 14 = .ok (.istore_n 2, 1) := by decide +kernel
theorem dX12_isOfPicture_15 : decode cX12_isOfPicture 15 = .ok (.iload_n 1, 1) := by decide +kernel
theorem dX12_isOfPicture_16 : decode cX12_isOfPicture 16 = .ok (.iconst 0, 1) := by decide +kernel
theorem dX12_isOfPicture_17 : decode cX12_isOfPicture 17 = .ok (.bipush 31, 2) := by decide +kernel
theorem dX12_isOfPicture_19 : decode cX12_isOfPicture 19 = .ok (.invokestatic 119, 3) := by decide +kernel
theorem dX12_isOfPicture_22 : decode cX12_isOfPicture 22 = .ok (.ifCond .ne 5, 3) := by decide +kernel
theorem dX12_isOfPicture_25 : decode cX12_isOfPicture 25 = .ok (.iconst 0, 1) := by decide +kernel
theorem dX12_isOfPicture_26 : decode cX12_isOfPicture 26 = .ok (.ireturn, 1) := by decide +kernel
theorem dX12_isOfPicture_27 : decode cX12_isOfPicture 27 = .ok (.aload_n 0, 1) := by decide +kernel
theorem dX12_isOfPicture_28 : decode cX12_isOfPicture 28 = .ok (.getfield 19, 3) := by decide +kernel
theorem dX12_isOfPicture_31 : decode cX12_isOfPicture 31 = .ok (.iconst 1, 1) := by decide +kernel
theorem dX12_isOfPicture_32 : decode cX12_isOfPicture 32 = .ok (.iaload, 1) := by decide +kernel
theorem dX12_isOfPicture_33 : decode cX12_isOfPicture 33 = .ok (.ifCond .ne 31, 3) := by decide +kernel
theorem dX12_isOfPicture_36 : decode cX12_isOfPicture 36 = .ok (.iload_n 2, 1) := by decide +kernel
theorem dX12_isOfPicture_37 : decode cX12_isOfPicture 37 = .ok (.bipush 8, 2) := by decide +kernel
theorem dX12_isOfPicture_39 : decode cX12_isOfPicture 39 = .ok (.if_icmp .ge 25, 3) := by decide +kernel
theorem dX12_isOfPicture_42 : decode cX12_isOfPicture 42 = .ok (.iload_n 1, 1) := by decide +kernel
theorem dX12_isOfPicture_43 : decode cX12_isOfPicture 43 = .ok (.aload_n 0, 1) := by decide +kernel
theorem dX12_isOfPicture_44 : decode cX12_isOfPicture 44 = .ok (.getfield 19, 3) := by decide +kernel
theorem dX12_isOfPicture_47 : decode cX12_isOfPicture 47 = .ok (.iconst 2, 1) := by decide +kernel
theorem dX12_isOfPicture_48 : decode cX12_isOfPicture 48 = .ok (.iaload, 1) := by decide +kernel
theorem dX12_isOfPicture_49 : decode cX12_isOfPicture 49 = .ok (.iconst 4, 1) := by decide +kernel
theorem dX12_isOfPicture_50 : decode cX12_isOfPicture 50 = .ok (.idiv, 1) := by decide +kernel
theorem dX12_isOfPicture_51 : decode cX12_isOfPicture 51 = .ok (.iadd, 1) := by decide +kernel
theorem dX12_isOfPicture_52 : decode cX12_isOfPicture 52 = .ok (.bipush 8, 2) := by decide +kernel
theorem dX12_isOfPicture_54 : decode cX12_isOfPicture 54 = .ok (.irem, 1) := by decide +kernel
theorem dX12_isOfPicture_55 : decode cX12_isOfPicture 55 = .ok (.ifCond .ne 7, 3) := by decide +kernel
theorem dX12_isOfPicture_58 : decode cX12_isOfPicture 58 = .ok (.iconst 1, 1) := by decide +kernel
theorem dX12_isOfPicture_59 : decode cX12_isOfPicture 59 = .ok (.goto 4, 3) := by decide +kernel
theorem dX12_isOfPicture_62 : decode cX12_isOfPicture 62 = .ok (.iconst 0, 1) := by decide +kernel
theorem dX12_isOfPicture_63 : decode cX12_isOfPicture 63 = .ok (.ireturn, 1) := by decide +kernel
theorem dX12_isOfPicture_64 : decode cX12_isOfPicture 64 = .ok (.aload_n 0, 1) := by decide +kernel
theorem dX12_isOfPicture_65 : decode cX12_isOfPicture 65 = .ok (.getfield 19, 3) := by decide +kernel
theorem dX12_isOfPicture_68 : decode cX12_isOfPicture 68 = .ok (.iconst 1, 1) := by decide +kernel
theorem dX12_isOfPicture_69 : decode cX12_isOfPicture 69 = .ok (.iaload, 1) := by decide +kernel
theorem dX12_isOfPicture_70 : decode cX12_isOfPicture 70 = .ok (.iconst 1, 1) := by decide +kernel
theorem dX12_isOfPicture_71 : decode cX12_isOfPicture 71 = .ok (.iconst 2, 1) := by decide +kernel
theorem dX12_isOfPicture_72 : decode cX12_isOfPicture 72 = .ok (.invokestatic 119, 3) := by decide +kernel
theorem dX12_isOfPicture_75 : decode cX12_isOfPicture 75 = .ok (.ifCond .eq 10, 3) := by decide +kernel
theorem dX12_isOfPicture_78 : decode cX12_isOfPicture 78 = .ok (.iload_n 2, 1) := by decide +kernel
theorem dX12_isOfPicture_79 : decode cX12_isOfPicture 79 = .ok (.iconst 4, 1) := by decide +kernel
theorem dX12_isOfPicture_80 : decode cX12_isOfPicture 80 = .ok (.if_icmp .ge 5, 3) := by decide +kernel
theorem dX12_isOfPicture_83 : decode cX12_isOfPicture 83 = .ok (.iconst 1, 1) := by decide +kernel
theorem dX12_isOfPicture_84 : decode cX12_isOfPicture 84 = .ok (.ireturn, 1) := by decide +kernel
theorem dX12_isOfPicture_85 : decode cX12_isOfPicture 85 = .ok (.iload_n 2, 1) := by decide +kernel
theorem dX12_isOfPicture_86 : decode cX12_isOfPicture 86 = .ok (.bipush 20, 2) := by decide +kernel
theorem dX12_isOfPicture_88 : decode cX12_isOfPicture 88 = .ok (.if_icmp .lt 30, 3) := by decide +kernel
theorem dX12_isOfPicture_91 : decode cX12_isOfPicture 91 = .ok (.aload_n 0, 1) := by decide +kernel
theorem dX12_isOfPicture_92 : decode cX12_isOfPicture 92 = .ok (.iload_n 2, 1) := by decide +kernel
theorem dX12_isOfPicture_93 : decode cX12_isOfPicture 93 = .ok (.bipush 20, 2) := by decide +kernel
theorem dX12_isOfPicture_95 : decode cX12_isOfPicture 95 = .ok (.isub, 1) := by decide +kernel
theorem dX12_isOfPicture_96 : decode cX12_isOfPicture 96 = .ok (.invokevirtual 182, 3) := by decide +kernel
theorem dX12_isOfPicture_99 : decode cX12_isOfPicture 99 = .ok (.ifCond .eq 19, 3) := by decide +kernel
theorem dX12_isOfPicture_102 : decode cX12_isOfPicture 102 = .ok (.aload_n 0, 1) := by decide +kernel
theorem dX12_isOfPicture_103 : decode cX12_isOfPicture 103 = .ok (.iload_n 2, 1) := by decide +kernel
theorem dX12_isOfPicture_104 : decode cX12_isOfPicture 104 = .ok (.bipush 20, 2) := by decide +kernel
theorem dX12_isOfPicture_106 : decode cX12_isOfPicture 106 = .ok (.isub, 1) := by decide +kernel
theorem dX12_isOfPicture_107 : decode cX12_isOfPicture 107 = .ok (.iload_n 1, 1) := by decide +kernel
theorem dX12_isOfPicture_108 : decode cX12_isOfPicture 108 = .ok (.invokevirtual 185, 3) := by decide +kernel
theorem dX12_isOfPicture_111 : decode cX12_isOfPicture 111 = .ok (.ifCond .eq 7, 3) := by decide +kernel
theorem dX12_isOfPicture_114 : decode cX12_isOfPicture 114 = .ok (.iconst 1, 1) := by decide +kernel
theorem dX12_isOfPicture_115 : decode cX12_isOfPicture 115 = .ok (.goto 4, 3) := by decide +kernel
theorem dX12_isOfPicture_118 : decode cX12_isOfPicture 118 = .ok (.iconst 0, 1) := by decide +kernel
theorem dX12_isOfPicture_119 : decode cX12_isOfPicture 119 = .ok (.ireturn, 1) := by decide +kernel
theorem dX12_pictureAt_0 : decode cX12_pictureAt 0 = .ok (.iload_n 1, 1) := by decide +kernel
theorem dX12_pictureAt_1 : decode cX12_pictureAt 1 = .ok (.aload_n 0, 1) := by decide +kernel
theorem dX12_pictureAt_2 : decode cX12_pictureAt 2 = .ok (.getfield 19, 3) := by decide +kernel
theorem dX12_pictureAt_5 : decode cX12_pictureAt 5 = .ok (.iconst 2, 1) := by decide +kernel
theorem dX12_pictureAt_6 : decode cX12_pictureAt 6 = .ok (.iaload, 1) := by decide +kernel
theorem dX12_pictureAt_7 : decode cX12_pictureAt 7 = .ok (.iconst 4, 1) := by decide +kernel
theorem dX12_pictureAt_8 : decode cX12_pictureAt 8 = .ok (.irem, 1) := by decide +kernel
theorem dX12_pictureAt_9 : decode cX12_pictureAt 9 = .ok (.iadd, 1) := by decide +kernel
theorem dX12_pictureAt_10 : decode cX12_pictureAt 10 = .ok (.bipush 32, 2) := by decide +kernel
theorem dX12_pictureAt_12 : decode cX12_pictureAt 12 = .ok (.irem, 1) := by decide +kernel
theorem dX12_pictureAt_13 : decode cX12_pictureAt 13 = .ok (.istore_n 3, 1) := by decide +kernel
theorem dX12_pictureAt_14 : decode cX12_pictureAt 14 = .ok (.iload_n 2, 1) := by decide +kernel
theorem dX12_pictureAt_15 : decode cX12_pictureAt 15 = .ok (.aload_n 0, 1) := by decide +kernel
theorem dX12_pictureAt_16 : decode cX12_pictureAt 16 = .ok (.getfield 19, 3) := by decide +kernel
theorem dX12_pictureAt_19 : decode cX12_pictureAt 19 = .ok (.iconst 2, 1) := by decide +kernel
theorem dX12_pictureAt_20 : decode cX12_pictureAt 20 = .ok (.iaload, 1) := by decide +kernel
theorem dX12_pictureAt_21 : decode cX12_pictureAt 21 = .ok (.iconst 4, 1) := by decide +kernel
theorem dX12_pictureAt_22 : decode cX12_pictureAt 22 = .ok (.idiv, 1) := by decide +kernel
theorem dX12_pictureAt_23 : decode cX12_pictureAt 23 = .ok (.iadd, 1) := by decide +kernel
theorem dX12_pictureAt_24 : decode cX12_pictureAt 24 = .ok (.bipush 32, 2) := by decide +kernel
theorem dX12_pictureAt_26 : decode cX12_pictureAt 26 = .ok (.irem, 1) := by decide +kernel
theorem dX12_pictureAt_27 : decode cX12_pictureAt 27 = .ok (.istore 4, 2) := by decide +kernel
theorem dX12_pictureAt_29 : decode cX12_pictureAt 29 = .ok (.sipush 256, 3) := by decide +kernel
theorem dX12_pictureAt_32 : decode cX12_pictureAt 32 = .ok (.aload_n 0, 1) := by decide +kernel
theorem dX12_pictureAt_33 : decode cX12_pictureAt 33 = .ok (.getfield 19, 3) := by decide +kernel
theorem dX12_pictureAt_36 : decode cX12_pictureAt 36 = .ok (.bipush 7, 2) := by decide +kernel
theorem dX12_pictureAt_38 : decode cX12_pictureAt 38 = .ok (.iaload, 1) := by decide +kernel
theorem dX12_pictureAt_39 : decode cX12_pictureAt 39 = .ok (.imul, 1) := by decide +kernel
theorem dX12_pictureAt_40 : decode cX12_pictureAt 40 = .ok (.istore 5, 2) := by decide +kernel
theorem dX12_pictureAt_42 : decode cX12_pictureAt 42 = .ok (.aload_n 0, 1) := by decide +kernel
theorem dX12_pictureAt_43 : decode cX12_pictureAt 43 = .ok (.getfield 19, 3) := by decide +kernel
theorem dX12_pictureAt_46 : decode cX12_pictureAt 46 = .ok (.iconst 1, 1) := by decide +kernel
theorem dX12_pictureAt_47 : decode cX12_pictureAt 47 = .ok (.iaload, 1) := by decide +kernel
theorem dX12_pictureAt_48 : decode cX12_pictureAt 48 = .ok (.ifCond .ne 68, 3) := by decide +kernel
theorem dX12_pictureAt_51 : decode cX12_pictureAt 51 = .ok (.aload_n 0, 1) := by decide +kernel
theorem dX12_pictureAt_52 : decode cX12_pictureAt 52 = .ok (.getfield 7, 3) := by decide +kernel
theorem dX12_pictureAt_55 : decode cX12_pictureAt 55 = .ok (.iload 5, 2) := by decide +kernel
theorem dX12_pictureAt_57 : decode cX12_pictureAt 57 = .ok (.bipush 8, 2) := by decide +kernel
theorem dX12_pictureAt_59 : decode cX12_pictureAt 59 = .ok (.iload 4, 2) := by decide +kernel
theorem dX12_pictureAt_61 : decode cX12_pictureAt 61 = .ok (.bipush 8, 2) := by decide +kernel
theorem dX12_pictureAt_63 : decode cX12_pictureAt 63 = .ok (.idiv, 1) := by decide +kernel
theorem dX12_pictureAt_64 : decode cX12_pictureAt 64 = .ok (.imul, 1) := by decide +kernel
theorem dX12_pictureAt_65 : decode cX12_pictureAt 65 = .ok (.iadd, 1) := by decide +kernel
theorem dX12_pictureAt_66 : decode cX12_pictureAt 66 = .ok (.iload_n 3, 1) := by decide +kernel
theorem dX12_pictureAt_67 : decode cX12_pictureAt 67 = .ok (.iconst 4, 1) := by decide +kernel
theorem dX12_pictureAt_68 : decode cX12_pictureAt 68 = .ok (.idiv, 1) := by decide +kernel
theorem dX12_pictureAt_69 : decode cX12_pictureAt 69 = .ok (.iadd, 1) := by decide +kernel
theorem dX12_pictureAt_70 : decode cX12_pictureAt 70 = .ok (.invokestatic 176, 3) := by decide +kernel
theorem dX12_pictureAt_73 : decode cX12_pictureAt 73 = .ok (.iaload, 1) := by decide +kernel
theorem dX12_pictureAt_74 : decode cX12_pictureAt 74 = .ok (.istore 6, 2) := by decide +kernel
theorem dX12_pictureAt_76 : decode cX12_pictureAt 76 = .ok (.aload_n 0, 1) := by decide +kernel
theorem dX12_pictureAt_77 : decode cX12_pictureAt 77 = .ok (.getfield 7, 3) := by decide +kernel
theorem dX12_pictureAt_80 : decode cX12_pictureAt 80 = .ok (.sipush 256, 3) := by decide +kernel
theorem dX12_pictureAt_83 : decode cX12_pictureAt 83 = .ok (.aload_n 0, 1) := by decide +kernel
theorem dX12_pictureAt_84 : decode cX12_pictureAt 84 = .ok (.getfield 19, 3) := by decide +kernel
theorem dX12_pictureAt_87 : decode cX12_pictureAt 87 = .ok (.bipush 8, 2) := by decide +kernel
theorem dX12_pictureAt_89 : decode cX12_pictureAt 89 = .ok (.iaload, 1) := by decide +kernel
theorem dX12_pictureAt_90 : decode cX12_pictureAt 90 = .ok (.imul, 1) := by decide +kernel
theorem dX12_pictureAt_91 : decode cX12_pictureAt 91 = .ok (.bipush 8, 2) := by decide +kernel
theorem dX12_pictureAt_93 : decode cX12_pictureAt 93 = .ok (.iload 6, 2) := by decide +kernel
theorem dX12_pictureAt_95 : decode cX12_pictureAt 95 = .ok (.imul, 1) := by decide +kernel
theorem dX12_pictureAt_96 : decode cX12_pictureAt 96 = .ok (.iadd, 1) := by decide +kernel
theorem dX12_pictureAt_97 : decode cX12_pictureAt 97 = .ok (.iload 4, 2) := by decide +kernel
theorem dX12_pictureAt_99 : decode cX12_pictureAt 99 = .ok (.bipush 8, 2) := by decide +kernel
theorem dX12_pictureAt_101 : decode cX12_pictureAt 101 = .ok (.irem, 1) := by decide +kernel
theorem dX12_pictureAt_102 : decode cX12_pictureAt 102 = .ok (.iadd, 1) := by decide +kernel
theorem dX12_pictureAt_103 : decode cX12_pictureAt 103 = .ok (.invokestatic 176, 3) := by decide +kernel
theorem dX12_pictureAt_106 : decode cX12_pictureAt 106 = .ok (.iaload, 1) := by decide +kernel
theorem dX12_pictureAt_107 : decode cX12_pictureAt 107 = .ok (.iconst 3, 1) := by decide +kernel
theorem dX12_pictureAt_108 : decode cX12_pictureAt 108 = .ok (.iload_n 3, 1) := by decide +kernel
theorem dX12_pictureAt_109 : decode cX12_pictureAt 109 = .ok (.iconst 4, 1) := by decide +kernel
theorem dX12_pictureAt_110 : decode cX12_pictureAt 110 = .ok (.irem, 1) := by decide +kernel
theorem dX12_pictureAt_111 : decode cX12_pictureAt 111 = .ok (.isub, 1) := by decide +kernel
theorem dX12_pictureAt_112 : decode cX12_pictureAt 112 = .ok (.ishr, 1) := by decide +kernel
theorem dX12_pictureAt_113 : decode cX12_pictureAt 113 = .ok (.iconst 1, 1) := by decide +kernel
theorem dX12_pictureAt_114 : decode cX12_pictureAt 114 = .ok (.iand, 1) := by decide +kernel
theorem dX12_pictureAt_115 : decode cX12_pictureAt 115 = .ok (.ireturn, 1) := by decide +kernel
theorem dX12_pictureAt_116 : decode cX12_pictureAt 116 = .ok (.aload_n 0, 1) := by decide +kernel
theorem dX12_pictureAt_117 : decode cX12_pictureAt 117 = .ok (.getfield 7, 3) := by decide +kernel
theorem dX12_pictureAt_120 : decode cX12_pictureAt 120 = .ok (.iload 5, 2) := by decide +kernel
theorem dX12_pictureAt_122 : decode cX12_pictureAt 122 = .ok (.iconst 4, 1) := by decide +kernel
theorem dX12_pictureAt_123 : decode cX12_pictureAt 123 = .ok (.iload 4, 2) := by decide +kernel
theorem dX12_pictureAt_125 : decode cX12_pictureAt 125 = .ok (.imul, 1) := by decide +kernel
theorem dX12_pictureAt_126 : decode cX12_pictureAt 126 = .ok (.iadd, 1) := by decide +kernel
theorem dX12_pictureAt_127 : decode cX12_pictureAt 127 = .ok (.iload_n 3, 1) := by decide +kernel
theorem dX12_pictureAt_128 : decode cX12_pictureAt 128 = .ok (.bipush 8, 2) := by decide +kernel
theorem dX12_pictureAt_130 : decode cX12_pictureAt 130 = .ok (.idiv, 1) := by decide +kernel
theorem dX12_pictureAt_131 : decode cX12_pictureAt 131 = .ok (.iadd, 1) := by decide +kernel
theorem dX12_pictureAt_132 : decode cX12_pictureAt 132 = .ok (.invokestatic 176, 3) := by decide +kernel
theorem dX12_pictureAt_135 : decode cX12_pictureAt 135 = .ok (.iaload, 1) := by decide +kernel
theorem dX12_pictureAt_136 : decode cX12_pictureAt 136 = .ok (.istore 6, 2) := by decide +kernel
theorem dX12_pictureAt_138 : decode cX12_pictureAt 138 = .ok (.aload_n 0, 1) := by decide +kernel
theorem dX12_pictureAt_139 : decode cX12_pictureAt 139 = .ok (.getfield 19, 3) := by decide +kernel
theorem dX12_pictureAt_142 : decode cX12_pictureAt 142 = .ok (.iconst 1, 1) := by decide +kernel
theorem dX12_pictureAt_143 : decode cX12_pictureAt 143 = .ok (.iaload, 1) := by decide +kernel
theorem dX12_pictureAt_144 : decode cX12_pictureAt 144 = .ok (.iconst 1, 1) := by decide +kernel
theorem dX12_pictureAt_145 : decode cX12_pictureAt 145 = .ok (.if_icmp .ne 18, 3) := by decide +kernel
theorem dX12_pictureAt_148 : decode cX12_pictureAt 148 = .ok (.iload 6, 2) := by decide +kernel
theorem dX12_pictureAt_150 : decode cX12_pictureAt 150 = .ok (.bipush 7, 2) := by decide +kernel
theorem dX12_pictureAt_152 : decode cX12_pictureAt 152 = .ok (.iload_n 3, 1) := by decide +kernel
theorem dX12_pictureAt_153 : decode cX12_pictureAt 153 = .ok (.bipush 8, 2) := by decide +kernel
theorem dX12_pictureAt_155 : decode cX12_pictureAt 155 = .ok (.irem, 1) := by decide +kernel
theorem dX12_pictureAt_156 : decode cX12_pictureAt 156 = .ok (.isub, 1) := by decide +kernel
theorem dX12_pictureAt_157 : decode cX12_pictureAt 157 = .ok (.ishr, 1) := by decide +kernel
theorem dX12_pictureAt_158 : decode cX12_pictureAt 158 = .ok (.iconst 1, 1) := by decide +kernel
theorem dX12_pictureAt_159 : decode cX12_pictureAt 159 = .ok (.iand, 1) := by decide +kernel
theorem dX12_pictureAt_160 : decode cX12_pictureAt 160 = .ok (.goto 33, 3) := by decide +kernel
theorem dX12_pictureAt_163 : decode cX12_pictureAt 163 = .ok (.aload_n 0, 1) := by decide +kernel
theorem dX12_pictureAt_164 : decode cX12_pictureAt 164 = .ok (.getfield 19, 3) := by decide +kernel
theorem dX12_pictureAt_167 : decode cX12_pictureAt 167 = .ok (.iconst 1, 1) := by decide +kernel
theorem dX12_pictureAt_168 : decode cX12_pictureAt 168 = .ok (.iaload, 1) := by decide +kernel
theorem dX12_pictureAt_169 : decode cX12_pictureAt 169 = .ok (.iconst 2, 1) := by decide +kernel
theorem dX12_pictureAt_170 : decode cX12_pictureAt 170 = .ok (.if_icmp .ne 22, 3) := by decide +kernel
theorem dX12_pictureAt_173 : decode cX12_pictureAt 173 = .ok (.iload 6, 2) := by decide +kernel
theorem dX12_pictureAt_175 : decode cX12_pictureAt 175 = .ok (.bipush 6, 2) := by decide +kernel
theorem dX12_pictureAt_177 : decode cX12_pictureAt 177 = .ok (.iconst 2, 1) := by decide +kernel
theorem dX12_pictureAt_178 : decode cX12_pictureAt 178 = .ok (.iload_n 3, 1) := by decide +kernel
theorem dX12_pictureAt_179 : decode cX12_pictureAt 179 = .ok (.bipush 8, 2) := by decide +kernel
theorem dX12_pictureAt_181 : decode cX12_pictureAt 181 = .ok (.irem, 1) := by decide +kernel
theorem dX12_pictureAt_182 : decode cX12_pictureAt 182 = .ok (.iconst 2, 1) := by decide +kernel
theorem dX12_pictureAt_183 : decode cX12_pictureAt 183 = .ok (.idiv, 1) := by decide +kernel
theorem dX12_pictureAt_184 : decode cX12_pictureAt 184 = .ok (.imul, 1) := by decide +kernel
theorem dX12_pictureAt_185 : decode cX12_pictureAt 185 = .ok (.isub, 1) := by decide +kernel
theorem dX12_pictureAt_186 : decode cX12_pictureAt 186 = .ok (.ishr, 1) := by decide +kernel
theorem dX12_pictureAt_187 : decode cX12_pictureAt 187 = .ok (.iconst 3, 1) := by decide +kernel
theorem dX12_pictureAt_188 : decode cX12_pictureAt 188 = .ok (.iand, 1) := by decide +kernel
theorem dX12_pictureAt_189 : decode cX12_pictureAt 189 = .ok (.goto 4, 3) := by decide +kernel
theorem dX12_pictureAt_192 : decode cX12_pictureAt 192 = .ok (.iconst 0, 1) := by decide +kernel
theorem dX12_pictureAt_193 : decode cX12_pictureAt 193 = .ok (.ireturn, 1) := by decide +kernel
theorem dX12_covers_0 : decode cX12_covers 0 = .ok (.aload_n 0, 1) := by decide +kernel
theorem dX12_covers_1 : decode cX12_covers 1 = .ok (.iload_n 1, 1) := by decide +kernel
theorem dX12_covers_2 : decode cX12_covers 2 = .ok (.invokevirtual 182, 3) := by decide +kernel
theorem dX12_covers_5 : decode cX12_covers 5 = .ok (.ifCond .ne 5, 3) := by decide +kernel
theorem dX12_covers_8 : decode cX12_covers 8 = .ok (.iconst 0, 1) := by decide +kernel
theorem dX12_covers_9 : decode cX12_covers 9 = .ok (.ireturn, 1) := by decide +kernel
theorem dX12_covers_10 : decode cX12_covers 10 = .ok (.iload_n 2, 1) := by decide +kernel
theorem dX12_covers_11 : decode cX12_covers 11 = .ok (.aload_n 0, 1) := by decide +kernel
theorem dX12_covers_12 : decode cX12_covers 12 = .ok (.getfield 19, 3) := by decide +kernel
theorem dX12_covers_15 : decode cX12_covers 15 = .ok (.bipush 20, 2) := by decide +kernel
theorem dX12_covers_17 : decode cX12_covers 17 = .ok (.iload_n 1, 1) := by decide +kernel
theorem dX12_covers_18 : decode cX12_covers 18 = .ok (.iadd, 1) := by decide +kernel
theorem dX12_covers_19 : decode cX12_covers 19 = .ok (.iaload, 1) := by decide +kernel
theorem dX12_covers_20 : decode cX12_covers 20 = .ok (.isub, 1) := by decide +kernel
theorem dX12_covers_21 : decode cX12_covers 21 = .ok (.istore 4, 2) := by decide +kernel
theorem dX12_covers_23 : decode cX12_covers 23 = .ok (.iload_n 3, 1) := by decide +kernel
theorem dX12_covers_24 : decode cX12_covers 24 = .ok (.aload_n 0, 1) := by decide +kernel
theorem dX12_covers_25 : decode cX12_covers 25 = .ok (.getfield 19, 3) := by decide +kernel
theorem dX12_covers_28 : decode cX12_covers 28 = .ok (.bipush 24, 2) := by decide +kernel
theorem dX12_covers_30 : decode cX12_covers 30 = .ok (.iload_n 1, 1) := by decide +kernel
theorem dX12_covers_31 : decode cX12_covers 31 = .ok (.iadd, 1) := by decide +kernel
theorem dX12_covers_32 : decode cX12_covers 32 = .ok (.iaload, 1) := by decide +kernel
theorem dX12_covers_33 : decode cX12_covers 33 = .ok (.isub, 1) := by decide +kernel
theorem dX12_covers_34 : decode cX12_covers 34 = .ok (.istore 5, 2) := by decide +kernel
theorem dX12_covers_36 : decode cX12_covers 36 = .ok (.aload_n 0, 1) := by decide +kernel
theorem dX12_covers_37 : decode cX12_covers 37 = .ok (.getfield 19, 3) := by decide +kernel
theorem dX12_covers_40 : decode cX12_covers 40 = .ok (.bipush 18, 2) := by decide +kernel
theorem dX12_covers_42 : decode cX12_covers 42 = .ok (.iaload, 1) := by decide +kernel
theorem dX12_covers_43 : decode cX12_covers 43 = .ok (.iload_n 1, 1) := by decide +kernel
theorem dX12_covers_44 : decode cX12_covers 44 = .ok (.invokestatic 131, 3) := by decide +kernel
theorem dX12_covers_47 : decode cX12_covers 47 = .ok (.ifCond .eq 15, 3) := by decide +kernel
theorem dX12_covers_50 : decode cX12_covers 50 = .ok (.iload 4, 2) := by decide +kernel
theorem dX12_covers_52 : decode cX12_covers 52 = .ok (.iconst 1, 1) := by decide +kernel
theorem dX12_covers_53 : decode cX12_covers 53 = .ok (.ishr, 1) := by decide +kernel
