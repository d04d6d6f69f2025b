theorem dX12_covers_54 : decode cX12_covers 54 = .ok (.istore 4, 2) := by decide +kernel
theorem dX12_covers_56 : decode cX12_covers 56 = .ok (.iload 5, 2) := by decide +kernel
theorem dX12_covers_58 : decode cX12_covers 58 = .ok (.iconst 1, 1) := by decide +kernel
theorem dX12_covers_59 : decode cX12_covers 59 = .ok (.ishr, 1) := by decide +kernel
theorem dX12_covers_60 : decode cX12_covers 60 = .ok (.istore 5, 2) := by decide +kernel
theorem dX12_covers_62 : decode cX12_covers 62 = .ok (.iload 4, 2) := by decide +kernel
theorem dX12_covers_64 : decode cX12_covers 64 = .ok (.iconst 0, 1) := by decide +kernel
theorem dX12_covers_65 : decode cX12_covers 65 = .ok (.bipush 7, 2) := by decide +kernel
theorem dX12_covers_67 : decode cX12_covers 67 = .ok (.invokestatic 119, 3) := by decide +kernel
theorem dX12_covers_70 : decode cX12_covers 70 = .ok (.ifCond .eq 60, 3) := by decide +kernel
theorem dX12_covers_73 : decode cX12_covers 73 = .ok (.iload 5, 2) := by decide +kernel
theorem dX12_covers_75 : decode cX12_covers 75 = .ok (.iconst 0, 1) := by decide +kernel
theorem dX12_covers_76 : decode cX12_covers 76 = .ok (.bipush 7, 2) := by decide +kernel
theorem dX12_covers_78 : decode cX12_covers 78 = .ok (.invokestatic 119, 3) := by decide +kernel
theorem dX12_covers_81 : decode cX12_covers 81 = .ok (.ifCond .eq 49, 3) := by decide +kernel
theorem dX12_covers_84 : decode cX12_covers 84 = .ok (.aload_n 0, 1) := by decide +kernel
theorem dX12_covers_85 : decode cX12_covers 85 = .ok (.getfield 7, 3) := by decide +kernel
theorem dX12_covers_88 : decode cX12_covers 88 = .ok (.sipush 256, 3) := by decide +kernel
theorem dX12_covers_91 : decode cX12_covers 91 = .ok (.aload_n 0, 1) := by decide +kernel
theorem dX12_covers_92 : decode cX12_covers 92 = .ok (.getfield 19, 3) := by decide +kernel
theorem dX12_covers_95 : decode cX12_covers 95 = .ok (.bipush 7, 2) := by decide +kernel
theorem dX12_covers_97 : decode cX12_covers 97 = .ok (.iaload, 1) := by decide +kernel
theorem dX12_covers_98 : decode cX12_covers 98 = .ok (.imul, 1) := by decide +kernel
theorem dX12_covers_99 : decode cX12_covers 99 = .ok (.sipush 128, 3) := by decide +kernel
theorem dX12_covers_102 : decode cX12_covers 102 = .ok (.iadd, 1) := by decide +kernel
theorem dX12_covers_103 : decode cX12_covers 103 = .ok (.bipush 8, 2) := by decide +kernel
theorem dX12_covers_105 : decode cX12_covers 105 = .ok (.iload_n 1, 1) := by decide +kernel
theorem dX12_covers_106 : decode cX12_covers 106 = .ok (.imul, 1) := by decide +kernel
theorem dX12_covers_107 : decode cX12_covers 107 = .ok (.iadd, 1) := by decide +kernel
theorem dX12_covers_108 : decode cX12_covers 108 = .ok (.iload 5, 2) := by decide +kernel
theorem dX12_covers_110 : decode cX12_covers 110 = .ok (.iadd, 1) := by decide +kernel
theorem dX12_covers_111 : decode cX12_covers 111 = .ok (.invokestatic 176, 3) := by decide +kernel
theorem dX12_covers_114 : decode cX12_covers 114 = .ok (.iaload, 1) := by decide +kernel
theorem dX12_covers_115 : decode cX12_covers 115 = .ok (.bipush 7, 2) := by decide +kernel
theorem dX12_covers_117 : decode cX12_covers 117 = .ok (.iload 4, 2) := by decide +kernel
theorem dX12_covers_119 : decode cX12_covers 119 = .ok (.isub, 1) := by decide +kernel
theorem dX12_covers_120 : decode cX12_covers 120 = .ok (.invokestatic 131, 3) := by decide +kernel
theorem dX12_covers_123 : decode cX12_covers 123 = .ok (.ifCond .eq 7, 3) := by decide +kernel
theorem dX12_covers_126 : decode cX12_covers 126 = .ok (.iconst 1, 1) := by decide +kernel
theorem dX12_covers_127 : decode cX12_covers 127 = .ok (.goto 4, 3) := by decide +kernel
theorem dX12_covers_130 : decode cX12_covers 130 = .ok (.iconst 0, 1) := by decide +kernel
theorem dX12_covers_131 : decode cX12_covers 131 = .ok (.ireturn, 1) := by decide +kernel
theorem dX12_draws_0 : decode cX12_draws 0 = .ok (.aload_n 0, 1) := by decide +kernel
theorem dX12_draws_1 : decode cX12_draws 1 = .ok (.iload_n 1, 1) := by decide +kernel
theorem dX12_draws_2 : decode cX12_draws 2 = .ok (.iload_n 2, 1) := by decide +kernel
theorem dX12_draws_3 : decode cX12_draws 3 = .ok (.invokevirtual 188, 3) := by decide +kernel
theorem dX12_draws_6 : decode cX12_draws 6 = .ok (.istore_n 3, 1) := by decide +kernel
theorem dX12_draws_7 : decode cX12_draws 7 = .ok (.aload_n 0, 1) := by decide +kernel
theorem dX12_draws_8 : decode cX12_draws 8 = .ok (.getfield 19, 3) := by decide +kernel
theorem dX12_draws_11 : decode cX12_draws 11 = .ok (.iconst 1, 1) := by decide +kernel
theorem dX12_draws_12 : decode cX12_draws 12 = .ok (.iaload, 1) := by decide +kernel
theorem dX12_draws_13 : decode cX12_draws 13 = .ok (.iconst 2, 1) := by decide +kernel
theorem dX12_draws_14 : decode cX12_draws 14 = .ok (.if_icmp .ne 16, 3) := by decide +kernel
theorem dX12_draws_17 : decode cX12_draws 17 = .ok (.iload_n 3, 1) := by decide +kernel
theorem dX12_draws_18 : decode cX12_draws 18 = .ok (.iconst 1, 1) := by decide +kernel
theorem dX12_draws_19 : decode cX12_draws 19 = .ok (.if_icmp .le 7, 3) := by decide +kernel
theorem dX12_draws_22 : decode cX12_draws 22 = .ok (.iconst 1, 1) := by decide +kernel
theorem dX12_draws_23 : decode cX12_draws 23 = .ok (.goto 17, 3) := by decide +kernel
theorem dX12_draws_26 : decode cX12_draws 26 = .ok (.iconst 0, 1) := by decide +kernel
theorem dX12_draws_27 : decode cX12_draws 27 = .ok (.goto 13, 3) := by decide +kernel
theorem dX12_draws_30 : decode cX12_draws 30 = .ok (.iload_n 3, 1) := by decide +kernel
theorem dX12_draws_31 : decode cX12_draws 31 = .ok (.iconst 1, 1) := by decide +kernel
theorem dX12_draws_32 : decode cX12_draws 32 = .ok (.if_icmp .ne 7, 3) := by decide +kernel
theorem dX12_draws_35 : decode cX12_draws 35 = .ok (.iconst 1, 1) := by decide +kernel
theorem dX12_draws_36 : decode cX12_draws 36 = .ok (.goto 4, 3) := by decide +kernel
theorem dX12_draws_39 : decode cX12_draws 39 = .ok (.iconst 0, 1) := by decide +kernel
theorem dX12_draws_40 : decode cX12_draws 40 = .ok (.istore 4, 2) := by decide +kernel
theorem dX12_draws_42 : decode cX12_draws 42 = .ok (.iconst 0, 1) := by decide +kernel
theorem dX12_draws_43 : decode cX12_draws 43 = .ok (.istore 5, 2) := by decide +kernel
theorem dX12_draws_45 : decode cX12_draws 45 = .ok (.iconst (-1), 1) := by decide +kernel
theorem dX12_draws_46 : decode cX12_draws 46 = .ok (.istore 6, 2) := by decide +kernel
theorem dX12_draws_48 : decode cX12_draws 48 = .ok (.iconst 3, 1) := by decide +kernel
theorem dX12_draws_49 : decode cX12_draws 49 = .ok (.istore 7, 2) := by decide +kernel
theorem dX12_draws_51 : decode cX12_draws 51 = .ok (.iload 7, 2) := by decide +kernel
theorem dX12_draws_53 : decode cX12_draws 53 = .ok (.ifCond .lt 36, 3) := by decide +kernel
theorem dX12_draws_56 : decode cX12_draws 56 = .ok (.aload_n 0, 1) := by decide +kernel
theorem dX12_draws_57 : decode cX12_draws 57 = .ok (.iload 7, 2) := by decide +kernel
theorem dX12_draws_59 : decode cX12_draws 59 = .ok (.iload_n 1, 1) := by decide +kernel
theorem dX12_draws_60 : decode cX12_draws 60 = .ok (.iload_n 2, 1) := by decide +kernel
theorem dX12_draws_61 : decode cX12_draws 61 = .ok (.invokevirtual 192, 3) := by decide +kernel
theorem dX12_draws_64 : decode cX12_draws 64 = .ok (.ifCond .ne 6, 3) := by decide +kernel
theorem dX12_draws_67 : decode cX12_draws 67 = .ok (.goto 16, 3) := by decide +kernel
theorem dX12_draws_70 : decode cX12_draws 70 = .ok (.iload 5, 2) := by decide +kernel
theorem dX12_draws_72 : decode cX12_draws 72 = .ok (.iconst 1, 1) := by decide +kernel
theorem dX12_draws_73 : decode cX12_draws 73 = .ok (.iload 7, 2) := by decide +kernel
theorem dX12_draws_75 : decode cX12_draws 75 = .ok (.ishl, 1) := by decide +kernel
theorem dX12_draws_76 : decode cX12_draws 76 = .ok (.ior, 1) := by decide +kernel
theorem dX12_draws_77 : decode cX12_draws 77 = .ok (.istore 5, 2) := by decide +kernel
theorem dX12_draws_79 : decode cX12_draws 79 = .ok (.iload 7, 2) := by decide +kernel
theorem dX12_draws_81 : decode cX12_draws 81 = .ok (.istore 6, 2) := by decide +kernel
theorem dX12_draws_83 : decode cX12_draws 83 = .ok (.iinc 7 (-1), 3) := by decide +kernel
theorem dX12_draws_86 : decode cX12_draws 86 = .ok (.goto (-35), 3) := by decide +kernel
theorem dX12_draws_89 : decode cX12_draws 89 = .ok (.iload 6, 2) := by decide +kernel
theorem dX12_draws_91 : decode cX12_draws 91 = .ok (.ifCond .lt 27, 3) := by decide +kernel
theorem dX12_draws_94 : decode cX12_draws 94 = .ok (.iload 4, 2) := by decide +kernel
theorem dX12_draws_96 : decode cX12_draws 96 = .ok (.ifCond .eq 18, 3) := by decide +kernel
theorem dX12_draws_99 : decode cX12_draws 99 = .ok (.aload_n 0, 1) := by decide +kernel
theorem dX12_draws_100 : decode cX12_draws 100 = .ok (.getfield 19, 3) := by decide +kernel
theorem dX12_draws_103 : decode cX12_draws 103 = .ok (.bipush 19, 2) := by decide +kernel
theorem dX12_draws_105 : decode cX12_draws 105 = .ok (.iaload, 1) := by decide +kernel
theorem dX12_draws_106 : decode cX12_draws 106 = .ok (.iload 6, 2) := by decide +kernel
theorem dX12_draws_108 : decode cX12_draws 108 = .ok (.invokestatic 131, 3) := by decide +kernel
theorem dX12_draws_111 : decode cX12_draws 111 = .ok (.ifCond .ne 7, 3) := by decide +kernel
theorem dX12_draws_114 : decode cX12_draws 114 = .ok (.iconst 1, 1) := by decide +kernel
theorem dX12_draws_115 : decode cX12_draws 115 = .ok (.goto 4, 3) := by decide +kernel
theorem dX12_draws_118 : decode cX12_draws 118 = .ok (.iconst 0, 1) := by decide +kernel
theorem dX12_draws_119 : decode cX12_draws 119 = .ok (.istore 7, 2) := by decide +kernel
theorem dX12_draws_121 : decode cX12_draws 121 = .ok (.aload_n 0, 1) := by decide +kernel
theorem dX12_draws_122 : decode cX12_draws 122 = .ok (.getfield 22, 3) := by decide +kernel
theorem dX12_draws_125 : decode cX12_draws 125 = .ok (.bipush 32, 2) := by decide +kernel
theorem dX12_draws_127 : decode cX12_draws 127 = .ok (.iload_n 2, 1) := by decide +kernel
theorem dX12_draws_128 : decode cX12_draws 128 = .ok (.imul, 1) := by decide +kernel
theorem dX12_draws_129 : decode cX12_draws 129 = .ok (.iload_n 1, 1) := by decide +kernel
theorem dX12_draws_130 : decode cX12_draws 130 = .ok (.iadd, 1) := by decide +kernel
theorem dX12_draws_131 : decode cX12_draws 131 = .ok (.iload 7, 2) := by decide +kernel
theorem dX12_draws_133 : decode cX12_draws 133 = .ok (.ifCond .eq 19, 3) := by decide +kernel
theorem dX12_draws_136 : decode cX12_draws 136 = .ok (.aload_n 0, 1) := by decide +kernel
theorem dX12_draws_137 : decode cX12_draws 137 = .ok (.getfield 19, 3) := by decide +kernel
theorem dX12_draws_140 : decode cX12_draws 140 = .ok (.bipush 28, 2) := by decide +kernel
theorem dX12_draws_142 : decode cX12_draws 142 = .ok (.iaload, 1) := by decide +kernel
theorem dX12_draws_143 : decode cX12_draws 143 = .ok (.iload 6, 2) := by decide +kernel
theorem dX12_draws_145 : decode cX12_draws 145 = .ok (.iadd, 1) := by decide +kernel
theorem dX12_draws_146 : decode cX12_draws 146 = .ok (.bipush 16, 2) := by decide +kernel
theorem dX12_draws_148 : decode cX12_draws 148 = .ok (.irem, 1) := by decide +kernel
theorem dX12_draws_149 : decode cX12_draws 149 = .ok (.goto 11, 3) := by decide +kernel
theorem dX12_draws_152 : decode cX12_draws 152 = .ok (.aload_n 0, 1) := by decide +kernel
theorem dX12_draws_153 : decode cX12_draws 153 = .ok (.getfield 19, 3) := by decide +kernel
theorem dX12_draws_156 : decode cX12_draws 156 = .ok (.iconst 3, 1) := by decide +kernel
theorem dX12_draws_157 : decode cX12_draws 157 = .ok (.iload_n 3, 1) := by decide +kernel
theorem dX12_draws_158 : decode cX12_draws 158 = .ok (.iadd, 1) := by decide +kernel
theorem dX12_draws_159 : decode cX12_draws 159 = .ok (.iaload, 1) := by decide +kernel
theorem dX12_draws_160 : decode cX12_draws 160 = .ok (.iastore, 1) := by decide +kernel
theorem dX12_draws_161 : decode cX12_draws 161 = .ok (.iload 5, 2) := by decide +kernel
theorem dX12_draws_163 : decode cX12_draws 163 = .ok (.iload 5, 2) := by decide +kernel
theorem dX12_draws_165 : decode cX12_draws 165 = .ok (.iconst 1, 1) := by decide +kernel
theorem dX12_draws_166 : decode cX12_draws 166 = .ok (.isub, 1) := by decide +kernel
theorem dX12_draws_167 : decode cX12_draws 167 = .ok (.iand, 1) := by decide +kernel
theorem dX12_draws_168 : decode cX12_draws 168 = .ok (.ifCond .eq 15, 3) := by decide +kernel
theorem dX12_draws_171 : decode cX12_draws 171 = .ok (.aload_n 0, 1) := by decide +kernel
theorem dX12_draws_172 : decode cX12_draws 172 = .ok (.getfield 50, 3) := by decide +kernel
theorem dX12_draws_175 : decode cX12_draws 175 = .ok (.bipush 10, 2) := by decide +kernel
theorem dX12_draws_177 : decode cX12_draws 177 = .ok (.dup2, 1) := by decide +kernel
theorem dX12_draws_178 : decode cX12_draws 178 = .ok (.iaload, 1) := by decide +kernel
theorem dX12_draws_179 : decode cX12_draws 179 = .ok (.iload 5, 2) := by decide +kernel
theorem dX12_draws_181 : decode cX12_draws 181 = .ok (.ior, 1) := by decide +kernel
theorem dX12_draws_182 : decode cX12_draws 182 = .ok (.iastore, 1) := by decide +kernel
theorem dX12_draws_183 : decode cX12_draws 183 = .ok (.iload 4, 2) := by decide +kernel
theorem dX12_draws_185 : decode cX12_draws 185 = .ok (.ifCond .eq 15, 3) := by decide +kernel
theorem dX12_draws_188 : decode cX12_draws 188 = .ok (.aload_n 0, 1) := by decide +kernel
theorem dX12_draws_189 : decode cX12_draws 189 = .ok (.getfield 50, 3) := by decide +kernel
theorem dX12_draws_192 : decode cX12_draws 192 = .ok (.bipush 11, 2) := by decide +kernel
theorem dX12_draws_194 : decode cX12_draws 194 = .ok (.dup2, 1) := by decide +kernel
theorem dX12_draws_195 : decode cX12_draws 195 = .ok (.iaload, 1) := by decide +kernel
theorem dX12_draws_196 : decode cX12_draws 196 = .ok (.iload 5, 2) := by decide +kernel
theorem dX12_draws_198 : decode cX12_draws 198 = .ok (.ior, 1) := by decide +kernel
theorem dX12_draws_199 : decode cX12_draws 199 = .ok (.iastore, 1) := by decide +kernel
theorem dX12_draws_200 : decode cX12_draws 200 = .ok (.return_, 1) := by decide +kernel
theorem dX12_counts_0 : decode cX12_counts 0 = .ok (.aload_n 0, 1) := by decide +kernel
theorem dX12_counts_1 : decode cX12_counts 1 = .ok (.getfield 50, 3) := by decide +kernel
theorem dX12_counts_4 : decode cX12_counts 4 = .ok (.iconst 5, 1) := by decide +kernel
theorem dX12_counts_5 : decode cX12_counts 5 = .ok (.iload_n 1, 1) := by decide +kernel
theorem dX12_counts_6 : decode cX12_counts 6 = .ok (.iadd, 1) := by decide +kernel
theorem dX12_counts_7 : decode cX12_counts 7 = .ok (.iaload, 1) := by decide +kernel
theorem dX12_counts_8 : decode cX12_counts 8 = .ok (.ifCond .le 17, 3) := by decide +kernel
theorem dX12_counts_11 : decode cX12_counts 11 = .ok (.aload_n 0, 1) := by decide +kernel
theorem dX12_counts_12 : decode cX12_counts 12 = .ok (.getfield 50, 3) := by decide +kernel
theorem dX12_counts_15 : decode cX12_counts 15 = .ok (.iconst 5, 1) := by decide +kernel
theorem dX12_counts_16 : decode cX12_counts 16 = .ok (.iload_n 1, 1) := by decide +kernel
theorem dX12_counts_17 : decode cX12_counts 17 = .ok (.iadd, 1) := by decide +kernel
theorem dX12_counts_18 : decode cX12_counts 18 = .ok (.dup2, 1) := by decide +kernel
theorem dX12_counts_19 : decode cX12_counts 19 = .ok (.iaload, 1) := by decide +kernel
theorem dX12_counts_20 : decode cX12_counts 20 = .ok (.iconst 1, 1) := by decide +kernel
theorem dX12_counts_21 : decode cX12_counts 21 = .ok (.isub, 1) := by decide +kernel
theorem dX12_counts_22 : decode cX12_counts 22 = .ok (.iastore, 1) := by decide +kernel
theorem dX12_counts_23 : decode cX12_counts 23 = .ok (.iconst 0, 1) := by decide +kernel
theorem dX12_counts_24 : decode cX12_counts 24 = .ok (.ireturn, 1) := by decide +kernel
theorem dX12_counts_25 : decode cX12_counts 25 = .ok (.aload_n 0, 1) := by decide +kernel
theorem dX12_counts_26 : decode cX12_counts 26 = .ok (.getfield 50, 3) := by decide +kernel
theorem dX12_counts_29 : decode cX12_counts 29 = .ok (.iconst 5, 1) := by decide +kernel
theorem dX12_counts_30 : decode cX12_counts 30 = .ok (.iload_n 1, 1) := by decide +kernel
theorem dX12_counts_31 : decode cX12_counts 31 = .ok (.iadd, 1) := by decide +kernel
theorem dX12_counts_32 : decode cX12_counts 32 = .ok (.aload_n 0, 1) := by decide +kernel
theorem dX12_counts_33 : decode cX12_counts 33 = .ok (.getfield 50, 3) := by decide +kernel
theorem dX12_counts_36 : decode cX12_counts 36 = .ok (.bipush 7, 2) := by decide +kernel
theorem dX12_counts_38 : decode cX12_counts 38 = .ok (.iload_n 1, 1) := by decide +kernel
theorem dX12_counts_39 : decode cX12_counts 39 = .ok (.iadd, 1) := by decide +kernel
theorem dX12_counts_40 : decode cX12_counts 40 = .ok (.iaload, 1) := by decide +kernel
theorem dX12_counts_41 : decode cX12_counts 41 = .ok (.iastore, 1) := by decide +kernel
theorem dX12_counts_42 : decode cX12_counts 42 = .ok (.aload_n 0, 1) := by decide +kernel
theorem dX12_counts_43 : decode cX12_counts 43 = .ok (.getfield 50, 3) := by decide +kernel
theorem dX12_counts_46 : decode cX12_counts 46 = .ok (.bipush 9, 2) := by decide +kernel
theorem dX12_counts_48 : decode cX12_counts 48 = .ok (.dup2, 1) := by decide +kernel
theorem dX12_counts_49 : decode cX12_counts 49 = .ok (.iaload, 1) := by decide +kernel
theorem dX12_counts_50 : decode cX12_counts 50 = .ok (.iconst 2, 1) := by decide +kernel
theorem dX12_counts_51 : decode cX12_counts 51 = .ok (.iload_n 1, 1) := by decide +kernel
theorem dX12_counts_52 : decode cX12_counts 52 = .ok (.ishl, 1) := by decide +kernel
theorem dX12_counts_53 : decode cX12_counts 53 = .ok (.ior, 1) := by decide +kernel
theorem dX12_counts_54 : decode cX12_counts 54 = .ok (.iastore, 1) := by decide +kernel
theorem dX12_counts_55 : decode cX12_counts 55 = .ok (.iconst 1, 1) := by decide +kernel
theorem dX12_counts_56 : decode cX12_counts 56 = .ok (.ireturn, 1) := by decide +kernel
theorem dX12_times_0 : decode cX12_times 0 = .ok (.aload_n 0, 1) := by decide +kernel
theorem dX12_times_1 : decode cX12_times 1 = .ok (.aload_n 0, 1) := by decide +kernel
theorem dX12_times_2 : decode cX12_times 2 = .ok (.getfield 19, 3) := by decide +kernel
theorem dX12_times_5 : decode cX12_times 5 = .ok (.bipush 16, 2) := by decide +kernel
theorem dX12_times_7 : decode cX12_times 7 = .ok (.iaload, 1) := by decide +kernel
theorem dX12_times_8 : decode cX12_times 8 = .ok (.iconst 0, 1) := by decide +kernel
theorem dX12_times_9 : decode cX12_times 9 = .ok (.invokestatic 131, 3) := by decide +kernel
theorem dX12_times_12 : decode cX12_times 12 = .ok (.ifCond .eq 15, 3) := by decide +kernel
theorem dX12_times_15 : decode cX12_times 15 = .ok (.aload_n 0, 1) := by decide +kernel
theorem dX12_times_16 : decode cX12_times 16 = .ok (.iconst 0, 1) := by decide +kernel
theorem dX12_times_17 : decode cX12_times 17 = .ok (.invokevirtual 195, 3) := by decide +kernel
theorem dX12_times_20 : decode cX12_times 20 = .ok (.ifCond .eq 7, 3) := by decide +kernel
theorem dX12_times_23 : decode cX12_times 23 = .ok (.iconst 1, 1) := by decide +kernel
theorem dX12_times_24 : decode cX12_times 24 = .ok (.goto 4, 3) := by decide +kernel
theorem dX12_times_27 : decode cX12_times 27 = .ok (.iconst 0, 1) := by decide +kernel
theorem dX12_times_28 : decode cX12_times 28 = .ok (.putfield 198, 3) := by decide +kernel
theorem dX12_times_31 : decode cX12_times 31 = .ok (.aload_n 0, 1) := by decide +kernel
theorem dX12_times_32 : decode cX12_times 32 = .ok (.getfield 19, 3) := by decide +kernel
theorem dX12_times_35 : decode cX12_times 35 = .ok (.bipush 16, 2) := by decide +kernel
theorem dX12_times_37 : decode cX12_times 37 = .ok (.iaload, 1) := by decide +kernel
theorem dX12_times_38 : decode cX12_times 38 = .ok (.iconst 1, 1) := by decide +kernel
theorem dX12_times_39 : decode cX12_times 39 = .ok (.invokestatic 131, 3) := by decide +kernel
theorem dX12_times_42 : decode cX12_times 42 = .ok (.ifCond .eq 30, 3) := by decide +kernel
theorem dX12_times_45 : decode cX12_times 45 = .ok (.aload_n 0, 1) := by decide +kernel
theorem dX12_times_46 : decode cX12_times 46 = .ok (.getfield 198, 3) := by decide +kernel
theorem dX12_times_49 : decode cX12_times 49 = .ok (.ifCond .ne 17, 3) := by decide +kernel
theorem dX12_times_52 : decode cX12_times 52 = .ok (.aload_n 0, 1) := by decide +kernel
theorem dX12_times_53 : decode cX12_times 53 = .ok (.getfield 19, 3) := by decide +kernel
theorem dX12_times_56 : decode cX12_times 56 = .ok (.bipush 16, 2) := by decide +kernel
theorem dX12_times_58 : decode cX12_times 58 = .ok (.iaload, 1) := by decide +kernel
theorem dX12_times_59 : decode cX12_times 59 = .ok (.iconst 2, 1) := by decide +kernel
theorem dX12_times_60 : decode cX12_times 60 = .ok (.invokestatic 131, 3) := by decide +kernel
theorem dX12_times_63 : decode cX12_times 63 = .ok (.ifCond .ne 9, 3) := by decide +kernel
theorem dX12_times_66 : decode cX12_times 66 = .ok (.aload_n 0, 1) := by decide +kernel
theorem dX12_times_67 : decode cX12_times 67 = .ok (.iconst 1, 1) := by decide +kernel
theorem dX12_times_68 : decode cX12_times 68 = .ok (.invokevirtual 195, 3) := by decide +kernel
theorem dX12_times_71 : decode cX12_times 71 = .ok (.pop, 1) := by decide +kernel
theorem dX12_times_72 : decode cX12_times 72 = .ok (.return_, 1) := by decide +kernel
theorem dX12_winds_0 : decode cX12_winds 0 = .ok (.aload_n 0, 1) := by decide +kernel
theorem dX12_winds_1 : decode cX12_winds 1 = .ok (.getfield 19, 3) := by decide +kernel
theorem dX12_winds_4 : decode cX12_winds 4 = .ok (.bipush 44, 2) := by decide +kernel
theorem dX12_winds_6 : decode cX12_winds 6 = .ok (.iaload, 1) := by decide +kernel
theorem dX12_winds_7 : decode cX12_winds 7 = .ok (.ifCond .eq 10, 3) := by decide +kernel
theorem dX12_winds_10 : decode cX12_winds 10 = .ok (.aload_n 0, 1) := by decide +kernel
theorem dX12_winds_11 : decode cX12_winds 11 = .ok (.invokevirtual 143, 3) := by decide +kernel
theorem dX12_winds_14 : decode cX12_winds 14 = .ok (.ifCond .ne 4, 3) := by decide +kernel
theorem dX12_winds_17 : decode cX12_winds 17 = .ok (.return_, 1) := by decide +kernel
theorem dX12_winds_18 : decode cX12_winds 18 = .ok (.aload_n 0, 1) := by decide +kernel
theorem dX12_winds_19 : decode cX12_winds 19 = .ok (.getfield 50, 3) := by decide +kernel
theorem dX12_winds_22 : decode cX12_winds 22 = .ok (.bipush 15, 2) := by decide +kernel
theorem dX12_winds_24 : decode cX12_winds 24 = .ok (.dup2, 1) := by decide +kernel
theorem dX12_winds_25 : decode cX12_winds 25 = .ok (.iaload, 1) := by decide +kernel
theorem dX12_winds_26 : decode cX12_winds 26 = .ok (.iconst 1, 1) := by decide +kernel
theorem dX12_winds_27 : decode cX12_winds 27 = .ok (.isub, 1) := by decide +kernel
theorem dX12_winds_28 : decode cX12_winds 28 = .ok (.iastore, 1) := by decide +kernel
theorem dX12_winds_29 : decode cX12_winds 29 = .ok (.aload_n 0, 1) := by decide +kernel
theorem dX12_winds_30 : decode cX12_winds 30 = .ok (.getfield 50, 3) := by decide +kernel
theorem dX12_winds_33 : decode cX12_winds 33 = .ok (.bipush 15, 2) := by decide +kernel
theorem dX12_winds_35 : decode cX12_winds 35 = .ok (.iaload, 1) := by decide +kernel
theorem dX12_winds_36 : decode cX12_winds 36 = .ok (.ifCond .le 4, 3) := by decide +kernel
theorem dX12_winds_39 : decode cX12_winds 39 = .ok (.return_, 1) := by decide +kernel
theorem dX12_winds_40 : decode cX12_winds 40 = .ok (.aload_n 0, 1) := by decide +kernel
theorem dX12_winds_41 : decode cX12_winds 41 = .ok (.getfield 50, 3) := by decide +kernel
theorem dX12_winds_44 : decode cX12_winds 44 = .ok (.bipush 14, 2) := by decide +kernel
theorem dX12_winds_46 : decode cX12_winds 46 = .ok (.dup2, 1) := by decide +kernel
theorem dX12_winds_47 : decode cX12_winds 47 = .ok (.iaload, 1) := by decide +kernel
theorem dX12_winds_48 : decode cX12_winds 48 = .ok (.iconst 1, 1) := by decide +kernel
theorem dX12_winds_49 : decode cX12_winds 49 = .ok (.iadd, 1) := by decide +kernel
theorem dX12_winds_50 : decode cX12_winds 50 = .ok (.iastore, 1) := by decide +kernel
theorem dX12_winds_51 : decode cX12_winds 51 = .ok (.aload_n 0, 1) := by decide +kernel
theorem dX12_winds_52 : decode cX12_winds 52 = .ok (.getfield 50, 3) := by decide +kernel
theorem dX12_winds_55 : decode cX12_winds 55 = .ok (.bipush 16, 2) := by decide +kernel
theorem dX12_winds_57 : decode cX12_winds 57 = .ok (.iconst 1, 1) := by decide +kernel
theorem dX12_winds_58 : decode cX12_winds 58 = .ok (.aload_n 0, 1) := by decide +kernel
theorem dX12_winds_59 : decode cX12_winds 59 = .ok (.getfield 50, 3) := by decide +kernel
theorem dX12_winds_62 : decode cX12_winds 62 = .ok (.bipush 16, 2) := by decide +kernel
theorem dX12_winds_64 : decode cX12_winds 64 = .ok (.iaload, 1) := by decide +kernel
theorem dX12_winds_65 : decode cX12_winds 65 = .ok (.isub, 1) := by decide +kernel
theorem dX12_winds_66 : decode cX12_winds 66 = .ok (.iastore, 1) := by decide +kernel
theorem dX12_winds_67 : decode cX12_winds 67 = .ok (.aload_n 0, 1) := by decide +kernel
theorem dX12_winds_68 : decode cX12_winds 68 = .ok (.getfield 50, 3) := by decide +kernel
theorem dX12_winds_71 : decode cX12_winds 71 = .ok (.bipush 9, 2) := by decide +kernel
theorem dX12_winds_73 : decode cX12_winds 73 = .ok (.dup2, 1) := by decide +kernel
theorem dX12_winds_74 : decode cX12_winds 74 = .ok (.iaload, 1) := by decide +kernel
theorem dX12_winds_75 : decode cX12_winds 75 = .ok (.bipush 8, 2) := by decide +kernel
theorem dX12_winds_77 : decode cX12_winds 77 = .ok (.ior, 1) := by decide +kernel
theorem dX12_winds_78 : decode cX12_winds 78 = .ok (.iastore, 1) := by decide +kernel
theorem dX12_winds_79 : decode cX12_winds 79 = .ok (.aload_n 0, 1) := by decide +kernel
theorem dX12_winds_80 : decode cX12_winds 80 = .ok (.getfield 50, 3) := by decide +kernel
theorem dX12_winds_83 : decode cX12_winds 83 = .ok (.bipush 15, 2) := by decide +kernel
theorem dX12_winds_85 : decode cX12_winds 85 = .ok (.aload_n 0, 1) := by decide +kernel
theorem dX12_winds_86 : decode cX12_winds 86 = .ok (.invokevirtual 143, 3) := by decide +kernel
theorem dX12_winds_89 : decode cX12_winds 89 = .ok (.ifCond .eq 18, 3) := by decide +kernel
theorem dX12_winds_92 : decode cX12_winds 92 = .ok (.aload_n 0, 1) := by decide +kernel
theorem dX12_winds_93 : decode cX12_winds 93 = .ok (.getfield 32, 3) := by decide +kernel
theorem dX12_winds_96 : decode cX12_winds 96 = .ok (.aload_n 0, 1) := by decide +kernel
theorem dX12_winds_97 : decode cX12_winds 97 = .ok (.getfield 50, 3) := by decide +kernel
theorem dX12_winds_100 : decode cX12_winds 100 = .ok (.bipush 14, 2) := by decide +kernel
theorem dX12_winds_102 : decode cX12_winds 102 = .ok (.iaload, 1) := by decide +kernel
theorem dX12_winds_103 : decode cX12_winds 103 = .ok (.iaload, 1) := by decide +kernel
theorem dX12_winds_104 : decode cX12_winds 104 = .ok (.goto 4, 3) := by decide +kernel
theorem dX12_winds_107 : decode cX12_winds 107 = .ok (.iconst 0, 1) := by decide +kernel
theorem dX12_winds_108 : decode cX12_winds 108 = .ok (.iastore, 1) := by decide +kernel
theorem dX12_winds_109 : decode cX12_winds 109 = .ok (.return_, 1) := by decide +kernel
theorem dX12_sounds_0 : decode cX12_sounds 0 = .ok (.bipush 32, 2) := by decide +kernel
theorem dX12_sounds_2 : decode cX12_sounds 2 = .ok (.iconst 4, 1) := by decide +kernel
theorem dX12_sounds_3 : decode cX12_sounds 3 = .ok (.iload_n 1, 1) := by decide +kernel
theorem dX12_sounds_4 : decode cX12_sounds 4 = .ok (.imul, 1) := by decide +kernel
theorem dX12_sounds_5 : decode cX12_sounds 5 = .ok (.iadd, 1) := by decide +kernel
theorem dX12_sounds_6 : decode cX12_sounds 6 = .ok (.istore_n 2, 1) := by decide +kernel
theorem dX12_sounds_7 : decode cX12_sounds 7 = .ok (.aload_n 0, 1) := by decide +kernel
theorem dX12_sounds_8 : decode cX12_sounds 8 = .ok (.getfield 38, 3) := by decide +kernel
theorem dX12_sounds_11 : decode cX12_sounds 11 = .ok (.iload_n 1, 1) := by decide +kernel
theorem dX12_sounds_12 : decode cX12_sounds 12 = .ok (.iaload, 1) := by decide +kernel
theorem dX12_sounds_13 : decode cX12_sounds 13 = .ok (.aload_n 0, 1) := by decide +kernel
theorem dX12_sounds_14 : decode cX12_sounds 14 = .ok (.getfield 19, 3) := by decide +kernel
theorem dX12_sounds_17 : decode cX12_sounds 17 = .ok (.iload_n 2, 1) := by decide +kernel
theorem dX12_sounds_18 : decode cX12_sounds 18 = .ok (.iaload, 1) := by decide +kernel
theorem dX12_sounds_19 : decode cX12_sounds 19 = .ok (.iadd, 1) := by decide +kernel
theorem dX12_sounds_20 : decode cX12_sounds 20 = .ok (.sipush 256, 3) := by decide +kernel
theorem dX12_sounds_23 : decode cX12_sounds 23 = .ok (.aload_n 0, 1) := by decide +kernel
theorem dX12_sounds_24 : decode cX12_sounds 24 = .ok (.getfield 19, 3) := by decide +kernel
theorem dX12_sounds_27 : decode cX12_sounds 27 = .ok (.iload_n 2, 1) := by decide +kernel
theorem dX12_sounds_28 : decode cX12_sounds 28 = .ok (.iconst 1, 1) := by decide +kernel
theorem dX12_sounds_29 : decode cX12_sounds 29 = .ok (.iadd, 1) := by decide +kernel
theorem dX12_sounds_30 : decode cX12_sounds 30 = .ok (.iaload, 1) := by decide +kernel
theorem dX12_sounds_31 : decode cX12_sounds 31 = .ok (.imul, 1) := by decide +kernel
theorem dX12_sounds_32 : decode cX12_sounds 32 = .ok (.iadd, 1) := by decide +kernel
theorem dX12_sounds_33 : decode cX12_sounds 33 = .ok (.istore_n 3, 1) := by decide +kernel
theorem dX12_sounds_34 : decode cX12_sounds 34 = .ok (.aload_n 0, 1) := by decide +kernel
theorem dX12_sounds_35 : decode cX12_sounds 35 = .ok (.getfield 38, 3) := by decide +kernel
theorem dX12_sounds_38 : decode cX12_sounds 38 = .ok (.iload_n 1, 1) := by decide +kernel
theorem dX12_sounds_39 : decode cX12_sounds 39 = .ok (.iload_n 3, 1) := by decide +kernel
theorem dX12_sounds_40 : decode cX12_sounds 40 = .ok (.ldc 202, 2) := by decide +kernel
theorem dX12_sounds_42 : decode cX12_sounds 42 = .ok (.irem, 1) := by decide +kernel
theorem dX12_sounds_43 : decode cX12_sounds 43 = .ok (.iastore, 1) := by decide +kernel
theorem dX12_sounds_44 : decode cX12_sounds 44 = .ok (.iload_n 3, 1) := by decide +kernel
theorem dX12_sounds_45 : decode cX12_sounds 45 = .ok (.ldc 203, 2) := by decide +kernel
theorem dX12_sounds_47 : decode cX12_sounds 47 = .ok (.if_icmp .le 46, 3) := by decide +kernel
theorem dX12_sounds_50 : decode cX12_sounds 50 = .ok (.aload_n 0, 1) := by decide +kernel
theorem dX12_sounds_51 : decode cX12_sounds 51 = .ok (.getfield 47, 3) := by decide +kernel
theorem dX12_sounds_54 : decode cX12_sounds 54 = .ok (.iload_n 1, 1) := by decide +kernel
theorem dX12_sounds_55 : decode cX12_sounds 55 = .ok (.aload_n 0, 1) := by decide +kernel
theorem dX12_sounds_56 : decode cX12_sounds 56 = .ok (.getfield 47, 3) := by decide +kernel
theorem dX12_sounds_59 : decode cX12_sounds 59 = .ok (.iload_n 1, 1) := by decide +kernel
theorem dX12_sounds_60 : decode cX12_sounds 60 = .ok (.iaload, 1) := by decide +kernel
theorem dX12_sounds_61 : decode cX12_sounds 61 = .ok (.iconst 2, 1) := by decide +kernel
theorem dX12_sounds_62 : decode cX12_sounds 62 = .ok (.idiv, 1) := by decide +kernel
theorem dX12_sounds_63 : decode cX12_sounds 63 = .ok (.aload_n 0, 1) := by decide +kernel
theorem dX12_sounds_64 : decode cX12_sounds 64 = .ok (.getfield 47, 3) := by decide +kernel
theorem dX12_sounds_67 : decode cX12_sounds 67 = .ok (.iload_n 1, 1) := by decide +kernel
theorem dX12_sounds_68 : decode cX12_sounds 68 = .ok (.iaload, 1) := by decide +kernel
theorem dX12_sounds_69 : decode cX12_sounds 69 = .ok (.iconst 2, 1) := by decide +kernel
theorem dX12_sounds_70 : decode cX12_sounds 70 = .ok (.irem, 1) := by decide +kernel
theorem dX12_sounds_71 : decode cX12_sounds 71 = .ok (.aload_n 0, 1) := by decide +kernel
theorem dX12_sounds_72 : decode cX12_sounds 72 = .ok (.getfield 47, 3) := by decide +kernel
theorem dX12_sounds_75 : decode cX12_sounds 75 = .ok (.iload_n 1, 1) := by decide +kernel
theorem dX12_sounds_76 : decode cX12_sounds 76 = .ok (.iaload, 1) := by decide +kernel
theorem dX12_sounds_77 : decode cX12_sounds 77 = .ok (.iconst 2, 1) := by decide +kernel
theorem dX12_sounds_78 : decode cX12_sounds 78 = .ok (.idiv, 1) := by decide +kernel
theorem dX12_sounds_79 : decode cX12_sounds 79 = .ok (.iconst 2, 1) := by decide +kernel
theorem dX12_sounds_80 : decode cX12_sounds 80 = .ok (.irem, 1) := by decide +kernel
theorem dX12_sounds_81 : decode cX12_sounds 81 = .ok (.if_icmp .ne 7, 3) := by decide +kernel
theorem dX12_sounds_84 : decode cX12_sounds 84 = .ok (.iconst 0, 1) := by decide +kernel
theorem dX12_sounds_85 : decode cX12_sounds 85 = .ok (.goto 6, 3) := by decide +kernel
theorem dX12_sounds_88 : decode cX12_sounds 88 = .ok (.sipush 16384, 3) := by decide +kernel
theorem dX12_sounds_91 : decode cX12_sounds 91 = .ok (.iadd, 1) := by decide +kernel
theorem dX12_sounds_92 : decode cX12_sounds 92 = .ok (.iastore, 1) := by decide +kernel
theorem dX12_sounds_93 : decode cX12_sounds 93 = .ok (.aload_n 0, 1) := by decide +kernel
theorem dX12_sounds_94 : decode cX12_sounds 94 = .ok (.getfield 19, 3) := by decide +kernel
theorem dX12_sounds_97 : decode cX12_sounds 97 = .ok (.iload_n 2, 1) := by decide +kernel
theorem dX12_sounds_98 : decode cX12_sounds 98 = .ok (.iconst 2, 1) := by decide +kernel
theorem dX12_sounds_99 : decode cX12_sounds 99 = .ok (.iadd, 1) := by decide +kernel
theorem dX12_sounds_100 : decode cX12_sounds 100 = .ok (.iaload, 1) := by decide +kernel
theorem dX12_sounds_101 : decode cX12_sounds 101 = .ok (.iconst 0, 1) := by decide +kernel
theorem dX12_sounds_102 : decode cX12_sounds 102 = .ok (.invokestatic 131, 3) := by decide +kernel
theorem dX12_sounds_105 : decode cX12_sounds 105 = .ok (.istore 4, 2) := by decide +kernel
theorem dX12_sounds_107 : decode cX12_sounds 107 = .ok (.aload_n 0, 1) := by decide +kernel
theorem dX12_sounds_108 : decode cX12_sounds 108 = .ok (.getfield 44, 3) := by decide +kernel
theorem dX12_sounds_111 : decode cX12_sounds 111 = .ok (.iload_n 1, 1) := by decide +kernel
theorem dX12_sounds_112 : decode cX12_sounds 112 = .ok (.dup2, 1) := by decide +kernel
theorem dX12_sounds_113 : decode cX12_sounds 113 = .ok (.iaload, 1) := by decide +kernel
theorem dX12_sounds_114 : decode cX12_sounds 114 = .ok (.iconst 1, 1) := by decide +kernel
theorem dX12_sounds_115 : decode cX12_sounds 115 = .ok (.iadd, 1) := by decide +kernel
theorem dX12_sounds_116 : decode cX12_sounds 116 = .ok (.iastore, 1) := by decide +kernel
theorem dX12_sounds_117 : decode cX12_sounds 117 = .ok (.aload_n 0, 1) := by decide +kernel
theorem dX12_sounds_118 : decode cX12_sounds 118 = .ok (.getfield 44, 3) := by decide +kernel
theorem dX12_sounds_121 : decode cX12_sounds 121 = .ok (.iload_n 1, 1) := by decide +kernel
theorem dX12_sounds_122 : decode cX12_sounds 122 = .ok (.iaload, 1) := by decide +kernel
theorem dX12_sounds_123 : decode cX12_sounds 123 = .ok (.iload 4, 2) := by decide +kernel
theorem dX12_sounds_125 : decode cX12_sounds 125 = .ok (.ifCond .eq 17, 3) := by decide +kernel
theorem dX12_sounds_128 : decode cX12_sounds 128 = .ok (.aload_n 0, 1) := by decide +kernel
theorem dX12_sounds_129 : decode cX12_sounds 129 = .ok (.getfield 19, 3) := by decide +kernel
theorem dX12_sounds_132 : decode cX12_sounds 132 = .ok (.iload_n 2, 1) := by decide +kernel
theorem dX12_sounds_133 : decode cX12_sounds 133 = .ok (.iconst 3, 1) := by decide +kernel
theorem dX12_sounds_134 : decode cX12_sounds 134 = .ok (.iadd, 1) := by decide +kernel
theorem dX12_sounds_135 : decode cX12_sounds 135 = .ok (.iaload, 1) := by decide +kernel
theorem dX12_sounds_136 : decode cX12_sounds 136 = .ok (.bipush 16, 2) := by decide +kernel
theorem dX12_sounds_138 : decode cX12_sounds 138 = .ok (.irem, 1) := by decide +kernel
theorem dX12_sounds_139 : decode cX12_sounds 139 = .ok (.goto 14, 3) := by decide +kernel
theorem dX12_sounds_142 : decode cX12_sounds 142 = .ok (.aload_n 0, 1) := by decide +kernel
theorem dX12_sounds_143 : decode cX12_sounds 143 = .ok (.getfield 19, 3) := by decide +kernel
theorem dX12_sounds_146 : decode cX12_sounds 146 = .ok (.iload_n 2, 1) := by decide +kernel
theorem dX12_sounds_147 : decode cX12_sounds 147 = .ok (.iconst 3, 1) := by decide +kernel
theorem dX12_sounds_148 : decode cX12_sounds 148 = .ok (.iadd, 1) := by decide +kernel
theorem dX12_sounds_149 : decode cX12_sounds 149 = .ok (.iaload, 1) := by decide +kernel
theorem dX12_sounds_150 : decode cX12_sounds 150 = .ok (.bipush 16, 2) := by decide +kernel
theorem dX12_sounds_152 : decode cX12_sounds 152 = .ok (.idiv, 1) := by decide +kernel
theorem dX12_sounds_153 : decode cX12_sounds 153 = .ok (.if_icmp .gt 4, 3) := by decide +kernel
theorem dX12_sounds_156 : decode cX12_sounds 156 = .ok (.return_, 1) := by decide +kernel
theorem dX12_sounds_157 : decode cX12_sounds 157 = .ok (.aload_n 0, 1) := by decide +kernel
theorem dX12_sounds_158 : decode cX12_sounds 158 = .ok (.getfield 44, 3) := by decide +kernel
theorem dX12_sounds_161 : decode cX12_sounds 161 = .ok (.iload_n 1, 1) := by decide +kernel
theorem dX12_sounds_162 : decode cX12_sounds 162 = .ok (.iconst 0, 1) := by decide +kernel
theorem dX12_sounds_163 : decode cX12_sounds 163 = .ok (.iastore, 1) := by decide +kernel
theorem dX12_sounds_164 : decode cX12_sounds 164 = .ok (.aload_n 0, 1) := by decide +kernel
theorem dX12_sounds_165 : decode cX12_sounds 165 = .ok (.getfield 41, 3) := by decide +kernel
theorem dX12_sounds_168 : decode cX12_sounds 168 = .ok (.iload_n 1, 1) := by decide +kernel
theorem dX12_sounds_169 : decode cX12_sounds 169 = .ok (.iload 4, 2) := by decide +kernel
theorem dX12_sounds_171 : decode cX12_sounds 171 = .ok (.ifCond .eq 19, 3) := by decide +kernel
theorem dX12_sounds_174 : decode cX12_sounds 174 = .ok (.bipush 15, 2) := by decide +kernel
theorem dX12_sounds_176 : decode cX12_sounds 176 = .ok (.aload_n 0, 1) := by decide +kernel
theorem dX12_sounds_177 : decode cX12_sounds 177 = .ok (.getfield 41, 3) := by decide +kernel
theorem dX12_sounds_180 : decode cX12_sounds 180 = .ok (.iload_n 1, 1) := by decide +kernel
theorem dX12_sounds_181 : decode cX12_sounds 181 = .ok (.iaload, 1) := by decide +kernel
theorem dX12_sounds_182 : decode cX12_sounds 182 = .ok (.iconst 1, 1) := by decide +kernel
theorem dX12_sounds_183 : decode cX12_sounds 183 = .ok (.iadd, 1) := by decide +kernel
theorem dX12_sounds_184 : decode cX12_sounds 184 = .ok (.invokestatic 204, 3) := by decide +kernel
theorem dX12_sounds_187 : decode cX12_sounds 187 = .ok (.goto 15, 3) := by decide +kernel
theorem dX12_sounds_190 : decode cX12_sounds 190 = .ok (.iconst 0, 1) := by decide +kernel
theorem dX12_sounds_191 : decode cX12_sounds 191 = .ok (.aload_n 0, 1) := by decide +kernel
theorem dX12_sounds_192 : decode cX12_sounds 192 = .ok (.getfield 41, 3) := by decide +kernel
theorem dX12_sounds_195 : decode cX12_sounds 195 = .ok (.iload_n 1, 1) := by decide +kernel
theorem dX12_sounds_196 : decode cX12_sounds 196 = .ok (.iaload, 1) := by decide +kernel
theorem dX12_sounds_197 : decode cX12_sounds 197 = .ok (.iconst 1, 1) := by decide +kernel
theorem dX12_sounds_198 : decode cX12_sounds 198 = .ok (.isub, 1) := by decide +kernel
theorem dX12_sounds_199 : decode cX12_sounds 199 = .ok (.invokestatic 209, 3) := by decide +kernel
theorem dX12_sounds_202 : decode cX12_sounds 202 = .ok (.iastore, 1) := by decide +kernel
theorem dX12_sounds_203 : decode cX12_sounds 203 = .ok (.return_, 1) := by decide +kernel
theorem dX12_gives_0 : decode cX12_gives 0 = .ok (.aload_n 0, 1) := by decide +kernel
theorem dX12_gives_1 : decode cX12_gives 1 = .ok (.getfield 19, 3) := by decide +kernel
theorem dX12_gives_4 : decode cX12_gives 4 = .ok (.bipush 34, 2) := by decide +kernel
theorem dX12_gives_6 : decode cX12_gives 6 = .ok (.iconst 4, 1) := by decide +kernel
theorem dX12_gives_7 : decode cX12_gives 7 = .ok (.iload_n 1, 1) := by decide +kernel
theorem dX12_gives_8 : decode cX12_gives 8 = .ok (.imul, 1) := by decide +kernel
theorem dX12_gives_9 : decode cX12_gives 9 = .ok (.iadd, 1) := by decide +kernel
theorem dX12_gives_10 : decode cX12_gives 10 = .ok (.iaload, 1) := by decide +kernel
theorem dX12_gives_11 : decode cX12_gives 11 = .ok (.iconst 2, 1) := by decide +kernel
theorem dX12_gives_12 : decode cX12_gives 12 = .ok (.idiv, 1) := by decide +kernel
theorem dX12_gives_13 : decode cX12_gives 13 = .ok (.iconst 4, 1) := by decide +kernel
theorem dX12_gives_14 : decode cX12_gives 14 = .ok (.irem, 1) := by decide +kernel
theorem dX12_gives_15 : decode cX12_gives 15 = .ok (.istore_n 2, 1) := by decide +kernel
theorem dX12_gives_16 : decode cX12_gives 16 = .ok (.iload_n 2, 1) := by decide +kernel
theorem dX12_gives_17 : decode cX12_gives 17 = .ok (.ifCond .ne 16, 3) := by decide +kernel
theorem dX12_gives_20 : decode cX12_gives 20 = .ok (.aload_n 0, 1) := by decide +kernel
theorem dX12_gives_21 : decode cX12_gives 21 = .ok (.getfield 38, 3) := by decide +kernel
theorem dX12_gives_24 : decode cX12_gives 24 = .ok (.iload_n 1, 1) := by decide +kernel
theorem dX12_gives_25 : decode cX12_gives 25 = .ok (.iaload, 1) := by decide +kernel
theorem dX12_gives_26 : decode cX12_gives 26 = .ok (.sipush 4096, 3) := by decide +kernel
theorem dX12_gives_29 : decode cX12_gives 29 = .ok (.idiv, 1) := by decide +kernel
theorem dX12_gives_30 : decode cX12_gives 30 = .ok (.goto 46, 3) := by decide +kernel
theorem dX12_gives_33 : decode cX12_gives 33 = .ok (.iload_n 2, 1) := by decide +kernel
theorem dX12_gives_34 : decode cX12_gives 34 = .ok (.iconst 1, 1) := by decide +kernel
theorem dX12_gives_35 : decode cX12_gives 35 = .ok (.if_icmp .ne 23, 3) := by decide +kernel
theorem dX12_gives_38 : decode cX12_gives 38 = .ok (.aload_n 0, 1) := by decide +kernel
theorem dX12_gives_39 : decode cX12_gives 39 = .ok (.getfield 38, 3) := by decide +kernel
theorem dX12_gives_42 : decode cX12_gives 42 = .ok (.iload_n 1, 1) := by decide +kernel
theorem dX12_gives_43 : decode cX12_gives 43 = .ok (.iaload, 1) := by decide +kernel
theorem dX12_gives_44 : decode cX12_gives 44 = .ok (.ldc 212, 2) := by decide +kernel
theorem dX12_gives_46 : decode cX12_gives 46 = .ok (.if_icmp .lt 8, 3) := by decide +kernel
theorem dX12_gives_49 : decode cX12_gives 49 = .ok (.bipush 15, 2) := by decide +kernel
theorem dX12_gives_51 : decode cX12_gives 51 = .ok (.goto 25, 3) := by decide +kernel
theorem dX12_gives_54 : decode cX12_gives 54 = .ok (.iconst 0, 1) := by decide +kernel
theorem dX12_gives_55 : decode cX12_gives 55 = .ok (.goto 21, 3) := by decide +kernel
theorem dX12_gives_58 : decode cX12_gives 58 = .ok (.iload_n 2, 1) := by decide +kernel
theorem dX12_gives_59 : decode cX12_gives 59 = .ok (.iconst 2, 1) := by decide +kernel
theorem dX12_gives_60 : decode cX12_gives 60 = .ok (.if_icmp .ne 15, 3) := by decide +kernel
theorem dX12_gives_63 : decode cX12_gives 63 = .ok (.aload_n 0, 1) := by decide +kernel
theorem dX12_gives_64 : decode cX12_gives 64 = .ok (.getfield 47, 3) := by decide +kernel
theorem dX12_gives_67 : decode cX12_gives 67 = .ok (.iload_n 1, 1) := by decide +kernel
theorem dX12_gives_68 : decode cX12_gives 68 = .ok (.iaload, 1) := by decide +kernel
theorem dX12_gives_69 : decode cX12_gives 69 = .ok (.bipush 16, 2) := by decide +kernel
theorem dX12_gives_71 : decode cX12_gives 71 = .ok (.irem, 1) := by decide +kernel
theorem dX12_gives_72 : decode cX12_gives 72 = .ok (.goto 4, 3) := by decide +kernel
theorem dX12_gives_75 : decode cX12_gives 75 = .ok (.iconst 0, 1) := by decide +kernel
theorem dX12_gives_76 : decode cX12_gives 76 = .ok (.istore_n 3, 1) := by decide +kernel
theorem dX12_gives_77 : decode cX12_gives 77 = .ok (.aload_n 0, 1) := by decide +kernel
theorem dX12_gives_78 : decode cX12_gives 78 = .ok (.getfield 19, 3) := by decide +kernel
theorem dX12_gives_81 : decode cX12_gives 81 = .ok (.bipush 34, 2) := by decide +kernel
theorem dX12_gives_83 : decode cX12_gives 83 = .ok (.iconst 4, 1) := by decide +kernel
theorem dX12_gives_84 : decode cX12_gives 84 = .ok (.iload_n 1, 1) := by decide +kernel
theorem dX12_gives_85 : decode cX12_gives 85 = .ok (.imul, 1) := by decide +kernel
theorem dX12_gives_86 : decode cX12_gives 86 = .ok (.iadd, 1) := by decide +kernel
theorem dX12_gives_87 : decode cX12_gives 87 = .ok (.iaload, 1) := by decide +kernel
theorem dX12_gives_88 : decode cX12_gives 88 = .ok (.iconst 3, 1) := by decide +kernel
theorem dX12_gives_89 : decode cX12_gives 89 = .ok (.invokestatic 131, 3) := by decide +kernel
theorem dX12_gives_92 : decode cX12_gives 92 = .ok (.ifCond .eq 25, 3) := by decide +kernel
theorem dX12_gives_95 : decode cX12_gives 95 = .ok (.aload_n 0, 1) := by decide +kernel
theorem dX12_gives_96 : decode cX12_gives 96 = .ok (.getfield 38, 3) := by decide +kernel
theorem dX12_gives_99 : decode cX12_gives 99 = .ok (.iload_n 1, 1) := by decide +kernel
theorem dX12_gives_100 : decode cX12_gives 100 = .ok (.iconst 2, 1) := by decide +kernel
theorem dX12_gives_101 : decode cX12_gives 101 = .ok (.iadd, 1) := by decide +kernel
theorem dX12_gives_102 : decode cX12_gives 102 = .ok (.iconst 3, 1) := by decide +kernel
theorem dX12_gives_103 : decode cX12_gives 103 = .ok (.irem, 1) := by decide +kernel
theorem dX12_gives_104 : decode cX12_gives 104 = .ok (.iaload, 1) := by decide +kernel
theorem dX12_gives_105 : decode cX12_gives 105 = .ok (.ldc 212, 2) := by decide +kernel
theorem dX12_gives_107 : decode cX12_gives 107 = .ok (.if_icmp .lt 10, 3) := by decide +kernel
theorem dX12_gives_110 : decode cX12_gives 110 = .ok (.bipush 15, 2) := by decide +kernel
theorem dX12_gives_112 : decode cX12_gives 112 = .ok (.iload_n 3, 1) := by decide +kernel
theorem dX12_gives_113 : decode cX12_gives 113 = .ok (.isub, 1) := by decide +kernel
theorem dX12_gives_114 : decode cX12_gives 114 = .ok (.goto 4, 3) := by decide +kernel
theorem dX12_gives_117 : decode cX12_gives 117 = .ok (.iload_n 3, 1) := by decide +kernel
theorem dX12_gives_118 : decode cX12_gives 118 = .ok (.ireturn, 1) := by decide +kernel
theorem dX12_makesSample_0 : decode cX12_makesSample 0 = .ok (.iconst 0, 1) := by decide +kernel
theorem dX12_makesSample_1 : decode cX12_makesSample 1 = .ok (.istore_n 1, 1) := by decide +kernel
theorem dX12_makesSample_2 : decode cX12_makesSample 2 = .ok (.iload_n 1, 1) := by decide +kernel
theorem dX12_makesSample_3 : decode cX12_makesSample 3 = .ok (.iconst 3, 1) := by decide +kernel
theorem dX12_makesSample_4 : decode cX12_makesSample 4 = .ok (.if_icmp .ge 14, 3) := by decide +kernel
theorem dX12_makesSample_7 : decode cX12_makesSample 7 = .ok (.aload_n 0, 1) := by decide +kernel
theorem dX12_makesSample_8 : decode cX12_makesSample 8 = .ok (.iload_n 1, 1) := by decide +kernel
theorem dX12_makesSample_9 : decode cX12_makesSample 9 = .ok (.invokevirtual 213, 3) := by decide +kernel
theorem dX12_makesSample_12 : decode cX12_makesSample 12 = .ok (.iinc 1 1, 3) := by decide +kernel
theorem dX12_makesSample_15 : decode cX12_makesSample 15 = .ok (.goto (-13), 3) := by decide +kernel
theorem dX12_makesSample_18 : decode cX12_makesSample 18 = .ok (.iconst 0, 1) := by decide +kernel
theorem dX12_makesSample_19 : decode cX12_makesSample 19 = .ok (.istore_n 1, 1) := by decide +kernel
theorem dX12_makesSample_20 : decode cX12_makesSample 20 = .ok (.iconst 0, 1) := by decide +kernel
theorem dX12_makesSample_21 : decode cX12_makesSample 21 = .ok (.istore_n 2, 1) := by decide +kernel
theorem dX12_makesSample_22 : decode cX12_makesSample 22 = .ok (.iload_n 2, 1) := by decide +kernel
theorem dX12_makesSample_23 : decode cX12_makesSample 23 = .ok (.iconst 3, 1) := by decide +kernel
theorem dX12_makesSample_24 : decode cX12_makesSample 24 = .ok (.if_icmp .ge 24, 3) := by decide +kernel
theorem dX12_makesSample_27 : decode cX12_makesSample 27 = .ok (.iload_n 1, 1) := by decide +kernel
theorem dX12_makesSample_28 : decode cX12_makesSample 28 = .ok (.aload_n 0, 1) := by decide +kernel
theorem dX12_makesSample_29 : decode cX12_makesSample 29 = .ok (.iload_n 2, 1) := by decide +kernel
theorem dX12_makesSample_30 : decode cX12_makesSample 30 = .ok (.invokevirtual 217, 3) := by decide +kernel
theorem dX12_makesSample_33 : decode cX12_makesSample 33 = .ok (.aload_n 0, 1) := by decide +kernel
theorem dX12_makesSample_34 : decode cX12_makesSample 34 = .ok (.getfield 41, 3) := by decide +kernel
theorem dX12_makesSample_37 : decode cX12_makesSample 37 = .ok (.iload_n 2, 1) := by decide +kernel
theorem dX12_makesSample_38 : decode cX12_makesSample 38 = .ok (.iaload, 1) := by decide +kernel
theorem dX12_makesSample_39 : decode cX12_makesSample 39 = .ok (.imul, 1) := by decide +kernel
theorem dX12_makesSample_40 : decode cX12_makesSample 40 = .ok (.iadd, 1) := by decide +kernel
theorem dX12_makesSample_41 : decode cX12_makesSample 41 = .ok (.istore_n 1, 1) := by decide +kernel
theorem dX12_makesSample_42 : decode cX12_makesSample 42 = .ok (.iinc 2 1, 3) := by decide +kernel
theorem dX12_makesSample_45 : decode cX12_makesSample 45 = .ok (.goto (-23), 3) := by decide +kernel
theorem dX12_makesSample_48 : decode cX12_makesSample 48 = .ok (.aload_n 0, 1) := by decide +kernel
theorem dX12_makesSample_49 : decode cX12_makesSample 49 = .ok (.getfield 25, 3) := by decide +kernel
theorem dX12_makesSample_52 : decode cX12_makesSample 52 = .ok (.aload_n 0, 1) := by decide +kernel
theorem dX12_makesSample_53 : decode cX12_makesSample 53 = .ok (.invokevirtual 135, 3) := by decide +kernel
theorem dX12_makesSample_56 : decode cX12_makesSample 56 = .ok (.iload_n 1, 1) := by decide +kernel
theorem dX12_makesSample_57 : decode cX12_makesSample 57 = .ok (.bipush 15, 2) := by decide +kernel
theorem dX12_makesSample_59 : decode cX12_makesSample 59 = .ok (.idiv, 1) := by decide +kernel
theorem dX12_makesSample_60 : decode cX12_makesSample 60 = .ok (.iastore, 1) := by decide +kernel
theorem dX12_makesSample_61 : decode cX12_makesSample 61 = .ok (.return_, 1) := by decide +kernel
theorem dX12_passes_0 : decode cX12_passes 0 = .ok (.aload_n 0, 1) := by decide +kernel
theorem dX12_passes_1 : decode cX12_passes 1 = .ok (.getfield 123, 3) := by decide +kernel
theorem dX12_passes_4 : decode cX12_passes 4 = .ok (.ldc2_w 127, 3) := by decide +kernel
theorem dX12_passes_7 : decode cX12_passes 7 = .ok (.lrem, 1) := by decide +kernel
theorem dX12_passes_8 : decode cX12_passes 8 = .ok (.l2i, 1) := by decide +kernel
theorem dX12_passes_9 : decode cX12_passes 9 = .ok (.istore_n 1, 1) := by decide +kernel
theorem dX12_passes_10 : decode cX12_passes 10 = .ok (.iload_n 1, 1) := by decide +kernel
theorem dX12_passes_11 : decode cX12_passes 11 = .ok (.ifCond .ne 28, 3) := by decide +kernel
theorem dX12_passes_14 : decode cX12_passes 14 = .ok (.aload_n 0, 1) := by decide +kernel
theorem dX12_passes_15 : decode cX12_passes 15 = .ok (.invokevirtual 135, 3) := by decide +kernel
theorem dX12_passes_18 : decode cX12_passes 18 = .ok (.aload_n 0, 1) := by decide +kernel
theorem dX12_passes_19 : decode cX12_passes 19 = .ok (.getfield 19, 3) := by decide +kernel
theorem dX12_passes_22 : decode cX12_passes 22 = .ok (.bipush 9, 2) := by decide +kernel
theorem dX12_passes_24 : decode cX12_passes 24 = .ok (.iaload, 1) := by decide +kernel
theorem dX12_passes_25 : decode cX12_passes 25 = .ok (.if_icmp .ne 14, 3) := by decide +kernel
theorem dX12_passes_28 : decode cX12_passes 28 = .ok (.aload_n 0, 1) := by decide +kernel
theorem dX12_passes_29 : decode cX12_passes 29 = .ok (.getfield 50, 3) := by decide +kernel
theorem dX12_passes_32 : decode cX12_passes 32 = .ok (.bipush 9, 2) := by decide +kernel
theorem dX12_passes_34 : decode cX12_passes 34 = .ok (.dup2, 1) := by decide +kernel
theorem dX12_passes_35 : decode cX12_passes 35 = .ok (.iaload, 1) := by decide +kernel
theorem dX12_passes_36 : decode cX12_passes 36 = .ok (.iconst 1, 1) := by decide +kernel
theorem dX12_passes_37 : decode cX12_passes 37 = .ok (.ior, 1) := by decide +kernel
theorem dX12_passes_38 : decode cX12_passes 38 = .ok (.iastore, 1) := by decide +kernel
theorem dX12_passes_39 : decode cX12_passes 39 = .ok (.aload_n 0, 1) := by decide +kernel
theorem dX12_passes_40 : decode cX12_passes 40 = .ok (.invokevirtual 220, 3) := by decide +kernel
theorem dX12_passes_43 : decode cX12_passes 43 = .ok (.istore_n 2, 1) := by decide +kernel
theorem dX12_passes_44 : decode cX12_passes 44 = .ok (.aload_n 0, 1) := by decide +kernel
theorem dX12_passes_45 : decode cX12_passes 45 = .ok (.invokevirtual 179, 3) := by decide +kernel
theorem dX12_passes_48 : decode cX12_passes 48 = .ok (.istore_n 3, 1) := by decide +kernel
theorem dX12_passes_49 : decode cX12_passes 49 = .ok (.iload_n 3, 1) := by decide +kernel
theorem dX12_passes_50 : decode cX12_passes 50 = .ok (.iconst 0, 1) := by decide +kernel
theorem dX12_passes_51 : decode cX12_passes 51 = .ok (.bipush 31, 2) := by decide +kernel
theorem dX12_passes_53 : decode cX12_passes 53 = .ok (.invokestatic 119, 3) := by decide +kernel
theorem dX12_passes_56 : decode cX12_passes 56 = .ok (.ifCond .eq 35, 3) := by decide +kernel
theorem dX12_passes_59 : decode cX12_passes 59 = .ok (.iload_n 1, 1) := by decide +kernel
theorem dX12_passes_60 : decode cX12_passes 60 = .ok (.iconst 4, 1) := by decide +kernel
theorem dX12_passes_61 : decode cX12_passes 61 = .ok (.bipush 19, 2) := by decide +kernel
theorem dX12_passes_63 : decode cX12_passes 63 = .ok (.invokestatic 119, 3) := by decide +kernel
theorem dX12_passes_66 : decode cX12_passes 66 = .ok (.ifCond .eq 25, 3) := by decide +kernel
theorem dX12_passes_69 : decode cX12_passes 69 = .ok (.aload_n 0, 1) := by decide +kernel
theorem dX12_passes_70 : decode cX12_passes 70 = .ok (.iconst 2, 1) := by decide +kernel
theorem dX12_passes_71 : decode cX12_passes 71 = .ok (.iload_n 1, 1) := by decide +kernel
theorem dX12_passes_72 : decode cX12_passes 72 = .ok (.imul, 1) := by decide +kernel
theorem dX12_passes_73 : decode cX12_passes 73 = .ok (.bipush 8, 2) := by decide +kernel
theorem dX12_passes_75 : decode cX12_passes 75 = .ok (.isub, 1) := by decide +kernel
theorem dX12_passes_76 : decode cX12_passes 76 = .ok (.iload_n 3, 1) := by decide +kernel
theorem dX12_passes_77 : decode cX12_passes 77 = .ok (.invokevirtual 223, 3) := by decide +kernel
theorem dX12_passes_80 : decode cX12_passes 80 = .ok (.aload_n 0, 1) := by decide +kernel
theorem dX12_passes_81 : decode cX12_passes 81 = .ok (.iconst 2, 1) := by decide +kernel
theorem dX12_passes_82 : decode cX12_passes 82 = .ok (.iload_n 1, 1) := by decide +kernel
theorem dX12_passes_83 : decode cX12_passes 83 = .ok (.imul, 1) := by decide +kernel
theorem dX12_passes_84 : decode cX12_passes 84 = .ok (.bipush 7, 2) := by decide +kernel
theorem dX12_passes_86 : decode cX12_passes 86 = .ok (.isub, 1) := by decide +kernel
theorem dX12_passes_87 : decode cX12_passes 87 = .ok (.iload_n 3, 1) := by decide +kernel
theorem dX12_passes_88 : decode cX12_passes 88 = .ok (.invokevirtual 223, 3) := by decide +kernel
theorem dX12_passes_91 : decode cX12_passes 91 = .ok (.aload_n 0, 1) := by decide +kernel
theorem dX12_passes_92 : decode cX12_passes 92 = .ok (.invokevirtual 226, 3) := by decide +kernel
theorem dX12_passes_95 : decode cX12_passes 95 = .ok (.aload_n 0, 1) := by decide +kernel
theorem dX12_passes_96 : decode cX12_passes 96 = .ok (.invokevirtual 229, 3) := by decide +kernel
theorem dX12_passes_99 : decode cX12_passes 99 = .ok (.iload_n 1, 1) := by decide +kernel
theorem dX12_passes_100 : decode cX12_passes 100 = .ok (.bipush 23, 2) := by decide +kernel
theorem dX12_passes_102 : decode cX12_passes 102 = .ok (.if_icmp .ne 7, 3) := by decide +kernel
theorem dX12_passes_105 : decode cX12_passes 105 = .ok (.aload_n 0, 1) := by decide +kernel
theorem dX12_passes_106 : decode cX12_passes 106 = .ok (.invokevirtual 232, 3) := by decide +kernel
theorem dX12_passes_109 : decode cX12_passes 109 = .ok (.iload_n 2, 1) := by decide +kernel
theorem dX12_passes_110 : decode cX12_passes 110 = .ok (.ifCond .ne 7, 3) := by decide +kernel
theorem dX12_passes_113 : decode cX12_passes 113 = .ok (.aload_n 0, 1) := by decide +kernel
theorem dX12_passes_114 : decode cX12_passes 114 = .ok (.invokevirtual 235, 3) := by decide +kernel
theorem dX12_passes_117 : decode cX12_passes 117 = .ok (.aload_n 0, 1) := by decide +kernel
theorem dX12_passes_118 : decode cX12_passes 118 = .ok (.dup, 1) := by decide +kernel
theorem dX12_passes_119 : decode cX12_passes 119 = .ok (.getfield 238, 3) := by decide +kernel
theorem dX12_passes_122 : decode cX12_passes 122 = .ok (.iload_n 2, 1) := by decide +kernel
theorem dX12_passes_123 : decode cX12_passes 123 = .ok (.ifCond .eq 7, 3) := by decide +kernel
theorem dX12_passes_126 : decode cX12_passes 126 = .ok (.lconst 1, 1) := by decide +kernel
theorem dX12_passes_127 : decode cX12_passes 127 = .ok (.goto 4, 3) := by decide +kernel
theorem dX12_passes_130 : decode cX12_passes 130 = .ok (.lconst 0, 1) := by decide +kernel
theorem dX12_passes_131 : decode cX12_passes 131 = .ok (.ladd, 1) := by decide +kernel
theorem dX12_passes_132 : decode cX12_passes 132 = .ok (.putfield 238, 3) := by decide +kernel
theorem dX12_passes_135 : decode cX12_passes 135 = .ok (.aload_n 0, 1) := by decide +kernel
theorem dX12_passes_136 : decode cX12_passes 136 = .ok (.dup, 1) := by decide +kernel
theorem dX12_passes_137 : decode cX12_passes 137 = .ok (.getfield 123, 3) := by decide +kernel
theorem dX12_passes_140 : decode cX12_passes 140 = .ok (.lconst 1, 1) := by decide +kernel
theorem dX12_passes_141 : decode cX12_passes 141 = .ok (.ladd, 1) := by decide +kernel
theorem dX12_passes_142 : decode cX12_passes 142 = .ok (.putfield 123, 3) := by decide +kernel
theorem dX12_passes_145 : decode cX12_passes 145 = .ok (.iload_n 2, 1) := by decide +kernel
theorem dX12_passes_146 : decode cX12_passes 146 = .ok (.ireturn, 1) := by decide +kernel
theorem dX12_run_0 : decode cX12_run 0 = .ok (.aload_n 0, 1) := by decide +kernel
theorem dX12_run_1 : decode cX12_run 1 = .ok (.iload_n 1, 1) := by decide +kernel
theorem dX12_run_2 : decode cX12_run 2 = .ok (.iconst 1, 1) := by decide +kernel
theorem dX12_run_3 : decode cX12_run 3 = .ok (.sipush 1000, 3) := by decide +kernel
theorem dX12_run_6 : decode cX12_run 6 = .ok (.invokestatic 119, 3) := by decide +kernel
theorem dX12_run_9 : decode cX12_run 9 = .ok (.ifCond .eq 7, 3) := by decide +kernel
theorem dX12_run_12 : decode cX12_run 12 = .ok (.iconst 0, 1) := by decide +kernel
theorem dX12_run_13 : decode cX12_run 13 = .ok (.goto 4, 3) := by decide +kernel
theorem dX12_run_16 : decode cX12_run 16 = .ok (.iconst 1, 1) := by decide +kernel
theorem dX12_run_17 : decode cX12_run 17 = .ok (.invokevirtual 164, 3) := by decide +kernel
theorem dX12_run_20 : decode cX12_run 20 = .ok (.ifCond .eq 5, 3) := by decide +kernel
theorem dX12_run_23 : decode cX12_run 23 = .ok (.iconst 0, 1) := by decide +kernel
theorem dX12_run_24 : decode cX12_run 24 = .ok (.ireturn, 1) := by decide +kernel
theorem dX12_run_25 : decode cX12_run 25 = .ok (.iconst 0, 1) := by decide +kernel
theorem dX12_run_26 : decode cX12_run 26 = .ok (.istore_n 2, 1) := by decide +kernel
theorem dX12_run_27 : decode cX12_run 27 = .ok (.iconst 0, 1) := by decide +kernel
theorem dX12_run_28 : decode cX12_run 28 = .ok (.istore_n 3, 1) := by decide +kernel
theorem dX12_run_29 : decode cX12_run 29 = .ok (.iload_n 3, 1) := by decide +kernel
theorem dX12_run_30 : decode cX12_run 30 = .ok (.iload_n 1, 1) := by decide +kernel
theorem dX12_run_31 : decode cX12_run 31 = .ok (.if_icmp .ge 24, 3) := by decide +kernel
theorem dX12_run_34 : decode cX12_run 34 = .ok (.iload_n 2, 1) := by decide +kernel
theorem dX12_run_35 : decode cX12_run 35 = .ok (.aload_n 0, 1) := by decide +kernel
theorem dX12_run_36 : decode cX12_run 36 = .ok (.invokevirtual 241, 3) := by decide +kernel
theorem dX12_run_39 : decode cX12_run 39 = .ok (.ifCond .eq 7, 3) := by decide +kernel
theorem dX12_run_42 : decode cX12_run 42 = .ok (.iconst 1, 1) := by decide +kernel
theorem dX12_run_43 : decode cX12_run 43 = .ok (.goto 4, 3) := by decide +kernel
theorem dX12_run_46 : decode cX12_run 46 = .ok (.iconst 0, 1) := by decide +kernel
theorem dX12_run_47 : decode cX12_run 47 = .ok (.iadd, 1) := by decide +kernel
theorem dX12_run_48 : decode cX12_run 48 = .ok (.istore_n 2, 1) := by decide +kernel
theorem dX12_run_49 : decode cX12_run 49 = .ok (.iinc 3 1, 3) := by decide +kernel
theorem dX12_run_52 : decode cX12_run 52 = .ok (.goto (-23), 3) := by decide +kernel
theorem dX12_run_55 : decode cX12_run 55 = .ok (.aload_n 0, 1) := by decide +kernel
theorem dX12_run_56 : decode cX12_run 56 = .ok (.invokevirtual 173, 3) := by decide +kernel
theorem dX12_run_59 : decode cX12_run 59 = .ok (.iload_n 2, 1) := by decide +kernel
theorem dX12_run_60 : decode cX12_run 60 = .ok (.ireturn, 1) := by decide +kernel
theorem dX12_step_0 : decode cX12_step 0 = .ok (.aload_n 0, 1) := by decide +kernel
theorem dX12_step_1 : decode cX12_step 1 = .ok (.aload_n 0, 1) := by decide +kernel
theorem dX12_step_2 : decode cX12_step 2 = .ok (.getfield 53, 3) := by decide +kernel
theorem dX12_step_5 : decode cX12_step 5 = .ok (.bipush 7, 2) := by decide +kernel
theorem dX12_step_7 : decode cX12_step 7 = .ok (.baload, 1) := by decide +kernel
theorem dX12_step_8 : decode cX12_step 8 = .ok (.ifCond .eq 7, 3) := by decide +kernel
theorem dX12_step_11 : decode cX12_step 11 = .ok (.iconst 1, 1) := by decide +kernel
theorem dX12_step_12 : decode cX12_step 12 = .ok (.goto 4, 3) := by decide +kernel
theorem dX12_step_15 : decode cX12_step 15 = .ok (.iconst 0, 1) := by decide +kernel
theorem dX12_step_16 : decode cX12_step 16 = .ok (.invokevirtual 164, 3) := by decide +kernel
theorem dX12_step_19 : decode cX12_step 19 = .ok (.ifCond .eq 5, 3) := by decide +kernel
theorem dX12_step_22 : decode cX12_step 22 = .ok (.iconst 0, 1) := by decide +kernel
theorem dX12_step_23 : decode cX12_step 23 = .ok (.ireturn, 1) := by decide +kernel
theorem dX12_step_24 : decode cX12_step 24 = .ok (.aload_n 0, 1) := by decide +kernel
theorem dX12_step_25 : decode cX12_step 25 = .ok (.getfield 50, 3) := by decide +kernel
theorem dX12_step_28 : decode cX12_step 28 = .ok (.bipush 19, 2) := by decide +kernel
theorem dX12_step_30 : decode cX12_step 30 = .ok (.iaload, 1) := by decide +kernel
theorem dX12_step_31 : decode cX12_step 31 = .ok (.istore_n 1, 1) := by decide +kernel
theorem dX12_step_32 : decode cX12_step 32 = .ok (.iconst 0, 1) := by decide +kernel
theorem dX12_step_33 : decode cX12_step 33 = .ok (.istore_n 2, 1) := by decide +kernel
theorem dX12_step_34 : decode cX12_step 34 = .ok (.iload_n 2, 1) := by decide +kernel
theorem dX12_step_35 : decode cX12_step 35 = .ok (.sipush 200, 3) := by decide +kernel
theorem dX12_step_38 : decode cX12_step 38 = .ok (.if_icmp .ge 25, 3) := by decide +kernel
theorem dX12_step_41 : decode cX12_step 41 = .ok (.aload_n 0, 1) := by decide +kernel
theorem dX12_step_42 : decode cX12_step 42 = .ok (.getfield 50, 3) := by decide +kernel
theorem dX12_step_45 : decode cX12_step 45 = .ok (.bipush 19, 2) := by decide +kernel
theorem dX12_step_47 : decode cX12_step 47 = .ok (.iaload, 1) := by decide +kernel
theorem dX12_step_48 : decode cX12_step 48 = .ok (.iload_n 1, 1) := by decide +kernel
theorem dX12_step_49 : decode cX12_step 49 = .ok (.if_icmp .ne 14, 3) := by decide +kernel
theorem dX12_step_52 : decode cX12_step 52 = .ok (.aload_n 0, 1) := by decide +kernel
theorem dX12_step_53 : decode cX12_step 53 = .ok (.invokevirtual 241, 3) := by decide +kernel
theorem dX12_step_56 : decode cX12_step 56 = .ok (.pop, 1) := by decide +kernel
theorem dX12_step_57 : decode cX12_step 57 = .ok (.iinc 2 1, 3) := by decide +kernel
theorem dX12_step_60 : decode cX12_step 60 = .ok (.goto (-26), 3) := by decide +kernel
theorem dX12_step_63 : decode cX12_step 63 = .ok (.aload_n 0, 1) := by decide +kernel
theorem dX12_step_64 : decode cX12_step 64 = .ok (.invokevirtual 173, 3) := by decide +kernel
theorem dX12_step_67 : decode cX12_step 67 = .ok (.iload_n 2, 1) := by decide +kernel
theorem dX12_step_68 : decode cX12_step 68 = .ok (.ireturn, 1) := by decide +kernel
theorem dX12_cycle_0 : decode cX12_cycle 0 = .ok (.aload_n 0, 1) := by decide +kernel
theorem dX12_cycle_1 : decode cX12_cycle 1 = .ok (.iconst 0, 1) := by decide +kernel
theorem dX12_cycle_2 : decode cX12_cycle 2 = .ok (.putfield 116, 3) := by decide +kernel
theorem dX12_cycle_5 : decode cX12_cycle 5 = .ok (.aload_n 0, 1) := by decide +kernel
theorem dX12_cycle_6 : decode cX12_cycle 6 = .ok (.getfield 123, 3) := by decide +kernel
theorem dX12_cycle_9 : decode cX12_cycle 9 = .ok (.lreturn, 1) := by decide +kernel
theorem dX12_isPictures_0 : decode cX12_isPictures 0 = .ok (.aload_n 0, 1) := by decide +kernel
theorem dX12_isPictures_1 : decode cX12_isPictures 1 = .ok (.iconst 0, 1) := by decide +kernel
theorem dX12_isPictures_2 : decode cX12_isPictures 2 = .ok (.putfield 116, 3) := by decide +kernel
theorem dX12_isPictures_5 : decode cX12_isPictures 5 = .ok (.aload_n 0, 1) := by decide +kernel
theorem dX12_isPictures_6 : decode cX12_isPictures 6 = .ok (.invokevirtual 220, 3) := by decide +kernel
theorem dX12_isPictures_9 : decode cX12_isPictures 9 = .ok (.ireturn, 1) := by decide +kernel
theorem dX12_underWay_0 : decode cX12_underWay 0 = .ok (.aload_n 0, 1) := by decide +kernel
theorem dX12_underWay_1 : decode cX12_underWay 1 = .ok (.aload_n 0, 1) := by decide +kernel
theorem dX12_underWay_2 : decode cX12_underWay 2 = .ok (.getfield 50, 3) := by decide +kernel
theorem dX12_underWay_5 : decode cX12_underWay 5 = .ok (.bipush 17, 2) := by decide +kernel
theorem dX12_underWay_7 : decode cX12_underWay 7 = .ok (.iaload, 1) := by decide +kernel
theorem dX12_underWay_8 : decode cX12_underWay 8 = .ok (.invokevirtual 244, 3) := by decide +kernel
theorem dX12_underWay_11 : decode cX12_underWay 11 = .ok (.ireturn, 1) := by decide +kernel
theorem dX12_done_0 : decode cX12_done 0 = .ok (.aload_n 0, 1) := by decide +kernel
theorem dX12_done_1 : decode cX12_done 1 = .ok (.aload_n 0, 1) := by decide +kernel
theorem dX12_done_2 : decode cX12_done 2 = .ok (.getfield 50, 3) := by decide +kernel
theorem dX12_done_5 : decode cX12_done 5 = .ok (.bipush 19, 2) := by decide +kernel
theorem dX12_done_7 : decode cX12_done 7 = .ok (.iaload, 1) := by decide +kernel
theorem dX12_done_8 : decode cX12_done 8 = .ok (.invokevirtual 244, 3) := by decide +kernel
theorem dX12_done_11 : decode cX12_done 11 = .ok (.ireturn, 1) := by decide +kernel
theorem dX12_isJammed_0 : decode cX12_isJammed 0 = .ok (.aload_n 0, 1) := by decide +kernel
theorem dX12_isJammed_1 : decode cX12_isJammed 1 = .ok (.iconst 0, 1) := by decide +kernel
theorem dX12_isJammed_2 : decode cX12_isJammed 2 = .ok (.putfield 116, 3) := by decide +kernel
theorem dX12_isJammed_5 : decode cX12_isJammed 5 = .ok (.aload_n 0, 1) := by decide +kernel
theorem dX12_isJammed_6 : decode cX12_isJammed 6 = .ok (.getfield 53, 3) := by decide +kernel
theorem dX12_isJammed_9 : decode cX12_isJammed 9 = .ok (.bipush 7, 2) := by decide +kernel
theorem dX12_isJammed_11 : decode cX12_isJammed 11 = .ok (.baload, 1) := by decide +kernel
theorem dX12_isJammed_12 : decode cX12_isJammed 12 = .ok (.ireturn, 1) := by decide +kernel
theorem dX12_traceAt_0 : decode cX12_traceAt 0 = .ok (.aload_n 0, 1) := by decide +kernel
theorem dX12_traceAt_1 : decode cX12_traceAt 1 = .ok (.iload_n 1, 1) := by decide +kernel
theorem dX12_traceAt_2 : decode cX12_traceAt 2 = .ok (.iconst 0, 1) := by decide +kernel
theorem dX12_traceAt_3 : decode cX12_traceAt 3 = .ok (.bipush 16, 2) := by decide +kernel
theorem dX12_traceAt_5 : decode cX12_traceAt 5 = .ok (.aload_n 0, 1) := by decide +kernel
theorem dX12_traceAt_6 : decode cX12_traceAt 6 = .ok (.getfield 50, 3) := by decide +kernel
theorem dX12_traceAt_9 : decode cX12_traceAt 9 = .ok (.bipush 20, 2) := by decide +kernel
theorem dX12_traceAt_11 : decode cX12_traceAt 11 = .ok (.iaload, 1) := by decide +kernel
theorem dX12_traceAt_12 : decode cX12_traceAt 12 = .ok (.invokestatic 204, 3) := by decide +kernel
theorem dX12_traceAt_15 : decode cX12_traceAt 15 = .ok (.iconst 1, 1) := by decide +kernel
theorem dX12_traceAt_16 : decode cX12_traceAt 16 = .ok (.isub, 1) := by decide +kernel
theorem dX12_traceAt_17 : decode cX12_traceAt 17 = .ok (.invokestatic 119, 3) := by decide +kernel
theorem dX12_traceAt_20 : decode cX12_traceAt 20 = .ok (.ifCond .eq 7, 3) := by decide +kernel
theorem dX12_traceAt_23 : decode cX12_traceAt 23 = .ok (.iconst 0, 1) := by decide +kernel
theorem dX12_traceAt_24 : decode cX12_traceAt 24 = .ok (.goto 4, 3) := by decide +kernel
theorem dX12_traceAt_27 : decode cX12_traceAt 27 = .ok (.iconst 1, 1) := by decide +kernel
theorem dX12_traceAt_28 : decode cX12_traceAt 28 = .ok (.invokevirtual 164, 3) := by decide +kernel
theorem dX12_traceAt_31 : decode cX12_traceAt 31 = .ok (.ifCond .eq 7, 3) := by decide +kernel
theorem dX12_traceAt_34 : decode cX12_traceAt 34 = .ok (.iconst 0, 1) := by decide +kernel
theorem dX12_traceAt_35 : decode cX12_traceAt 35 = .ok (.goto 22, 3) := by decide +kernel
theorem dX12_traceAt_38 : decode cX12_traceAt 38 = .ok (.aload_n 0, 1) := by decide +kernel
theorem dX12_traceAt_39 : decode cX12_traceAt 39 = .ok (.getfield 35, 3) := by decide +kernel
theorem dX12_traceAt_42 : decode cX12_traceAt 42 = .ok (.aload_n 0, 1) := by decide +kernel
theorem dX12_traceAt_43 : decode cX12_traceAt 43 = .ok (.getfield 50, 3) := by decide +kernel
theorem dX12_traceAt_46 : decode cX12_traceAt 46 = .ok (.bipush 20, 2) := by decide +kernel
theorem dX12_traceAt_48 : decode cX12_traceAt 48 = .ok (.iaload, 1) := by decide +kernel
theorem dX12_traceAt_49 : decode cX12_traceAt 49 = .ok (.iconst 1, 1) := by decide +kernel
theorem dX12_traceAt_50 : decode cX12_traceAt 50 = .ok (.isub, 1) := by decide +kernel
theorem dX12_traceAt_51 : decode cX12_traceAt 51 = .ok (.iload_n 1, 1) := by decide +kernel
theorem dX12_traceAt_52 : decode cX12_traceAt 52 = .ok (.isub, 1) := by decide +kernel
theorem dX12_traceAt_53 : decode cX12_traceAt 53 = .ok (.bipush 16, 2) := by decide +kernel
theorem dX12_traceAt_55 : decode cX12_traceAt 55 = .ok (.irem, 1) := by decide +kernel
theorem dX12_traceAt_56 : decode cX12_traceAt 56 = .ok (.iaload, 1) := by decide +kernel
theorem dX12_traceAt_57 : decode cX12_traceAt 57 = .ok (.ireturn, 1) := by decide +kernel
theorem dX12_operationOf_0 : decode cX12_operationOf 0 = .ok (.iload_n 0, 1) := by decide +kernel
theorem dX12_operationOf_1 : decode cX12_operationOf 1 = .ok (.sipush 128, 3) := by decide +kernel
theorem dX12_operationOf_4 : decode cX12_operationOf 4 = .ok (.if_icmp .ge 10, 3) := by decide +kernel
theorem dX12_operationOf_7 : decode cX12_operationOf 7 = .ok (.iload_n 0, 1) := by decide +kernel
theorem dX12_operationOf_8 : decode cX12_operationOf 8 = .ok (.bipush 8, 2) := by decide +kernel
theorem dX12_operationOf_10 : decode cX12_operationOf 10 = .ok (.idiv, 1) := by decide +kernel
theorem dX12_operationOf_11 : decode cX12_operationOf 11 = .ok (.goto 31, 3) := by decide +kernel
theorem dX12_operationOf_14 : decode cX12_operationOf 14 = .ok (.iload_n 0, 1) := by decide +kernel
theorem dX12_operationOf_15 : decode cX12_operationOf 15 = .ok (.sipush 192, 3) := by decide +kernel
theorem dX12_operationOf_18 : decode cX12_operationOf 18 = .ok (.sipush 231, 3) := by decide +kernel
theorem dX12_operationOf_21 : decode cX12_operationOf 21 = .ok (.invokestatic 119, 3) := by decide +kernel
theorem dX12_operationOf_24 : decode cX12_operationOf 24 = .ok (.ifCond .eq 17, 3) := by decide +kernel
theorem dX12_operationOf_27 : decode cX12_operationOf 27 = .ok (.bipush 16, 2) := by decide +kernel
theorem dX12_operationOf_29 : decode cX12_operationOf 29 = .ok (.iload_n 0, 1) := by decide +kernel
theorem dX12_operationOf_30 : decode cX12_operationOf 30 = .ok (.sipush 192, 3) := by decide +kernel
theorem dX12_operationOf_33 : decode cX12_operationOf 33 = .ok (.isub, 1) := by decide +kernel
theorem dX12_operationOf_34 : decode cX12_operationOf 34 = .ok (.bipush 8, 2) := by decide +kernel
theorem dX12_operationOf_36 : decode cX12_operationOf 36 = .ok (.idiv, 1) := by decide +kernel
theorem dX12_operationOf_37 : decode cX12_operationOf 37 = .ok (.iadd, 1) := by decide +kernel
theorem dX12_operationOf_38 : decode cX12_operationOf 38 = .ok (.goto 4, 3) := by decide +kernel
theorem dX12_operationOf_41 : decode cX12_operationOf 41 = .ok (.iconst (-1), 1) := by decide +kernel
theorem dX12_operationOf_42 : decode cX12_operationOf 42 = .ok (.ireturn, 1) := by decide +kernel
theorem dX12_isWriting_0 : decode cX12_isWriting 0 = .ok (.iload_n 0, 1) := by decide +kernel
theorem dX12_isWriting_1 : decode cX12_isWriting 1 = .ok (.iconst 3, 1) := by decide +kernel
theorem dX12_isWriting_2 : decode cX12_isWriting 2 = .ok (.iconst 5, 1) := by decide +kernel
theorem dX12_isWriting_3 : decode cX12_isWriting 3 = .ok (.invokestatic 119, 3) := by decide +kernel
theorem dX12_isWriting_6 : decode cX12_isWriting 6 = .ok (.ifCond .ne 25, 3) := by decide +kernel
theorem dX12_isWriting_9 : decode cX12_isWriting 9 = .ok (.iload_n 0, 1) := by decide +kernel
theorem dX12_isWriting_10 : decode cX12_isWriting 10 = .ok (.bipush 14, 2) := by decide +kernel
theorem dX12_isWriting_12 : decode cX12_isWriting 12 = .ok (.bipush 15, 2) := by decide +kernel
theorem dX12_isWriting_14 : decode cX12_isWriting 14 = .ok (.invokestatic 119, 3) := by decide +kernel
theorem dX12_isWriting_17 : decode cX12_isWriting 17 = .ok (.ifCond .ne 14, 3) := by decide +kernel
theorem dX12_isWriting_20 : decode cX12_isWriting 20 = .ok (.iload_n 0, 1) := by decide +kernel
theorem dX12_isWriting_21 : decode cX12_isWriting 21 = .ok (.bipush 17, 2) := by decide +kernel
theorem dX12_isWriting_23 : decode cX12_isWriting 23 = .ok (.bipush 19, 2) := by decide +kernel
theorem dX12_isWriting_25 : decode cX12_isWriting 25 = .ok (.invokestatic 119, 3) := by decide +kernel
theorem dX12_isWriting_28 : decode cX12_isWriting 28 = .ok (.ifCond .eq 7, 3) := by decide +kernel
theorem dX12_isWriting_31 : decode cX12_isWriting 31 = .ok (.iconst 1, 1) := by decide +kernel
theorem dX12_isWriting_32 : decode cX12_isWriting 32 = .ok (.goto 4, 3) := by decide +kernel
theorem dX12_isWriting_35 : decode cX12_isWriting 35 = .ok (.iconst 0, 1) := by decide +kernel
theorem dX12_isWriting_36 : decode cX12_isWriting 36 = .ok (.ireturn, 1) := by decide +kernel
theorem dX12_lengthOf_0 : decode cX12_lengthOf 0 = .ok (.iload_n 0, 1) := by decide +kernel
theorem dX12_lengthOf_1 : decode cX12_lengthOf 1 = .ok (.invokestatic 247, 3) := by decide +kernel
theorem dX12_lengthOf_4 : decode cX12_lengthOf 4 = .ok (.istore_n 1, 1) := by decide +kernel
theorem dX12_lengthOf_5 : decode cX12_lengthOf 5 = .ok (.iload_n 1, 1) := by decide +kernel
theorem dX12_lengthOf_6 : decode cX12_lengthOf 6 = .ok (.ifCond .lt 21, 3) := by decide +kernel
theorem dX12_lengthOf_9 : decode cX12_lengthOf 9 = .ok (.iload_n 0, 1) := by decide +kernel
theorem dX12_lengthOf_10 : decode cX12_lengthOf 10 = .ok (.bipush 8, 2) := by decide +kernel
theorem dX12_lengthOf_12 : decode cX12_lengthOf 12 = .ok (.irem, 1) := by decide +kernel
theorem dX12_lengthOf_13 : decode cX12_lengthOf 13 = .ok (.iconst 3, 1) := by decide +kernel
theorem dX12_lengthOf_14 : decode cX12_lengthOf 14 = .ok (.iconst 5, 1) := by decide +kernel
theorem dX12_lengthOf_15 : decode cX12_lengthOf 15 = .ok (.invokestatic 119, 3) := by decide +kernel
theorem dX12_lengthOf_18 : decode cX12_lengthOf 18 = .ok (.ifCond .eq 7, 3) := by decide +kernel
theorem dX12_lengthOf_21 : decode cX12_lengthOf 21 = .ok (.iconst 3, 1) := by decide +kernel
theorem dX12_lengthOf_22 : decode cX12_lengthOf 22 = .ok (.goto 4, 3) := by decide +kernel
theorem dX12_lengthOf_25 : decode cX12_lengthOf 25 = .ok (.iconst 2, 1) := by decide +kernel
theorem dX12_lengthOf_26 : decode cX12_lengthOf 26 = .ok (.ireturn, 1) := by decide +kernel
theorem dX12_lengthOf_27 : decode cX12_lengthOf 27 = .ok (.iload_n 0, 1) := by decide +kernel
theorem dX12_lengthOf_28 : decode cX12_lengthOf 28 = .ok (.sipush 157, 3) := by decide +kernel
theorem dX12_lengthOf_31 : decode cX12_lengthOf 31 = .ok (.sipush 159, 3) := by decide +kernel
theorem dX12_lengthOf_34 : decode cX12_lengthOf 34 = .ok (.invokestatic 119, 3) := by decide +kernel
theorem dX12_lengthOf_37 : decode cX12_lengthOf 37 = .ok (.ifCond .eq 5, 3) := by decide +kernel
theorem dX12_lengthOf_40 : decode cX12_lengthOf 40 = .ok (.iconst 3, 1) := by decide +kernel
theorem dX12_lengthOf_41 : decode cX12_lengthOf 41 = .ok (.ireturn, 1) := by decide +kernel
theorem dX12_lengthOf_42 : decode cX12_lengthOf 42 = .ok (.iload_n 0, 1) := by decide +kernel
theorem dX12_lengthOf_43 : decode cX12_lengthOf 43 = .ok (.sipush 160, 3) := by decide +kernel
theorem dX12_lengthOf_46 : decode cX12_lengthOf 46 = .ok (.sipush 167, 3) := by decide +kernel
theorem dX12_lengthOf_49 : decode cX12_lengthOf 49 = .ok (.invokestatic 119, 3) := by decide +kernel
theorem dX12_lengthOf_52 : decode cX12_lengthOf 52 = .ok (.ifCond .eq 7, 3) := by decide +kernel
theorem dX12_lengthOf_55 : decode cX12_lengthOf 55 = .ok (.iconst 2, 1) := by decide +kernel
theorem dX12_lengthOf_56 : decode cX12_lengthOf 56 = .ok (.goto 4, 3) := by decide +kernel
theorem dX12_lengthOf_59 : decode cX12_lengthOf 59 = .ok (.iconst 1, 1) := by decide +kernel
theorem dX12_lengthOf_60 : decode cX12_lengthOf 60 = .ok (.ireturn, 1) := by decide +kernel
theorem dX12_byteAt_0 : decode cX12_byteAt 0 = .ok (.aload_n 0, 1) := by decide +kernel
theorem dX12_byteAt_1 : decode cX12_byteAt 1 = .ok (.iload_n 1, 1) := by decide +kernel
theorem dX12_byteAt_2 : decode cX12_byteAt 2 = .ok (.invokestatic 176, 3) := by decide +kernel
theorem dX12_byteAt_5 : decode cX12_byteAt 5 = .ok (.invokevirtual 167, 3) := by decide +kernel
theorem dX12_byteAt_8 : decode cX12_byteAt 8 = .ok (.ireturn, 1) := by decide +kernel
theorem dX12_wordAt_0 : decode cX12_wordAt 0 = .ok (.aload_n 0, 1) := by decide +kernel
theorem dX12_wordAt_1 : decode cX12_wordAt 1 = .ok (.iload_n 1, 1) := by decide +kernel
theorem dX12_wordAt_2 : decode cX12_wordAt 2 = .ok (.invokevirtual 250, 3) := by decide +kernel
theorem dX12_wordAt_5 : decode cX12_wordAt 5 = .ok (.sipush 256, 3) := by decide +kernel
theorem dX12_wordAt_8 : decode cX12_wordAt 8 = .ok (.aload_n 0, 1) := by decide +kernel
theorem dX12_wordAt_9 : decode cX12_wordAt 9 = .ok (.iload_n 1, 1) := by decide +kernel
theorem dX12_wordAt_10 : decode cX12_wordAt 10 = .ok (.iconst 1, 1) := by decide +kernel
theorem dX12_wordAt_11 : decode cX12_wordAt 11 = .ok (.iadd, 1) := by decide +kernel
theorem dX12_wordAt_12 : decode cX12_wordAt 12 = .ok (.invokevirtual 250, 3) := by decide +kernel
theorem dX12_wordAt_15 : decode cX12_wordAt 15 = .ok (.imul, 1) := by decide +kernel
theorem dX12_wordAt_16 : decode cX12_wordAt 16 = .ok (.iadd, 1) := by decide +kernel
theorem dX12_wordAt_17 : decode cX12_wordAt 17 = .ok (.invokestatic 176, 3) := by decide +kernel
theorem dX12_wordAt_20 : decode cX12_wordAt 20 = .ok (.ireturn, 1) := by decide +kernel
theorem dX12_baseOf_0 : decode cX12_baseOf 0 = .ok (.iload_n 1, 1) := by decide +kernel
theorem dX12_baseOf_1 : decode cX12_baseOf 1 = .ok (.bipush 6, 2) := by decide +kernel
theorem dX12_baseOf_3 : decode cX12_baseOf 3 = .ok (.if_icmp .ge 11, 3) := by decide +kernel
theorem dX12_baseOf_6 : decode cX12_baseOf 6 = .ok (.aload_n 0, 1) := by decide +kernel
theorem dX12_baseOf_7 : decode cX12_baseOf 7 = .ok (.iload_n 2, 1) := by decide +kernel
theorem dX12_baseOf_8 : decode cX12_baseOf 8 = .ok (.iconst 1, 1) := by decide +kernel
theorem dX12_baseOf_9 : decode cX12_baseOf 9 = .ok (.iadd, 1) := by decide +kernel
theorem dX12_baseOf_10 : decode cX12_baseOf 10 = .ok (.invokevirtual 253, 3) := by decide +kernel
theorem dX12_baseOf_13 : decode cX12_baseOf 13 = .ok (.ireturn, 1) := by decide +kernel
theorem dX12_baseOf_14 : decode cX12_baseOf 14 = .ok (.aload_n 0, 1) := by decide +kernel
theorem dX12_baseOf_15 : decode cX12_baseOf 15 = .ok (.iload_n 2, 1) := by decide +kernel
theorem dX12_baseOf_16 : decode cX12_baseOf 16 = .ok (.iconst 1, 1) := by decide +kernel
theorem dX12_baseOf_17 : decode cX12_baseOf 17 = .ok (.iadd, 1) := by decide +kernel
theorem dX12_baseOf_18 : decode cX12_baseOf 18 = .ok (.invokevirtual 250, 3) := by decide +kernel
theorem dX12_baseOf_21 : decode cX12_baseOf 21 = .ok (.istore_n 3, 1) := by decide +kernel
theorem dX12_baseOf_22 : decode cX12_baseOf 22 = .ok (.aload_n 0, 1) := by decide +kernel
theorem dX12_baseOf_23 : decode cX12_baseOf 23 = .ok (.iload_n 3, 1) := by decide +kernel
theorem dX12_baseOf_24 : decode cX12_baseOf 24 = .ok (.invokevirtual 250, 3) := by decide +kernel
theorem dX12_baseOf_27 : decode cX12_baseOf 27 = .ok (.sipush 256, 3) := by decide +kernel
theorem dX12_baseOf_30 : decode cX12_baseOf 30 = .ok (.aload_n 0, 1) := by decide +kernel
theorem dX12_baseOf_31 : decode cX12_baseOf 31 = .ok (.iload_n 3, 1) := by decide +kernel
theorem dX12_baseOf_32 : decode cX12_baseOf 32 = .ok (.iconst 1, 1) := by decide +kernel
theorem dX12_baseOf_33 : decode cX12_baseOf 33 = .ok (.iadd, 1) := by decide +kernel
theorem dX12_baseOf_34 : decode cX12_baseOf 34 = .ok (.sipush 256, 3) := by decide +kernel
theorem dX12_baseOf_37 : decode cX12_baseOf 37 = .ok (.irem, 1) := by decide +kernel
theorem dX12_baseOf_38 : decode cX12_baseOf 38 = .ok (.invokevirtual 250, 3) := by decide +kernel
theorem dX12_baseOf_41 : decode cX12_baseOf 41 = .ok (.imul, 1) := by decide +kernel
theorem dX12_baseOf_42 : decode cX12_baseOf 42 = .ok (.iadd, 1) := by decide +kernel
theorem dX12_baseOf_43 : decode cX12_baseOf 43 = .ok (.invokestatic 176, 3) := by decide +kernel
theorem dX12_baseOf_46 : decode cX12_baseOf 46 = .ok (.ireturn, 1) := by decide +kernel
theorem dX12_addressOf_0 : decode cX12_addressOf 0 = .ok (.iload_n 1, 1) := by decide +kernel
theorem dX12_addressOf_1 : decode cX12_addressOf 1 = .ok (.iconst 1, 1) := by decide +kernel
theorem dX12_addressOf_2 : decode cX12_addressOf 2 = .ok (.if_icmp .ne 11, 3) := by decide +kernel
theorem dX12_addressOf_5 : decode cX12_addressOf 5 = .ok (.aload_n 0, 1) := by decide +kernel
theorem dX12_addressOf_6 : decode cX12_addressOf 6 = .ok (.iload_n 2, 1) := by decide +kernel
theorem dX12_addressOf_7 : decode cX12_addressOf 7 = .ok (.iconst 1, 1) := by decide +kernel
theorem dX12_addressOf_8 : decode cX12_addressOf 8 = .ok (.iadd, 1) := by decide +kernel
theorem dX12_addressOf_9 : decode cX12_addressOf 9 = .ok (.invokevirtual 250, 3) := by decide +kernel
theorem dX12_addressOf_12 : decode cX12_addressOf 12 = .ok (.ireturn, 1) := by decide +kernel
theorem dX12_addressOf_13 : decode cX12_addressOf 13 = .ok (.iload_n 1, 1) := by decide +kernel
theorem dX12_addressOf_14 : decode cX12_addressOf 14 = .ok (.iconst 2, 1) := by decide +kernel
theorem dX12_addressOf_15 : decode cX12_addressOf 15 = .ok (.if_icmp .ne 22, 3) := by decide +kernel
theorem dX12_addressOf_18 : decode cX12_addressOf 18 = .ok (.aload_n 0, 1) := by decide +kernel
theorem dX12_addressOf_19 : decode cX12_addressOf 19 = .ok (.iload_n 2, 1) := by decide +kernel
theorem dX12_addressOf_20 : decode cX12_addressOf 20 = .ok (.iconst 1, 1) := by decide +kernel
theorem dX12_addressOf_21 : decode cX12_addressOf 21 = .ok (.iadd, 1) := by decide +kernel
theorem dX12_addressOf_22 : decode cX12_addressOf 22 = .ok (.invokevirtual 250, 3) := by decide +kernel
theorem dX12_addressOf_25 : decode cX12_addressOf 25 = .ok (.aload_n 0, 1) := by decide +kernel
theorem dX12_addressOf_26 : decode cX12_addressOf 26 = .ok (.getfield 50, 3) := by decide +kernel
theorem dX12_addressOf_29 : decode cX12_addressOf 29 = .ok (.iconst 1, 1) := by decide +kernel
theorem dX12_addressOf_30 : decode cX12_addressOf 30 = .ok (.iaload, 1) := by decide +kernel
theorem dX12_addressOf_31 : decode cX12_addressOf 31 = .ok (.iadd, 1) := by decide +kernel
theorem dX12_addressOf_32 : decode cX12_addressOf 32 = .ok (.sipush 256, 3) := by decide +kernel
theorem dX12_addressOf_35 : decode cX12_addressOf 35 = .ok (.irem, 1) := by decide +kernel
theorem dX12_addressOf_36 : decode cX12_addressOf 36 = .ok (.ireturn, 1) := by decide +kernel
theorem dX12_addressOf_37 : decode cX12_addressOf 37 = .ok (.iload_n 1, 1) := by decide +kernel
theorem dX12_addressOf_38 : decode cX12_addressOf 38 = .ok (.iconst 3, 1) := by decide +kernel
theorem dX12_addressOf_39 : decode cX12_addressOf 39 = .ok (.if_icmp .ne 11, 3) := by decide +kernel
theorem dX12_addressOf_42 : decode cX12_addressOf 42 = .ok (.aload_n 0, 1) := by decide +kernel
theorem dX12_addressOf_43 : decode cX12_addressOf 43 = .ok (.iload_n 2, 1) := by decide +kernel
theorem dX12_addressOf_44 : decode cX12_addressOf 44 = .ok (.iconst 1, 1) := by decide +kernel
theorem dX12_addressOf_45 : decode cX12_addressOf 45 = .ok (.iadd, 1) := by decide +kernel
theorem dX12_addressOf_46 : decode cX12_addressOf 46 = .ok (.invokevirtual 253, 3) := by decide +kernel
theorem dX12_addressOf_49 : decode cX12_addressOf 49 = .ok (.ireturn, 1) := by decide +kernel
theorem dX12_addressOf_50 : decode cX12_addressOf 50 = .ok (.iload_n 1, 1) := by decide +kernel
theorem dX12_addressOf_51 : decode cX12_addressOf 51 = .ok (.iconst 4, 1) := by decide +kernel
theorem dX12_addressOf_52 : decode cX12_addressOf 52 = .ok (.if_icmp .ne 20, 3) := by decide +kernel
theorem dX12_addressOf_55 : decode cX12_addressOf 55 = .ok (.aload_n 0, 1) := by decide +kernel
theorem dX12_addressOf_56 : decode cX12_addressOf 56 = .ok (.iload_n 1, 1) := by decide +kernel
theorem dX12_addressOf_57 : decode cX12_addressOf 57 = .ok (.iload_n 2, 1) := by decide +kernel
theorem dX12_addressOf_58 : decode cX12_addressOf 58 = .ok (.invokevirtual 256, 3) := by decide +kernel
theorem dX12_addressOf_61 : decode cX12_addressOf 61 = .ok (.aload_n 0, 1) := by decide +kernel
theorem dX12_addressOf_62 : decode cX12_addressOf 62 = .ok (.getfield 50, 3) := by decide +kernel
theorem dX12_addressOf_65 : decode cX12_addressOf 65 = .ok (.iconst 1, 1) := by decide +kernel
theorem dX12_addressOf_66 : decode cX12_addressOf 66 = .ok (.iaload, 1) := by decide +kernel
theorem dX12_addressOf_67 : decode cX12_addressOf 67 = .ok (.iadd, 1) := by decide +kernel
theorem dX12_addressOf_68 : decode cX12_addressOf 68 = .ok (.invokestatic 176, 3) := by decide +kernel
theorem dX12_addressOf_71 : decode cX12_addressOf 71 = .ok (.ireturn, 1) := by decide +kernel
theorem dX12_addressOf_72 : decode cX12_addressOf 72 = .ok (.iload_n 1, 1) := by decide +kernel
theorem dX12_addressOf_73 : decode cX12_addressOf 73 = .ok (.bipush 7, 2) := by decide +kernel
theorem dX12_addressOf_75 : decode cX12_addressOf 75 = .ok (.if_icmp .ge 20, 3) := by decide +kernel
theorem dX12_addressOf_78 : decode cX12_addressOf 78 = .ok (.aload_n 0, 1) := by decide +kernel
theorem dX12_addressOf_79 : decode cX12_addressOf 79 = .ok (.iload_n 1, 1) := by decide +kernel
theorem dX12_addressOf_80 : decode cX12_addressOf 80 = .ok (.iload_n 2, 1) := by decide +kernel
theorem dX12_addressOf_81 : decode cX12_addressOf 81 = .ok (.invokevirtual 256, 3) := by decide +kernel
theorem dX12_addressOf_84 : decode cX12_addressOf 84 = .ok (.aload_n 0, 1) := by decide +kernel
theorem dX12_addressOf_85 : decode cX12_addressOf 85 = .ok (.getfield 50, 3) := by decide +kernel
theorem dX12_addressOf_88 : decode cX12_addressOf 88 = .ok (.iconst 2, 1) := by decide +kernel
theorem dX12_addressOf_89 : decode cX12_addressOf 89 = .ok (.iaload, 1) := by decide +kernel
theorem dX12_addressOf_90 : decode cX12_addressOf 90 = .ok (.iadd, 1) := by decide +kernel
theorem dX12_addressOf_91 : decode cX12_addressOf 91 = .ok (.invokestatic 176, 3) := by decide +kernel
theorem dX12_addressOf_94 : decode cX12_addressOf 94 = .ok (.ireturn, 1) := by decide +kernel
theorem dX12_addressOf_95 : decode cX12_addressOf 95 = .ok (.aload_n 0, 1) := by decide +kernel
theorem dX12_addressOf_96 : decode cX12_addressOf 96 = .ok (.iload_n 2, 1) := by decide +kernel
theorem dX12_addressOf_97 : decode cX12_addressOf 97 = .ok (.iconst 1, 1) := by decide +kernel
theorem dX12_addressOf_98 : decode cX12_addressOf 98 = .ok (.iadd, 1) := by decide +kernel
theorem dX12_addressOf_99 : decode cX12_addressOf 99 = .ok (.invokevirtual 250, 3) := by decide +kernel
theorem dX12_addressOf_102 : decode cX12_addressOf 102 = .ok (.aload_n 0, 1) := by decide +kernel
theorem dX12_addressOf_103 : decode cX12_addressOf 103 = .ok (.getfield 50, 3) := by decide +kernel
theorem dX12_addressOf_106 : decode cX12_addressOf 106 = .ok (.iconst 1, 1) := by decide +kernel
theorem dX12_addressOf_107 : decode cX12_addressOf 107 = .ok (.iaload, 1) := by decide +kernel
theorem dX12_addressOf_108 : decode cX12_addressOf 108 = .ok (.iadd, 1) := by decide +kernel
theorem dX12_addressOf_109 : decode cX12_addressOf 109 = .ok (.sipush 256, 3) := by decide +kernel
theorem dX12_addressOf_112 : decode cX12_addressOf 112 = .ok (.irem, 1) := by decide +kernel
theorem dX12_addressOf_113 : decode cX12_addressOf 113 = .ok (.istore_n 3, 1) := by decide +kernel
theorem dX12_addressOf_114 : decode cX12_addressOf 114 = .ok (.aload_n 0, 1) := by decide +kernel
theorem dX12_addressOf_115 : decode cX12_addressOf 115 = .ok (.iload_n 3, 1) := by decide +kernel
theorem dX12_addressOf_116 : decode cX12_addressOf 116 = .ok (.invokevirtual 250, 3) := by decide +kernel
theorem dX12_addressOf_119 : decode cX12_addressOf 119 = .ok (.sipush 256, 3) := by decide +kernel
theorem dX12_addressOf_122 : decode cX12_addressOf 122 = .ok (.aload_n 0, 1) := by decide +kernel
theorem dX12_addressOf_123 : decode cX12_addressOf 123 = .ok (.iload_n 3, 1) := by decide +kernel
theorem dX12_addressOf_124 : decode cX12_addressOf 124 = .ok (.iconst 1, 1) := by decide +kernel
theorem dX12_addressOf_125 : decode cX12_addressOf 125 = .ok (.iadd, 1) := by decide +kernel
theorem dX12_addressOf_126 : decode cX12_addressOf 126 = .ok (.sipush 256, 3) := by decide +kernel
theorem dX12_addressOf_129 : decode cX12_addressOf 129 = .ok (.irem, 1) := by decide +kernel
theorem dX12_addressOf_130 : decode cX12_addressOf 130 = .ok (.invokevirtual 250, 3) := by decide +kernel
theorem dX12_addressOf_133 : decode cX12_addressOf 133 = .ok (.imul, 1) := by decide +kernel
theorem dX12_addressOf_134 : decode cX12_addressOf 134 = .ok (.iadd, 1) := by decide +kernel
theorem dX12_addressOf_135 : decode cX12_addressOf 135 = .ok (.invokestatic 176, 3) := by decide +kernel
theorem dX12_addressOf_138 : decode cX12_addressOf 138 = .ok (.ireturn, 1) := by decide +kernel
theorem dX12_modeCycles_0 : decode cX12_modeCycles 0 = .ok (.iload_n 2, 1) := by decide +kernel
theorem dX12_modeCycles_1 : decode cX12_modeCycles 1 = .ok (.ifCond .ne 5, 3) := by decide +kernel
theorem dX12_modeCycles_4 : decode cX12_modeCycles 4 = .ok (.iconst 2, 1) := by decide +kernel
theorem dX12_modeCycles_5 : decode cX12_modeCycles 5 = .ok (.ireturn, 1) := by decide +kernel
theorem dX12_modeCycles_6 : decode cX12_modeCycles 6 = .ok (.iload_n 1, 1) := by decide +kernel
theorem dX12_modeCycles_7 : decode cX12_modeCycles 7 = .ok (.bipush 14, 2) := by decide +kernel
theorem dX12_modeCycles_9 : decode cX12_modeCycles 9 = .ok (.bipush 15, 2) := by decide +kernel
theorem dX12_modeCycles_11 : decode cX12_modeCycles 11 = .ok (.invokestatic 119, 3) := by decide +kernel
theorem dX12_modeCycles_14 : decode cX12_modeCycles 14 = .ok (.ifCond .ne 14, 3) := by decide +kernel
theorem dX12_modeCycles_17 : decode cX12_modeCycles 17 = .ok (.iload_n 1, 1) := by decide +kernel
theorem dX12_modeCycles_18 : decode cX12_modeCycles 18 = .ok (.bipush 18, 2) := by decide +kernel
theorem dX12_modeCycles_20 : decode cX12_modeCycles 20 = .ok (.bipush 19, 2) := by decide +kernel
theorem dX12_modeCycles_22 : decode cX12_modeCycles 22 = .ok (.invokestatic 119, 3) := by decide +kernel
theorem dX12_modeCycles_25 : decode cX12_modeCycles 25 = .ok (.ifCond .eq 7, 3) := by decide +kernel
theorem dX12_modeCycles_28 : decode cX12_modeCycles 28 = .ok (.iconst 2, 1) := by decide +kernel
theorem dX12_modeCycles_29 : decode cX12_modeCycles 29 = .ok (.goto 4, 3) := by decide +kernel
theorem dX12_modeCycles_32 : decode cX12_modeCycles 32 = .ok (.iconst 0, 1) := by decide +kernel
theorem dX12_modeCycles_33 : decode cX12_modeCycles 33 = .ok (.istore 4, 2) := by decide +kernel
theorem dX12_modeCycles_35 : decode cX12_modeCycles 35 = .ok (.iload_n 2, 1) := by decide +kernel
theorem dX12_modeCycles_36 : decode cX12_modeCycles 36 = .ok (.iconst 1, 1) := by decide +kernel
theorem dX12_modeCycles_37 : decode cX12_modeCycles 37 = .ok (.if_icmp .ne 7, 3) := by decide +kernel
theorem dX12_modeCycles_40 : decode cX12_modeCycles 40 = .ok (.iconst 3, 1) := by decide +kernel
theorem dX12_modeCycles_41 : decode cX12_modeCycles 41 = .ok (.goto 16, 3) := by decide +kernel
theorem dX12_modeCycles_44 : decode cX12_modeCycles 44 = .ok (.iload_n 2, 1) := by decide +kernel
theorem dX12_modeCycles_45 : decode cX12_modeCycles 45 = .ok (.bipush 6, 2) := by decide +kernel
theorem dX12_modeCycles_47 : decode cX12_modeCycles 47 = .ok (.if_icmp .ge 7, 3) := by decide +kernel
theorem dX12_modeCycles_50 : decode cX12_modeCycles 50 = .ok (.iconst 4, 1) := by decide +kernel
theorem dX12_modeCycles_51 : decode cX12_modeCycles 51 = .ok (.goto 6, 3) := by decide +kernel
theorem dX12_modeCycles_54 : decode cX12_modeCycles 54 = .ok (.iload_n 2, 1) := by decide +kernel
theorem dX12_modeCycles_55 : decode cX12_modeCycles 55 = .ok (.iconst 1, 1) := by decide +kernel
theorem dX12_modeCycles_56 : decode cX12_modeCycles 56 = .ok (.isub, 1) := by decide +kernel
theorem dX12_modeCycles_57 : decode cX12_modeCycles 57 = .ok (.istore 5, 2) := by decide +kernel
theorem dX12_modeCycles_59 : decode cX12_modeCycles 59 = .ok (.iload_n 2, 1) := by decide +kernel
theorem dX12_modeCycles_60 : decode cX12_modeCycles 60 = .ok (.iconst 4, 1) := by decide +kernel
theorem dX12_modeCycles_61 : decode cX12_modeCycles 61 = .ok (.bipush 6, 2) := by decide +kernel
theorem dX12_modeCycles_63 : decode cX12_modeCycles 63 = .ok (.invokestatic 119, 3) := by decide +kernel
theorem dX12_modeCycles_66 : decode cX12_modeCycles 66 = .ok (.ifCond .ne 9, 3) := by decide +kernel
theorem dX12_modeCycles_69 : decode cX12_modeCycles 69 = .ok (.iload 5, 2) := by decide +kernel
theorem dX12_modeCycles_71 : decode cX12_modeCycles 71 = .ok (.iload 4, 2) := by decide +kernel
theorem dX12_modeCycles_73 : decode cX12_modeCycles 73 = .ok (.iadd, 1) := by decide +kernel
theorem dX12_modeCycles_74 : decode cX12_modeCycles 74 = .ok (.ireturn, 1) := by decide +kernel
theorem dX12_modeCycles_75 : decode cX12_modeCycles 75 = .ok (.aload_n 0, 1) := by decide +kernel
theorem dX12_modeCycles_76 : decode cX12_modeCycles 76 = .ok (.iload_n 2, 1) := by decide +kernel
theorem dX12_modeCycles_77 : decode cX12_modeCycles 77 = .ok (.iload_n 3, 1) := by decide +kernel
theorem dX12_modeCycles_78 : decode cX12_modeCycles 78 = .ok (.invokevirtual 256, 3) := by decide +kernel
theorem dX12_modeCycles_81 : decode cX12_modeCycles 81 = .ok (.sipush 256, 3) := by decide +kernel
theorem dX12_modeCycles_84 : decode cX12_modeCycles 84 = .ok (.idiv, 1) := by decide +kernel
theorem dX12_modeCycles_85 : decode cX12_modeCycles 85 = .ok (.aload_n 0, 1) := by decide +kernel
theorem dX12_modeCycles_86 : decode cX12_modeCycles 86 = .ok (.iload_n 2, 1) := by decide +kernel
theorem dX12_modeCycles_87 : decode cX12_modeCycles 87 = .ok (.iload_n 3, 1) := by decide +kernel
theorem dX12_modeCycles_88 : decode cX12_modeCycles 88 = .ok (.invokevirtual 259, 3) := by decide +kernel
theorem dX12_modeCycles_91 : decode cX12_modeCycles 91 = .ok (.sipush 256, 3) := by decide +kernel
theorem dX12_modeCycles_94 : decode cX12_modeCycles 94 = .ok (.idiv, 1) := by decide +kernel
theorem dX12_modeCycles_95 : decode cX12_modeCycles 95 = .ok (.if_icmp .eq 7, 3) := by decide +kernel
theorem dX12_modeCycles_98 : decode cX12_modeCycles 98 = .ok (.iconst 1, 1) := by decide +kernel
theorem dX12_modeCycles_99 : decode cX12_modeCycles 99 = .ok (.goto 4, 3) := by decide +kernel
theorem dX12_modeCycles_102 : decode cX12_modeCycles 102 = .ok (.iconst 0, 1) := by decide +kernel
theorem dX12_modeCycles_103 : decode cX12_modeCycles 103 = .ok (.istore 6, 2) := by decide +kernel
theorem dX12_modeCycles_105 : decode cX12_modeCycles 105 = .ok (.iload 5, 2) := by decide +kernel
theorem dX12_modeCycles_107 : decode cX12_modeCycles 107 = .ok (.iload 4, 2) := by decide +kernel
theorem dX12_modeCycles_109 : decode cX12_modeCycles 109 = .ok (.iadd, 1) := by decide +kernel
theorem dX12_modeCycles_110 : decode cX12_modeCycles 110 = .ok (.iload 6, 2) := by decide +kernel
theorem dX12_modeCycles_112 : decode cX12_modeCycles 112 = .ok (.ifCond .ne 10, 3) := by decide +kernel
theorem dX12_modeCycles_115 : decode cX12_modeCycles 115 = .ok (.iload_n 1, 1) := by decide +kernel
theorem dX12_modeCycles_116 : decode cX12_modeCycles 116 = .ok (.invokestatic 262, 3) := by decide +kernel
theorem dX12_modeCycles_119 : decode cX12_modeCycles 119 = .ok (.ifCond .eq 7, 3) := by decide +kernel
theorem dX12_modeCycles_122 : decode cX12_modeCycles 122 = .ok (.iconst 1, 1) := by decide +kernel
theorem dX12_modeCycles_123 : decode cX12_modeCycles 123 = .ok (.goto 4, 3) := by decide +kernel
theorem dX12_modeCycles_126 : decode cX12_modeCycles 126 = .ok (.iconst 0, 1) := by decide +kernel
theorem dX12_modeCycles_127 : decode cX12_modeCycles 127 = .ok (.iadd, 1) := by decide +kernel
theorem dX12_modeCycles_128 : decode cX12_modeCycles 128 = .ok (.ireturn, 1) := by decide +kernel
theorem dX12_isTaken_0 : decode cX12_isTaken 0 = .ok (.iload_n 1, 1) := by decide +kernel
theorem dX12_isTaken_1 : decode cX12_isTaken 1 = .ok (.sipush 162, 3) := by decide +kernel
theorem dX12_isTaken_4 : decode cX12_isTaken 4 = .ok (.if_icmp .ge 12, 3) := by decide +kernel
theorem dX12_isTaken_7 : decode cX12_isTaken 7 = .ok (.aload_n 0, 1) := by decide +kernel
theorem dX12_isTaken_8 : decode cX12_isTaken 8 = .ok (.getfield 53, 3) := by decide +kernel
theorem dX12_isTaken_11 : decode cX12_isTaken 11 = .ok (.iconst 4, 1) := by decide +kernel
theorem dX12_isTaken_12 : decode cX12_isTaken 12 = .ok (.baload, 1) := by decide +kernel
theorem dX12_isTaken_13 : decode cX12_isTaken 13 = .ok (.goto 41, 3) := by decide +kernel
theorem dX12_isTaken_16 : decode cX12_isTaken 16 = .ok (.iload_n 1, 1) := by decide +kernel
theorem dX12_isTaken_17 : decode cX12_isTaken 17 = .ok (.sipush 164, 3) := by decide +kernel
theorem dX12_isTaken_20 : decode cX12_isTaken 20 = .ok (.if_icmp .ge 12, 3) := by decide +kernel
theorem dX12_isTaken_23 : decode cX12_isTaken 23 = .ok (.aload_n 0, 1) := by decide +kernel
theorem dX12_isTaken_24 : decode cX12_isTaken 24 = .ok (.getfield 53, 3) := by decide +kernel
theorem dX12_isTaken_27 : decode cX12_isTaken 27 = .ok (.iconst 5, 1) := by decide +kernel
theorem dX12_isTaken_28 : decode cX12_isTaken 28 = .ok (.baload, 1) := by decide +kernel
theorem dX12_isTaken_29 : decode cX12_isTaken 29 = .ok (.goto 25, 3) := by decide +kernel
theorem dX12_isTaken_32 : decode cX12_isTaken 32 = .ok (.iload_n 1, 1) := by decide +kernel
theorem dX12_isTaken_33 : decode cX12_isTaken 33 = .ok (.sipush 166, 3) := by decide +kernel
theorem dX12_isTaken_36 : decode cX12_isTaken 36 = .ok (.if_icmp .ge 12, 3) := by decide +kernel
theorem dX12_isTaken_39 : decode cX12_isTaken 39 = .ok (.aload_n 0, 1) := by decide +kernel
theorem dX12_isTaken_40 : decode cX12_isTaken 40 = .ok (.getfield 53, 3) := by decide +kernel
theorem dX12_isTaken_43 : decode cX12_isTaken 43 = .ok (.iconst 0, 1) := by decide +kernel
theorem dX12_isTaken_44 : decode cX12_isTaken 44 = .ok (.baload, 1) := by decide +kernel
theorem dX12_isTaken_45 : decode cX12_isTaken 45 = .ok (.goto 9, 3) := by decide +kernel
theorem dX12_isTaken_48 : decode cX12_isTaken 48 = .ok (.aload_n 0, 1) := by decide +kernel
theorem dX12_isTaken_49 : decode cX12_isTaken 49 = .ok (.getfield 53, 3) := by decide +kernel
theorem dX12_isTaken_52 : decode cX12_isTaken 52 = .ok (.iconst 1, 1) := by decide +kernel
theorem dX12_isTaken_53 : decode cX12_isTaken 53 = .ok (.baload, 1) := by decide +kernel
theorem dX12_isTaken_54 : decode cX12_isTaken 54 = .ok (.istore_n 2, 1) := by decide +kernel
theorem dX12_isTaken_55 : decode cX12_isTaken 55 = .ok (.iload_n 2, 1) := by decide +kernel
theorem dX12_isTaken_56 : decode cX12_isTaken 56 = .ok (.iload_n 1, 1) := by decide +kernel
theorem dX12_isTaken_57 : decode cX12_isTaken 57 = .ok (.sipush 161, 3) := by decide +kernel
theorem dX12_isTaken_60 : decode cX12_isTaken 60 = .ok (.if_icmp .eq 24, 3) := by decide +kernel
theorem dX12_isTaken_63 : decode cX12_isTaken 63 = .ok (.iload_n 1, 1) := by decide +kernel
theorem dX12_isTaken_64 : decode cX12_isTaken 64 = .ok (.sipush 163, 3) := by decide +kernel
theorem dX12_isTaken_67 : decode cX12_isTaken 67 = .ok (.if_icmp .eq 17, 3) := by decide +kernel
theorem dX12_isTaken_70 : decode cX12_isTaken 70 = .ok (.iload_n 1, 1) := by decide +kernel
theorem dX12_isTaken_71 : decode cX12_isTaken 71 = .ok (.sipush 165, 3) := by decide +kernel
theorem dX12_isTaken_74 : decode cX12_isTaken 74 = .ok (.if_icmp .eq 10, 3) := by decide +kernel
theorem dX12_isTaken_77 : decode cX12_isTaken 77 = .ok (.iload_n 1, 1) := by decide +kernel
theorem dX12_isTaken_78 : decode cX12_isTaken 78 = .ok (.sipush 167, 3) := by decide +kernel
theorem dX12_isTaken_81 : decode cX12_isTaken 81 = .ok (.if_icmp .ne 7, 3) := by decide +kernel
theorem dX12_isTaken_84 : decode cX12_isTaken 84 = .ok (.iconst 1, 1) := by decide +kernel
theorem dX12_isTaken_85 : decode cX12_isTaken 85 = .ok (.goto 4, 3) := by decide +kernel
theorem dX12_isTaken_88 : decode cX12_isTaken 88 = .ok (.iconst 0, 1) := by decide +kernel
theorem dX12_isTaken_89 : decode cX12_isTaken 89 = .ok (.if_icmp .ne 7, 3) := by decide +kernel
theorem dX12_isTaken_92 : decode cX12_isTaken 92 = .ok (.iconst 1, 1) := by decide +kernel
theorem dX12_isTaken_93 : decode cX12_isTaken 93 = .ok (.goto 4, 3) := by decide +kernel
theorem dX12_isTaken_96 : decode cX12_isTaken 96 = .ok (.iconst 0, 1) := by decide +kernel
theorem dX12_isTaken_97 : decode cX12_isTaken 97 = .ok (.ireturn, 1) := by decide +kernel
theorem dX12_targetOf_0 : decode cX12_targetOf 0 = .ok (.aload_n 0, 1) := by decide +kernel
theorem dX12_targetOf_1 : decode cX12_targetOf 1 = .ok (.iload_n 1, 1) := by decide +kernel
theorem dX12_targetOf_2 : decode cX12_targetOf 2 = .ok (.iconst 1, 1) := by decide +kernel
theorem dX12_targetOf_3 : decode cX12_targetOf 3 = .ok (.iadd, 1) := by decide +kernel
theorem dX12_targetOf_4 : decode cX12_targetOf 4 = .ok (.invokevirtual 250, 3) := by decide +kernel
theorem dX12_targetOf_7 : decode cX12_targetOf 7 = .ok (.istore_n 2, 1) := by decide +kernel
theorem dX12_targetOf_8 : decode cX12_targetOf 8 = .ok (.iload_n 1, 1) := by decide +kernel
theorem dX12_targetOf_9 : decode cX12_targetOf 9 = .ok (.iconst 2, 1) := by decide +kernel
theorem dX12_targetOf_10 : decode cX12_targetOf 10 = .ok (.iadd, 1) := by decide +kernel
theorem dX12_targetOf_11 : decode cX12_targetOf 11 = .ok (.iload_n 2, 1) := by decide +kernel
theorem dX12_targetOf_12 : decode cX12_targetOf 12 = .ok (.bipush 127, 2) := by decide +kernel
theorem dX12_targetOf_14 : decode cX12_targetOf 14 = .ok (.if_icmp .le 11, 3) := by decide +kernel
theorem dX12_targetOf_17 : decode cX12_targetOf 17 = .ok (.iload_n 2, 1) := by decide +kernel
theorem dX12_targetOf_18 : decode cX12_targetOf 18 = .ok (.sipush 256, 3) := by decide +kernel
theorem dX12_targetOf_21 : decode cX12_targetOf 21 = .ok (.isub, 1) := by decide +kernel
theorem dX12_targetOf_22 : decode cX12_targetOf 22 = .ok (.goto 4, 3) := by decide +kernel
theorem dX12_targetOf_25 : decode cX12_targetOf 25 = .ok (.iload_n 2, 1) := by decide +kernel
theorem dX12_targetOf_26 : decode cX12_targetOf 26 = .ok (.iadd, 1) := by decide +kernel
theorem dX12_targetOf_27 : decode cX12_targetOf 27 = .ok (.invokestatic 176, 3) := by decide +kernel
theorem dX12_targetOf_30 : decode cX12_targetOf 30 = .ok (.ireturn, 1) := by decide +kernel
theorem dX12_cyclesOf_0 : decode cX12_cyclesOf 0 = .ok (.aload_n 0, 1) := by decide +kernel
theorem dX12_cyclesOf_1 : decode cX12_cyclesOf 1 = .ok (.iload_n 1, 1) := by decide +kernel
theorem dX12_cyclesOf_2 : decode cX12_cyclesOf 2 = .ok (.invokevirtual 250, 3) := by decide +kernel
theorem dX12_cyclesOf_5 : decode cX12_cyclesOf 5 = .ok (.istore_n 2, 1) := by decide +kernel
theorem dX12_cyclesOf_6 : decode cX12_cyclesOf 6 = .ok (.iload_n 2, 1) := by decide +kernel
theorem dX12_cyclesOf_7 : decode cX12_cyclesOf 7 = .ok (.invokestatic 247, 3) := by decide +kernel
theorem dX12_cyclesOf_10 : decode cX12_cyclesOf 10 = .ok (.istore_n 3, 1) := by decide +kernel
theorem dX12_cyclesOf_11 : decode cX12_cyclesOf 11 = .ok (.iload_n 3, 1) := by decide +kernel
theorem dX12_cyclesOf_12 : decode cX12_cyclesOf 12 = .ok (.ifCond .lt 14, 3) := by decide +kernel
theorem dX12_cyclesOf_15 : decode cX12_cyclesOf 15 = .ok (.aload_n 0, 1) := by decide +kernel
theorem dX12_cyclesOf_16 : decode cX12_cyclesOf 16 = .ok (.iload_n 3, 1) := by decide +kernel
theorem dX12_cyclesOf_17 : decode cX12_cyclesOf 17 = .ok (.iload_n 2, 1) := by decide +kernel
theorem dX12_cyclesOf_18 : decode cX12_cyclesOf 18 = .ok (.bipush 8, 2) := by decide +kernel
theorem dX12_cyclesOf_20 : decode cX12_cyclesOf 20 = .ok (.irem, 1) := by decide +kernel
theorem dX12_cyclesOf_21 : decode cX12_cyclesOf 21 = .ok (.iload_n 1, 1) := by decide +kernel
theorem dX12_cyclesOf_22 : decode cX12_cyclesOf 22 = .ok (.invokevirtual 265, 3) := by decide +kernel
theorem dX12_cyclesOf_25 : decode cX12_cyclesOf 25 = .ok (.ireturn, 1) := by decide +kernel
theorem dX12_cyclesOf_26 : decode cX12_cyclesOf 26 = .ok (.iload_n 2, 1) := by decide +kernel
theorem dX12_cyclesOf_27 : decode cX12_cyclesOf 27 = .ok (.sipush 160, 3) := by decide +kernel
theorem dX12_cyclesOf_30 : decode cX12_cyclesOf 30 = .ok (.sipush 167, 3) := by decide +kernel
theorem dX12_cyclesOf_33 : decode cX12_cyclesOf 33 = .ok (.invokestatic 119, 3) := by decide +kernel
theorem dX12_cyclesOf_36 : decode cX12_cyclesOf 36 = .ok (.ifCond .eq 43, 3) := by decide +kernel
theorem dX12_cyclesOf_39 : decode cX12_cyclesOf 39 = .ok (.aload_n 0, 1) := by decide +kernel
theorem dX12_cyclesOf_40 : decode cX12_cyclesOf 40 = .ok (.iload_n 2, 1) := by decide +kernel
theorem dX12_cyclesOf_41 : decode cX12_cyclesOf 41 = .ok (.invokevirtual 269, 3) := by decide +kernel
theorem dX12_cyclesOf_44 : decode cX12_cyclesOf 44 = .ok (.ifCond .ne 7, 3) := by decide +kernel
theorem dX12_cyclesOf_47 : decode cX12_cyclesOf 47 = .ok (.iconst 2, 1) := by decide +kernel
theorem dX12_cyclesOf_48 : decode cX12_cyclesOf 48 = .ok (.goto 30, 3) := by decide +kernel
theorem dX12_cyclesOf_51 : decode cX12_cyclesOf 51 = .ok (.iload_n 1, 1) := by decide +kernel
theorem dX12_cyclesOf_52 : decode cX12_cyclesOf 52 = .ok (.iconst 2, 1) := by decide +kernel
theorem dX12_cyclesOf_53 : decode cX12_cyclesOf 53 = .ok (.iadd, 1) := by decide +kernel
theorem dX12_cyclesOf_54 : decode cX12_cyclesOf 54 = .ok (.invokestatic 176, 3) := by decide +kernel
theorem dX12_cyclesOf_57 : decode cX12_cyclesOf 57 = .ok (.sipush 256, 3) := by decide +kernel
theorem dX12_cyclesOf_60 : decode cX12_cyclesOf 60 = .ok (.idiv, 1) := by decide +kernel
theorem dX12_cyclesOf_61 : decode cX12_cyclesOf 61 = .ok (.aload_n 0, 1) := by decide +kernel
theorem dX12_cyclesOf_62 : decode cX12_cyclesOf 62 = .ok (.iload_n 1, 1) := by decide +kernel
theorem dX12_cyclesOf_63 : decode cX12_cyclesOf 63 = .ok (.invokevirtual 272, 3) := by decide +kernel
theorem dX12_cyclesOf_66 : decode cX12_cyclesOf 66 = .ok (.sipush 256, 3) := by decide +kernel
theorem dX12_cyclesOf_69 : decode cX12_cyclesOf 69 = .ok (.idiv, 1) := by decide +kernel
theorem dX12_cyclesOf_70 : decode cX12_cyclesOf 70 = .ok (.if_icmp .ne 7, 3) := by decide +kernel
theorem dX12_cyclesOf_73 : decode cX12_cyclesOf 73 = .ok (.iconst 3, 1) := by decide +kernel
theorem dX12_cyclesOf_74 : decode cX12_cyclesOf 74 = .ok (.goto 4, 3) := by decide +kernel
theorem dX12_cyclesOf_77 : decode cX12_cyclesOf 77 = .ok (.iconst 4, 1) := by decide +kernel
theorem dX12_cyclesOf_78 : decode cX12_cyclesOf 78 = .ok (.ireturn, 1) := by decide +kernel
theorem dX12_cyclesOf_79 : decode cX12_cyclesOf 79 = .ok (.iload_n 2, 1) := by decide +kernel
theorem dX12_cyclesOf_80 : decode cX12_cyclesOf 80 = .ok (.sipush 138, 3) := by decide +kernel
theorem dX12_cyclesOf_83 : decode cX12_cyclesOf 83 = .ok (.if_icmp .eq 17, 3) := by decide +kernel
theorem dX12_cyclesOf_86 : decode cX12_cyclesOf 86 = .ok (.iload_n 2, 1) := by decide +kernel
theorem dX12_cyclesOf_87 : decode cX12_cyclesOf 87 = .ok (.sipush 140, 3) := by decide +kernel
theorem dX12_cyclesOf_90 : decode cX12_cyclesOf 90 = .ok (.if_icmp .eq 10, 3) := by decide +kernel
theorem dX12_cyclesOf_93 : decode cX12_cyclesOf 93 = .ok (.iload_n 2, 1) := by decide +kernel
theorem dX12_cyclesOf_94 : decode cX12_cyclesOf 94 = .ok (.sipush 157, 3) := by decide +kernel
theorem dX12_cyclesOf_97 : decode cX12_cyclesOf 97 = .ok (.if_icmp .ne 5, 3) := by decide +kernel
theorem dX12_cyclesOf_100 : decode cX12_cyclesOf 100 = .ok (.iconst 3, 1) := by decide +kernel
theorem dX12_cyclesOf_101 : decode cX12_cyclesOf 101 = .ok (.ireturn, 1) := by decide +kernel
theorem dX12_cyclesOf_102 : decode cX12_cyclesOf 102 = .ok (.iload_n 2, 1) := by decide +kernel
theorem dX12_cyclesOf_103 : decode cX12_cyclesOf 103 = .ok (.sipush 139, 3) := by decide +kernel
theorem dX12_cyclesOf_106 : decode cX12_cyclesOf 106 = .ok (.if_icmp .eq 10, 3) := by decide +kernel
theorem dX12_cyclesOf_109 : decode cX12_cyclesOf 109 = .ok (.iload_n 2, 1) := by decide +kernel
theorem dX12_cyclesOf_110 : decode cX12_cyclesOf 110 = .ok (.sipush 141, 3) := by decide +kernel
theorem dX12_cyclesOf_113 : decode cX12_cyclesOf 113 = .ok (.if_icmp .ne 5, 3) := by decide +kernel
theorem dX12_cyclesOf_116 : decode cX12_cyclesOf 116 = .ok (.iconst 4, 1) := by decide +kernel
theorem dX12_cyclesOf_117 : decode cX12_cyclesOf 117 = .ok (.ireturn, 1) := by decide +kernel
theorem dX12_cyclesOf_118 : decode cX12_cyclesOf 118 = .ok (.iload_n 2, 1) := by decide +kernel
theorem dX12_cyclesOf_119 : decode cX12_cyclesOf 119 = .ok (.sipush 159, 3) := by decide +kernel
theorem dX12_cyclesOf_122 : decode cX12_cyclesOf 122 = .ok (.if_icmp .ne 5, 3) := by decide +kernel
theorem dX12_cyclesOf_125 : decode cX12_cyclesOf 125 = .ok (.iconst 5, 1) := by decide +kernel
theorem dX12_cyclesOf_126 : decode cX12_cyclesOf 126 = .ok (.ireturn, 1) := by decide +kernel
theorem dX12_cyclesOf_127 : decode cX12_cyclesOf 127 = .ok (.iload_n 2, 1) := by decide +kernel
theorem dX12_cyclesOf_128 : decode cX12_cyclesOf 128 = .ok (.sipush 155, 3) := by decide +kernel
theorem dX12_cyclesOf_131 : decode cX12_cyclesOf 131 = .ok (.if_icmp .eq 17, 3) := by decide +kernel
theorem dX12_cyclesOf_134 : decode cX12_cyclesOf 134 = .ok (.iload_n 2, 1) := by decide +kernel
theorem dX12_cyclesOf_135 : decode cX12_cyclesOf 135 = .ok (.sipush 156, 3) := by decide +kernel
theorem dX12_cyclesOf_138 : decode cX12_cyclesOf 138 = .ok (.if_icmp .eq 10, 3) := by decide +kernel
theorem dX12_cyclesOf_141 : decode cX12_cyclesOf 141 = .ok (.iload_n 2, 1) := by decide +kernel
theorem dX12_cyclesOf_142 : decode cX12_cyclesOf 142 = .ok (.sipush 158, 3) := by decide +kernel
theorem dX12_cyclesOf_145 : decode cX12_cyclesOf 145 = .ok (.if_icmp .ne 6, 3) := by decide +kernel
theorem dX12_cyclesOf_148 : decode cX12_cyclesOf 148 = .ok (.bipush 6, 2) := by decide +kernel
theorem dX12_cyclesOf_150 : decode cX12_cyclesOf 150 = .ok (.ireturn, 1) := by decide +kernel
theorem dX12_cyclesOf_151 : decode cX12_cyclesOf 151 = .ok (.iload_n 2, 1) := by decide +kernel
theorem dX12_cyclesOf_152 : decode cX12_cyclesOf 152 = .ok (.sipush 154, 3) := by decide +kernel
theorem dX12_cyclesOf_155 : decode cX12_cyclesOf 155 = .ok (.if_icmp .ne 8, 3) := by decide +kernel
theorem dX12_cyclesOf_158 : decode cX12_cyclesOf 158 = .ok (.bipush 7, 2) := by decide +kernel
theorem dX12_cyclesOf_160 : decode cX12_cyclesOf 160 = .ok (.goto 4, 3) := by decide +kernel
theorem dX12_cyclesOf_163 : decode cX12_cyclesOf 163 = .ok (.iconst 2, 1) := by decide +kernel
theorem dX12_cyclesOf_164 : decode cX12_cyclesOf 164 = .ok (.ireturn, 1) := by decide +kernel
theorem dX12_pushes_0 : decode cX12_pushes 0 = .ok (.aload_n 0, 1) := by decide +kernel
theorem dX12_pushes_1 : decode cX12_pushes 1 = .ok (.getfield 7, 3) := by decide +kernel
theorem dX12_pushes_4 : decode cX12_pushes 4 = .ok (.sipush 256, 3) := by decide +kernel
theorem dX12_pushes_7 : decode cX12_pushes 7 = .ok (.aload_n 0, 1) := by decide +kernel
theorem dX12_pushes_8 : decode cX12_pushes 8 = .ok (.getfield 50, 3) := by decide +kernel
theorem dX12_pushes_11 : decode cX12_pushes 11 = .ok (.iconst 3, 1) := by decide +kernel
theorem dX12_pushes_12 : decode cX12_pushes 12 = .ok (.iaload, 1) := by decide +kernel
theorem dX12_pushes_13 : decode cX12_pushes 13 = .ok (.iadd, 1) := by decide +kernel
theorem dX12_pushes_14 : decode cX12_pushes 14 = .ok (.iload_n 1, 1) := by decide +kernel
theorem dX12_pushes_15 : decode cX12_pushes 15 = .ok (.iastore, 1) := by decide +kernel
theorem dX12_pushes_16 : decode cX12_pushes 16 = .ok (.aload_n 0, 1) := by decide +kernel
theorem dX12_pushes_17 : decode cX12_pushes 17 = .ok (.getfield 50, 3) := by decide +kernel
theorem dX12_pushes_20 : decode cX12_pushes 20 = .ok (.iconst 3, 1) := by decide +kernel
theorem dX12_pushes_21 : decode cX12_pushes 21 = .ok (.aload_n 0, 1) := by decide +kernel
theorem dX12_pushes_22 : decode cX12_pushes 22 = .ok (.getfield 50, 3) := by decide +kernel
theorem dX12_pushes_25 : decode cX12_pushes 25 = .ok (.iconst 3, 1) := by decide +kernel
theorem dX12_pushes_26 : decode cX12_pushes 26 = .ok (.iaload, 1) := by decide +kernel
theorem dX12_pushes_27 : decode cX12_pushes 27 = .ok (.sipush 255, 3) := by decide +kernel
theorem dX12_pushes_30 : decode cX12_pushes 30 = .ok (.iadd, 1) := by decide +kernel
theorem dX12_pushes_31 : decode cX12_pushes 31 = .ok (.sipush 256, 3) := by decide +kernel
theorem dX12_pushes_34 : decode cX12_pushes 34 = .ok (.irem, 1) := by decide +kernel
theorem dX12_pushes_35 : decode cX12_pushes 35 = .ok (.iastore, 1) := by decide +kernel
theorem dX12_pushes_36 : decode cX12_pushes 36 = .ok (.return_, 1) := by decide +kernel
theorem dX12_pulls_0 : decode cX12_pulls 0 = .ok (.aload_n 0, 1) := by decide +kernel
theorem dX12_pulls_1 : decode cX12_pulls 1 = .ok (.getfield 50, 3) := by decide +kernel
theorem dX12_pulls_4 : decode cX12_pulls 4 = .ok (.iconst 3, 1) := by decide +kernel
theorem dX12_pulls_5 : decode cX12_pulls 5 = .ok (.aload_n 0, 1) := by decide +kernel
theorem dX12_pulls_6 : decode cX12_pulls 6 = .ok (.getfield 50, 3) := by decide +kernel
theorem dX12_pulls_9 : decode cX12_pulls 9 = .ok (.iconst 3, 1) := by decide +kernel
theorem dX12_pulls_10 : decode cX12_pulls 10 = .ok (.iaload, 1) := by decide +kernel
theorem dX12_pulls_11 : decode cX12_pulls 11 = .ok (.iconst 1, 1) := by decide +kernel
theorem dX12_pulls_12 : decode cX12_pulls 12 = .ok (.iadd, 1) := by decide +kernel
theorem dX12_pulls_13 : decode cX12_pulls 13 = .ok (.sipush 256, 3) := by decide +kernel
theorem dX12_pulls_16 : decode cX12_pulls 16 = .ok (.irem, 1) := by decide +kernel
theorem dX12_pulls_17 : decode cX12_pulls 17 = .ok (.iastore, 1) := by decide +kernel
theorem dX12_pulls_18 : decode cX12_pulls 18 = .ok (.aload_n 0, 1) := by decide +kernel
theorem dX12_pulls_19 : decode cX12_pulls 19 = .ok (.getfield 7, 3) := by decide +kernel
theorem dX12_pulls_22 : decode cX12_pulls 22 = .ok (.sipush 256, 3) := by decide +kernel
theorem dX12_pulls_25 : decode cX12_pulls 25 = .ok (.aload_n 0, 1) := by decide +kernel
theorem dX12_pulls_26 : decode cX12_pulls 26 = .ok (.getfield 50, 3) := by decide +kernel
theorem dX12_pulls_29 : decode cX12_pulls 29 = .ok (.iconst 3, 1) := by decide +kernel
theorem dX12_pulls_30 : decode cX12_pulls 30 = .ok (.iaload, 1) := by decide +kernel
theorem dX12_pulls_31 : decode cX12_pulls 31 = .ok (.iadd, 1) := by decide +kernel
theorem dX12_pulls_32 : decode cX12_pulls 32 = .ok (.iaload, 1) := by decide +kernel
theorem dX12_pulls_33 : decode cX12_pulls 33 = .ok (.ireturn, 1) := by decide +kernel
theorem dX12_bit_0 : decode cX12_bit 0 = .ok (.aload_n 0, 1) := by decide +kernel
theorem dX12_bit_1 : decode cX12_bit 1 = .ok (.getfield 53, 3) := by decide +kernel
theorem dX12_bit_4 : decode cX12_bit 4 = .ok (.iload_n 1, 1) := by decide +kernel
theorem dX12_bit_5 : decode cX12_bit 5 = .ok (.baload, 1) := by decide +kernel
theorem dX12_bit_6 : decode cX12_bit 6 = .ok (.ifCond .eq 7, 3) := by decide +kernel
theorem dX12_bit_9 : decode cX12_bit 9 = .ok (.iload_n 2, 1) := by decide +kernel
theorem dX12_bit_10 : decode cX12_bit 10 = .ok (.goto 4, 3) := by decide +kernel
theorem dX12_bit_13 : decode cX12_bit 13 = .ok (.iconst 0, 1) := by decide +kernel
theorem dX12_bit_14 : decode cX12_bit 14 = .ok (.ireturn, 1) := by decide +kernel
theorem dX12_statusWith_0 : decode cX12_statusWith 0 = .ok (.aload_n 0, 1) := by decide +kernel
theorem dX12_statusWith_1 : decode cX12_statusWith 1 = .ok (.iconst 5, 1) := by decide +kernel
theorem dX12_statusWith_2 : decode cX12_statusWith 2 = .ok (.iconst 1, 1) := by decide +kernel
theorem dX12_statusWith_3 : decode cX12_statusWith 3 = .ok (.invokevirtual 275, 3) := by decide +kernel
theorem dX12_statusWith_6 : decode cX12_statusWith 6 = .ok (.aload_n 0, 1) := by decide +kernel
theorem dX12_statusWith_7 : decode cX12_statusWith 7 = .ok (.iconst 4, 1) := by decide +kernel
theorem dX12_statusWith_8 : decode cX12_statusWith 8 = .ok (.iconst 2, 1) := by decide +kernel
theorem dX12_statusWith_9 : decode cX12_statusWith 9 = .ok (.invokevirtual 275, 3) := by decide +kernel
theorem dX12_statusWith_12 : decode cX12_statusWith 12 = .ok (.iadd, 1) := by decide +kernel
theorem dX12_statusWith_13 : decode cX12_statusWith 13 = .ok (.aload_n 0, 1) := by decide +kernel
theorem dX12_statusWith_14 : decode cX12_statusWith 14 = .ok (.iconst 3, 1) := by decide +kernel
theorem dX12_statusWith_15 : decode cX12_statusWith 15 = .ok (.iconst 4, 1) := by decide +kernel
theorem dX12_statusWith_16 : decode cX12_statusWith 16 = .ok (.invokevirtual 275, 3) := by decide +kernel
theorem dX12_statusWith_19 : decode cX12_statusWith 19 = .ok (.iadd, 1) := by decide +kernel
theorem dX12_statusWith_20 : decode cX12_statusWith 20 = .ok (.aload_n 0, 1) := by decide +kernel
theorem dX12_statusWith_21 : decode cX12_statusWith 21 = .ok (.iconst 2, 1) := by decide +kernel
theorem dX12_statusWith_22 : decode cX12_statusWith 22 = .ok (.bipush 8, 2) := by decide +kernel
theorem dX12_statusWith_24 : decode cX12_statusWith 24 = .ok (.invokevirtual 275, 3) := by decide +kernel
theorem dX12_statusWith_27 : decode cX12_statusWith 27 = .ok (.iadd, 1) := by decide +kernel
theorem dX12_statusWith_28 : decode cX12_statusWith 28 = .ok (.iload_n 1, 1) := by decide +kernel
theorem dX12_statusWith_29 : decode cX12_statusWith 29 = .ok (.iadd, 1) := by decide +kernel
theorem dX12_statusWith_30 : decode cX12_statusWith 30 = .ok (.bipush 32, 2) := by decide +kernel
theorem dX12_statusWith_32 : decode cX12_statusWith 32 = .ok (.iadd, 1) := by decide +kernel
theorem dX12_statusWith_33 : decode cX12_statusWith 33 = .ok (.aload_n 0, 1) := by decide +kernel
theorem dX12_statusWith_34 : decode cX12_statusWith 34 = .ok (.iconst 1, 1) := by decide +kernel
theorem dX12_statusWith_35 : decode cX12_statusWith 35 = .ok (.bipush 64, 2) := by decide +kernel
theorem dX12_statusWith_37 : decode cX12_statusWith 37 = .ok (.invokevirtual 275, 3) := by decide +kernel
theorem dX12_statusWith_40 : decode cX12_statusWith 40 = .ok (.iadd, 1) := by decide +kernel
theorem dX12_statusWith_41 : decode cX12_statusWith 41 = .ok (.aload_n 0, 1) := by decide +kernel
theorem dX12_statusWith_42 : decode cX12_statusWith 42 = .ok (.iconst 0, 1) := by decide +kernel
theorem dX12_statusWith_43 : decode cX12_statusWith 43 = .ok (.sipush 128, 3) := by decide +kernel
theorem dX12_statusWith_46 : decode cX12_statusWith 46 = .ok (.invokevirtual 275, 3) := by decide +kernel
theorem dX12_statusWith_49 : decode cX12_statusWith 49 = .ok (.iadd, 1) := by decide +kernel
theorem dX12_statusWith_50 : decode cX12_statusWith 50 = .ok (.ireturn, 1) := by decide +kernel
theorem dX12_becomesStatus_0 : decode cX12_becomesStatus 0 = .ok (.aload_n 0, 1) := by decide +kernel
theorem dX12_becomesStatus_1 : decode cX12_becomesStatus 1 = .ok (.getfield 53, 3) := by decide +kernel
theorem dX12_becomesStatus_4 : decode cX12_becomesStatus 4 = .ok (.iconst 5, 1) := by decide +kernel
theorem dX12_becomesStatus_5 : decode cX12_becomesStatus 5 = .ok (.iload_n 1, 1) := by decide +kernel
theorem dX12_becomesStatus_6 : decode cX12_becomesStatus 6 = .ok (.iconst 0, 1) := by decide +kernel
theorem dX12_becomesStatus_7 : decode cX12_becomesStatus 7 = .ok (.invokestatic 131, 3) := by decide +kernel
theorem dX12_becomesStatus_10 : decode cX12_becomesStatus 10 = .ok (.bastore, 1) := by decide +kernel
theorem dX12_becomesStatus_11 : decode cX12_becomesStatus 11 = .ok (.aload_n 0, 1) := by decide +kernel
theorem dX12_becomesStatus_12 : decode cX12_becomesStatus 12 = .ok (.getfield 53, 3) := by decide +kernel
theorem dX12_becomesStatus_15 : decode cX12_becomesStatus 15 = .ok (.iconst 4, 1) := by decide +kernel
theorem dX12_becomesStatus_16 : decode cX12_becomesStatus 16 = .ok (.iload_n 1, 1) := by decide +kernel
theorem dX12_becomesStatus_17 : decode cX12_becomesStatus 17 = .ok (.iconst 1, 1) := by decide +kernel
theorem dX12_becomesStatus_18 : decode cX12_becomesStatus 18 = .ok (.invokestatic 131, 3) := by decide +kernel
theorem dX12_becomesStatus_21 : decode cX12_becomesStatus 21 = .ok (.bastore, 1) := by decide +kernel
theorem dX12_becomesStatus_22 : decode cX12_becomesStatus 22 = .ok (.aload_n 0, 1) := by decide +kernel
theorem dX12_becomesStatus_23 : decode cX12_becomesStatus 23 = .ok (.getfield 53, 3) := by decide +kernel
theorem dX12_becomesStatus_26 : decode cX12_becomesStatus 26 = .ok (.iconst 3, 1) := by decide +kernel
theorem dX12_becomesStatus_27 : decode cX12_becomesStatus 27 = .ok (.iload_n 1, 1) := by decide +kernel
theorem dX12_becomesStatus_28 : decode cX12_becomesStatus 28 = .ok (.iconst 2, 1) := by decide +kernel
theorem dX12_becomesStatus_29 : decode cX12_becomesStatus 29 = .ok (.invokestatic 131, 3) := by decide +kernel
theorem dX12_becomesStatus_32 : decode cX12_becomesStatus 32 = .ok (.bastore, 1) := by decide +kernel
theorem dX12_becomesStatus_33 : decode cX12_becomesStatus 33 = .ok (.aload_n 0, 1) := by decide +kernel
theorem dX12_becomesStatus_34 : decode cX12_becomesStatus 34 = .ok (.getfield 53, 3) := by decide +kernel
theorem dX12_becomesStatus_37 : decode cX12_becomesStatus 37 = .ok (.iconst 2, 1) := by decide +kernel
theorem dX12_becomesStatus_38 : decode cX12_becomesStatus 38 = .ok (.iload_n 1, 1) := by decide +kernel
theorem dX12_becomesStatus_39 : decode cX12_becomesStatus 39 = .ok (.iconst 3, 1) := by decide +kernel
theorem dX12_becomesStatus_40 : decode cX12_becomesStatus 40 = .ok (.invokestatic 131, 3) := by decide +kernel
theorem dX12_becomesStatus_43 : decode cX12_becomesStatus 43 = .ok (.bastore, 1) := by decide +kernel
theorem dX12_becomesStatus_44 : decode cX12_becomesStatus 44 = .ok (.aload_n 0, 1) := by decide +kernel
theorem dX12_becomesStatus_45 : decode cX12_becomesStatus 45 = .ok (.getfield 53, 3) := by decide +kernel
theorem dX12_becomesStatus_48 : decode cX12_becomesStatus 48 = .ok (.iconst 1, 1) := by decide +kernel
theorem dX12_becomesStatus_49 : decode cX12_becomesStatus 49 = .ok (.iload_n 1, 1) := by decide +kernel
theorem dX12_becomesStatus_50 : decode cX12_becomesStatus 50 = .ok (.bipush 6, 2) := by decide +kernel
theorem dX12_becomesStatus_52 : decode cX12_becomesStatus 52 = .ok (.invokestatic 131, 3) := by decide +kernel
theorem dX12_becomesStatus_55 : decode cX12_becomesStatus 55 = .ok (.bastore, 1) := by decide +kernel
theorem dX12_becomesStatus_56 : decode cX12_becomesStatus 56 = .ok (.aload_n 0, 1) := by decide +kernel
theorem dX12_becomesStatus_57 : decode cX12_becomesStatus 57 = .ok (.getfield 53, 3) := by decide +kernel
theorem dX12_becomesStatus_60 : decode cX12_becomesStatus 60 = .ok (.iconst 0, 1) := by decide +kernel
theorem dX12_becomesStatus_61 : decode cX12_becomesStatus 61 = .ok (.iload_n 1, 1) := by decide +kernel
theorem dX12_becomesStatus_62 : decode cX12_becomesStatus 62 = .ok (.bipush 7, 2) := by decide +kernel
theorem dX12_becomesStatus_64 : decode cX12_becomesStatus 64 = .ok (.invokestatic 131, 3) := by decide +kernel
theorem dX12_becomesStatus_67 : decode cX12_becomesStatus 67 = .ok (.bastore, 1) := by decide +kernel
theorem dX12_becomesStatus_68 : decode cX12_becomesStatus 68 = .ok (.return_, 1) := by decide +kernel
theorem dX12_interrupts_0 : decode cX12_interrupts 0 = .ok (.aload_n 0, 1) := by decide +kernel
theorem dX12_interrupts_1 : decode cX12_interrupts 1 = .ok (.iload_n 2, 1) := by decide +kernel
theorem dX12_interrupts_2 : decode cX12_interrupts 2 = .ok (.sipush 256, 3) := by decide +kernel
theorem dX12_interrupts_5 : decode cX12_interrupts 5 = .ok (.idiv, 1) := by decide +kernel
theorem dX12_interrupts_6 : decode cX12_interrupts 6 = .ok (.invokevirtual 278, 3) := by decide +kernel
theorem dX12_interrupts_9 : decode cX12_interrupts 9 = .ok (.aload_n 0, 1) := by decide +kernel
theorem dX12_interrupts_10 : decode cX12_interrupts 10 = .ok (.iload_n 2, 1) := by decide +kernel
theorem dX12_interrupts_11 : decode cX12_interrupts 11 = .ok (.sipush 256, 3) := by decide +kernel
theorem dX12_interrupts_14 : decode cX12_interrupts 14 = .ok (.irem, 1) := by decide +kernel
theorem dX12_interrupts_15 : decode cX12_interrupts 15 = .ok (.invokevirtual 278, 3) := by decide +kernel
theorem dX12_interrupts_18 : decode cX12_interrupts 18 = .ok (.aload_n 0, 1) := by decide +kernel
theorem dX12_interrupts_19 : decode cX12_interrupts 19 = .ok (.aload_n 0, 1) := by decide +kernel
theorem dX12_interrupts_20 : decode cX12_interrupts 20 = .ok (.iload_n 3, 1) := by decide +kernel
theorem dX12_interrupts_21 : decode cX12_interrupts 21 = .ok (.invokevirtual 281, 3) := by decide +kernel
theorem dX12_interrupts_24 : decode cX12_interrupts 24 = .ok (.invokevirtual 278, 3) := by decide +kernel
theorem dX12_interrupts_27 : decode cX12_interrupts 27 = .ok (.aload_n 0, 1) := by decide +kernel
theorem dX12_interrupts_28 : decode cX12_interrupts 28 = .ok (.getfield 53, 3) := by decide +kernel
theorem dX12_interrupts_31 : decode cX12_interrupts 31 = .ok (.iconst 3, 1) := by decide +kernel
theorem dX12_interrupts_32 : decode cX12_interrupts 32 = .ok (.iconst 1, 1) := by decide +kernel
theorem dX12_interrupts_33 : decode cX12_interrupts 33 = .ok (.bastore, 1) := by decide +kernel
theorem dX12_interrupts_34 : decode cX12_interrupts 34 = .ok (.aload_n 0, 1) := by decide +kernel
theorem dX12_interrupts_35 : decode cX12_interrupts 35 = .ok (.getfield 50, 3) := by decide +kernel
theorem dX12_interrupts_38 : decode cX12_interrupts 38 = .ok (.iconst 4, 1) := by decide +kernel
theorem dX12_interrupts_39 : decode cX12_interrupts 39 = .ok (.aload_n 0, 1) := by decide +kernel
theorem dX12_interrupts_40 : decode cX12_interrupts 40 = .ok (.iload_n 1, 1) := by decide +kernel
theorem dX12_interrupts_41 : decode cX12_interrupts 41 = .ok (.invokevirtual 253, 3) := by decide +kernel
theorem dX12_interrupts_44 : decode cX12_interrupts 44 = .ok (.iastore, 1) := by decide +kernel
theorem dX12_interrupts_45 : decode cX12_interrupts 45 = .ok (.return_, 1) := by decide +kernel
theorem dX12_sets_0 : decode cX12_sets 0 = .ok (.aload_n 0, 1) := by decide +kernel
theorem dX12_sets_1 : decode cX12_sets 1 = .ok (.getfield 53, 3) := by decide +kernel
theorem dX12_sets_4 : decode cX12_sets 4 = .ok (.iconst 4, 1) := by decide +kernel
theorem dX12_sets_5 : decode cX12_sets 5 = .ok (.iload_n 1, 1) := by decide +kernel
theorem dX12_sets_6 : decode cX12_sets 6 = .ok (.ifCond .ne 7, 3) := by decide +kernel
theorem dX12_sets_9 : decode cX12_sets 9 = .ok (.iconst 1, 1) := by decide +kernel
theorem dX12_sets_10 : decode cX12_sets 10 = .ok (.goto 4, 3) := by decide +kernel
theorem dX12_sets_13 : decode cX12_sets 13 = .ok (.iconst 0, 1) := by decide +kernel
theorem dX12_sets_14 : decode cX12_sets 14 = .ok (.bastore, 1) := by decide +kernel
theorem dX12_sets_15 : decode cX12_sets 15 = .ok (.aload_n 0, 1) := by decide +kernel
theorem dX12_sets_16 : decode cX12_sets 16 = .ok (.getfield 53, 3) := by decide +kernel
theorem dX12_sets_19 : decode cX12_sets 19 = .ok (.iconst 0, 1) := by decide +kernel
theorem dX12_sets_20 : decode cX12_sets 20 = .ok (.iload_n 1, 1) := by decide +kernel
theorem dX12_sets_21 : decode cX12_sets 21 = .ok (.bipush 127, 2) := by decide +kernel
theorem dX12_sets_23 : decode cX12_sets 23 = .ok (.if_icmp .le 7, 3) := by decide +kernel
theorem dX12_sets_26 : decode cX12_sets 26 = .ok (.iconst 1, 1) := by decide +kernel
theorem dX12_sets_27 : decode cX12_sets 27 = .ok (.goto 4, 3) := by decide +kernel
theorem dX12_sets_30 : decode cX12_sets 30 = .ok (.iconst 0, 1) := by decide +kernel
theorem dX12_sets_31 : decode cX12_sets 31 = .ok (.bastore, 1) := by decide +kernel
theorem dX12_sets_32 : decode cX12_sets 32 = .ok (.iload_n 1, 1) := by decide +kernel
theorem dX12_sets_33 : decode cX12_sets 33 = .ok (.ireturn, 1) := by decide +kernel
theorem dX12_becomes_0 : decode cX12_becomes 0 = .ok (.aload_n 0, 1) := by decide +kernel
theorem dX12_becomes_1 : decode cX12_becomes 1 = .ok (.getfield 50, 3) := by decide +kernel
theorem dX12_becomes_4 : decode cX12_becomes 4 = .ok (.iload_n 1, 1) := by decide +kernel
theorem dX12_becomes_5 : decode cX12_becomes 5 = .ok (.aload_n 0, 1) := by decide +kernel
theorem dX12_becomes_6 : decode cX12_becomes 6 = .ok (.iload_n 2, 1) := by decide +kernel
theorem dX12_becomes_7 : decode cX12_becomes 7 = .ok (.invokevirtual 284, 3) := by decide +kernel
theorem dX12_becomes_10 : decode cX12_becomes 10 = .ok (.iastore, 1) := by decide +kernel
theorem dX12_becomes_11 : decode cX12_becomes 11 = .ok (.return_, 1) := by decide +kernel
theorem dX12_compares_0 : decode cX12_compares 0 = .ok (.aload_n 0, 1) := by decide +kernel
theorem dX12_compares_1 : decode cX12_compares 1 = .ok (.getfield 53, 3) := by decide +kernel
theorem dX12_compares_4 : decode cX12_compares 4 = .ok (.iconst 5, 1) := by decide +kernel
theorem dX12_compares_5 : decode cX12_compares 5 = .ok (.aload_n 0, 1) := by decide +kernel
theorem dX12_compares_6 : decode cX12_compares 6 = .ok (.getfield 50, 3) := by decide +kernel
theorem dX12_compares_9 : decode cX12_compares 9 = .ok (.iload_n 1, 1) := by decide +kernel
theorem dX12_compares_10 : decode cX12_compares 10 = .ok (.iaload, 1) := by decide +kernel
theorem dX12_compares_11 : decode cX12_compares 11 = .ok (.iload_n 2, 1) := by decide +kernel
theorem dX12_compares_12 : decode cX12_compares 12 = .ok (.if_icmp .lt 7, 3) := by decide +kernel
theorem dX12_compares_15 : decode cX12_compares 15 = .ok (.iconst 1, 1) := by decide +kernel
theorem dX12_compares_16 : decode cX12_compares 16 = .ok (.goto 4, 3) := by decide +kernel
theorem dX12_compares_19 : decode cX12_compares 19 = .ok (.iconst 0, 1) := by decide +kernel
theorem dX12_compares_20 : decode cX12_compares 20 = .ok (.bastore, 1) := by decide +kernel
theorem dX12_compares_21 : decode cX12_compares 21 = .ok (.aload_n 0, 1) := by decide +kernel
theorem dX12_compares_22 : decode cX12_compares 22 = .ok (.aload_n 0, 1) := by decide +kernel
theorem dX12_compares_23 : decode cX12_compares 23 = .ok (.getfield 50, 3) := by decide +kernel
theorem dX12_compares_26 : decode cX12_compares 26 = .ok (.iload_n 1, 1) := by decide +kernel
theorem dX12_compares_27 : decode cX12_compares 27 = .ok (.iaload, 1) := by decide +kernel
theorem dX12_compares_28 : decode cX12_compares 28 = .ok (.iload_n 2, 1) := by decide +kernel
theorem dX12_compares_29 : decode cX12_compares 29 = .ok (.isub, 1) := by decide +kernel
theorem dX12_compares_30 : decode cX12_compares 30 = .ok (.sipush 255, 3) := by decide +kernel
theorem dX12_compares_33 : decode cX12_compares 33 = .ok (.iand, 1) := by decide +kernel
theorem dX12_compares_34 : decode cX12_compares 34 = .ok (.invokevirtual 284, 3) := by decide +kernel
theorem dX12_compares_37 : decode cX12_compares 37 = .ok (.pop, 1) := by decide +kernel
theorem dX12_compares_38 : decode cX12_compares 38 = .ok (.return_, 1) := by decide +kernel
theorem dX12_adds_0 : decode cX12_adds 0 = .ok (.aload_n 0, 1) := by decide +kernel
theorem dX12_adds_1 : decode cX12_adds 1 = .ok (.getfield 50, 3) := by decide +kernel
theorem dX12_adds_4 : decode cX12_adds 4 = .ok (.iconst 0, 1) := by decide +kernel
theorem dX12_adds_5 : decode cX12_adds 5 = .ok (.iaload, 1) := by decide +kernel
theorem dX12_adds_6 : decode cX12_adds 6 = .ok (.iload_n 1, 1) := by decide +kernel
theorem dX12_adds_7 : decode cX12_adds 7 = .ok (.iadd, 1) := by decide +kernel
theorem dX12_adds_8 : decode cX12_adds 8 = .ok (.aload_n 0, 1) := by decide +kernel
theorem dX12_adds_9 : decode cX12_adds 9 = .ok (.iconst 5, 1) := by decide +kernel
theorem dX12_adds_10 : decode cX12_adds 10 = .ok (.iconst 1, 1) := by decide +kernel
theorem dX12_adds_11 : decode cX12_adds 11 = .ok (.invokevirtual 275, 3) := by decide +kernel
theorem dX12_adds_14 : decode cX12_adds 14 = .ok (.iadd, 1) := by decide +kernel
theorem dX12_adds_15 : decode cX12_adds 15 = .ok (.istore_n 2, 1) := by decide +kernel
theorem dX12_adds_16 : decode cX12_adds 16 = .ok (.aload_n 0, 1) := by decide +kernel
theorem dX12_adds_17 : decode cX12_adds 17 = .ok (.getfield 53, 3) := by decide +kernel
theorem dX12_adds_20 : decode cX12_adds 20 = .ok (.iconst 1, 1) := by decide +kernel
theorem dX12_adds_21 : decode cX12_adds 21 = .ok (.aload_n 0, 1) := by decide +kernel
theorem dX12_adds_22 : decode cX12_adds 22 = .ok (.getfield 50, 3) := by decide +kernel
theorem dX12_adds_25 : decode cX12_adds 25 = .ok (.iconst 0, 1) := by decide +kernel
theorem dX12_adds_26 : decode cX12_adds 26 = .ok (.iaload, 1) := by decide +kernel
theorem dX12_adds_27 : decode cX12_adds 27 = .ok (.iload_n 2, 1) := by decide +kernel
theorem dX12_adds_28 : decode cX12_adds 28 = .ok (.ixor, 1) := by decide +kernel
theorem dX12_adds_29 : decode cX12_adds 29 = .ok (.iload_n 1, 1) := by decide +kernel
theorem dX12_adds_30 : decode cX12_adds 30 = .ok (.iload_n 2, 1) := by decide +kernel
theorem dX12_adds_31 : decode cX12_adds 31 = .ok (.ixor, 1) := by decide +kernel
theorem dX12_adds_32 : decode cX12_adds 32 = .ok (.iand, 1) := by decide +kernel
theorem dX12_adds_33 : decode cX12_adds 33 = .ok (.sipush 128, 3) := by decide +kernel
theorem dX12_adds_36 : decode cX12_adds 36 = .ok (.iand, 1) := by decide +kernel
theorem dX12_adds_37 : decode cX12_adds 37 = .ok (.ifCond .eq 7, 3) := by decide +kernel
theorem dX12_adds_40 : decode cX12_adds 40 = .ok (.iconst 1, 1) := by decide +kernel
theorem dX12_adds_41 : decode cX12_adds 41 = .ok (.goto 4, 3) := by decide +kernel
theorem dX12_adds_44 : decode cX12_adds 44 = .ok (.iconst 0, 1) := by decide +kernel
theorem dX12_adds_45 : decode cX12_adds 45 = .ok (.bastore, 1) := by decide +kernel
theorem dX12_adds_46 : decode cX12_adds 46 = .ok (.aload_n 0, 1) := by decide +kernel
theorem dX12_adds_47 : decode cX12_adds 47 = .ok (.getfield 53, 3) := by decide +kernel
theorem dX12_adds_50 : decode cX12_adds 50 = .ok (.iconst 5, 1) := by decide +kernel
theorem dX12_adds_51 : decode cX12_adds 51 = .ok (.iload_n 2, 1) := by decide +kernel
theorem dX12_adds_52 : decode cX12_adds 52 = .ok (.sipush 255, 3) := by decide +kernel
theorem dX12_adds_55 : decode cX12_adds 55 = .ok (.if_icmp .le 7, 3) := by decide +kernel
theorem dX12_adds_58 : decode cX12_adds 58 = .ok (.iconst 1, 1) := by decide +kernel
theorem dX12_adds_59 : decode cX12_adds 59 = .ok (.goto 4, 3) := by decide +kernel
theorem dX12_adds_62 : decode cX12_adds 62 = .ok (.iconst 0, 1) := by decide +kernel
theorem dX12_adds_63 : decode cX12_adds 63 = .ok (.bastore, 1) := by decide +kernel
theorem dX12_adds_64 : decode cX12_adds 64 = .ok (.aload_n 0, 1) := by decide +kernel
theorem dX12_adds_65 : decode cX12_adds 65 = .ok (.getfield 50, 3) := by decide +kernel
theorem dX12_adds_68 : decode cX12_adds 68 = .ok (.iconst 0, 1) := by decide +kernel
theorem dX12_adds_69 : decode cX12_adds 69 = .ok (.iload_n 2, 1) := by decide +kernel
theorem dX12_adds_70 : decode cX12_adds 70 = .ok (.sipush 256, 3) := by decide +kernel
theorem dX12_adds_73 : decode cX12_adds 73 = .ok (.irem, 1) := by decide +kernel
theorem dX12_adds_74 : decode cX12_adds 74 = .ok (.iastore, 1) := by decide +kernel
theorem dX12_adds_75 : decode cX12_adds 75 = .ok (.return_, 1) := by decide +kernel
theorem dX12_addsDecimal_0 : decode cX12_addsDecimal 0 = .ok (.iload_n 1, 1) := by decide +kernel
theorem dX12_addsDecimal_1 : decode cX12_addsDecimal 1 = .ok (.bipush 16, 2) := by decide +kernel
theorem dX12_addsDecimal_3 : decode cX12_addsDecimal 3 = .ok (.irem, 1) := by decide +kernel
theorem dX12_addsDecimal_4 : decode cX12_addsDecimal 4 = .ok (.iload_n 2, 1) := by decide +kernel
theorem dX12_addsDecimal_5 : decode cX12_addsDecimal 5 = .ok (.bipush 16, 2) := by decide +kernel
theorem dX12_addsDecimal_7 : decode cX12_addsDecimal 7 = .ok (.irem, 1) := by decide +kernel
theorem dX12_addsDecimal_8 : decode cX12_addsDecimal 8 = .ok (.iadd, 1) := by decide +kernel
theorem dX12_addsDecimal_9 : decode cX12_addsDecimal 9 = .ok (.iload_n 3, 1) := by decide +kernel
theorem dX12_addsDecimal_10 : decode cX12_addsDecimal 10 = .ok (.iadd, 1) := by decide +kernel
theorem dX12_addsDecimal_11 : decode cX12_addsDecimal 11 = .ok (.istore 4, 2) := by decide +kernel
theorem dX12_addsDecimal_13 : decode cX12_addsDecimal 13 = .ok (.iload_n 1, 1) := by decide +kernel
theorem dX12_addsDecimal_14 : decode cX12_addsDecimal 14 = .ok (.bipush 16, 2) := by decide +kernel
theorem dX12_addsDecimal_16 : decode cX12_addsDecimal 16 = .ok (.idiv, 1) := by decide +kernel
theorem dX12_addsDecimal_17 : decode cX12_addsDecimal 17 = .ok (.iload_n 2, 1) := by decide +kernel
theorem dX12_addsDecimal_18 : decode cX12_addsDecimal 18 = .ok (.bipush 16, 2) := by decide +kernel
theorem dX12_addsDecimal_20 : decode cX12_addsDecimal 20 = .ok (.idiv, 1) := by decide +kernel
theorem dX12_addsDecimal_21 : decode cX12_addsDecimal 21 = .ok (.iadd, 1) := by decide +kernel
theorem dX12_addsDecimal_22 : decode cX12_addsDecimal 22 = .ok (.iload 4, 2) := by decide +kernel
theorem dX12_addsDecimal_24 : decode cX12_addsDecimal 24 = .ok (.bipush 9, 2) := by decide +kernel
theorem dX12_addsDecimal_26 : decode cX12_addsDecimal 26 = .ok (.if_icmp .le 7, 3) := by decide +kernel
theorem dX12_addsDecimal_29 : decode cX12_addsDecimal 29 = .ok (.iconst 1, 1) := by decide +kernel
theorem dX12_addsDecimal_30 : decode cX12_addsDecimal 30 = .ok (.goto 4, 3) := by decide +kernel
theorem dX12_addsDecimal_33 : decode cX12_addsDecimal 33 = .ok (.iconst 0, 1) := by decide +kernel
theorem dX12_addsDecimal_34 : decode cX12_addsDecimal 34 = .ok (.iadd, 1) := by decide +kernel
theorem dX12_addsDecimal_35 : decode cX12_addsDecimal 35 = .ok (.istore 5, 2) := by decide +kernel
theorem dX12_addsDecimal_37 : decode cX12_addsDecimal 37 = .ok (.iload 4, 2) := by decide +kernel
theorem dX12_addsDecimal_39 : decode cX12_addsDecimal 39 = .ok (.iload 4, 2) := by decide +kernel
theorem dX12_addsDecimal_41 : decode cX12_addsDecimal 41 = .ok (.bipush 9, 2) := by decide +kernel
theorem dX12_addsDecimal_43 : decode cX12_addsDecimal 43 = .ok (.if_icmp .le 8, 3) := by decide +kernel
theorem dX12_addsDecimal_46 : decode cX12_addsDecimal 46 = .ok (.bipush 10, 2) := by decide +kernel
theorem dX12_addsDecimal_48 : decode cX12_addsDecimal 48 = .ok (.goto 4, 3) := by decide +kernel
theorem dX12_addsDecimal_51 : decode cX12_addsDecimal 51 = .ok (.iconst 0, 1) := by decide +kernel
theorem dX12_addsDecimal_52 : decode cX12_addsDecimal 52 = .ok (.isub, 1) := by decide +kernel
theorem dX12_addsDecimal_53 : decode cX12_addsDecimal 53 = .ok (.istore 4, 2) := by decide +kernel
theorem dX12_addsDecimal_55 : decode cX12_addsDecimal 55 = .ok (.aload_n 0, 1) := by decide +kernel
theorem dX12_addsDecimal_56 : decode cX12_addsDecimal 56 = .ok (.getfield 53, 3) := by decide +kernel
theorem dX12_addsDecimal_59 : decode cX12_addsDecimal 59 = .ok (.iconst 5, 1) := by decide +kernel
theorem dX12_addsDecimal_60 : decode cX12_addsDecimal 60 = .ok (.iload 5, 2) := by decide +kernel
theorem dX12_addsDecimal_62 : decode cX12_addsDecimal 62 = .ok (.bipush 9, 2) := by decide +kernel
theorem dX12_addsDecimal_64 : decode cX12_addsDecimal 64 = .ok (.if_icmp .le 7, 3) := by decide +kernel
theorem dX12_addsDecimal_67 : decode cX12_addsDecimal 67 = .ok (.iconst 1, 1) := by decide +kernel
theorem dX12_addsDecimal_68 : decode cX12_addsDecimal 68 = .ok (.goto 4, 3) := by decide +kernel
theorem dX12_addsDecimal_71 : decode cX12_addsDecimal 71 = .ok (.iconst 0, 1) := by decide +kernel
theorem dX12_addsDecimal_72 : decode cX12_addsDecimal 72 = .ok (.bastore, 1) := by decide +kernel
theorem dX12_addsDecimal_73 : decode cX12_addsDecimal 73 = .ok (.iload 5, 2) := by decide +kernel
theorem dX12_addsDecimal_75 : decode cX12_addsDecimal 75 = .ok (.iload 5, 2) := by decide +kernel
theorem dX12_addsDecimal_77 : decode cX12_addsDecimal 77 = .ok (.bipush 9, 2) := by decide +kernel
theorem dX12_addsDecimal_79 : decode cX12_addsDecimal 79 = .ok (.if_icmp .le 8, 3) := by decide +kernel
theorem dX12_addsDecimal_82 : decode cX12_addsDecimal 82 = .ok (.bipush 10, 2) := by decide +kernel
theorem dX12_addsDecimal_84 : decode cX12_addsDecimal 84 = .ok (.goto 4, 3) := by decide +kernel
theorem dX12_addsDecimal_87 : decode cX12_addsDecimal 87 = .ok (.iconst 0, 1) := by decide +kernel
theorem dX12_addsDecimal_88 : decode cX12_addsDecimal 88 = .ok (.isub, 1) := by decide +kernel
theorem dX12_addsDecimal_89 : decode cX12_addsDecimal 89 = .ok (.istore 5, 2) := by decide +kernel
theorem dX12_addsDecimal_91 : decode cX12_addsDecimal 91 = .ok (.aload_n 0, 1) := by decide +kernel
theorem dX12_addsDecimal_92 : decode cX12_addsDecimal 92 = .ok (.getfield 50, 3) := by decide +kernel
theorem dX12_addsDecimal_95 : decode cX12_addsDecimal 95 = .ok (.iconst 0, 1) := by decide +kernel
theorem dX12_addsDecimal_96 : decode cX12_addsDecimal 96 = .ok (.bipush 16, 2) := by decide +kernel
theorem dX12_addsDecimal_98 : decode cX12_addsDecimal 98 = .ok (.iload 5, 2) := by decide +kernel
theorem dX12_addsDecimal_100 : decode cX12_addsDecimal 100 = .ok (.imul, 1) := by decide +kernel
theorem dX12_addsDecimal_101 : decode cX12_addsDecimal 101 = .ok (.iload 4, 2) := by decide +kernel
theorem dX12_addsDecimal_103 : decode cX12_addsDecimal 103 = .ok (.iadd, 1) := by decide +kernel
theorem dX12_addsDecimal_104 : decode cX12_addsDecimal 104 = .ok (.sipush 255, 3) := by decide +kernel
theorem dX12_addsDecimal_107 : decode cX12_addsDecimal 107 = .ok (.iand, 1) := by decide +kernel
theorem dX12_addsDecimal_108 : decode cX12_addsDecimal 108 = .ok (.iastore, 1) := by decide +kernel
theorem dX12_addsDecimal_109 : decode cX12_addsDecimal 109 = .ok (.return_, 1) := by decide +kernel
theorem dX12_takesDecimal_0 : decode cX12_takesDecimal 0 = .ok (.iload_n 1, 1) := by decide +kernel
theorem dX12_takesDecimal_1 : decode cX12_takesDecimal 1 = .ok (.bipush 16, 2) := by decide +kernel
theorem dX12_takesDecimal_3 : decode cX12_takesDecimal 3 = .ok (.irem, 1) := by decide +kernel
theorem dX12_takesDecimal_4 : decode cX12_takesDecimal 4 = .ok (.iload_n 2, 1) := by decide +kernel
theorem dX12_takesDecimal_5 : decode cX12_takesDecimal 5 = .ok (.bipush 16, 2) := by decide +kernel
theorem dX12_takesDecimal_7 : decode cX12_takesDecimal 7 = .ok (.irem, 1) := by decide +kernel
theorem dX12_takesDecimal_8 : decode cX12_takesDecimal 8 = .ok (.isub, 1) := by decide +kernel
theorem dX12_takesDecimal_9 : decode cX12_takesDecimal 9 = .ok (.iconst 1, 1) := by decide +kernel
theorem dX12_takesDecimal_10 : decode cX12_takesDecimal 10 = .ok (.isub, 1) := by decide +kernel
theorem dX12_takesDecimal_11 : decode cX12_takesDecimal 11 = .ok (.iload_n 3, 1) := by decide +kernel
theorem dX12_takesDecimal_12 : decode cX12_takesDecimal 12 = .ok (.iadd, 1) := by decide +kernel
theorem dX12_takesDecimal_13 : decode cX12_takesDecimal 13 = .ok (.istore 4, 2) := by decide +kernel
theorem dX12_takesDecimal_15 : decode cX12_takesDecimal 15 = .ok (.iload_n 1, 1) := by decide +kernel
theorem dX12_takesDecimal_16 : decode cX12_takesDecimal 16 = .ok (.bipush 16, 2) := by decide +kernel
theorem dX12_takesDecimal_18 : decode cX12_takesDecimal 18 = .ok (.idiv, 1) := by decide +kernel
theorem dX12_takesDecimal_19 : decode cX12_takesDecimal 19 = .ok (.iload_n 2, 1) := by decide +kernel
theorem dX12_takesDecimal_20 : decode cX12_takesDecimal 20 = .ok (.bipush 16, 2) := by decide +kernel
theorem dX12_takesDecimal_22 : decode cX12_takesDecimal 22 = .ok (.idiv, 1) := by decide +kernel
theorem dX12_takesDecimal_23 : decode cX12_takesDecimal 23 = .ok (.isub, 1) := by decide +kernel
theorem dX12_takesDecimal_24 : decode cX12_takesDecimal 24 = .ok (.iload 4, 2) := by decide +kernel
theorem dX12_takesDecimal_26 : decode cX12_takesDecimal 26 = .ok (.ifCond .ge 7, 3) := by decide +kernel
theorem dX12_takesDecimal_29 : decode cX12_takesDecimal 29 = .ok (.iconst 1, 1) := by decide +kernel
theorem dX12_takesDecimal_30 : decode cX12_takesDecimal 30 = .ok (.goto 4, 3) := by decide +kernel
theorem dX12_takesDecimal_33 : decode cX12_takesDecimal 33 = .ok (.iconst 0, 1) := by decide +kernel
theorem dX12_takesDecimal_34 : decode cX12_takesDecimal 34 = .ok (.isub, 1) := by decide +kernel
theorem dX12_takesDecimal_35 : decode cX12_takesDecimal 35 = .ok (.istore 5, 2) := by decide +kernel
theorem dX12_takesDecimal_37 : decode cX12_takesDecimal 37 = .ok (.iload 4, 2) := by decide +kernel
theorem dX12_takesDecimal_39 : decode cX12_takesDecimal 39 = .ok (.iload 4, 2) := by decide +kernel
theorem dX12_takesDecimal_41 : decode cX12_takesDecimal 41 = .ok (.ifCond .ge 8, 3) := by decide +kernel
theorem dX12_takesDecimal_44 : decode cX12_takesDecimal 44 = .ok (.bipush 10, 2) := by decide +kernel
theorem dX12_takesDecimal_46 : decode cX12_takesDecimal 46 = .ok (.goto 4, 3) := by decide +kernel
theorem dX12_takesDecimal_49 : decode cX12_takesDecimal 49 = .ok (.iconst 0, 1) := by decide +kernel
theorem dX12_takesDecimal_50 : decode cX12_takesDecimal 50 = .ok (.iadd, 1) := by decide +kernel
theorem dX12_takesDecimal_51 : decode cX12_takesDecimal 51 = .ok (.istore 4, 2) := by decide +kernel
theorem dX12_takesDecimal_53 : decode cX12_takesDecimal 53 = .ok (.aload_n 0, 1) := by decide +kernel
theorem dX12_takesDecimal_54 : decode cX12_takesDecimal 54 = .ok (.getfield 53, 3) := by decide +kernel
theorem dX12_takesDecimal_57 : decode cX12_takesDecimal 57 = .ok (.iconst 5, 1) := by decide +kernel
theorem dX12_takesDecimal_58 : decode cX12_takesDecimal 58 = .ok (.iload 5, 2) := by decide +kernel
theorem dX12_takesDecimal_60 : decode cX12_takesDecimal 60 = .ok (.ifCond .lt 7, 3) := by decide +kernel
theorem dX12_takesDecimal_63 : decode cX12_takesDecimal 63 = .ok (.iconst 1, 1) := by decide +kernel
theorem dX12_takesDecimal_64 : decode cX12_takesDecimal 64 = .ok (.goto 4, 3) := by decide +kernel
theorem dX12_takesDecimal_67 : decode cX12_takesDecimal 67 = .ok (.iconst 0, 1) := by decide +kernel
theorem dX12_takesDecimal_68 : decode cX12_takesDecimal 68 = .ok (.bastore, 1) := by decide +kernel
theorem dX12_takesDecimal_69 : decode cX12_takesDecimal 69 = .ok (.iload 5, 2) := by decide +kernel
theorem dX12_takesDecimal_71 : decode cX12_takesDecimal 71 = .ok (.iload 5, 2) := by decide +kernel
theorem dX12_takesDecimal_73 : decode cX12_takesDecimal 73 = .ok (.ifCond .ge 8, 3) := by decide +kernel
theorem dX12_takesDecimal_76 : decode cX12_takesDecimal 76 = .ok (.bipush 10, 2) := by decide +kernel
theorem dX12_takesDecimal_78 : decode cX12_takesDecimal 78 = .ok (.goto 4, 3) := by decide +kernel
theorem dX12_takesDecimal_81 : decode cX12_takesDecimal 81 = .ok (.iconst 0, 1) := by decide +kernel
theorem dX12_takesDecimal_82 : decode cX12_takesDecimal 82 = .ok (.iadd, 1) := by decide +kernel
theorem dX12_takesDecimal_83 : decode cX12_takesDecimal 83 = .ok (.istore 5, 2) := by decide +kernel
theorem dX12_takesDecimal_85 : decode cX12_takesDecimal 85 = .ok (.aload_n 0, 1) := by decide +kernel
theorem dX12_takesDecimal_86 : decode cX12_takesDecimal 86 = .ok (.getfield 50, 3) := by decide +kernel
theorem dX12_takesDecimal_89 : decode cX12_takesDecimal 89 = .ok (.iconst 0, 1) := by decide +kernel
theorem dX12_takesDecimal_90 : decode cX12_takesDecimal 90 = .ok (.bipush 16, 2) := by decide +kernel
theorem dX12_takesDecimal_92 : decode cX12_takesDecimal 92 = .ok (.iload 5, 2) := by decide +kernel
theorem dX12_takesDecimal_94 : decode cX12_takesDecimal 94 = .ok (.imul, 1) := by decide +kernel
theorem dX12_takesDecimal_95 : decode cX12_takesDecimal 95 = .ok (.iload 4, 2) := by decide +kernel
theorem dX12_takesDecimal_97 : decode cX12_takesDecimal 97 = .ok (.iadd, 1) := by decide +kernel
theorem dX12_takesDecimal_98 : decode cX12_takesDecimal 98 = .ok (.sipush 255, 3) := by decide +kernel
theorem dX12_takesDecimal_101 : decode cX12_takesDecimal 101 = .ok (.iand, 1) := by decide +kernel
theorem dX12_takesDecimal_102 : decode cX12_takesDecimal 102 = .ok (.iastore, 1) := by decide +kernel
theorem dX12_takesDecimal_103 : decode cX12_takesDecimal 103 = .ok (.return_, 1) := by decide +kernel
theorem dX12_calculates_0 : decode cX12_calculates 0 = .ok (.aload_n 0, 1) := by decide +kernel
theorem dX12_calculates_1 : decode cX12_calculates 1 = .ok (.getfield 50, 3) := by decide +kernel
theorem dX12_calculates_4 : decode cX12_calculates 4 = .ok (.iconst 0, 1) := by decide +kernel
theorem dX12_calculates_5 : decode cX12_calculates 5 = .ok (.iaload, 1) := by decide +kernel
theorem dX12_calculates_6 : decode cX12_calculates 6 = .ok (.istore_n 3, 1) := by decide +kernel
theorem dX12_calculates_7 : decode cX12_calculates 7 = .ok (.aload_n 0, 1) := by decide +kernel
theorem dX12_calculates_8 : decode cX12_calculates 8 = .ok (.iconst 5, 1) := by decide +kernel
theorem dX12_calculates_9 : decode cX12_calculates 9 = .ok (.iconst 1, 1) := by decide +kernel
theorem dX12_calculates_10 : decode cX12_calculates 10 = .ok (.invokevirtual 275, 3) := by decide +kernel
theorem dX12_calculates_13 : decode cX12_calculates 13 = .ok (.istore 4, 2) := by decide +kernel
theorem dX12_calculates_15 : decode cX12_calculates 15 = .ok (.aload_n 0, 1) := by decide +kernel
theorem dX12_calculates_16 : decode cX12_calculates 16 = .ok (.iload_n 1, 1) := by decide +kernel
theorem dX12_calculates_17 : decode cX12_calculates 17 = .ok (.ifCond .eq 7, 3) := by decide +kernel
theorem dX12_calculates_20 : decode cX12_calculates 20 = .ok (.iload_n 2, 1) := by decide +kernel
theorem dX12_calculates_21 : decode cX12_calculates 21 = .ok (.goto 8, 3) := by decide +kernel
theorem dX12_calculates_24 : decode cX12_calculates 24 = .ok (.sipush 255, 3) := by decide +kernel
theorem dX12_calculates_27 : decode cX12_calculates 27 = .ok (.iload_n 2, 1) := by decide +kernel
theorem dX12_calculates_28 : decode cX12_calculates 28 = .ok (.isub, 1) := by decide +kernel
theorem dX12_calculates_29 : decode cX12_calculates 29 = .ok (.invokevirtual 287, 3) := by decide +kernel
theorem dX12_calculates_32 : decode cX12_calculates 32 = .ok (.aload_n 0, 1) := by decide +kernel
theorem dX12_calculates_33 : decode cX12_calculates 33 = .ok (.getfield 53, 3) := by decide +kernel
theorem dX12_calculates_36 : decode cX12_calculates 36 = .ok (.iconst 2, 1) := by decide +kernel
theorem dX12_calculates_37 : decode cX12_calculates 37 = .ok (.baload, 1) := by decide +kernel
theorem dX12_calculates_38 : decode cX12_calculates 38 = .ok (.ifCond .eq 18, 3) := by decide +kernel
theorem dX12_calculates_41 : decode cX12_calculates 41 = .ok (.iload_n 1, 1) := by decide +kernel
theorem dX12_calculates_42 : decode cX12_calculates 42 = .ok (.ifCond .eq 14, 3) := by decide +kernel
theorem dX12_calculates_45 : decode cX12_calculates 45 = .ok (.aload_n 0, 1) := by decide +kernel
theorem dX12_calculates_46 : decode cX12_calculates 46 = .ok (.iload_n 3, 1) := by decide +kernel
theorem dX12_calculates_47 : decode cX12_calculates 47 = .ok (.iload_n 2, 1) := by decide +kernel
theorem dX12_calculates_48 : decode cX12_calculates 48 = .ok (.iload 4, 2) := by decide +kernel
theorem dX12_calculates_50 : decode cX12_calculates 50 = .ok (.invokevirtual 290, 3) := by decide +kernel
theorem dX12_calculates_53 : decode cX12_calculates 53 = .ok (.goto 20, 3) := by decide +kernel
theorem dX12_calculates_56 : decode cX12_calculates 56 = .ok (.aload_n 0, 1) := by decide +kernel
theorem dX12_calculates_57 : decode cX12_calculates 57 = .ok (.getfield 53, 3) := by decide +kernel
theorem dX12_calculates_60 : decode cX12_calculates 60 = .ok (.iconst 2, 1) := by decide +kernel
theorem dX12_calculates_61 : decode cX12_calculates 61 = .ok (.baload, 1) := by decide +kernel
theorem dX12_calculates_62 : decode cX12_calculates 62 = .ok (.ifCond .eq 11, 3) := by decide +kernel
theorem dX12_calculates_65 : decode cX12_calculates 65 = .ok (.aload_n 0, 1) := by decide +kernel
theorem dX12_calculates_66 : decode cX12_calculates 66 = .ok (.iload_n 3, 1) := by decide +kernel
theorem dX12_calculates_67 : decode cX12_calculates 67 = .ok (.iload_n 2, 1) := by decide +kernel
theorem dX12_calculates_68 : decode cX12_calculates 68 = .ok (.iload 4, 2) := by decide +kernel
theorem dX12_calculates_70 : decode cX12_calculates 70 = .ok (.invokevirtual 294, 3) := by decide +kernel
theorem dX12_calculates_73 : decode cX12_calculates 73 = .ok (.aload_n 0, 1) := by decide +kernel
theorem dX12_calculates_74 : decode cX12_calculates 74 = .ok (.aload_n 0, 1) := by decide +kernel
theorem dX12_calculates_75 : decode cX12_calculates 75 = .ok (.getfield 50, 3) := by decide +kernel
theorem dX12_calculates_78 : decode cX12_calculates 78 = .ok (.iconst 0, 1) := by decide +kernel
theorem dX12_calculates_79 : decode cX12_calculates 79 = .ok (.iaload, 1) := by decide +kernel
theorem dX12_calculates_80 : decode cX12_calculates 80 = .ok (.invokevirtual 284, 3) := by decide +kernel
theorem dX12_calculates_83 : decode cX12_calculates 83 = .ok (.pop, 1) := by decide +kernel
theorem dX12_calculates_84 : decode cX12_calculates 84 = .ok (.return_, 1) := by decide +kernel
theorem dX12_takes_0 : decode cX12_takes 0 = .ok (.aload_n 0, 1) := by decide +kernel
theorem dX12_takes_1 : decode cX12_takes 1 = .ok (.iload_n 1, 1) := by decide +kernel
theorem dX12_takes_2 : decode cX12_takes 2 = .ok (.invokevirtual 167, 3) := by decide +kernel
theorem dX12_takes_5 : decode cX12_takes 5 = .ok (.istore_n 2, 1) := by decide +kernel
theorem dX12_takes_6 : decode cX12_takes 6 = .ok (.iload_n 1, 1) := by decide +kernel
theorem dX12_takes_7 : decode cX12_takes 7 = .ok (.sipush 3869, 3) := by decide +kernel
theorem dX12_takes_10 : decode cX12_takes 10 = .ok (.if_icmp .ne 11, 3) := by decide +kernel
theorem dX12_takes_13 : decode cX12_takes 13 = .ok (.aload_n 0, 1) := by decide +kernel
theorem dX12_takes_14 : decode cX12_takes 14 = .ok (.getfield 50, 3) := by decide +kernel
theorem dX12_takes_17 : decode cX12_takes 17 = .ok (.bipush 10, 2) := by decide +kernel
theorem dX12_takes_19 : decode cX12_takes 19 = .ok (.iconst 0, 1) := by decide +kernel
theorem dX12_takes_20 : decode cX12_takes 20 = .ok (.iastore, 1) := by decide +kernel
theorem dX12_takes_21 : decode cX12_takes 21 = .ok (.iload_n 1, 1) := by decide +kernel
theorem dX12_takes_22 : decode cX12_takes 22 = .ok (.sipush 3870, 3) := by decide +kernel
theorem dX12_takes_25 : decode cX12_takes 25 = .ok (.if_icmp .ne 11, 3) := by decide +kernel
theorem dX12_takes_28 : decode cX12_takes 28 = .ok (.aload_n 0, 1) := by decide +kernel
theorem dX12_takes_29 : decode cX12_takes 29 = .ok (.getfield 50, 3) := by decide +kernel
theorem dX12_takes_32 : decode cX12_takes 32 = .ok (.bipush 11, 2) := by decide +kernel
theorem dX12_takes_34 : decode cX12_takes 34 = .ok (.iconst 0, 1) := by decide +kernel
theorem dX12_takes_35 : decode cX12_takes 35 = .ok (.iastore, 1) := by decide +kernel
theorem dX12_takes_36 : decode cX12_takes 36 = .ok (.iload_n 2, 1) := by decide +kernel
theorem dX12_takes_37 : decode cX12_takes 37 = .ok (.ireturn, 1) := by decide +kernel
theorem dX12_operates_0 : decode cX12_operates 0 = .ok (.iload_n 1, 1) := by decide +kernel
theorem dX12_operates_1 : decode cX12_operates 1 = .ok (.tableswitch 219 0 16 #[83, 92, 101, 219, 219, 219, 110, 119, 128, 144, 160, 176, 185, 194, 219, 219, 203], 83) := by decide +kernel
theorem dX12_operates_84 : decode cX12_operates 84 = .ok (.aload_n 0, 1) := by decide +kernel
theorem dX12_operates_85 : decode cX12_operates 85 = .ok (.iconst 0, 1) := by decide +kernel
theorem dX12_operates_86 : decode cX12_operates 86 = .ok (.iload_n 2, 1) := by decide +kernel
theorem dX12_operates_87 : decode cX12_operates 87 = .ok (.invokevirtual 297, 3) := by decide +kernel
theorem dX12_operates_90 : decode cX12_operates 90 = .ok (.goto 176, 3) := by decide +kernel
theorem dX12_operates_93 : decode cX12_operates 93 = .ok (.aload_n 0, 1) := by decide +kernel
theorem dX12_operates_94 : decode cX12_operates 94 = .ok (.iconst 1, 1) := by decide +kernel
theorem dX12_operates_95 : decode cX12_operates 95 = .ok (.iload_n 2, 1) := by decide +kernel
theorem dX12_operates_96 : decode cX12_operates 96 = .ok (.invokevirtual 297, 3) := by decide +kernel
theorem dX12_operates_99 : decode cX12_operates 99 = .ok (.goto 167, 3) := by decide +kernel
theorem dX12_operates_102 : decode cX12_operates 102 = .ok (.aload_n 0, 1) := by decide +kernel
theorem dX12_operates_103 : decode cX12_operates 103 = .ok (.iconst 2, 1) := by decide +kernel
theorem dX12_operates_104 : decode cX12_operates 104 = .ok (.iload_n 2, 1) := by decide +kernel
theorem dX12_operates_105 : decode cX12_operates 105 = .ok (.invokevirtual 297, 3) := by decide +kernel
theorem dX12_operates_108 : decode cX12_operates 108 = .ok (.goto 158, 3) := by decide +kernel
theorem dX12_operates_111 : decode cX12_operates 111 = .ok (.aload_n 0, 1) := by decide +kernel
theorem dX12_operates_112 : decode cX12_operates 112 = .ok (.iconst 1, 1) := by decide +kernel
theorem dX12_operates_113 : decode cX12_operates 113 = .ok (.iload_n 2, 1) := by decide +kernel
theorem dX12_operates_114 : decode cX12_operates 114 = .ok (.invokevirtual 300, 3) := by decide +kernel
theorem dX12_operates_117 : decode cX12_operates 117 = .ok (.goto 149, 3) := by decide +kernel
theorem dX12_operates_120 : decode cX12_operates 120 = .ok (.aload_n 0, 1) := by decide +kernel
theorem dX12_operates_121 : decode cX12_operates 121 = .ok (.iconst 0, 1) := by decide +kernel
theorem dX12_operates_122 : decode cX12_operates 122 = .ok (.iload_n 2, 1) := by decide +kernel
theorem dX12_operates_123 : decode cX12_operates 123 = .ok (.invokevirtual 300, 3) := by decide +kernel
theorem dX12_operates_126 : decode cX12_operates 126 = .ok (.goto 140, 3) := by decide +kernel
theorem dX12_operates_129 : decode cX12_operates 129 = .ok (.aload_n 0, 1) := by decide +kernel
theorem dX12_operates_130 : decode cX12_operates 130 = .ok (.iconst 0, 1) := by decide +kernel
theorem dX12_operates_131 : decode cX12_operates 131 = .ok (.aload_n 0, 1) := by decide +kernel
theorem dX12_operates_132 : decode cX12_operates 132 = .ok (.getfield 50, 3) := by decide +kernel
theorem dX12_operates_135 : decode cX12_operates 135 = .ok (.iconst 0, 1) := by decide +kernel
theorem dX12_operates_136 : decode cX12_operates 136 = .ok (.iaload, 1) := by decide +kernel
theorem dX12_operates_137 : decode cX12_operates 137 = .ok (.iload_n 2, 1) := by decide +kernel
theorem dX12_operates_138 : decode cX12_operates 138 = .ok (.iand, 1) := by decide +kernel
theorem dX12_operates_139 : decode cX12_operates 139 = .ok (.invokevirtual 297, 3) := by decide +kernel
theorem dX12_operates_142 : decode cX12_operates 142 = .ok (.goto 124, 3) := by decide +kernel
theorem dX12_operates_145 : decode cX12_operates 145 = .ok (.aload_n 0, 1) := by decide +kernel
theorem dX12_operates_146 : decode cX12_operates 146 = .ok (.iconst 0, 1) := by decide +kernel
theorem dX12_operates_147 : decode cX12_operates 147 = .ok (.aload_n 0, 1) := by decide +kernel
theorem dX12_operates_148 : decode cX12_operates 148 = .ok (.getfield 50, 3) := by decide +kernel
theorem dX12_operates_151 : decode cX12_operates 151 = .ok (.iconst 0, 1) := by decide +kernel
theorem dX12_operates_152 : decode cX12_operates 152 = .ok (.iaload, 1) := by decide +kernel
theorem dX12_operates_153 : decode cX12_operates 153 = .ok (.iload_n 2, 1) := by decide +kernel
theorem dX12_operates_154 : decode cX12_operates 154 = .ok (.ior, 1) := by decide +kernel
theorem dX12_operates_155 : decode cX12_operates 155 = .ok (.invokevirtual 297, 3) := by decide +kernel
theorem dX12_operates_158 : decode cX12_operates 158 = .ok (.goto 108, 3) := by decide +kernel
theorem dX12_operates_161 : decode cX12_operates 161 = .ok (.aload_n 0, 1) := by decide +kernel
theorem dX12_operates_162 : decode cX12_operates 162 = .ok (.iconst 0, 1) := by decide +kernel
theorem dX12_operates_163 : decode cX12_operates 163 = .ok (.aload_n 0, 1) := by decide +kernel
theorem dX12_operates_164 : decode cX12_operates 164 = .ok (.getfield 50, 3) := by decide +kernel
theorem dX12_operates_167 : decode cX12_operates 167 = .ok (.iconst 0, 1) := by decide +kernel
theorem dX12_operates_168 : decode cX12_operates 168 = .ok (.iaload, 1) := by decide +kernel
theorem dX12_operates_169 : decode cX12_operates 169 = .ok (.iload_n 2, 1) := by decide +kernel
theorem dX12_operates_170 : decode cX12_operates 170 = .ok (.ixor, 1) := by decide +kernel
theorem dX12_operates_171 : decode cX12_operates 171 = .ok (.invokevirtual 297, 3) := by decide +kernel
theorem dX12_operates_174 : decode cX12_operates 174 = .ok (.goto 92, 3) := by decide +kernel
theorem dX12_operates_177 : decode cX12_operates 177 = .ok (.aload_n 0, 1) := by decide +kernel
theorem dX12_operates_178 : decode cX12_operates 178 = .ok (.iconst 0, 1) := by decide +kernel
theorem dX12_operates_179 : decode cX12_operates 179 = .ok (.iload_n 2, 1) := by decide +kernel
theorem dX12_operates_180 : decode cX12_operates 180 = .ok (.invokevirtual 304, 3) := by decide +kernel
theorem dX12_operates_183 : decode cX12_operates 183 = .ok (.goto 83, 3) := by decide +kernel
theorem dX12_operates_186 : decode cX12_operates 186 = .ok (.aload_n 0, 1) := by decide +kernel
theorem dX12_operates_187 : decode cX12_operates 187 = .ok (.iconst 1, 1) := by decide +kernel
theorem dX12_operates_188 : decode cX12_operates 188 = .ok (.iload_n 2, 1) := by decide +kernel
theorem dX12_operates_189 : decode cX12_operates 189 = .ok (.invokevirtual 304, 3) := by decide +kernel
theorem dX12_operates_192 : decode cX12_operates 192 = .ok (.goto 74, 3) := by decide +kernel
theorem dX12_operates_195 : decode cX12_operates 195 = .ok (.aload_n 0, 1) := by decide +kernel
theorem dX12_operates_196 : decode cX12_operates 196 = .ok (.iconst 2, 1) := by decide +kernel
theorem dX12_operates_197 : decode cX12_operates 197 = .ok (.iload_n 2, 1) := by decide +kernel
theorem dX12_operates_198 : decode cX12_operates 198 = .ok (.invokevirtual 304, 3) := by decide +kernel
theorem dX12_operates_201 : decode cX12_operates 201 = .ok (.goto 65, 3) := by decide +kernel
theorem dX12_operates_204 : decode cX12_operates 204 = .ok (.aload_n 0, 1) := by decide +kernel
theorem dX12_operates_205 : decode cX12_operates 205 = .ok (.iconst 0, 1) := by decide +kernel
theorem dX12_operates_206 : decode cX12_operates 206 = .ok (.iload_n 2, 1) := by decide +kernel
theorem dX12_operates_207 : decode cX12_operates 207 = .ok (.invokevirtual 297, 3) := by decide +kernel
theorem dX12_operates_210 : decode cX12_operates 210 = .ok (.aload_n 0, 1) := by decide +kernel
theorem dX12_operates_211 : decode cX12_operates 211 = .ok (.getfield 50, 3) := by decide +kernel
theorem dX12_operates_214 : decode cX12_operates 214 = .ok (.iconst 1, 1) := by decide +kernel
theorem dX12_operates_215 : decode cX12_operates 215 = .ok (.iload_n 2, 1) := by decide +kernel
theorem dX12_operates_216 : decode cX12_operates 216 = .ok (.iastore, 1) := by decide +kernel
theorem dX12_operates_217 : decode cX12_operates 217 = .ok (.goto 49, 3) := by decide +kernel
theorem dX12_operates_220 : decode cX12_operates 220 = .ok (.aload_n 0, 1) := by decide +kernel
theorem dX12_operates_221 : decode cX12_operates 221 = .ok (.getfield 53, 3) := by decide +kernel
theorem dX12_operates_224 : decode cX12_operates 224 = .ok (.iconst 4, 1) := by decide +kernel
theorem dX12_operates_225 : decode cX12_operates 225 = .ok (.aload_n 0, 1) := by decide +kernel
theorem dX12_operates_226 : decode cX12_operates 226 = .ok (.getfield 50, 3) := by decide +kernel
theorem dX12_operates_229 : decode cX12_operates 229 = .ok (.iconst 0, 1) := by decide +kernel
theorem dX12_operates_230 : decode cX12_operates 230 = .ok (.iaload, 1) := by decide +kernel
theorem dX12_operates_231 : decode cX12_operates 231 = .ok (.iload_n 2, 1) := by decide +kernel
theorem dX12_operates_232 : decode cX12_operates 232 = .ok (.iand, 1) := by decide +kernel
theorem dX12_operates_233 : decode cX12_operates 233 = .ok (.ifCond .ne 7, 3) := by decide +kernel
theorem dX12_operates_236 : decode cX12_operates 236 = .ok (.iconst 1, 1) := by decide +kernel
theorem dX12_operates_237 : decode cX12_operates 237 = .ok (.goto 4, 3) := by decide +kernel
theorem dX12_operates_240 : decode cX12_operates 240 = .ok (.iconst 0, 1) := by decide +kernel
theorem dX12_operates_241 : decode cX12_operates 241 = .ok (.bastore, 1) := by decide +kernel
theorem dX12_operates_242 : decode cX12_operates 242 = .ok (.aload_n 0, 1) := by decide +kernel
theorem dX12_operates_243 : decode cX12_operates 243 = .ok (.getfield 53, 3) := by decide +kernel
theorem dX12_operates_246 : decode cX12_operates 246 = .ok (.iconst 0, 1) := by decide +kernel
theorem dX12_operates_247 : decode cX12_operates 247 = .ok (.iload_n 2, 1) := by decide +kernel
theorem dX12_operates_248 : decode cX12_operates 248 = .ok (.bipush 7, 2) := by decide +kernel
theorem dX12_operates_250 : decode cX12_operates 250 = .ok (.invokestatic 131, 3) := by decide +kernel
theorem dX12_operates_253 : decode cX12_operates 253 = .ok (.bastore, 1) := by decide +kernel
theorem dX12_operates_254 : decode cX12_operates 254 = .ok (.aload_n 0, 1) := by decide +kernel
theorem dX12_operates_255 : decode cX12_operates 255 = .ok (.getfield 53, 3) := by decide +kernel
theorem dX12_operates_258 : decode cX12_operates 258 = .ok (.iconst 1, 1) := by decide +kernel
theorem dX12_operates_259 : decode cX12_operates 259 = .ok (.iload_n 2, 1) := by decide +kernel
theorem dX12_operates_260 : decode cX12_operates 260 = .ok (.bipush 6, 2) := by decide +kernel
theorem dX12_operates_262 : decode cX12_operates 262 = .ok (.invokestatic 131, 3) := by decide +kernel
theorem dX12_operates_265 : decode cX12_operates 265 = .ok (.bastore, 1) := by decide +kernel
theorem dX12_operates_266 : decode cX12_operates 266 = .ok (.return_, 1) := by decide +kernel
theorem dX12_changes_0 : decode cX12_changes 0 = .ok (.iload_n 1, 1) := by decide +kernel
theorem dX12_changes_1 : decode cX12_changes 1 = .ok (.bipush 14, 2) := by decide +kernel
theorem dX12_changes_3 : decode cX12_changes 3 = .ok (.if_icmp .ge 7, 3) := by decide +kernel
theorem dX12_changes_6 : decode cX12_changes 6 = .ok (.iconst 0, 1) := by decide +kernel
theorem dX12_changes_7 : decode cX12_changes 7 = .ok (.goto 18, 3) := by decide +kernel
theorem dX12_changes_10 : decode cX12_changes 10 = .ok (.iload_n 1, 1) := by decide +kernel
theorem dX12_changes_11 : decode cX12_changes 11 = .ok (.bipush 17, 2) := by decide +kernel
theorem dX12_changes_13 : decode cX12_changes 13 = .ok (.if_icmp .ne 7, 3) := by decide +kernel
theorem dX12_changes_16 : decode cX12_changes 16 = .ok (.iconst 0, 1) := by decide +kernel
theorem dX12_changes_17 : decode cX12_changes 17 = .ok (.goto 8, 3) := by decide +kernel
theorem dX12_changes_20 : decode cX12_changes 20 = .ok (.aload_n 0, 1) := by decide +kernel
theorem dX12_changes_21 : decode cX12_changes 21 = .ok (.iload_n 2, 1) := by decide +kernel
theorem dX12_changes_22 : decode cX12_changes 22 = .ok (.invokevirtual 307, 3) := by decide +kernel
theorem dX12_changes_25 : decode cX12_changes 25 = .ok (.istore_n 3, 1) := by decide +kernel
theorem dX12_changes_26 : decode cX12_changes 26 = .ok (.iload_n 1, 1) := by decide +kernel
theorem dX12_changes_27 : decode cX12_changes 27 = .ok (.bipush 14, 2) := by decide +kernel
theorem dX12_changes_29 : decode cX12_changes 29 = .ok (.if_icmp .eq 9, 3) := by decide +kernel
theorem dX12_changes_32 : decode cX12_changes 32 = .ok (.iload_n 1, 1) := by decide +kernel
theorem dX12_changes_33 : decode cX12_changes 33 = .ok (.bipush 19, 2) := by decide +kernel
theorem dX12_changes_35 : decode cX12_changes 35 = .ok (.if_icmp .ne 13, 3) := by decide +kernel
theorem dX12_changes_38 : decode cX12_changes 38 = .ok (.iload_n 3, 1) := by decide +kernel
theorem dX12_changes_39 : decode cX12_changes 39 = .ok (.iconst 1, 1) := by decide +kernel
theorem dX12_changes_40 : decode cX12_changes 40 = .ok (.iadd, 1) := by decide +kernel
theorem dX12_changes_41 : decode cX12_changes 41 = .ok (.sipush 255, 3) := by decide +kernel
theorem dX12_changes_44 : decode cX12_changes 44 = .ok (.iand, 1) := by decide +kernel
theorem dX12_changes_45 : decode cX12_changes 45 = .ok (.goto 10, 3) := by decide +kernel
theorem dX12_changes_48 : decode cX12_changes 48 = .ok (.iload_n 3, 1) := by decide +kernel
theorem dX12_changes_49 : decode cX12_changes 49 = .ok (.iconst 1, 1) := by decide +kernel
theorem dX12_changes_50 : decode cX12_changes 50 = .ok (.isub, 1) := by decide +kernel
theorem dX12_changes_51 : decode cX12_changes 51 = .ok (.sipush 255, 3) := by decide +kernel
theorem dX12_changes_54 : decode cX12_changes 54 = .ok (.iand, 1) := by decide +kernel
theorem dX12_changes_55 : decode cX12_changes 55 = .ok (.istore 4, 2) := by decide +kernel
theorem dX12_changes_57 : decode cX12_changes 57 = .ok (.iload_n 1, 1) := by decide +kernel
theorem dX12_changes_58 : decode cX12_changes 58 = .ok (.lookupswitch 105 #[(3, 42), (4, 56), (5, 70), (17, 84)], 42) := by decide +kernel
theorem dX12_changes_100 : decode cX12_changes 100 = .ok (.aload_n 0, 1) := by decide +kernel
theorem dX12_changes_101 : decode cX12_changes 101 = .ok (.iload_n 2, 1) := by decide +kernel
theorem dX12_changes_102 : decode cX12_changes 102 = .ok (.aload_n 0, 1) := by decide +kernel
theorem dX12_changes_103 : decode cX12_changes 103 = .ok (.getfield 50, 3) := by decide +kernel
theorem dX12_changes_106 : decode cX12_changes 106 = .ok (.iconst 0, 1) := by decide +kernel
theorem dX12_changes_107 : decode cX12_changes 107 = .ok (.iaload, 1) := by decide +kernel
theorem dX12_changes_108 : decode cX12_changes 108 = .ok (.invokevirtual 170, 3) := by decide +kernel
theorem dX12_changes_111 : decode cX12_changes 111 = .ok (.goto 98, 3) := by decide +kernel
theorem dX12_changes_114 : decode cX12_changes 114 = .ok (.aload_n 0, 1) := by decide +kernel
theorem dX12_changes_115 : decode cX12_changes 115 = .ok (.iload_n 2, 1) := by decide +kernel
theorem dX12_changes_116 : decode cX12_changes 116 = .ok (.aload_n 0, 1) := by decide +kernel
theorem dX12_changes_117 : decode cX12_changes 117 = .ok (.getfield 50, 3) := by decide +kernel
theorem dX12_changes_120 : decode cX12_changes 120 = .ok (.iconst 1, 1) := by decide +kernel
theorem dX12_changes_121 : decode cX12_changes 121 = .ok (.iaload, 1) := by decide +kernel
theorem dX12_changes_122 : decode cX12_changes 122 = .ok (.invokevirtual 170, 3) := by decide +kernel
theorem dX12_changes_125 : decode cX12_changes 125 = .ok (.goto 84, 3) := by decide +kernel
theorem dX12_changes_128 : decode cX12_changes 128 = .ok (.aload_n 0, 1) := by decide +kernel
theorem dX12_changes_129 : decode cX12_changes 129 = .ok (.iload_n 2, 1) := by decide +kernel
theorem dX12_changes_130 : decode cX12_changes 130 = .ok (.aload_n 0, 1) := by decide +kernel
theorem dX12_changes_131 : decode cX12_changes 131 = .ok (.getfield 50, 3) := by decide +kernel
theorem dX12_changes_134 : decode cX12_changes 134 = .ok (.iconst 2, 1) := by decide +kernel
theorem dX12_changes_135 : decode cX12_changes 135 = .ok (.iaload, 1) := by decide +kernel
theorem dX12_changes_136 : decode cX12_changes 136 = .ok (.invokevirtual 170, 3) := by decide +kernel
theorem dX12_changes_139 : decode cX12_changes 139 = .ok (.goto 70, 3) := by decide +kernel
theorem dX12_changes_142 : decode cX12_changes 142 = .ok (.aload_n 0, 1) := by decide +kernel
theorem dX12_changes_143 : decode cX12_changes 143 = .ok (.iload_n 2, 1) := by decide +kernel
theorem dX12_changes_144 : decode cX12_changes 144 = .ok (.aload_n 0, 1) := by decide +kernel
theorem dX12_changes_145 : decode cX12_changes 145 = .ok (.getfield 50, 3) := by decide +kernel
theorem dX12_changes_148 : decode cX12_changes 148 = .ok (.iconst 0, 1) := by decide +kernel
theorem dX12_changes_149 : decode cX12_changes 149 = .ok (.iaload, 1) := by decide +kernel
theorem dX12_changes_150 : decode cX12_changes 150 = .ok (.aload_n 0, 1) := by decide +kernel
theorem dX12_changes_151 : decode cX12_changes 151 = .ok (.getfield 50, 3) := by decide +kernel
theorem dX12_changes_154 : decode cX12_changes 154 = .ok (.iconst 1, 1) := by decide +kernel
theorem dX12_changes_155 : decode cX12_changes 155 = .ok (.iaload, 1) := by decide +kernel
theorem dX12_changes_156 : decode cX12_changes 156 = .ok (.iand, 1) := by decide +kernel
theorem dX12_changes_157 : decode cX12_changes 157 = .ok (.invokevirtual 170, 3) := by decide +kernel
theorem dX12_changes_160 : decode cX12_changes 160 = .ok (.goto 49, 3) := by decide +kernel
theorem dX12_changes_163 : decode cX12_changes 163 = .ok (.aload_n 0, 1) := by decide +kernel
theorem dX12_changes_164 : decode cX12_changes 164 = .ok (.iload_n 2, 1) := by decide +kernel
theorem dX12_changes_165 : decode cX12_changes 165 = .ok (.iload 4, 2) := by decide +kernel
theorem dX12_changes_167 : decode cX12_changes 167 = .ok (.invokevirtual 170, 3) := by decide +kernel
theorem dX12_changes_170 : decode cX12_changes 170 = .ok (.iload_n 1, 1) := by decide +kernel
theorem dX12_changes_171 : decode cX12_changes 171 = .ok (.bipush 18, 2) := by decide +kernel
theorem dX12_changes_173 : decode cX12_changes 173 = .ok (.if_icmp .ne 13, 3) := by decide +kernel
theorem dX12_changes_176 : decode cX12_changes 176 = .ok (.aload_n 0, 1) := by decide +kernel
theorem dX12_changes_177 : decode cX12_changes 177 = .ok (.iconst 0, 1) := by decide +kernel
theorem dX12_changes_178 : decode cX12_changes 178 = .ok (.iload 4, 2) := by decide +kernel
theorem dX12_changes_180 : decode cX12_changes 180 = .ok (.invokevirtual 304, 3) := by decide +kernel
theorem dX12_changes_183 : decode cX12_changes 183 = .ok (.goto 26, 3) := by decide +kernel
theorem dX12_changes_186 : decode cX12_changes 186 = .ok (.iload_n 1, 1) := by decide +kernel
theorem dX12_changes_187 : decode cX12_changes 187 = .ok (.bipush 19, 2) := by decide +kernel
theorem dX12_changes_189 : decode cX12_changes 189 = .ok (.if_icmp .ne 13, 3) := by decide +kernel
theorem dX12_changes_192 : decode cX12_changes 192 = .ok (.aload_n 0, 1) := by decide +kernel
theorem dX12_changes_193 : decode cX12_changes 193 = .ok (.iconst 0, 1) := by decide +kernel
theorem dX12_changes_194 : decode cX12_changes 194 = .ok (.iload 4, 2) := by decide +kernel
theorem dX12_changes_196 : decode cX12_changes 196 = .ok (.invokevirtual 300, 3) := by decide +kernel
theorem dX12_changes_199 : decode cX12_changes 199 = .ok (.goto 10, 3) := by decide +kernel
theorem dX12_changes_202 : decode cX12_changes 202 = .ok (.aload_n 0, 1) := by decide +kernel
theorem dX12_changes_203 : decode cX12_changes 203 = .ok (.iload 4, 2) := by decide +kernel
theorem dX12_changes_205 : decode cX12_changes 205 = .ok (.invokevirtual 284, 3) := by decide +kernel
theorem dX12_changes_208 : decode cX12_changes 208 = .ok (.pop, 1) := by decide +kernel
theorem dX12_changes_209 : decode cX12_changes 209 = .ok (.return_, 1) := by decide +kernel
theorem dX12_doesMode_0 : decode cX12_doesMode 0 = .ok (.iload_n 1, 1) := by decide +kernel
theorem dX12_doesMode_1 : decode cX12_doesMode 1 = .ok (.invokestatic 262, 3) := by decide +kernel
theorem dX12_doesMode_4 : decode cX12_doesMode 4 = .ok (.ifCond .eq 21, 3) := by decide +kernel
theorem dX12_doesMode_7 : decode cX12_doesMode 7 = .ok (.iload_n 2, 1) := by decide +kernel
theorem dX12_doesMode_8 : decode cX12_doesMode 8 = .ok (.ifCond .le 46, 3) := by decide +kernel
theorem dX12_doesMode_11 : decode cX12_doesMode 11 = .ok (.aload_n 0, 1) := by decide +kernel
theorem dX12_doesMode_12 : decode cX12_doesMode 12 = .ok (.iload_n 1, 1) := by decide +kernel
theorem dX12_doesMode_13 : decode cX12_doesMode 13 = .ok (.aload_n 0, 1) := by decide +kernel
theorem dX12_doesMode_14 : decode cX12_doesMode 14 = .ok (.iload_n 2, 1) := by decide +kernel
theorem dX12_doesMode_15 : decode cX12_doesMode 15 = .ok (.iload_n 3, 1) := by decide +kernel
theorem dX12_doesMode_16 : decode cX12_doesMode 16 = .ok (.invokevirtual 259, 3) := by decide +kernel
theorem dX12_doesMode_19 : decode cX12_doesMode 19 = .ok (.invokevirtual 310, 3) := by decide +kernel
theorem dX12_doesMode_22 : decode cX12_doesMode 22 = .ok (.goto 32, 3) := by decide +kernel
theorem dX12_doesMode_25 : decode cX12_doesMode 25 = .ok (.aload_n 0, 1) := by decide +kernel
theorem dX12_doesMode_26 : decode cX12_doesMode 26 = .ok (.iload_n 1, 1) := by decide +kernel
theorem dX12_doesMode_27 : decode cX12_doesMode 27 = .ok (.iload_n 2, 1) := by decide +kernel
theorem dX12_doesMode_28 : decode cX12_doesMode 28 = .ok (.ifCond .ne 13, 3) := by decide +kernel
theorem dX12_doesMode_31 : decode cX12_doesMode 31 = .ok (.aload_n 0, 1) := by decide +kernel
theorem dX12_doesMode_32 : decode cX12_doesMode 32 = .ok (.iload_n 3, 1) := by decide +kernel
theorem dX12_doesMode_33 : decode cX12_doesMode 33 = .ok (.iconst 1, 1) := by decide +kernel
theorem dX12_doesMode_34 : decode cX12_doesMode 34 = .ok (.iadd, 1) := by decide +kernel
theorem dX12_doesMode_35 : decode cX12_doesMode 35 = .ok (.invokevirtual 250, 3) := by decide +kernel
theorem dX12_doesMode_38 : decode cX12_doesMode 38 = .ok (.goto 13, 3) := by decide +kernel
theorem dX12_doesMode_41 : decode cX12_doesMode 41 = .ok (.aload_n 0, 1) := by decide +kernel
theorem dX12_doesMode_42 : decode cX12_doesMode 42 = .ok (.aload_n 0, 1) := by decide +kernel
theorem dX12_doesMode_43 : decode cX12_doesMode 43 = .ok (.iload_n 2, 1) := by decide +kernel
theorem dX12_doesMode_44 : decode cX12_doesMode 44 = .ok (.iload_n 3, 1) := by decide +kernel
theorem dX12_doesMode_45 : decode cX12_doesMode 45 = .ok (.invokevirtual 259, 3) := by decide +kernel
theorem dX12_doesMode_48 : decode cX12_doesMode 48 = .ok (.invokevirtual 307, 3) := by decide +kernel
theorem dX12_doesMode_51 : decode cX12_doesMode 51 = .ok (.invokevirtual 313, 3) := by decide +kernel
theorem dX12_doesMode_54 : decode cX12_doesMode 54 = .ok (.return_, 1) := by decide +kernel
theorem dX12_shifts_0 : decode cX12_shifts 0 = .ok (.aload_n 0, 1) := by decide +kernel
theorem dX12_shifts_1 : decode cX12_shifts 1 = .ok (.getfield 50, 3) := by decide +kernel
theorem dX12_shifts_4 : decode cX12_shifts 4 = .ok (.iconst 0, 1) := by decide +kernel
theorem dX12_shifts_5 : decode cX12_shifts 5 = .ok (.iaload, 1) := by decide +kernel
theorem dX12_shifts_6 : decode cX12_shifts 6 = .ok (.istore_n 2, 1) := by decide +kernel
theorem dX12_shifts_7 : decode cX12_shifts 7 = .ok (.aload_n 0, 1) := by decide +kernel
theorem dX12_shifts_8 : decode cX12_shifts 8 = .ok (.iconst 5, 1) := by decide +kernel
theorem dX12_shifts_9 : decode cX12_shifts 9 = .ok (.iconst 1, 1) := by decide +kernel
theorem dX12_shifts_10 : decode cX12_shifts 10 = .ok (.invokevirtual 275, 3) := by decide +kernel
theorem dX12_shifts_13 : decode cX12_shifts 13 = .ok (.istore_n 3, 1) := by decide +kernel
theorem dX12_shifts_14 : decode cX12_shifts 14 = .ok (.aload_n 0, 1) := by decide +kernel
theorem dX12_shifts_15 : decode cX12_shifts 15 = .ok (.getfield 53, 3) := by decide +kernel
theorem dX12_shifts_18 : decode cX12_shifts 18 = .ok (.iconst 5, 1) := by decide +kernel
theorem dX12_shifts_19 : decode cX12_shifts 19 = .ok (.iload_n 2, 1) := by decide +kernel
theorem dX12_shifts_20 : decode cX12_shifts 20 = .ok (.iload_n 1, 1) := by decide +kernel
theorem dX12_shifts_21 : decode cX12_shifts 21 = .ok (.iconst 2, 1) := by decide +kernel
theorem dX12_shifts_22 : decode cX12_shifts 22 = .ok (.irem, 1) := by decide +kernel
theorem dX12_shifts_23 : decode cX12_shifts 23 = .ok (.ifCond .ne 8, 3) := by decide +kernel
theorem dX12_shifts_26 : decode cX12_shifts 26 = .ok (.bipush 7, 2) := by decide +kernel
theorem dX12_shifts_28 : decode cX12_shifts 28 = .ok (.goto 4, 3) := by decide +kernel
theorem dX12_shifts_31 : decode cX12_shifts 31 = .ok (.iconst 0, 1) := by decide +kernel
theorem dX12_shifts_32 : decode cX12_shifts 32 = .ok (.invokestatic 131, 3) := by decide +kernel
theorem dX12_shifts_35 : decode cX12_shifts 35 = .ok (.bastore, 1) := by decide +kernel
theorem dX12_shifts_36 : decode cX12_shifts 36 = .ok (.aload_n 0, 1) := by decide +kernel
theorem dX12_shifts_37 : decode cX12_shifts 37 = .ok (.iconst 0, 1) := by decide +kernel
theorem dX12_shifts_38 : decode cX12_shifts 38 = .ok (.iload_n 1, 1) := by decide +kernel
theorem dX12_shifts_39 : decode cX12_shifts 39 = .ok (.sipush 150, 3) := by decide +kernel
theorem dX12_shifts_42 : decode cX12_shifts 42 = .ok (.if_icmp .ne 13, 3) := by decide +kernel
theorem dX12_shifts_45 : decode cX12_shifts 45 = .ok (.iload_n 2, 1) := by decide +kernel
theorem dX12_shifts_46 : decode cX12_shifts 46 = .ok (.iconst 2, 1) := by decide +kernel
theorem dX12_shifts_47 : decode cX12_shifts 47 = .ok (.imul, 1) := by decide +kernel
theorem dX12_shifts_48 : decode cX12_shifts 48 = .ok (.sipush 255, 3) := by decide +kernel
theorem dX12_shifts_51 : decode cX12_shifts 51 = .ok (.iand, 1) := by decide +kernel
theorem dX12_shifts_52 : decode cX12_shifts 52 = .ok (.goto 44, 3) := by decide +kernel
theorem dX12_shifts_55 : decode cX12_shifts 55 = .ok (.iload_n 1, 1) := by decide +kernel
theorem dX12_shifts_56 : decode cX12_shifts 56 = .ok (.sipush 151, 3) := by decide +kernel
theorem dX12_shifts_59 : decode cX12_shifts 59 = .ok (.if_icmp .ne 9, 3) := by decide +kernel
theorem dX12_shifts_62 : decode cX12_shifts 62 = .ok (.iload_n 2, 1) := by decide +kernel
theorem dX12_shifts_63 : decode cX12_shifts 63 = .ok (.iconst 2, 1) := by decide +kernel
theorem dX12_shifts_64 : decode cX12_shifts 64 = .ok (.idiv, 1) := by decide +kernel
theorem dX12_shifts_65 : decode cX12_shifts 65 = .ok (.goto 31, 3) := by decide +kernel
theorem dX12_shifts_68 : decode cX12_shifts 68 = .ok (.iload_n 1, 1) := by decide +kernel
theorem dX12_shifts_69 : decode cX12_shifts 69 = .ok (.sipush 152, 3) := by decide +kernel
theorem dX12_shifts_72 : decode cX12_shifts 72 = .ok (.if_icmp .ne 15, 3) := by decide +kernel
theorem dX12_shifts_75 : decode cX12_shifts 75 = .ok (.iload_n 2, 1) := by decide +kernel
theorem dX12_shifts_76 : decode cX12_shifts 76 = .ok (.iconst 2, 1) := by decide +kernel
theorem dX12_shifts_77 : decode cX12_shifts 77 = .ok (.imul, 1) := by decide +kernel
theorem dX12_shifts_78 : decode cX12_shifts 78 = .ok (.iload_n 3, 1) := by decide +kernel
theorem dX12_shifts_79 : decode cX12_shifts 79 = .ok (.iadd, 1) := by decide +kernel
theorem dX12_shifts_80 : decode cX12_shifts 80 = .ok (.sipush 255, 3) := by decide +kernel
theorem dX12_shifts_83 : decode cX12_shifts 83 = .ok (.iand, 1) := by decide +kernel
theorem dX12_shifts_84 : decode cX12_shifts 84 = .ok (.goto 12, 3) := by decide +kernel
theorem dX12_shifts_87 : decode cX12_shifts 87 = .ok (.iload_n 2, 1) := by decide +kernel
theorem dX12_shifts_88 : decode cX12_shifts 88 = .ok (.iconst 2, 1) := by decide +kernel
theorem dX12_shifts_89 : decode cX12_shifts 89 = .ok (.idiv, 1) := by decide +kernel
theorem dX12_shifts_90 : decode cX12_shifts 90 = .ok (.sipush 128, 3) := by decide +kernel
theorem dX12_shifts_93 : decode cX12_shifts 93 = .ok (.iload_n 3, 1) := by decide +kernel
theorem dX12_shifts_94 : decode cX12_shifts 94 = .ok (.imul, 1) := by decide +kernel
theorem dX12_shifts_95 : decode cX12_shifts 95 = .ok (.iadd, 1) := by decide +kernel
theorem dX12_shifts_96 : decode cX12_shifts 96 = .ok (.invokevirtual 297, 3) := by decide +kernel
theorem dX12_shifts_99 : decode cX12_shifts 99 = .ok (.return_, 1) := by decide +kernel
theorem dX12_doesOther_0 : decode cX12_doesOther 0 = .ok (.iload_n 1, 1) := by decide +kernel
theorem dX12_doesOther_1 : decode cX12_doesOther 1 = .ok (.tableswitch 414 128 153 #[119, 139, 159, 179, 199, 213, 227, 241, 255, 269, 284, 297, 309, 322, 333, 343, 353, 363, 373, 383, 393, 403, 406, 406, 406, 406], 119) := by decide +kernel
theorem dX12_doesOther_120 : decode cX12_doesOther 120 = .ok (.aload_n 0, 1) := by decide +kernel
theorem dX12_doesOther_121 : decode cX12_doesOther 121 = .ok (.iconst 1, 1) := by decide +kernel
theorem dX12_doesOther_122 : decode cX12_doesOther 122 = .ok (.aload_n 0, 1) := by decide +kernel
theorem dX12_doesOther_123 : decode cX12_doesOther 123 = .ok (.getfield 50, 3) := by decide +kernel
theorem dX12_doesOther_126 : decode cX12_doesOther 126 = .ok (.iconst 1, 1) := by decide +kernel
theorem dX12_doesOther_127 : decode cX12_doesOther 127 = .ok (.iaload, 1) := by decide +kernel
theorem dX12_doesOther_128 : decode cX12_doesOther 128 = .ok (.iconst 1, 1) := by decide +kernel
theorem dX12_doesOther_129 : decode cX12_doesOther 129 = .ok (.iadd, 1) := by decide +kernel
theorem dX12_doesOther_130 : decode cX12_doesOther 130 = .ok (.sipush 255, 3) := by decide +kernel
theorem dX12_doesOther_133 : decode cX12_doesOther 133 = .ok (.iand, 1) := by decide +kernel
theorem dX12_doesOther_134 : decode cX12_doesOther 134 = .ok (.invokevirtual 297, 3) := by decide +kernel
theorem dX12_doesOther_137 : decode cX12_doesOther 137 = .ok (.goto 286, 3) := by decide +kernel
theorem dX12_doesOther_140 : decode cX12_doesOther 140 = .ok (.aload_n 0, 1) := by decide +kernel
theorem dX12_doesOther_141 : decode cX12_doesOther 141 = .ok (.iconst 1, 1) := by decide +kernel
theorem dX12_doesOther_142 : decode cX12_doesOther 142 = .ok (.aload_n 0, 1) := by decide +kernel
theorem dX12_doesOther_143 : decode cX12_doesOther 143 = .ok (.getfield 50, 3) := by decide +kernel
theorem dX12_doesOther_146 : decode cX12_doesOther 146 = .ok (.iconst 1, 1) := by decide +kernel
theorem dX12_doesOther_147 : decode cX12_doesOther 147 = .ok (.iaload, 1) := by decide +kernel
theorem dX12_doesOther_148 : decode cX12_doesOther 148 = .ok (.iconst 1, 1) := by decide +kernel
theorem dX12_doesOther_149 : decode cX12_doesOther 149 = .ok (.isub, 1) := by decide +kernel
theorem dX12_doesOther_150 : decode cX12_doesOther 150 = .ok (.sipush 255, 3) := by decide +kernel
theorem dX12_doesOther_153 : decode cX12_doesOther 153 = .ok (.iand, 1) := by decide +kernel
theorem dX12_doesOther_154 : decode cX12_doesOther 154 = .ok (.invokevirtual 297, 3) := by decide +kernel
theorem dX12_doesOther_157 : decode cX12_doesOther 157 = .ok (.goto 266, 3) := by decide +kernel
theorem dX12_doesOther_160 : decode cX12_doesOther 160 = .ok (.aload_n 0, 1) := by decide +kernel
theorem dX12_doesOther_161 : decode cX12_doesOther 161 = .ok (.iconst 2, 1) := by decide +kernel
theorem dX12_doesOther_162 : decode cX12_doesOther 162 = .ok (.aload_n 0, 1) := by decide +kernel
theorem dX12_doesOther_163 : decode cX12_doesOther 163 = .ok (.getfield 50, 3) := by decide +kernel
theorem dX12_doesOther_166 : decode cX12_doesOther 166 = .ok (.iconst 2, 1) := by decide +kernel
theorem dX12_doesOther_167 : decode cX12_doesOther 167 = .ok (.iaload, 1) := by decide +kernel
theorem dX12_doesOther_168 : decode cX12_doesOther 168 = .ok (.iconst 1, 1) := by decide +kernel
theorem dX12_doesOther_169 : decode cX12_doesOther 169 = .ok (.iadd, 1) := by decide +kernel
theorem dX12_doesOther_170 : decode cX12_doesOther 170 = .ok (.sipush 255, 3) := by decide +kernel
theorem dX12_doesOther_173 : decode cX12_doesOther 173 = .ok (.iand, 1) := by decide +kernel
theorem dX12_doesOther_174 : decode cX12_doesOther 174 = .ok (.invokevirtual 297, 3) := by decide +kernel
theorem dX12_doesOther_177 : decode cX12_doesOther 177 = .ok (.goto 246, 3) := by decide +kernel
theorem dX12_doesOther_180 : decode cX12_doesOther 180 = .ok (.aload_n 0, 1) := by decide +kernel
theorem dX12_doesOther_181 : decode cX12_doesOther 181 = .ok (.iconst 2, 1) := by decide +kernel
theorem dX12_doesOther_182 : decode cX12_doesOther 182 = .ok (.aload_n 0, 1) := by decide +kernel
theorem dX12_doesOther_183 : decode cX12_doesOther 183 = .ok (.getfield 50, 3) := by decide +kernel
theorem dX12_doesOther_186 : decode cX12_doesOther 186 = .ok (.iconst 2, 1) := by decide +kernel
theorem dX12_doesOther_187 : decode cX12_doesOther 187 = .ok (.iaload, 1) := by decide +kernel
theorem dX12_doesOther_188 : decode cX12_doesOther 188 = .ok (.iconst 1, 1) := by decide +kernel
theorem dX12_doesOther_189 : decode cX12_doesOther 189 = .ok (.isub, 1) := by decide +kernel
theorem dX12_doesOther_190 : decode cX12_doesOther 190 = .ok (.sipush 255, 3) := by decide +kernel
theorem dX12_doesOther_193 : decode cX12_doesOther 193 = .ok (.iand, 1) := by decide +kernel
theorem dX12_doesOther_194 : decode cX12_doesOther 194 = .ok (.invokevirtual 297, 3) := by decide +kernel
theorem dX12_doesOther_197 : decode cX12_doesOther 197 = .ok (.goto 226, 3) := by decide +kernel
theorem dX12_doesOther_200 : decode cX12_doesOther 200 = .ok (.aload_n 0, 1) := by decide +kernel
theorem dX12_doesOther_201 : decode cX12_doesOther 201 = .ok (.iconst 1, 1) := by decide +kernel
theorem dX12_doesOther_202 : decode cX12_doesOther 202 = .ok (.aload_n 0, 1) := by decide +kernel
theorem dX12_doesOther_203 : decode cX12_doesOther 203 = .ok (.getfield 50, 3) := by decide +kernel
theorem dX12_doesOther_206 : decode cX12_doesOther 206 = .ok (.iconst 0, 1) := by decide +kernel
theorem dX12_doesOther_207 : decode cX12_doesOther 207 = .ok (.iaload, 1) := by decide +kernel
theorem dX12_doesOther_208 : decode cX12_doesOther 208 = .ok (.invokevirtual 297, 3) := by decide +kernel
theorem dX12_doesOther_211 : decode cX12_doesOther 211 = .ok (.goto 212, 3) := by decide +kernel
theorem dX12_doesOther_214 : decode cX12_doesOther 214 = .ok (.aload_n 0, 1) := by decide +kernel
theorem dX12_doesOther_215 : decode cX12_doesOther 215 = .ok (.iconst 0, 1) := by decide +kernel
theorem dX12_doesOther_216 : decode cX12_doesOther 216 = .ok (.aload_n 0, 1) := by decide +kernel
theorem dX12_doesOther_217 : decode cX12_doesOther 217 = .ok (.getfield 50, 3) := by decide +kernel
theorem dX12_doesOther_220 : decode cX12_doesOther 220 = .ok (.iconst 1, 1) := by decide +kernel
theorem dX12_doesOther_221 : decode cX12_doesOther 221 = .ok (.iaload, 1) := by decide +kernel
theorem dX12_doesOther_222 : decode cX12_doesOther 222 = .ok (.invokevirtual 297, 3) := by decide +kernel
theorem dX12_doesOther_225 : decode cX12_doesOther 225 = .ok (.goto 198, 3) := by decide +kernel
theorem dX12_doesOther_228 : decode cX12_doesOther 228 = .ok (.aload_n 0, 1) := by decide +kernel
theorem dX12_doesOther_229 : decode cX12_doesOther 229 = .ok (.iconst 2, 1) := by decide +kernel
theorem dX12_doesOther_230 : decode cX12_doesOther 230 = .ok (.aload_n 0, 1) := by decide +kernel
theorem dX12_doesOther_231 : decode cX12_doesOther 231 = .ok (.getfield 50, 3) := by decide +kernel
theorem dX12_doesOther_234 : decode cX12_doesOther 234 = .ok (.iconst 0, 1) := by decide +kernel
theorem dX12_doesOther_235 : decode cX12_doesOther 235 = .ok (.iaload, 1) := by decide +kernel
theorem dX12_doesOther_236 : decode cX12_doesOther 236 = .ok (.invokevirtual 297, 3) := by decide +kernel
theorem dX12_doesOther_239 : decode cX12_doesOther 239 = .ok (.goto 184, 3) := by decide +kernel
theorem dX12_doesOther_242 : decode cX12_doesOther 242 = .ok (.aload_n 0, 1) := by decide +kernel
theorem dX12_doesOther_243 : decode cX12_doesOther 243 = .ok (.iconst 0, 1) := by decide +kernel
theorem dX12_doesOther_244 : decode cX12_doesOther 244 = .ok (.aload_n 0, 1) := by decide +kernel
theorem dX12_doesOther_245 : decode cX12_doesOther 245 = .ok (.getfield 50, 3) := by decide +kernel
theorem dX12_doesOther_248 : decode cX12_doesOther 248 = .ok (.iconst 2, 1) := by decide +kernel
theorem dX12_doesOther_249 : decode cX12_doesOther 249 = .ok (.iaload, 1) := by decide +kernel
theorem dX12_doesOther_250 : decode cX12_doesOther 250 = .ok (.invokevirtual 297, 3) := by decide +kernel
theorem dX12_doesOther_253 : decode cX12_doesOther 253 = .ok (.goto 170, 3) := by decide +kernel
theorem dX12_doesOther_256 : decode cX12_doesOther 256 = .ok (.aload_n 0, 1) := by decide +kernel
theorem dX12_doesOther_257 : decode cX12_doesOther 257 = .ok (.iconst 1, 1) := by decide +kernel
theorem dX12_doesOther_258 : decode cX12_doesOther 258 = .ok (.aload_n 0, 1) := by decide +kernel
theorem dX12_doesOther_259 : decode cX12_doesOther 259 = .ok (.getfield 50, 3) := by decide +kernel
theorem dX12_doesOther_262 : decode cX12_doesOther 262 = .ok (.iconst 3, 1) := by decide +kernel
theorem dX12_doesOther_263 : decode cX12_doesOther 263 = .ok (.iaload, 1) := by decide +kernel
theorem dX12_doesOther_264 : decode cX12_doesOther 264 = .ok (.invokevirtual 297, 3) := by decide +kernel
theorem dX12_doesOther_267 : decode cX12_doesOther 267 = .ok (.goto 156, 3) := by decide +kernel
theorem dX12_doesOther_270 : decode cX12_doesOther 270 = .ok (.aload_n 0, 1) := by decide +kernel
theorem dX12_doesOther_271 : decode cX12_doesOther 271 = .ok (.getfield 50, 3) := by decide +kernel
theorem dX12_doesOther_274 : decode cX12_doesOther 274 = .ok (.iconst 3, 1) := by decide +kernel
theorem dX12_doesOther_275 : decode cX12_doesOther 275 = .ok (.aload_n 0, 1) := by decide +kernel
theorem dX12_doesOther_276 : decode cX12_doesOther 276 = .ok (.getfield 50, 3) := by decide +kernel
theorem dX12_doesOther_279 : decode cX12_doesOther 279 = .ok (.iconst 1, 1) := by decide +kernel
theorem dX12_doesOther_280 : decode cX12_doesOther 280 = .ok (.iaload, 1) := by decide +kernel
theorem dX12_doesOther_281 : decode cX12_doesOther 281 = .ok (.iastore, 1) := by decide +kernel
theorem dX12_doesOther_282 : decode cX12_doesOther 282 = .ok (.goto 141, 3) := by decide +kernel
theorem dX12_doesOther_285 : decode cX12_doesOther 285 = .ok (.aload_n 0, 1) := by decide +kernel
theorem dX12_doesOther_286 : decode cX12_doesOther 286 = .ok (.aload_n 0, 1) := by decide +kernel
theorem dX12_doesOther_287 : decode cX12_doesOther 287 = .ok (.getfield 50, 3) := by decide +kernel
theorem dX12_doesOther_290 : decode cX12_doesOther 290 = .ok (.iconst 0, 1) := by decide +kernel
theorem dX12_doesOther_291 : decode cX12_doesOther 291 = .ok (.iaload, 1) := by decide +kernel
theorem dX12_doesOther_292 : decode cX12_doesOther 292 = .ok (.invokevirtual 278, 3) := by decide +kernel
theorem dX12_doesOther_295 : decode cX12_doesOther 295 = .ok (.goto 128, 3) := by decide +kernel
theorem dX12_doesOther_298 : decode cX12_doesOther 298 = .ok (.aload_n 0, 1) := by decide +kernel
theorem dX12_doesOther_299 : decode cX12_doesOther 299 = .ok (.iconst 0, 1) := by decide +kernel
theorem dX12_doesOther_300 : decode cX12_doesOther 300 = .ok (.aload_n 0, 1) := by decide +kernel
theorem dX12_doesOther_301 : decode cX12_doesOther 301 = .ok (.invokevirtual 316, 3) := by decide +kernel
theorem dX12_doesOther_304 : decode cX12_doesOther 304 = .ok (.invokevirtual 297, 3) := by decide +kernel
theorem dX12_doesOther_307 : decode cX12_doesOther 307 = .ok (.goto 116, 3) := by decide +kernel
theorem dX12_doesOther_310 : decode cX12_doesOther 310 = .ok (.aload_n 0, 1) := by decide +kernel
theorem dX12_doesOther_311 : decode cX12_doesOther 311 = .ok (.aload_n 0, 1) := by decide +kernel
theorem dX12_doesOther_312 : decode cX12_doesOther 312 = .ok (.bipush 16, 2) := by decide +kernel
theorem dX12_doesOther_314 : decode cX12_doesOther 314 = .ok (.invokevirtual 281, 3) := by decide +kernel
theorem dX12_doesOther_317 : decode cX12_doesOther 317 = .ok (.invokevirtual 278, 3) := by decide +kernel
theorem dX12_doesOther_320 : decode cX12_doesOther 320 = .ok (.goto 103, 3) := by decide +kernel
theorem dX12_doesOther_323 : decode cX12_doesOther 323 = .ok (.aload_n 0, 1) := by decide +kernel
theorem dX12_doesOther_324 : decode cX12_doesOther 324 = .ok (.aload_n 0, 1) := by decide +kernel
theorem dX12_doesOther_325 : decode cX12_doesOther 325 = .ok (.invokevirtual 316, 3) := by decide +kernel
theorem dX12_doesOther_328 : decode cX12_doesOther 328 = .ok (.invokevirtual 319, 3) := by decide +kernel
theorem dX12_doesOther_331 : decode cX12_doesOther 331 = .ok (.goto 92, 3) := by decide +kernel
theorem dX12_doesOther_334 : decode cX12_doesOther 334 = .ok (.aload_n 0, 1) := by decide +kernel
theorem dX12_doesOther_335 : decode cX12_doesOther 335 = .ok (.getfield 53, 3) := by decide +kernel
theorem dX12_doesOther_338 : decode cX12_doesOther 338 = .ok (.iconst 5, 1) := by decide +kernel
theorem dX12_doesOther_339 : decode cX12_doesOther 339 = .ok (.iconst 1, 1) := by decide +kernel
theorem dX12_doesOther_340 : decode cX12_doesOther 340 = .ok (.bastore, 1) := by decide +kernel
theorem dX12_doesOther_341 : decode cX12_doesOther 341 = .ok (.goto 82, 3) := by decide +kernel
theorem dX12_doesOther_344 : decode cX12_doesOther 344 = .ok (.aload_n 0, 1) := by decide +kernel
theorem dX12_doesOther_345 : decode cX12_doesOther 345 = .ok (.getfield 53, 3) := by decide +kernel
theorem dX12_doesOther_348 : decode cX12_doesOther 348 = .ok (.iconst 5, 1) := by decide +kernel
theorem dX12_doesOther_349 : decode cX12_doesOther 349 = .ok (.iconst 0, 1) := by decide +kernel
theorem dX12_doesOther_350 : decode cX12_doesOther 350 = .ok (.bastore, 1) := by decide +kernel
theorem dX12_doesOther_351 : decode cX12_doesOther 351 = .ok (.goto 72, 3) := by decide +kernel
theorem dX12_doesOther_354 : decode cX12_doesOther 354 = .ok (.aload_n 0, 1) := by decide +kernel
theorem dX12_doesOther_355 : decode cX12_doesOther 355 = .ok (.getfield 53, 3) := by decide +kernel
theorem dX12_doesOther_358 : decode cX12_doesOther 358 = .ok (.iconst 2, 1) := by decide +kernel
theorem dX12_doesOther_359 : decode cX12_doesOther 359 = .ok (.iconst 1, 1) := by decide +kernel
theorem dX12_doesOther_360 : decode cX12_doesOther 360 = .ok (.bastore, 1) := by decide +kernel
theorem dX12_doesOther_361 : decode cX12_doesOther 361 = .ok (.goto 62, 3) := by decide +kernel
theorem dX12_doesOther_364 : decode cX12_doesOther 364 = .ok (.aload_n 0, 1) := by decide +kernel
theorem dX12_doesOther_365 : decode cX12_doesOther 365 = .ok (.getfield 53, 3) := by decide +kernel
theorem dX12_doesOther_368 : decode cX12_doesOther 368 = .ok (.iconst 2, 1) := by decide +kernel
theorem dX12_doesOther_369 : decode cX12_doesOther 369 = .ok (.iconst 0, 1) := by decide +kernel
theorem dX12_doesOther_370 : decode cX12_doesOther 370 = .ok (.bastore, 1) := by decide +kernel
theorem dX12_doesOther_371 : decode cX12_doesOther 371 = .ok (.goto 52, 3) := by decide +kernel
theorem dX12_doesOther_374 : decode cX12_doesOther 374 = .ok (.aload_n 0, 1) := by decide +kernel
theorem dX12_doesOther_375 : decode cX12_doesOther 375 = .ok (.getfield 53, 3) := by decide +kernel
theorem dX12_doesOther_378 : decode cX12_doesOther 378 = .ok (.iconst 3, 1) := by decide +kernel
theorem dX12_doesOther_379 : decode cX12_doesOther 379 = .ok (.iconst 1, 1) := by decide +kernel
theorem dX12_doesOther_380 : decode cX12_doesOther 380 = .ok (.bastore, 1) := by decide +kernel
theorem dX12_doesOther_381 : decode cX12_doesOther 381 = .ok (.goto 42, 3) := by decide +kernel
theorem dX12_doesOther_384 : decode cX12_doesOther 384 = .ok (.aload_n 0, 1) := by decide +kernel
theorem dX12_doesOther_385 : decode cX12_doesOther 385 = .ok (.getfield 53, 3) := by decide +kernel
theorem dX12_doesOther_388 : decode cX12_doesOther 388 = .ok (.iconst 3, 1) := by decide +kernel
theorem dX12_doesOther_389 : decode cX12_doesOther 389 = .ok (.iconst 0, 1) := by decide +kernel
theorem dX12_doesOther_390 : decode cX12_doesOther 390 = .ok (.bastore, 1) := by decide +kernel
theorem dX12_doesOther_391 : decode cX12_doesOther 391 = .ok (.goto 32, 3) := by decide +kernel
theorem dX12_doesOther_394 : decode cX12_doesOther 394 = .ok (.aload_n 0, 1) := by decide +kernel
theorem dX12_doesOther_395 : decode cX12_doesOther 395 = .ok (.getfield 53, 3) := by decide +kernel
theorem dX12_doesOther_398 : decode cX12_doesOther 398 = .ok (.iconst 1, 1) := by decide +kernel
theorem dX12_doesOther_399 : decode cX12_doesOther 399 = .ok (.iconst 0, 1) := by decide +kernel
theorem dX12_doesOther_400 : decode cX12_doesOther 400 = .ok (.bastore, 1) := by decide +kernel
theorem dX12_doesOther_401 : decode cX12_doesOther 401 = .ok (.goto 22, 3) := by decide +kernel
theorem dX12_doesOther_404 : decode cX12_doesOther 404 = .ok (.goto 19, 3) := by decide +kernel
theorem dX12_doesOther_407 : decode cX12_doesOther 407 = .ok (.aload_n 0, 1) := by decide +kernel
theorem dX12_doesOther_408 : decode cX12_doesOther 408 = .ok (.iload_n 1, 1) := by decide +kernel
theorem dX12_doesOther_409 : decode cX12_doesOther 409 = .ok (.invokevirtual 322, 3) := by decide +kernel
theorem dX12_doesOther_412 : decode cX12_doesOther 412 = .ok (.goto 11, 3) := by decide +kernel
theorem dX12_doesOther_415 : decode cX12_doesOther 415 = .ok (.aload_n 0, 1) := by decide +kernel
theorem dX12_doesOther_416 : decode cX12_doesOther 416 = .ok (.getfield 53, 3) := by decide +kernel
theorem dX12_doesOther_419 : decode cX12_doesOther 419 = .ok (.bipush 7, 2) := by decide +kernel
theorem dX12_doesOther_421 : decode cX12_doesOther 421 = .ok (.iconst 1, 1) := by decide +kernel
theorem dX12_doesOther_422 : decode cX12_doesOther 422 = .ok (.bastore, 1) := by decide +kernel
theorem dX12_doesOther_423 : decode cX12_doesOther 423 = .ok (.aload_n 0, 1) := by decide +kernel
theorem dX12_doesOther_424 : decode cX12_doesOther 424 = .ok (.getfield 50, 3) := by decide +kernel
theorem dX12_doesOther_427 : decode cX12_doesOther 427 = .ok (.iconst 4, 1) := by decide +kernel
theorem dX12_doesOther_428 : decode cX12_doesOther 428 = .ok (.iload_n 2, 1) := by decide +kernel
theorem dX12_doesOther_429 : decode cX12_doesOther 429 = .ok (.iconst 1, 1) := by decide +kernel
theorem dX12_doesOther_430 : decode cX12_doesOther 430 = .ok (.iadd, 1) := by decide +kernel
theorem dX12_doesOther_431 : decode cX12_doesOther 431 = .ok (.invokestatic 176, 3) := by decide +kernel
theorem dX12_doesOther_434 : decode cX12_doesOther 434 = .ok (.iastore, 1) := by decide +kernel
theorem dX12_doesOther_435 : decode cX12_doesOther 435 = .ok (.return_, 1) := by decide +kernel
theorem dX12_pulledAddress_0 : decode cX12_pulledAddress 0 = .ok (.aload_n 0, 1) := by decide +kernel
theorem dX12_pulledAddress_1 : decode cX12_pulledAddress 1 = .ok (.invokevirtual 316, 3) := by decide +kernel
theorem dX12_pulledAddress_4 : decode cX12_pulledAddress 4 = .ok (.istore_n 2, 1) := by decide +kernel
theorem dX12_pulledAddress_5 : decode cX12_pulledAddress 5 = .ok (.iload_n 2, 1) := by decide +kernel
theorem dX12_pulledAddress_6 : decode cX12_pulledAddress 6 = .ok (.sipush 256, 3) := by decide +kernel
theorem dX12_pulledAddress_9 : decode cX12_pulledAddress 9 = .ok (.aload_n 0, 1) := by decide +kernel
theorem dX12_pulledAddress_10 : decode cX12_pulledAddress 10 = .ok (.invokevirtual 316, 3) := by decide +kernel
theorem dX12_pulledAddress_13 : decode cX12_pulledAddress 13 = .ok (.imul, 1) := by decide +kernel
theorem dX12_pulledAddress_14 : decode cX12_pulledAddress 14 = .ok (.iadd, 1) := by decide +kernel
theorem dX12_pulledAddress_15 : decode cX12_pulledAddress 15 = .ok (.iload_n 1, 1) := by decide +kernel
theorem dX12_pulledAddress_16 : decode cX12_pulledAddress 16 = .ok (.iadd, 1) := by decide +kernel
theorem dX12_pulledAddress_17 : decode cX12_pulledAddress 17 = .ok (.invokestatic 176, 3) := by decide +kernel
theorem dX12_pulledAddress_20 : decode cX12_pulledAddress 20 = .ok (.ireturn, 1) := by decide +kernel
theorem dX12_jumps_0 : decode cX12_jumps 0 = .ok (.aload_n 0, 1) := by decide +kernel
theorem dX12_jumps_1 : decode cX12_jumps 1 = .ok (.iload_n 2, 1) := by decide +kernel
theorem dX12_jumps_2 : decode cX12_jumps 2 = .ok (.iconst 1, 1) := by decide +kernel
theorem dX12_jumps_3 : decode cX12_jumps 3 = .ok (.iadd, 1) := by decide +kernel
theorem dX12_jumps_4 : decode cX12_jumps 4 = .ok (.invokevirtual 253, 3) := by decide +kernel
theorem dX12_jumps_7 : decode cX12_jumps 7 = .ok (.istore_n 3, 1) := by decide +kernel
theorem dX12_jumps_8 : decode cX12_jumps 8 = .ok (.iload_n 1, 1) := by decide +kernel
theorem dX12_jumps_9 : decode cX12_jumps 9 = .ok (.sipush 158, 3) := by decide +kernel
theorem dX12_jumps_12 : decode cX12_jumps 12 = .ok (.if_icmp .ne 31, 3) := by decide +kernel
theorem dX12_jumps_15 : decode cX12_jumps 15 = .ok (.iload_n 2, 1) := by decide +kernel
theorem dX12_jumps_16 : decode cX12_jumps 16 = .ok (.iconst 2, 1) := by decide +kernel
theorem dX12_jumps_17 : decode cX12_jumps 17 = .ok (.iadd, 1) := by decide +kernel
theorem dX12_jumps_18 : decode cX12_jumps 18 = .ok (.invokestatic 176, 3) := by decide +kernel
theorem dX12_jumps_21 : decode cX12_jumps 21 = .ok (.istore 4, 2) := by decide +kernel
theorem dX12_jumps_23 : decode cX12_jumps 23 = .ok (.aload_n 0, 1) := by decide +kernel
theorem dX12_jumps_24 : decode cX12_jumps 24 = .ok (.iload 4, 2) := by decide +kernel
theorem dX12_jumps_26 : decode cX12_jumps 26 = .ok (.sipush 256, 3) := by decide +kernel
theorem dX12_jumps_29 : decode cX12_jumps 29 = .ok (.idiv, 1) := by decide +kernel
theorem dX12_jumps_30 : decode cX12_jumps 30 = .ok (.invokevirtual 278, 3) := by decide +kernel
theorem dX12_jumps_33 : decode cX12_jumps 33 = .ok (.aload_n 0, 1) := by decide +kernel
theorem dX12_jumps_34 : decode cX12_jumps 34 = .ok (.iload 4, 2) := by decide +kernel
theorem dX12_jumps_36 : decode cX12_jumps 36 = .ok (.sipush 256, 3) := by decide +kernel
theorem dX12_jumps_39 : decode cX12_jumps 39 = .ok (.irem, 1) := by decide +kernel
theorem dX12_jumps_40 : decode cX12_jumps 40 = .ok (.invokevirtual 278, 3) := by decide +kernel
theorem dX12_jumps_43 : decode cX12_jumps 43 = .ok (.aload_n 0, 1) := by decide +kernel
theorem dX12_jumps_44 : decode cX12_jumps 44 = .ok (.getfield 50, 3) := by decide +kernel
theorem dX12_jumps_47 : decode cX12_jumps 47 = .ok (.iconst 4, 1) := by decide +kernel
theorem dX12_jumps_48 : decode cX12_jumps 48 = .ok (.iload_n 1, 1) := by decide +kernel
theorem dX12_jumps_49 : decode cX12_jumps 49 = .ok (.sipush 159, 3) := by decide +kernel
theorem dX12_jumps_52 : decode cX12_jumps 52 = .ok (.if_icmp .ne 40, 3) := by decide +kernel
theorem dX12_jumps_55 : decode cX12_jumps 55 = .ok (.aload_n 0, 1) := by decide +kernel
theorem dX12_jumps_56 : decode cX12_jumps 56 = .ok (.iload_n 3, 1) := by decide +kernel
theorem dX12_jumps_57 : decode cX12_jumps 57 = .ok (.invokevirtual 250, 3) := by decide +kernel
theorem dX12_jumps_60 : decode cX12_jumps 60 = .ok (.sipush 256, 3) := by decide +kernel
theorem dX12_jumps_63 : decode cX12_jumps 63 = .ok (.aload_n 0, 1) := by decide +kernel
theorem dX12_jumps_64 : decode cX12_jumps 64 = .ok (.iload_n 3, 1) := by decide +kernel
theorem dX12_jumps_65 : decode cX12_jumps 65 = .ok (.sipush 256, 3) := by decide +kernel
theorem dX12_jumps_68 : decode cX12_jumps 68 = .ok (.idiv, 1) := by decide +kernel
theorem dX12_jumps_69 : decode cX12_jumps 69 = .ok (.sipush 256, 3) := by decide +kernel
theorem dX12_jumps_72 : decode cX12_jumps 72 = .ok (.imul, 1) := by decide +kernel
theorem dX12_jumps_73 : decode cX12_jumps 73 = .ok (.iload_n 3, 1) := by decide +kernel
theorem dX12_jumps_74 : decode cX12_jumps 74 = .ok (.iconst 1, 1) := by decide +kernel
theorem dX12_jumps_75 : decode cX12_jumps 75 = .ok (.iadd, 1) := by decide +kernel
theorem dX12_jumps_76 : decode cX12_jumps 76 = .ok (.sipush 256, 3) := by decide +kernel
theorem dX12_jumps_79 : decode cX12_jumps 79 = .ok (.irem, 1) := by decide +kernel
theorem dX12_jumps_80 : decode cX12_jumps 80 = .ok (.iadd, 1) := by decide +kernel
theorem dX12_jumps_81 : decode cX12_jumps 81 = .ok (.invokevirtual 250, 3) := by decide +kernel
theorem dX12_jumps_84 : decode cX12_jumps 84 = .ok (.imul, 1) := by decide +kernel
theorem dX12_jumps_85 : decode cX12_jumps 85 = .ok (.iadd, 1) := by decide +kernel
theorem dX12_jumps_86 : decode cX12_jumps 86 = .ok (.invokestatic 176, 3) := by decide +kernel
theorem dX12_jumps_89 : decode cX12_jumps 89 = .ok (.goto 4, 3) := by decide +kernel
theorem dX12_jumps_92 : decode cX12_jumps 92 = .ok (.iload_n 3, 1) := by decide +kernel
theorem dX12_jumps_93 : decode cX12_jumps 93 = .ok (.iastore, 1) := by decide +kernel
theorem dX12_jumps_94 : decode cX12_jumps 94 = .ok (.return_, 1) := by decide +kernel
theorem dX12_does_0 : decode cX12_does 0 = .ok (.aload_n 0, 1) := by decide +kernel
theorem dX12_does_1 : decode cX12_does 1 = .ok (.iload_n 1, 1) := by decide +kernel
theorem dX12_does_2 : decode cX12_does 2 = .ok (.invokevirtual 250, 3) := by decide +kernel
theorem dX12_does_5 : decode cX12_does 5 = .ok (.istore_n 2, 1) := by decide +kernel
theorem dX12_does_6 : decode cX12_does 6 = .ok (.iload_n 2, 1) := by decide +kernel
theorem dX12_does_7 : decode cX12_does 7 = .ok (.invokestatic 247, 3) := by decide +kernel
theorem dX12_does_10 : decode cX12_does 10 = .ok (.istore_n 3, 1) := by decide +kernel
theorem dX12_does_11 : decode cX12_does 11 = .ok (.iload_n 3, 1) := by decide +kernel
theorem dX12_does_12 : decode cX12_does 12 = .ok (.ifCond .lt 35, 3) := by decide +kernel
theorem dX12_does_15 : decode cX12_does 15 = .ok (.iload_n 2, 1) := by decide +kernel
theorem dX12_does_16 : decode cX12_does 16 = .ok (.invokestatic 325, 3) := by decide +kernel
theorem dX12_does_19 : decode cX12_does 19 = .ok (.istore 4, 2) := by decide +kernel
theorem dX12_does_21 : decode cX12_does 21 = .ok (.aload_n 0, 1) := by decide +kernel
theorem dX12_does_22 : decode cX12_does 22 = .ok (.iload_n 3, 1) := by decide +kernel
theorem dX12_does_23 : decode cX12_does 23 = .ok (.iload_n 2, 1) := by decide +kernel
theorem dX12_does_24 : decode cX12_does 24 = .ok (.bipush 8, 2) := by decide +kernel
theorem dX12_does_26 : decode cX12_does 26 = .ok (.irem, 1) := by decide +kernel
theorem dX12_does_27 : decode cX12_does 27 = .ok (.iload_n 1, 1) := by decide +kernel
theorem dX12_does_28 : decode cX12_does 28 = .ok (.invokevirtual 328, 3) := by decide +kernel
theorem dX12_does_31 : decode cX12_does 31 = .ok (.aload_n 0, 1) := by decide +kernel
theorem dX12_does_32 : decode cX12_does 32 = .ok (.getfield 50, 3) := by decide +kernel
theorem dX12_does_35 : decode cX12_does 35 = .ok (.iconst 4, 1) := by decide +kernel
theorem dX12_does_36 : decode cX12_does 36 = .ok (.iload_n 1, 1) := by decide +kernel
theorem dX12_does_37 : decode cX12_does 37 = .ok (.iload 4, 2) := by decide +kernel
theorem dX12_does_39 : decode cX12_does 39 = .ok (.iadd, 1) := by decide +kernel
theorem dX12_does_40 : decode cX12_does 40 = .ok (.invokestatic 176, 3) := by decide +kernel
theorem dX12_does_43 : decode cX12_does 43 = .ok (.iastore, 1) := by decide +kernel
theorem dX12_does_44 : decode cX12_does 44 = .ok (.goto 150, 3) := by decide +kernel
theorem dX12_does_47 : decode cX12_does 47 = .ok (.iload_n 2, 1) := by decide +kernel
theorem dX12_does_48 : decode cX12_does 48 = .ok (.sipush 154, 3) := by decide +kernel
theorem dX12_does_51 : decode cX12_does 51 = .ok (.if_icmp .ne 21, 3) := by decide +kernel
theorem dX12_does_54 : decode cX12_does 54 = .ok (.aload_n 0, 1) := by decide +kernel
theorem dX12_does_55 : decode cX12_does 55 = .ok (.sipush 3838, 3) := by decide +kernel
theorem dX12_does_58 : decode cX12_does 58 = .ok (.iload_n 1, 1) := by decide +kernel
theorem dX12_does_59 : decode cX12_does 59 = .ok (.iconst 1, 1) := by decide +kernel
theorem dX12_does_60 : decode cX12_does 60 = .ok (.iadd, 1) := by decide +kernel
theorem dX12_does_61 : decode cX12_does 61 = .ok (.invokestatic 176, 3) := by decide +kernel
theorem dX12_does_64 : decode cX12_does 64 = .ok (.bipush 16, 2) := by decide +kernel
theorem dX12_does_66 : decode cX12_does 66 = .ok (.invokevirtual 331, 3) := by decide +kernel
theorem dX12_does_69 : decode cX12_does 69 = .ok (.goto 125, 3) := by decide +kernel
theorem dX12_does_72 : decode cX12_does 72 = .ok (.iload_n 2, 1) := by decide +kernel
theorem dX12_does_73 : decode cX12_does 73 = .ok (.sipush 155, 3) := by decide +kernel
theorem dX12_does_76 : decode cX12_does 76 = .ok (.if_icmp .ne 25, 3) := by decide +kernel
theorem dX12_does_79 : decode cX12_does 79 = .ok (.aload_n 0, 1) := by decide +kernel
theorem dX12_does_80 : decode cX12_does 80 = .ok (.aload_n 0, 1) := by decide +kernel
theorem dX12_does_81 : decode cX12_does 81 = .ok (.invokevirtual 316, 3) := by decide +kernel
theorem dX12_does_84 : decode cX12_does 84 = .ok (.invokevirtual 319, 3) := by decide +kernel
theorem dX12_does_87 : decode cX12_does 87 = .ok (.aload_n 0, 1) := by decide +kernel
theorem dX12_does_88 : decode cX12_does 88 = .ok (.getfield 50, 3) := by decide +kernel
theorem dX12_does_91 : decode cX12_does 91 = .ok (.iconst 4, 1) := by decide +kernel
theorem dX12_does_92 : decode cX12_does 92 = .ok (.aload_n 0, 1) := by decide +kernel
theorem dX12_does_93 : decode cX12_does 93 = .ok (.iconst 0, 1) := by decide +kernel
theorem dX12_does_94 : decode cX12_does 94 = .ok (.invokevirtual 334, 3) := by decide +kernel
theorem dX12_does_97 : decode cX12_does 97 = .ok (.iastore, 1) := by decide +kernel
theorem dX12_does_98 : decode cX12_does 98 = .ok (.goto 96, 3) := by decide +kernel
theorem dX12_does_101 : decode cX12_does 101 = .ok (.iload_n 2, 1) := by decide +kernel
theorem dX12_does_102 : decode cX12_does 102 = .ok (.sipush 156, 3) := by decide +kernel
theorem dX12_does_105 : decode cX12_does 105 = .ok (.if_icmp .ne 17, 3) := by decide +kernel
theorem dX12_does_108 : decode cX12_does 108 = .ok (.aload_n 0, 1) := by decide +kernel
theorem dX12_does_109 : decode cX12_does 109 = .ok (.getfield 50, 3) := by decide +kernel
theorem dX12_does_112 : decode cX12_does 112 = .ok (.iconst 4, 1) := by decide +kernel
theorem dX12_does_113 : decode cX12_does 113 = .ok (.aload_n 0, 1) := by decide +kernel
theorem dX12_does_114 : decode cX12_does 114 = .ok (.iconst 1, 1) := by decide +kernel
theorem dX12_does_115 : decode cX12_does 115 = .ok (.invokevirtual 334, 3) := by decide +kernel
theorem dX12_does_118 : decode cX12_does 118 = .ok (.iastore, 1) := by decide +kernel
theorem dX12_does_119 : decode cX12_does 119 = .ok (.goto 75, 3) := by decide +kernel
theorem dX12_does_122 : decode cX12_does 122 = .ok (.iload_n 2, 1) := by decide +kernel
theorem dX12_does_123 : decode cX12_does 123 = .ok (.sipush 157, 3) := by decide +kernel
theorem dX12_does_126 : decode cX12_does 126 = .ok (.sipush 159, 3) := by decide +kernel
theorem dX12_does_129 : decode cX12_does 129 = .ok (.invokestatic 119, 3) := by decide +kernel
theorem dX12_does_132 : decode cX12_does 132 = .ok (.ifCond .eq 12, 3) := by decide +kernel
theorem dX12_does_135 : decode cX12_does 135 = .ok (.aload_n 0, 1) := by decide +kernel
theorem dX12_does_136 : decode cX12_does 136 = .ok (.iload_n 2, 1) := by decide +kernel
theorem dX12_does_137 : decode cX12_does 137 = .ok (.iload_n 1, 1) := by decide +kernel
theorem dX12_does_138 : decode cX12_does 138 = .ok (.invokevirtual 337, 3) := by decide +kernel
theorem dX12_does_141 : decode cX12_does 141 = .ok (.goto 53, 3) := by decide +kernel
theorem dX12_does_144 : decode cX12_does 144 = .ok (.iload_n 2, 1) := by decide +kernel
theorem dX12_does_145 : decode cX12_does 145 = .ok (.sipush 160, 3) := by decide +kernel
theorem dX12_does_148 : decode cX12_does 148 = .ok (.sipush 167, 3) := by decide +kernel
theorem dX12_does_151 : decode cX12_does 151 = .ok (.invokestatic 119, 3) := by decide +kernel
theorem dX12_does_154 : decode cX12_does 154 = .ok (.ifCond .eq 34, 3) := by decide +kernel
theorem dX12_does_157 : decode cX12_does 157 = .ok (.aload_n 0, 1) := by decide +kernel
theorem dX12_does_158 : decode cX12_does 158 = .ok (.getfield 50, 3) := by decide +kernel
theorem dX12_does_161 : decode cX12_does 161 = .ok (.iconst 4, 1) := by decide +kernel
theorem dX12_does_162 : decode cX12_does 162 = .ok (.aload_n 0, 1) := by decide +kernel
theorem dX12_does_163 : decode cX12_does 163 = .ok (.iload_n 2, 1) := by decide +kernel
theorem dX12_does_164 : decode cX12_does 164 = .ok (.invokevirtual 269, 3) := by decide +kernel
theorem dX12_does_167 : decode cX12_does 167 = .ok (.ifCond .eq 11, 3) := by decide +kernel
theorem dX12_does_170 : decode cX12_does 170 = .ok (.aload_n 0, 1) := by decide +kernel
theorem dX12_does_171 : decode cX12_does 171 = .ok (.iload_n 1, 1) := by decide +kernel
theorem dX12_does_172 : decode cX12_does 172 = .ok (.invokevirtual 272, 3) := by decide +kernel
theorem dX12_does_175 : decode cX12_does 175 = .ok (.goto 9, 3) := by decide +kernel
theorem dX12_does_178 : decode cX12_does 178 = .ok (.iload_n 1, 1) := by decide +kernel
theorem dX12_does_179 : decode cX12_does 179 = .ok (.iconst 2, 1) := by decide +kernel
theorem dX12_does_180 : decode cX12_does 180 = .ok (.iadd, 1) := by decide +kernel
theorem dX12_does_181 : decode cX12_does 181 = .ok (.invokestatic 176, 3) := by decide +kernel
theorem dX12_does_184 : decode cX12_does 184 = .ok (.iastore, 1) := by decide +kernel
theorem dX12_does_185 : decode cX12_does 185 = .ok (.goto 9, 3) := by decide +kernel
theorem dX12_does_188 : decode cX12_does 188 = .ok (.aload_n 0, 1) := by decide +kernel
theorem dX12_does_189 : decode cX12_does 189 = .ok (.iload_n 2, 1) := by decide +kernel
theorem dX12_does_190 : decode cX12_does 190 = .ok (.iload_n 1, 1) := by decide +kernel
theorem dX12_does_191 : decode cX12_does 191 = .ok (.invokevirtual 340, 3) := by decide +kernel
theorem dX12_does_194 : decode cX12_does 194 = .ok (.aload_n 0, 1) := by decide +kernel
theorem dX12_does_195 : decode cX12_does 195 = .ok (.getfield 35, 3) := by decide +kernel
theorem dX12_does_198 : decode cX12_does 198 = .ok (.aload_n 0, 1) := by decide +kernel
theorem dX12_does_199 : decode cX12_does 199 = .ok (.getfield 50, 3) := by decide +kernel
theorem dX12_does_202 : decode cX12_does 202 = .ok (.bipush 20, 2) := by decide +kernel
theorem dX12_does_204 : decode cX12_does 204 = .ok (.iaload, 1) := by decide +kernel
theorem dX12_does_205 : decode cX12_does 205 = .ok (.bipush 16, 2) := by decide +kernel
theorem dX12_does_207 : decode cX12_does 207 = .ok (.irem, 1) := by decide +kernel
theorem dX12_does_208 : decode cX12_does 208 = .ok (.iload_n 1, 1) := by decide +kernel
theorem dX12_does_209 : decode cX12_does 209 = .ok (.iastore, 1) := by decide +kernel
theorem dX12_does_210 : decode cX12_does 210 = .ok (.aload_n 0, 1) := by decide +kernel
theorem dX12_does_211 : decode cX12_does 211 = .ok (.getfield 50, 3) := by decide +kernel
theorem dX12_does_214 : decode cX12_does 214 = .ok (.bipush 20, 2) := by decide +kernel
theorem dX12_does_216 : decode cX12_does 216 = .ok (.dup2, 1) := by decide +kernel
theorem dX12_does_217 : decode cX12_does 217 = .ok (.iaload, 1) := by decide +kernel
theorem dX12_does_218 : decode cX12_does 218 = .ok (.iconst 1, 1) := by decide +kernel
theorem dX12_does_219 : decode cX12_does 219 = .ok (.iadd, 1) := by decide +kernel
theorem dX12_does_220 : decode cX12_does 220 = .ok (.iastore, 1) := by decide +kernel
theorem dX12_does_221 : decode cX12_does 221 = .ok (.return_, 1) := by decide +kernel
theorem dX12_begins_0 : decode cX12_begins 0 = .ok (.aload_n 0, 1) := by decide +kernel
theorem dX12_begins_1 : decode cX12_begins 1 = .ok (.getfield 50, 3) := by decide +kernel
theorem dX12_begins_4 : decode cX12_begins 4 = .ok (.bipush 18, 2) := by decide +kernel
theorem dX12_begins_6 : decode cX12_begins 6 = .ok (.aload_n 0, 1) := by decide +kernel
theorem dX12_begins_7 : decode cX12_begins 7 = .ok (.getfield 53, 3) := by decide +kernel
theorem dX12_begins_10 : decode cX12_begins 10 = .ok (.bipush 6, 2) := by decide +kernel
theorem dX12_begins_12 : decode cX12_begins 12 = .ok (.baload, 1) := by decide +kernel
theorem dX12_begins_13 : decode cX12_begins 13 = .ok (.ifCond .eq 9, 3) := by decide +kernel
theorem dX12_begins_16 : decode cX12_begins 16 = .ok (.sipush 3834, 3) := by decide +kernel
theorem dX12_begins_19 : decode cX12_begins 19 = .ok (.goto 37, 3) := by decide +kernel
theorem dX12_begins_22 : decode cX12_begins 22 = .ok (.aload_n 0, 1) := by decide +kernel
theorem dX12_begins_23 : decode cX12_begins 23 = .ok (.getfield 50, 3) := by decide +kernel
theorem dX12_begins_26 : decode cX12_begins 26 = .ok (.bipush 9, 2) := by decide +kernel
theorem dX12_begins_28 : decode cX12_begins 28 = .ok (.iaload, 1) := by decide +kernel
theorem dX12_begins_29 : decode cX12_begins 29 = .ok (.aload_n 0, 1) := by decide +kernel
theorem dX12_begins_30 : decode cX12_begins 30 = .ok (.getfield 19, 3) := by decide +kernel
theorem dX12_begins_33 : decode cX12_begins 33 = .ok (.bipush 11, 2) := by decide +kernel
theorem dX12_begins_35 : decode cX12_begins 35 = .ok (.iaload, 1) := by decide +kernel
theorem dX12_begins_36 : decode cX12_begins 36 = .ok (.iand, 1) := by decide +kernel
theorem dX12_begins_37 : decode cX12_begins 37 = .ok (.ifCond .eq 18, 3) := by decide +kernel
theorem dX12_begins_40 : decode cX12_begins 40 = .ok (.aload_n 0, 1) := by decide +kernel
theorem dX12_begins_41 : decode cX12_begins 41 = .ok (.getfield 53, 3) := by decide +kernel
theorem dX12_begins_44 : decode cX12_begins 44 = .ok (.iconst 3, 1) := by decide +kernel
theorem dX12_begins_45 : decode cX12_begins 45 = .ok (.baload, 1) := by decide +kernel
theorem dX12_begins_46 : decode cX12_begins 46 = .ok (.ifCond .ne 9, 3) := by decide +kernel
theorem dX12_begins_49 : decode cX12_begins 49 = .ok (.sipush 3838, 3) := by decide +kernel
theorem dX12_begins_52 : decode cX12_begins 52 = .ok (.goto 4, 3) := by decide +kernel
theorem dX12_begins_55 : decode cX12_begins 55 = .ok (.iconst 0, 1) := by decide +kernel
theorem dX12_begins_56 : decode cX12_begins 56 = .ok (.iastore, 1) := by decide +kernel
theorem dX12_begins_57 : decode cX12_begins 57 = .ok (.aload_n 0, 1) := by decide +kernel
theorem dX12_begins_58 : decode cX12_begins 58 = .ok (.getfield 53, 3) := by decide +kernel
theorem dX12_begins_61 : decode cX12_begins 61 = .ok (.bipush 6, 2) := by decide +kernel
theorem dX12_begins_63 : decode cX12_begins 63 = .ok (.baload, 1) := by decide +kernel
theorem dX12_begins_64 : decode cX12_begins 64 = .ok (.ifCond .eq 11, 3) := by decide +kernel
theorem dX12_begins_67 : decode cX12_begins 67 = .ok (.aload_n 0, 1) := by decide +kernel
theorem dX12_begins_68 : decode cX12_begins 68 = .ok (.getfield 53, 3) := by decide +kernel
theorem dX12_begins_71 : decode cX12_begins 71 = .ok (.bipush 6, 2) := by decide +kernel
theorem dX12_begins_73 : decode cX12_begins 73 = .ok (.iconst 0, 1) := by decide +kernel
theorem dX12_begins_74 : decode cX12_begins 74 = .ok (.bastore, 1) := by decide +kernel
theorem dX12_begins_75 : decode cX12_begins 75 = .ok (.aload_n 0, 1) := by decide +kernel
theorem dX12_begins_76 : decode cX12_begins 76 = .ok (.getfield 50, 3) := by decide +kernel
theorem dX12_begins_79 : decode cX12_begins 79 = .ok (.bipush 17, 2) := by decide +kernel
theorem dX12_begins_81 : decode cX12_begins 81 = .ok (.aload_n 0, 1) := by decide +kernel
theorem dX12_begins_82 : decode cX12_begins 82 = .ok (.getfield 50, 3) := by decide +kernel
theorem dX12_begins_85 : decode cX12_begins 85 = .ok (.bipush 18, 2) := by decide +kernel
theorem dX12_begins_87 : decode cX12_begins 87 = .ok (.iaload, 1) := by decide +kernel
theorem dX12_begins_88 : decode cX12_begins 88 = .ok (.ifCond .le 8, 3) := by decide +kernel
theorem dX12_begins_91 : decode cX12_begins 91 = .ok (.bipush 7, 2) := by decide +kernel
theorem dX12_begins_93 : decode cX12_begins 93 = .ok (.goto 13, 3) := by decide +kernel
theorem dX12_begins_96 : decode cX12_begins 96 = .ok (.aload_n 0, 1) := by decide +kernel
theorem dX12_begins_97 : decode cX12_begins 97 = .ok (.aload_n 0, 1) := by decide +kernel
theorem dX12_begins_98 : decode cX12_begins 98 = .ok (.getfield 50, 3) := by decide +kernel
theorem dX12_begins_101 : decode cX12_begins 101 = .ok (.iconst 4, 1) := by decide +kernel
theorem dX12_begins_102 : decode cX12_begins 102 = .ok (.iaload, 1) := by decide +kernel
theorem dX12_begins_103 : decode cX12_begins 103 = .ok (.invokevirtual 343, 3) := by decide +kernel
theorem dX12_begins_106 : decode cX12_begins 106 = .ok (.iastore, 1) := by decide +kernel
theorem dX12_begins_107 : decode cX12_begins 107 = .ok (.return_, 1) := by decide +kernel
theorem dX12_goesOn_0 : decode cX12_goesOn 0 = .ok (.aload_n 0, 1) := by decide +kernel
theorem dX12_goesOn_1 : decode cX12_goesOn 1 = .ok (.getfield 53, 3) := by decide +kernel
theorem dX12_goesOn_4 : decode cX12_goesOn 4 = .ok (.bipush 7, 2) := by decide +kernel
theorem dX12_goesOn_6 : decode cX12_goesOn 6 = .ok (.baload, 1) := by decide +kernel
theorem dX12_goesOn_7 : decode cX12_goesOn 7 = .ok (.ifCond .eq 4, 3) := by decide +kernel
theorem dX12_goesOn_10 : decode cX12_goesOn 10 = .ok (.return_, 1) := by decide +kernel
theorem dX12_goesOn_11 : decode cX12_goesOn 11 = .ok (.aload_n 0, 1) := by decide +kernel
theorem dX12_goesOn_12 : decode cX12_goesOn 12 = .ok (.getfield 50, 3) := by decide +kernel
theorem dX12_goesOn_15 : decode cX12_goesOn 15 = .ok (.bipush 17, 2) := by decide +kernel
theorem dX12_goesOn_17 : decode cX12_goesOn 17 = .ok (.iaload, 1) := by decide +kernel
theorem dX12_goesOn_18 : decode cX12_goesOn 18 = .ok (.ifCond .ne 7, 3) := by decide +kernel
theorem dX12_goesOn_21 : decode cX12_goesOn 21 = .ok (.aload_n 0, 1) := by decide +kernel
theorem dX12_goesOn_22 : decode cX12_goesOn 22 = .ok (.invokevirtual 346, 3) := by decide +kernel
theorem dX12_goesOn_25 : decode cX12_goesOn 25 = .ok (.aload_n 0, 1) := by decide +kernel
theorem dX12_goesOn_26 : decode cX12_goesOn 26 = .ok (.getfield 50, 3) := by decide +kernel
theorem dX12_goesOn_29 : decode cX12_goesOn 29 = .ok (.bipush 17, 2) := by decide +kernel
theorem dX12_goesOn_31 : decode cX12_goesOn 31 = .ok (.dup2, 1) := by decide +kernel
theorem dX12_goesOn_32 : decode cX12_goesOn 32 = .ok (.iaload, 1) := by decide +kernel
theorem dX12_goesOn_33 : decode cX12_goesOn 33 = .ok (.iconst 1, 1) := by decide +kernel
theorem dX12_goesOn_34 : decode cX12_goesOn 34 = .ok (.isub, 1) := by decide +kernel
theorem dX12_goesOn_35 : decode cX12_goesOn 35 = .ok (.iastore, 1) := by decide +kernel
theorem dX12_goesOn_36 : decode cX12_goesOn 36 = .ok (.aload_n 0, 1) := by decide +kernel
theorem dX12_goesOn_37 : decode cX12_goesOn 37 = .ok (.getfield 50, 3) := by decide +kernel
theorem dX12_goesOn_40 : decode cX12_goesOn 40 = .ok (.bipush 17, 2) := by decide +kernel
theorem dX12_goesOn_42 : decode cX12_goesOn 42 = .ok (.iaload, 1) := by decide +kernel
theorem dX12_goesOn_43 : decode cX12_goesOn 43 = .ok (.ifCond .le 4, 3) := by decide +kernel
theorem dX12_goesOn_46 : decode cX12_goesOn 46 = .ok (.return_, 1) := by decide +kernel
theorem dX12_goesOn_47 : decode cX12_goesOn 47 = .ok (.aload_n 0, 1) := by decide +kernel
theorem dX12_goesOn_48 : decode cX12_goesOn 48 = .ok (.getfield 50, 3) := by decide +kernel
theorem dX12_goesOn_51 : decode cX12_goesOn 51 = .ok (.bipush 19, 2) := by decide +kernel
theorem dX12_goesOn_53 : decode cX12_goesOn 53 = .ok (.dup2, 1) := by decide +kernel
theorem dX12_goesOn_54 : decode cX12_goesOn 54 = .ok (.iaload, 1) := by decide +kernel
theorem dX12_goesOn_55 : decode cX12_goesOn 55 = .ok (.iconst 1, 1) := by decide +kernel
theorem dX12_goesOn_56 : decode cX12_goesOn 56 = .ok (.iadd, 1) := by decide +kernel
theorem dX12_goesOn_57 : decode cX12_goesOn 57 = .ok (.iastore, 1) := by decide +kernel
theorem dX12_goesOn_58 : decode cX12_goesOn 58 = .ok (.aload_n 0, 1) := by decide +kernel
theorem dX12_goesOn_59 : decode cX12_goesOn 59 = .ok (.getfield 50, 3) := by decide +kernel
theorem dX12_goesOn_62 : decode cX12_goesOn 62 = .ok (.bipush 18, 2) := by decide +kernel
theorem dX12_goesOn_64 : decode cX12_goesOn 64 = .ok (.iaload, 1) := by decide +kernel
theorem dX12_goesOn_65 : decode cX12_goesOn 65 = .ok (.ifCond .le 24, 3) := by decide +kernel
theorem dX12_goesOn_68 : decode cX12_goesOn 68 = .ok (.aload_n 0, 1) := by decide +kernel
theorem dX12_goesOn_69 : decode cX12_goesOn 69 = .ok (.aload_n 0, 1) := by decide +kernel
theorem dX12_goesOn_70 : decode cX12_goesOn 70 = .ok (.getfield 50, 3) := by decide +kernel
theorem dX12_goesOn_73 : decode cX12_goesOn 73 = .ok (.bipush 18, 2) := by decide +kernel
theorem dX12_goesOn_75 : decode cX12_goesOn 75 = .ok (.iaload, 1) := by decide +kernel
theorem dX12_goesOn_76 : decode cX12_goesOn 76 = .ok (.aload_n 0, 1) := by decide +kernel
theorem dX12_goesOn_77 : decode cX12_goesOn 77 = .ok (.getfield 50, 3) := by decide +kernel
theorem dX12_goesOn_80 : decode cX12_goesOn 80 = .ok (.iconst 4, 1) := by decide +kernel
theorem dX12_goesOn_81 : decode cX12_goesOn 81 = .ok (.iaload, 1) := by decide +kernel
theorem dX12_goesOn_82 : decode cX12_goesOn 82 = .ok (.iconst 0, 1) := by decide +kernel
theorem dX12_goesOn_83 : decode cX12_goesOn 83 = .ok (.invokevirtual 331, 3) := by decide +kernel
theorem dX12_goesOn_86 : decode cX12_goesOn 86 = .ok (.goto 13, 3) := by decide +kernel
theorem dX12_goesOn_89 : decode cX12_goesOn 89 = .ok (.aload_n 0, 1) := by decide +kernel
theorem dX12_goesOn_90 : decode cX12_goesOn 90 = .ok (.aload_n 0, 1) := by decide +kernel
theorem dX12_goesOn_91 : decode cX12_goesOn 91 = .ok (.getfield 50, 3) := by decide +kernel
theorem dX12_goesOn_94 : decode cX12_goesOn 94 = .ok (.iconst 4, 1) := by decide +kernel
theorem dX12_goesOn_95 : decode cX12_goesOn 95 = .ok (.iaload, 1) := by decide +kernel
theorem dX12_goesOn_96 : decode cX12_goesOn 96 = .ok (.invokevirtual 349, 3) := by decide +kernel
theorem dX12_goesOn_99 : decode cX12_goesOn 99 = .ok (.return_, 1) := by decide +kernel
theorem dX12_assemble_0 : decode cX12_assemble 0 = .ok (.aload_n 0, 1) := by decide +kernel
theorem dX12_assemble_1 : decode cX12_assemble 1 = .ok (.iload_n 1, 1) := by decide +kernel
theorem dX12_assemble_2 : decode cX12_assemble 2 = .ok (.invokestatic 157, 3) := by decide +kernel
theorem dX12_assemble_5 : decode cX12_assemble 5 = .ok (.ifCond .eq 7, 3) := by decide +kernel
theorem dX12_assemble_8 : decode cX12_assemble 8 = .ok (.iconst 1, 1) := by decide +kernel
theorem dX12_assemble_9 : decode cX12_assemble 9 = .ok (.goto 44, 3) := by decide +kernel
theorem dX12_assemble_12 : decode cX12_assemble 12 = .ok (.iload_n 2, 1) := by decide +kernel
theorem dX12_assemble_13 : decode cX12_assemble 13 = .ok (.invokestatic 161, 3) := by decide +kernel
theorem dX12_assemble_16 : decode cX12_assemble 16 = .ok (.ifCond .ne 32, 3) := by decide +kernel
theorem dX12_assemble_19 : decode cX12_assemble 19 = .ok (.iload_n 3, 1) := by decide +kernel
theorem dX12_assemble_20 : decode cX12_assemble 20 = .ok (.iconst 0, 1) := by decide +kernel
theorem dX12_assemble_21 : decode cX12_assemble 21 = .ok (.iload_n 2, 1) := by decide +kernel
theorem dX12_assemble_22 : decode cX12_assemble 22 = .ok (.sipush 255, 3) := by decide +kernel
theorem dX12_assemble_25 : decode cX12_assemble 25 = .ok (.iand, 1) := by decide +kernel
theorem dX12_assemble_26 : decode cX12_assemble 26 = .ok (.invokestatic 325, 3) := by decide +kernel
theorem dX12_assemble_29 : decode cX12_assemble 29 = .ok (.iconst 2, 1) := by decide +kernel
theorem dX12_assemble_30 : decode cX12_assemble 30 = .ok (.if_icmp .ne 9, 3) := by decide +kernel
theorem dX12_assemble_33 : decode cX12_assemble 33 = .ok (.sipush 255, 3) := by decide +kernel
theorem dX12_assemble_36 : decode cX12_assemble 36 = .ok (.goto 6, 3) := by decide +kernel
theorem dX12_assemble_39 : decode cX12_assemble 39 = .ok (.sipush 4095, 3) := by decide +kernel
theorem dX12_assemble_42 : decode cX12_assemble 42 = .ok (.invokestatic 119, 3) := by decide +kernel
theorem dX12_assemble_45 : decode cX12_assemble 45 = .ok (.ifCond .ne 7, 3) := by decide +kernel
theorem dX12_assemble_48 : decode cX12_assemble 48 = .ok (.iconst 2, 1) := by decide +kernel
theorem dX12_assemble_49 : decode cX12_assemble 49 = .ok (.goto 4, 3) := by decide +kernel
theorem dX12_assemble_52 : decode cX12_assemble 52 = .ok (.iconst 0, 1) := by decide +kernel
theorem dX12_assemble_53 : decode cX12_assemble 53 = .ok (.invokevirtual 164, 3) := by decide +kernel
theorem dX12_assemble_56 : decode cX12_assemble 56 = .ok (.ifCond .eq 5, 3) := by decide +kernel
theorem dX12_assemble_59 : decode cX12_assemble 59 = .ok (.iconst 0, 1) := by decide +kernel
theorem dX12_assemble_60 : decode cX12_assemble 60 = .ok (.ireturn, 1) := by decide +kernel
theorem dX12_assemble_61 : decode cX12_assemble 61 = .ok (.aload_n 0, 1) := by decide +kernel
theorem dX12_assemble_62 : decode cX12_assemble 62 = .ok (.iload_n 1, 1) := by decide +kernel
theorem dX12_assemble_63 : decode cX12_assemble 63 = .ok (.iload_n 2, 1) := by decide +kernel
theorem dX12_assemble_64 : decode cX12_assemble 64 = .ok (.invokevirtual 170, 3) := by decide +kernel
theorem dX12_assemble_67 : decode cX12_assemble 67 = .ok (.iload_n 2, 1) := by decide +kernel
theorem dX12_assemble_68 : decode cX12_assemble 68 = .ok (.invokestatic 325, 3) := by decide +kernel
theorem dX12_assemble_71 : decode cX12_assemble 71 = .ok (.iconst 1, 1) := by decide +kernel
theorem dX12_assemble_72 : decode cX12_assemble 72 = .ok (.if_icmp .le 18, 3) := by decide +kernel
theorem dX12_assemble_75 : decode cX12_assemble 75 = .ok (.aload_n 0, 1) := by decide +kernel
theorem dX12_assemble_76 : decode cX12_assemble 76 = .ok (.iload_n 1, 1) := by decide +kernel
theorem dX12_assemble_77 : decode cX12_assemble 77 = .ok (.iconst 1, 1) := by decide +kernel
theorem dX12_assemble_78 : decode cX12_assemble 78 = .ok (.iadd, 1) := by decide +kernel
theorem dX12_assemble_79 : decode cX12_assemble 79 = .ok (.invokestatic 176, 3) := by decide +kernel
theorem dX12_assemble_82 : decode cX12_assemble 82 = .ok (.iload_n 3, 1) := by decide +kernel
theorem dX12_assemble_83 : decode cX12_assemble 83 = .ok (.sipush 256, 3) := by decide +kernel
theorem dX12_assemble_86 : decode cX12_assemble 86 = .ok (.irem, 1) := by decide +kernel
theorem dX12_assemble_87 : decode cX12_assemble 87 = .ok (.invokevirtual 170, 3) := by decide +kernel
theorem dX12_assemble_90 : decode cX12_assemble 90 = .ok (.iload_n 2, 1) := by decide +kernel
theorem dX12_assemble_91 : decode cX12_assemble 91 = .ok (.invokestatic 325, 3) := by decide +kernel
theorem dX12_assemble_94 : decode cX12_assemble 94 = .ok (.iconst 2, 1) := by decide +kernel
theorem dX12_assemble_95 : decode cX12_assemble 95 = .ok (.if_icmp .le 18, 3) := by decide +kernel
theorem dX12_assemble_98 : decode cX12_assemble 98 = .ok (.aload_n 0, 1) := by decide +kernel
theorem dX12_assemble_99 : decode cX12_assemble 99 = .ok (.iload_n 1, 1) := by decide +kernel
theorem dX12_assemble_100 : decode cX12_assemble 100 = .ok (.iconst 2, 1) := by decide +kernel
theorem dX12_assemble_101 : decode cX12_assemble 101 = .ok (.iadd, 1) := by decide +kernel
theorem dX12_assemble_102 : decode cX12_assemble 102 = .ok (.invokestatic 176, 3) := by decide +kernel
theorem dX12_assemble_105 : decode cX12_assemble 105 = .ok (.iload_n 3, 1) := by decide +kernel
theorem dX12_assemble_106 : decode cX12_assemble 106 = .ok (.sipush 256, 3) := by decide +kernel
theorem dX12_assemble_109 : decode cX12_assemble 109 = .ok (.idiv, 1) := by decide +kernel
theorem dX12_assemble_110 : decode cX12_assemble 110 = .ok (.invokevirtual 170, 3) := by decide +kernel
theorem dX12_assemble_113 : decode cX12_assemble 113 = .ok (.aload_n 0, 1) := by decide +kernel
theorem dX12_assemble_114 : decode cX12_assemble 114 = .ok (.invokevirtual 173, 3) := by decide +kernel
theorem dX12_assemble_117 : decode cX12_assemble 117 = .ok (.iload_n 1, 1) := by decide +kernel
theorem dX12_assemble_118 : decode cX12_assemble 118 = .ok (.iload_n 2, 1) := by decide +kernel
theorem dX12_assemble_119 : decode cX12_assemble 119 = .ok (.invokestatic 325, 3) := by decide +kernel
theorem dX12_assemble_122 : decode cX12_assemble 122 = .ok (.iadd, 1) := by decide +kernel
theorem dX12_assemble_123 : decode cX12_assemble 123 = .ok (.invokestatic 176, 3) := by decide +kernel
theorem dX12_assemble_126 : decode cX12_assemble 126 = .ok (.ireturn, 1) := by decide +kernel
theorem dX12_puts_0 : decode cX12_puts 0 = .ok (.aload_n 0, 1) := by decide +kernel
theorem dX12_puts_1 : decode cX12_puts 1 = .ok (.getfield 109, 3) := by decide +kernel
theorem dX12_puts_4 : decode cX12_puts 4 = .ok (.aload_n 0, 1) := by decide +kernel
theorem dX12_puts_5 : decode cX12_puts 5 = .ok (.getfield 352, 3) := by decide +kernel
theorem dX12_puts_8 : decode cX12_puts 8 = .ok (.iload_n 1, 1) := by decide +kernel
theorem dX12_puts_9 : decode cX12_puts 9 = .ok (.castore, 1) := by decide +kernel
theorem dX12_puts_10 : decode cX12_puts 10 = .ok (.aload_n 0, 1) := by decide +kernel
theorem dX12_puts_11 : decode cX12_puts 11 = .ok (.dup, 1) := by decide +kernel
theorem dX12_puts_12 : decode cX12_puts 12 = .ok (.getfield 352, 3) := by decide +kernel
theorem dX12_puts_15 : decode cX12_puts 15 = .ok (.iconst 1, 1) := by decide +kernel
theorem dX12_puts_16 : decode cX12_puts 16 = .ok (.iadd, 1) := by decide +kernel
theorem dX12_puts_17 : decode cX12_puts 17 = .ok (.putfield 352, 3) := by decide +kernel
theorem dX12_puts_20 : decode cX12_puts 20 = .ok (.return_, 1) := by decide +kernel
theorem dX12_putsNumber_0 : decode cX12_putsNumber 0 = .ok (.iload_n 1, 1) := by decide +kernel
theorem dX12_putsNumber_1 : decode cX12_putsNumber 1 = .ok (.bipush 10, 2) := by decide +kernel
theorem dX12_putsNumber_3 : decode cX12_putsNumber 3 = .ok (.if_icmp .lt 11, 3) := by decide +kernel
theorem dX12_putsNumber_6 : decode cX12_putsNumber 6 = .ok (.aload_n 0, 1) := by decide +kernel
theorem dX12_putsNumber_7 : decode cX12_putsNumber 7 = .ok (.iload_n 1, 1) := by decide +kernel
theorem dX12_putsNumber_8 : decode cX12_putsNumber 8 = .ok (.bipush 10, 2) := by decide +kernel
theorem dX12_putsNumber_10 : decode cX12_putsNumber 10 = .ok (.idiv, 1) := by decide +kernel
theorem dX12_putsNumber_11 : decode cX12_putsNumber 11 = .ok (.invokevirtual 355, 3) := by decide +kernel
theorem dX12_putsNumber_14 : decode cX12_putsNumber 14 = .ok (.aload_n 0, 1) := by decide +kernel
theorem dX12_putsNumber_15 : decode cX12_putsNumber 15 = .ok (.bipush 48, 2) := by decide +kernel
theorem dX12_putsNumber_17 : decode cX12_putsNumber 17 = .ok (.iload_n 1, 1) := by decide +kernel
theorem dX12_putsNumber_18 : decode cX12_putsNumber 18 = .ok (.bipush 10, 2) := by decide +kernel
theorem dX12_putsNumber_20 : decode cX12_putsNumber 20 = .ok (.irem, 1) := by decide +kernel
theorem dX12_putsNumber_21 : decode cX12_putsNumber 21 = .ok (.iadd, 1) := by decide +kernel
theorem dX12_putsNumber_22 : decode cX12_putsNumber 22 = .ok (.i2c, 1) := by decide +kernel
theorem dX12_putsNumber_23 : decode cX12_putsNumber 23 = .ok (.invokevirtual 358, 3) := by decide +kernel
theorem dX12_putsNumber_26 : decode cX12_putsNumber 26 = .ok (.return_, 1) := by decide +kernel
theorem dX12_putsName_0 : decode cX12_putsName 0 = .ok (.iload_n 1, 1) := by decide +kernel
theorem dX12_putsName_1 : decode cX12_putsName 1 = .ok (.invokestatic 247, 3) := by decide +kernel
theorem dX12_putsName_4 : decode cX12_putsName 4 = .ok (.istore_n 2, 1) := by decide +kernel
theorem dX12_putsName_5 : decode cX12_putsName 5 = .ok (.iconst 0, 1) := by decide +kernel
theorem dX12_putsName_6 : decode cX12_putsName 6 = .ok (.istore_n 3, 1) := by decide +kernel
theorem dX12_putsName_7 : decode cX12_putsName 7 = .ok (.iload_n 3, 1) := by decide +kernel
theorem dX12_putsName_8 : decode cX12_putsName 8 = .ok (.iconst 3, 1) := by decide +kernel
theorem dX12_putsName_9 : decode cX12_putsName 9 = .ok (.if_icmp .ge 42, 3) := by decide +kernel
theorem dX12_putsName_12 : decode cX12_putsName 12 = .ok (.aload_n 0, 1) := by decide +kernel
theorem dX12_putsName_13 : decode cX12_putsName 13 = .ok (.iload_n 2, 1) := by decide +kernel
theorem dX12_putsName_14 : decode cX12_putsName 14 = .ok (.ifCond .lt 15, 3) := by decide +kernel
theorem dX12_putsName_17 : decode cX12_putsName 17 = .ok (.getstatic 362, 3) := by decide +kernel
theorem dX12_putsName_20 : decode cX12_putsName 20 = .ok (.iconst 3, 1) := by decide +kernel
theorem dX12_putsName_21 : decode cX12_putsName 21 = .ok (.iload_n 2, 1) := by decide +kernel
theorem dX12_putsName_22 : decode cX12_putsName 22 = .ok (.imul, 1) := by decide +kernel
theorem dX12_putsName_23 : decode cX12_putsName 23 = .ok (.iload_n 3, 1) := by decide +kernel
theorem dX12_putsName_24 : decode cX12_putsName 24 = .ok (.iadd, 1) := by decide +kernel
theorem dX12_putsName_25 : decode cX12_putsName 25 = .ok (.caload, 1) := by decide +kernel
theorem dX12_putsName_26 : decode cX12_putsName 26 = .ok (.goto 16, 3) := by decide +kernel
theorem dX12_putsName_29 : decode cX12_putsName 29 = .ok (.getstatic 365, 3) := by decide +kernel
theorem dX12_putsName_32 : decode cX12_putsName 32 = .ok (.iconst 3, 1) := by decide +kernel
theorem dX12_putsName_33 : decode cX12_putsName 33 = .ok (.iload_n 1, 1) := by decide +kernel
theorem dX12_putsName_34 : decode cX12_putsName 34 = .ok (.sipush 128, 3) := by decide +kernel
theorem dX12_putsName_37 : decode cX12_putsName 37 = .ok (.isub, 1) := by decide +kernel
theorem dX12_putsName_38 : decode cX12_putsName 38 = .ok (.imul, 1) := by decide +kernel
theorem dX12_putsName_39 : decode cX12_putsName 39 = .ok (.iload_n 3, 1) := by decide +kernel
theorem dX12_putsName_40 : decode cX12_putsName 40 = .ok (.iadd, 1) := by decide +kernel
theorem dX12_putsName_41 : decode cX12_putsName 41 = .ok (.caload, 1) := by decide +kernel
theorem dX12_putsName_42 : decode cX12_putsName 42 = .ok (.invokevirtual 358, 3) := by decide +kernel
theorem dX12_putsName_45 : decode cX12_putsName 45 = .ok (.iinc 3 1, 3) := by decide +kernel
theorem dX12_putsName_48 : decode cX12_putsName 48 = .ok (.goto (-41), 3) := by decide +kernel
theorem dX12_putsName_51 : decode cX12_putsName 51 = .ok (.return_, 1) := by decide +kernel
theorem dX12_putsMode_0 : decode cX12_putsMode 0 = .ok (.aload_n 0, 1) := by decide +kernel
theorem dX12_putsMode_1 : decode cX12_putsMode 1 = .ok (.bipush 32, 2) := by decide +kernel
theorem dX12_putsMode_3 : decode cX12_putsMode 3 = .ok (.invokevirtual 358, 3) := by decide +kernel
theorem dX12_putsMode_6 : decode cX12_putsMode 6 = .ok (.iload_n 1, 1) := by decide +kernel
theorem dX12_putsMode_7 : decode cX12_putsMode 7 = .ok (.ifCond .ne 9, 3) := by decide +kernel
theorem dX12_putsMode_10 : decode cX12_putsMode 10 = .ok (.aload_n 0, 1) := by decide +kernel
theorem dX12_putsMode_11 : decode cX12_putsMode 11 = .ok (.bipush 35, 2) := by decide +kernel
theorem dX12_putsMode_13 : decode cX12_putsMode 13 = .ok (.invokevirtual 358, 3) := by decide +kernel
theorem dX12_putsMode_16 : decode cX12_putsMode 16 = .ok (.iload_n 1, 1) := by decide +kernel
theorem dX12_putsMode_17 : decode cX12_putsMode 17 = .ok (.iconst 5, 1) := by decide +kernel
theorem dX12_putsMode_18 : decode cX12_putsMode 18 = .ok (.if_icmp .le 9, 3) := by decide +kernel
theorem dX12_putsMode_21 : decode cX12_putsMode 21 = .ok (.aload_n 0, 1) := by decide +kernel
theorem dX12_putsMode_22 : decode cX12_putsMode 22 = .ok (.bipush 40, 2) := by decide +kernel
theorem dX12_putsMode_24 : decode cX12_putsMode 24 = .ok (.invokevirtual 358, 3) := by decide +kernel
theorem dX12_putsMode_27 : decode cX12_putsMode 27 = .ok (.aload_n 0, 1) := by decide +kernel
theorem dX12_putsMode_28 : decode cX12_putsMode 28 = .ok (.iload_n 1, 1) := by decide +kernel
theorem dX12_putsMode_29 : decode cX12_putsMode 29 = .ok (.iconst 3, 1) := by decide +kernel
theorem dX12_putsMode_30 : decode cX12_putsMode 30 = .ok (.iconst 5, 1) := by decide +kernel
theorem dX12_putsMode_31 : decode cX12_putsMode 31 = .ok (.invokestatic 119, 3) := by decide +kernel
theorem dX12_putsMode_34 : decode cX12_putsMode 34 = .ok (.ifCond .eq 13, 3) := by decide +kernel
theorem dX12_putsMode_37 : decode cX12_putsMode 37 = .ok (.aload_n 0, 1) := by decide +kernel
theorem dX12_putsMode_38 : decode cX12_putsMode 38 = .ok (.iload_n 2, 1) := by decide +kernel
theorem dX12_putsMode_39 : decode cX12_putsMode 39 = .ok (.iconst 1, 1) := by decide +kernel
theorem dX12_putsMode_40 : decode cX12_putsMode 40 = .ok (.iadd, 1) := by decide +kernel
theorem dX12_putsMode_41 : decode cX12_putsMode 41 = .ok (.invokevirtual 253, 3) := by decide +kernel
theorem dX12_putsMode_44 : decode cX12_putsMode 44 = .ok (.goto 10, 3) := by decide +kernel
theorem dX12_putsMode_47 : decode cX12_putsMode 47 = .ok (.aload_n 0, 1) := by decide +kernel
theorem dX12_putsMode_48 : decode cX12_putsMode 48 = .ok (.iload_n 2, 1) := by decide +kernel
theorem dX12_putsMode_49 : decode cX12_putsMode 49 = .ok (.iconst 1, 1) := by decide +kernel
theorem dX12_putsMode_50 : decode cX12_putsMode 50 = .ok (.iadd, 1) := by decide +kernel
theorem dX12_putsMode_51 : decode cX12_putsMode 51 = .ok (.invokevirtual 250, 3) := by decide +kernel
theorem dX12_putsMode_54 : decode cX12_putsMode 54 = .ok (.invokevirtual 355, 3) := by decide +kernel
theorem dX12_putsMode_57 : decode cX12_putsMode 57 = .ok (.iload_n 1, 1) := by decide +kernel
theorem dX12_putsMode_58 : decode cX12_putsMode 58 = .ok (.bipush 6, 2) := by decide +kernel
theorem dX12_putsMode_60 : decode cX12_putsMode 60 = .ok (.if_icmp .ne 9, 3) := by decide +kernel
theorem dX12_putsMode_63 : decode cX12_putsMode 63 = .ok (.aload_n 0, 1) := by decide +kernel
theorem dX12_putsMode_64 : decode cX12_putsMode 64 = .ok (.bipush 41, 2) := by decide +kernel
theorem dX12_putsMode_66 : decode cX12_putsMode 66 = .ok (.invokevirtual 358, 3) := by decide +kernel
theorem dX12_putsMode_69 : decode cX12_putsMode 69 = .ok (.iload_n 1, 1) := by decide +kernel
theorem dX12_putsMode_70 : decode cX12_putsMode 70 = .ok (.iconst 2, 1) := by decide +kernel
theorem dX12_putsMode_71 : decode cX12_putsMode 71 = .ok (.if_icmp .eq 8, 3) := by decide +kernel
theorem dX12_putsMode_74 : decode cX12_putsMode 74 = .ok (.iload_n 1, 1) := by decide +kernel
theorem dX12_putsMode_75 : decode cX12_putsMode 75 = .ok (.iconst 3, 1) := by decide +kernel
theorem dX12_putsMode_76 : decode cX12_putsMode 76 = .ok (.if_icmp .le 9, 3) := by decide +kernel
theorem dX12_putsMode_79 : decode cX12_putsMode 79 = .ok (.aload_n 0, 1) := by decide +kernel
theorem dX12_putsMode_80 : decode cX12_putsMode 80 = .ok (.bipush 44, 2) := by decide +kernel
theorem dX12_putsMode_82 : decode cX12_putsMode 82 = .ok (.invokevirtual 358, 3) := by decide +kernel
theorem dX12_putsMode_85 : decode cX12_putsMode 85 = .ok (.iload_n 1, 1) := by decide +kernel
theorem dX12_putsMode_86 : decode cX12_putsMode 86 = .ok (.iconst 2, 1) := by decide +kernel
theorem dX12_putsMode_87 : decode cX12_putsMode 87 = .ok (.if_icmp .eq 14, 3) := by decide +kernel
theorem dX12_putsMode_90 : decode cX12_putsMode 90 = .ok (.iload_n 1, 1) := by decide +kernel
theorem dX12_putsMode_91 : decode cX12_putsMode 91 = .ok (.iconst 4, 1) := by decide +kernel
theorem dX12_putsMode_92 : decode cX12_putsMode 92 = .ok (.if_icmp .eq 9, 3) := by decide +kernel
theorem dX12_putsMode_95 : decode cX12_putsMode 95 = .ok (.iload_n 1, 1) := by decide +kernel
theorem dX12_putsMode_96 : decode cX12_putsMode 96 = .ok (.bipush 7, 2) := by decide +kernel
theorem dX12_putsMode_98 : decode cX12_putsMode 98 = .ok (.if_icmp .ne 9, 3) := by decide +kernel
theorem dX12_putsMode_101 : decode cX12_putsMode 101 = .ok (.aload_n 0, 1) := by decide +kernel
theorem dX12_putsMode_102 : decode cX12_putsMode 102 = .ok (.bipush 120, 2) := by decide +kernel
theorem dX12_putsMode_104 : decode cX12_putsMode 104 = .ok (.invokevirtual 358, 3) := by decide +kernel
theorem dX12_putsMode_107 : decode cX12_putsMode 107 = .ok (.iload_n 1, 1) := by decide +kernel
theorem dX12_putsMode_108 : decode cX12_putsMode 108 = .ok (.iconst 5, 1) := by decide +kernel
theorem dX12_putsMode_109 : decode cX12_putsMode 109 = .ok (.if_icmp .eq 9, 3) := by decide +kernel
theorem dX12_putsMode_112 : decode cX12_putsMode 112 = .ok (.iload_n 1, 1) := by decide +kernel
theorem dX12_putsMode_113 : decode cX12_putsMode 113 = .ok (.bipush 6, 2) := by decide +kernel
theorem dX12_putsMode_115 : decode cX12_putsMode 115 = .ok (.if_icmp .ne 9, 3) := by decide +kernel
theorem dX12_putsMode_118 : decode cX12_putsMode 118 = .ok (.aload_n 0, 1) := by decide +kernel
theorem dX12_putsMode_119 : decode cX12_putsMode 119 = .ok (.bipush 121, 2) := by decide +kernel
theorem dX12_putsMode_121 : decode cX12_putsMode 121 = .ok (.invokevirtual 358, 3) := by decide +kernel
theorem dX12_putsMode_124 : decode cX12_putsMode 124 = .ok (.iload_n 1, 1) := by decide +kernel
theorem dX12_putsMode_125 : decode cX12_putsMode 125 = .ok (.bipush 7, 2) := by decide +kernel
theorem dX12_putsMode_127 : decode cX12_putsMode 127 = .ok (.if_icmp .ne 9, 3) := by decide +kernel
theorem dX12_putsMode_130 : decode cX12_putsMode 130 = .ok (.aload_n 0, 1) := by decide +kernel
theorem dX12_putsMode_131 : decode cX12_putsMode 131 = .ok (.bipush 41, 2) := by decide +kernel
theorem dX12_putsMode_133 : decode cX12_putsMode 133 = .ok (.invokevirtual 358, 3) := by decide +kernel
theorem dX12_putsMode_136 : decode cX12_putsMode 136 = .ok (.return_, 1) := by decide +kernel
theorem dX12_putsOther_0 : decode cX12_putsOther 0 = .ok (.iload_n 1, 1) := by decide +kernel
theorem dX12_putsOther_1 : decode cX12_putsOther 1 = .ok (.invokestatic 325, 3) := by decide +kernel
theorem dX12_putsOther_4 : decode cX12_putsOther 4 = .ok (.iconst 1, 1) := by decide +kernel
theorem dX12_putsOther_5 : decode cX12_putsOther 5 = .ok (.if_icmp .ne 4, 3) := by decide +kernel
theorem dX12_putsOther_8 : decode cX12_putsOther 8 = .ok (.return_, 1) := by decide +kernel
theorem dX12_putsOther_9 : decode cX12_putsOther 9 = .ok (.aload_n 0, 1) := by decide +kernel
theorem dX12_putsOther_10 : decode cX12_putsOther 10 = .ok (.bipush 32, 2) := by decide +kernel
theorem dX12_putsOther_12 : decode cX12_putsOther 12 = .ok (.invokevirtual 358, 3) := by decide +kernel
theorem dX12_putsOther_15 : decode cX12_putsOther 15 = .ok (.iload_n 1, 1) := by decide +kernel
theorem dX12_putsOther_16 : decode cX12_putsOther 16 = .ok (.sipush 159, 3) := by decide +kernel
theorem dX12_putsOther_19 : decode cX12_putsOther 19 = .ok (.if_icmp .ne 9, 3) := by decide +kernel
theorem dX12_putsOther_22 : decode cX12_putsOther 22 = .ok (.aload_n 0, 1) := by decide +kernel
theorem dX12_putsOther_23 : decode cX12_putsOther 23 = .ok (.bipush 40, 2) := by decide +kernel
theorem dX12_putsOther_25 : decode cX12_putsOther 25 = .ok (.invokevirtual 358, 3) := by decide +kernel
theorem dX12_putsOther_28 : decode cX12_putsOther 28 = .ok (.aload_n 0, 1) := by decide +kernel
theorem dX12_putsOther_29 : decode cX12_putsOther 29 = .ok (.iload_n 1, 1) := by decide +kernel
theorem dX12_putsOther_30 : decode cX12_putsOther 30 = .ok (.invokestatic 325, 3) := by decide +kernel
theorem dX12_putsOther_33 : decode cX12_putsOther 33 = .ok (.iconst 2, 1) := by decide +kernel
theorem dX12_putsOther_34 : decode cX12_putsOther 34 = .ok (.if_icmp .ne 11, 3) := by decide +kernel
theorem dX12_putsOther_37 : decode cX12_putsOther 37 = .ok (.aload_n 0, 1) := by decide +kernel
theorem dX12_putsOther_38 : decode cX12_putsOther 38 = .ok (.iload_n 2, 1) := by decide +kernel
theorem dX12_putsOther_39 : decode cX12_putsOther 39 = .ok (.invokevirtual 272, 3) := by decide +kernel
theorem dX12_putsOther_42 : decode cX12_putsOther 42 = .ok (.goto 10, 3) := by decide +kernel
theorem dX12_putsOther_45 : decode cX12_putsOther 45 = .ok (.aload_n 0, 1) := by decide +kernel
theorem dX12_putsOther_46 : decode cX12_putsOther 46 = .ok (.iload_n 2, 1) := by decide +kernel
theorem dX12_putsOther_47 : decode cX12_putsOther 47 = .ok (.iconst 1, 1) := by decide +kernel
theorem dX12_putsOther_48 : decode cX12_putsOther 48 = .ok (.iadd, 1) := by decide +kernel
theorem dX12_putsOther_49 : decode cX12_putsOther 49 = .ok (.invokevirtual 253, 3) := by decide +kernel
theorem dX12_putsOther_52 : decode cX12_putsOther 52 = .ok (.invokevirtual 355, 3) := by decide +kernel
theorem dX12_putsOther_55 : decode cX12_putsOther 55 = .ok (.iload_n 1, 1) := by decide +kernel
theorem dX12_putsOther_56 : decode cX12_putsOther 56 = .ok (.sipush 159, 3) := by decide +kernel
theorem dX12_putsOther_59 : decode cX12_putsOther 59 = .ok (.if_icmp .ne 9, 3) := by decide +kernel
theorem dX12_putsOther_62 : decode cX12_putsOther 62 = .ok (.aload_n 0, 1) := by decide +kernel
theorem dX12_putsOther_63 : decode cX12_putsOther 63 = .ok (.bipush 41, 2) := by decide +kernel
theorem dX12_putsOther_65 : decode cX12_putsOther 65 = .ok (.invokevirtual 358, 3) := by decide +kernel
theorem dX12_putsOther_68 : decode cX12_putsOther 68 = .ok (.return_, 1) := by decide +kernel
theorem dX12_isJam_0 : decode cX12_isJam 0 = .ok (.iload_n 0, 1) := by decide +kernel
theorem dX12_isJam_1 : decode cX12_isJam 1 = .ok (.invokestatic 247, 3) := by decide +kernel
theorem dX12_isJam_4 : decode cX12_isJam 4 = .ok (.ifCond .ge 20, 3) := by decide +kernel
theorem dX12_isJam_7 : decode cX12_isJam 7 = .ok (.iload_n 0, 1) := by decide +kernel
theorem dX12_isJam_8 : decode cX12_isJam 8 = .ok (.sipush 128, 3) := by decide +kernel
theorem dX12_isJam_11 : decode cX12_isJam 11 = .ok (.sipush 167, 3) := by decide +kernel
theorem dX12_isJam_14 : decode cX12_isJam 14 = .ok (.invokestatic 119, 3) := by decide +kernel
theorem dX12_isJam_17 : decode cX12_isJam 17 = .ok (.ifCond .ne 7, 3) := by decide +kernel
theorem dX12_isJam_20 : decode cX12_isJam 20 = .ok (.iconst 1, 1) := by decide +kernel
theorem dX12_isJam_21 : decode cX12_isJam 21 = .ok (.goto 4, 3) := by decide +kernel
theorem dX12_isJam_24 : decode cX12_isJam 24 = .ok (.iconst 0, 1) := by decide +kernel
theorem dX12_isJam_25 : decode cX12_isJam 25 = .ok (.ireturn, 1) := by decide +kernel
theorem dX12_writeLine_0 : decode cX12_writeLine 0 = .ok (.aload_n 0, 1) := by decide +kernel
theorem dX12_writeLine_1 : decode cX12_writeLine 1 = .ok (.iload_n 1, 1) := by decide +kernel
theorem dX12_writeLine_2 : decode cX12_writeLine 2 = .ok (.invokestatic 157, 3) := by decide +kernel
theorem dX12_writeLine_5 : decode cX12_writeLine 5 = .ok (.ifCond .eq 7, 3) := by decide +kernel
theorem dX12_writeLine_8 : decode cX12_writeLine 8 = .ok (.iconst 1, 1) := by decide +kernel
theorem dX12_writeLine_9 : decode cX12_writeLine 9 = .ok (.goto 4, 3) := by decide +kernel
theorem dX12_writeLine_12 : decode cX12_writeLine 12 = .ok (.iconst 0, 1) := by decide +kernel
theorem dX12_writeLine_13 : decode cX12_writeLine 13 = .ok (.invokevirtual 164, 3) := by decide +kernel
theorem dX12_writeLine_16 : decode cX12_writeLine 16 = .ok (.ifCond .eq 5, 3) := by decide +kernel
theorem dX12_writeLine_19 : decode cX12_writeLine 19 = .ok (.iconst 0, 1) := by decide +kernel
theorem dX12_writeLine_20 : decode cX12_writeLine 20 = .ok (.ireturn, 1) := by decide +kernel
theorem dX12_writeLine_21 : decode cX12_writeLine 21 = .ok (.aload_n 0, 1) := by decide +kernel
theorem dX12_writeLine_22 : decode cX12_writeLine 22 = .ok (.iload_n 1, 1) := by decide +kernel
theorem dX12_writeLine_23 : decode cX12_writeLine 23 = .ok (.invokevirtual 250, 3) := by decide +kernel
theorem dX12_writeLine_26 : decode cX12_writeLine 26 = .ok (.istore_n 2, 1) := by decide +kernel
theorem dX12_writeLine_27 : decode cX12_writeLine 27 = .ok (.aload_n 0, 1) := by decide +kernel
theorem dX12_writeLine_28 : decode cX12_writeLine 28 = .ok (.iconst 0, 1) := by decide +kernel
theorem dX12_writeLine_29 : decode cX12_writeLine 29 = .ok (.putfield 352, 3) := by decide +kernel
theorem dX12_writeLine_32 : decode cX12_writeLine 32 = .ok (.aload_n 0, 1) := by decide +kernel
theorem dX12_writeLine_33 : decode cX12_writeLine 33 = .ok (.iload_n 1, 1) := by decide +kernel
theorem dX12_writeLine_34 : decode cX12_writeLine 34 = .ok (.invokevirtual 355, 3) := by decide +kernel
theorem dX12_writeLine_37 : decode cX12_writeLine 37 = .ok (.aload_n 0, 1) := by decide +kernel
theorem dX12_writeLine_38 : decode cX12_writeLine 38 = .ok (.bipush 32, 2) := by decide +kernel
theorem dX12_writeLine_40 : decode cX12_writeLine 40 = .ok (.invokevirtual 358, 3) := by decide +kernel
theorem dX12_writeLine_43 : decode cX12_writeLine 43 = .ok (.iload_n 2, 1) := by decide +kernel
theorem dX12_writeLine_44 : decode cX12_writeLine 44 = .ok (.invokestatic 368, 3) := by decide +kernel
theorem dX12_writeLine_47 : decode cX12_writeLine 47 = .ok (.ifCond .eq 26, 3) := by decide +kernel
theorem dX12_writeLine_50 : decode cX12_writeLine 50 = .ok (.aload_n 0, 1) := by decide +kernel
theorem dX12_writeLine_51 : decode cX12_writeLine 51 = .ok (.bipush 106, 2) := by decide +kernel
theorem dX12_writeLine_53 : decode cX12_writeLine 53 = .ok (.invokevirtual 358, 3) := by decide +kernel
theorem dX12_writeLine_56 : decode cX12_writeLine 56 = .ok (.aload_n 0, 1) := by decide +kernel
theorem dX12_writeLine_57 : decode cX12_writeLine 57 = .ok (.bipush 97, 2) := by decide +kernel
theorem dX12_writeLine_59 : decode cX12_writeLine 59 = .ok (.invokevirtual 358, 3) := by decide +kernel
theorem dX12_writeLine_62 : decode cX12_writeLine 62 = .ok (.aload_n 0, 1) := by decide +kernel
theorem dX12_writeLine_63 : decode cX12_writeLine 63 = .ok (.bipush 109, 2) := by decide +kernel
theorem dX12_writeLine_65 : decode cX12_writeLine 65 = .ok (.invokevirtual 358, 3) := by decide +kernel
theorem dX12_writeLine_68 : decode cX12_writeLine 68 = .ok (.aload_n 0, 1) := by decide +kernel
theorem dX12_writeLine_69 : decode cX12_writeLine 69 = .ok (.getfield 352, 3) := by decide +kernel
theorem dX12_writeLine_72 : decode cX12_writeLine 72 = .ok (.ireturn, 1) := by decide +kernel
theorem dX12_writeLine_73 : decode cX12_writeLine 73 = .ok (.aload_n 0, 1) := by decide +kernel
theorem dX12_writeLine_74 : decode cX12_writeLine 74 = .ok (.iload_n 2, 1) := by decide +kernel
theorem dX12_writeLine_75 : decode cX12_writeLine 75 = .ok (.invokevirtual 371, 3) := by decide +kernel
theorem dX12_writeLine_78 : decode cX12_writeLine 78 = .ok (.iload_n 2, 1) := by decide +kernel
theorem dX12_writeLine_79 : decode cX12_writeLine 79 = .ok (.invokestatic 247, 3) := by decide +kernel
theorem dX12_writeLine_82 : decode cX12_writeLine 82 = .ok (.ifCond .lt 15, 3) := by decide +kernel
theorem dX12_writeLine_85 : decode cX12_writeLine 85 = .ok (.aload_n 0, 1) := by decide +kernel
theorem dX12_writeLine_86 : decode cX12_writeLine 86 = .ok (.iload_n 2, 1) := by decide +kernel
theorem dX12_writeLine_87 : decode cX12_writeLine 87 = .ok (.bipush 8, 2) := by decide +kernel
theorem dX12_writeLine_89 : decode cX12_writeLine 89 = .ok (.irem, 1) := by decide +kernel
theorem dX12_writeLine_90 : decode cX12_writeLine 90 = .ok (.iload_n 1, 1) := by decide +kernel
theorem dX12_writeLine_91 : decode cX12_writeLine 91 = .ok (.invokevirtual 374, 3) := by decide +kernel
theorem dX12_writeLine_94 : decode cX12_writeLine 94 = .ok (.goto 9, 3) := by decide +kernel
theorem dX12_writeLine_97 : decode cX12_writeLine 97 = .ok (.aload_n 0, 1) := by decide +kernel
theorem dX12_writeLine_98 : decode cX12_writeLine 98 = .ok (.iload_n 2, 1) := by decide +kernel
theorem dX12_writeLine_99 : decode cX12_writeLine 99 = .ok (.iload_n 1, 1) := by decide +kernel
theorem dX12_writeLine_100 : decode cX12_writeLine 100 = .ok (.invokevirtual 377, 3) := by decide +kernel
theorem dX12_writeLine_103 : decode cX12_writeLine 103 = .ok (.aload_n 0, 1) := by decide +kernel
theorem dX12_writeLine_104 : decode cX12_writeLine 104 = .ok (.getfield 352, 3) := by decide +kernel
theorem dX12_writeLine_107 : decode cX12_writeLine 107 = .ok (.ireturn, 1) := by decide +kernel
theorem dX12_lineAt_0 : decode cX12_lineAt 0 = .ok (.aload_n 0, 1) := by decide +kernel
theorem dX12_lineAt_1 : decode cX12_lineAt 1 = .ok (.iload_n 1, 1) := by decide +kernel
theorem dX12_lineAt_2 : decode cX12_lineAt 2 = .ok (.iconst 0, 1) := by decide +kernel
theorem dX12_lineAt_3 : decode cX12_lineAt 3 = .ok (.aload_n 0, 1) := by decide +kernel
theorem dX12_lineAt_4 : decode cX12_lineAt 4 = .ok (.getfield 352, 3) := by decide +kernel
theorem dX12_lineAt_7 : decode cX12_lineAt 7 = .ok (.iconst 1, 1) := by decide +kernel
theorem dX12_lineAt_8 : decode cX12_lineAt 8 = .ok (.isub, 1) := by decide +kernel
theorem dX12_lineAt_9 : decode cX12_lineAt 9 = .ok (.invokestatic 119, 3) := by decide +kernel
theorem dX12_lineAt_12 : decode cX12_lineAt 12 = .ok (.ifCond .eq 7, 3) := by decide +kernel
theorem dX12_lineAt_15 : decode cX12_lineAt 15 = .ok (.iconst 0, 1) := by decide +kernel
theorem dX12_lineAt_16 : decode cX12_lineAt 16 = .ok (.goto 4, 3) := by decide +kernel
theorem dX12_lineAt_19 : decode cX12_lineAt 19 = .ok (.iconst 1, 1) := by decide +kernel
theorem dX12_lineAt_20 : decode cX12_lineAt 20 = .ok (.invokevirtual 164, 3) := by decide +kernel
theorem dX12_lineAt_23 : decode cX12_lineAt 23 = .ok (.ifCond .eq 8, 3) := by decide +kernel
theorem dX12_lineAt_26 : decode cX12_lineAt 26 = .ok (.bipush 32, 2) := by decide +kernel
theorem dX12_lineAt_28 : decode cX12_lineAt 28 = .ok (.goto 9, 3) := by decide +kernel
theorem dX12_lineAt_31 : decode cX12_lineAt 31 = .ok (.aload_n 0, 1) := by decide +kernel
theorem dX12_lineAt_32 : decode cX12_lineAt 32 = .ok (.getfield 109, 3) := by decide +kernel
theorem dX12_lineAt_35 : decode cX12_lineAt 35 = .ok (.iload_n 1, 1) := by decide +kernel
theorem dX12_lineAt_36 : decode cX12_lineAt 36 = .ok (.caload, 1) := by decide +kernel
theorem dX12_lineAt_37 : decode cX12_lineAt 37 = .ok (.ireturn, 1) := by decide +kernel
theorem dX12_register_0 : decode cX12_register 0 = .ok (.aload_n 0, 1) := by decide +kernel
theorem dX12_register_1 : decode cX12_register 1 = .ok (.iload_n 1, 1) := by decide +kernel
theorem dX12_register_2 : decode cX12_register 2 = .ok (.iconst 0, 1) := by decide +kernel
theorem dX12_register_3 : decode cX12_register 3 = .ok (.iconst 4, 1) := by decide +kernel
theorem dX12_register_4 : decode cX12_register 4 = .ok (.invokestatic 119, 3) := by decide +kernel
theorem dX12_register_7 : decode cX12_register 7 = .ok (.ifCond .eq 7, 3) := by decide +kernel
theorem dX12_register_10 : decode cX12_register 10 = .ok (.iconst 0, 1) := by decide +kernel
theorem dX12_register_11 : decode cX12_register 11 = .ok (.goto 4, 3) := by decide +kernel
theorem dX12_register_14 : decode cX12_register 14 = .ok (.iconst 1, 1) := by decide +kernel
theorem dX12_register_15 : decode cX12_register 15 = .ok (.invokevirtual 164, 3) := by decide +kernel
theorem dX12_register_18 : decode cX12_register 18 = .ok (.ifCond .eq 7, 3) := by decide +kernel
theorem dX12_register_21 : decode cX12_register 21 = .ok (.iconst 0, 1) := by decide +kernel
theorem dX12_register_22 : decode cX12_register 22 = .ok (.goto 9, 3) := by decide +kernel
theorem dX12_register_25 : decode cX12_register 25 = .ok (.aload_n 0, 1) := by decide +kernel
theorem dX12_register_26 : decode cX12_register 26 = .ok (.getfield 50, 3) := by decide +kernel
theorem dX12_register_29 : decode cX12_register 29 = .ok (.iload_n 1, 1) := by decide +kernel
theorem dX12_register_30 : decode cX12_register 30 = .ok (.iaload, 1) := by decide +kernel
theorem dX12_register_31 : decode cX12_register 31 = .ok (.ireturn, 1) := by decide +kernel
theorem dX12_setRegister_0 : decode cX12_setRegister 0 = .ok (.aload_n 0, 1) := by decide +kernel
theorem dX12_setRegister_1 : decode cX12_setRegister 1 = .ok (.iload_n 1, 1) := by decide +kernel
theorem dX12_setRegister_2 : decode cX12_setRegister 2 = .ok (.iconst 0, 1) := by decide +kernel
theorem dX12_setRegister_3 : decode cX12_setRegister 3 = .ok (.iconst 4, 1) := by decide +kernel
theorem dX12_setRegister_4 : decode cX12_setRegister 4 = .ok (.invokestatic 119, 3) := by decide +kernel
theorem dX12_setRegister_7 : decode cX12_setRegister 7 = .ok (.ifCond .ne 7, 3) := by decide +kernel
theorem dX12_setRegister_10 : decode cX12_setRegister 10 = .ok (.iconst 1, 1) := by decide +kernel
theorem dX12_setRegister_11 : decode cX12_setRegister 11 = .ok (.goto 44, 3) := by decide +kernel
theorem dX12_setRegister_14 : decode cX12_setRegister 14 = .ok (.iload_n 2, 1) := by decide +kernel
theorem dX12_setRegister_15 : decode cX12_setRegister 15 = .ok (.iconst 0, 1) := by decide +kernel
theorem dX12_setRegister_16 : decode cX12_setRegister 16 = .ok (.iload_n 1, 1) := by decide +kernel
theorem dX12_setRegister_17 : decode cX12_setRegister 17 = .ok (.iconst 4, 1) := by decide +kernel
theorem dX12_setRegister_18 : decode cX12_setRegister 18 = .ok (.if_icmp .ne 9, 3) := by decide +kernel
theorem dX12_setRegister_21 : decode cX12_setRegister 21 = .ok (.sipush 4095, 3) := by decide +kernel
theorem dX12_setRegister_24 : decode cX12_setRegister 24 = .ok (.goto 6, 3) := by decide +kernel
theorem dX12_setRegister_27 : decode cX12_setRegister 27 = .ok (.sipush 255, 3) := by decide +kernel
theorem dX12_setRegister_30 : decode cX12_setRegister 30 = .ok (.invokestatic 119, 3) := by decide +kernel
theorem dX12_setRegister_33 : decode cX12_setRegister 33 = .ok (.ifCond .ne 7, 3) := by decide +kernel
theorem dX12_setRegister_36 : decode cX12_setRegister 36 = .ok (.iconst 2, 1) := by decide +kernel
theorem dX12_setRegister_37 : decode cX12_setRegister 37 = .ok (.goto 18, 3) := by decide +kernel
theorem dX12_setRegister_40 : decode cX12_setRegister 40 = .ok (.aload_n 0, 1) := by decide +kernel
theorem dX12_setRegister_41 : decode cX12_setRegister 41 = .ok (.getfield 50, 3) := by decide +kernel
theorem dX12_setRegister_44 : decode cX12_setRegister 44 = .ok (.bipush 17, 2) := by decide +kernel
theorem dX12_setRegister_46 : decode cX12_setRegister 46 = .ok (.iaload, 1) := by decide +kernel
theorem dX12_setRegister_47 : decode cX12_setRegister 47 = .ok (.ifCond .le 7, 3) := by decide +kernel
theorem dX12_setRegister_50 : decode cX12_setRegister 50 = .ok (.iconst 3, 1) := by decide +kernel
theorem dX12_setRegister_51 : decode cX12_setRegister 51 = .ok (.goto 4, 3) := by decide +kernel
theorem dX12_setRegister_54 : decode cX12_setRegister 54 = .ok (.iconst 0, 1) := by decide +kernel
theorem dX12_setRegister_55 : decode cX12_setRegister 55 = .ok (.invokevirtual 164, 3) := by decide +kernel
theorem dX12_setRegister_58 : decode cX12_setRegister 58 = .ok (.ifCond .eq 5, 3) := by decide +kernel
theorem dX12_setRegister_61 : decode cX12_setRegister 61 = .ok (.iconst 0, 1) := by decide +kernel
theorem dX12_setRegister_62 : decode cX12_setRegister 62 = .ok (.ireturn, 1) := by decide +kernel
theorem dX12_setRegister_63 : decode cX12_setRegister 63 = .ok (.aload_n 0, 1) := by decide +kernel
theorem dX12_setRegister_64 : decode cX12_setRegister 64 = .ok (.getfield 50, 3) := by decide +kernel
theorem dX12_setRegister_67 : decode cX12_setRegister 67 = .ok (.iload_n 1, 1) := by decide +kernel
theorem dX12_setRegister_68 : decode cX12_setRegister 68 = .ok (.iaload, 1) := by decide +kernel
theorem dX12_setRegister_69 : decode cX12_setRegister 69 = .ok (.istore_n 3, 1) := by decide +kernel
theorem dX12_setRegister_70 : decode cX12_setRegister 70 = .ok (.aload_n 0, 1) := by decide +kernel
theorem dX12_setRegister_71 : decode cX12_setRegister 71 = .ok (.getfield 50, 3) := by decide +kernel
theorem dX12_setRegister_74 : decode cX12_setRegister 74 = .ok (.iload_n 1, 1) := by decide +kernel
theorem dX12_setRegister_75 : decode cX12_setRegister 75 = .ok (.iload_n 2, 1) := by decide +kernel
theorem dX12_setRegister_76 : decode cX12_setRegister 76 = .ok (.iastore, 1) := by decide +kernel
theorem dX12_setRegister_77 : decode cX12_setRegister 77 = .ok (.aload_n 0, 1) := by decide +kernel
theorem dX12_setRegister_78 : decode cX12_setRegister 78 = .ok (.invokevirtual 173, 3) := by decide +kernel
theorem dX12_setRegister_81 : decode cX12_setRegister 81 = .ok (.iload_n 3, 1) := by decide +kernel
theorem dX12_setRegister_82 : decode cX12_setRegister 82 = .ok (.ireturn, 1) := by decide +kernel
theorem dX12_status_0 : decode cX12_status 0 = .ok (.aload_n 0, 1) := by decide +kernel
theorem dX12_status_1 : decode cX12_status 1 = .ok (.aload_n 0, 1) := by decide +kernel
theorem dX12_status_2 : decode cX12_status 2 = .ok (.bipush 16, 2) := by decide +kernel
theorem dX12_status_4 : decode cX12_status 4 = .ok (.invokevirtual 281, 3) := by decide +kernel
theorem dX12_status_7 : decode cX12_status 7 = .ok (.invokevirtual 244, 3) := by decide +kernel
theorem dX12_status_10 : decode cX12_status 10 = .ok (.ireturn, 1) := by decide +kernel
theorem dX12_reset_0 : decode cX12_reset 0 = .ok (.aload_n 0, 1) := by decide +kernel
theorem dX12_reset_1 : decode cX12_reset 1 = .ok (.iconst 0, 1) := by decide +kernel
theorem dX12_reset_2 : decode cX12_reset 2 = .ok (.putfield 116, 3) := by decide +kernel
theorem dX12_reset_5 : decode cX12_reset 5 = .ok (.iconst 0, 1) := by decide +kernel
theorem dX12_reset_6 : decode cX12_reset 6 = .ok (.istore_n 1, 1) := by decide +kernel
theorem dX12_reset_7 : decode cX12_reset 7 = .ok (.iload_n 1, 1) := by decide +kernel
theorem dX12_reset_8 : decode cX12_reset 8 = .ok (.bipush 48, 2) := by decide +kernel
theorem dX12_reset_10 : decode cX12_reset 10 = .ok (.if_icmp .ge 16, 3) := by decide +kernel
theorem dX12_reset_13 : decode cX12_reset 13 = .ok (.aload_n 0, 1) := by decide +kernel
theorem dX12_reset_14 : decode cX12_reset 14 = .ok (.getfield 19, 3) := by decide +kernel
theorem dX12_reset_17 : decode cX12_reset 17 = .ok (.iload_n 1, 1) := by decide +kernel
theorem dX12_reset_18 : decode cX12_reset 18 = .ok (.iconst 0, 1) := by decide +kernel
theorem dX12_reset_19 : decode cX12_reset 19 = .ok (.iastore, 1) := by decide +kernel
theorem dX12_reset_20 : decode cX12_reset 20 = .ok (.iinc 1 1, 3) := by decide +kernel
theorem dX12_reset_23 : decode cX12_reset 23 = .ok (.goto (-16), 3) := by decide +kernel
theorem dX12_reset_26 : decode cX12_reset 26 = .ok (.iconst 0, 1) := by decide +kernel
theorem dX12_reset_27 : decode cX12_reset 27 = .ok (.istore_n 1, 1) := by decide +kernel
theorem dX12_reset_28 : decode cX12_reset 28 = .ok (.iload_n 1, 1) := by decide +kernel
theorem dX12_reset_29 : decode cX12_reset 29 = .ok (.bipush 12, 2) := by decide +kernel
theorem dX12_reset_31 : decode cX12_reset 31 = .ok (.if_icmp .ge 16, 3) := by decide +kernel
theorem dX12_reset_34 : decode cX12_reset 34 = .ok (.aload_n 0, 1) := by decide +kernel
theorem dX12_reset_35 : decode cX12_reset 35 = .ok (.getfield 50, 3) := by decide +kernel
theorem dX12_reset_38 : decode cX12_reset 38 = .ok (.iload_n 1, 1) := by decide +kernel
theorem dX12_reset_39 : decode cX12_reset 39 = .ok (.iconst 0, 1) := by decide +kernel
theorem dX12_reset_40 : decode cX12_reset 40 = .ok (.iastore, 1) := by decide +kernel
theorem dX12_reset_41 : decode cX12_reset 41 = .ok (.iinc 1 1, 3) := by decide +kernel
theorem dX12_reset_44 : decode cX12_reset 44 = .ok (.goto (-16), 3) := by decide +kernel
theorem dX12_reset_47 : decode cX12_reset 47 = .ok (.aload_n 0, 1) := by decide +kernel
theorem dX12_reset_48 : decode cX12_reset 48 = .ok (.getfield 50, 3) := by decide +kernel
theorem dX12_reset_51 : decode cX12_reset 51 = .ok (.iconst 3, 1) := by decide +kernel
theorem dX12_reset_52 : decode cX12_reset 52 = .ok (.sipush 255, 3) := by decide +kernel
theorem dX12_reset_55 : decode cX12_reset 55 = .ok (.iastore, 1) := by decide +kernel
theorem dX12_reset_56 : decode cX12_reset 56 = .ok (.aload_n 0, 1) := by decide +kernel
theorem dX12_reset_57 : decode cX12_reset 57 = .ok (.getfield 50, 3) := by decide +kernel
theorem dX12_reset_60 : decode cX12_reset 60 = .ok (.bipush 17, 2) := by decide +kernel
theorem dX12_reset_62 : decode cX12_reset 62 = .ok (.iconst 0, 1) := by decide +kernel
theorem dX12_reset_63 : decode cX12_reset 63 = .ok (.iastore, 1) := by decide +kernel
theorem dX12_reset_64 : decode cX12_reset 64 = .ok (.iconst 0, 1) := by decide +kernel
theorem dX12_reset_65 : decode cX12_reset 65 = .ok (.istore_n 1, 1) := by decide +kernel
theorem dX12_reset_66 : decode cX12_reset 66 = .ok (.iload_n 1, 1) := by decide +kernel
theorem dX12_reset_67 : decode cX12_reset 67 = .ok (.bipush 8, 2) := by decide +kernel
theorem dX12_reset_69 : decode cX12_reset 69 = .ok (.if_icmp .ge 25, 3) := by decide +kernel
theorem dX12_reset_72 : decode cX12_reset 72 = .ok (.aload_n 0, 1) := by decide +kernel
theorem dX12_reset_73 : decode cX12_reset 73 = .ok (.getfield 53, 3) := by decide +kernel
theorem dX12_reset_76 : decode cX12_reset 76 = .ok (.iload_n 1, 1) := by decide +kernel
theorem dX12_reset_77 : decode cX12_reset 77 = .ok (.iload_n 1, 1) := by decide +kernel
theorem dX12_reset_78 : decode cX12_reset 78 = .ok (.iconst 3, 1) := by decide +kernel
theorem dX12_reset_79 : decode cX12_reset 79 = .ok (.if_icmp .ne 7, 3) := by decide +kernel
theorem dX12_reset_82 : decode cX12_reset 82 = .ok (.iconst 1, 1) := by decide +kernel
theorem dX12_reset_83 : decode cX12_reset 83 = .ok (.goto 4, 3) := by decide +kernel
theorem dX12_reset_86 : decode cX12_reset 86 = .ok (.iconst 0, 1) := by decide +kernel
theorem dX12_reset_87 : decode cX12_reset 87 = .ok (.bastore, 1) := by decide +kernel
theorem dX12_reset_88 : decode cX12_reset 88 = .ok (.iinc 1 1, 3) := by decide +kernel
theorem dX12_reset_91 : decode cX12_reset 91 = .ok (.goto (-25), 3) := by decide +kernel
theorem dX12_reset_94 : decode cX12_reset 94 = .ok (.aload_n 0, 1) := by decide +kernel
theorem dX12_reset_95 : decode cX12_reset 95 = .ok (.getfield 50, 3) := by decide +kernel
theorem dX12_reset_98 : decode cX12_reset 98 = .ok (.iconst 4, 1) := by decide +kernel
theorem dX12_reset_99 : decode cX12_reset 99 = .ok (.aload_n 0, 1) := by decide +kernel
theorem dX12_reset_100 : decode cX12_reset 100 = .ok (.sipush 3836, 3) := by decide +kernel
theorem dX12_reset_103 : decode cX12_reset 103 = .ok (.invokevirtual 253, 3) := by decide +kernel
theorem dX12_reset_106 : decode cX12_reset 106 = .ok (.iastore, 1) := by decide +kernel
theorem dX12_reset_107 : decode cX12_reset 107 = .ok (.aload_n 0, 1) := by decide +kernel
theorem dX12_reset_108 : decode cX12_reset 108 = .ok (.invokevirtual 173, 3) := by decide +kernel
theorem dX12_reset_111 : decode cX12_reset 111 = .ok (.aload_n 0, 1) := by decide +kernel
theorem dX12_reset_112 : decode cX12_reset 112 = .ok (.getfield 50, 3) := by decide +kernel
theorem dX12_reset_115 : decode cX12_reset 115 = .ok (.iconst 4, 1) := by decide +kernel
theorem dX12_reset_116 : decode cX12_reset 116 = .ok (.iaload, 1) := by decide +kernel
theorem dX12_reset_117 : decode cX12_reset 117 = .ok (.ireturn, 1) := by decide +kernel
theorem dX12_freeze_0 : decode cX12_freeze 0 = .ok (.aload_n 0, 1) := by decide +kernel
theorem dX12_freeze_1 : decode cX12_freeze 1 = .ok (.iconst 0, 1) := by decide +kernel
theorem dX12_freeze_2 : decode cX12_freeze 2 = .ok (.putfield 116, 3) := by decide +kernel
theorem dX12_freeze_5 : decode cX12_freeze 5 = .ok (.aload_n 0, 1) := by decide +kernel
theorem dX12_freeze_6 : decode cX12_freeze 6 = .ok (.getfield 19, 3) := by decide +kernel
theorem dX12_freeze_9 : decode cX12_freeze 9 = .ok (.iconst 0, 1) := by decide +kernel
theorem dX12_freeze_10 : decode cX12_freeze 10 = .ok (.iaload, 1) := by decide +kernel
theorem dX12_freeze_11 : decode cX12_freeze 11 = .ok (.istore_n 1, 1) := by decide +kernel
theorem dX12_freeze_12 : decode cX12_freeze 12 = .ok (.aload_n 0, 1) := by decide +kernel
theorem dX12_freeze_13 : decode cX12_freeze 13 = .ok (.getfield 53, 3) := by decide +kernel
theorem dX12_freeze_16 : decode cX12_freeze 16 = .ok (.bipush 6, 2) := by decide +kernel
theorem dX12_freeze_18 : decode cX12_freeze 18 = .ok (.iconst 1, 1) := by decide +kernel
theorem dX12_freeze_19 : decode cX12_freeze 19 = .ok (.bastore, 1) := by decide +kernel
theorem dX12_freeze_20 : decode cX12_freeze 20 = .ok (.aload_n 0, 1) := by decide +kernel
theorem dX12_freeze_21 : decode cX12_freeze 21 = .ok (.getfield 19, 3) := by decide +kernel
theorem dX12_freeze_24 : decode cX12_freeze 24 = .ok (.iconst 0, 1) := by decide +kernel
theorem dX12_freeze_25 : decode cX12_freeze 25 = .ok (.dup2, 1) := by decide +kernel
theorem dX12_freeze_26 : decode cX12_freeze 26 = .ok (.iaload, 1) := by decide +kernel
theorem dX12_freeze_27 : decode cX12_freeze 27 = .ok (.bipush 14, 2) := by decide +kernel
theorem dX12_freeze_29 : decode cX12_freeze 29 = .ok (.ior, 1) := by decide +kernel
theorem dX12_freeze_30 : decode cX12_freeze 30 = .ok (.iastore, 1) := by decide +kernel
theorem dX12_freeze_31 : decode cX12_freeze 31 = .ok (.aload_n 0, 1) := by decide +kernel
theorem dX12_freeze_32 : decode cX12_freeze 32 = .ok (.invokevirtual 173, 3) := by decide +kernel
theorem dX12_freeze_35 : decode cX12_freeze 35 = .ok (.iload_n 1, 1) := by decide +kernel
theorem dX12_freeze_36 : decode cX12_freeze 36 = .ok (.ireturn, 1) := by decide +kernel
theorem dX12_pixelAt_0 : decode cX12_pixelAt 0 = .ok (.aload_n 0, 1) := by decide +kernel
theorem dX12_pixelAt_1 : decode cX12_pixelAt 1 = .ok (.iload_n 1, 1) := by decide +kernel
theorem dX12_pixelAt_2 : decode cX12_pixelAt 2 = .ok (.iconst 0, 1) := by decide +kernel
theorem dX12_pixelAt_3 : decode cX12_pixelAt 3 = .ok (.bipush 31, 2) := by decide +kernel
theorem dX12_pixelAt_5 : decode cX12_pixelAt 5 = .ok (.invokestatic 119, 3) := by decide +kernel
theorem dX12_pixelAt_8 : decode cX12_pixelAt 8 = .ok (.ifCond .eq 17, 3) := by decide +kernel
theorem dX12_pixelAt_11 : decode cX12_pixelAt 11 = .ok (.iload_n 2, 1) := by decide +kernel
theorem dX12_pixelAt_12 : decode cX12_pixelAt 12 = .ok (.iconst 0, 1) := by decide +kernel
theorem dX12_pixelAt_13 : decode cX12_pixelAt 13 = .ok (.bipush 31, 2) := by decide +kernel
theorem dX12_pixelAt_15 : decode cX12_pixelAt 15 = .ok (.invokestatic 119, 3) := by decide +kernel
theorem dX12_pixelAt_18 : decode cX12_pixelAt 18 = .ok (.ifCond .eq 7, 3) := by decide +kernel
theorem dX12_pixelAt_21 : decode cX12_pixelAt 21 = .ok (.iconst 0, 1) := by decide +kernel
theorem dX12_pixelAt_22 : decode cX12_pixelAt 22 = .ok (.goto 4, 3) := by decide +kernel
theorem dX12_pixelAt_25 : decode cX12_pixelAt 25 = .ok (.iconst 1, 1) := by decide +kernel
theorem dX12_pixelAt_26 : decode cX12_pixelAt 26 = .ok (.invokevirtual 164, 3) := by decide +kernel
theorem dX12_pixelAt_29 : decode cX12_pixelAt 29 = .ok (.ifCond .eq 7, 3) := by decide +kernel
theorem dX12_pixelAt_32 : decode cX12_pixelAt 32 = .ok (.iconst 0, 1) := by decide +kernel
theorem dX12_pixelAt_33 : decode cX12_pixelAt 33 = .ok (.goto 14, 3) := by decide +kernel
theorem dX12_pixelAt_36 : decode cX12_pixelAt 36 = .ok (.aload_n 0, 1) := by decide +kernel
theorem dX12_pixelAt_37 : decode cX12_pixelAt 37 = .ok (.getfield 22, 3) := by decide +kernel
theorem dX12_pixelAt_40 : decode cX12_pixelAt 40 = .ok (.bipush 32, 2) := by decide +kernel
theorem dX12_pixelAt_42 : decode cX12_pixelAt 42 = .ok (.iload_n 2, 1) := by decide +kernel
theorem dX12_pixelAt_43 : decode cX12_pixelAt 43 = .ok (.imul, 1) := by decide +kernel
theorem dX12_pixelAt_44 : decode cX12_pixelAt 44 = .ok (.iload_n 1, 1) := by decide +kernel
theorem dX12_pixelAt_45 : decode cX12_pixelAt 45 = .ok (.iadd, 1) := by decide +kernel
theorem dX12_pixelAt_46 : decode cX12_pixelAt 46 = .ok (.iaload, 1) := by decide +kernel
theorem dX12_pixelAt_47 : decode cX12_pixelAt 47 = .ok (.ireturn, 1) := by decide +kernel
theorem dX12_pixel_0 : decode cX12_pixel 0 = .ok (.aload_n 0, 1) := by decide +kernel
theorem dX12_pixel_1 : decode cX12_pixel 1 = .ok (.iload_n 1, 1) := by decide +kernel
theorem dX12_pixel_2 : decode cX12_pixel 2 = .ok (.iload_n 2, 1) := by decide +kernel
theorem dX12_pixel_3 : decode cX12_pixel 3 = .ok (.invokevirtual 380, 3) := by decide +kernel
theorem dX12_pixel_6 : decode cX12_pixel 6 = .ok (.ireturn, 1) := by decide +kernel
theorem dX12_pixelAgain_0 : decode cX12_pixelAgain 0 = .ok (.aload_n 0, 1) := by decide +kernel
theorem dX12_pixelAgain_1 : decode cX12_pixelAgain 1 = .ok (.iload_n 1, 1) := by decide +kernel
theorem dX12_pixelAgain_2 : decode cX12_pixelAgain 2 = .ok (.iload_n 2, 1) := by decide +kernel
theorem dX12_pixelAgain_3 : decode cX12_pixelAgain 3 = .ok (.invokevirtual 380, 3) := by decide +kernel
theorem dX12_pixelAgain_6 : decode cX12_pixelAgain 6 = .ok (.ireturn, 1) := by decide +kernel
theorem dX12_sample_0 : decode cX12_sample 0 = .ok (.aload_n 0, 1) := by decide +kernel
theorem dX12_sample_1 : decode cX12_sample 1 = .ok (.iload_n 1, 1) := by decide +kernel
theorem dX12_sample_2 : decode cX12_sample 2 = .ok (.iconst 0, 1) := by decide +kernel
theorem dX12_sample_3 : decode cX12_sample 3 = .ok (.bipush 39, 2) := by decide +kernel
theorem dX12_sample_5 : decode cX12_sample 5 = .ok (.invokestatic 119, 3) := by decide +kernel
theorem dX12_sample_8 : decode cX12_sample 8 = .ok (.ifCond .eq 7, 3) := by decide +kernel
theorem dX12_sample_11 : decode cX12_sample 11 = .ok (.iconst 0, 1) := by decide +kernel
theorem dX12_sample_12 : decode cX12_sample 12 = .ok (.goto 4, 3) := by decide +kernel
theorem dX12_sample_15 : decode cX12_sample 15 = .ok (.iconst 1, 1) := by decide +kernel
theorem dX12_sample_16 : decode cX12_sample 16 = .ok (.invokevirtual 164, 3) := by decide +kernel
theorem dX12_sample_19 : decode cX12_sample 19 = .ok (.ifCond .eq 7, 3) := by decide +kernel
theorem dX12_sample_22 : decode cX12_sample 22 = .ok (.iconst 0, 1) := by decide +kernel
theorem dX12_sample_23 : decode cX12_sample 23 = .ok (.goto 9, 3) := by decide +kernel
theorem dX12_sample_26 : decode cX12_sample 26 = .ok (.aload_n 0, 1) := by decide +kernel
theorem dX12_sample_27 : decode cX12_sample 27 = .ok (.getfield 25, 3) := by decide +kernel
theorem dX12_sample_30 : decode cX12_sample 30 = .ok (.iload_n 1, 1) := by decide +kernel
theorem dX12_sample_31 : decode cX12_sample 31 = .ok (.iaload, 1) := by decide +kernel
theorem dX12_sample_32 : decode cX12_sample 32 = .ok (.ireturn, 1) := by decide +kernel
theorem dX12_level_0 : decode cX12_level 0 = .ok (.aload_n 0, 1) := by decide +kernel
theorem dX12_level_1 : decode cX12_level 1 = .ok (.iload_n 1, 1) := by decide +kernel
theorem dX12_level_2 : decode cX12_level 2 = .ok (.iconst 0, 1) := by decide +kernel
theorem dX12_level_3 : decode cX12_level 3 = .ok (.iconst 2, 1) := by decide +kernel
theorem dX12_level_4 : decode cX12_level 4 = .ok (.invokestatic 119, 3) := by decide +kernel
theorem dX12_level_7 : decode cX12_level 7 = .ok (.ifCond .eq 7, 3) := by decide +kernel
theorem dX12_level_10 : decode cX12_level 10 = .ok (.iconst 0, 1) := by decide +kernel
theorem dX12_level_11 : decode cX12_level 11 = .ok (.goto 4, 3) := by decide +kernel
theorem dX12_level_14 : decode cX12_level 14 = .ok (.iconst 1, 1) := by decide +kernel
theorem dX12_level_15 : decode cX12_level 15 = .ok (.invokevirtual 164, 3) := by decide +kernel
theorem dX12_level_18 : decode cX12_level 18 = .ok (.ifCond .eq 7, 3) := by decide +kernel
theorem dX12_level_21 : decode cX12_level 21 = .ok (.iconst 0, 1) := by decide +kernel
theorem dX12_level_22 : decode cX12_level 22 = .ok (.goto 9, 3) := by decide +kernel
theorem dX12_level_25 : decode cX12_level 25 = .ok (.aload_n 0, 1) := by decide +kernel
theorem dX12_level_26 : decode cX12_level 26 = .ok (.getfield 41, 3) := by decide +kernel
theorem dX12_level_29 : decode cX12_level 29 = .ok (.iload_n 1, 1) := by decide +kernel
theorem dX12_level_30 : decode cX12_level 30 = .ok (.iaload, 1) := by decide +kernel
theorem dX12_level_31 : decode cX12_level 31 = .ok (.ireturn, 1) := by decide +kernel
theorem dX12_key_0 : decode cX12_key 0 = .ok (.aload_n 0, 1) := by decide +kernel
theorem dX12_key_1 : decode cX12_key 1 = .ok (.iload_n 1, 1) := by decide +kernel
theorem dX12_key_2 : decode cX12_key 2 = .ok (.iconst 0, 1) := by decide +kernel
theorem dX12_key_3 : decode cX12_key 3 = .ok (.iconst 3, 1) := by decide +kernel
theorem dX12_key_4 : decode cX12_key 4 = .ok (.invokestatic 119, 3) := by decide +kernel
theorem dX12_key_7 : decode cX12_key 7 = .ok (.ifCond .eq 16, 3) := by decide +kernel
theorem dX12_key_10 : decode cX12_key 10 = .ok (.iload_n 2, 1) := by decide +kernel
theorem dX12_key_11 : decode cX12_key 11 = .ok (.iconst 0, 1) := by decide +kernel
theorem dX12_key_12 : decode cX12_key 12 = .ok (.iconst 3, 1) := by decide +kernel
theorem dX12_key_13 : decode cX12_key 13 = .ok (.invokestatic 119, 3) := by decide +kernel
theorem dX12_key_16 : decode cX12_key 16 = .ok (.ifCond .eq 7, 3) := by decide +kernel
theorem dX12_key_19 : decode cX12_key 19 = .ok (.iconst 0, 1) := by decide +kernel
theorem dX12_key_20 : decode cX12_key 20 = .ok (.goto 4, 3) := by decide +kernel
theorem dX12_key_23 : decode cX12_key 23 = .ok (.iconst 1, 1) := by decide +kernel
theorem dX12_key_24 : decode cX12_key 24 = .ok (.invokevirtual 164, 3) := by decide +kernel
theorem dX12_key_27 : decode cX12_key 27 = .ok (.ifCond .eq 5, 3) := by decide +kernel
theorem dX12_key_30 : decode cX12_key 30 = .ok (.iconst 0, 1) := by decide +kernel
theorem dX12_key_31 : decode cX12_key 31 = .ok (.ireturn, 1) := by decide +kernel
theorem dX12_key_32 : decode cX12_key 32 = .ok (.aload_n 0, 1) := by decide +kernel
theorem dX12_key_33 : decode cX12_key 33 = .ok (.getfield 28, 3) := by decide +kernel
theorem dX12_key_36 : decode cX12_key 36 = .ok (.iconst 4, 1) := by decide +kernel
theorem dX12_key_37 : decode cX12_key 37 = .ok (.iload_n 1, 1) := by decide +kernel
theorem dX12_key_38 : decode cX12_key 38 = .ok (.imul, 1) := by decide +kernel
theorem dX12_key_39 : decode cX12_key 39 = .ok (.iload_n 2, 1) := by decide +kernel
theorem dX12_key_40 : decode cX12_key 40 = .ok (.iadd, 1) := by decide +kernel
theorem dX12_key_41 : decode cX12_key 41 = .ok (.baload, 1) := by decide +kernel
theorem dX12_key_42 : decode cX12_key 42 = .ok (.istore 4, 2) := by decide +kernel
theorem dX12_key_44 : decode cX12_key 44 = .ok (.aload_n 0, 1) := by decide +kernel
theorem dX12_key_45 : decode cX12_key 45 = .ok (.getfield 28, 3) := by decide +kernel
theorem dX12_key_48 : decode cX12_key 48 = .ok (.iconst 4, 1) := by decide +kernel
theorem dX12_key_49 : decode cX12_key 49 = .ok (.iload_n 1, 1) := by decide +kernel
theorem dX12_key_50 : decode cX12_key 50 = .ok (.imul, 1) := by decide +kernel
theorem dX12_key_51 : decode cX12_key 51 = .ok (.iload_n 2, 1) := by decide +kernel
theorem dX12_key_52 : decode cX12_key 52 = .ok (.iadd, 1) := by decide +kernel
theorem dX12_key_53 : decode cX12_key 53 = .ok (.iload_n 3, 1) := by decide +kernel
theorem dX12_key_54 : decode cX12_key 54 = .ok (.bastore, 1) := by decide +kernel
theorem dX12_key_55 : decode cX12_key 55 = .ok (.aload_n 0, 1) := by decide +kernel
theorem dX12_key_56 : decode cX12_key 56 = .ok (.invokevirtual 173, 3) := by decide +kernel
theorem dX12_key_59 : decode cX12_key 59 = .ok (.iload 4, 2) := by decide +kernel
theorem dX12_key_61 : decode cX12_key 61 = .ok (.ireturn, 1) := by decide +kernel
theorem dX12_columns_0 : decode cX12_columns 0 = .ok (.aload_n 0, 1) := by decide +kernel
theorem dX12_columns_1 : decode cX12_columns 1 = .ok (.iload_n 1, 1) := by decide +kernel
theorem dX12_columns_2 : decode cX12_columns 2 = .ok (.iconst 0, 1) := by decide +kernel
theorem dX12_columns_3 : decode cX12_columns 3 = .ok (.bipush 15, 2) := by decide +kernel
theorem dX12_columns_5 : decode cX12_columns 5 = .ok (.invokestatic 119, 3) := by decide +kernel
theorem dX12_columns_8 : decode cX12_columns 8 = .ok (.ifCond .eq 7, 3) := by decide +kernel
theorem dX12_columns_11 : decode cX12_columns 11 = .ok (.iconst 0, 1) := by decide +kernel
theorem dX12_columns_12 : decode cX12_columns 12 = .ok (.goto 4, 3) := by decide +kernel
theorem dX12_columns_15 : decode cX12_columns 15 = .ok (.iconst 1, 1) := by decide +kernel
theorem dX12_columns_16 : decode cX12_columns 16 = .ok (.invokevirtual 164, 3) := by decide +kernel
theorem dX12_columns_19 : decode cX12_columns 19 = .ok (.ifCond .eq 7, 3) := by decide +kernel
theorem dX12_columns_22 : decode cX12_columns 22 = .ok (.iconst 0, 1) := by decide +kernel
theorem dX12_columns_23 : decode cX12_columns 23 = .ok (.goto 8, 3) := by decide +kernel
theorem dX12_columns_26 : decode cX12_columns 26 = .ok (.aload_n 0, 1) := by decide +kernel
theorem dX12_columns_27 : decode cX12_columns 27 = .ok (.iload_n 1, 1) := by decide +kernel
theorem dX12_columns_28 : decode cX12_columns 28 = .ok (.invokevirtual 139, 3) := by decide +kernel
theorem dX12_columns_31 : decode cX12_columns 31 = .ok (.ireturn, 1) := by decide +kernel
theorem dX12_joystick_0 : decode cX12_joystick 0 = .ok (.aload_n 0, 1) := by decide +kernel
theorem dX12_joystick_1 : decode cX12_joystick 1 = .ok (.iload_n 1, 1) := by decide +kernel
theorem dX12_joystick_2 : decode cX12_joystick 2 = .ok (.iconst 0, 1) := by decide +kernel
theorem dX12_joystick_3 : decode cX12_joystick 3 = .ok (.bipush 15, 2) := by decide +kernel
theorem dX12_joystick_5 : decode cX12_joystick 5 = .ok (.invokestatic 119, 3) := by decide +kernel
theorem dX12_joystick_8 : decode cX12_joystick 8 = .ok (.ifCond .eq 7, 3) := by decide +kernel
theorem dX12_joystick_11 : decode cX12_joystick 11 = .ok (.iconst 0, 1) := by decide +kernel
theorem dX12_joystick_12 : decode cX12_joystick 12 = .ok (.goto 4, 3) := by decide +kernel
theorem dX12_joystick_15 : decode cX12_joystick 15 = .ok (.iconst 1, 1) := by decide +kernel
theorem dX12_joystick_16 : decode cX12_joystick 16 = .ok (.invokevirtual 164, 3) := by decide +kernel
theorem dX12_joystick_19 : decode cX12_joystick 19 = .ok (.ifCond .eq 5, 3) := by decide +kernel
theorem dX12_joystick_22 : decode cX12_joystick 22 = .ok (.iconst 0, 1) := by decide +kernel
theorem dX12_joystick_23 : decode cX12_joystick 23 = .ok (.ireturn, 1) := by decide +kernel
theorem dX12_joystick_24 : decode cX12_joystick 24 = .ok (.aload_n 0, 1) := by decide +kernel
theorem dX12_joystick_25 : decode cX12_joystick 25 = .ok (.getfield 50, 3) := by decide +kernel
theorem dX12_joystick_28 : decode cX12_joystick 28 = .ok (.bipush 12, 2) := by decide +kernel
theorem dX12_joystick_30 : decode cX12_joystick 30 = .ok (.iaload, 1) := by decide +kernel
theorem dX12_joystick_31 : decode cX12_joystick 31 = .ok (.istore_n 2, 1) := by decide +kernel
theorem dX12_joystick_32 : decode cX12_joystick 32 = .ok (.aload_n 0, 1) := by decide +kernel
theorem dX12_joystick_33 : decode cX12_joystick 33 = .ok (.getfield 50, 3) := by decide +kernel
theorem dX12_joystick_36 : decode cX12_joystick 36 = .ok (.bipush 12, 2) := by decide +kernel
theorem dX12_joystick_38 : decode cX12_joystick 38 = .ok (.iload_n 1, 1) := by decide +kernel
theorem dX12_joystick_39 : decode cX12_joystick 39 = .ok (.iastore, 1) := by decide +kernel
theorem dX12_joystick_40 : decode cX12_joystick 40 = .ok (.aload_n 0, 1) := by decide +kernel
theorem dX12_joystick_41 : decode cX12_joystick 41 = .ok (.invokevirtual 173, 3) := by decide +kernel
theorem dX12_joystick_44 : decode cX12_joystick 44 = .ok (.iload_n 2, 1) := by decide +kernel
theorem dX12_joystick_45 : decode cX12_joystick 45 = .ok (.ireturn, 1) := by decide +kernel
theorem dX12_addPulse_0 : decode cX12_addPulse 0 = .ok (.aload_n 0, 1) := by decide +kernel
theorem dX12_addPulse_1 : decode cX12_addPulse 1 = .ok (.iload_n 1, 1) := by decide +kernel
theorem dX12_addPulse_2 : decode cX12_addPulse 2 = .ok (.iconst 1, 1) := by decide +kernel
theorem dX12_addPulse_3 : decode cX12_addPulse 3 = .ok (.sipush 999, 3) := by decide +kernel
theorem dX12_addPulse_6 : decode cX12_addPulse 6 = .ok (.invokestatic 119, 3) := by decide +kernel
theorem dX12_addPulse_9 : decode cX12_addPulse 9 = .ok (.ifCond .ne 7, 3) := by decide +kernel
theorem dX12_addPulse_12 : decode cX12_addPulse 12 = .ok (.iconst 1, 1) := by decide +kernel
theorem dX12_addPulse_13 : decode cX12_addPulse 13 = .ok (.goto 20, 3) := by decide +kernel
theorem dX12_addPulse_16 : decode cX12_addPulse 16 = .ok (.aload_n 0, 1) := by decide +kernel
theorem dX12_addPulse_17 : decode cX12_addPulse 17 = .ok (.getfield 50, 3) := by decide +kernel
theorem dX12_addPulse_20 : decode cX12_addPulse 20 = .ok (.bipush 13, 2) := by decide +kernel
theorem dX12_addPulse_22 : decode cX12_addPulse 22 = .ok (.iaload, 1) := by decide +kernel
theorem dX12_addPulse_23 : decode cX12_addPulse 23 = .ok (.bipush 40, 2) := by decide +kernel
theorem dX12_addPulse_25 : decode cX12_addPulse 25 = .ok (.if_icmp .ne 7, 3) := by decide +kernel
theorem dX12_addPulse_28 : decode cX12_addPulse 28 = .ok (.iconst 2, 1) := by decide +kernel
theorem dX12_addPulse_29 : decode cX12_addPulse 29 = .ok (.goto 4, 3) := by decide +kernel
theorem dX12_addPulse_32 : decode cX12_addPulse 32 = .ok (.iconst 0, 1) := by decide +kernel
theorem dX12_addPulse_33 : decode cX12_addPulse 33 = .ok (.invokevirtual 164, 3) := by decide +kernel
theorem dX12_addPulse_36 : decode cX12_addPulse 36 = .ok (.ifCond .eq 5, 3) := by decide +kernel
theorem dX12_addPulse_39 : decode cX12_addPulse 39 = .ok (.iconst 0, 1) := by decide +kernel
theorem dX12_addPulse_40 : decode cX12_addPulse 40 = .ok (.ireturn, 1) := by decide +kernel
theorem dX12_addPulse_41 : decode cX12_addPulse 41 = .ok (.aload_n 0, 1) := by decide +kernel
theorem dX12_addPulse_42 : decode cX12_addPulse 42 = .ok (.invokevirtual 143, 3) := by decide +kernel
theorem dX12_addPulse_45 : decode cX12_addPulse 45 = .ok (.ifCond .ne 11, 3) := by decide +kernel
theorem dX12_addPulse_48 : decode cX12_addPulse 48 = .ok (.aload_n 0, 1) := by decide +kernel
theorem dX12_addPulse_49 : decode cX12_addPulse 49 = .ok (.getfield 50, 3) := by decide +kernel
theorem dX12_addPulse_52 : decode cX12_addPulse 52 = .ok (.bipush 15, 2) := by decide +kernel
theorem dX12_addPulse_54 : decode cX12_addPulse 54 = .ok (.iload_n 1, 1) := by decide +kernel
theorem dX12_addPulse_55 : decode cX12_addPulse 55 = .ok (.iastore, 1) := by decide +kernel
theorem dX12_addPulse_56 : decode cX12_addPulse 56 = .ok (.aload_n 0, 1) := by decide +kernel
theorem dX12_addPulse_57 : decode cX12_addPulse 57 = .ok (.getfield 32, 3) := by decide +kernel
theorem dX12_addPulse_60 : decode cX12_addPulse 60 = .ok (.aload_n 0, 1) := by decide +kernel
theorem dX12_addPulse_61 : decode cX12_addPulse 61 = .ok (.getfield 50, 3) := by decide +kernel
theorem dX12_addPulse_64 : decode cX12_addPulse 64 = .ok (.bipush 13, 2) := by decide +kernel
theorem dX12_addPulse_66 : decode cX12_addPulse 66 = .ok (.iaload, 1) := by decide +kernel
theorem dX12_addPulse_67 : decode cX12_addPulse 67 = .ok (.iload_n 1, 1) := by decide +kernel
