theorem qd_g0 : qd_bs cX0_init 0 [42, 183, 0, 3, 42, 187, 0, 9, 89, 183, 0, 11, 181, 0, 12, 42, 17, 2, 0] = true := by decide +kernel
theorem dX0_init_0 : decode cX0_init 0 = .ok (.aload_n 0, 1) := qd_o42 0 0 qd_g0 rfl
theorem dX0_init_1 : decode cX0_init 1 = .ok (.invokespecial 3, 3) := qd_o183 0 1 qd_g0 rfl rfl
theorem dX0_init_4 : decode cX0_init 4 = .ok (.aload_n 0, 1) := qd_o42 0 4 qd_g0 rfl
theorem dX0_init_5 : decode cX0_init 5 = .ok (.new 9, 3) := qd_o187 0 5 qd_g0 rfl rfl
theorem dX0_init_8 : decode cX0_init 8 = .ok (.dup, 1) := qd_o89 0 8 qd_g0 rfl
theorem dX0_init_9 : decode cX0_init 9 = .ok (.invokespecial 11, 3) := qd_o183 0 9 qd_g0 rfl rfl
theorem dX0_init_12 : decode cX0_init 12 = .ok (.putfield 12, 3) := qd_o181 0 12 qd_g0 rfl rfl
theorem dX0_init_15 : decode cX0_init 15 = .ok (.aload_n 0, 1) := qd_o42 0 15 qd_g0 rfl
theorem dX0_init_16 : decode cX0_init 16 = .ok (.sipush 512, 3) := qd_o17 0 16 qd_g0 rfl rfl
theorem dX0_init_19 : decode cX0_init 19 = .ok (.newarray .int, 2) := by decide +kernel
theorem qd_g1 : qd_bs cX0_init 21 [181, 0, 18, 42, 17, 8, 0] = true := by decide +kernel
theorem dX0_init_21 : decode cX0_init 21 = .ok (.putfield 18, 3) := qd_o181 21 0 qd_g1 rfl rfl
theorem dX0_init_24 : decode cX0_init 24 = .ok (.aload_n 0, 1) := qd_o42 21 3 qd_g1 rfl
theorem dX0_init_25 : decode cX0_init 25 = .ok (.sipush 2048, 3) := qd_o17 21 4 qd_g1 rfl rfl
theorem dX0_init_28 : decode cX0_init 28 = .ok (.newarray .int, 2) := by decide +kernel
theorem qd_g2 : qd_bs cX0_init 30 [181, 0, 22, 42, 5] = true := by decide +kernel
theorem dX0_init_30 : decode cX0_init 30 = .ok (.putfield 22, 3) := qd_o181 30 0 qd_g2 rfl rfl
theorem dX0_init_33 : decode cX0_init 33 = .ok (.aload_n 0, 1) := qd_o42 30 3 qd_g2 rfl
theorem dX0_init_34 : decode cX0_init 34 = .ok (.iconst 2, 1) := qd_o5 30 4 qd_g2 rfl
theorem dX0_init_35 : decode cX0_init 35 = .ok (.newarray .int, 2) := by decide +kernel
theorem qd_g3 : qd_bs cX0_init 37 [181, 0, 25, 42, 187, 0, 28, 89, 183, 0, 30, 181, 0, 31, 42, 187, 0, 35, 89, 183, 0, 37, 181, 0, 38, 42, 187, 0, 42, 89, 183, 0, 44, 181, 0, 45, 42, 187, 0, 42] = true := by decide +kernel
theorem dX0_init_37 : decode cX0_init 37 = .ok (.putfield 25, 3) := qd_o181 37 0 qd_g3 rfl rfl
theorem dX0_init_40 : decode cX0_init 40 = .ok (.aload_n 0, 1) := qd_o42 37 3 qd_g3 rfl
theorem dX0_init_41 : decode cX0_init 41 = .ok (.new 28, 3) := qd_o187 37 4 qd_g3 rfl rfl
theorem dX0_init_44 : decode cX0_init 44 = .ok (.dup, 1) := qd_o89 37 7 qd_g3 rfl
theorem dX0_init_45 : decode cX0_init 45 = .ok (.invokespecial 30, 3) := qd_o183 37 8 qd_g3 rfl rfl
theorem dX0_init_48 : decode cX0_init 48 = .ok (.putfield 31, 3) := qd_o181 37 11 qd_g3 rfl rfl
theorem dX0_init_51 : decode cX0_init 51 = .ok (.aload_n 0, 1) := qd_o42 37 14 qd_g3 rfl
theorem dX0_init_52 : decode cX0_init 52 = .ok (.new 35, 3) := qd_o187 37 15 qd_g3 rfl rfl
theorem dX0_init_55 : decode cX0_init 55 = .ok (.dup, 1) := qd_o89 37 18 qd_g3 rfl
theorem dX0_init_56 : decode cX0_init 56 = .ok (.invokespecial 37, 3) := qd_o183 37 19 qd_g3 rfl rfl
theorem dX0_init_59 : decode cX0_init 59 = .ok (.putfield 38, 3) := qd_o181 37 22 qd_g3 rfl rfl
theorem dX0_init_62 : decode cX0_init 62 = .ok (.aload_n 0, 1) := qd_o42 37 25 qd_g3 rfl
theorem dX0_init_63 : decode cX0_init 63 = .ok (.new 42, 3) := qd_o187 37 26 qd_g3 rfl rfl
theorem dX0_init_66 : decode cX0_init 66 = .ok (.dup, 1) := qd_o89 37 29 qd_g3 rfl
theorem dX0_init_67 : decode cX0_init 67 = .ok (.invokespecial 44, 3) := qd_o183 37 30 qd_g3 rfl rfl
theorem dX0_init_70 : decode cX0_init 70 = .ok (.putfield 45, 3) := qd_o181 37 33 qd_g3 rfl rfl
theorem dX0_init_73 : decode cX0_init 73 = .ok (.aload_n 0, 1) := qd_o42 37 36 qd_g3 rfl
theorem dX0_init_74 : decode cX0_init 74 = .ok (.new 42, 3) := qd_o187 37 37 qd_g3 rfl rfl
theorem qd_g4 : qd_bs cX0_init 77 [89, 183, 0, 44, 181, 0, 49, 177] = true := by decide +kernel
theorem dX0_init_77 : decode cX0_init 77 = .ok (.dup, 1) := qd_o89 77 0 qd_g4 rfl
theorem dX0_init_78 : decode cX0_init 78 = .ok (.invokespecial 44, 3) := qd_o183 77 1 qd_g4 rfl rfl
theorem dX0_init_81 : decode cX0_init 81 = .ok (.putfield 49, 3) := qd_o181 77 4 qd_g4 rfl rfl
theorem dX0_init_84 : decode cX0_init 84 = .ok (.return_, 1) := qd_o177 77 7 qd_g4 rfl
theorem qd_g5 : qd_bs cX0_become 0 [42, 180, 0, 12, 43, 180, 0, 12, 182, 0, 52, 43, 180, 0, 18, 3, 42, 180, 0, 18, 3, 17, 2, 0, 184, 0, 56, 43, 180, 0, 22, 3, 42, 180, 0, 22, 3, 17, 8, 0] = true := by decide +kernel
theorem dX0_become_0 : decode cX0_become 0 = .ok (.aload_n 0, 1) := qd_o42 0 0 qd_g5 rfl
theorem dX0_become_1 : decode cX0_become 1 = .ok (.getfield 12, 3) := qd_o180 0 1 qd_g5 rfl rfl
theorem dX0_become_4 : decode cX0_become 4 = .ok (.aload_n 1, 1) := qd_o43 0 4 qd_g5 rfl
theorem dX0_become_5 : decode cX0_become 5 = .ok (.getfield 12, 3) := qd_o180 0 5 qd_g5 rfl rfl
theorem dX0_become_8 : decode cX0_become 8 = .ok (.invokevirtual 52, 3) := qd_o182 0 8 qd_g5 rfl rfl
theorem dX0_become_11 : decode cX0_become 11 = .ok (.aload_n 1, 1) := qd_o43 0 11 qd_g5 rfl
theorem dX0_become_12 : decode cX0_become 12 = .ok (.getfield 18, 3) := qd_o180 0 12 qd_g5 rfl rfl
theorem dX0_become_15 : decode cX0_become 15 = .ok (.iconst 0, 1) := qd_o3 0 15 qd_g5 rfl
theorem dX0_become_16 : decode cX0_become 16 = .ok (.aload_n 0, 1) := qd_o42 0 16 qd_g5 rfl
theorem dX0_become_17 : decode cX0_become 17 = .ok (.getfield 18, 3) := qd_o180 0 17 qd_g5 rfl rfl
theorem dX0_become_20 : decode cX0_become 20 = .ok (.iconst 0, 1) := qd_o3 0 20 qd_g5 rfl
theorem dX0_become_21 : decode cX0_become 21 = .ok (.sipush 512, 3) := qd_o17 0 21 qd_g5 rfl rfl
theorem dX0_become_24 : decode cX0_become 24 = .ok (.invokestatic 56, 3) := qd_o184 0 24 qd_g5 rfl rfl
theorem dX0_become_27 : decode cX0_become 27 = .ok (.aload_n 1, 1) := qd_o43 0 27 qd_g5 rfl
theorem dX0_become_28 : decode cX0_become 28 = .ok (.getfield 22, 3) := qd_o180 0 28 qd_g5 rfl rfl
theorem dX0_become_31 : decode cX0_become 31 = .ok (.iconst 0, 1) := qd_o3 0 31 qd_g5 rfl
theorem dX0_become_32 : decode cX0_become 32 = .ok (.aload_n 0, 1) := qd_o42 0 32 qd_g5 rfl
theorem dX0_become_33 : decode cX0_become 33 = .ok (.getfield 22, 3) := qd_o180 0 33 qd_g5 rfl rfl
theorem dX0_become_36 : decode cX0_become 36 = .ok (.iconst 0, 1) := qd_o3 0 36 qd_g5 rfl
theorem dX0_become_37 : decode cX0_become 37 = .ok (.sipush 2048, 3) := qd_o17 0 37 qd_g5 rfl rfl
theorem qd_g6 : qd_bs cX0_become 40 [184, 0, 56, 43, 180, 0, 25, 3, 42, 180, 0, 25, 3, 5, 184, 0, 56, 42, 180, 0, 31, 43, 180, 0, 31, 182, 0, 62, 42, 180, 0, 38, 43, 180, 0, 38, 182, 0, 65, 42] = true := by decide +kernel
theorem dX0_become_40 : decode cX0_become 40 = .ok (.invokestatic 56, 3) := qd_o184 40 0 qd_g6 rfl rfl
theorem dX0_become_43 : decode cX0_become 43 = .ok (.aload_n 1, 1) := qd_o43 40 3 qd_g6 rfl
theorem dX0_become_44 : decode cX0_become 44 = .ok (.getfield 25, 3) := qd_o180 40 4 qd_g6 rfl rfl
theorem dX0_become_47 : decode cX0_become 47 = .ok (.iconst 0, 1) := qd_o3 40 7 qd_g6 rfl
theorem dX0_become_48 : decode cX0_become 48 = .ok (.aload_n 0, 1) := qd_o42 40 8 qd_g6 rfl
theorem dX0_become_49 : decode cX0_become 49 = .ok (.getfield 25, 3) := qd_o180 40 9 qd_g6 rfl rfl
theorem dX0_become_52 : decode cX0_become 52 = .ok (.iconst 0, 1) := qd_o3 40 12 qd_g6 rfl
theorem dX0_become_53 : decode cX0_become 53 = .ok (.iconst 2, 1) := qd_o5 40 13 qd_g6 rfl
theorem dX0_become_54 : decode cX0_become 54 = .ok (.invokestatic 56, 3) := qd_o184 40 14 qd_g6 rfl rfl
theorem dX0_become_57 : decode cX0_become 57 = .ok (.aload_n 0, 1) := qd_o42 40 17 qd_g6 rfl
theorem dX0_become_58 : decode cX0_become 58 = .ok (.getfield 31, 3) := qd_o180 40 18 qd_g6 rfl rfl
theorem dX0_become_61 : decode cX0_become 61 = .ok (.aload_n 1, 1) := qd_o43 40 21 qd_g6 rfl
theorem dX0_become_62 : decode cX0_become 62 = .ok (.getfield 31, 3) := qd_o180 40 22 qd_g6 rfl rfl
theorem dX0_become_65 : decode cX0_become 65 = .ok (.invokevirtual 62, 3) := qd_o182 40 25 qd_g6 rfl rfl
theorem dX0_become_68 : decode cX0_become 68 = .ok (.aload_n 0, 1) := qd_o42 40 28 qd_g6 rfl
theorem dX0_become_69 : decode cX0_become 69 = .ok (.getfield 38, 3) := qd_o180 40 29 qd_g6 rfl rfl
theorem dX0_become_72 : decode cX0_become 72 = .ok (.aload_n 1, 1) := qd_o43 40 32 qd_g6 rfl
theorem dX0_become_73 : decode cX0_become 73 = .ok (.getfield 38, 3) := qd_o180 40 33 qd_g6 rfl rfl
theorem dX0_become_76 : decode cX0_become 76 = .ok (.invokevirtual 65, 3) := qd_o182 40 36 qd_g6 rfl rfl
theorem dX0_become_79 : decode cX0_become 79 = .ok (.aload_n 0, 1) := qd_o42 40 39 qd_g6 rfl
theorem qd_g7 : qd_bs cX0_become 80 [180, 0, 45, 43, 180, 0, 45, 182, 0, 68, 42, 180, 0, 49, 43, 180, 0, 49, 182, 0, 68, 42, 43, 180, 0, 71, 181, 0, 71, 177] = true := by decide +kernel
theorem dX0_become_80 : decode cX0_become 80 = .ok (.getfield 45, 3) := qd_o180 80 0 qd_g7 rfl rfl
theorem dX0_become_83 : decode cX0_become 83 = .ok (.aload_n 1, 1) := qd_o43 80 3 qd_g7 rfl
theorem dX0_become_84 : decode cX0_become 84 = .ok (.getfield 45, 3) := qd_o180 80 4 qd_g7 rfl rfl
theorem dX0_become_87 : decode cX0_become 87 = .ok (.invokevirtual 68, 3) := qd_o182 80 7 qd_g7 rfl rfl
theorem dX0_become_90 : decode cX0_become 90 = .ok (.aload_n 0, 1) := qd_o42 80 10 qd_g7 rfl
theorem dX0_become_91 : decode cX0_become 91 = .ok (.getfield 49, 3) := qd_o180 80 11 qd_g7 rfl rfl
theorem dX0_become_94 : decode cX0_become 94 = .ok (.aload_n 1, 1) := qd_o43 80 14 qd_g7 rfl
theorem dX0_become_95 : decode cX0_become 95 = .ok (.getfield 49, 3) := qd_o180 80 15 qd_g7 rfl rfl
theorem dX0_become_98 : decode cX0_become 98 = .ok (.invokevirtual 68, 3) := qd_o182 80 18 qd_g7 rfl rfl
theorem dX0_become_101 : decode cX0_become 101 = .ok (.aload_n 0, 1) := qd_o42 80 21 qd_g7 rfl
theorem dX0_become_102 : decode cX0_become 102 = .ok (.aload_n 1, 1) := qd_o43 80 22 qd_g7 rfl
theorem dX0_become_103 : decode cX0_become 103 = .ok (.getfield 71, 3) := qd_o180 80 23 qd_g7 rfl rfl
theorem dX0_become_106 : decode cX0_become 106 = .ok (.putfield 71, 3) := qd_o181 80 26 qd_g7 rfl rfl
theorem dX0_become_109 : decode cX0_become 109 = .ok (.return_, 1) := qd_o177 80 29 qd_g7 rfl
theorem qd_g8 : qd_bs cX0_position 0 [42, 180, 0, 71, 20, 0, 75, 113, 136, 172] = true := by decide +kernel
theorem dX0_position_0 : decode cX0_position 0 = .ok (.aload_n 0, 1) := qd_o42 0 0 qd_g8 rfl
theorem dX0_position_1 : decode cX0_position 1 = .ok (.getfield 71, 3) := qd_o180 0 1 qd_g8 rfl rfl
theorem dX0_position_4 : decode cX0_position 4 = .ok (.ldc2_w 75, 3) := qd_o20 0 4 qd_g8 rfl rfl
theorem dX0_position_7 : decode cX0_position 7 = .ok (.lrem, 1) := qd_o113 0 7 qd_g8 rfl
theorem dX0_position_8 : decode cX0_position 8 = .ok (.l2i, 1) := qd_o136 0 8 qd_g8 rfl
theorem dX0_position_9 : decode cX0_position 9 = .ok (.ireturn, 1) := qd_o172 0 9 qd_g8 rfl
theorem qd_g9 : qd_bs cX0_column 0 [42, 180, 0, 71, 20, 0, 77, 113, 136, 172] = true := by decide +kernel
theorem dX0_column_0 : decode cX0_column 0 = .ok (.aload_n 0, 1) := qd_o42 0 0 qd_g9 rfl
theorem dX0_column_1 : decode cX0_column 1 = .ok (.getfield 71, 3) := qd_o180 0 1 qd_g9 rfl rfl
theorem dX0_column_4 : decode cX0_column 4 = .ok (.ldc2_w 77, 3) := qd_o20 0 4 qd_g9 rfl rfl
theorem dX0_column_7 : decode cX0_column 7 = .ok (.lrem, 1) := qd_o113 0 7 qd_g9 rfl
theorem dX0_column_8 : decode cX0_column 8 = .ok (.l2i, 1) := qd_o136 0 8 qd_g9 rfl
theorem dX0_column_9 : decode cX0_column 9 = .ok (.ireturn, 1) := qd_o172 0 9 qd_g9 rfl
theorem qd_g10 : qd_bs cX0_present 0 [42, 180, 0, 71, 20, 0, 75, 109, 20, 0, 79, 113, 9, 148, 154, 0, 10, 42, 180, 0, 45, 167, 0, 7, 42, 180, 0, 49, 176] = true := by decide +kernel
theorem dX0_present_0 : decode cX0_present 0 = .ok (.aload_n 0, 1) := qd_o42 0 0 qd_g10 rfl
theorem dX0_present_1 : decode cX0_present 1 = .ok (.getfield 71, 3) := qd_o180 0 1 qd_g10 rfl rfl
theorem dX0_present_4 : decode cX0_present 4 = .ok (.ldc2_w 75, 3) := qd_o20 0 4 qd_g10 rfl rfl
theorem dX0_present_7 : decode cX0_present 7 = .ok (.ldiv, 1) := qd_o109 0 7 qd_g10 rfl
theorem dX0_present_8 : decode cX0_present 8 = .ok (.ldc2_w 79, 3) := qd_o20 0 8 qd_g10 rfl rfl
theorem dX0_present_11 : decode cX0_present 11 = .ok (.lrem, 1) := qd_o113 0 11 qd_g10 rfl
theorem dX0_present_12 : decode cX0_present 12 = .ok (.lconst 0, 1) := qd_o9 0 12 qd_g10 rfl
theorem dX0_present_13 : decode cX0_present 13 = .ok (.lcmp, 1) := qd_o148 0 13 qd_g10 rfl
theorem dX0_present_14 : decode cX0_present 14 = .ok (.ifCond .ne 10, 3) := qd_o154 0 14 qd_g10 rfl rfl
theorem dX0_present_17 : decode cX0_present 17 = .ok (.aload_n 0, 1) := qd_o42 0 17 qd_g10 rfl
theorem dX0_present_18 : decode cX0_present 18 = .ok (.getfield 45, 3) := qd_o180 0 18 qd_g10 rfl rfl
theorem dX0_present_21 : decode cX0_present 21 = .ok (.goto 7, 3) := qd_o167 0 21 qd_g10 rfl rfl
theorem dX0_present_24 : decode cX0_present 24 = .ok (.aload_n 0, 1) := qd_o42 0 24 qd_g10 rfl
theorem dX0_present_25 : decode cX0_present 25 = .ok (.getfield 49, 3) := qd_o180 0 25 qd_g10 rfl rfl
theorem dX0_present_28 : decode cX0_present 28 = .ok (.areturn, 1) := qd_o176 0 28 qd_g10 rfl
theorem qd_g11 : qd_bs cX0_last 0 [42, 180, 0, 71, 20, 0, 75, 109, 20, 0, 79, 113, 9, 148, 154, 0, 10, 42, 180, 0, 49, 167, 0, 7, 42, 180, 0, 45, 176] = true := by decide +kernel
theorem dX0_last_0 : decode cX0_last 0 = .ok (.aload_n 0, 1) := qd_o42 0 0 qd_g11 rfl
theorem dX0_last_1 : decode cX0_last 1 = .ok (.getfield 71, 3) := qd_o180 0 1 qd_g11 rfl rfl
theorem dX0_last_4 : decode cX0_last 4 = .ok (.ldc2_w 75, 3) := qd_o20 0 4 qd_g11 rfl rfl
theorem dX0_last_7 : decode cX0_last 7 = .ok (.ldiv, 1) := qd_o109 0 7 qd_g11 rfl
theorem dX0_last_8 : decode cX0_last 8 = .ok (.ldc2_w 79, 3) := qd_o20 0 8 qd_g11 rfl rfl
theorem dX0_last_11 : decode cX0_last 11 = .ok (.lrem, 1) := qd_o113 0 11 qd_g11 rfl
theorem dX0_last_12 : decode cX0_last 12 = .ok (.lconst 0, 1) := qd_o9 0 12 qd_g11 rfl
theorem dX0_last_13 : decode cX0_last 13 = .ok (.lcmp, 1) := qd_o148 0 13 qd_g11 rfl
theorem dX0_last_14 : decode cX0_last 14 = .ok (.ifCond .ne 10, 3) := qd_o154 0 14 qd_g11 rfl rfl
theorem dX0_last_17 : decode cX0_last 17 = .ok (.aload_n 0, 1) := qd_o42 0 17 qd_g11 rfl
theorem dX0_last_18 : decode cX0_last 18 = .ok (.getfield 49, 3) := qd_o180 0 18 qd_g11 rfl rfl
theorem dX0_last_21 : decode cX0_last 21 = .ok (.goto 7, 3) := qd_o167 0 21 qd_g11 rfl rfl
theorem dX0_last_24 : decode cX0_last 24 = .ok (.aload_n 0, 1) := qd_o42 0 24 qd_g11 rfl
theorem dX0_last_25 : decode cX0_last 25 = .ok (.getfield 45, 3) := qd_o180 0 25 qd_g11 rfl rfl
theorem dX0_last_28 : decode cX0_last 28 = .ok (.areturn, 1) := qd_o176 0 28 qd_g11 rfl
theorem qd_g12 : qd_bs cX0_read 0 [27, 17, 15, 0, 100, 61, 28, 155, 0, 24, 28, 16, 48, 162, 0, 18, 42, 28, 42, 180, 0, 12, 180, 0, 81, 28, 46, 182, 0, 84, 172, 42, 180, 0, 12, 180, 0, 81, 3, 46] = true := by decide +kernel
theorem dX0_read_0 : decode cX0_read 0 = .ok (.iload_n 1, 1) := qd_o27 0 0 qd_g12 rfl
theorem dX0_read_1 : decode cX0_read 1 = .ok (.sipush 3840, 3) := qd_o17 0 1 qd_g12 rfl rfl
theorem dX0_read_4 : decode cX0_read 4 = .ok (.isub, 1) := qd_o100 0 4 qd_g12 rfl
theorem dX0_read_5 : decode cX0_read 5 = .ok (.istore_n 2, 1) := qd_o61 0 5 qd_g12 rfl
theorem dX0_read_6 : decode cX0_read 6 = .ok (.iload_n 2, 1) := qd_o28 0 6 qd_g12 rfl
theorem dX0_read_7 : decode cX0_read 7 = .ok (.ifCond .lt 24, 3) := qd_o155 0 7 qd_g12 rfl rfl
theorem dX0_read_10 : decode cX0_read 10 = .ok (.iload_n 2, 1) := qd_o28 0 10 qd_g12 rfl
theorem dX0_read_11 : decode cX0_read 11 = .ok (.bipush 48, 2) := qd_o16 0 11 qd_g12 rfl rfl
theorem dX0_read_13 : decode cX0_read 13 = .ok (.if_icmp .ge 18, 3) := qd_o162 0 13 qd_g12 rfl rfl
theorem dX0_read_16 : decode cX0_read 16 = .ok (.aload_n 0, 1) := qd_o42 0 16 qd_g12 rfl
theorem dX0_read_17 : decode cX0_read 17 = .ok (.iload_n 2, 1) := qd_o28 0 17 qd_g12 rfl
theorem dX0_read_18 : decode cX0_read 18 = .ok (.aload_n 0, 1) := qd_o42 0 18 qd_g12 rfl
theorem dX0_read_19 : decode cX0_read 19 = .ok (.getfield 12, 3) := qd_o180 0 19 qd_g12 rfl rfl
theorem dX0_read_22 : decode cX0_read 22 = .ok (.getfield 81, 3) := qd_o180 0 22 qd_g12 rfl rfl
theorem dX0_read_25 : decode cX0_read 25 = .ok (.iload_n 2, 1) := qd_o28 0 25 qd_g12 rfl
theorem dX0_read_26 : decode cX0_read 26 = .ok (.iaload, 1) := qd_o46 0 26 qd_g12 rfl
theorem dX0_read_27 : decode cX0_read 27 = .ok (.invokevirtual 84, 3) := qd_o182 0 27 qd_g12 rfl rfl
theorem dX0_read_30 : decode cX0_read 30 = .ok (.ireturn, 1) := qd_o172 0 30 qd_g12 rfl
theorem dX0_read_31 : decode cX0_read 31 = .ok (.aload_n 0, 1) := qd_o42 0 31 qd_g12 rfl
theorem dX0_read_32 : decode cX0_read 32 = .ok (.getfield 12, 3) := qd_o180 0 32 qd_g12 rfl rfl
theorem dX0_read_35 : decode cX0_read 35 = .ok (.getfield 81, 3) := qd_o180 0 35 qd_g12 rfl rfl
theorem dX0_read_38 : decode cX0_read 38 = .ok (.iconst 0, 1) := qd_o3 0 38 qd_g12 rfl
theorem dX0_read_39 : decode cX0_read 39 = .ok (.iaload, 1) := qd_o46 0 39 qd_g12 rfl
theorem qd_g13 : qd_bs cX0_read 40 [62, 29, 4, 126, 4, 160, 0, 28, 27, 17, 12, 0, 161, 0, 21, 27, 17, 14, 0, 162, 0, 14, 42, 180, 0, 18, 27, 17, 12, 0, 100, 46, 172, 29, 5, 126, 5, 160, 0, 38] = true := by decide +kernel
theorem dX0_read_40 : decode cX0_read 40 = .ok (.istore_n 3, 1) := qd_o62 40 0 qd_g13 rfl
theorem dX0_read_41 : decode cX0_read 41 = .ok (.iload_n 3, 1) := qd_o29 40 1 qd_g13 rfl
theorem dX0_read_42 : decode cX0_read 42 = .ok (.iconst 1, 1) := qd_o4 40 2 qd_g13 rfl
theorem dX0_read_43 : decode cX0_read 43 = .ok (.iand, 1) := qd_o126 40 3 qd_g13 rfl
theorem dX0_read_44 : decode cX0_read 44 = .ok (.iconst 1, 1) := qd_o4 40 4 qd_g13 rfl
theorem dX0_read_45 : decode cX0_read 45 = .ok (.if_icmp .ne 28, 3) := qd_o160 40 5 qd_g13 rfl rfl
theorem dX0_read_48 : decode cX0_read 48 = .ok (.iload_n 1, 1) := qd_o27 40 8 qd_g13 rfl
theorem dX0_read_49 : decode cX0_read 49 = .ok (.sipush 3072, 3) := qd_o17 40 9 qd_g13 rfl rfl
theorem dX0_read_52 : decode cX0_read 52 = .ok (.if_icmp .lt 21, 3) := qd_o161 40 12 qd_g13 rfl rfl
theorem dX0_read_55 : decode cX0_read 55 = .ok (.iload_n 1, 1) := qd_o27 40 15 qd_g13 rfl
theorem dX0_read_56 : decode cX0_read 56 = .ok (.sipush 3584, 3) := qd_o17 40 16 qd_g13 rfl rfl
theorem dX0_read_59 : decode cX0_read 59 = .ok (.if_icmp .ge 14, 3) := qd_o162 40 19 qd_g13 rfl rfl
theorem dX0_read_62 : decode cX0_read 62 = .ok (.aload_n 0, 1) := qd_o42 40 22 qd_g13 rfl
theorem dX0_read_63 : decode cX0_read 63 = .ok (.getfield 18, 3) := qd_o180 40 23 qd_g13 rfl rfl
theorem dX0_read_66 : decode cX0_read 66 = .ok (.iload_n 1, 1) := qd_o27 40 26 qd_g13 rfl
theorem dX0_read_67 : decode cX0_read 67 = .ok (.sipush 3072, 3) := qd_o17 40 27 qd_g13 rfl rfl
theorem dX0_read_70 : decode cX0_read 70 = .ok (.isub, 1) := qd_o100 40 30 qd_g13 rfl
theorem dX0_read_71 : decode cX0_read 71 = .ok (.iaload, 1) := qd_o46 40 31 qd_g13 rfl
theorem dX0_read_72 : decode cX0_read 72 = .ok (.ireturn, 1) := qd_o172 40 32 qd_g13 rfl
theorem dX0_read_73 : decode cX0_read 73 = .ok (.iload_n 3, 1) := qd_o29 40 33 qd_g13 rfl
theorem dX0_read_74 : decode cX0_read 74 = .ok (.iconst 2, 1) := qd_o5 40 34 qd_g13 rfl
theorem dX0_read_75 : decode cX0_read 75 = .ok (.iand, 1) := qd_o126 40 35 qd_g13 rfl
theorem dX0_read_76 : decode cX0_read 76 = .ok (.iconst 2, 1) := qd_o5 40 36 qd_g13 rfl
theorem dX0_read_77 : decode cX0_read 77 = .ok (.if_icmp .ne 38, 3) := qd_o160 40 37 qd_g13 rfl rfl
theorem qd_g14 : qd_bs cX0_read 80 [27, 17, 8, 0, 161, 0, 31, 27, 17, 10, 0, 162, 0, 24, 42, 180, 0, 22, 17, 2, 0, 29, 5, 122, 6, 126, 104, 27, 96, 17, 8, 0, 100, 46, 172, 42, 180, 0, 12] = true := by decide +kernel
theorem dX0_read_80 : decode cX0_read 80 = .ok (.iload_n 1, 1) := qd_o27 80 0 qd_g14 rfl
theorem dX0_read_81 : decode cX0_read 81 = .ok (.sipush 2048, 3) := qd_o17 80 1 qd_g14 rfl rfl
theorem dX0_read_84 : decode cX0_read 84 = .ok (.if_icmp .lt 31, 3) := qd_o161 80 4 qd_g14 rfl rfl
theorem dX0_read_87 : decode cX0_read 87 = .ok (.iload_n 1, 1) := qd_o27 80 7 qd_g14 rfl
theorem dX0_read_88 : decode cX0_read 88 = .ok (.sipush 2560, 3) := qd_o17 80 8 qd_g14 rfl rfl
theorem dX0_read_91 : decode cX0_read 91 = .ok (.if_icmp .ge 24, 3) := qd_o162 80 11 qd_g14 rfl rfl
theorem dX0_read_94 : decode cX0_read 94 = .ok (.aload_n 0, 1) := qd_o42 80 14 qd_g14 rfl
theorem dX0_read_95 : decode cX0_read 95 = .ok (.getfield 22, 3) := qd_o180 80 15 qd_g14 rfl rfl
theorem dX0_read_98 : decode cX0_read 98 = .ok (.sipush 512, 3) := qd_o17 80 18 qd_g14 rfl rfl
theorem dX0_read_101 : decode cX0_read 101 = .ok (.iload_n 3, 1) := qd_o29 80 21 qd_g14 rfl
theorem dX0_read_102 : decode cX0_read 102 = .ok (.iconst 2, 1) := qd_o5 80 22 qd_g14 rfl
theorem dX0_read_103 : decode cX0_read 103 = .ok (.ishr, 1) := qd_o122 80 23 qd_g14 rfl
theorem dX0_read_104 : decode cX0_read 104 = .ok (.iconst 3, 1) := qd_o6 80 24 qd_g14 rfl
theorem dX0_read_105 : decode cX0_read 105 = .ok (.iand, 1) := qd_o126 80 25 qd_g14 rfl
theorem dX0_read_106 : decode cX0_read 106 = .ok (.imul, 1) := qd_o104 80 26 qd_g14 rfl
theorem dX0_read_107 : decode cX0_read 107 = .ok (.iload_n 1, 1) := qd_o27 80 27 qd_g14 rfl
theorem dX0_read_108 : decode cX0_read 108 = .ok (.iadd, 1) := qd_o96 80 28 qd_g14 rfl
theorem dX0_read_109 : decode cX0_read 109 = .ok (.sipush 2048, 3) := qd_o17 80 29 qd_g14 rfl rfl
theorem dX0_read_112 : decode cX0_read 112 = .ok (.isub, 1) := qd_o100 80 32 qd_g14 rfl
theorem dX0_read_113 : decode cX0_read 113 = .ok (.iaload, 1) := qd_o46 80 33 qd_g14 rfl
theorem dX0_read_114 : decode cX0_read 114 = .ok (.ireturn, 1) := qd_o172 80 34 qd_g14 rfl
theorem dX0_read_115 : decode cX0_read 115 = .ok (.aload_n 0, 1) := qd_o42 80 35 qd_g14 rfl
theorem dX0_read_116 : decode cX0_read 116 = .ok (.getfield 12, 3) := qd_o180 80 36 qd_g14 rfl rfl
theorem qd_g15 : qd_bs cX0_read 119 [180, 0, 88, 27, 17, 15, 255, 126, 46, 172] = true := by decide +kernel
theorem dX0_read_119 : decode cX0_read 119 = .ok (.getfield 88, 3) := qd_o180 119 0 qd_g15 rfl rfl
theorem dX0_read_122 : decode cX0_read 122 = .ok (.iload_n 1, 1) := qd_o27 119 3 qd_g15 rfl
theorem dX0_read_123 : decode cX0_read 123 = .ok (.sipush 4095, 3) := qd_o17 119 4 qd_g15 rfl rfl
theorem dX0_read_126 : decode cX0_read 126 = .ok (.iand, 1) := qd_o126 119 7 qd_g15 rfl
theorem dX0_read_127 : decode cX0_read 127 = .ok (.iaload, 1) := qd_o46 119 8 qd_g15 rfl
theorem dX0_read_128 : decode cX0_read 128 = .ok (.ireturn, 1) := qd_o172 119 9 qd_g15 rfl
theorem qd_g16 : qd_bs cX0_readRegister 0 [27] = true := by decide +kernel
theorem dX0_readRegister_0 : decode cX0_readRegister 0 = .ok (.iload_n 1, 1) := qd_o27 0 0 qd_g16 rfl
theorem dX0_readRegister_1 : decode cX0_readRegister 1 = .ok (.lookupswitch 181 #[(9, 67), (12, 80), (13, 91), (14, 101), (15, 112), (31, 122), (44, 146)], 67) := by decide +kernel
theorem qd_g17 : qd_bs cX0_readRegister 68 [42, 180, 0, 71, 20, 0, 75, 113, 136, 16, 24, 108, 172, 42, 180, 0, 25, 3, 46, 17, 0, 255, 126, 172, 42, 180, 0, 25, 3, 46, 16, 8, 122, 172, 42, 180, 0, 25, 4, 46] = true := by decide +kernel
theorem dX0_readRegister_68 : decode cX0_readRegister 68 = .ok (.aload_n 0, 1) := qd_o42 68 0 qd_g17 rfl
theorem dX0_readRegister_69 : decode cX0_readRegister 69 = .ok (.getfield 71, 3) := qd_o180 68 1 qd_g17 rfl rfl
theorem dX0_readRegister_72 : decode cX0_readRegister 72 = .ok (.ldc2_w 75, 3) := qd_o20 68 4 qd_g17 rfl rfl
theorem dX0_readRegister_75 : decode cX0_readRegister 75 = .ok (.lrem, 1) := qd_o113 68 7 qd_g17 rfl
theorem dX0_readRegister_76 : decode cX0_readRegister 76 = .ok (.l2i, 1) := qd_o136 68 8 qd_g17 rfl
theorem dX0_readRegister_77 : decode cX0_readRegister 77 = .ok (.bipush 24, 2) := qd_o16 68 9 qd_g17 rfl rfl
theorem dX0_readRegister_79 : decode cX0_readRegister 79 = .ok (.idiv, 1) := qd_o108 68 11 qd_g17 rfl
theorem dX0_readRegister_80 : decode cX0_readRegister 80 = .ok (.ireturn, 1) := qd_o172 68 12 qd_g17 rfl
theorem dX0_readRegister_81 : decode cX0_readRegister 81 = .ok (.aload_n 0, 1) := qd_o42 68 13 qd_g17 rfl
theorem dX0_readRegister_82 : decode cX0_readRegister 82 = .ok (.getfield 25, 3) := qd_o180 68 14 qd_g17 rfl rfl
theorem dX0_readRegister_85 : decode cX0_readRegister 85 = .ok (.iconst 0, 1) := qd_o3 68 17 qd_g17 rfl
theorem dX0_readRegister_86 : decode cX0_readRegister 86 = .ok (.iaload, 1) := qd_o46 68 18 qd_g17 rfl
theorem dX0_readRegister_87 : decode cX0_readRegister 87 = .ok (.sipush 255, 3) := qd_o17 68 19 qd_g17 rfl rfl
theorem dX0_readRegister_90 : decode cX0_readRegister 90 = .ok (.iand, 1) := qd_o126 68 22 qd_g17 rfl
theorem dX0_readRegister_91 : decode cX0_readRegister 91 = .ok (.ireturn, 1) := qd_o172 68 23 qd_g17 rfl
theorem dX0_readRegister_92 : decode cX0_readRegister 92 = .ok (.aload_n 0, 1) := qd_o42 68 24 qd_g17 rfl
theorem dX0_readRegister_93 : decode cX0_readRegister 93 = .ok (.getfield 25, 3) := qd_o180 68 25 qd_g17 rfl rfl
theorem dX0_readRegister_96 : decode cX0_readRegister 96 = .ok (.iconst 0, 1) := qd_o3 68 28 qd_g17 rfl
theorem dX0_readRegister_97 : decode cX0_readRegister 97 = .ok (.iaload, 1) := qd_o46 68 29 qd_g17 rfl
theorem dX0_readRegister_98 : decode cX0_readRegister 98 = .ok (.bipush 8, 2) := qd_o16 68 30 qd_g17 rfl rfl
theorem dX0_readRegister_100 : decode cX0_readRegister 100 = .ok (.ishr, 1) := qd_o122 68 32 qd_g17 rfl
theorem dX0_readRegister_101 : decode cX0_readRegister 101 = .ok (.ireturn, 1) := qd_o172 68 33 qd_g17 rfl
theorem dX0_readRegister_102 : decode cX0_readRegister 102 = .ok (.aload_n 0, 1) := qd_o42 68 34 qd_g17 rfl
theorem dX0_readRegister_103 : decode cX0_readRegister 103 = .ok (.getfield 25, 3) := qd_o180 68 35 qd_g17 rfl rfl
theorem dX0_readRegister_106 : decode cX0_readRegister 106 = .ok (.iconst 1, 1) := qd_o4 68 38 qd_g17 rfl
theorem dX0_readRegister_107 : decode cX0_readRegister 107 = .ok (.iaload, 1) := qd_o46 68 39 qd_g17 rfl
theorem qd_g18 : qd_bs cX0_readRegister 108 [17, 0, 255, 126, 172, 42, 180, 0, 25, 4, 46, 16, 8, 122, 172, 42, 180, 0, 38, 180, 0, 91, 28, 16, 15, 126, 46, 16, 16, 42, 180, 0, 38, 180, 0, 94, 104, 96, 172, 28] = true := by decide +kernel
theorem dX0_readRegister_108 : decode cX0_readRegister 108 = .ok (.sipush 255, 3) := qd_o17 108 0 qd_g18 rfl rfl
theorem dX0_readRegister_111 : decode cX0_readRegister 111 = .ok (.iand, 1) := qd_o126 108 3 qd_g18 rfl
theorem dX0_readRegister_112 : decode cX0_readRegister 112 = .ok (.ireturn, 1) := qd_o172 108 4 qd_g18 rfl
theorem dX0_readRegister_113 : decode cX0_readRegister 113 = .ok (.aload_n 0, 1) := qd_o42 108 5 qd_g18 rfl
theorem dX0_readRegister_114 : decode cX0_readRegister 114 = .ok (.getfield 25, 3) := qd_o180 108 6 qd_g18 rfl rfl
theorem dX0_readRegister_117 : decode cX0_readRegister 117 = .ok (.iconst 1, 1) := qd_o4 108 9 qd_g18 rfl
theorem dX0_readRegister_118 : decode cX0_readRegister 118 = .ok (.iaload, 1) := qd_o46 108 10 qd_g18 rfl
theorem dX0_readRegister_119 : decode cX0_readRegister 119 = .ok (.bipush 8, 2) := qd_o16 108 11 qd_g18 rfl rfl
theorem dX0_readRegister_121 : decode cX0_readRegister 121 = .ok (.ishr, 1) := qd_o122 108 13 qd_g18 rfl
theorem dX0_readRegister_122 : decode cX0_readRegister 122 = .ok (.ireturn, 1) := qd_o172 108 14 qd_g18 rfl
theorem dX0_readRegister_123 : decode cX0_readRegister 123 = .ok (.aload_n 0, 1) := qd_o42 108 15 qd_g18 rfl
theorem dX0_readRegister_124 : decode cX0_readRegister 124 = .ok (.getfield 38, 3) := qd_o180 108 16 qd_g18 rfl rfl
theorem dX0_readRegister_127 : decode cX0_readRegister 127 = .ok (.getfield 91, 3) := qd_o180 108 19 qd_g18 rfl rfl
theorem dX0_readRegister_130 : decode cX0_readRegister 130 = .ok (.iload_n 2, 1) := qd_o28 108 22 qd_g18 rfl
theorem dX0_readRegister_131 : decode cX0_readRegister 131 = .ok (.bipush 15, 2) := qd_o16 108 23 qd_g18 rfl rfl
theorem dX0_readRegister_133 : decode cX0_readRegister 133 = .ok (.iand, 1) := qd_o126 108 25 qd_g18 rfl
theorem dX0_readRegister_134 : decode cX0_readRegister 134 = .ok (.iaload, 1) := qd_o46 108 26 qd_g18 rfl
theorem dX0_readRegister_135 : decode cX0_readRegister 135 = .ok (.bipush 16, 2) := qd_o16 108 27 qd_g18 rfl rfl
theorem dX0_readRegister_137 : decode cX0_readRegister 137 = .ok (.aload_n 0, 1) := qd_o42 108 29 qd_g18 rfl
theorem dX0_readRegister_138 : decode cX0_readRegister 138 = .ok (.getfield 38, 3) := qd_o180 108 30 qd_g18 rfl rfl
theorem dX0_readRegister_141 : decode cX0_readRegister 141 = .ok (.getfield 94, 3) := qd_o180 108 33 qd_g18 rfl rfl
theorem dX0_readRegister_144 : decode cX0_readRegister 144 = .ok (.imul, 1) := qd_o104 108 36 qd_g18 rfl
theorem dX0_readRegister_145 : decode cX0_readRegister 145 = .ok (.iadd, 1) := qd_o96 108 37 qd_g18 rfl
theorem dX0_readRegister_146 : decode cX0_readRegister 146 = .ok (.ireturn, 1) := qd_o172 108 38 qd_g18 rfl
theorem dX0_readRegister_147 : decode cX0_readRegister 147 = .ok (.iload_n 2, 1) := qd_o28 108 39 qd_g18 rfl
theorem qd_g19 : qd_bs cX0_readRegister 148 [5, 42, 180, 0, 31, 180, 0, 98, 104, 96, 42, 180, 0, 31, 180, 0, 101, 42, 180, 0, 31, 180, 0, 104, 162, 0, 7, 7, 167, 0, 4, 3, 96, 172, 28, 172] = true := by decide +kernel
theorem dX0_readRegister_148 : decode cX0_readRegister 148 = .ok (.iconst 2, 1) := qd_o5 148 0 qd_g19 rfl
theorem dX0_readRegister_149 : decode cX0_readRegister 149 = .ok (.aload_n 0, 1) := qd_o42 148 1 qd_g19 rfl
theorem dX0_readRegister_150 : decode cX0_readRegister 150 = .ok (.getfield 31, 3) := qd_o180 148 2 qd_g19 rfl rfl
theorem dX0_readRegister_153 : decode cX0_readRegister 153 = .ok (.getfield 98, 3) := qd_o180 148 5 qd_g19 rfl rfl
theorem dX0_readRegister_156 : decode cX0_readRegister 156 = .ok (.imul, 1) := qd_o104 148 8 qd_g19 rfl
theorem dX0_readRegister_157 : decode cX0_readRegister 157 = .ok (.iadd, 1) := qd_o96 148 9 qd_g19 rfl
theorem dX0_readRegister_158 : decode cX0_readRegister 158 = .ok (.aload_n 0, 1) := qd_o42 148 10 qd_g19 rfl
theorem dX0_readRegister_159 : decode cX0_readRegister 159 = .ok (.getfield 31, 3) := qd_o180 148 11 qd_g19 rfl rfl
theorem dX0_readRegister_162 : decode cX0_readRegister 162 = .ok (.getfield 101, 3) := qd_o180 148 14 qd_g19 rfl rfl
theorem dX0_readRegister_165 : decode cX0_readRegister 165 = .ok (.aload_n 0, 1) := qd_o42 148 17 qd_g19 rfl
theorem dX0_readRegister_166 : decode cX0_readRegister 166 = .ok (.getfield 31, 3) := qd_o180 148 18 qd_g19 rfl rfl
theorem dX0_readRegister_169 : decode cX0_readRegister 169 = .ok (.getfield 104, 3) := qd_o180 148 21 qd_g19 rfl rfl
theorem dX0_readRegister_172 : decode cX0_readRegister 172 = .ok (.if_icmp .ge 7, 3) := qd_o162 148 24 qd_g19 rfl rfl
theorem dX0_readRegister_175 : decode cX0_readRegister 175 = .ok (.iconst 4, 1) := qd_o7 148 27 qd_g19 rfl
theorem dX0_readRegister_176 : decode cX0_readRegister 176 = .ok (.goto 4, 3) := qd_o167 148 28 qd_g19 rfl rfl
theorem dX0_readRegister_179 : decode cX0_readRegister 179 = .ok (.iconst 0, 1) := qd_o3 148 31 qd_g19 rfl
theorem dX0_readRegister_180 : decode cX0_readRegister 180 = .ok (.iadd, 1) := qd_o96 148 32 qd_g19 rfl
theorem dX0_readRegister_181 : decode cX0_readRegister 181 = .ok (.ireturn, 1) := qd_o172 148 33 qd_g19 rfl
theorem dX0_readRegister_182 : decode cX0_readRegister 182 = .ok (.iload_n 2, 1) := qd_o28 148 34 qd_g19 rfl
theorem dX0_readRegister_183 : decode cX0_readRegister 183 = .ok (.ireturn, 1) := qd_o172 148 35 qd_g19 rfl
theorem qd_g20 : qd_bs cX0_readWord 0 [42, 27, 17, 15, 255, 126, 182, 0, 107, 61, 28, 17, 1, 0, 42, 27, 4, 96, 17, 15, 255, 126, 182, 0, 107, 104, 96, 17, 15, 255, 126, 172] = true := by decide +kernel
theorem dX0_readWord_0 : decode cX0_readWord 0 = .ok (.aload_n 0, 1) := qd_o42 0 0 qd_g20 rfl
theorem dX0_readWord_1 : decode cX0_readWord 1 = .ok (.iload_n 1, 1) := qd_o27 0 1 qd_g20 rfl
theorem dX0_readWord_2 : decode cX0_readWord 2 = .ok (.sipush 4095, 3) := qd_o17 0 2 qd_g20 rfl rfl
theorem dX0_readWord_5 : decode cX0_readWord 5 = .ok (.iand, 1) := qd_o126 0 5 qd_g20 rfl
theorem dX0_readWord_6 : decode cX0_readWord 6 = .ok (.invokevirtual 107, 3) := qd_o182 0 6 qd_g20 rfl rfl
theorem dX0_readWord_9 : decode cX0_readWord 9 = .ok (.istore_n 2, 1) := qd_o61 0 9 qd_g20 rfl
theorem dX0_readWord_10 : decode cX0_readWord 10 = .ok (.iload_n 2, 1) := qd_o28 0 10 qd_g20 rfl
theorem dX0_readWord_11 : decode cX0_readWord 11 = .ok (.sipush 256, 3) := qd_o17 0 11 qd_g20 rfl rfl
theorem dX0_readWord_14 : decode cX0_readWord 14 = .ok (.aload_n 0, 1) := qd_o42 0 14 qd_g20 rfl
theorem dX0_readWord_15 : decode cX0_readWord 15 = .ok (.iload_n 1, 1) := qd_o27 0 15 qd_g20 rfl
theorem dX0_readWord_16 : decode cX0_readWord 16 = .ok (.iconst 1, 1) := qd_o4 0 16 qd_g20 rfl
theorem dX0_readWord_17 : decode cX0_readWord 17 = .ok (.iadd, 1) := qd_o96 0 17 qd_g20 rfl
theorem dX0_readWord_18 : decode cX0_readWord 18 = .ok (.sipush 4095, 3) := qd_o17 0 18 qd_g20 rfl rfl
theorem dX0_readWord_21 : decode cX0_readWord 21 = .ok (.iand, 1) := qd_o126 0 21 qd_g20 rfl
theorem dX0_readWord_22 : decode cX0_readWord 22 = .ok (.invokevirtual 107, 3) := qd_o182 0 22 qd_g20 rfl rfl
theorem dX0_readWord_25 : decode cX0_readWord 25 = .ok (.imul, 1) := qd_o104 0 25 qd_g20 rfl
theorem dX0_readWord_26 : decode cX0_readWord 26 = .ok (.iadd, 1) := qd_o96 0 26 qd_g20 rfl
theorem dX0_readWord_27 : decode cX0_readWord 27 = .ok (.sipush 4095, 3) := qd_o17 0 27 qd_g20 rfl rfl
theorem dX0_readWord_30 : decode cX0_readWord 30 = .ok (.iand, 1) := qd_o126 0 30 qd_g20 rfl
theorem dX0_readWord_31 : decode cX0_readWord 31 = .ok (.ireturn, 1) := qd_o172 0 31 qd_g20 rfl
theorem qd_g21 : qd_bs cX0_load 0 [42, 27, 182, 0, 107, 61, 27, 17, 15, 29, 160, 0, 17, 42, 180, 0, 12, 180, 0, 81, 16, 29, 3, 79, 167, 0, 21, 27, 17, 15, 30, 160, 0, 14, 42, 180, 0, 12] = true := by decide +kernel
theorem dX0_load_0 : decode cX0_load 0 = .ok (.aload_n 0, 1) := qd_o42 0 0 qd_g21 rfl
theorem dX0_load_1 : decode cX0_load 1 = .ok (.iload_n 1, 1) := qd_o27 0 1 qd_g21 rfl
theorem dX0_load_2 : decode cX0_load 2 = .ok (.invokevirtual 107, 3) := qd_o182 0 2 qd_g21 rfl rfl
theorem dX0_load_5 : decode cX0_load 5 = .ok (.istore_n 2, 1) := qd_o61 0 5 qd_g21 rfl
theorem dX0_load_6 : decode cX0_load 6 = .ok (.iload_n 1, 1) := qd_o27 0 6 qd_g21 rfl
theorem dX0_load_7 : decode cX0_load 7 = .ok (.sipush 3869, 3) := qd_o17 0 7 qd_g21 rfl rfl
theorem dX0_load_10 : decode cX0_load 10 = .ok (.if_icmp .ne 17, 3) := qd_o160 0 10 qd_g21 rfl rfl
theorem dX0_load_13 : decode cX0_load 13 = .ok (.aload_n 0, 1) := qd_o42 0 13 qd_g21 rfl
theorem dX0_load_14 : decode cX0_load 14 = .ok (.getfield 12, 3) := qd_o180 0 14 qd_g21 rfl rfl
theorem dX0_load_17 : decode cX0_load 17 = .ok (.getfield 81, 3) := qd_o180 0 17 qd_g21 rfl rfl
theorem dX0_load_20 : decode cX0_load 20 = .ok (.bipush 29, 2) := qd_o16 0 20 qd_g21 rfl rfl
theorem dX0_load_22 : decode cX0_load 22 = .ok (.iconst 0, 1) := qd_o3 0 22 qd_g21 rfl
theorem dX0_load_23 : decode cX0_load 23 = .ok (.iastore, 1) := qd_o79 0 23 qd_g21 rfl
theorem dX0_load_24 : decode cX0_load 24 = .ok (.goto 21, 3) := qd_o167 0 24 qd_g21 rfl rfl
theorem dX0_load_27 : decode cX0_load 27 = .ok (.iload_n 1, 1) := qd_o27 0 27 qd_g21 rfl
theorem dX0_load_28 : decode cX0_load 28 = .ok (.sipush 3870, 3) := qd_o17 0 28 qd_g21 rfl rfl
theorem dX0_load_31 : decode cX0_load 31 = .ok (.if_icmp .ne 14, 3) := qd_o160 0 31 qd_g21 rfl rfl
theorem dX0_load_34 : decode cX0_load 34 = .ok (.aload_n 0, 1) := qd_o42 0 34 qd_g21 rfl
theorem dX0_load_35 : decode cX0_load 35 = .ok (.getfield 12, 3) := qd_o180 0 35 qd_g21 rfl rfl
theorem qd_g22 : qd_bs cX0_load 38 [180, 0, 81, 16, 30, 3, 79, 28, 172] = true := by decide +kernel
theorem dX0_load_38 : decode cX0_load 38 = .ok (.getfield 81, 3) := qd_o180 38 0 qd_g22 rfl rfl
theorem dX0_load_41 : decode cX0_load 41 = .ok (.bipush 30, 2) := qd_o16 38 3 qd_g22 rfl rfl
theorem dX0_load_43 : decode cX0_load 43 = .ok (.iconst 0, 1) := qd_o3 38 5 qd_g22 rfl
theorem dX0_load_44 : decode cX0_load 44 = .ok (.iastore, 1) := qd_o79 38 6 qd_g22 rfl
theorem dX0_load_45 : decode cX0_load 45 = .ok (.iload_n 2, 1) := qd_o28 38 7 qd_g22 rfl
theorem dX0_load_46 : decode cX0_load 46 = .ok (.ireturn, 1) := qd_o172 38 8 qd_g22 rfl
theorem qd_g23 : qd_bs cX0_write 0 [27, 17, 15, 10, 160, 0, 22, 42, 180, 0, 12, 180, 0, 81, 16, 10, 92, 46, 28, 2, 130, 126, 79, 167, 0, 28, 27, 17, 15, 16, 160, 0, 21, 42, 28, 42, 180, 0, 12] = true := by decide +kernel
theorem dX0_write_0 : decode cX0_write 0 = .ok (.iload_n 1, 1) := qd_o27 0 0 qd_g23 rfl
theorem dX0_write_1 : decode cX0_write 1 = .ok (.sipush 3850, 3) := qd_o17 0 1 qd_g23 rfl rfl
theorem dX0_write_4 : decode cX0_write 4 = .ok (.if_icmp .ne 22, 3) := qd_o160 0 4 qd_g23 rfl rfl
theorem dX0_write_7 : decode cX0_write 7 = .ok (.aload_n 0, 1) := qd_o42 0 7 qd_g23 rfl
theorem dX0_write_8 : decode cX0_write 8 = .ok (.getfield 12, 3) := qd_o180 0 8 qd_g23 rfl rfl
theorem dX0_write_11 : decode cX0_write 11 = .ok (.getfield 81, 3) := qd_o180 0 11 qd_g23 rfl rfl
theorem dX0_write_14 : decode cX0_write 14 = .ok (.bipush 10, 2) := qd_o16 0 14 qd_g23 rfl rfl
theorem dX0_write_16 : decode cX0_write 16 = .ok (.dup2, 1) := qd_o92 0 16 qd_g23 rfl
theorem dX0_write_17 : decode cX0_write 17 = .ok (.iaload, 1) := qd_o46 0 17 qd_g23 rfl
theorem dX0_write_18 : decode cX0_write 18 = .ok (.iload_n 2, 1) := qd_o28 0 18 qd_g23 rfl
theorem dX0_write_19 : decode cX0_write 19 = .ok (.iconst (-1), 1) := qd_o2 0 19 qd_g23 rfl
theorem dX0_write_20 : decode cX0_write 20 = .ok (.ixor, 1) := qd_o130 0 20 qd_g23 rfl
theorem dX0_write_21 : decode cX0_write 21 = .ok (.iand, 1) := qd_o126 0 21 qd_g23 rfl
theorem dX0_write_22 : decode cX0_write 22 = .ok (.iastore, 1) := qd_o79 0 22 qd_g23 rfl
theorem dX0_write_23 : decode cX0_write 23 = .ok (.goto 28, 3) := qd_o167 0 23 qd_g23 rfl rfl
theorem dX0_write_26 : decode cX0_write 26 = .ok (.iload_n 1, 1) := qd_o27 0 26 qd_g23 rfl
theorem dX0_write_27 : decode cX0_write 27 = .ok (.sipush 3856, 3) := qd_o17 0 27 qd_g23 rfl rfl
theorem dX0_write_30 : decode cX0_write 30 = .ok (.if_icmp .ne 21, 3) := qd_o160 0 30 qd_g23 rfl rfl
theorem dX0_write_33 : decode cX0_write 33 = .ok (.aload_n 0, 1) := qd_o42 0 33 qd_g23 rfl
theorem dX0_write_34 : decode cX0_write 34 = .ok (.iload_n 2, 1) := qd_o28 0 34 qd_g23 rfl
theorem dX0_write_35 : decode cX0_write 35 = .ok (.aload_n 0, 1) := qd_o42 0 35 qd_g23 rfl
theorem dX0_write_36 : decode cX0_write 36 = .ok (.getfield 12, 3) := qd_o180 0 36 qd_g23 rfl rfl
theorem qd_g24 : qd_bs cX0_write 39 [180, 0, 81, 16, 16, 46, 2, 130, 126, 182, 0, 111, 42, 180, 0, 12, 27, 28, 182, 0, 115, 42, 182, 0, 119, 27, 28, 182, 0, 123, 177] = true := by decide +kernel
theorem dX0_write_39 : decode cX0_write 39 = .ok (.getfield 81, 3) := qd_o180 39 0 qd_g24 rfl rfl
theorem dX0_write_42 : decode cX0_write 42 = .ok (.bipush 16, 2) := qd_o16 39 3 qd_g24 rfl rfl
theorem dX0_write_44 : decode cX0_write 44 = .ok (.iaload, 1) := qd_o46 39 5 qd_g24 rfl
theorem dX0_write_45 : decode cX0_write 45 = .ok (.iconst (-1), 1) := qd_o2 39 6 qd_g24 rfl
theorem dX0_write_46 : decode cX0_write 46 = .ok (.ixor, 1) := qd_o130 39 7 qd_g24 rfl
theorem dX0_write_47 : decode cX0_write 47 = .ok (.iand, 1) := qd_o126 39 8 qd_g24 rfl
theorem dX0_write_48 : decode cX0_write 48 = .ok (.invokevirtual 111, 3) := qd_o182 39 9 qd_g24 rfl rfl
theorem dX0_write_51 : decode cX0_write 51 = .ok (.aload_n 0, 1) := qd_o42 39 12 qd_g24 rfl
theorem dX0_write_52 : decode cX0_write 52 = .ok (.getfield 12, 3) := qd_o180 39 13 qd_g24 rfl rfl
theorem dX0_write_55 : decode cX0_write 55 = .ok (.iload_n 1, 1) := qd_o27 39 16 qd_g24 rfl
theorem dX0_write_56 : decode cX0_write 56 = .ok (.iload_n 2, 1) := qd_o28 39 17 qd_g24 rfl
theorem dX0_write_57 : decode cX0_write 57 = .ok (.invokevirtual 115, 3) := qd_o182 39 18 qd_g24 rfl rfl
theorem dX0_write_60 : decode cX0_write 60 = .ok (.aload_n 0, 1) := qd_o42 39 21 qd_g24 rfl
theorem dX0_write_61 : decode cX0_write 61 = .ok (.invokevirtual 119, 3) := qd_o182 39 22 qd_g24 rfl rfl
theorem dX0_write_64 : decode cX0_write 64 = .ok (.iload_n 1, 1) := qd_o27 39 25 qd_g24 rfl
theorem dX0_write_65 : decode cX0_write 65 = .ok (.iload_n 2, 1) := qd_o28 39 26 qd_g24 rfl
theorem dX0_write_66 : decode cX0_write 66 = .ok (.invokevirtual 123, 3) := qd_o182 39 27 qd_g24 rfl rfl
theorem dX0_write_69 : decode cX0_write 69 = .ok (.return_, 1) := qd_o177 39 30 qd_g24 rfl
theorem qd_g25 : qd_bs cX0_startTimers 0 [3, 61, 28, 5, 162, 0, 59, 27, 28, 122, 4, 126, 4, 160, 0, 44, 42, 180, 0, 25, 28, 42, 180, 0, 12, 180, 0, 81, 16, 12, 5, 28, 104, 96, 46, 17, 1, 0, 42] = true := by decide +kernel
theorem dX0_startTimers_0 : decode cX0_startTimers 0 = .ok (.iconst 0, 1) := qd_o3 0 0 qd_g25 rfl
theorem dX0_startTimers_1 : decode cX0_startTimers 1 = .ok (.istore_n 2, 1) := qd_o61 0 1 qd_g25 rfl
theorem dX0_startTimers_2 : decode cX0_startTimers 2 = .ok (.iload_n 2, 1) := qd_o28 0 2 qd_g25 rfl
theorem dX0_startTimers_3 : decode cX0_startTimers 3 = .ok (.iconst 2, 1) := qd_o5 0 3 qd_g25 rfl
theorem dX0_startTimers_4 : decode cX0_startTimers 4 = .ok (.if_icmp .ge 59, 3) := qd_o162 0 4 qd_g25 rfl rfl
theorem dX0_startTimers_7 : decode cX0_startTimers 7 = .ok (.iload_n 1, 1) := qd_o27 0 7 qd_g25 rfl
theorem dX0_startTimers_8 : decode cX0_startTimers 8 = .ok (.iload_n 2, 1) := qd_o28 0 8 qd_g25 rfl
theorem dX0_startTimers_9 : decode cX0_startTimers 9 = .ok (.ishr, 1) := qd_o122 0 9 qd_g25 rfl
theorem dX0_startTimers_10 : decode cX0_startTimers 10 = .ok (.iconst 1, 1) := qd_o4 0 10 qd_g25 rfl
theorem dX0_startTimers_11 : decode cX0_startTimers 11 = .ok (.iand, 1) := qd_o126 0 11 qd_g25 rfl
theorem dX0_startTimers_12 : decode cX0_startTimers 12 = .ok (.iconst 1, 1) := qd_o4 0 12 qd_g25 rfl
theorem dX0_startTimers_13 : decode cX0_startTimers 13 = .ok (.if_icmp .ne 44, 3) := qd_o160 0 13 qd_g25 rfl rfl
theorem dX0_startTimers_16 : decode cX0_startTimers 16 = .ok (.aload_n 0, 1) := qd_o42 0 16 qd_g25 rfl
theorem dX0_startTimers_17 : decode cX0_startTimers 17 = .ok (.getfield 25, 3) := qd_o180 0 17 qd_g25 rfl rfl
theorem dX0_startTimers_20 : decode cX0_startTimers 20 = .ok (.iload_n 2, 1) := qd_o28 0 20 qd_g25 rfl
theorem dX0_startTimers_21 : decode cX0_startTimers 21 = .ok (.aload_n 0, 1) := qd_o42 0 21 qd_g25 rfl
theorem dX0_startTimers_22 : decode cX0_startTimers 22 = .ok (.getfield 12, 3) := qd_o180 0 22 qd_g25 rfl rfl
theorem dX0_startTimers_25 : decode cX0_startTimers 25 = .ok (.getfield 81, 3) := qd_o180 0 25 qd_g25 rfl rfl
theorem dX0_startTimers_28 : decode cX0_startTimers 28 = .ok (.bipush 12, 2) := qd_o16 0 28 qd_g25 rfl rfl
theorem dX0_startTimers_30 : decode cX0_startTimers 30 = .ok (.iconst 2, 1) := qd_o5 0 30 qd_g25 rfl
theorem dX0_startTimers_31 : decode cX0_startTimers 31 = .ok (.iload_n 2, 1) := qd_o28 0 31 qd_g25 rfl
theorem dX0_startTimers_32 : decode cX0_startTimers 32 = .ok (.imul, 1) := qd_o104 0 32 qd_g25 rfl
theorem dX0_startTimers_33 : decode cX0_startTimers 33 = .ok (.iadd, 1) := qd_o96 0 33 qd_g25 rfl
theorem dX0_startTimers_34 : decode cX0_startTimers 34 = .ok (.iaload, 1) := qd_o46 0 34 qd_g25 rfl
theorem dX0_startTimers_35 : decode cX0_startTimers 35 = .ok (.sipush 256, 3) := qd_o17 0 35 qd_g25 rfl rfl
theorem dX0_startTimers_38 : decode cX0_startTimers 38 = .ok (.aload_n 0, 1) := qd_o42 0 38 qd_g25 rfl
theorem qd_g26 : qd_bs cX0_startTimers 39 [180, 0, 12, 180, 0, 81, 16, 12, 5, 28, 104, 96, 4, 96, 46, 104, 96, 79, 132, 2, 1, 167, 255, 198, 177] = true := by decide +kernel
theorem dX0_startTimers_39 : decode cX0_startTimers 39 = .ok (.getfield 12, 3) := qd_o180 39 0 qd_g26 rfl rfl
theorem dX0_startTimers_42 : decode cX0_startTimers 42 = .ok (.getfield 81, 3) := qd_o180 39 3 qd_g26 rfl rfl
theorem dX0_startTimers_45 : decode cX0_startTimers 45 = .ok (.bipush 12, 2) := qd_o16 39 6 qd_g26 rfl rfl
theorem dX0_startTimers_47 : decode cX0_startTimers 47 = .ok (.iconst 2, 1) := qd_o5 39 8 qd_g26 rfl
theorem dX0_startTimers_48 : decode cX0_startTimers 48 = .ok (.iload_n 2, 1) := qd_o28 39 9 qd_g26 rfl
theorem dX0_startTimers_49 : decode cX0_startTimers 49 = .ok (.imul, 1) := qd_o104 39 10 qd_g26 rfl
theorem dX0_startTimers_50 : decode cX0_startTimers 50 = .ok (.iadd, 1) := qd_o96 39 11 qd_g26 rfl
theorem dX0_startTimers_51 : decode cX0_startTimers 51 = .ok (.iconst 1, 1) := qd_o4 39 12 qd_g26 rfl
theorem dX0_startTimers_52 : decode cX0_startTimers 52 = .ok (.iadd, 1) := qd_o96 39 13 qd_g26 rfl
theorem dX0_startTimers_53 : decode cX0_startTimers 53 = .ok (.iaload, 1) := qd_o46 39 14 qd_g26 rfl
theorem dX0_startTimers_54 : decode cX0_startTimers 54 = .ok (.imul, 1) := qd_o104 39 15 qd_g26 rfl
theorem dX0_startTimers_55 : decode cX0_startTimers 55 = .ok (.iadd, 1) := qd_o96 39 16 qd_g26 rfl
theorem dX0_startTimers_56 : decode cX0_startTimers 56 = .ok (.iastore, 1) := qd_o79 39 17 qd_g26 rfl
theorem dX0_startTimers_57 : decode cX0_startTimers 57 = .ok (.iinc 2 1, 3) := qd_o132 39 18 qd_g26 rfl rfl
theorem dX0_startTimers_60 : decode cX0_startTimers 60 = .ok (.goto (-58), 3) := qd_o167 39 21 qd_g26 rfl rfl
theorem dX0_startTimers_63 : decode cX0_startTimers 63 = .ok (.return_, 1) := qd_o177 39 24 qd_g26 rfl
theorem qd_g27 : qd_bs cX0_clearRegisters 0 [42, 180, 0, 12, 182, 0, 126, 42, 182, 0, 119, 17, 16, 0, 3, 182, 0, 123, 42, 180, 0, 25, 3, 184, 0, 129, 177] = true := by decide +kernel
theorem dX0_clearRegisters_0 : decode cX0_clearRegisters 0 = .ok (.aload_n 0, 1) := qd_o42 0 0 qd_g27 rfl
theorem dX0_clearRegisters_1 : decode cX0_clearRegisters 1 = .ok (.getfield 12, 3) := qd_o180 0 1 qd_g27 rfl rfl
theorem dX0_clearRegisters_4 : decode cX0_clearRegisters 4 = .ok (.invokevirtual 126, 3) := qd_o182 0 4 qd_g27 rfl rfl
theorem dX0_clearRegisters_7 : decode cX0_clearRegisters 7 = .ok (.aload_n 0, 1) := qd_o42 0 7 qd_g27 rfl
theorem dX0_clearRegisters_8 : decode cX0_clearRegisters 8 = .ok (.invokevirtual 119, 3) := qd_o182 0 8 qd_g27 rfl rfl
theorem dX0_clearRegisters_11 : decode cX0_clearRegisters 11 = .ok (.sipush 4096, 3) := qd_o17 0 11 qd_g27 rfl rfl
theorem dX0_clearRegisters_14 : decode cX0_clearRegisters 14 = .ok (.iconst 0, 1) := qd_o3 0 14 qd_g27 rfl
theorem dX0_clearRegisters_15 : decode cX0_clearRegisters 15 = .ok (.invokevirtual 123, 3) := qd_o182 0 15 qd_g27 rfl rfl
theorem dX0_clearRegisters_18 : decode cX0_clearRegisters 18 = .ok (.aload_n 0, 1) := qd_o42 0 18 qd_g27 rfl
theorem dX0_clearRegisters_19 : decode cX0_clearRegisters 19 = .ok (.getfield 25, 3) := qd_o180 0 19 qd_g27 rfl rfl
theorem dX0_clearRegisters_22 : decode cX0_clearRegisters 22 = .ok (.iconst 0, 1) := qd_o3 0 22 qd_g27 rfl
theorem dX0_clearRegisters_23 : decode cX0_clearRegisters 23 = .ok (.invokestatic 129, 3) := qd_o184 0 23 qd_g27 rfl rfl
theorem dX0_clearRegisters_26 : decode cX0_clearRegisters 26 = .ok (.return_, 1) := qd_o177 0 26 qd_g27 rfl
theorem qd_g28 : qd_bs cX0_exchange 0 [42, 27, 182, 0, 107, 62, 42, 27, 28, 182, 0, 135, 29, 172] = true := by decide +kernel
theorem dX0_exchange_0 : decode cX0_exchange 0 = .ok (.aload_n 0, 1) := qd_o42 0 0 qd_g28 rfl
theorem dX0_exchange_1 : decode cX0_exchange 1 = .ok (.iload_n 1, 1) := qd_o27 0 1 qd_g28 rfl
theorem dX0_exchange_2 : decode cX0_exchange 2 = .ok (.invokevirtual 107, 3) := qd_o182 0 2 qd_g28 rfl rfl
theorem dX0_exchange_5 : decode cX0_exchange 5 = .ok (.istore_n 3, 1) := qd_o62 0 5 qd_g28 rfl
theorem dX0_exchange_6 : decode cX0_exchange 6 = .ok (.aload_n 0, 1) := qd_o42 0 6 qd_g28 rfl
theorem dX0_exchange_7 : decode cX0_exchange 7 = .ok (.iload_n 1, 1) := qd_o27 0 7 qd_g28 rfl
theorem dX0_exchange_8 : decode cX0_exchange 8 = .ok (.iload_n 2, 1) := qd_o28 0 8 qd_g28 rfl
theorem dX0_exchange_9 : decode cX0_exchange 9 = .ok (.invokevirtual 135, 3) := qd_o182 0 9 qd_g28 rfl rfl
theorem dX0_exchange_12 : decode cX0_exchange 12 = .ok (.iload_n 3, 1) := qd_o29 0 12 qd_g28 rfl
theorem dX0_exchange_13 : decode cX0_exchange 13 = .ok (.ireturn, 1) := qd_o172 0 13 qd_g28 rfl
theorem qd_g29 : qd_bs cX0_exchangeRom 0 [27, 17, 1, 255, 126, 62, 42, 180, 0, 18, 29, 46, 54, 4, 42, 180, 0, 18, 29, 28, 79, 21, 4, 172] = true := by decide +kernel
theorem dX0_exchangeRom_0 : decode cX0_exchangeRom 0 = .ok (.iload_n 1, 1) := qd_o27 0 0 qd_g29 rfl
theorem dX0_exchangeRom_1 : decode cX0_exchangeRom 1 = .ok (.sipush 511, 3) := qd_o17 0 1 qd_g29 rfl rfl
theorem dX0_exchangeRom_4 : decode cX0_exchangeRom 4 = .ok (.iand, 1) := qd_o126 0 4 qd_g29 rfl
theorem dX0_exchangeRom_5 : decode cX0_exchangeRom 5 = .ok (.istore_n 3, 1) := qd_o62 0 5 qd_g29 rfl
theorem dX0_exchangeRom_6 : decode cX0_exchangeRom 6 = .ok (.aload_n 0, 1) := qd_o42 0 6 qd_g29 rfl
theorem dX0_exchangeRom_7 : decode cX0_exchangeRom 7 = .ok (.getfield 18, 3) := qd_o180 0 7 qd_g29 rfl rfl
theorem dX0_exchangeRom_10 : decode cX0_exchangeRom 10 = .ok (.iload_n 3, 1) := qd_o29 0 10 qd_g29 rfl
theorem dX0_exchangeRom_11 : decode cX0_exchangeRom 11 = .ok (.iaload, 1) := qd_o46 0 11 qd_g29 rfl
theorem dX0_exchangeRom_12 : decode cX0_exchangeRom 12 = .ok (.istore 4, 2) := qd_o54 0 12 qd_g29 rfl rfl
theorem dX0_exchangeRom_14 : decode cX0_exchangeRom 14 = .ok (.aload_n 0, 1) := qd_o42 0 14 qd_g29 rfl
theorem dX0_exchangeRom_15 : decode cX0_exchangeRom 15 = .ok (.getfield 18, 3) := qd_o180 0 15 qd_g29 rfl rfl
theorem dX0_exchangeRom_18 : decode cX0_exchangeRom 18 = .ok (.iload_n 3, 1) := qd_o29 0 18 qd_g29 rfl
theorem dX0_exchangeRom_19 : decode cX0_exchangeRom 19 = .ok (.iload_n 2, 1) := qd_o28 0 19 qd_g29 rfl
theorem dX0_exchangeRom_20 : decode cX0_exchangeRom 20 = .ok (.iastore, 1) := qd_o79 0 20 qd_g29 rfl
theorem dX0_exchangeRom_21 : decode cX0_exchangeRom 21 = .ok (.iload 4, 2) := qd_o21 0 21 qd_g29 rfl rfl
theorem dX0_exchangeRom_23 : decode cX0_exchangeRom 23 = .ok (.ireturn, 1) := qd_o172 0 23 qd_g29 rfl
theorem qd_g30 : qd_bs cX0_exchangeCartridge 0 [27, 17, 7, 255, 126, 62, 42, 180, 0, 22, 29, 46, 54, 4, 42, 180, 0, 22, 29, 28, 79, 21, 4, 172] = true := by decide +kernel
theorem dX0_exchangeCartridge_0 : decode cX0_exchangeCartridge 0 = .ok (.iload_n 1, 1) := qd_o27 0 0 qd_g30 rfl
theorem dX0_exchangeCartridge_1 : decode cX0_exchangeCartridge 1 = .ok (.sipush 2047, 3) := qd_o17 0 1 qd_g30 rfl rfl
theorem dX0_exchangeCartridge_4 : decode cX0_exchangeCartridge 4 = .ok (.iand, 1) := qd_o126 0 4 qd_g30 rfl
theorem dX0_exchangeCartridge_5 : decode cX0_exchangeCartridge 5 = .ok (.istore_n 3, 1) := qd_o62 0 5 qd_g30 rfl
theorem dX0_exchangeCartridge_6 : decode cX0_exchangeCartridge 6 = .ok (.aload_n 0, 1) := qd_o42 0 6 qd_g30 rfl
theorem dX0_exchangeCartridge_7 : decode cX0_exchangeCartridge 7 = .ok (.getfield 22, 3) := qd_o180 0 7 qd_g30 rfl rfl
theorem dX0_exchangeCartridge_10 : decode cX0_exchangeCartridge 10 = .ok (.iload_n 3, 1) := qd_o29 0 10 qd_g30 rfl
theorem dX0_exchangeCartridge_11 : decode cX0_exchangeCartridge 11 = .ok (.iaload, 1) := qd_o46 0 11 qd_g30 rfl
theorem dX0_exchangeCartridge_12 : decode cX0_exchangeCartridge 12 = .ok (.istore 4, 2) := qd_o54 0 12 qd_g30 rfl rfl
theorem dX0_exchangeCartridge_14 : decode cX0_exchangeCartridge 14 = .ok (.aload_n 0, 1) := qd_o42 0 14 qd_g30 rfl
theorem dX0_exchangeCartridge_15 : decode cX0_exchangeCartridge 15 = .ok (.getfield 22, 3) := qd_o180 0 15 qd_g30 rfl rfl
theorem dX0_exchangeCartridge_18 : decode cX0_exchangeCartridge 18 = .ok (.iload_n 3, 1) := qd_o29 0 18 qd_g30 rfl
theorem dX0_exchangeCartridge_19 : decode cX0_exchangeCartridge 19 = .ok (.iload_n 2, 1) := qd_o28 0 19 qd_g30 rfl
theorem dX0_exchangeCartridge_20 : decode cX0_exchangeCartridge 20 = .ok (.iastore, 1) := qd_o79 0 20 qd_g30 rfl
theorem dX0_exchangeCartridge_21 : decode cX0_exchangeCartridge 21 = .ok (.iload 4, 2) := qd_o21 0 21 qd_g30 rfl rfl
theorem dX0_exchangeCartridge_23 : decode cX0_exchangeCartridge 23 = .ok (.ireturn, 1) := qd_o172 0 23 qd_g30 rfl
theorem qd_g31 : qd_bs cX0_writeInstruction 0 [28, 184, 0, 138, 54, 4, 42, 27, 28, 182, 0, 135, 21, 4, 4, 164, 0, 19, 42, 27, 4, 96, 17, 15, 255, 126, 29, 17, 0, 255, 126, 182, 0, 135, 21, 4, 5, 164, 0, 18] = true := by decide +kernel
theorem dX0_writeInstruction_0 : decode cX0_writeInstruction 0 = .ok (.iload_n 2, 1) := qd_o28 0 0 qd_g31 rfl
theorem dX0_writeInstruction_1 : decode cX0_writeInstruction 1 = .ok (.invokestatic 138, 3) := qd_o184 0 1 qd_g31 rfl rfl
theorem dX0_writeInstruction_4 : decode cX0_writeInstruction 4 = .ok (.istore 4, 2) := qd_o54 0 4 qd_g31 rfl rfl
theorem dX0_writeInstruction_6 : decode cX0_writeInstruction 6 = .ok (.aload_n 0, 1) := qd_o42 0 6 qd_g31 rfl
theorem dX0_writeInstruction_7 : decode cX0_writeInstruction 7 = .ok (.iload_n 1, 1) := qd_o27 0 7 qd_g31 rfl
theorem dX0_writeInstruction_8 : decode cX0_writeInstruction 8 = .ok (.iload_n 2, 1) := qd_o28 0 8 qd_g31 rfl
theorem dX0_writeInstruction_9 : decode cX0_writeInstruction 9 = .ok (.invokevirtual 135, 3) := qd_o182 0 9 qd_g31 rfl rfl
theorem dX0_writeInstruction_12 : decode cX0_writeInstruction 12 = .ok (.iload 4, 2) := qd_o21 0 12 qd_g31 rfl rfl
theorem dX0_writeInstruction_14 : decode cX0_writeInstruction 14 = .ok (.iconst 1, 1) := qd_o4 0 14 qd_g31 rfl
theorem dX0_writeInstruction_15 : decode cX0_writeInstruction 15 = .ok (.if_icmp .le 19, 3) := qd_o164 0 15 qd_g31 rfl rfl
theorem dX0_writeInstruction_18 : decode cX0_writeInstruction 18 = .ok (.aload_n 0, 1) := qd_o42 0 18 qd_g31 rfl
theorem dX0_writeInstruction_19 : decode cX0_writeInstruction 19 = .ok (.iload_n 1, 1) := qd_o27 0 19 qd_g31 rfl
theorem dX0_writeInstruction_20 : decode cX0_writeInstruction 20 = .ok (.iconst 1, 1) := qd_o4 0 20 qd_g31 rfl
theorem dX0_writeInstruction_21 : decode cX0_writeInstruction 21 = .ok (.iadd, 1) := qd_o96 0 21 qd_g31 rfl
theorem dX0_writeInstruction_22 : decode cX0_writeInstruction 22 = .ok (.sipush 4095, 3) := qd_o17 0 22 qd_g31 rfl rfl
theorem dX0_writeInstruction_25 : decode cX0_writeInstruction 25 = .ok (.iand, 1) := qd_o126 0 25 qd_g31 rfl
theorem dX0_writeInstruction_26 : decode cX0_writeInstruction 26 = .ok (.iload_n 3, 1) := qd_o29 0 26 qd_g31 rfl
theorem dX0_writeInstruction_27 : decode cX0_writeInstruction 27 = .ok (.sipush 255, 3) := qd_o17 0 27 qd_g31 rfl rfl
theorem dX0_writeInstruction_30 : decode cX0_writeInstruction 30 = .ok (.iand, 1) := qd_o126 0 30 qd_g31 rfl
theorem dX0_writeInstruction_31 : decode cX0_writeInstruction 31 = .ok (.invokevirtual 135, 3) := qd_o182 0 31 qd_g31 rfl rfl
theorem dX0_writeInstruction_34 : decode cX0_writeInstruction 34 = .ok (.iload 4, 2) := qd_o21 0 34 qd_g31 rfl rfl
theorem dX0_writeInstruction_36 : decode cX0_writeInstruction 36 = .ok (.iconst 2, 1) := qd_o5 0 36 qd_g31 rfl
theorem dX0_writeInstruction_37 : decode cX0_writeInstruction 37 = .ok (.if_icmp .le 18, 3) := qd_o164 0 37 qd_g31 rfl rfl
theorem qd_g32 : qd_bs cX0_writeInstruction 40 [42, 27, 5, 96, 17, 15, 255, 126, 29, 16, 8, 122, 182, 0, 135, 27, 21, 4, 96, 17, 15, 255, 126, 172] = true := by decide +kernel
theorem dX0_writeInstruction_40 : decode cX0_writeInstruction 40 = .ok (.aload_n 0, 1) := qd_o42 40 0 qd_g32 rfl
theorem dX0_writeInstruction_41 : decode cX0_writeInstruction 41 = .ok (.iload_n 1, 1) := qd_o27 40 1 qd_g32 rfl
theorem dX0_writeInstruction_42 : decode cX0_writeInstruction 42 = .ok (.iconst 2, 1) := qd_o5 40 2 qd_g32 rfl
theorem dX0_writeInstruction_43 : decode cX0_writeInstruction 43 = .ok (.iadd, 1) := qd_o96 40 3 qd_g32 rfl
theorem dX0_writeInstruction_44 : decode cX0_writeInstruction 44 = .ok (.sipush 4095, 3) := qd_o17 40 4 qd_g32 rfl rfl
theorem dX0_writeInstruction_47 : decode cX0_writeInstruction 47 = .ok (.iand, 1) := qd_o126 40 7 qd_g32 rfl
theorem dX0_writeInstruction_48 : decode cX0_writeInstruction 48 = .ok (.iload_n 3, 1) := qd_o29 40 8 qd_g32 rfl
theorem dX0_writeInstruction_49 : decode cX0_writeInstruction 49 = .ok (.bipush 8, 2) := qd_o16 40 9 qd_g32 rfl rfl
theorem dX0_writeInstruction_51 : decode cX0_writeInstruction 51 = .ok (.ishr, 1) := qd_o122 40 11 qd_g32 rfl
theorem dX0_writeInstruction_52 : decode cX0_writeInstruction 52 = .ok (.invokevirtual 135, 3) := qd_o182 40 12 qd_g32 rfl rfl
theorem dX0_writeInstruction_55 : decode cX0_writeInstruction 55 = .ok (.iload_n 1, 1) := qd_o27 40 15 qd_g32 rfl
theorem dX0_writeInstruction_56 : decode cX0_writeInstruction 56 = .ok (.iload 4, 2) := qd_o21 40 16 qd_g32 rfl rfl
theorem dX0_writeInstruction_58 : decode cX0_writeInstruction 58 = .ok (.iadd, 1) := qd_o96 40 18 qd_g32 rfl
theorem dX0_writeInstruction_59 : decode cX0_writeInstruction 59 = .ok (.sipush 4095, 3) := qd_o17 40 19 qd_g32 rfl rfl
theorem dX0_writeInstruction_62 : decode cX0_writeInstruction 62 = .ok (.iand, 1) := qd_o126 40 22 qd_g32 rfl
theorem dX0_writeInstruction_63 : decode cX0_writeInstruction 63 = .ok (.ireturn, 1) := qd_o172 40 23 qd_g32 rfl
theorem qd_g33 : qd_bs cX0_meetLine 0 [42, 182, 0, 143, 154, 0, 37, 42, 182, 0, 147, 16, 24, 108, 42, 180, 0, 12, 180, 0, 81, 16, 9, 46, 160, 0, 17, 42, 180, 0, 12, 180, 0, 81, 16, 10, 92, 46, 4, 128] = true := by decide +kernel
theorem dX0_meetLine_0 : decode cX0_meetLine 0 = .ok (.aload_n 0, 1) := qd_o42 0 0 qd_g33 rfl
theorem dX0_meetLine_1 : decode cX0_meetLine 1 = .ok (.invokevirtual 143, 3) := qd_o182 0 1 qd_g33 rfl rfl
theorem dX0_meetLine_4 : decode cX0_meetLine 4 = .ok (.ifCond .ne 37, 3) := qd_o154 0 4 qd_g33 rfl rfl
theorem dX0_meetLine_7 : decode cX0_meetLine 7 = .ok (.aload_n 0, 1) := qd_o42 0 7 qd_g33 rfl
theorem dX0_meetLine_8 : decode cX0_meetLine 8 = .ok (.invokevirtual 147, 3) := qd_o182 0 8 qd_g33 rfl rfl
theorem dX0_meetLine_11 : decode cX0_meetLine 11 = .ok (.bipush 24, 2) := qd_o16 0 11 qd_g33 rfl rfl
theorem dX0_meetLine_13 : decode cX0_meetLine 13 = .ok (.idiv, 1) := qd_o108 0 13 qd_g33 rfl
theorem dX0_meetLine_14 : decode cX0_meetLine 14 = .ok (.aload_n 0, 1) := qd_o42 0 14 qd_g33 rfl
theorem dX0_meetLine_15 : decode cX0_meetLine 15 = .ok (.getfield 12, 3) := qd_o180 0 15 qd_g33 rfl rfl
theorem dX0_meetLine_18 : decode cX0_meetLine 18 = .ok (.getfield 81, 3) := qd_o180 0 18 qd_g33 rfl rfl
theorem dX0_meetLine_21 : decode cX0_meetLine 21 = .ok (.bipush 9, 2) := qd_o16 0 21 qd_g33 rfl rfl
theorem dX0_meetLine_23 : decode cX0_meetLine 23 = .ok (.iaload, 1) := qd_o46 0 23 qd_g33 rfl
theorem dX0_meetLine_24 : decode cX0_meetLine 24 = .ok (.if_icmp .ne 17, 3) := qd_o160 0 24 qd_g33 rfl rfl
theorem dX0_meetLine_27 : decode cX0_meetLine 27 = .ok (.aload_n 0, 1) := qd_o42 0 27 qd_g33 rfl
theorem dX0_meetLine_28 : decode cX0_meetLine 28 = .ok (.getfield 12, 3) := qd_o180 0 28 qd_g33 rfl rfl
theorem dX0_meetLine_31 : decode cX0_meetLine 31 = .ok (.getfield 81, 3) := qd_o180 0 31 qd_g33 rfl rfl
theorem dX0_meetLine_34 : decode cX0_meetLine 34 = .ok (.bipush 10, 2) := qd_o16 0 34 qd_g33 rfl rfl
theorem dX0_meetLine_36 : decode cX0_meetLine 36 = .ok (.dup2, 1) := qd_o92 0 36 qd_g33 rfl
theorem dX0_meetLine_37 : decode cX0_meetLine 37 = .ok (.iaload, 1) := qd_o46 0 37 qd_g33 rfl
theorem dX0_meetLine_38 : decode cX0_meetLine 38 = .ok (.iconst 1, 1) := qd_o4 0 38 qd_g33 rfl
theorem dX0_meetLine_39 : decode cX0_meetLine 39 = .ok (.ior, 1) := qd_o128 0 39 qd_g33 rfl
theorem qd_g34 : qd_bs cX0_meetLine 40 [79, 177] = true := by decide +kernel
theorem dX0_meetLine_40 : decode cX0_meetLine 40 = .ok (.iastore, 1) := qd_o79 40 0 qd_g34 rfl
theorem dX0_meetLine_41 : decode cX0_meetLine 41 = .ok (.return_, 1) := qd_o177 40 1 qd_g34 rfl
theorem qd_g35 : qd_bs cX0_isPictureNext 0 [42, 180, 0, 12, 42, 182, 0, 147, 16, 24, 108, 7, 100, 42, 182, 0, 143, 182, 0, 150, 172] = true := by decide +kernel
theorem dX0_isPictureNext_0 : decode cX0_isPictureNext 0 = .ok (.aload_n 0, 1) := qd_o42 0 0 qd_g35 rfl
theorem dX0_isPictureNext_1 : decode cX0_isPictureNext 1 = .ok (.getfield 12, 3) := qd_o180 0 1 qd_g35 rfl rfl
theorem dX0_isPictureNext_4 : decode cX0_isPictureNext 4 = .ok (.aload_n 0, 1) := qd_o42 0 4 qd_g35 rfl
theorem dX0_isPictureNext_5 : decode cX0_isPictureNext 5 = .ok (.invokevirtual 147, 3) := qd_o182 0 5 qd_g35 rfl rfl
theorem dX0_isPictureNext_8 : decode cX0_isPictureNext 8 = .ok (.bipush 24, 2) := qd_o16 0 8 qd_g35 rfl rfl
theorem dX0_isPictureNext_10 : decode cX0_isPictureNext 10 = .ok (.idiv, 1) := qd_o108 0 10 qd_g35 rfl
theorem dX0_isPictureNext_11 : decode cX0_isPictureNext 11 = .ok (.iconst 4, 1) := qd_o7 0 11 qd_g35 rfl
theorem dX0_isPictureNext_12 : decode cX0_isPictureNext 12 = .ok (.isub, 1) := qd_o100 0 12 qd_g35 rfl
theorem dX0_isPictureNext_13 : decode cX0_isPictureNext 13 = .ok (.aload_n 0, 1) := qd_o42 0 13 qd_g35 rfl
theorem dX0_isPictureNext_14 : decode cX0_isPictureNext 14 = .ok (.invokevirtual 143, 3) := qd_o182 0 14 qd_g35 rfl rfl
theorem dX0_isPictureNext_17 : decode cX0_isPictureNext 17 = .ok (.invokevirtual 150, 3) := qd_o182 0 17 qd_g35 rfl rfl
theorem dX0_isPictureNext_20 : decode cX0_isPictureNext 20 = .ok (.ireturn, 1) := qd_o172 0 20 qd_g35 rfl
theorem qd_g36 : qd_bs cX0_draw 0 [42, 182, 0, 147, 16, 24, 108, 7, 100, 61, 42, 182, 0, 143, 62, 28, 155, 0, 105, 28, 16, 32, 162, 0, 99, 29, 7, 161, 0, 94, 29, 16, 19, 163, 0, 88, 5, 29, 7, 100] = true := by decide +kernel
theorem dX0_draw_0 : decode cX0_draw 0 = .ok (.aload_n 0, 1) := qd_o42 0 0 qd_g36 rfl
theorem dX0_draw_1 : decode cX0_draw 1 = .ok (.invokevirtual 147, 3) := qd_o182 0 1 qd_g36 rfl rfl
theorem dX0_draw_4 : decode cX0_draw 4 = .ok (.bipush 24, 2) := qd_o16 0 4 qd_g36 rfl rfl
theorem dX0_draw_6 : decode cX0_draw 6 = .ok (.idiv, 1) := qd_o108 0 6 qd_g36 rfl
theorem dX0_draw_7 : decode cX0_draw 7 = .ok (.iconst 4, 1) := qd_o7 0 7 qd_g36 rfl
theorem dX0_draw_8 : decode cX0_draw 8 = .ok (.isub, 1) := qd_o100 0 8 qd_g36 rfl
theorem dX0_draw_9 : decode cX0_draw 9 = .ok (.istore_n 2, 1) := qd_o61 0 9 qd_g36 rfl
theorem dX0_draw_10 : decode cX0_draw 10 = .ok (.aload_n 0, 1) := qd_o42 0 10 qd_g36 rfl
theorem dX0_draw_11 : decode cX0_draw 11 = .ok (.invokevirtual 143, 3) := qd_o182 0 11 qd_g36 rfl rfl
theorem dX0_draw_14 : decode cX0_draw 14 = .ok (.istore_n 3, 1) := qd_o62 0 14 qd_g36 rfl
theorem dX0_draw_15 : decode cX0_draw 15 = .ok (.iload_n 2, 1) := qd_o28 0 15 qd_g36 rfl
theorem dX0_draw_16 : decode cX0_draw 16 = .ok (.ifCond .lt 105, 3) := qd_o155 0 16 qd_g36 rfl rfl
theorem dX0_draw_19 : decode cX0_draw 19 = .ok (.iload_n 2, 1) := qd_o28 0 19 qd_g36 rfl
theorem dX0_draw_20 : decode cX0_draw 20 = .ok (.bipush 32, 2) := qd_o16 0 20 qd_g36 rfl rfl
theorem dX0_draw_22 : decode cX0_draw 22 = .ok (.if_icmp .ge 99, 3) := qd_o162 0 22 qd_g36 rfl rfl
theorem dX0_draw_25 : decode cX0_draw 25 = .ok (.iload_n 3, 1) := qd_o29 0 25 qd_g36 rfl
theorem dX0_draw_26 : decode cX0_draw 26 = .ok (.iconst 4, 1) := qd_o7 0 26 qd_g36 rfl
theorem dX0_draw_27 : decode cX0_draw 27 = .ok (.if_icmp .lt 94, 3) := qd_o161 0 27 qd_g36 rfl rfl
theorem dX0_draw_30 : decode cX0_draw 30 = .ok (.iload_n 3, 1) := qd_o29 0 30 qd_g36 rfl
theorem dX0_draw_31 : decode cX0_draw 31 = .ok (.bipush 19, 2) := qd_o16 0 31 qd_g36 rfl rfl
theorem dX0_draw_33 : decode cX0_draw 33 = .ok (.if_icmp .gt 88, 3) := qd_o163 0 33 qd_g36 rfl rfl
theorem dX0_draw_36 : decode cX0_draw 36 = .ok (.iconst 2, 1) := qd_o5 0 36 qd_g36 rfl
theorem dX0_draw_37 : decode cX0_draw 37 = .ok (.iload_n 3, 1) := qd_o29 0 37 qd_g36 rfl
theorem dX0_draw_38 : decode cX0_draw 38 = .ok (.iconst 4, 1) := qd_o7 0 38 qd_g36 rfl
theorem dX0_draw_39 : decode cX0_draw 39 = .ok (.isub, 1) := qd_o100 0 39 qd_g36 rfl
theorem qd_g37 : qd_bs cX0_draw 40 [104, 54, 4, 21, 4, 54, 5, 21, 5, 21, 4, 4, 96, 163, 0, 68, 42, 180, 0, 12, 21, 5, 28, 182, 0, 154, 54, 6, 42, 180, 0, 12, 21, 5, 28, 182, 0, 157, 54, 7] = true := by decide +kernel
theorem dX0_draw_40 : decode cX0_draw 40 = .ok (.imul, 1) := qd_o104 40 0 qd_g37 rfl
theorem dX0_draw_41 : decode cX0_draw 41 = .ok (.istore 4, 2) := qd_o54 40 1 qd_g37 rfl rfl
theorem dX0_draw_43 : decode cX0_draw 43 = .ok (.iload 4, 2) := qd_o21 40 3 qd_g37 rfl rfl
theorem dX0_draw_45 : decode cX0_draw 45 = .ok (.istore 5, 2) := qd_o54 40 5 qd_g37 rfl rfl
theorem dX0_draw_47 : decode cX0_draw 47 = .ok (.iload 5, 2) := qd_o21 40 7 qd_g37 rfl rfl
theorem dX0_draw_49 : decode cX0_draw 49 = .ok (.iload 4, 2) := qd_o21 40 9 qd_g37 rfl rfl
theorem dX0_draw_51 : decode cX0_draw 51 = .ok (.iconst 1, 1) := qd_o4 40 11 qd_g37 rfl
theorem dX0_draw_52 : decode cX0_draw 52 = .ok (.iadd, 1) := qd_o96 40 12 qd_g37 rfl
theorem dX0_draw_53 : decode cX0_draw 53 = .ok (.if_icmp .gt 68, 3) := qd_o163 40 13 qd_g37 rfl rfl
theorem dX0_draw_56 : decode cX0_draw 56 = .ok (.aload_n 0, 1) := qd_o42 40 16 qd_g37 rfl
theorem dX0_draw_57 : decode cX0_draw 57 = .ok (.getfield 12, 3) := qd_o180 40 17 qd_g37 rfl rfl
theorem dX0_draw_60 : decode cX0_draw 60 = .ok (.iload 5, 2) := qd_o21 40 20 qd_g37 rfl rfl
theorem dX0_draw_62 : decode cX0_draw 62 = .ok (.iload_n 2, 1) := qd_o28 40 22 qd_g37 rfl
theorem dX0_draw_63 : decode cX0_draw 63 = .ok (.invokevirtual 154, 3) := qd_o182 40 23 qd_g37 rfl rfl
theorem dX0_draw_66 : decode cX0_draw 66 = .ok (.istore 6, 2) := qd_o54 40 26 qd_g37 rfl rfl
theorem dX0_draw_68 : decode cX0_draw 68 = .ok (.aload_n 0, 1) := qd_o42 40 28 qd_g37 rfl
theorem dX0_draw_69 : decode cX0_draw 69 = .ok (.getfield 12, 3) := qd_o180 40 29 qd_g37 rfl rfl
theorem dX0_draw_72 : decode cX0_draw 72 = .ok (.iload 5, 2) := qd_o21 40 32 qd_g37 rfl rfl
theorem dX0_draw_74 : decode cX0_draw 74 = .ok (.iload_n 2, 1) := qd_o28 40 34 qd_g37 rfl
theorem dX0_draw_75 : decode cX0_draw 75 = .ok (.invokevirtual 157, 3) := qd_o182 40 35 qd_g37 rfl rfl
theorem dX0_draw_78 : decode cX0_draw 78 = .ok (.istore 7, 2) := qd_o54 40 38 qd_g37 rfl rfl
theorem qd_g38 : qd_bs cX0_draw 80 [42, 180, 0, 12, 21, 6, 21, 7, 182, 0, 160, 43, 16, 32, 28, 104, 21, 5, 96, 17, 3, 255, 126, 42, 180, 0, 12, 21, 6, 21, 7, 182, 0, 163, 79, 132, 5, 1] = true := by decide +kernel
theorem dX0_draw_80 : decode cX0_draw 80 = .ok (.aload_n 0, 1) := qd_o42 80 0 qd_g38 rfl
theorem dX0_draw_81 : decode cX0_draw 81 = .ok (.getfield 12, 3) := qd_o180 80 1 qd_g38 rfl rfl
theorem dX0_draw_84 : decode cX0_draw 84 = .ok (.iload 6, 2) := qd_o21 80 4 qd_g38 rfl rfl
theorem dX0_draw_86 : decode cX0_draw 86 = .ok (.iload 7, 2) := qd_o21 80 6 qd_g38 rfl rfl
theorem dX0_draw_88 : decode cX0_draw 88 = .ok (.invokevirtual 160, 3) := qd_o182 80 8 qd_g38 rfl rfl
theorem dX0_draw_91 : decode cX0_draw 91 = .ok (.aload_n 1, 1) := qd_o43 80 11 qd_g38 rfl
theorem dX0_draw_92 : decode cX0_draw 92 = .ok (.bipush 32, 2) := qd_o16 80 12 qd_g38 rfl rfl
theorem dX0_draw_94 : decode cX0_draw 94 = .ok (.iload_n 2, 1) := qd_o28 80 14 qd_g38 rfl
theorem dX0_draw_95 : decode cX0_draw 95 = .ok (.imul, 1) := qd_o104 80 15 qd_g38 rfl
theorem dX0_draw_96 : decode cX0_draw 96 = .ok (.iload 5, 2) := qd_o21 80 16 qd_g38 rfl rfl
theorem dX0_draw_98 : decode cX0_draw 98 = .ok (.iadd, 1) := qd_o96 80 18 qd_g38 rfl
theorem dX0_draw_99 : decode cX0_draw 99 = .ok (.sipush 1023, 3) := qd_o17 80 19 qd_g38 rfl rfl
theorem dX0_draw_102 : decode cX0_draw 102 = .ok (.iand, 1) := qd_o126 80 22 qd_g38 rfl
theorem dX0_draw_103 : decode cX0_draw 103 = .ok (.aload_n 0, 1) := qd_o42 80 23 qd_g38 rfl
theorem dX0_draw_104 : decode cX0_draw 104 = .ok (.getfield 12, 3) := qd_o180 80 24 qd_g38 rfl rfl
theorem dX0_draw_107 : decode cX0_draw 107 = .ok (.iload 6, 2) := qd_o21 80 27 qd_g38 rfl rfl
theorem dX0_draw_109 : decode cX0_draw 109 = .ok (.iload 7, 2) := qd_o21 80 29 qd_g38 rfl rfl
theorem dX0_draw_111 : decode cX0_draw 111 = .ok (.invokevirtual 163, 3) := qd_o182 80 31 qd_g38 rfl rfl
theorem dX0_draw_114 : decode cX0_draw 114 = .ok (.iastore, 1) := qd_o79 80 34 qd_g38 rfl
theorem dX0_draw_115 : decode cX0_draw 115 = .ok (.iinc 5 1, 3) := qd_o132 80 35 qd_g38 rfl rfl
theorem qd_g39 : qd_bs cX0_draw 118 [167, 255, 185, 42, 182, 0, 119, 89, 180, 0, 166, 4, 96, 181, 0, 166, 177] = true := by decide +kernel
theorem dX0_draw_118 : decode cX0_draw 118 = .ok (.goto (-71), 3) := qd_o167 118 0 qd_g39 rfl rfl
theorem dX0_draw_121 : decode cX0_draw 121 = .ok (.aload_n 0, 1) := qd_o42 118 3 qd_g39 rfl
theorem dX0_draw_122 : decode cX0_draw 122 = .ok (.invokevirtual 119, 3) := qd_o182 118 4 qd_g39 rfl rfl
theorem dX0_draw_125 : decode cX0_draw 125 = .ok (.dup, 1) := qd_o89 118 7 qd_g39 rfl
theorem dX0_draw_126 : decode cX0_draw 126 = .ok (.getfield 166, 3) := qd_o180 118 8 qd_g39 rfl rfl
theorem dX0_draw_129 : decode cX0_draw 129 = .ok (.iconst 1, 1) := qd_o4 118 11 qd_g39 rfl
theorem dX0_draw_130 : decode cX0_draw 130 = .ok (.iadd, 1) := qd_o96 118 12 qd_g39 rfl
theorem dX0_draw_131 : decode cX0_draw 131 = .ok (.putfield 166, 3) := qd_o181 118 13 qd_g39 rfl rfl
theorem dX0_draw_134 : decode cX0_draw 134 = .ok (.return_, 1) := qd_o177 118 16 qd_g39 rfl
theorem qd_g40 : qd_bs cX0_countTimers 0 [42, 180, 0, 12, 180, 0, 81, 16, 16, 46, 60, 3, 61, 27, 4, 126, 4, 160, 0, 9, 42, 3, 182, 0, 169, 61, 27, 5, 126, 5, 160, 0, 19, 27, 7, 126, 153, 0, 7, 28] = true := by decide +kernel
theorem dX0_countTimers_0 : decode cX0_countTimers 0 = .ok (.aload_n 0, 1) := qd_o42 0 0 qd_g40 rfl
theorem dX0_countTimers_1 : decode cX0_countTimers 1 = .ok (.getfield 12, 3) := qd_o180 0 1 qd_g40 rfl rfl
theorem dX0_countTimers_4 : decode cX0_countTimers 4 = .ok (.getfield 81, 3) := qd_o180 0 4 qd_g40 rfl rfl
theorem dX0_countTimers_7 : decode cX0_countTimers 7 = .ok (.bipush 16, 2) := qd_o16 0 7 qd_g40 rfl rfl
theorem dX0_countTimers_9 : decode cX0_countTimers 9 = .ok (.iaload, 1) := qd_o46 0 9 qd_g40 rfl
theorem dX0_countTimers_10 : decode cX0_countTimers 10 = .ok (.istore_n 1, 1) := qd_o60 0 10 qd_g40 rfl
theorem dX0_countTimers_11 : decode cX0_countTimers 11 = .ok (.iconst 0, 1) := qd_o3 0 11 qd_g40 rfl
theorem dX0_countTimers_12 : decode cX0_countTimers 12 = .ok (.istore_n 2, 1) := qd_o61 0 12 qd_g40 rfl
theorem dX0_countTimers_13 : decode cX0_countTimers 13 = .ok (.iload_n 1, 1) := qd_o27 0 13 qd_g40 rfl
theorem dX0_countTimers_14 : decode cX0_countTimers 14 = .ok (.iconst 1, 1) := qd_o4 0 14 qd_g40 rfl
theorem dX0_countTimers_15 : decode cX0_countTimers 15 = .ok (.iand, 1) := qd_o126 0 15 qd_g40 rfl
theorem dX0_countTimers_16 : decode cX0_countTimers 16 = .ok (.iconst 1, 1) := qd_o4 0 16 qd_g40 rfl
theorem dX0_countTimers_17 : decode cX0_countTimers 17 = .ok (.if_icmp .ne 9, 3) := qd_o160 0 17 qd_g40 rfl rfl
theorem dX0_countTimers_20 : decode cX0_countTimers 20 = .ok (.aload_n 0, 1) := qd_o42 0 20 qd_g40 rfl
theorem dX0_countTimers_21 : decode cX0_countTimers 21 = .ok (.iconst 0, 1) := qd_o3 0 21 qd_g40 rfl
theorem dX0_countTimers_22 : decode cX0_countTimers 22 = .ok (.invokevirtual 169, 3) := qd_o182 0 22 qd_g40 rfl rfl
theorem dX0_countTimers_25 : decode cX0_countTimers 25 = .ok (.istore_n 2, 1) := qd_o61 0 25 qd_g40 rfl
theorem dX0_countTimers_26 : decode cX0_countTimers 26 = .ok (.iload_n 1, 1) := qd_o27 0 26 qd_g40 rfl
theorem dX0_countTimers_27 : decode cX0_countTimers 27 = .ok (.iconst 2, 1) := qd_o5 0 27 qd_g40 rfl
theorem dX0_countTimers_28 : decode cX0_countTimers 28 = .ok (.iand, 1) := qd_o126 0 28 qd_g40 rfl
theorem dX0_countTimers_29 : decode cX0_countTimers 29 = .ok (.iconst 2, 1) := qd_o5 0 29 qd_g40 rfl
theorem dX0_countTimers_30 : decode cX0_countTimers 30 = .ok (.if_icmp .ne 19, 3) := qd_o160 0 30 qd_g40 rfl rfl
theorem dX0_countTimers_33 : decode cX0_countTimers 33 = .ok (.iload_n 1, 1) := qd_o27 0 33 qd_g40 rfl
theorem dX0_countTimers_34 : decode cX0_countTimers 34 = .ok (.iconst 4, 1) := qd_o7 0 34 qd_g40 rfl
theorem dX0_countTimers_35 : decode cX0_countTimers 35 = .ok (.iand, 1) := qd_o126 0 35 qd_g40 rfl
theorem dX0_countTimers_36 : decode cX0_countTimers 36 = .ok (.ifCond .eq 7, 3) := qd_o153 0 36 qd_g40 rfl rfl
theorem dX0_countTimers_39 : decode cX0_countTimers 39 = .ok (.iload_n 2, 1) := qd_o28 0 39 qd_g40 rfl
theorem qd_g41 : qd_bs cX0_countTimers 40 [153, 0, 9, 42, 4, 182, 0, 169, 87, 177] = true := by decide +kernel
theorem dX0_countTimers_40 : decode cX0_countTimers 40 = .ok (.ifCond .eq 9, 3) := qd_o153 40 0 qd_g41 rfl rfl
theorem dX0_countTimers_43 : decode cX0_countTimers 43 = .ok (.aload_n 0, 1) := qd_o42 40 3 qd_g41 rfl
theorem dX0_countTimers_44 : decode cX0_countTimers 44 = .ok (.iconst 1, 1) := qd_o4 40 4 qd_g41 rfl
theorem dX0_countTimers_45 : decode cX0_countTimers 45 = .ok (.invokevirtual 169, 3) := qd_o182 40 5 qd_g41 rfl rfl
theorem dX0_countTimers_48 : decode cX0_countTimers 48 = .ok (.pop, 1) := qd_o87 40 8 qd_g41 rfl
theorem dX0_countTimers_49 : decode cX0_countTimers 49 = .ok (.return_, 1) := qd_o177 40 9 qd_g41 rfl
theorem qd_g42 : qd_bs cX0_countDown 0 [27, 4, 126, 61, 42, 180, 0, 25, 28, 46, 158, 0, 15, 42, 180, 0, 25, 28, 92, 46, 4, 100, 79, 3, 172, 42, 4, 28, 120, 182, 0, 111, 42, 180, 0, 12, 180, 0, 81] = true := by decide +kernel
theorem dX0_countDown_0 : decode cX0_countDown 0 = .ok (.iload_n 1, 1) := qd_o27 0 0 qd_g42 rfl
theorem dX0_countDown_1 : decode cX0_countDown 1 = .ok (.iconst 1, 1) := qd_o4 0 1 qd_g42 rfl
theorem dX0_countDown_2 : decode cX0_countDown 2 = .ok (.iand, 1) := qd_o126 0 2 qd_g42 rfl
theorem dX0_countDown_3 : decode cX0_countDown 3 = .ok (.istore_n 2, 1) := qd_o61 0 3 qd_g42 rfl
theorem dX0_countDown_4 : decode cX0_countDown 4 = .ok (.aload_n 0, 1) := qd_o42 0 4 qd_g42 rfl
theorem dX0_countDown_5 : decode cX0_countDown 5 = .ok (.getfield 25, 3) := qd_o180 0 5 qd_g42 rfl rfl
theorem dX0_countDown_8 : decode cX0_countDown 8 = .ok (.iload_n 2, 1) := qd_o28 0 8 qd_g42 rfl
theorem dX0_countDown_9 : decode cX0_countDown 9 = .ok (.iaload, 1) := qd_o46 0 9 qd_g42 rfl
theorem dX0_countDown_10 : decode cX0_countDown 10 = .ok (.ifCond .le 15, 3) := qd_o158 0 10 qd_g42 rfl rfl
theorem dX0_countDown_13 : decode cX0_countDown 13 = .ok (.aload_n 0, 1) := qd_o42 0 13 qd_g42 rfl
theorem dX0_countDown_14 : decode cX0_countDown 14 = .ok (.getfield 25, 3) := qd_o180 0 14 qd_g42 rfl rfl
theorem dX0_countDown_17 : decode cX0_countDown 17 = .ok (.iload_n 2, 1) := qd_o28 0 17 qd_g42 rfl
theorem dX0_countDown_18 : decode cX0_countDown 18 = .ok (.dup2, 1) := qd_o92 0 18 qd_g42 rfl
theorem dX0_countDown_19 : decode cX0_countDown 19 = .ok (.iaload, 1) := qd_o46 0 19 qd_g42 rfl
theorem dX0_countDown_20 : decode cX0_countDown 20 = .ok (.iconst 1, 1) := qd_o4 0 20 qd_g42 rfl
theorem dX0_countDown_21 : decode cX0_countDown 21 = .ok (.isub, 1) := qd_o100 0 21 qd_g42 rfl
theorem dX0_countDown_22 : decode cX0_countDown 22 = .ok (.iastore, 1) := qd_o79 0 22 qd_g42 rfl
theorem dX0_countDown_23 : decode cX0_countDown 23 = .ok (.iconst 0, 1) := qd_o3 0 23 qd_g42 rfl
theorem dX0_countDown_24 : decode cX0_countDown 24 = .ok (.ireturn, 1) := qd_o172 0 24 qd_g42 rfl
theorem dX0_countDown_25 : decode cX0_countDown 25 = .ok (.aload_n 0, 1) := qd_o42 0 25 qd_g42 rfl
theorem dX0_countDown_26 : decode cX0_countDown 26 = .ok (.iconst 1, 1) := qd_o4 0 26 qd_g42 rfl
theorem dX0_countDown_27 : decode cX0_countDown 27 = .ok (.iload_n 2, 1) := qd_o28 0 27 qd_g42 rfl
theorem dX0_countDown_28 : decode cX0_countDown 28 = .ok (.ishl, 1) := qd_o120 0 28 qd_g42 rfl
theorem dX0_countDown_29 : decode cX0_countDown 29 = .ok (.invokevirtual 111, 3) := qd_o182 0 29 qd_g42 rfl rfl
theorem dX0_countDown_32 : decode cX0_countDown 32 = .ok (.aload_n 0, 1) := qd_o42 0 32 qd_g42 rfl
theorem dX0_countDown_33 : decode cX0_countDown 33 = .ok (.getfield 12, 3) := qd_o180 0 33 qd_g42 rfl rfl
theorem dX0_countDown_36 : decode cX0_countDown 36 = .ok (.getfield 81, 3) := qd_o180 0 36 qd_g42 rfl rfl
theorem qd_g43 : qd_bs cX0_countDown 39 [16, 10, 92, 46, 5, 28, 120, 128, 79, 4, 172] = true := by decide +kernel
theorem dX0_countDown_39 : decode cX0_countDown 39 = .ok (.bipush 10, 2) := qd_o16 39 0 qd_g43 rfl rfl
theorem dX0_countDown_41 : decode cX0_countDown 41 = .ok (.dup2, 1) := qd_o92 39 2 qd_g43 rfl
theorem dX0_countDown_42 : decode cX0_countDown 42 = .ok (.iaload, 1) := qd_o46 39 3 qd_g43 rfl
theorem dX0_countDown_43 : decode cX0_countDown 43 = .ok (.iconst 2, 1) := qd_o5 39 4 qd_g43 rfl
theorem dX0_countDown_44 : decode cX0_countDown 44 = .ok (.iload_n 2, 1) := qd_o28 39 5 qd_g43 rfl
theorem dX0_countDown_45 : decode cX0_countDown 45 = .ok (.ishl, 1) := qd_o120 39 6 qd_g43 rfl
theorem dX0_countDown_46 : decode cX0_countDown 46 = .ok (.ior, 1) := qd_o128 39 7 qd_g43 rfl
theorem dX0_countDown_47 : decode cX0_countDown 47 = .ok (.iastore, 1) := qd_o79 39 8 qd_g43 rfl
theorem dX0_countDown_48 : decode cX0_countDown 48 = .ok (.iconst 1, 1) := qd_o4 39 9 qd_g43 rfl
theorem dX0_countDown_49 : decode cX0_countDown 49 = .ok (.ireturn, 1) := qd_o172 39 10 qd_g43 rfl
theorem qd_g44 : qd_bs cX0_moveTape 0 [42, 180, 0, 12, 180, 0, 81, 16, 44, 46, 4, 160, 0, 28, 42, 180, 0, 31, 182, 0, 173, 153, 0, 18, 42, 180, 0, 12, 180, 0, 81, 16, 10, 92, 46, 16, 8, 128, 79, 177] = true := by decide +kernel
theorem dX0_moveTape_0 : decode cX0_moveTape 0 = .ok (.aload_n 0, 1) := qd_o42 0 0 qd_g44 rfl
theorem dX0_moveTape_1 : decode cX0_moveTape 1 = .ok (.getfield 12, 3) := qd_o180 0 1 qd_g44 rfl rfl
theorem dX0_moveTape_4 : decode cX0_moveTape 4 = .ok (.getfield 81, 3) := qd_o180 0 4 qd_g44 rfl rfl
theorem dX0_moveTape_7 : decode cX0_moveTape 7 = .ok (.bipush 44, 2) := qd_o16 0 7 qd_g44 rfl rfl
theorem dX0_moveTape_9 : decode cX0_moveTape 9 = .ok (.iaload, 1) := qd_o46 0 9 qd_g44 rfl
theorem dX0_moveTape_10 : decode cX0_moveTape 10 = .ok (.iconst 1, 1) := qd_o4 0 10 qd_g44 rfl
theorem dX0_moveTape_11 : decode cX0_moveTape 11 = .ok (.if_icmp .ne 28, 3) := qd_o160 0 11 qd_g44 rfl rfl
theorem dX0_moveTape_14 : decode cX0_moveTape 14 = .ok (.aload_n 0, 1) := qd_o42 0 14 qd_g44 rfl
theorem dX0_moveTape_15 : decode cX0_moveTape 15 = .ok (.getfield 31, 3) := qd_o180 0 15 qd_g44 rfl rfl
theorem dX0_moveTape_18 : decode cX0_moveTape 18 = .ok (.invokevirtual 173, 3) := qd_o182 0 18 qd_g44 rfl rfl
theorem dX0_moveTape_21 : decode cX0_moveTape 21 = .ok (.ifCond .eq 18, 3) := qd_o153 0 21 qd_g44 rfl rfl
theorem dX0_moveTape_24 : decode cX0_moveTape 24 = .ok (.aload_n 0, 1) := qd_o42 0 24 qd_g44 rfl
theorem dX0_moveTape_25 : decode cX0_moveTape 25 = .ok (.getfield 12, 3) := qd_o180 0 25 qd_g44 rfl rfl
theorem dX0_moveTape_28 : decode cX0_moveTape 28 = .ok (.getfield 81, 3) := qd_o180 0 28 qd_g44 rfl rfl
theorem dX0_moveTape_31 : decode cX0_moveTape 31 = .ok (.bipush 10, 2) := qd_o16 0 31 qd_g44 rfl rfl
theorem dX0_moveTape_33 : decode cX0_moveTape 33 = .ok (.dup2, 1) := qd_o92 0 33 qd_g44 rfl
theorem dX0_moveTape_34 : decode cX0_moveTape 34 = .ok (.iaload, 1) := qd_o46 0 34 qd_g44 rfl
theorem dX0_moveTape_35 : decode cX0_moveTape 35 = .ok (.bipush 8, 2) := qd_o16 0 35 qd_g44 rfl rfl
theorem dX0_moveTape_37 : decode cX0_moveTape 37 = .ok (.ior, 1) := qd_o128 0 37 qd_g44 rfl
theorem dX0_moveTape_38 : decode cX0_moveTape 38 = .ok (.iastore, 1) := qd_o79 0 38 qd_g44 rfl
theorem dX0_moveTape_39 : decode cX0_moveTape 39 = .ok (.return_, 1) := qd_o177 0 39 qd_g44 rfl
theorem qd_g45 : qd_bs cX0_endCycle 0 [42, 89, 180, 0, 71, 10, 97, 181, 0, 71, 42, 180, 0, 71, 20, 0, 75, 113, 9, 148, 154, 0, 14, 42, 182, 0, 119, 42, 180, 0, 12, 182, 0, 177, 177] = true := by decide +kernel
theorem dX0_endCycle_0 : decode cX0_endCycle 0 = .ok (.aload_n 0, 1) := qd_o42 0 0 qd_g45 rfl
theorem dX0_endCycle_1 : decode cX0_endCycle 1 = .ok (.dup, 1) := qd_o89 0 1 qd_g45 rfl
theorem dX0_endCycle_2 : decode cX0_endCycle 2 = .ok (.getfield 71, 3) := qd_o180 0 2 qd_g45 rfl rfl
theorem dX0_endCycle_5 : decode cX0_endCycle 5 = .ok (.lconst 1, 1) := qd_o10 0 5 qd_g45 rfl
theorem dX0_endCycle_6 : decode cX0_endCycle 6 = .ok (.ladd, 1) := qd_o97 0 6 qd_g45 rfl
theorem dX0_endCycle_7 : decode cX0_endCycle 7 = .ok (.putfield 71, 3) := qd_o181 0 7 qd_g45 rfl rfl
theorem dX0_endCycle_10 : decode cX0_endCycle 10 = .ok (.aload_n 0, 1) := qd_o42 0 10 qd_g45 rfl
theorem dX0_endCycle_11 : decode cX0_endCycle 11 = .ok (.getfield 71, 3) := qd_o180 0 11 qd_g45 rfl rfl
theorem dX0_endCycle_14 : decode cX0_endCycle 14 = .ok (.ldc2_w 75, 3) := qd_o20 0 14 qd_g45 rfl rfl
theorem dX0_endCycle_17 : decode cX0_endCycle 17 = .ok (.lrem, 1) := qd_o113 0 17 qd_g45 rfl
theorem dX0_endCycle_18 : decode cX0_endCycle 18 = .ok (.lconst 0, 1) := qd_o9 0 18 qd_g45 rfl
theorem dX0_endCycle_19 : decode cX0_endCycle 19 = .ok (.lcmp, 1) := qd_o148 0 19 qd_g45 rfl
theorem dX0_endCycle_20 : decode cX0_endCycle 20 = .ok (.ifCond .ne 14, 3) := qd_o154 0 20 qd_g45 rfl rfl
theorem dX0_endCycle_23 : decode cX0_endCycle 23 = .ok (.aload_n 0, 1) := qd_o42 0 23 qd_g45 rfl
theorem dX0_endCycle_24 : decode cX0_endCycle 24 = .ok (.invokevirtual 119, 3) := qd_o182 0 24 qd_g45 rfl rfl
theorem dX0_endCycle_27 : decode cX0_endCycle 27 = .ok (.aload_n 0, 1) := qd_o42 0 27 qd_g45 rfl
theorem dX0_endCycle_28 : decode cX0_endCycle 28 = .ok (.getfield 12, 3) := qd_o180 0 28 qd_g45 rfl rfl
theorem dX0_endCycle_31 : decode cX0_endCycle 31 = .ok (.invokevirtual 177, 3) := qd_o182 0 31 qd_g45 rfl rfl
theorem dX0_endCycle_34 : decode cX0_endCycle 34 = .ok (.return_, 1) := qd_o177 0 34 qd_g45 rfl
theorem qd_g46 : qd_bs cX0_drawnAgain 0 [27, 5, 108, 7, 96, 54, 4, 16, 24, 28, 7, 96, 104, 21, 4, 96, 54, 5, 21, 5, 42, 182, 0, 119, 180, 0, 166, 162, 0, 10, 42, 182, 0, 119, 167, 0, 7, 42] = true := by decide +kernel
theorem dX0_drawnAgain_0 : decode cX0_drawnAgain 0 = .ok (.iload_n 1, 1) := qd_o27 0 0 qd_g46 rfl
theorem dX0_drawnAgain_1 : decode cX0_drawnAgain 1 = .ok (.iconst 2, 1) := qd_o5 0 1 qd_g46 rfl
theorem dX0_drawnAgain_2 : decode cX0_drawnAgain 2 = .ok (.idiv, 1) := qd_o108 0 2 qd_g46 rfl
theorem dX0_drawnAgain_3 : decode cX0_drawnAgain 3 = .ok (.iconst 4, 1) := qd_o7 0 3 qd_g46 rfl
theorem dX0_drawnAgain_4 : decode cX0_drawnAgain 4 = .ok (.iadd, 1) := qd_o96 0 4 qd_g46 rfl
theorem dX0_drawnAgain_5 : decode cX0_drawnAgain 5 = .ok (.istore 4, 2) := qd_o54 0 5 qd_g46 rfl rfl
theorem dX0_drawnAgain_7 : decode cX0_drawnAgain 7 = .ok (.bipush 24, 2) := qd_o16 0 7 qd_g46 rfl rfl
theorem dX0_drawnAgain_9 : decode cX0_drawnAgain 9 = .ok (.iload_n 2, 1) := qd_o28 0 9 qd_g46 rfl
theorem dX0_drawnAgain_10 : decode cX0_drawnAgain 10 = .ok (.iconst 4, 1) := qd_o7 0 10 qd_g46 rfl
theorem dX0_drawnAgain_11 : decode cX0_drawnAgain 11 = .ok (.iadd, 1) := qd_o96 0 11 qd_g46 rfl
theorem dX0_drawnAgain_12 : decode cX0_drawnAgain 12 = .ok (.imul, 1) := qd_o104 0 12 qd_g46 rfl
theorem dX0_drawnAgain_13 : decode cX0_drawnAgain 13 = .ok (.iload 4, 2) := qd_o21 0 13 qd_g46 rfl rfl
theorem dX0_drawnAgain_15 : decode cX0_drawnAgain 15 = .ok (.iadd, 1) := qd_o96 0 15 qd_g46 rfl
theorem dX0_drawnAgain_16 : decode cX0_drawnAgain 16 = .ok (.istore 5, 2) := qd_o54 0 16 qd_g46 rfl rfl
theorem dX0_drawnAgain_18 : decode cX0_drawnAgain 18 = .ok (.iload 5, 2) := qd_o21 0 18 qd_g46 rfl rfl
theorem dX0_drawnAgain_20 : decode cX0_drawnAgain 20 = .ok (.aload_n 0, 1) := qd_o42 0 20 qd_g46 rfl
theorem dX0_drawnAgain_21 : decode cX0_drawnAgain 21 = .ok (.invokevirtual 119, 3) := qd_o182 0 21 qd_g46 rfl rfl
theorem dX0_drawnAgain_24 : decode cX0_drawnAgain 24 = .ok (.getfield 166, 3) := qd_o180 0 24 qd_g46 rfl rfl
theorem dX0_drawnAgain_27 : decode cX0_drawnAgain 27 = .ok (.if_icmp .ge 10, 3) := qd_o162 0 27 qd_g46 rfl rfl
theorem dX0_drawnAgain_30 : decode cX0_drawnAgain 30 = .ok (.aload_n 0, 1) := qd_o42 0 30 qd_g46 rfl
theorem dX0_drawnAgain_31 : decode cX0_drawnAgain 31 = .ok (.invokevirtual 119, 3) := qd_o182 0 31 qd_g46 rfl rfl
theorem dX0_drawnAgain_34 : decode cX0_drawnAgain 34 = .ok (.goto 7, 3) := qd_o167 0 34 qd_g46 rfl rfl
theorem dX0_drawnAgain_37 : decode cX0_drawnAgain 37 = .ok (.aload_n 0, 1) := qd_o42 0 37 qd_g46 rfl
theorem qd_g47 : qd_bs cX0_drawnAgain 38 [182, 0, 180, 58, 6, 21, 5, 25, 6, 180, 0, 166, 161, 0, 5, 3, 172, 25, 6, 21, 5, 45, 182, 0, 183, 45, 45, 27, 28, 182, 0, 154, 45, 27, 28, 182, 0, 157] = true := by decide +kernel
theorem dX0_drawnAgain_38 : decode cX0_drawnAgain 38 = .ok (.invokevirtual 180, 3) := qd_o182 38 0 qd_g47 rfl rfl
theorem dX0_drawnAgain_41 : decode cX0_drawnAgain 41 = .ok (.astore 6, 2) := qd_o58 38 3 qd_g47 rfl rfl
theorem dX0_drawnAgain_43 : decode cX0_drawnAgain 43 = .ok (.iload 5, 2) := qd_o21 38 5 qd_g47 rfl rfl
theorem dX0_drawnAgain_45 : decode cX0_drawnAgain 45 = .ok (.aload 6, 2) := qd_o25 38 7 qd_g47 rfl rfl
theorem dX0_drawnAgain_47 : decode cX0_drawnAgain 47 = .ok (.getfield 166, 3) := qd_o180 38 9 qd_g47 rfl rfl
theorem dX0_drawnAgain_50 : decode cX0_drawnAgain 50 = .ok (.if_icmp .lt 5, 3) := qd_o161 38 12 qd_g47 rfl rfl
theorem dX0_drawnAgain_53 : decode cX0_drawnAgain 53 = .ok (.iconst 0, 1) := qd_o3 38 15 qd_g47 rfl
theorem dX0_drawnAgain_54 : decode cX0_drawnAgain 54 = .ok (.ireturn, 1) := qd_o172 38 16 qd_g47 rfl
theorem dX0_drawnAgain_55 : decode cX0_drawnAgain 55 = .ok (.aload 6, 2) := qd_o25 38 17 qd_g47 rfl rfl
theorem dX0_drawnAgain_57 : decode cX0_drawnAgain 57 = .ok (.iload 5, 2) := qd_o21 38 19 qd_g47 rfl rfl
theorem dX0_drawnAgain_59 : decode cX0_drawnAgain 59 = .ok (.aload_n 3, 1) := qd_o45 38 21 qd_g47 rfl
theorem dX0_drawnAgain_60 : decode cX0_drawnAgain 60 = .ok (.invokevirtual 183, 3) := qd_o182 38 22 qd_g47 rfl rfl
theorem dX0_drawnAgain_63 : decode cX0_drawnAgain 63 = .ok (.aload_n 3, 1) := qd_o45 38 25 qd_g47 rfl
theorem dX0_drawnAgain_64 : decode cX0_drawnAgain 64 = .ok (.aload_n 3, 1) := qd_o45 38 26 qd_g47 rfl
theorem dX0_drawnAgain_65 : decode cX0_drawnAgain 65 = .ok (.iload_n 1, 1) := qd_o27 38 27 qd_g47 rfl
theorem dX0_drawnAgain_66 : decode cX0_drawnAgain 66 = .ok (.iload_n 2, 1) := qd_o28 38 28 qd_g47 rfl
theorem dX0_drawnAgain_67 : decode cX0_drawnAgain 67 = .ok (.invokevirtual 154, 3) := qd_o182 38 29 qd_g47 rfl rfl
theorem dX0_drawnAgain_70 : decode cX0_drawnAgain 70 = .ok (.aload_n 3, 1) := qd_o45 38 32 qd_g47 rfl
theorem dX0_drawnAgain_71 : decode cX0_drawnAgain 71 = .ok (.iload_n 1, 1) := qd_o27 38 33 qd_g47 rfl
theorem dX0_drawnAgain_72 : decode cX0_drawnAgain 72 = .ok (.iload_n 2, 1) := qd_o28 38 34 qd_g47 rfl
theorem dX0_drawnAgain_73 : decode cX0_drawnAgain 73 = .ok (.invokevirtual 157, 3) := qd_o182 38 35 qd_g47 rfl rfl
theorem qd_g48 : qd_bs cX0_drawnAgain 76 [182, 0, 163, 172] = true := by decide +kernel
theorem dX0_drawnAgain_76 : decode cX0_drawnAgain 76 = .ok (.invokevirtual 163, 3) := qd_o182 76 0 qd_g48 rfl rfl
theorem dX0_drawnAgain_79 : decode cX0_drawnAgain 79 = .ok (.ireturn, 1) := qd_o172 76 3 qd_g48 rfl
theorem qd_g49 : qd_bs cX1_operationOf 0 [26, 17, 0, 128, 162, 0, 8, 26, 16, 8, 108, 172, 26, 17, 0, 192, 161, 0, 20, 26, 17, 0, 231, 163, 0, 13, 26, 16, 8, 108, 16, 8, 100, 167, 0, 4, 2, 172] = true := by decide +kernel
theorem dX1_operationOf_0 : decode cX1_operationOf 0 = .ok (.iload_n 0, 1) := qd_o26 0 0 qd_g49 rfl
theorem dX1_operationOf_1 : decode cX1_operationOf 1 = .ok (.sipush 128, 3) := qd_o17 0 1 qd_g49 rfl rfl
theorem dX1_operationOf_4 : decode cX1_operationOf 4 = .ok (.if_icmp .ge 8, 3) := qd_o162 0 4 qd_g49 rfl rfl
theorem dX1_operationOf_7 : decode cX1_operationOf 7 = .ok (.iload_n 0, 1) := qd_o26 0 7 qd_g49 rfl
theorem dX1_operationOf_8 : decode cX1_operationOf 8 = .ok (.bipush 8, 2) := qd_o16 0 8 qd_g49 rfl rfl
theorem dX1_operationOf_10 : decode cX1_operationOf 10 = .ok (.idiv, 1) := qd_o108 0 10 qd_g49 rfl
theorem dX1_operationOf_11 : decode cX1_operationOf 11 = .ok (.ireturn, 1) := qd_o172 0 11 qd_g49 rfl
theorem dX1_operationOf_12 : decode cX1_operationOf 12 = .ok (.iload_n 0, 1) := qd_o26 0 12 qd_g49 rfl
theorem dX1_operationOf_13 : decode cX1_operationOf 13 = .ok (.sipush 192, 3) := qd_o17 0 13 qd_g49 rfl rfl
theorem dX1_operationOf_16 : decode cX1_operationOf 16 = .ok (.if_icmp .lt 20, 3) := qd_o161 0 16 qd_g49 rfl rfl
theorem dX1_operationOf_19 : decode cX1_operationOf 19 = .ok (.iload_n 0, 1) := qd_o26 0 19 qd_g49 rfl
theorem dX1_operationOf_20 : decode cX1_operationOf 20 = .ok (.sipush 231, 3) := qd_o17 0 20 qd_g49 rfl rfl
theorem dX1_operationOf_23 : decode cX1_operationOf 23 = .ok (.if_icmp .gt 13, 3) := qd_o163 0 23 qd_g49 rfl rfl
theorem dX1_operationOf_26 : decode cX1_operationOf 26 = .ok (.iload_n 0, 1) := qd_o26 0 26 qd_g49 rfl
theorem dX1_operationOf_27 : decode cX1_operationOf 27 = .ok (.bipush 8, 2) := qd_o16 0 27 qd_g49 rfl rfl
theorem dX1_operationOf_29 : decode cX1_operationOf 29 = .ok (.idiv, 1) := qd_o108 0 29 qd_g49 rfl
theorem dX1_operationOf_30 : decode cX1_operationOf 30 = .ok (.bipush 8, 2) := qd_o16 0 30 qd_g49 rfl rfl
theorem dX1_operationOf_32 : decode cX1_operationOf 32 = .ok (.isub, 1) := qd_o100 0 32 qd_g49 rfl
theorem dX1_operationOf_33 : decode cX1_operationOf 33 = .ok (.goto 4, 3) := qd_o167 0 33 qd_g49 rfl rfl
theorem dX1_operationOf_36 : decode cX1_operationOf 36 = .ok (.iconst (-1), 1) := qd_o2 0 36 qd_g49 rfl
theorem dX1_operationOf_37 : decode cX1_operationOf 37 = .ok (.ireturn, 1) := qd_o172 0 37 qd_g49 rfl
theorem qd_g50 : qd_bs cX1_isBranch 0 [26, 17, 0, 160, 161, 0, 14, 26, 17, 0, 167, 163, 0, 7, 4, 167, 0, 4, 3, 172] = true := by decide +kernel
theorem dX1_isBranch_0 : decode cX1_isBranch 0 = .ok (.iload_n 0, 1) := qd_o26 0 0 qd_g50 rfl
theorem dX1_isBranch_1 : decode cX1_isBranch 1 = .ok (.sipush 160, 3) := qd_o17 0 1 qd_g50 rfl rfl
theorem dX1_isBranch_4 : decode cX1_isBranch 4 = .ok (.if_icmp .lt 14, 3) := qd_o161 0 4 qd_g50 rfl rfl
theorem dX1_isBranch_7 : decode cX1_isBranch 7 = .ok (.iload_n 0, 1) := qd_o26 0 7 qd_g50 rfl
theorem dX1_isBranch_8 : decode cX1_isBranch 8 = .ok (.sipush 167, 3) := qd_o17 0 8 qd_g50 rfl rfl
theorem dX1_isBranch_11 : decode cX1_isBranch 11 = .ok (.if_icmp .gt 7, 3) := qd_o163 0 11 qd_g50 rfl rfl
theorem dX1_isBranch_14 : decode cX1_isBranch 14 = .ok (.iconst 1, 1) := qd_o4 0 14 qd_g50 rfl
theorem dX1_isBranch_15 : decode cX1_isBranch 15 = .ok (.goto 4, 3) := qd_o167 0 15 qd_g50 rfl rfl
theorem dX1_isBranch_18 : decode cX1_isBranch 18 = .ok (.iconst 0, 1) := qd_o3 0 18 qd_g50 rfl
theorem dX1_isBranch_19 : decode cX1_isBranch 19 = .ok (.ireturn, 1) := qd_o172 0 19 qd_g50 rfl
theorem qd_g51 : qd_bs cX1_isWriting 0 [26, 6, 161, 0, 8, 26, 8, 164, 0, 16, 26, 16, 17, 159, 0, 10, 26, 184, 0, 11, 153, 0, 7, 4, 167, 0, 4, 3, 172] = true := by decide +kernel
theorem dX1_isWriting_0 : decode cX1_isWriting 0 = .ok (.iload_n 0, 1) := qd_o26 0 0 qd_g51 rfl
theorem dX1_isWriting_1 : decode cX1_isWriting 1 = .ok (.iconst 3, 1) := qd_o6 0 1 qd_g51 rfl
theorem dX1_isWriting_2 : decode cX1_isWriting 2 = .ok (.if_icmp .lt 8, 3) := qd_o161 0 2 qd_g51 rfl rfl
theorem dX1_isWriting_5 : decode cX1_isWriting 5 = .ok (.iload_n 0, 1) := qd_o26 0 5 qd_g51 rfl
theorem dX1_isWriting_6 : decode cX1_isWriting 6 = .ok (.iconst 5, 1) := qd_o8 0 6 qd_g51 rfl
theorem dX1_isWriting_7 : decode cX1_isWriting 7 = .ok (.if_icmp .le 16, 3) := qd_o164 0 7 qd_g51 rfl rfl
theorem dX1_isWriting_10 : decode cX1_isWriting 10 = .ok (.iload_n 0, 1) := qd_o26 0 10 qd_g51 rfl
theorem dX1_isWriting_11 : decode cX1_isWriting 11 = .ok (.bipush 17, 2) := qd_o16 0 11 qd_g51 rfl rfl
theorem dX1_isWriting_13 : decode cX1_isWriting 13 = .ok (.if_icmp .eq 10, 3) := qd_o159 0 13 qd_g51 rfl rfl
theorem dX1_isWriting_16 : decode cX1_isWriting 16 = .ok (.iload_n 0, 1) := qd_o26 0 16 qd_g51 rfl
theorem dX1_isWriting_17 : decode cX1_isWriting 17 = .ok (.invokestatic 11, 3) := qd_o184 0 17 qd_g51 rfl rfl
theorem dX1_isWriting_20 : decode cX1_isWriting 20 = .ok (.ifCond .eq 7, 3) := qd_o153 0 20 qd_g51 rfl rfl
theorem dX1_isWriting_23 : decode cX1_isWriting 23 = .ok (.iconst 1, 1) := qd_o4 0 23 qd_g51 rfl
theorem dX1_isWriting_24 : decode cX1_isWriting 24 = .ok (.goto 4, 3) := qd_o167 0 24 qd_g51 rfl rfl
theorem dX1_isWriting_27 : decode cX1_isWriting 27 = .ok (.iconst 0, 1) := qd_o3 0 27 qd_g51 rfl
theorem dX1_isWriting_28 : decode cX1_isWriting 28 = .ok (.ireturn, 1) := qd_o172 0 28 qd_g51 rfl
theorem qd_g52 : qd_bs cX1_isChanging 0 [26, 16, 14, 159, 0, 21, 26, 16, 15, 159, 0, 15, 26, 16, 18, 159, 0, 9, 26, 16, 19, 160, 0, 7, 4, 167, 0, 4, 3, 172] = true := by decide +kernel
theorem dX1_isChanging_0 : decode cX1_isChanging 0 = .ok (.iload_n 0, 1) := qd_o26 0 0 qd_g52 rfl
theorem dX1_isChanging_1 : decode cX1_isChanging 1 = .ok (.bipush 14, 2) := qd_o16 0 1 qd_g52 rfl rfl
theorem dX1_isChanging_3 : decode cX1_isChanging 3 = .ok (.if_icmp .eq 21, 3) := qd_o159 0 3 qd_g52 rfl rfl
theorem dX1_isChanging_6 : decode cX1_isChanging 6 = .ok (.iload_n 0, 1) := qd_o26 0 6 qd_g52 rfl
theorem dX1_isChanging_7 : decode cX1_isChanging 7 = .ok (.bipush 15, 2) := qd_o16 0 7 qd_g52 rfl rfl
theorem dX1_isChanging_9 : decode cX1_isChanging 9 = .ok (.if_icmp .eq 15, 3) := qd_o159 0 9 qd_g52 rfl rfl
theorem dX1_isChanging_12 : decode cX1_isChanging 12 = .ok (.iload_n 0, 1) := qd_o26 0 12 qd_g52 rfl
theorem dX1_isChanging_13 : decode cX1_isChanging 13 = .ok (.bipush 18, 2) := qd_o16 0 13 qd_g52 rfl rfl
theorem dX1_isChanging_15 : decode cX1_isChanging 15 = .ok (.if_icmp .eq 9, 3) := qd_o159 0 15 qd_g52 rfl rfl
theorem dX1_isChanging_18 : decode cX1_isChanging 18 = .ok (.iload_n 0, 1) := qd_o26 0 18 qd_g52 rfl
theorem dX1_isChanging_19 : decode cX1_isChanging 19 = .ok (.bipush 19, 2) := qd_o16 0 19 qd_g52 rfl rfl
theorem dX1_isChanging_21 : decode cX1_isChanging 21 = .ok (.if_icmp .ne 7, 3) := qd_o160 0 21 qd_g52 rfl rfl
theorem dX1_isChanging_24 : decode cX1_isChanging 24 = .ok (.iconst 1, 1) := qd_o4 0 24 qd_g52 rfl
theorem dX1_isChanging_25 : decode cX1_isChanging 25 = .ok (.goto 4, 3) := qd_o167 0 25 qd_g52 rfl rfl
theorem dX1_isChanging_28 : decode cX1_isChanging 28 = .ok (.iconst 0, 1) := qd_o3 0 28 qd_g52 rfl
theorem dX1_isChanging_29 : decode cX1_isChanging 29 = .ok (.ireturn, 1) := qd_o172 0 29 qd_g52 rfl
theorem qd_g53 : qd_bs cX1_lengthOf 0 [26, 184, 0, 15, 155, 0, 24, 26, 16, 7, 126, 60, 27, 6, 161, 0, 12, 27, 8, 163, 0, 7, 6, 167, 0, 4, 5, 172, 26, 17, 0, 157, 161, 0, 10, 26, 17, 0, 167] = true := by decide +kernel
theorem dX1_lengthOf_0 : decode cX1_lengthOf 0 = .ok (.iload_n 0, 1) := qd_o26 0 0 qd_g53 rfl
theorem dX1_lengthOf_1 : decode cX1_lengthOf 1 = .ok (.invokestatic 15, 3) := qd_o184 0 1 qd_g53 rfl rfl
theorem dX1_lengthOf_4 : decode cX1_lengthOf 4 = .ok (.ifCond .lt 24, 3) := qd_o155 0 4 qd_g53 rfl rfl
theorem dX1_lengthOf_7 : decode cX1_lengthOf 7 = .ok (.iload_n 0, 1) := qd_o26 0 7 qd_g53 rfl
theorem dX1_lengthOf_8 : decode cX1_lengthOf 8 = .ok (.bipush 7, 2) := qd_o16 0 8 qd_g53 rfl rfl
theorem dX1_lengthOf_10 : decode cX1_lengthOf 10 = .ok (.iand, 1) := qd_o126 0 10 qd_g53 rfl
theorem dX1_lengthOf_11 : decode cX1_lengthOf 11 = .ok (.istore_n 1, 1) := qd_o60 0 11 qd_g53 rfl
theorem dX1_lengthOf_12 : decode cX1_lengthOf 12 = .ok (.iload_n 1, 1) := qd_o27 0 12 qd_g53 rfl
theorem dX1_lengthOf_13 : decode cX1_lengthOf 13 = .ok (.iconst 3, 1) := qd_o6 0 13 qd_g53 rfl
theorem dX1_lengthOf_14 : decode cX1_lengthOf 14 = .ok (.if_icmp .lt 12, 3) := qd_o161 0 14 qd_g53 rfl rfl
theorem dX1_lengthOf_17 : decode cX1_lengthOf 17 = .ok (.iload_n 1, 1) := qd_o27 0 17 qd_g53 rfl
theorem dX1_lengthOf_18 : decode cX1_lengthOf 18 = .ok (.iconst 5, 1) := qd_o8 0 18 qd_g53 rfl
theorem dX1_lengthOf_19 : decode cX1_lengthOf 19 = .ok (.if_icmp .gt 7, 3) := qd_o163 0 19 qd_g53 rfl rfl
theorem dX1_lengthOf_22 : decode cX1_lengthOf 22 = .ok (.iconst 3, 1) := qd_o6 0 22 qd_g53 rfl
theorem dX1_lengthOf_23 : decode cX1_lengthOf 23 = .ok (.goto 4, 3) := qd_o167 0 23 qd_g53 rfl rfl
theorem dX1_lengthOf_26 : decode cX1_lengthOf 26 = .ok (.iconst 2, 1) := qd_o5 0 26 qd_g53 rfl
theorem dX1_lengthOf_27 : decode cX1_lengthOf 27 = .ok (.ireturn, 1) := qd_o172 0 27 qd_g53 rfl
theorem dX1_lengthOf_28 : decode cX1_lengthOf 28 = .ok (.iload_n 0, 1) := qd_o26 0 28 qd_g53 rfl
theorem dX1_lengthOf_29 : decode cX1_lengthOf 29 = .ok (.sipush 157, 3) := qd_o17 0 29 qd_g53 rfl rfl
theorem dX1_lengthOf_32 : decode cX1_lengthOf 32 = .ok (.if_icmp .lt 10, 3) := qd_o161 0 32 qd_g53 rfl rfl
theorem dX1_lengthOf_35 : decode cX1_lengthOf 35 = .ok (.iload_n 0, 1) := qd_o26 0 35 qd_g53 rfl
theorem dX1_lengthOf_36 : decode cX1_lengthOf 36 = .ok (.sipush 167, 3) := qd_o17 0 36 qd_g53 rfl rfl
theorem qd_g54 : qd_bs cX1_lengthOf 39 [164, 0, 5, 4, 172, 26, 17, 0, 160, 162, 0, 7, 6, 167, 0, 4, 5, 172] = true := by decide +kernel
theorem dX1_lengthOf_39 : decode cX1_lengthOf 39 = .ok (.if_icmp .le 5, 3) := qd_o164 39 0 qd_g54 rfl rfl
theorem dX1_lengthOf_42 : decode cX1_lengthOf 42 = .ok (.iconst 1, 1) := qd_o4 39 3 qd_g54 rfl
theorem dX1_lengthOf_43 : decode cX1_lengthOf 43 = .ok (.ireturn, 1) := qd_o172 39 4 qd_g54 rfl
theorem dX1_lengthOf_44 : decode cX1_lengthOf 44 = .ok (.iload_n 0, 1) := qd_o26 39 5 qd_g54 rfl
theorem dX1_lengthOf_45 : decode cX1_lengthOf 45 = .ok (.sipush 160, 3) := qd_o17 39 6 qd_g54 rfl rfl
theorem dX1_lengthOf_48 : decode cX1_lengthOf 48 = .ok (.if_icmp .ge 7, 3) := qd_o162 39 9 qd_g54 rfl rfl
theorem dX1_lengthOf_51 : decode cX1_lengthOf 51 = .ok (.iconst 3, 1) := qd_o6 39 12 qd_g54 rfl
theorem dX1_lengthOf_52 : decode cX1_lengthOf 52 = .ok (.goto 4, 3) := qd_o167 39 13 qd_g54 rfl rfl
theorem dX1_lengthOf_55 : decode cX1_lengthOf 55 = .ok (.iconst 2, 1) := qd_o5 39 16 qd_g54 rfl
theorem dX1_lengthOf_56 : decode cX1_lengthOf 56 = .ok (.ireturn, 1) := qd_o172 39 17 qd_g54 rfl
theorem qd_g55 : qd_bs cX1_cyclesOfMode 0 [178, 0, 19, 26, 16, 7, 126, 46, 172] = true := by decide +kernel
theorem dX1_cyclesOfMode_0 : decode cX1_cyclesOfMode 0 = .ok (.getstatic 19, 3) := qd_o178 0 0 qd_g55 rfl rfl
theorem dX1_cyclesOfMode_3 : decode cX1_cyclesOfMode 3 = .ok (.iload_n 0, 1) := qd_o26 0 3 qd_g55 rfl
theorem dX1_cyclesOfMode_4 : decode cX1_cyclesOfMode 4 = .ok (.bipush 7, 2) := qd_o16 0 4 qd_g55 rfl rfl
theorem dX1_cyclesOfMode_6 : decode cX1_cyclesOfMode 6 = .ok (.iand, 1) := qd_o126 0 6 qd_g55 rfl
theorem dX1_cyclesOfMode_7 : decode cX1_cyclesOfMode 7 = .ok (.iaload, 1) := qd_o46 0 7 qd_g55 rfl
theorem dX1_cyclesOfMode_8 : decode cX1_cyclesOfMode 8 = .ok (.ireturn, 1) := qd_o172 0 8 qd_g55 rfl
theorem qd_g56 : qd_bs cX1_cyclesOf 0 [26, 17, 0, 128, 100, 60, 27, 155, 0, 19, 27, 178, 0, 23, 190, 162, 0, 11, 178, 0, 23, 27, 46, 167, 0, 4, 5, 172] = true := by decide +kernel
theorem dX1_cyclesOf_0 : decode cX1_cyclesOf 0 = .ok (.iload_n 0, 1) := qd_o26 0 0 qd_g56 rfl
theorem dX1_cyclesOf_1 : decode cX1_cyclesOf 1 = .ok (.sipush 128, 3) := qd_o17 0 1 qd_g56 rfl rfl
theorem dX1_cyclesOf_4 : decode cX1_cyclesOf 4 = .ok (.isub, 1) := qd_o100 0 4 qd_g56 rfl
theorem dX1_cyclesOf_5 : decode cX1_cyclesOf 5 = .ok (.istore_n 1, 1) := qd_o60 0 5 qd_g56 rfl
theorem dX1_cyclesOf_6 : decode cX1_cyclesOf 6 = .ok (.iload_n 1, 1) := qd_o27 0 6 qd_g56 rfl
theorem dX1_cyclesOf_7 : decode cX1_cyclesOf 7 = .ok (.ifCond .lt 19, 3) := qd_o155 0 7 qd_g56 rfl rfl
theorem dX1_cyclesOf_10 : decode cX1_cyclesOf 10 = .ok (.iload_n 1, 1) := qd_o27 0 10 qd_g56 rfl
theorem dX1_cyclesOf_11 : decode cX1_cyclesOf 11 = .ok (.getstatic 23, 3) := qd_o178 0 11 qd_g56 rfl rfl
theorem dX1_cyclesOf_14 : decode cX1_cyclesOf 14 = .ok (.arraylength, 1) := qd_o190 0 14 qd_g56 rfl
theorem dX1_cyclesOf_15 : decode cX1_cyclesOf 15 = .ok (.if_icmp .ge 11, 3) := qd_o162 0 15 qd_g56 rfl rfl
theorem dX1_cyclesOf_18 : decode cX1_cyclesOf 18 = .ok (.getstatic 23, 3) := qd_o178 0 18 qd_g56 rfl rfl
theorem dX1_cyclesOf_21 : decode cX1_cyclesOf 21 = .ok (.iload_n 1, 1) := qd_o27 0 21 qd_g56 rfl
theorem dX1_cyclesOf_22 : decode cX1_cyclesOf 22 = .ok (.iaload, 1) := qd_o46 0 22 qd_g56 rfl
theorem dX1_cyclesOf_23 : decode cX1_cyclesOf 23 = .ok (.goto 4, 3) := qd_o167 0 23 qd_g56 rfl rfl
theorem dX1_cyclesOf_26 : decode cX1_cyclesOf 26 = .ok (.iconst 2, 1) := qd_o5 0 26 qd_g56 rfl
theorem dX1_cyclesOf_27 : decode cX1_cyclesOf 27 = .ok (.ireturn, 1) := qd_o172 0 27 qd_g56 rfl
theorem qd_g57 : qd_bs cX1_targetOf 0 [26, 5, 96, 27, 16, 127, 164, 0, 11, 27, 17, 1, 0, 100, 167, 0, 4, 27, 96, 17, 15, 255, 126, 172] = true := by decide +kernel
theorem dX1_targetOf_0 : decode cX1_targetOf 0 = .ok (.iload_n 0, 1) := qd_o26 0 0 qd_g57 rfl
theorem dX1_targetOf_1 : decode cX1_targetOf 1 = .ok (.iconst 2, 1) := qd_o5 0 1 qd_g57 rfl
theorem dX1_targetOf_2 : decode cX1_targetOf 2 = .ok (.iadd, 1) := qd_o96 0 2 qd_g57 rfl
theorem dX1_targetOf_3 : decode cX1_targetOf 3 = .ok (.iload_n 1, 1) := qd_o27 0 3 qd_g57 rfl
theorem dX1_targetOf_4 : decode cX1_targetOf 4 = .ok (.bipush 127, 2) := qd_o16 0 4 qd_g57 rfl rfl
theorem dX1_targetOf_6 : decode cX1_targetOf 6 = .ok (.if_icmp .le 11, 3) := qd_o164 0 6 qd_g57 rfl rfl
theorem dX1_targetOf_9 : decode cX1_targetOf 9 = .ok (.iload_n 1, 1) := qd_o27 0 9 qd_g57 rfl
theorem dX1_targetOf_10 : decode cX1_targetOf 10 = .ok (.sipush 256, 3) := qd_o17 0 10 qd_g57 rfl rfl
theorem dX1_targetOf_13 : decode cX1_targetOf 13 = .ok (.isub, 1) := qd_o100 0 13 qd_g57 rfl
theorem dX1_targetOf_14 : decode cX1_targetOf 14 = .ok (.goto 4, 3) := qd_o167 0 14 qd_g57 rfl rfl
theorem dX1_targetOf_17 : decode cX1_targetOf 17 = .ok (.iload_n 1, 1) := qd_o27 0 17 qd_g57 rfl
theorem dX1_targetOf_18 : decode cX1_targetOf 18 = .ok (.iadd, 1) := qd_o96 0 18 qd_g57 rfl
theorem dX1_targetOf_19 : decode cX1_targetOf 19 = .ok (.sipush 4095, 3) := qd_o17 0 19 qd_g57 rfl rfl
theorem dX1_targetOf_22 : decode cX1_targetOf 22 = .ok (.iand, 1) := qd_o126 0 22 qd_g57 rfl
theorem dX1_targetOf_23 : decode cX1_targetOf 23 = .ok (.ireturn, 1) := qd_o172 0 23 qd_g57 rfl
theorem qd_g58 : qd_bs cX1_appendName 0 [27, 184, 0, 15, 61, 28, 155, 0, 8, 18, 26, 167, 0, 5, 18, 28, 78, 6, 28, 155, 0, 7, 28, 167, 0, 8, 27, 17, 0, 128, 100, 104, 54, 4, 21, 4, 155, 0, 14] = true := by decide +kernel
theorem dX1_appendName_0 : decode cX1_appendName 0 = .ok (.iload_n 1, 1) := qd_o27 0 0 qd_g58 rfl
theorem dX1_appendName_1 : decode cX1_appendName 1 = .ok (.invokestatic 15, 3) := qd_o184 0 1 qd_g58 rfl rfl
theorem dX1_appendName_4 : decode cX1_appendName 4 = .ok (.istore_n 2, 1) := qd_o61 0 4 qd_g58 rfl
theorem dX1_appendName_5 : decode cX1_appendName 5 = .ok (.iload_n 2, 1) := qd_o28 0 5 qd_g58 rfl
theorem dX1_appendName_6 : decode cX1_appendName 6 = .ok (.ifCond .lt 8, 3) := qd_o155 0 6 qd_g58 rfl rfl
theorem dX1_appendName_9 : decode cX1_appendName 9 = .ok (.ldc 26, 2) := qd_o18 0 9 qd_g58 rfl rfl
theorem dX1_appendName_11 : decode cX1_appendName 11 = .ok (.goto 5, 3) := qd_o167 0 11 qd_g58 rfl rfl
theorem dX1_appendName_14 : decode cX1_appendName 14 = .ok (.ldc 28, 2) := qd_o18 0 14 qd_g58 rfl rfl
theorem dX1_appendName_16 : decode cX1_appendName 16 = .ok (.astore_n 3, 1) := qd_o78 0 16 qd_g58 rfl
theorem dX1_appendName_17 : decode cX1_appendName 17 = .ok (.iconst 3, 1) := qd_o6 0 17 qd_g58 rfl
theorem dX1_appendName_18 : decode cX1_appendName 18 = .ok (.iload_n 2, 1) := qd_o28 0 18 qd_g58 rfl
theorem dX1_appendName_19 : decode cX1_appendName 19 = .ok (.ifCond .lt 7, 3) := qd_o155 0 19 qd_g58 rfl rfl
theorem dX1_appendName_22 : decode cX1_appendName 22 = .ok (.iload_n 2, 1) := qd_o28 0 22 qd_g58 rfl
theorem dX1_appendName_23 : decode cX1_appendName 23 = .ok (.goto 8, 3) := qd_o167 0 23 qd_g58 rfl rfl
theorem dX1_appendName_26 : decode cX1_appendName 26 = .ok (.iload_n 1, 1) := qd_o27 0 26 qd_g58 rfl
theorem dX1_appendName_27 : decode cX1_appendName 27 = .ok (.sipush 128, 3) := qd_o17 0 27 qd_g58 rfl rfl
theorem dX1_appendName_30 : decode cX1_appendName 30 = .ok (.isub, 1) := qd_o100 0 30 qd_g58 rfl
theorem dX1_appendName_31 : decode cX1_appendName 31 = .ok (.imul, 1) := qd_o104 0 31 qd_g58 rfl
theorem dX1_appendName_32 : decode cX1_appendName 32 = .ok (.istore 4, 2) := qd_o54 0 32 qd_g58 rfl rfl
theorem dX1_appendName_34 : decode cX1_appendName 34 = .ok (.iload 4, 2) := qd_o21 0 34 qd_g58 rfl rfl
theorem dX1_appendName_36 : decode cX1_appendName 36 = .ok (.ifCond .lt 14, 3) := qd_o155 0 36 qd_g58 rfl rfl
theorem qd_g59 : qd_bs cX1_appendName 39 [21, 4, 5, 96, 45, 182, 0, 30, 161, 0, 11, 42, 18, 36, 182, 0, 38, 87, 177, 21, 4, 54, 5, 21, 5, 21, 4, 5, 96, 163, 0, 20, 42, 45, 21, 5, 182, 0, 44] = true := by decide +kernel
theorem dX1_appendName_39 : decode cX1_appendName 39 = .ok (.iload 4, 2) := qd_o21 39 0 qd_g59 rfl rfl
theorem dX1_appendName_41 : decode cX1_appendName 41 = .ok (.iconst 2, 1) := qd_o5 39 2 qd_g59 rfl
theorem dX1_appendName_42 : decode cX1_appendName 42 = .ok (.iadd, 1) := qd_o96 39 3 qd_g59 rfl
theorem dX1_appendName_43 : decode cX1_appendName 43 = .ok (.aload_n 3, 1) := qd_o45 39 4 qd_g59 rfl
theorem dX1_appendName_44 : decode cX1_appendName 44 = .ok (.invokevirtual 30, 3) := qd_o182 39 5 qd_g59 rfl rfl
theorem dX1_appendName_47 : decode cX1_appendName 47 = .ok (.if_icmp .lt 11, 3) := qd_o161 39 8 qd_g59 rfl rfl
theorem dX1_appendName_50 : decode cX1_appendName 50 = .ok (.aload_n 0, 1) := qd_o42 39 11 qd_g59 rfl
theorem dX1_appendName_51 : decode cX1_appendName 51 = .ok (.ldc 36, 2) := qd_o18 39 12 qd_g59 rfl rfl
theorem dX1_appendName_53 : decode cX1_appendName 53 = .ok (.invokevirtual 38, 3) := qd_o182 39 14 qd_g59 rfl rfl
theorem dX1_appendName_56 : decode cX1_appendName 56 = .ok (.pop, 1) := qd_o87 39 17 qd_g59 rfl
theorem dX1_appendName_57 : decode cX1_appendName 57 = .ok (.return_, 1) := qd_o177 39 18 qd_g59 rfl
theorem dX1_appendName_58 : decode cX1_appendName 58 = .ok (.iload 4, 2) := qd_o21 39 19 qd_g59 rfl rfl
theorem dX1_appendName_60 : decode cX1_appendName 60 = .ok (.istore 5, 2) := qd_o54 39 21 qd_g59 rfl rfl
theorem dX1_appendName_62 : decode cX1_appendName 62 = .ok (.iload 5, 2) := qd_o21 39 23 qd_g59 rfl rfl
theorem dX1_appendName_64 : decode cX1_appendName 64 = .ok (.iload 4, 2) := qd_o21 39 25 qd_g59 rfl rfl
theorem dX1_appendName_66 : decode cX1_appendName 66 = .ok (.iconst 2, 1) := qd_o5 39 27 qd_g59 rfl
theorem dX1_appendName_67 : decode cX1_appendName 67 = .ok (.iadd, 1) := qd_o96 39 28 qd_g59 rfl
theorem dX1_appendName_68 : decode cX1_appendName 68 = .ok (.if_icmp .gt 20, 3) := qd_o163 39 29 qd_g59 rfl rfl
theorem dX1_appendName_71 : decode cX1_appendName 71 = .ok (.aload_n 0, 1) := qd_o42 39 32 qd_g59 rfl
theorem dX1_appendName_72 : decode cX1_appendName 72 = .ok (.aload_n 3, 1) := qd_o45 39 33 qd_g59 rfl
theorem dX1_appendName_73 : decode cX1_appendName 73 = .ok (.iload 5, 2) := qd_o21 39 34 qd_g59 rfl rfl
theorem dX1_appendName_75 : decode cX1_appendName 75 = .ok (.invokevirtual 44, 3) := qd_o182 39 36 qd_g59 rfl rfl
theorem qd_g60 : qd_bs cX1_appendName 78 [182, 0, 48, 87, 132, 5, 1, 167, 255, 233, 177] = true := by decide +kernel
theorem dX1_appendName_78 : decode cX1_appendName 78 = .ok (.invokevirtual 48, 3) := qd_o182 78 0 qd_g60 rfl rfl
theorem dX1_appendName_81 : decode cX1_appendName 81 = .ok (.pop, 1) := qd_o87 78 3 qd_g60 rfl
theorem dX1_appendName_82 : decode cX1_appendName 82 = .ok (.iinc 5 1, 3) := qd_o132 78 4 qd_g60 rfl rfl
theorem dX1_appendName_85 : decode cX1_appendName 85 = .ok (.goto (-23), 3) := qd_o167 78 7 qd_g60 rfl rfl
theorem dX1_appendName_88 : decode cX1_appendName 88 = .ok (.return_, 1) := qd_o177 78 10 qd_g60 rfl
theorem qd_g61 : qd_bs cX2_init 0 [42, 183, 0, 3, 42, 187, 0, 9, 89, 183, 0, 11, 181, 0, 12, 42, 17, 12, 0] = true := by decide +kernel
theorem dX2_init_0 : decode cX2_init 0 = .ok (.aload_n 0, 1) := qd_o42 0 0 qd_g61 rfl
theorem dX2_init_1 : decode cX2_init 1 = .ok (.invokespecial 3, 3) := qd_o183 0 1 qd_g61 rfl rfl
theorem dX2_init_4 : decode cX2_init 4 = .ok (.aload_n 0, 1) := qd_o42 0 4 qd_g61 rfl
theorem dX2_init_5 : decode cX2_init 5 = .ok (.new 9, 3) := qd_o187 0 5 qd_g61 rfl rfl
theorem dX2_init_8 : decode cX2_init 8 = .ok (.dup, 1) := qd_o89 0 8 qd_g61 rfl
theorem dX2_init_9 : decode cX2_init 9 = .ok (.invokespecial 11, 3) := qd_o183 0 9 qd_g61 rfl rfl
theorem dX2_init_12 : decode cX2_init 12 = .ok (.putfield 12, 3) := qd_o181 0 12 qd_g61 rfl rfl
theorem dX2_init_15 : decode cX2_init 15 = .ok (.aload_n 0, 1) := qd_o42 0 15 qd_g61 rfl
theorem dX2_init_16 : decode cX2_init 16 = .ok (.sipush 3072, 3) := qd_o17 0 16 qd_g61 rfl rfl
theorem dX2_init_19 : decode cX2_init 19 = .ok (.newarray .int, 2) := by decide +kernel
theorem qd_g62 : qd_bs cX2_init 21 [181, 0, 18, 177] = true := by decide +kernel
theorem dX2_init_21 : decode cX2_init 21 = .ok (.putfield 18, 3) := qd_o181 21 0 qd_g62 rfl rfl
theorem dX2_init_24 : decode cX2_init 24 = .ok (.return_, 1) := qd_o177 21 3 qd_g62 rfl
theorem qd_g63 : qd_bs cX2_become 0 [42, 180, 0, 12, 43, 180, 0, 12, 182, 0, 22, 43, 180, 0, 18, 3, 42, 180, 0, 18, 3, 17, 12, 0, 184, 0, 26, 42, 43, 180, 0, 32, 181, 0, 32, 42, 43, 180, 0, 36] = true := by decide +kernel
theorem dX2_become_0 : decode cX2_become 0 = .ok (.aload_n 0, 1) := qd_o42 0 0 qd_g63 rfl
theorem dX2_become_1 : decode cX2_become 1 = .ok (.getfield 12, 3) := qd_o180 0 1 qd_g63 rfl rfl
theorem dX2_become_4 : decode cX2_become 4 = .ok (.aload_n 1, 1) := qd_o43 0 4 qd_g63 rfl
theorem dX2_become_5 : decode cX2_become 5 = .ok (.getfield 12, 3) := qd_o180 0 5 qd_g63 rfl rfl
theorem dX2_become_8 : decode cX2_become 8 = .ok (.invokevirtual 22, 3) := qd_o182 0 8 qd_g63 rfl rfl
theorem dX2_become_11 : decode cX2_become 11 = .ok (.aload_n 1, 1) := qd_o43 0 11 qd_g63 rfl
theorem dX2_become_12 : decode cX2_become 12 = .ok (.getfield 18, 3) := qd_o180 0 12 qd_g63 rfl rfl
theorem dX2_become_15 : decode cX2_become 15 = .ok (.iconst 0, 1) := qd_o3 0 15 qd_g63 rfl
theorem dX2_become_16 : decode cX2_become 16 = .ok (.aload_n 0, 1) := qd_o42 0 16 qd_g63 rfl
theorem dX2_become_17 : decode cX2_become 17 = .ok (.getfield 18, 3) := qd_o180 0 17 qd_g63 rfl rfl
theorem dX2_become_20 : decode cX2_become 20 = .ok (.iconst 0, 1) := qd_o3 0 20 qd_g63 rfl
theorem dX2_become_21 : decode cX2_become 21 = .ok (.sipush 3072, 3) := qd_o17 0 21 qd_g63 rfl rfl
theorem dX2_become_24 : decode cX2_become 24 = .ok (.invokestatic 26, 3) := qd_o184 0 24 qd_g63 rfl rfl
theorem dX2_become_27 : decode cX2_become 27 = .ok (.aload_n 0, 1) := qd_o42 0 27 qd_g63 rfl
theorem dX2_become_28 : decode cX2_become 28 = .ok (.aload_n 1, 1) := qd_o43 0 28 qd_g63 rfl
theorem dX2_become_29 : decode cX2_become 29 = .ok (.getfield 32, 3) := qd_o180 0 29 qd_g63 rfl rfl
theorem dX2_become_32 : decode cX2_become 32 = .ok (.putfield 32, 3) := qd_o181 0 32 qd_g63 rfl rfl
theorem dX2_become_35 : decode cX2_become 35 = .ok (.aload_n 0, 1) := qd_o42 0 35 qd_g63 rfl
theorem dX2_become_36 : decode cX2_become 36 = .ok (.aload_n 1, 1) := qd_o43 0 36 qd_g63 rfl
theorem dX2_become_37 : decode cX2_become 37 = .ok (.getfield 36, 3) := qd_o180 0 37 qd_g63 rfl rfl
theorem qd_g64 : qd_bs cX2_become 40 [181, 0, 36, 177] = true := by decide +kernel
theorem dX2_become_40 : decode cX2_become 40 = .ok (.putfield 36, 3) := qd_o181 40 0 qd_g64 rfl rfl
theorem dX2_become_43 : decode cX2_become 43 = .ok (.return_, 1) := qd_o177 40 3 qd_g64 rfl
theorem qd_g65 : qd_bs cX2_begin 0 [42, 180, 0, 12, 43, 182, 0, 22, 42, 3, 181, 0, 32, 42, 3, 181, 0, 36, 177] = true := by decide +kernel
theorem dX2_begin_0 : decode cX2_begin 0 = .ok (.aload_n 0, 1) := qd_o42 0 0 qd_g65 rfl
theorem dX2_begin_1 : decode cX2_begin 1 = .ok (.getfield 12, 3) := qd_o180 0 1 qd_g65 rfl rfl
theorem dX2_begin_4 : decode cX2_begin 4 = .ok (.aload_n 1, 1) := qd_o43 0 4 qd_g65 rfl
theorem dX2_begin_5 : decode cX2_begin 5 = .ok (.invokevirtual 22, 3) := qd_o182 0 5 qd_g65 rfl rfl
theorem dX2_begin_8 : decode cX2_begin 8 = .ok (.aload_n 0, 1) := qd_o42 0 8 qd_g65 rfl
theorem dX2_begin_9 : decode cX2_begin 9 = .ok (.iconst 0, 1) := qd_o3 0 9 qd_g65 rfl
theorem dX2_begin_10 : decode cX2_begin 10 = .ok (.putfield 32, 3) := qd_o181 0 10 qd_g65 rfl rfl
theorem dX2_begin_13 : decode cX2_begin 13 = .ok (.aload_n 0, 1) := qd_o42 0 13 qd_g65 rfl
theorem dX2_begin_14 : decode cX2_begin 14 = .ok (.iconst 0, 1) := qd_o3 0 14 qd_g65 rfl
theorem dX2_begin_15 : decode cX2_begin 15 = .ok (.putfield 36, 3) := qd_o181 0 15 qd_g65 rfl rfl
theorem dX2_begin_18 : decode cX2_begin 18 = .ok (.return_, 1) := qd_o177 0 18 qd_g65 rfl
theorem qd_g66 : qd_bs cX2_keep 0 [42, 180, 0, 32, 155, 0, 46, 42, 180, 0, 32, 17, 12, 0, 162, 0, 36, 42, 180, 0, 18, 42, 180, 0, 32, 42, 180, 0, 36, 16, 21, 120, 27, 16, 8, 120, 96, 28, 96, 79] = true := by decide +kernel
theorem dX2_keep_0 : decode cX2_keep 0 = .ok (.aload_n 0, 1) := qd_o42 0 0 qd_g66 rfl
theorem dX2_keep_1 : decode cX2_keep 1 = .ok (.getfield 32, 3) := qd_o180 0 1 qd_g66 rfl rfl
theorem dX2_keep_4 : decode cX2_keep 4 = .ok (.ifCond .lt 46, 3) := qd_o155 0 4 qd_g66 rfl rfl
theorem dX2_keep_7 : decode cX2_keep 7 = .ok (.aload_n 0, 1) := qd_o42 0 7 qd_g66 rfl
theorem dX2_keep_8 : decode cX2_keep 8 = .ok (.getfield 32, 3) := qd_o180 0 8 qd_g66 rfl rfl
theorem dX2_keep_11 : decode cX2_keep 11 = .ok (.sipush 3072, 3) := qd_o17 0 11 qd_g66 rfl rfl
theorem dX2_keep_14 : decode cX2_keep 14 = .ok (.if_icmp .ge 36, 3) := qd_o162 0 14 qd_g66 rfl rfl
theorem dX2_keep_17 : decode cX2_keep 17 = .ok (.aload_n 0, 1) := qd_o42 0 17 qd_g66 rfl
theorem dX2_keep_18 : decode cX2_keep 18 = .ok (.getfield 18, 3) := qd_o180 0 18 qd_g66 rfl rfl
theorem dX2_keep_21 : decode cX2_keep 21 = .ok (.aload_n 0, 1) := qd_o42 0 21 qd_g66 rfl
theorem dX2_keep_22 : decode cX2_keep 22 = .ok (.getfield 32, 3) := qd_o180 0 22 qd_g66 rfl rfl
theorem dX2_keep_25 : decode cX2_keep 25 = .ok (.aload_n 0, 1) := qd_o42 0 25 qd_g66 rfl
theorem dX2_keep_26 : decode cX2_keep 26 = .ok (.getfield 36, 3) := qd_o180 0 26 qd_g66 rfl rfl
theorem dX2_keep_29 : decode cX2_keep 29 = .ok (.bipush 21, 2) := qd_o16 0 29 qd_g66 rfl rfl
theorem dX2_keep_31 : decode cX2_keep 31 = .ok (.ishl, 1) := qd_o120 0 31 qd_g66 rfl
theorem dX2_keep_32 : decode cX2_keep 32 = .ok (.iload_n 1, 1) := qd_o27 0 32 qd_g66 rfl
theorem dX2_keep_33 : decode cX2_keep 33 = .ok (.bipush 8, 2) := qd_o16 0 33 qd_g66 rfl rfl
theorem dX2_keep_35 : decode cX2_keep 35 = .ok (.ishl, 1) := qd_o120 0 35 qd_g66 rfl
theorem dX2_keep_36 : decode cX2_keep 36 = .ok (.iadd, 1) := qd_o96 0 36 qd_g66 rfl
theorem dX2_keep_37 : decode cX2_keep 37 = .ok (.iload_n 2, 1) := qd_o28 0 37 qd_g66 rfl
theorem dX2_keep_38 : decode cX2_keep 38 = .ok (.iadd, 1) := qd_o96 0 38 qd_g66 rfl
theorem dX2_keep_39 : decode cX2_keep 39 = .ok (.iastore, 1) := qd_o79 0 39 qd_g66 rfl
theorem qd_g67 : qd_bs cX2_keep 40 [42, 89, 180, 0, 32, 4, 96, 181, 0, 32, 177] = true := by decide +kernel
theorem dX2_keep_40 : decode cX2_keep 40 = .ok (.aload_n 0, 1) := qd_o42 40 0 qd_g67 rfl
theorem dX2_keep_41 : decode cX2_keep 41 = .ok (.dup, 1) := qd_o89 40 1 qd_g67 rfl
theorem dX2_keep_42 : decode cX2_keep 42 = .ok (.getfield 32, 3) := qd_o180 40 2 qd_g67 rfl rfl
theorem dX2_keep_45 : decode cX2_keep 45 = .ok (.iconst 1, 1) := qd_o4 40 5 qd_g67 rfl
theorem dX2_keep_46 : decode cX2_keep 46 = .ok (.iadd, 1) := qd_o96 40 6 qd_g67 rfl
theorem dX2_keep_47 : decode cX2_keep 47 = .ok (.putfield 32, 3) := qd_o181 40 7 qd_g67 rfl rfl
theorem dX2_keep_50 : decode cX2_keep 50 = .ok (.return_, 1) := qd_o177 40 10 qd_g67 rfl
theorem qd_g68 : qd_bs cX2_replay 0 [44, 42, 180, 0, 12, 182, 0, 22, 3, 62, 29, 42, 180, 0, 32, 162, 0, 76, 29, 17, 12, 0, 162, 0, 69, 42, 180, 0, 18, 29, 46, 16, 21, 122, 27, 164, 0, 4, 177, 42] = true := by decide +kernel
theorem dX2_replay_0 : decode cX2_replay 0 = .ok (.aload_n 2, 1) := qd_o44 0 0 qd_g68 rfl
theorem dX2_replay_1 : decode cX2_replay 1 = .ok (.aload_n 0, 1) := qd_o42 0 1 qd_g68 rfl
theorem dX2_replay_2 : decode cX2_replay 2 = .ok (.getfield 12, 3) := qd_o180 0 2 qd_g68 rfl rfl
theorem dX2_replay_5 : decode cX2_replay 5 = .ok (.invokevirtual 22, 3) := qd_o182 0 5 qd_g68 rfl rfl
theorem dX2_replay_8 : decode cX2_replay 8 = .ok (.iconst 0, 1) := qd_o3 0 8 qd_g68 rfl
theorem dX2_replay_9 : decode cX2_replay 9 = .ok (.istore_n 3, 1) := qd_o62 0 9 qd_g68 rfl
theorem dX2_replay_10 : decode cX2_replay 10 = .ok (.iload_n 3, 1) := qd_o29 0 10 qd_g68 rfl
theorem dX2_replay_11 : decode cX2_replay 11 = .ok (.aload_n 0, 1) := qd_o42 0 11 qd_g68 rfl
theorem dX2_replay_12 : decode cX2_replay 12 = .ok (.getfield 32, 3) := qd_o180 0 12 qd_g68 rfl rfl
theorem dX2_replay_15 : decode cX2_replay 15 = .ok (.if_icmp .ge 76, 3) := qd_o162 0 15 qd_g68 rfl rfl
theorem dX2_replay_18 : decode cX2_replay 18 = .ok (.iload_n 3, 1) := qd_o29 0 18 qd_g68 rfl
theorem dX2_replay_19 : decode cX2_replay 19 = .ok (.sipush 3072, 3) := qd_o17 0 19 qd_g68 rfl rfl
theorem dX2_replay_22 : decode cX2_replay 22 = .ok (.if_icmp .ge 69, 3) := qd_o162 0 22 qd_g68 rfl rfl
theorem dX2_replay_25 : decode cX2_replay 25 = .ok (.aload_n 0, 1) := qd_o42 0 25 qd_g68 rfl
theorem dX2_replay_26 : decode cX2_replay 26 = .ok (.getfield 18, 3) := qd_o180 0 26 qd_g68 rfl rfl
theorem dX2_replay_29 : decode cX2_replay 29 = .ok (.iload_n 3, 1) := qd_o29 0 29 qd_g68 rfl
theorem dX2_replay_30 : decode cX2_replay 30 = .ok (.iaload, 1) := qd_o46 0 30 qd_g68 rfl
theorem dX2_replay_31 : decode cX2_replay 31 = .ok (.bipush 21, 2) := qd_o16 0 31 qd_g68 rfl rfl
theorem dX2_replay_33 : decode cX2_replay 33 = .ok (.ishr, 1) := qd_o122 0 33 qd_g68 rfl
theorem dX2_replay_34 : decode cX2_replay 34 = .ok (.iload_n 1, 1) := qd_o27 0 34 qd_g68 rfl
theorem dX2_replay_35 : decode cX2_replay 35 = .ok (.if_icmp .le 4, 3) := qd_o164 0 35 qd_g68 rfl rfl
theorem dX2_replay_38 : decode cX2_replay 38 = .ok (.return_, 1) := qd_o177 0 38 qd_g68 rfl
theorem dX2_replay_39 : decode cX2_replay 39 = .ok (.aload_n 0, 1) := qd_o42 0 39 qd_g68 rfl
theorem qd_g69 : qd_bs cX2_replay 40 [180, 0, 18, 29, 46, 16, 8, 122, 17, 31, 255, 126, 54, 4, 21, 4, 17, 16, 0, 160, 0, 10, 44, 182, 0, 39, 167, 0, 19, 44, 21, 4, 42, 180, 0, 18, 29, 46] = true := by decide +kernel
theorem dX2_replay_40 : decode cX2_replay 40 = .ok (.getfield 18, 3) := qd_o180 40 0 qd_g69 rfl rfl
theorem dX2_replay_43 : decode cX2_replay 43 = .ok (.iload_n 3, 1) := qd_o29 40 3 qd_g69 rfl
theorem dX2_replay_44 : decode cX2_replay 44 = .ok (.iaload, 1) := qd_o46 40 4 qd_g69 rfl
theorem dX2_replay_45 : decode cX2_replay 45 = .ok (.bipush 8, 2) := qd_o16 40 5 qd_g69 rfl rfl
theorem dX2_replay_47 : decode cX2_replay 47 = .ok (.ishr, 1) := qd_o122 40 7 qd_g69 rfl
theorem dX2_replay_48 : decode cX2_replay 48 = .ok (.sipush 8191, 3) := qd_o17 40 8 qd_g69 rfl rfl
theorem dX2_replay_51 : decode cX2_replay 51 = .ok (.iand, 1) := qd_o126 40 11 qd_g69 rfl
theorem dX2_replay_52 : decode cX2_replay 52 = .ok (.istore 4, 2) := qd_o54 40 12 qd_g69 rfl rfl
theorem dX2_replay_54 : decode cX2_replay 54 = .ok (.iload 4, 2) := qd_o21 40 14 qd_g69 rfl rfl
theorem dX2_replay_56 : decode cX2_replay 56 = .ok (.sipush 4096, 3) := qd_o17 40 16 qd_g69 rfl rfl
theorem dX2_replay_59 : decode cX2_replay 59 = .ok (.if_icmp .ne 10, 3) := qd_o160 40 19 qd_g69 rfl rfl
theorem dX2_replay_62 : decode cX2_replay 62 = .ok (.aload_n 2, 1) := qd_o44 40 22 qd_g69 rfl
theorem dX2_replay_63 : decode cX2_replay 63 = .ok (.invokevirtual 39, 3) := qd_o182 40 23 qd_g69 rfl rfl
theorem dX2_replay_66 : decode cX2_replay 66 = .ok (.goto 19, 3) := qd_o167 40 26 qd_g69 rfl rfl
theorem dX2_replay_69 : decode cX2_replay 69 = .ok (.aload_n 2, 1) := qd_o44 40 29 qd_g69 rfl
theorem dX2_replay_70 : decode cX2_replay 70 = .ok (.iload 4, 2) := qd_o21 40 30 qd_g69 rfl rfl
theorem dX2_replay_72 : decode cX2_replay 72 = .ok (.aload_n 0, 1) := qd_o42 40 32 qd_g69 rfl
theorem dX2_replay_73 : decode cX2_replay 73 = .ok (.getfield 18, 3) := qd_o180 40 33 qd_g69 rfl rfl
theorem dX2_replay_76 : decode cX2_replay 76 = .ok (.iload_n 3, 1) := qd_o29 40 36 qd_g69 rfl
theorem dX2_replay_77 : decode cX2_replay 77 = .ok (.iaload, 1) := qd_o46 40 37 qd_g69 rfl
theorem qd_g70 : qd_bs cX2_replay 78 [17, 0, 255, 126, 182, 0, 42, 132, 3, 1, 167, 255, 178, 177] = true := by decide +kernel
theorem dX2_replay_78 : decode cX2_replay 78 = .ok (.sipush 255, 3) := qd_o17 78 0 qd_g70 rfl rfl
theorem dX2_replay_81 : decode cX2_replay 81 = .ok (.iand, 1) := qd_o126 78 3 qd_g70 rfl
theorem dX2_replay_82 : decode cX2_replay 82 = .ok (.invokevirtual 42, 3) := qd_o182 78 4 qd_g70 rfl rfl
theorem dX2_replay_85 : decode cX2_replay 85 = .ok (.iinc 3 1, 3) := qd_o132 78 7 qd_g70 rfl rfl
theorem dX2_replay_88 : decode cX2_replay 88 = .ok (.goto (-78), 3) := qd_o167 78 10 qd_g70 rfl rfl
theorem dX2_replay_91 : decode cX2_replay 91 = .ok (.return_, 1) := qd_o177 78 13 qd_g70 rfl
theorem qd_g71 : qd_bs cX3_init 0 [42, 183, 0, 1, 42, 7] = true := by decide +kernel
theorem dX3_init_0 : decode cX3_init 0 = .ok (.aload_n 0, 1) := qd_o42 0 0 qd_g71 rfl
theorem dX3_init_1 : decode cX3_init 1 = .ok (.invokespecial 1, 3) := qd_o183 0 1 qd_g71 rfl rfl
theorem dX3_init_4 : decode cX3_init 4 = .ok (.aload_n 0, 1) := qd_o42 0 4 qd_g71 rfl
theorem dX3_init_5 : decode cX3_init 5 = .ok (.iconst 4, 1) := qd_o7 0 5 qd_g71 rfl
theorem dX3_init_6 : decode cX3_init 6 = .ok (.newarray .int, 2) := by decide +kernel
theorem qd_g72 : qd_bs cX3_init 8 [181, 0, 9, 42, 16, 16] = true := by decide +kernel
theorem dX3_init_8 : decode cX3_init 8 = .ok (.putfield 9, 3) := qd_o181 8 0 qd_g72 rfl rfl
theorem dX3_init_11 : decode cX3_init 11 = .ok (.aload_n 0, 1) := qd_o42 8 3 qd_g72 rfl
theorem dX3_init_12 : decode cX3_init 12 = .ok (.bipush 16, 2) := qd_o16 8 4 qd_g72 rfl rfl
theorem dX3_init_14 : decode cX3_init 14 = .ok (.newarray .int, 2) := by decide +kernel
theorem qd_g73 : qd_bs cX3_init 16 [181, 0, 13, 177] = true := by decide +kernel
theorem dX3_init_16 : decode cX3_init 16 = .ok (.putfield 13, 3) := qd_o181 16 0 qd_g73 rfl rfl
theorem dX3_init_19 : decode cX3_init 19 = .ok (.return_, 1) := qd_o177 16 3 qd_g73 rfl
theorem qd_g74 : qd_bs cX3_become 0 [43, 180, 0, 9, 3, 42, 180, 0, 9, 3, 7, 184, 0, 16, 43, 180, 0, 13, 3, 42, 180, 0, 13, 3, 16, 16, 184, 0, 16, 42, 43, 180, 0, 22, 181, 0, 22, 177] = true := by decide +kernel
theorem dX3_become_0 : decode cX3_become 0 = .ok (.aload_n 1, 1) := qd_o43 0 0 qd_g74 rfl
theorem dX3_become_1 : decode cX3_become 1 = .ok (.getfield 9, 3) := qd_o180 0 1 qd_g74 rfl rfl
theorem dX3_become_4 : decode cX3_become 4 = .ok (.iconst 0, 1) := qd_o3 0 4 qd_g74 rfl
theorem dX3_become_5 : decode cX3_become 5 = .ok (.aload_n 0, 1) := qd_o42 0 5 qd_g74 rfl
theorem dX3_become_6 : decode cX3_become 6 = .ok (.getfield 9, 3) := qd_o180 0 6 qd_g74 rfl rfl
theorem dX3_become_9 : decode cX3_become 9 = .ok (.iconst 0, 1) := qd_o3 0 9 qd_g74 rfl
theorem dX3_become_10 : decode cX3_become 10 = .ok (.iconst 4, 1) := qd_o7 0 10 qd_g74 rfl
theorem dX3_become_11 : decode cX3_become 11 = .ok (.invokestatic 16, 3) := qd_o184 0 11 qd_g74 rfl rfl
theorem dX3_become_14 : decode cX3_become 14 = .ok (.aload_n 1, 1) := qd_o43 0 14 qd_g74 rfl
theorem dX3_become_15 : decode cX3_become 15 = .ok (.getfield 13, 3) := qd_o180 0 15 qd_g74 rfl rfl
theorem dX3_become_18 : decode cX3_become 18 = .ok (.iconst 0, 1) := qd_o3 0 18 qd_g74 rfl
theorem dX3_become_19 : decode cX3_become 19 = .ok (.aload_n 0, 1) := qd_o42 0 19 qd_g74 rfl
theorem dX3_become_20 : decode cX3_become 20 = .ok (.getfield 13, 3) := qd_o180 0 20 qd_g74 rfl rfl
theorem dX3_become_23 : decode cX3_become 23 = .ok (.iconst 0, 1) := qd_o3 0 23 qd_g74 rfl
theorem dX3_become_24 : decode cX3_become 24 = .ok (.bipush 16, 2) := qd_o16 0 24 qd_g74 rfl rfl
theorem dX3_become_26 : decode cX3_become 26 = .ok (.invokestatic 16, 3) := qd_o184 0 26 qd_g74 rfl rfl
theorem dX3_become_29 : decode cX3_become 29 = .ok (.aload_n 0, 1) := qd_o42 0 29 qd_g74 rfl
theorem dX3_become_30 : decode cX3_become 30 = .ok (.aload_n 1, 1) := qd_o43 0 30 qd_g74 rfl
theorem dX3_become_31 : decode cX3_become 31 = .ok (.getfield 22, 3) := qd_o180 0 31 qd_g74 rfl rfl
theorem dX3_become_34 : decode cX3_become 34 = .ok (.putfield 22, 3) := qd_o181 0 34 qd_g74 rfl rfl
theorem dX3_become_37 : decode cX3_become 37 = .ok (.return_, 1) := qd_o177 0 37 qd_g74 rfl
theorem qd_g75 : qd_bs cX3_exchangeJoystick 0 [42, 180, 0, 22, 61, 42, 27, 181, 0, 22, 28, 172] = true := by decide +kernel
theorem dX3_exchangeJoystick_0 : decode cX3_exchangeJoystick 0 = .ok (.aload_n 0, 1) := qd_o42 0 0 qd_g75 rfl
theorem dX3_exchangeJoystick_1 : decode cX3_exchangeJoystick 1 = .ok (.getfield 22, 3) := qd_o180 0 1 qd_g75 rfl rfl
theorem dX3_exchangeJoystick_4 : decode cX3_exchangeJoystick 4 = .ok (.istore_n 2, 1) := qd_o61 0 4 qd_g75 rfl
theorem dX3_exchangeJoystick_5 : decode cX3_exchangeJoystick 5 = .ok (.aload_n 0, 1) := qd_o42 0 5 qd_g75 rfl
theorem dX3_exchangeJoystick_6 : decode cX3_exchangeJoystick 6 = .ok (.iload_n 1, 1) := qd_o27 0 6 qd_g75 rfl
theorem dX3_exchangeJoystick_7 : decode cX3_exchangeJoystick 7 = .ok (.putfield 22, 3) := qd_o181 0 7 qd_g75 rfl rfl
theorem dX3_exchangeJoystick_10 : decode cX3_exchangeJoystick 10 = .ok (.iload_n 2, 1) := qd_o28 0 10 qd_g75 rfl
theorem dX3_exchangeJoystick_11 : decode cX3_exchangeJoystick 11 = .ok (.ireturn, 1) := qd_o172 0 11 qd_g75 rfl
theorem qd_g76 : qd_bs cX3_press 0 [27, 6, 126, 54, 4, 42, 180, 0, 9, 21, 4, 46, 28, 122, 4, 126, 54, 5, 42, 180, 0, 9, 21, 4, 42, 180, 0, 9, 21, 4, 46, 4, 28, 120, 2, 130, 126, 29, 28, 120] = true := by decide +kernel
theorem dX3_press_0 : decode cX3_press 0 = .ok (.iload_n 1, 1) := qd_o27 0 0 qd_g76 rfl
theorem dX3_press_1 : decode cX3_press 1 = .ok (.iconst 3, 1) := qd_o6 0 1 qd_g76 rfl
theorem dX3_press_2 : decode cX3_press 2 = .ok (.iand, 1) := qd_o126 0 2 qd_g76 rfl
theorem dX3_press_3 : decode cX3_press 3 = .ok (.istore 4, 2) := qd_o54 0 3 qd_g76 rfl rfl
theorem dX3_press_5 : decode cX3_press 5 = .ok (.aload_n 0, 1) := qd_o42 0 5 qd_g76 rfl
theorem dX3_press_6 : decode cX3_press 6 = .ok (.getfield 9, 3) := qd_o180 0 6 qd_g76 rfl rfl
theorem dX3_press_9 : decode cX3_press 9 = .ok (.iload 4, 2) := qd_o21 0 9 qd_g76 rfl rfl
theorem dX3_press_11 : decode cX3_press 11 = .ok (.iaload, 1) := qd_o46 0 11 qd_g76 rfl
theorem dX3_press_12 : decode cX3_press 12 = .ok (.iload_n 2, 1) := qd_o28 0 12 qd_g76 rfl
theorem dX3_press_13 : decode cX3_press 13 = .ok (.ishr, 1) := qd_o122 0 13 qd_g76 rfl
theorem dX3_press_14 : decode cX3_press 14 = .ok (.iconst 1, 1) := qd_o4 0 14 qd_g76 rfl
theorem dX3_press_15 : decode cX3_press 15 = .ok (.iand, 1) := qd_o126 0 15 qd_g76 rfl
theorem dX3_press_16 : decode cX3_press 16 = .ok (.istore 5, 2) := qd_o54 0 16 qd_g76 rfl rfl
theorem dX3_press_18 : decode cX3_press 18 = .ok (.aload_n 0, 1) := qd_o42 0 18 qd_g76 rfl
theorem dX3_press_19 : decode cX3_press 19 = .ok (.getfield 9, 3) := qd_o180 0 19 qd_g76 rfl rfl
theorem dX3_press_22 : decode cX3_press 22 = .ok (.iload 4, 2) := qd_o21 0 22 qd_g76 rfl rfl
theorem dX3_press_24 : decode cX3_press 24 = .ok (.aload_n 0, 1) := qd_o42 0 24 qd_g76 rfl
theorem dX3_press_25 : decode cX3_press 25 = .ok (.getfield 9, 3) := qd_o180 0 25 qd_g76 rfl rfl
theorem dX3_press_28 : decode cX3_press 28 = .ok (.iload 4, 2) := qd_o21 0 28 qd_g76 rfl rfl
theorem dX3_press_30 : decode cX3_press 30 = .ok (.iaload, 1) := qd_o46 0 30 qd_g76 rfl
theorem dX3_press_31 : decode cX3_press 31 = .ok (.iconst 1, 1) := qd_o4 0 31 qd_g76 rfl
theorem dX3_press_32 : decode cX3_press 32 = .ok (.iload_n 2, 1) := qd_o28 0 32 qd_g76 rfl
theorem dX3_press_33 : decode cX3_press 33 = .ok (.ishl, 1) := qd_o120 0 33 qd_g76 rfl
theorem dX3_press_34 : decode cX3_press 34 = .ok (.iconst (-1), 1) := qd_o2 0 34 qd_g76 rfl
theorem dX3_press_35 : decode cX3_press 35 = .ok (.ixor, 1) := qd_o130 0 35 qd_g76 rfl
theorem dX3_press_36 : decode cX3_press 36 = .ok (.iand, 1) := qd_o126 0 36 qd_g76 rfl
theorem dX3_press_37 : decode cX3_press 37 = .ok (.iload_n 3, 1) := qd_o29 0 37 qd_g76 rfl
theorem dX3_press_38 : decode cX3_press 38 = .ok (.iload_n 2, 1) := qd_o28 0 38 qd_g76 rfl
theorem dX3_press_39 : decode cX3_press 39 = .ok (.ishl, 1) := qd_o120 0 39 qd_g76 rfl
theorem qd_g77 : qd_bs cX3_press 40 [128, 79, 3, 54, 6, 21, 6, 16, 15, 163, 0, 22, 42, 180, 0, 13, 21, 6, 42, 21, 6, 182, 0, 26, 79, 132, 6, 1, 167, 255, 233, 21, 5, 172] = true := by decide +kernel
theorem dX3_press_40 : decode cX3_press 40 = .ok (.ior, 1) := qd_o128 40 0 qd_g77 rfl
theorem dX3_press_41 : decode cX3_press 41 = .ok (.iastore, 1) := qd_o79 40 1 qd_g77 rfl
theorem dX3_press_42 : decode cX3_press 42 = .ok (.iconst 0, 1) := qd_o3 40 2 qd_g77 rfl
theorem dX3_press_43 : decode cX3_press 43 = .ok (.istore 6, 2) := qd_o54 40 3 qd_g77 rfl rfl
theorem dX3_press_45 : decode cX3_press 45 = .ok (.iload 6, 2) := qd_o21 40 5 qd_g77 rfl rfl
theorem dX3_press_47 : decode cX3_press 47 = .ok (.bipush 15, 2) := qd_o16 40 7 qd_g77 rfl rfl
theorem dX3_press_49 : decode cX3_press 49 = .ok (.if_icmp .gt 22, 3) := qd_o163 40 9 qd_g77 rfl rfl
theorem dX3_press_52 : decode cX3_press 52 = .ok (.aload_n 0, 1) := qd_o42 40 12 qd_g77 rfl
theorem dX3_press_53 : decode cX3_press 53 = .ok (.getfield 13, 3) := qd_o180 40 13 qd_g77 rfl rfl
theorem dX3_press_56 : decode cX3_press 56 = .ok (.iload 6, 2) := qd_o21 40 16 qd_g77 rfl rfl
theorem dX3_press_58 : decode cX3_press 58 = .ok (.aload_n 0, 1) := qd_o42 40 18 qd_g77 rfl
theorem dX3_press_59 : decode cX3_press 59 = .ok (.iload 6, 2) := qd_o21 40 19 qd_g77 rfl rfl
theorem dX3_press_61 : decode cX3_press 61 = .ok (.invokevirtual 26, 3) := qd_o182 40 21 qd_g77 rfl rfl
theorem dX3_press_64 : decode cX3_press 64 = .ok (.iastore, 1) := qd_o79 40 24 qd_g77 rfl
theorem dX3_press_65 : decode cX3_press 65 = .ok (.iinc 6 1, 3) := qd_o132 40 25 qd_g77 rfl rfl
theorem dX3_press_68 : decode cX3_press 68 = .ok (.goto (-23), 3) := qd_o167 40 28 qd_g77 rfl rfl
theorem dX3_press_71 : decode cX3_press 71 = .ok (.iload 5, 2) := qd_o21 40 31 qd_g77 rfl rfl
theorem dX3_press_73 : decode cX3_press 73 = .ok (.ireturn, 1) := qd_o172 40 33 qd_g77 rfl
theorem qd_g78 : qd_bs cX3_columnsSeen 0 [27, 61, 3, 62, 3, 54, 4, 21, 4, 7, 162, 0, 78, 3, 54, 5, 21, 5, 7, 162, 0, 29, 28, 21, 5, 122, 4, 126, 4, 160, 0, 13, 29, 42, 180, 0, 9, 21, 5, 46] = true := by decide +kernel
theorem dX3_columnsSeen_0 : decode cX3_columnsSeen 0 = .ok (.iload_n 1, 1) := qd_o27 0 0 qd_g78 rfl
theorem dX3_columnsSeen_1 : decode cX3_columnsSeen 1 = .ok (.istore_n 2, 1) := qd_o61 0 1 qd_g78 rfl
theorem dX3_columnsSeen_2 : decode cX3_columnsSeen 2 = .ok (.iconst 0, 1) := qd_o3 0 2 qd_g78 rfl
theorem dX3_columnsSeen_3 : decode cX3_columnsSeen 3 = .ok (.istore_n 3, 1) := qd_o62 0 3 qd_g78 rfl
theorem dX3_columnsSeen_4 : decode cX3_columnsSeen 4 = .ok (.iconst 0, 1) := qd_o3 0 4 qd_g78 rfl
theorem dX3_columnsSeen_5 : decode cX3_columnsSeen 5 = .ok (.istore 4, 2) := qd_o54 0 5 qd_g78 rfl rfl
theorem dX3_columnsSeen_7 : decode cX3_columnsSeen 7 = .ok (.iload 4, 2) := qd_o21 0 7 qd_g78 rfl rfl
theorem dX3_columnsSeen_9 : decode cX3_columnsSeen 9 = .ok (.iconst 4, 1) := qd_o7 0 9 qd_g78 rfl
theorem dX3_columnsSeen_10 : decode cX3_columnsSeen 10 = .ok (.if_icmp .ge 78, 3) := qd_o162 0 10 qd_g78 rfl rfl
theorem dX3_columnsSeen_13 : decode cX3_columnsSeen 13 = .ok (.iconst 0, 1) := qd_o3 0 13 qd_g78 rfl
theorem dX3_columnsSeen_14 : decode cX3_columnsSeen 14 = .ok (.istore 5, 2) := qd_o54 0 14 qd_g78 rfl rfl
theorem dX3_columnsSeen_16 : decode cX3_columnsSeen 16 = .ok (.iload 5, 2) := qd_o21 0 16 qd_g78 rfl rfl
theorem dX3_columnsSeen_18 : decode cX3_columnsSeen 18 = .ok (.iconst 4, 1) := qd_o7 0 18 qd_g78 rfl
theorem dX3_columnsSeen_19 : decode cX3_columnsSeen 19 = .ok (.if_icmp .ge 29, 3) := qd_o162 0 19 qd_g78 rfl rfl
theorem dX3_columnsSeen_22 : decode cX3_columnsSeen 22 = .ok (.iload_n 2, 1) := qd_o28 0 22 qd_g78 rfl
theorem dX3_columnsSeen_23 : decode cX3_columnsSeen 23 = .ok (.iload 5, 2) := qd_o21 0 23 qd_g78 rfl rfl
theorem dX3_columnsSeen_25 : decode cX3_columnsSeen 25 = .ok (.ishr, 1) := qd_o122 0 25 qd_g78 rfl
theorem dX3_columnsSeen_26 : decode cX3_columnsSeen 26 = .ok (.iconst 1, 1) := qd_o4 0 26 qd_g78 rfl
theorem dX3_columnsSeen_27 : decode cX3_columnsSeen 27 = .ok (.iand, 1) := qd_o126 0 27 qd_g78 rfl
theorem dX3_columnsSeen_28 : decode cX3_columnsSeen 28 = .ok (.iconst 1, 1) := qd_o4 0 28 qd_g78 rfl
theorem dX3_columnsSeen_29 : decode cX3_columnsSeen 29 = .ok (.if_icmp .ne 13, 3) := qd_o160 0 29 qd_g78 rfl rfl
theorem dX3_columnsSeen_32 : decode cX3_columnsSeen 32 = .ok (.iload_n 3, 1) := qd_o29 0 32 qd_g78 rfl
theorem dX3_columnsSeen_33 : decode cX3_columnsSeen 33 = .ok (.aload_n 0, 1) := qd_o42 0 33 qd_g78 rfl
theorem dX3_columnsSeen_34 : decode cX3_columnsSeen 34 = .ok (.getfield 9, 3) := qd_o180 0 34 qd_g78 rfl rfl
theorem dX3_columnsSeen_37 : decode cX3_columnsSeen 37 = .ok (.iload 5, 2) := qd_o21 0 37 qd_g78 rfl rfl
theorem dX3_columnsSeen_39 : decode cX3_columnsSeen 39 = .ok (.iaload, 1) := qd_o46 0 39 qd_g78 rfl
theorem qd_g79 : qd_bs cX3_columnsSeen 40 [128, 62, 132, 5, 1, 167, 255, 227, 3, 54, 5, 21, 5, 7, 162, 0, 28, 42, 180, 0, 9, 21, 5, 46, 29, 126, 153, 0, 10, 28, 4, 21, 5, 120, 128, 61, 132, 5, 1] = true := by decide +kernel
theorem dX3_columnsSeen_40 : decode cX3_columnsSeen 40 = .ok (.ior, 1) := qd_o128 40 0 qd_g79 rfl
theorem dX3_columnsSeen_41 : decode cX3_columnsSeen 41 = .ok (.istore_n 3, 1) := qd_o62 40 1 qd_g79 rfl
theorem dX3_columnsSeen_42 : decode cX3_columnsSeen 42 = .ok (.iinc 5 1, 3) := qd_o132 40 2 qd_g79 rfl rfl
theorem dX3_columnsSeen_45 : decode cX3_columnsSeen 45 = .ok (.goto (-29), 3) := qd_o167 40 5 qd_g79 rfl rfl
theorem dX3_columnsSeen_48 : decode cX3_columnsSeen 48 = .ok (.iconst 0, 1) := qd_o3 40 8 qd_g79 rfl
theorem dX3_columnsSeen_49 : decode cX3_columnsSeen 49 = .ok (.istore 5, 2) := qd_o54 40 9 qd_g79 rfl rfl
theorem dX3_columnsSeen_51 : decode cX3_columnsSeen 51 = .ok (.iload 5, 2) := qd_o21 40 11 qd_g79 rfl rfl
theorem dX3_columnsSeen_53 : decode cX3_columnsSeen 53 = .ok (.iconst 4, 1) := qd_o7 40 13 qd_g79 rfl
theorem dX3_columnsSeen_54 : decode cX3_columnsSeen 54 = .ok (.if_icmp .ge 28, 3) := qd_o162 40 14 qd_g79 rfl rfl
theorem dX3_columnsSeen_57 : decode cX3_columnsSeen 57 = .ok (.aload_n 0, 1) := qd_o42 40 17 qd_g79 rfl
theorem dX3_columnsSeen_58 : decode cX3_columnsSeen 58 = .ok (.getfield 9, 3) := qd_o180 40 18 qd_g79 rfl rfl
theorem dX3_columnsSeen_61 : decode cX3_columnsSeen 61 = .ok (.iload 5, 2) := qd_o21 40 21 qd_g79 rfl rfl
theorem dX3_columnsSeen_63 : decode cX3_columnsSeen 63 = .ok (.iaload, 1) := qd_o46 40 23 qd_g79 rfl
theorem dX3_columnsSeen_64 : decode cX3_columnsSeen 64 = .ok (.iload_n 3, 1) := qd_o29 40 24 qd_g79 rfl
theorem dX3_columnsSeen_65 : decode cX3_columnsSeen 65 = .ok (.iand, 1) := qd_o126 40 25 qd_g79 rfl
theorem dX3_columnsSeen_66 : decode cX3_columnsSeen 66 = .ok (.ifCond .eq 10, 3) := qd_o153 40 26 qd_g79 rfl rfl
theorem dX3_columnsSeen_69 : decode cX3_columnsSeen 69 = .ok (.iload_n 2, 1) := qd_o28 40 29 qd_g79 rfl
theorem dX3_columnsSeen_70 : decode cX3_columnsSeen 70 = .ok (.iconst 1, 1) := qd_o4 40 30 qd_g79 rfl
theorem dX3_columnsSeen_71 : decode cX3_columnsSeen 71 = .ok (.iload 5, 2) := qd_o21 40 31 qd_g79 rfl rfl
theorem dX3_columnsSeen_73 : decode cX3_columnsSeen 73 = .ok (.ishl, 1) := qd_o120 40 33 qd_g79 rfl
theorem dX3_columnsSeen_74 : decode cX3_columnsSeen 74 = .ok (.ior, 1) := qd_o128 40 34 qd_g79 rfl
theorem dX3_columnsSeen_75 : decode cX3_columnsSeen 75 = .ok (.istore_n 2, 1) := qd_o61 40 35 qd_g79 rfl
theorem dX3_columnsSeen_76 : decode cX3_columnsSeen 76 = .ok (.iinc 5 1, 3) := qd_o132 40 36 qd_g79 rfl rfl
theorem qd_g80 : qd_bs cX3_columnsSeen 79 [167, 255, 228, 132, 4, 1, 167, 255, 178, 29, 172] = true := by decide +kernel
theorem dX3_columnsSeen_79 : decode cX3_columnsSeen 79 = .ok (.goto (-28), 3) := qd_o167 79 0 qd_g80 rfl rfl
theorem dX3_columnsSeen_82 : decode cX3_columnsSeen 82 = .ok (.iinc 4 1, 3) := qd_o132 79 3 qd_g80 rfl rfl
theorem dX3_columnsSeen_85 : decode cX3_columnsSeen 85 = .ok (.goto (-78), 3) := qd_o167 79 6 qd_g80 rfl rfl
theorem dX3_columnsSeen_88 : decode cX3_columnsSeen 88 = .ok (.iload_n 3, 1) := qd_o29 79 9 qd_g80 rfl
theorem dX3_columnsSeen_89 : decode cX3_columnsSeen 89 = .ok (.ireturn, 1) := qd_o172 79 10 qd_g80 rfl
theorem qd_g81 : qd_bs cX4_init 0 [42, 183, 0, 3, 42, 187, 0, 9, 89, 183, 0, 11, 181, 0, 12, 42, 187, 0, 18, 89, 183, 0, 20, 181, 0, 21, 42, 187, 0, 25, 89, 183, 0, 27, 181, 0, 28, 42] = true := by decide +kernel
theorem dX4_init_0 : decode cX4_init 0 = .ok (.aload_n 0, 1) := qd_o42 0 0 qd_g81 rfl
theorem dX4_init_1 : decode cX4_init 1 = .ok (.invokespecial 3, 3) := qd_o183 0 1 qd_g81 rfl rfl
theorem dX4_init_4 : decode cX4_init 4 = .ok (.aload_n 0, 1) := qd_o42 0 4 qd_g81 rfl
theorem dX4_init_5 : decode cX4_init 5 = .ok (.new 9, 3) := qd_o187 0 5 qd_g81 rfl rfl
theorem dX4_init_8 : decode cX4_init 8 = .ok (.dup, 1) := qd_o89 0 8 qd_g81 rfl
theorem dX4_init_9 : decode cX4_init 9 = .ok (.invokespecial 11, 3) := qd_o183 0 9 qd_g81 rfl rfl
theorem dX4_init_12 : decode cX4_init 12 = .ok (.putfield 12, 3) := qd_o181 0 12 qd_g81 rfl rfl
theorem dX4_init_15 : decode cX4_init 15 = .ok (.aload_n 0, 1) := qd_o42 0 15 qd_g81 rfl
theorem dX4_init_16 : decode cX4_init 16 = .ok (.new 18, 3) := qd_o187 0 16 qd_g81 rfl rfl
theorem dX4_init_19 : decode cX4_init 19 = .ok (.dup, 1) := qd_o89 0 19 qd_g81 rfl
theorem dX4_init_20 : decode cX4_init 20 = .ok (.invokespecial 20, 3) := qd_o183 0 20 qd_g81 rfl rfl
theorem dX4_init_23 : decode cX4_init 23 = .ok (.putfield 21, 3) := qd_o181 0 23 qd_g81 rfl rfl
theorem dX4_init_26 : decode cX4_init 26 = .ok (.aload_n 0, 1) := qd_o42 0 26 qd_g81 rfl
theorem dX4_init_27 : decode cX4_init 27 = .ok (.new 25, 3) := qd_o187 0 27 qd_g81 rfl rfl
theorem dX4_init_30 : decode cX4_init 30 = .ok (.dup, 1) := qd_o89 0 30 qd_g81 rfl
theorem dX4_init_31 : decode cX4_init 31 = .ok (.invokespecial 27, 3) := qd_o183 0 31 qd_g81 rfl rfl
theorem dX4_init_34 : decode cX4_init 34 = .ok (.putfield 28, 3) := qd_o181 0 34 qd_g81 rfl rfl
theorem dX4_init_37 : decode cX4_init 37 = .ok (.aload_n 0, 1) := qd_o42 0 37 qd_g81 rfl
theorem qd_g82 : qd_bs cX4_init 38 [17, 4, 0] = true := by decide +kernel
theorem dX4_init_38 : decode cX4_init 38 = .ok (.sipush 1024, 3) := qd_o17 38 0 qd_g82 rfl rfl
theorem dX4_init_41 : decode cX4_init 41 = .ok (.newarray .int, 2) := by decide +kernel
theorem qd_g83 : qd_bs cX4_init 43 [181, 0, 32, 177] = true := by decide +kernel
theorem dX4_init_43 : decode cX4_init 43 = .ok (.putfield 32, 3) := qd_o181 43 0 qd_g83 rfl rfl
theorem dX4_init_46 : decode cX4_init 46 = .ok (.return_, 1) := qd_o177 43 3 qd_g83 rfl
theorem qd_g84 : qd_bs cX4_become 0 [42, 180, 0, 12, 43, 180, 0, 12, 182, 0, 36, 42, 180, 0, 21, 43, 180, 0, 21, 182, 0, 40, 42, 180, 0, 28, 43, 180, 0, 28, 182, 0, 43, 43, 180, 0, 32, 3, 42] = true := by decide +kernel
theorem dX4_become_0 : decode cX4_become 0 = .ok (.aload_n 0, 1) := qd_o42 0 0 qd_g84 rfl
theorem dX4_become_1 : decode cX4_become 1 = .ok (.getfield 12, 3) := qd_o180 0 1 qd_g84 rfl rfl
theorem dX4_become_4 : decode cX4_become 4 = .ok (.aload_n 1, 1) := qd_o43 0 4 qd_g84 rfl
theorem dX4_become_5 : decode cX4_become 5 = .ok (.getfield 12, 3) := qd_o180 0 5 qd_g84 rfl rfl
theorem dX4_become_8 : decode cX4_become 8 = .ok (.invokevirtual 36, 3) := qd_o182 0 8 qd_g84 rfl rfl
theorem dX4_become_11 : decode cX4_become 11 = .ok (.aload_n 0, 1) := qd_o42 0 11 qd_g84 rfl
theorem dX4_become_12 : decode cX4_become 12 = .ok (.getfield 21, 3) := qd_o180 0 12 qd_g84 rfl rfl
theorem dX4_become_15 : decode cX4_become 15 = .ok (.aload_n 1, 1) := qd_o43 0 15 qd_g84 rfl
theorem dX4_become_16 : decode cX4_become 16 = .ok (.getfield 21, 3) := qd_o180 0 16 qd_g84 rfl rfl
theorem dX4_become_19 : decode cX4_become 19 = .ok (.invokevirtual 40, 3) := qd_o182 0 19 qd_g84 rfl rfl
theorem dX4_become_22 : decode cX4_become 22 = .ok (.aload_n 0, 1) := qd_o42 0 22 qd_g84 rfl
theorem dX4_become_23 : decode cX4_become 23 = .ok (.getfield 28, 3) := qd_o180 0 23 qd_g84 rfl rfl
theorem dX4_become_26 : decode cX4_become 26 = .ok (.aload_n 1, 1) := qd_o43 0 26 qd_g84 rfl
theorem dX4_become_27 : decode cX4_become 27 = .ok (.getfield 28, 3) := qd_o180 0 27 qd_g84 rfl rfl
theorem dX4_become_30 : decode cX4_become 30 = .ok (.invokevirtual 43, 3) := qd_o182 0 30 qd_g84 rfl rfl
theorem dX4_become_33 : decode cX4_become 33 = .ok (.aload_n 1, 1) := qd_o43 0 33 qd_g84 rfl
theorem dX4_become_34 : decode cX4_become 34 = .ok (.getfield 32, 3) := qd_o180 0 34 qd_g84 rfl rfl
theorem dX4_become_37 : decode cX4_become 37 = .ok (.iconst 0, 1) := qd_o3 0 37 qd_g84 rfl
theorem dX4_become_38 : decode cX4_become 38 = .ok (.aload_n 0, 1) := qd_o42 0 38 qd_g84 rfl
theorem qd_g85 : qd_bs cX4_become 39 [180, 0, 32, 3, 17, 4, 0, 184, 0, 46, 42, 43, 180, 0, 52, 181, 0, 52, 177] = true := by decide +kernel
theorem dX4_become_39 : decode cX4_become 39 = .ok (.getfield 32, 3) := qd_o180 39 0 qd_g85 rfl rfl
theorem dX4_become_42 : decode cX4_become 42 = .ok (.iconst 0, 1) := qd_o3 39 3 qd_g85 rfl
theorem dX4_become_43 : decode cX4_become 43 = .ok (.sipush 1024, 3) := qd_o17 39 4 qd_g85 rfl rfl
theorem dX4_become_46 : decode cX4_become 46 = .ok (.invokestatic 46, 3) := qd_o184 39 7 qd_g85 rfl rfl
theorem dX4_become_49 : decode cX4_become 49 = .ok (.aload_n 0, 1) := qd_o42 39 10 qd_g85 rfl
theorem dX4_become_50 : decode cX4_become 50 = .ok (.aload_n 1, 1) := qd_o43 39 11 qd_g85 rfl
theorem dX4_become_51 : decode cX4_become 51 = .ok (.getfield 52, 3) := qd_o180 39 12 qd_g85 rfl rfl
theorem dX4_become_54 : decode cX4_become 54 = .ok (.putfield 52, 3) := qd_o181 39 15 qd_g85 rfl rfl
theorem dX4_become_57 : decode cX4_become 57 = .ok (.return_, 1) := qd_o177 39 18 qd_g85 rfl
theorem qd_g86 : qd_bs cX4_isLike 0 [3, 61, 28, 16, 48, 162, 0, 38, 42, 180, 0, 12, 17, 15, 0, 28, 96, 182, 0, 56, 43, 180, 0, 12, 17, 15, 0, 28, 96, 182, 0, 56, 159, 0, 5, 3, 172, 132, 2, 1] = true := by decide +kernel
theorem dX4_isLike_0 : decode cX4_isLike 0 = .ok (.iconst 0, 1) := qd_o3 0 0 qd_g86 rfl
theorem dX4_isLike_1 : decode cX4_isLike 1 = .ok (.istore_n 2, 1) := qd_o61 0 1 qd_g86 rfl
theorem dX4_isLike_2 : decode cX4_isLike 2 = .ok (.iload_n 2, 1) := qd_o28 0 2 qd_g86 rfl
theorem dX4_isLike_3 : decode cX4_isLike 3 = .ok (.bipush 48, 2) := qd_o16 0 3 qd_g86 rfl rfl
theorem dX4_isLike_5 : decode cX4_isLike 5 = .ok (.if_icmp .ge 38, 3) := qd_o162 0 5 qd_g86 rfl rfl
theorem dX4_isLike_8 : decode cX4_isLike 8 = .ok (.aload_n 0, 1) := qd_o42 0 8 qd_g86 rfl
theorem dX4_isLike_9 : decode cX4_isLike 9 = .ok (.getfield 12, 3) := qd_o180 0 9 qd_g86 rfl rfl
theorem dX4_isLike_12 : decode cX4_isLike 12 = .ok (.sipush 3840, 3) := qd_o17 0 12 qd_g86 rfl rfl
theorem dX4_isLike_15 : decode cX4_isLike 15 = .ok (.iload_n 2, 1) := qd_o28 0 15 qd_g86 rfl
theorem dX4_isLike_16 : decode cX4_isLike 16 = .ok (.iadd, 1) := qd_o96 0 16 qd_g86 rfl
theorem dX4_isLike_17 : decode cX4_isLike 17 = .ok (.invokevirtual 56, 3) := qd_o182 0 17 qd_g86 rfl rfl
theorem dX4_isLike_20 : decode cX4_isLike 20 = .ok (.aload_n 1, 1) := qd_o43 0 20 qd_g86 rfl
theorem dX4_isLike_21 : decode cX4_isLike 21 = .ok (.getfield 12, 3) := qd_o180 0 21 qd_g86 rfl rfl
theorem dX4_isLike_24 : decode cX4_isLike 24 = .ok (.sipush 3840, 3) := qd_o17 0 24 qd_g86 rfl rfl
theorem dX4_isLike_27 : decode cX4_isLike 27 = .ok (.iload_n 2, 1) := qd_o28 0 27 qd_g86 rfl
theorem dX4_isLike_28 : decode cX4_isLike 28 = .ok (.iadd, 1) := qd_o96 0 28 qd_g86 rfl
theorem dX4_isLike_29 : decode cX4_isLike 29 = .ok (.invokevirtual 56, 3) := qd_o182 0 29 qd_g86 rfl rfl
theorem dX4_isLike_32 : decode cX4_isLike 32 = .ok (.if_icmp .eq 5, 3) := qd_o159 0 32 qd_g86 rfl rfl
theorem dX4_isLike_35 : decode cX4_isLike 35 = .ok (.iconst 0, 1) := qd_o3 0 35 qd_g86 rfl
theorem dX4_isLike_36 : decode cX4_isLike 36 = .ok (.ireturn, 1) := qd_o172 0 36 qd_g86 rfl
theorem dX4_isLike_37 : decode cX4_isLike 37 = .ok (.iinc 2 1, 3) := qd_o132 0 37 qd_g86 rfl rfl
theorem qd_g87 : qd_bs cX4_isLike 40 [167, 255, 218, 3, 61, 28, 17, 4, 0, 162, 0, 26, 42, 180, 0, 32, 28, 46, 43, 180, 0, 32, 28, 46, 159, 0, 5, 3, 172, 132, 2, 1, 167, 255, 229, 42, 180, 0, 12] = true := by decide +kernel
theorem dX4_isLike_40 : decode cX4_isLike 40 = .ok (.goto (-38), 3) := qd_o167 40 0 qd_g87 rfl rfl
theorem dX4_isLike_43 : decode cX4_isLike 43 = .ok (.iconst 0, 1) := qd_o3 40 3 qd_g87 rfl
theorem dX4_isLike_44 : decode cX4_isLike 44 = .ok (.istore_n 2, 1) := qd_o61 40 4 qd_g87 rfl
theorem dX4_isLike_45 : decode cX4_isLike 45 = .ok (.iload_n 2, 1) := qd_o28 40 5 qd_g87 rfl
theorem dX4_isLike_46 : decode cX4_isLike 46 = .ok (.sipush 1024, 3) := qd_o17 40 6 qd_g87 rfl rfl
theorem dX4_isLike_49 : decode cX4_isLike 49 = .ok (.if_icmp .ge 26, 3) := qd_o162 40 9 qd_g87 rfl rfl
theorem dX4_isLike_52 : decode cX4_isLike 52 = .ok (.aload_n 0, 1) := qd_o42 40 12 qd_g87 rfl
theorem dX4_isLike_53 : decode cX4_isLike 53 = .ok (.getfield 32, 3) := qd_o180 40 13 qd_g87 rfl rfl
theorem dX4_isLike_56 : decode cX4_isLike 56 = .ok (.iload_n 2, 1) := qd_o28 40 16 qd_g87 rfl
theorem dX4_isLike_57 : decode cX4_isLike 57 = .ok (.iaload, 1) := qd_o46 40 17 qd_g87 rfl
theorem dX4_isLike_58 : decode cX4_isLike 58 = .ok (.aload_n 1, 1) := qd_o43 40 18 qd_g87 rfl
theorem dX4_isLike_59 : decode cX4_isLike 59 = .ok (.getfield 32, 3) := qd_o180 40 19 qd_g87 rfl rfl
theorem dX4_isLike_62 : decode cX4_isLike 62 = .ok (.iload_n 2, 1) := qd_o28 40 22 qd_g87 rfl
theorem dX4_isLike_63 : decode cX4_isLike 63 = .ok (.iaload, 1) := qd_o46 40 23 qd_g87 rfl
theorem dX4_isLike_64 : decode cX4_isLike 64 = .ok (.if_icmp .eq 5, 3) := qd_o159 40 24 qd_g87 rfl rfl
theorem dX4_isLike_67 : decode cX4_isLike 67 = .ok (.iconst 0, 1) := qd_o3 40 27 qd_g87 rfl
theorem dX4_isLike_68 : decode cX4_isLike 68 = .ok (.ireturn, 1) := qd_o172 40 28 qd_g87 rfl
theorem dX4_isLike_69 : decode cX4_isLike 69 = .ok (.iinc 2 1, 3) := qd_o132 40 29 qd_g87 rfl rfl
theorem dX4_isLike_72 : decode cX4_isLike 72 = .ok (.goto (-27), 3) := qd_o167 40 32 qd_g87 rfl rfl
theorem dX4_isLike_75 : decode cX4_isLike 75 = .ok (.aload_n 0, 1) := qd_o42 40 35 qd_g87 rfl
theorem dX4_isLike_76 : decode cX4_isLike 76 = .ok (.getfield 12, 3) := qd_o180 40 36 qd_g87 rfl rfl
theorem qd_g88 : qd_bs cX4_isLike 79 [180, 0, 60, 43, 180, 0, 12, 180, 0, 60, 182, 0, 64, 154, 0, 35, 42, 180, 0, 21, 43, 180, 0, 21, 182, 0, 70, 153, 0, 21, 42, 180, 0, 28, 43, 180, 0, 28] = true := by decide +kernel
theorem dX4_isLike_79 : decode cX4_isLike 79 = .ok (.getfield 60, 3) := qd_o180 79 0 qd_g88 rfl rfl
theorem dX4_isLike_82 : decode cX4_isLike 82 = .ok (.aload_n 1, 1) := qd_o43 79 3 qd_g88 rfl
theorem dX4_isLike_83 : decode cX4_isLike 83 = .ok (.getfield 12, 3) := qd_o180 79 4 qd_g88 rfl rfl
theorem dX4_isLike_86 : decode cX4_isLike 86 = .ok (.getfield 60, 3) := qd_o180 79 7 qd_g88 rfl rfl
theorem dX4_isLike_89 : decode cX4_isLike 89 = .ok (.invokevirtual 64, 3) := qd_o182 79 10 qd_g88 rfl rfl
theorem dX4_isLike_92 : decode cX4_isLike 92 = .ok (.ifCond .ne 35, 3) := qd_o154 79 13 qd_g88 rfl rfl
theorem dX4_isLike_95 : decode cX4_isLike 95 = .ok (.aload_n 0, 1) := qd_o42 79 16 qd_g88 rfl
theorem dX4_isLike_96 : decode cX4_isLike 96 = .ok (.getfield 21, 3) := qd_o180 79 17 qd_g88 rfl rfl
theorem dX4_isLike_99 : decode cX4_isLike 99 = .ok (.aload_n 1, 1) := qd_o43 79 20 qd_g88 rfl
theorem dX4_isLike_100 : decode cX4_isLike 100 = .ok (.getfield 21, 3) := qd_o180 79 21 qd_g88 rfl rfl
theorem dX4_isLike_103 : decode cX4_isLike 103 = .ok (.invokevirtual 70, 3) := qd_o182 79 24 qd_g88 rfl rfl
theorem dX4_isLike_106 : decode cX4_isLike 106 = .ok (.ifCond .eq 21, 3) := qd_o153 79 27 qd_g88 rfl rfl
theorem dX4_isLike_109 : decode cX4_isLike 109 = .ok (.aload_n 0, 1) := qd_o42 79 30 qd_g88 rfl
theorem dX4_isLike_110 : decode cX4_isLike 110 = .ok (.getfield 28, 3) := qd_o180 79 31 qd_g88 rfl rfl
theorem dX4_isLike_113 : decode cX4_isLike 113 = .ok (.aload_n 1, 1) := qd_o43 79 34 qd_g88 rfl
theorem dX4_isLike_114 : decode cX4_isLike 114 = .ok (.getfield 28, 3) := qd_o180 79 35 qd_g88 rfl rfl
theorem qd_g89 : qd_bs cX4_isLike 117 [182, 0, 74, 153, 0, 7, 4, 167, 0, 4, 3, 172] = true := by decide +kernel
theorem dX4_isLike_117 : decode cX4_isLike 117 = .ok (.invokevirtual 74, 3) := qd_o182 117 0 qd_g89 rfl rfl
theorem dX4_isLike_120 : decode cX4_isLike 120 = .ok (.ifCond .eq 7, 3) := qd_o153 117 3 qd_g89 rfl rfl
theorem dX4_isLike_123 : decode cX4_isLike 123 = .ok (.iconst 1, 1) := qd_o4 117 6 qd_g89 rfl
theorem dX4_isLike_124 : decode cX4_isLike 124 = .ok (.goto 4, 3) := qd_o167 117 7 qd_g89 rfl rfl
theorem dX4_isLike_127 : decode cX4_isLike 127 = .ok (.iconst 0, 1) := qd_o3 117 10 qd_g89 rfl
theorem dX4_isLike_128 : decode cX4_isLike 128 = .ok (.ireturn, 1) := qd_o172 117 11 qd_g89 rfl
theorem qd_g90 : qd_bs cX4_perform 0 [27] = true := by decide +kernel
theorem dX4_perform_0 : decode cX4_perform 0 = .ok (.iload_n 1, 1) := qd_o27 0 0 qd_g90 rfl
theorem dX4_perform_1 : decode cX4_perform 1 = .ok (.tableswitch 202 0 12 #[67, 77, 87, 104, 116, 126, 131, 136, 143, 152, 167, 179, 191], 67) := by decide +kernel
theorem qd_g91 : qd_bs cX4_perform 68 [42, 180, 0, 12, 28, 29, 182, 0, 77, 172, 42, 180, 0, 12, 28, 29, 182, 0, 81, 172, 42, 180, 0, 12, 17, 2, 0, 28, 104, 29, 96, 21, 4, 182, 0, 84, 172, 42] = true := by decide +kernel
theorem dX4_perform_68 : decode cX4_perform 68 = .ok (.aload_n 0, 1) := qd_o42 68 0 qd_g91 rfl
theorem dX4_perform_69 : decode cX4_perform 69 = .ok (.getfield 12, 3) := qd_o180 68 1 qd_g91 rfl rfl
theorem dX4_perform_72 : decode cX4_perform 72 = .ok (.iload_n 2, 1) := qd_o28 68 4 qd_g91 rfl
theorem dX4_perform_73 : decode cX4_perform 73 = .ok (.iload_n 3, 1) := qd_o29 68 5 qd_g91 rfl
theorem dX4_perform_74 : decode cX4_perform 74 = .ok (.invokevirtual 77, 3) := qd_o182 68 6 qd_g91 rfl rfl
theorem dX4_perform_77 : decode cX4_perform 77 = .ok (.ireturn, 1) := qd_o172 68 9 qd_g91 rfl
theorem dX4_perform_78 : decode cX4_perform 78 = .ok (.aload_n 0, 1) := qd_o42 68 10 qd_g91 rfl
theorem dX4_perform_79 : decode cX4_perform 79 = .ok (.getfield 12, 3) := qd_o180 68 11 qd_g91 rfl rfl
theorem dX4_perform_82 : decode cX4_perform 82 = .ok (.iload_n 2, 1) := qd_o28 68 14 qd_g91 rfl
theorem dX4_perform_83 : decode cX4_perform 83 = .ok (.iload_n 3, 1) := qd_o29 68 15 qd_g91 rfl
theorem dX4_perform_84 : decode cX4_perform 84 = .ok (.invokevirtual 81, 3) := qd_o182 68 16 qd_g91 rfl rfl
theorem dX4_perform_87 : decode cX4_perform 87 = .ok (.ireturn, 1) := qd_o172 68 19 qd_g91 rfl
theorem dX4_perform_88 : decode cX4_perform 88 = .ok (.aload_n 0, 1) := qd_o42 68 20 qd_g91 rfl
theorem dX4_perform_89 : decode cX4_perform 89 = .ok (.getfield 12, 3) := qd_o180 68 21 qd_g91 rfl rfl
theorem dX4_perform_92 : decode cX4_perform 92 = .ok (.sipush 512, 3) := qd_o17 68 24 qd_g91 rfl rfl
theorem dX4_perform_95 : decode cX4_perform 95 = .ok (.iload_n 2, 1) := qd_o28 68 27 qd_g91 rfl
theorem dX4_perform_96 : decode cX4_perform 96 = .ok (.imul, 1) := qd_o104 68 28 qd_g91 rfl
theorem dX4_perform_97 : decode cX4_perform 97 = .ok (.iload_n 3, 1) := qd_o29 68 29 qd_g91 rfl
theorem dX4_perform_98 : decode cX4_perform 98 = .ok (.iadd, 1) := qd_o96 68 30 qd_g91 rfl
theorem dX4_perform_99 : decode cX4_perform 99 = .ok (.iload 4, 2) := qd_o21 68 31 qd_g91 rfl rfl
theorem dX4_perform_101 : decode cX4_perform 101 = .ok (.invokevirtual 84, 3) := qd_o182 68 33 qd_g91 rfl rfl
theorem dX4_perform_104 : decode cX4_perform 104 = .ok (.ireturn, 1) := qd_o172 68 36 qd_g91 rfl
theorem dX4_perform_105 : decode cX4_perform 105 = .ok (.aload_n 0, 1) := qd_o42 68 37 qd_g91 rfl
theorem qd_g92 : qd_bs cX4_perform 106 [180, 0, 12, 28, 29, 21, 4, 182, 0, 87, 172, 42, 180, 0, 21, 28, 29, 182, 0, 91, 172, 42, 182, 0, 92, 172, 42, 182, 0, 96, 172, 42, 28, 3, 182, 0, 99, 172, 42] = true := by decide +kernel
theorem dX4_perform_106 : decode cX4_perform 106 = .ok (.getfield 12, 3) := qd_o180 106 0 qd_g92 rfl rfl
theorem dX4_perform_109 : decode cX4_perform 109 = .ok (.iload_n 2, 1) := qd_o28 106 3 qd_g92 rfl
theorem dX4_perform_110 : decode cX4_perform 110 = .ok (.iload_n 3, 1) := qd_o29 106 4 qd_g92 rfl
theorem dX4_perform_111 : decode cX4_perform 111 = .ok (.iload 4, 2) := qd_o21 106 5 qd_g92 rfl rfl
theorem dX4_perform_113 : decode cX4_perform 113 = .ok (.invokevirtual 87, 3) := qd_o182 106 7 qd_g92 rfl rfl
theorem dX4_perform_116 : decode cX4_perform 116 = .ok (.ireturn, 1) := qd_o172 106 10 qd_g92 rfl
theorem dX4_perform_117 : decode cX4_perform 117 = .ok (.aload_n 0, 1) := qd_o42 106 11 qd_g92 rfl
theorem dX4_perform_118 : decode cX4_perform 118 = .ok (.getfield 21, 3) := qd_o180 106 12 qd_g92 rfl rfl
theorem dX4_perform_121 : decode cX4_perform 121 = .ok (.iload_n 2, 1) := qd_o28 106 15 qd_g92 rfl
theorem dX4_perform_122 : decode cX4_perform 122 = .ok (.iload_n 3, 1) := qd_o29 106 16 qd_g92 rfl
theorem dX4_perform_123 : decode cX4_perform 123 = .ok (.invokevirtual 91, 3) := qd_o182 106 17 qd_g92 rfl rfl
theorem dX4_perform_126 : decode cX4_perform 126 = .ok (.ireturn, 1) := qd_o172 106 20 qd_g92 rfl
theorem dX4_perform_127 : decode cX4_perform 127 = .ok (.aload_n 0, 1) := qd_o42 106 21 qd_g92 rfl
theorem dX4_perform_128 : decode cX4_perform 128 = .ok (.invokevirtual 92, 3) := qd_o182 106 22 qd_g92 rfl rfl
theorem dX4_perform_131 : decode cX4_perform 131 = .ok (.ireturn, 1) := qd_o172 106 25 qd_g92 rfl
theorem dX4_perform_132 : decode cX4_perform 132 = .ok (.aload_n 0, 1) := qd_o42 106 26 qd_g92 rfl
theorem dX4_perform_133 : decode cX4_perform 133 = .ok (.invokevirtual 96, 3) := qd_o182 106 27 qd_g92 rfl rfl
theorem dX4_perform_136 : decode cX4_perform 136 = .ok (.ireturn, 1) := qd_o172 106 30 qd_g92 rfl
theorem dX4_perform_137 : decode cX4_perform 137 = .ok (.aload_n 0, 1) := qd_o42 106 31 qd_g92 rfl
theorem dX4_perform_138 : decode cX4_perform 138 = .ok (.iload_n 2, 1) := qd_o28 106 32 qd_g92 rfl
theorem dX4_perform_139 : decode cX4_perform 139 = .ok (.iconst 0, 1) := qd_o3 106 33 qd_g92 rfl
theorem dX4_perform_140 : decode cX4_perform 140 = .ok (.invokevirtual 99, 3) := qd_o182 106 34 qd_g92 rfl rfl
theorem dX4_perform_143 : decode cX4_perform 143 = .ok (.ireturn, 1) := qd_o172 106 37 qd_g92 rfl
theorem dX4_perform_144 : decode cX4_perform 144 = .ok (.aload_n 0, 1) := qd_o42 106 38 qd_g92 rfl
theorem qd_g93 : qd_bs cX4_perform 145 [17, 0, 200, 4, 182, 0, 99, 172, 42, 180, 0, 12, 180, 0, 103, 28, 29, 21, 4, 182, 0, 107, 172, 42, 180, 0, 12, 180, 0, 103, 28, 182, 0, 112, 172, 42, 180, 0, 12] = true := by decide +kernel
theorem dX4_perform_145 : decode cX4_perform 145 = .ok (.sipush 200, 3) := qd_o17 145 0 qd_g93 rfl rfl
theorem dX4_perform_148 : decode cX4_perform 148 = .ok (.iconst 1, 1) := qd_o4 145 3 qd_g93 rfl
theorem dX4_perform_149 : decode cX4_perform 149 = .ok (.invokevirtual 99, 3) := qd_o182 145 4 qd_g93 rfl rfl
theorem dX4_perform_152 : decode cX4_perform 152 = .ok (.ireturn, 1) := qd_o172 145 7 qd_g93 rfl
theorem dX4_perform_153 : decode cX4_perform 153 = .ok (.aload_n 0, 1) := qd_o42 145 8 qd_g93 rfl
theorem dX4_perform_154 : decode cX4_perform 154 = .ok (.getfield 12, 3) := qd_o180 145 9 qd_g93 rfl rfl
theorem dX4_perform_157 : decode cX4_perform 157 = .ok (.getfield 103, 3) := qd_o180 145 12 qd_g93 rfl rfl
theorem dX4_perform_160 : decode cX4_perform 160 = .ok (.iload_n 2, 1) := qd_o28 145 15 qd_g93 rfl
theorem dX4_perform_161 : decode cX4_perform 161 = .ok (.iload_n 3, 1) := qd_o29 145 16 qd_g93 rfl
theorem dX4_perform_162 : decode cX4_perform 162 = .ok (.iload 4, 2) := qd_o21 145 17 qd_g93 rfl rfl
theorem dX4_perform_164 : decode cX4_perform 164 = .ok (.invokevirtual 107, 3) := qd_o182 145 19 qd_g93 rfl rfl
theorem dX4_perform_167 : decode cX4_perform 167 = .ok (.ireturn, 1) := qd_o172 145 22 qd_g93 rfl
theorem dX4_perform_168 : decode cX4_perform 168 = .ok (.aload_n 0, 1) := qd_o42 145 23 qd_g93 rfl
theorem dX4_perform_169 : decode cX4_perform 169 = .ok (.getfield 12, 3) := qd_o180 145 24 qd_g93 rfl rfl
theorem dX4_perform_172 : decode cX4_perform 172 = .ok (.getfield 103, 3) := qd_o180 145 27 qd_g93 rfl rfl
theorem dX4_perform_175 : decode cX4_perform 175 = .ok (.iload_n 2, 1) := qd_o28 145 30 qd_g93 rfl
theorem dX4_perform_176 : decode cX4_perform 176 = .ok (.invokevirtual 112, 3) := qd_o182 145 31 qd_g93 rfl rfl
theorem dX4_perform_179 : decode cX4_perform 179 = .ok (.ireturn, 1) := qd_o172 145 34 qd_g93 rfl
theorem dX4_perform_180 : decode cX4_perform 180 = .ok (.aload_n 0, 1) := qd_o42 145 35 qd_g93 rfl
theorem dX4_perform_181 : decode cX4_perform 181 = .ok (.getfield 12, 3) := qd_o180 145 36 qd_g93 rfl rfl
theorem qd_g94 : qd_bs cX4_perform 184 [180, 0, 115, 28, 182, 0, 119, 172, 42, 180, 0, 12, 180, 0, 115, 182, 0, 124, 172, 3, 172] = true := by decide +kernel
theorem dX4_perform_184 : decode cX4_perform 184 = .ok (.getfield 115, 3) := qd_o180 184 0 qd_g94 rfl rfl
theorem dX4_perform_187 : decode cX4_perform 187 = .ok (.iload_n 2, 1) := qd_o28 184 3 qd_g94 rfl
theorem dX4_perform_188 : decode cX4_perform 188 = .ok (.invokevirtual 119, 3) := qd_o182 184 4 qd_g94 rfl rfl
theorem dX4_perform_191 : decode cX4_perform 191 = .ok (.ireturn, 1) := qd_o172 184 7 qd_g94 rfl
theorem dX4_perform_192 : decode cX4_perform 192 = .ok (.aload_n 0, 1) := qd_o42 184 8 qd_g94 rfl
theorem dX4_perform_193 : decode cX4_perform 193 = .ok (.getfield 12, 3) := qd_o180 184 9 qd_g94 rfl rfl
theorem dX4_perform_196 : decode cX4_perform 196 = .ok (.getfield 115, 3) := qd_o180 184 12 qd_g94 rfl rfl
theorem dX4_perform_199 : decode cX4_perform 199 = .ok (.invokevirtual 124, 3) := qd_o182 184 15 qd_g94 rfl rfl
theorem dX4_perform_202 : decode cX4_perform 202 = .ok (.ireturn, 1) := qd_o172 184 18 qd_g94 rfl
theorem dX4_perform_203 : decode cX4_perform 203 = .ok (.iconst 0, 1) := qd_o3 184 19 qd_g94 rfl
theorem dX4_perform_204 : decode cX4_perform 204 = .ok (.ireturn, 1) := qd_o172 184 20 qd_g94 rfl
theorem qd_g95 : qd_bs cX4_startAnew 0 [42, 180, 0, 12, 182, 0, 127, 42, 180, 0, 21, 42, 180, 0, 12, 182, 0, 130, 42, 180, 0, 21, 180, 0, 132, 172] = true := by decide +kernel
theorem dX4_startAnew_0 : decode cX4_startAnew 0 = .ok (.aload_n 0, 1) := qd_o42 0 0 qd_g95 rfl
theorem dX4_startAnew_1 : decode cX4_startAnew 1 = .ok (.getfield 12, 3) := qd_o180 0 1 qd_g95 rfl rfl
theorem dX4_startAnew_4 : decode cX4_startAnew 4 = .ok (.invokevirtual 127, 3) := qd_o182 0 4 qd_g95 rfl rfl
theorem dX4_startAnew_7 : decode cX4_startAnew 7 = .ok (.aload_n 0, 1) := qd_o42 0 7 qd_g95 rfl
theorem dX4_startAnew_8 : decode cX4_startAnew 8 = .ok (.getfield 21, 3) := qd_o180 0 8 qd_g95 rfl rfl
theorem dX4_startAnew_11 : decode cX4_startAnew 11 = .ok (.aload_n 0, 1) := qd_o42 0 11 qd_g95 rfl
theorem dX4_startAnew_12 : decode cX4_startAnew 12 = .ok (.getfield 12, 3) := qd_o180 0 12 qd_g95 rfl rfl
theorem dX4_startAnew_15 : decode cX4_startAnew 15 = .ok (.invokevirtual 130, 3) := qd_o182 0 15 qd_g95 rfl rfl
theorem dX4_startAnew_18 : decode cX4_startAnew 18 = .ok (.aload_n 0, 1) := qd_o42 0 18 qd_g95 rfl
theorem dX4_startAnew_19 : decode cX4_startAnew 19 = .ok (.getfield 21, 3) := qd_o180 0 19 qd_g95 rfl rfl
theorem dX4_startAnew_22 : decode cX4_startAnew 22 = .ok (.getfield 132, 3) := qd_o180 0 22 qd_g95 rfl rfl
theorem dX4_startAnew_25 : decode cX4_startAnew 25 = .ok (.ireturn, 1) := qd_o172 0 25 qd_g95 rfl
theorem qd_g96 : qd_bs cX4_pressFreeze 0 [42, 180, 0, 12, 180, 0, 60, 180, 0, 136, 3, 46, 60, 42, 180, 0, 12, 17, 15, 0, 27, 16, 14, 128, 182, 0, 139, 42, 180, 0, 21, 4, 181, 0, 143, 27, 172] = true := by decide +kernel
theorem dX4_pressFreeze_0 : decode cX4_pressFreeze 0 = .ok (.aload_n 0, 1) := qd_o42 0 0 qd_g96 rfl
theorem dX4_pressFreeze_1 : decode cX4_pressFreeze 1 = .ok (.getfield 12, 3) := qd_o180 0 1 qd_g96 rfl rfl
theorem dX4_pressFreeze_4 : decode cX4_pressFreeze 4 = .ok (.getfield 60, 3) := qd_o180 0 4 qd_g96 rfl rfl
theorem dX4_pressFreeze_7 : decode cX4_pressFreeze 7 = .ok (.getfield 136, 3) := qd_o180 0 7 qd_g96 rfl rfl
theorem dX4_pressFreeze_10 : decode cX4_pressFreeze 10 = .ok (.iconst 0, 1) := qd_o3 0 10 qd_g96 rfl
theorem dX4_pressFreeze_11 : decode cX4_pressFreeze 11 = .ok (.iaload, 1) := qd_o46 0 11 qd_g96 rfl
theorem dX4_pressFreeze_12 : decode cX4_pressFreeze 12 = .ok (.istore_n 1, 1) := qd_o60 0 12 qd_g96 rfl
theorem dX4_pressFreeze_13 : decode cX4_pressFreeze 13 = .ok (.aload_n 0, 1) := qd_o42 0 13 qd_g96 rfl
theorem dX4_pressFreeze_14 : decode cX4_pressFreeze 14 = .ok (.getfield 12, 3) := qd_o180 0 14 qd_g96 rfl rfl
theorem dX4_pressFreeze_17 : decode cX4_pressFreeze 17 = .ok (.sipush 3840, 3) := qd_o17 0 17 qd_g96 rfl rfl
theorem dX4_pressFreeze_20 : decode cX4_pressFreeze 20 = .ok (.iload_n 1, 1) := qd_o27 0 20 qd_g96 rfl
theorem dX4_pressFreeze_21 : decode cX4_pressFreeze 21 = .ok (.bipush 14, 2) := qd_o16 0 21 qd_g96 rfl rfl
theorem dX4_pressFreeze_23 : decode cX4_pressFreeze 23 = .ok (.ior, 1) := qd_o128 0 23 qd_g96 rfl
theorem dX4_pressFreeze_24 : decode cX4_pressFreeze 24 = .ok (.invokevirtual 139, 3) := qd_o182 0 24 qd_g96 rfl rfl
theorem dX4_pressFreeze_27 : decode cX4_pressFreeze 27 = .ok (.aload_n 0, 1) := qd_o42 0 27 qd_g96 rfl
theorem dX4_pressFreeze_28 : decode cX4_pressFreeze 28 = .ok (.getfield 21, 3) := qd_o180 0 28 qd_g96 rfl rfl
theorem dX4_pressFreeze_31 : decode cX4_pressFreeze 31 = .ok (.iconst 1, 1) := qd_o4 0 31 qd_g96 rfl
theorem dX4_pressFreeze_32 : decode cX4_pressFreeze 32 = .ok (.putfield 143, 3) := qd_o181 0 32 qd_g96 rfl rfl
theorem dX4_pressFreeze_35 : decode cX4_pressFreeze 35 = .ok (.iload_n 1, 1) := qd_o27 0 35 qd_g96 rfl
theorem dX4_pressFreeze_36 : decode cX4_pressFreeze 36 = .ok (.ireturn, 1) := qd_o172 0 36 qd_g96 rfl
theorem qd_g97 : qd_bs cX4_letPass 0 [42, 180, 0, 21, 180, 0, 147, 62, 3, 54, 4, 3, 54, 5, 21, 4, 27, 162, 0, 86, 28, 153, 0, 14, 42, 180, 0, 21, 180, 0, 147, 29, 160, 0, 71, 42, 182, 0, 150] = true := by decide +kernel
theorem dX4_letPass_0 : decode cX4_letPass 0 = .ok (.aload_n 0, 1) := qd_o42 0 0 qd_g97 rfl
theorem dX4_letPass_1 : decode cX4_letPass 1 = .ok (.getfield 21, 3) := qd_o180 0 1 qd_g97 rfl rfl
theorem dX4_letPass_4 : decode cX4_letPass 4 = .ok (.getfield 147, 3) := qd_o180 0 4 qd_g97 rfl rfl
theorem dX4_letPass_7 : decode cX4_letPass 7 = .ok (.istore_n 3, 1) := qd_o62 0 7 qd_g97 rfl
theorem dX4_letPass_8 : decode cX4_letPass 8 = .ok (.iconst 0, 1) := qd_o3 0 8 qd_g97 rfl
theorem dX4_letPass_9 : decode cX4_letPass 9 = .ok (.istore 4, 2) := qd_o54 0 9 qd_g97 rfl rfl
theorem dX4_letPass_11 : decode cX4_letPass 11 = .ok (.iconst 0, 1) := qd_o3 0 11 qd_g97 rfl
theorem dX4_letPass_12 : decode cX4_letPass 12 = .ok (.istore 5, 2) := qd_o54 0 12 qd_g97 rfl rfl
theorem dX4_letPass_14 : decode cX4_letPass 14 = .ok (.iload 4, 2) := qd_o21 0 14 qd_g97 rfl rfl
theorem dX4_letPass_16 : decode cX4_letPass 16 = .ok (.iload_n 1, 1) := qd_o27 0 16 qd_g97 rfl
theorem dX4_letPass_17 : decode cX4_letPass 17 = .ok (.if_icmp .ge 86, 3) := qd_o162 0 17 qd_g97 rfl rfl
theorem dX4_letPass_20 : decode cX4_letPass 20 = .ok (.iload_n 2, 1) := qd_o28 0 20 qd_g97 rfl
theorem dX4_letPass_21 : decode cX4_letPass 21 = .ok (.ifCond .eq 14, 3) := qd_o153 0 21 qd_g97 rfl rfl
theorem dX4_letPass_24 : decode cX4_letPass 24 = .ok (.aload_n 0, 1) := qd_o42 0 24 qd_g97 rfl
theorem dX4_letPass_25 : decode cX4_letPass 25 = .ok (.getfield 21, 3) := qd_o180 0 25 qd_g97 rfl rfl
theorem dX4_letPass_28 : decode cX4_letPass 28 = .ok (.getfield 147, 3) := qd_o180 0 28 qd_g97 rfl rfl
theorem dX4_letPass_31 : decode cX4_letPass 31 = .ok (.iload_n 3, 1) := qd_o29 0 31 qd_g97 rfl
theorem dX4_letPass_32 : decode cX4_letPass 32 = .ok (.if_icmp .ne 71, 3) := qd_o160 0 32 qd_g97 rfl rfl
theorem dX4_letPass_35 : decode cX4_letPass 35 = .ok (.aload_n 0, 1) := qd_o42 0 35 qd_g97 rfl
theorem dX4_letPass_36 : decode cX4_letPass 36 = .ok (.invokevirtual 150, 3) := qd_o182 0 36 qd_g97 rfl rfl
theorem qd_g98 : qd_bs cX4_letPass 39 [153, 0, 9, 132, 5, 1, 167, 0, 45, 42, 180, 0, 21, 180, 0, 154, 154, 0, 14, 42, 180, 0, 21, 42, 180, 0, 12, 182, 0, 157, 42, 180, 0, 21, 182, 0, 160, 153, 0, 14] = true := by decide +kernel
theorem dX4_letPass_39 : decode cX4_letPass 39 = .ok (.ifCond .eq 9, 3) := qd_o153 39 0 qd_g98 rfl rfl
theorem dX4_letPass_42 : decode cX4_letPass 42 = .ok (.iinc 5 1, 3) := qd_o132 39 3 qd_g98 rfl rfl
theorem dX4_letPass_45 : decode cX4_letPass 45 = .ok (.goto 45, 3) := qd_o167 39 6 qd_g98 rfl rfl
theorem dX4_letPass_48 : decode cX4_letPass 48 = .ok (.aload_n 0, 1) := qd_o42 39 9 qd_g98 rfl
theorem dX4_letPass_49 : decode cX4_letPass 49 = .ok (.getfield 21, 3) := qd_o180 39 10 qd_g98 rfl rfl
theorem dX4_letPass_52 : decode cX4_letPass 52 = .ok (.getfield 154, 3) := qd_o180 39 13 qd_g98 rfl rfl
theorem dX4_letPass_55 : decode cX4_letPass 55 = .ok (.ifCond .ne 14, 3) := qd_o154 39 16 qd_g98 rfl rfl
theorem dX4_letPass_58 : decode cX4_letPass 58 = .ok (.aload_n 0, 1) := qd_o42 39 19 qd_g98 rfl
theorem dX4_letPass_59 : decode cX4_letPass 59 = .ok (.getfield 21, 3) := qd_o180 39 20 qd_g98 rfl rfl
theorem dX4_letPass_62 : decode cX4_letPass 62 = .ok (.aload_n 0, 1) := qd_o42 39 23 qd_g98 rfl
theorem dX4_letPass_63 : decode cX4_letPass 63 = .ok (.getfield 12, 3) := qd_o180 39 24 qd_g98 rfl rfl
theorem dX4_letPass_66 : decode cX4_letPass 66 = .ok (.invokevirtual 157, 3) := qd_o182 39 27 qd_g98 rfl rfl
theorem dX4_letPass_69 : decode cX4_letPass 69 = .ok (.aload_n 0, 1) := qd_o42 39 30 qd_g98 rfl
theorem dX4_letPass_70 : decode cX4_letPass 70 = .ok (.getfield 21, 3) := qd_o180 39 31 qd_g98 rfl rfl
theorem dX4_letPass_73 : decode cX4_letPass 73 = .ok (.invokevirtual 160, 3) := qd_o182 39 34 qd_g98 rfl rfl
theorem dX4_letPass_76 : decode cX4_letPass 76 = .ok (.ifCond .eq 14, 3) := qd_o153 39 37 qd_g98 rfl rfl
theorem qd_g99 : qd_bs cX4_letPass 79 [42, 180, 0, 21, 42, 180, 0, 12, 182, 0, 163, 42, 180, 0, 12, 182, 0, 166, 132, 4, 1, 167, 255, 170, 42, 89, 180, 0, 52, 21, 5, 133, 97, 181, 0, 52, 28, 153, 0, 8] = true := by decide +kernel
theorem dX4_letPass_79 : decode cX4_letPass 79 = .ok (.aload_n 0, 1) := qd_o42 79 0 qd_g99 rfl
theorem dX4_letPass_80 : decode cX4_letPass 80 = .ok (.getfield 21, 3) := qd_o180 79 1 qd_g99 rfl rfl
theorem dX4_letPass_83 : decode cX4_letPass 83 = .ok (.aload_n 0, 1) := qd_o42 79 4 qd_g99 rfl
theorem dX4_letPass_84 : decode cX4_letPass 84 = .ok (.getfield 12, 3) := qd_o180 79 5 qd_g99 rfl rfl
theorem dX4_letPass_87 : decode cX4_letPass 87 = .ok (.invokevirtual 163, 3) := qd_o182 79 8 qd_g99 rfl rfl
theorem dX4_letPass_90 : decode cX4_letPass 90 = .ok (.aload_n 0, 1) := qd_o42 79 11 qd_g99 rfl
theorem dX4_letPass_91 : decode cX4_letPass 91 = .ok (.getfield 12, 3) := qd_o180 79 12 qd_g99 rfl rfl
theorem dX4_letPass_94 : decode cX4_letPass 94 = .ok (.invokevirtual 166, 3) := qd_o182 79 15 qd_g99 rfl rfl
theorem dX4_letPass_97 : decode cX4_letPass 97 = .ok (.iinc 4 1, 3) := qd_o132 79 18 qd_g99 rfl rfl
theorem dX4_letPass_100 : decode cX4_letPass 100 = .ok (.goto (-86), 3) := qd_o167 79 21 qd_g99 rfl rfl
theorem dX4_letPass_103 : decode cX4_letPass 103 = .ok (.aload_n 0, 1) := qd_o42 79 24 qd_g99 rfl
theorem dX4_letPass_104 : decode cX4_letPass 104 = .ok (.dup, 1) := qd_o89 79 25 qd_g99 rfl
theorem dX4_letPass_105 : decode cX4_letPass 105 = .ok (.getfield 52, 3) := qd_o180 79 26 qd_g99 rfl rfl
theorem dX4_letPass_108 : decode cX4_letPass 108 = .ok (.iload 5, 2) := qd_o21 79 29 qd_g99 rfl rfl
theorem dX4_letPass_110 : decode cX4_letPass 110 = .ok (.i2l, 1) := qd_o133 79 31 qd_g99 rfl
theorem dX4_letPass_111 : decode cX4_letPass 111 = .ok (.ladd, 1) := qd_o97 79 32 qd_g99 rfl
theorem dX4_letPass_112 : decode cX4_letPass 112 = .ok (.putfield 52, 3) := qd_o181 79 33 qd_g99 rfl rfl
theorem dX4_letPass_115 : decode cX4_letPass 115 = .ok (.iload_n 2, 1) := qd_o28 79 36 qd_g99 rfl
theorem dX4_letPass_116 : decode cX4_letPass 116 = .ok (.ifCond .eq 8, 3) := qd_o153 79 37 qd_g99 rfl rfl
theorem qd_g100 : qd_bs cX4_letPass 119 [21, 4, 167, 0, 5, 21, 5, 172] = true := by decide +kernel
theorem dX4_letPass_119 : decode cX4_letPass 119 = .ok (.iload 4, 2) := qd_o21 119 0 qd_g100 rfl rfl
theorem dX4_letPass_121 : decode cX4_letPass 121 = .ok (.goto 5, 3) := qd_o167 119 2 qd_g100 rfl rfl
theorem dX4_letPass_124 : decode cX4_letPass 124 = .ok (.iload 5, 2) := qd_o21 119 5 qd_g100 rfl rfl
theorem dX4_letPass_126 : decode cX4_letPass 126 = .ok (.ireturn, 1) := qd_o172 119 7 qd_g100 rfl
theorem qd_g101 : qd_bs cX4_passPicture 0 [42, 180, 0, 12, 182, 0, 169, 42, 180, 0, 12, 182, 0, 172, 60, 42, 180, 0, 12, 42, 180, 0, 32, 182, 0, 175, 42, 180, 0, 12, 182, 0, 179, 42, 180, 0, 12, 182, 0, 182] = true := by decide +kernel
theorem dX4_passPicture_0 : decode cX4_passPicture 0 = .ok (.aload_n 0, 1) := qd_o42 0 0 qd_g101 rfl
theorem dX4_passPicture_1 : decode cX4_passPicture 1 = .ok (.getfield 12, 3) := qd_o180 0 1 qd_g101 rfl rfl
theorem dX4_passPicture_4 : decode cX4_passPicture 4 = .ok (.invokevirtual 169, 3) := qd_o182 0 4 qd_g101 rfl rfl
theorem dX4_passPicture_7 : decode cX4_passPicture 7 = .ok (.aload_n 0, 1) := qd_o42 0 7 qd_g101 rfl
theorem dX4_passPicture_8 : decode cX4_passPicture 8 = .ok (.getfield 12, 3) := qd_o180 0 8 qd_g101 rfl rfl
theorem dX4_passPicture_11 : decode cX4_passPicture 11 = .ok (.invokevirtual 172, 3) := qd_o182 0 11 qd_g101 rfl rfl
theorem dX4_passPicture_14 : decode cX4_passPicture 14 = .ok (.istore_n 1, 1) := qd_o60 0 14 qd_g101 rfl
theorem dX4_passPicture_15 : decode cX4_passPicture 15 = .ok (.aload_n 0, 1) := qd_o42 0 15 qd_g101 rfl
theorem dX4_passPicture_16 : decode cX4_passPicture 16 = .ok (.getfield 12, 3) := qd_o180 0 16 qd_g101 rfl rfl
theorem dX4_passPicture_19 : decode cX4_passPicture 19 = .ok (.aload_n 0, 1) := qd_o42 0 19 qd_g101 rfl
theorem dX4_passPicture_20 : decode cX4_passPicture 20 = .ok (.getfield 32, 3) := qd_o180 0 20 qd_g101 rfl rfl
theorem dX4_passPicture_23 : decode cX4_passPicture 23 = .ok (.invokevirtual 175, 3) := qd_o182 0 23 qd_g101 rfl rfl
theorem dX4_passPicture_26 : decode cX4_passPicture 26 = .ok (.aload_n 0, 1) := qd_o42 0 26 qd_g101 rfl
theorem dX4_passPicture_27 : decode cX4_passPicture 27 = .ok (.getfield 12, 3) := qd_o180 0 27 qd_g101 rfl rfl
theorem dX4_passPicture_30 : decode cX4_passPicture 30 = .ok (.invokevirtual 179, 3) := qd_o182 0 30 qd_g101 rfl rfl
theorem dX4_passPicture_33 : decode cX4_passPicture 33 = .ok (.aload_n 0, 1) := qd_o42 0 33 qd_g101 rfl
theorem dX4_passPicture_34 : decode cX4_passPicture 34 = .ok (.getfield 12, 3) := qd_o180 0 34 qd_g101 rfl rfl
theorem dX4_passPicture_37 : decode cX4_passPicture 37 = .ok (.invokevirtual 182, 3) := qd_o182 0 37 qd_g101 rfl rfl
theorem qd_g102 : qd_bs cX4_passPicture 40 [42, 180, 0, 12, 182, 0, 185, 16, 23, 160, 0, 30, 42, 180, 0, 28, 42, 180, 0, 12, 180, 0, 60, 180, 0, 136, 42, 180, 0, 12, 182, 0, 188, 16, 24, 108, 182, 0, 191, 27] = true := by decide +kernel
theorem dX4_passPicture_40 : decode cX4_passPicture 40 = .ok (.aload_n 0, 1) := qd_o42 40 0 qd_g102 rfl
theorem dX4_passPicture_41 : decode cX4_passPicture 41 = .ok (.getfield 12, 3) := qd_o180 40 1 qd_g102 rfl rfl
theorem dX4_passPicture_44 : decode cX4_passPicture 44 = .ok (.invokevirtual 185, 3) := qd_o182 40 4 qd_g102 rfl rfl
theorem dX4_passPicture_47 : decode cX4_passPicture 47 = .ok (.bipush 23, 2) := qd_o16 40 7 qd_g102 rfl rfl
theorem dX4_passPicture_49 : decode cX4_passPicture 49 = .ok (.if_icmp .ne 30, 3) := qd_o160 40 9 qd_g102 rfl rfl
theorem dX4_passPicture_52 : decode cX4_passPicture 52 = .ok (.aload_n 0, 1) := qd_o42 40 12 qd_g102 rfl
theorem dX4_passPicture_53 : decode cX4_passPicture 53 = .ok (.getfield 28, 3) := qd_o180 40 13 qd_g102 rfl rfl
theorem dX4_passPicture_56 : decode cX4_passPicture 56 = .ok (.aload_n 0, 1) := qd_o42 40 16 qd_g102 rfl
theorem dX4_passPicture_57 : decode cX4_passPicture 57 = .ok (.getfield 12, 3) := qd_o180 40 17 qd_g102 rfl rfl
theorem dX4_passPicture_60 : decode cX4_passPicture 60 = .ok (.getfield 60, 3) := qd_o180 40 20 qd_g102 rfl rfl
theorem dX4_passPicture_63 : decode cX4_passPicture 63 = .ok (.getfield 136, 3) := qd_o180 40 23 qd_g102 rfl rfl
theorem dX4_passPicture_66 : decode cX4_passPicture 66 = .ok (.aload_n 0, 1) := qd_o42 40 26 qd_g102 rfl
theorem dX4_passPicture_67 : decode cX4_passPicture 67 = .ok (.getfield 12, 3) := qd_o180 40 27 qd_g102 rfl rfl
theorem dX4_passPicture_70 : decode cX4_passPicture 70 = .ok (.invokevirtual 188, 3) := qd_o182 40 30 qd_g102 rfl rfl
theorem dX4_passPicture_73 : decode cX4_passPicture 73 = .ok (.bipush 24, 2) := qd_o16 40 33 qd_g102 rfl rfl
theorem dX4_passPicture_75 : decode cX4_passPicture 75 = .ok (.idiv, 1) := qd_o108 40 35 qd_g102 rfl
theorem dX4_passPicture_76 : decode cX4_passPicture 76 = .ok (.invokevirtual 191, 3) := qd_o182 40 36 qd_g102 rfl rfl
theorem dX4_passPicture_79 : decode cX4_passPicture 79 = .ok (.iload_n 1, 1) := qd_o27 40 39 qd_g102 rfl
theorem qd_g103 : qd_bs cX4_passPicture 80 [172] = true := by decide +kernel
theorem dX4_passPicture_80 : decode cX4_passPicture 80 = .ok (.ireturn, 1) := qd_o172 80 0 qd_g103 rfl
theorem qd_g104 : qd_bs cX5_describe 0 [43, 28, 182, 0, 9, 62, 29, 184, 0, 15, 54, 4, 43, 28, 4, 96, 17, 15, 255, 126, 182, 0, 9, 54, 5, 42, 3, 182, 0, 20, 42, 28, 182, 0, 26, 87, 42, 16, 32] = true := by decide +kernel
theorem dX5_describe_0 : decode cX5_describe 0 = .ok (.aload_n 1, 1) := qd_o43 0 0 qd_g104 rfl
theorem dX5_describe_1 : decode cX5_describe 1 = .ok (.iload_n 2, 1) := qd_o28 0 1 qd_g104 rfl
theorem dX5_describe_2 : decode cX5_describe 2 = .ok (.invokevirtual 9, 3) := qd_o182 0 2 qd_g104 rfl rfl
theorem dX5_describe_5 : decode cX5_describe 5 = .ok (.istore_n 3, 1) := qd_o62 0 5 qd_g104 rfl
theorem dX5_describe_6 : decode cX5_describe 6 = .ok (.iload_n 3, 1) := qd_o29 0 6 qd_g104 rfl
theorem dX5_describe_7 : decode cX5_describe 7 = .ok (.invokestatic 15, 3) := qd_o184 0 7 qd_g104 rfl rfl
theorem dX5_describe_10 : decode cX5_describe 10 = .ok (.istore 4, 2) := qd_o54 0 10 qd_g104 rfl rfl
theorem dX5_describe_12 : decode cX5_describe 12 = .ok (.aload_n 1, 1) := qd_o43 0 12 qd_g104 rfl
theorem dX5_describe_13 : decode cX5_describe 13 = .ok (.iload_n 2, 1) := qd_o28 0 13 qd_g104 rfl
theorem dX5_describe_14 : decode cX5_describe 14 = .ok (.iconst 1, 1) := qd_o4 0 14 qd_g104 rfl
theorem dX5_describe_15 : decode cX5_describe 15 = .ok (.iadd, 1) := qd_o96 0 15 qd_g104 rfl
theorem dX5_describe_16 : decode cX5_describe 16 = .ok (.sipush 4095, 3) := qd_o17 0 16 qd_g104 rfl rfl
theorem dX5_describe_19 : decode cX5_describe 19 = .ok (.iand, 1) := qd_o126 0 19 qd_g104 rfl
theorem dX5_describe_20 : decode cX5_describe 20 = .ok (.invokevirtual 9, 3) := qd_o182 0 20 qd_g104 rfl rfl
theorem dX5_describe_23 : decode cX5_describe 23 = .ok (.istore 5, 2) := qd_o54 0 23 qd_g104 rfl rfl
theorem dX5_describe_25 : decode cX5_describe 25 = .ok (.aload_n 0, 1) := qd_o42 0 25 qd_g104 rfl
theorem dX5_describe_26 : decode cX5_describe 26 = .ok (.iconst 0, 1) := qd_o3 0 26 qd_g104 rfl
theorem dX5_describe_27 : decode cX5_describe 27 = .ok (.invokevirtual 20, 3) := qd_o182 0 27 qd_g104 rfl rfl
theorem dX5_describe_30 : decode cX5_describe 30 = .ok (.aload_n 0, 1) := qd_o42 0 30 qd_g104 rfl
theorem dX5_describe_31 : decode cX5_describe 31 = .ok (.iload_n 2, 1) := qd_o28 0 31 qd_g104 rfl
theorem dX5_describe_32 : decode cX5_describe 32 = .ok (.invokevirtual 26, 3) := qd_o182 0 32 qd_g104 rfl rfl
theorem dX5_describe_35 : decode cX5_describe 35 = .ok (.pop, 1) := qd_o87 0 35 qd_g104 rfl
theorem dX5_describe_36 : decode cX5_describe 36 = .ok (.aload_n 0, 1) := qd_o42 0 36 qd_g104 rfl
theorem dX5_describe_37 : decode cX5_describe 37 = .ok (.bipush 32, 2) := qd_o16 0 37 qd_g104 rfl rfl
theorem qd_g105 : qd_bs cX5_describe 39 [182, 0, 30, 87, 42, 29, 184, 0, 33, 21, 4, 4, 160, 0, 4, 177, 29, 184, 0, 37, 153, 0, 22, 42, 16, 32, 182, 0, 30, 87, 42, 28, 21, 5, 184, 0, 41, 182, 0, 26] = true := by decide +kernel
theorem dX5_describe_39 : decode cX5_describe 39 = .ok (.invokevirtual 30, 3) := qd_o182 39 0 qd_g105 rfl rfl
theorem dX5_describe_42 : decode cX5_describe 42 = .ok (.pop, 1) := qd_o87 39 3 qd_g105 rfl
theorem dX5_describe_43 : decode cX5_describe 43 = .ok (.aload_n 0, 1) := qd_o42 39 4 qd_g105 rfl
theorem dX5_describe_44 : decode cX5_describe 44 = .ok (.iload_n 3, 1) := qd_o29 39 5 qd_g105 rfl
theorem dX5_describe_45 : decode cX5_describe 45 = .ok (.invokestatic 33, 3) := qd_o184 39 6 qd_g105 rfl rfl
theorem dX5_describe_48 : decode cX5_describe 48 = .ok (.iload 4, 2) := qd_o21 39 9 qd_g105 rfl rfl
theorem dX5_describe_50 : decode cX5_describe 50 = .ok (.iconst 1, 1) := qd_o4 39 11 qd_g105 rfl
theorem dX5_describe_51 : decode cX5_describe 51 = .ok (.if_icmp .ne 4, 3) := qd_o160 39 12 qd_g105 rfl rfl
theorem dX5_describe_54 : decode cX5_describe 54 = .ok (.return_, 1) := qd_o177 39 15 qd_g105 rfl
theorem dX5_describe_55 : decode cX5_describe 55 = .ok (.iload_n 3, 1) := qd_o29 39 16 qd_g105 rfl
theorem dX5_describe_56 : decode cX5_describe 56 = .ok (.invokestatic 37, 3) := qd_o184 39 17 qd_g105 rfl rfl
theorem dX5_describe_59 : decode cX5_describe 59 = .ok (.ifCond .eq 22, 3) := qd_o153 39 20 qd_g105 rfl rfl
theorem dX5_describe_62 : decode cX5_describe 62 = .ok (.aload_n 0, 1) := qd_o42 39 23 qd_g105 rfl
theorem dX5_describe_63 : decode cX5_describe 63 = .ok (.bipush 32, 2) := qd_o16 39 24 qd_g105 rfl rfl
theorem dX5_describe_65 : decode cX5_describe 65 = .ok (.invokevirtual 30, 3) := qd_o182 39 26 qd_g105 rfl rfl
theorem dX5_describe_68 : decode cX5_describe 68 = .ok (.pop, 1) := qd_o87 39 29 qd_g105 rfl
theorem dX5_describe_69 : decode cX5_describe 69 = .ok (.aload_n 0, 1) := qd_o42 39 30 qd_g105 rfl
theorem dX5_describe_70 : decode cX5_describe 70 = .ok (.iload_n 2, 1) := qd_o28 39 31 qd_g105 rfl
theorem dX5_describe_71 : decode cX5_describe 71 = .ok (.iload 5, 2) := qd_o21 39 32 qd_g105 rfl rfl
theorem dX5_describe_73 : decode cX5_describe 73 = .ok (.invokestatic 41, 3) := qd_o184 39 34 qd_g105 rfl rfl
theorem dX5_describe_76 : decode cX5_describe 76 = .ok (.invokevirtual 26, 3) := qd_o182 39 37 qd_g105 rfl rfl
theorem qd_g106 : qd_bs cX5_describe 79 [87, 177, 21, 4, 5, 160, 0, 8, 21, 5, 167, 0, 10, 43, 28, 4, 96, 182, 0, 45, 54, 6, 42, 29, 184, 0, 48, 21, 6, 184, 0, 53, 177] = true := by decide +kernel
theorem dX5_describe_79 : decode cX5_describe 79 = .ok (.pop, 1) := qd_o87 79 0 qd_g106 rfl
theorem dX5_describe_80 : decode cX5_describe 80 = .ok (.return_, 1) := qd_o177 79 1 qd_g106 rfl
theorem dX5_describe_81 : decode cX5_describe 81 = .ok (.iload 4, 2) := qd_o21 79 2 qd_g106 rfl rfl
theorem dX5_describe_83 : decode cX5_describe 83 = .ok (.iconst 2, 1) := qd_o5 79 4 qd_g106 rfl
theorem dX5_describe_84 : decode cX5_describe 84 = .ok (.if_icmp .ne 8, 3) := qd_o160 79 5 qd_g106 rfl rfl
theorem dX5_describe_87 : decode cX5_describe 87 = .ok (.iload 5, 2) := qd_o21 79 8 qd_g106 rfl rfl
theorem dX5_describe_89 : decode cX5_describe 89 = .ok (.goto 10, 3) := qd_o167 79 10 qd_g106 rfl rfl
theorem dX5_describe_92 : decode cX5_describe 92 = .ok (.aload_n 1, 1) := qd_o43 79 13 qd_g106 rfl
theorem dX5_describe_93 : decode cX5_describe 93 = .ok (.iload_n 2, 1) := qd_o28 79 14 qd_g106 rfl
theorem dX5_describe_94 : decode cX5_describe 94 = .ok (.iconst 1, 1) := qd_o4 79 15 qd_g106 rfl
theorem dX5_describe_95 : decode cX5_describe 95 = .ok (.iadd, 1) := qd_o96 79 16 qd_g106 rfl
theorem dX5_describe_96 : decode cX5_describe 96 = .ok (.invokevirtual 45, 3) := qd_o182 79 17 qd_g106 rfl rfl
theorem dX5_describe_99 : decode cX5_describe 99 = .ok (.istore 6, 2) := qd_o54 79 20 qd_g106 rfl rfl
theorem dX5_describe_101 : decode cX5_describe 101 = .ok (.aload_n 0, 1) := qd_o42 79 22 qd_g106 rfl
theorem dX5_describe_102 : decode cX5_describe 102 = .ok (.iload_n 3, 1) := qd_o29 79 23 qd_g106 rfl
theorem dX5_describe_103 : decode cX5_describe 103 = .ok (.invokestatic 48, 3) := qd_o184 79 24 qd_g106 rfl rfl
theorem dX5_describe_106 : decode cX5_describe 106 = .ok (.iload 6, 2) := qd_o21 79 27 qd_g106 rfl rfl
theorem dX5_describe_108 : decode cX5_describe 108 = .ok (.invokestatic 53, 3) := qd_o184 79 29 qd_g106 rfl rfl
theorem dX5_describe_111 : decode cX5_describe 111 = .ok (.return_, 1) := qd_o177 79 32 qd_g106 rfl
theorem qd_g107 : qd_bs cX5_layoutOf 0 [26, 184, 0, 57, 155, 0, 8, 26, 16, 7, 126, 172, 26, 17, 0, 159, 160, 0, 8, 16, 8, 167, 0, 4, 6, 172] = true := by decide +kernel
theorem dX5_layoutOf_0 : decode cX5_layoutOf 0 = .ok (.iload_n 0, 1) := qd_o26 0 0 qd_g107 rfl
theorem dX5_layoutOf_1 : decode cX5_layoutOf 1 = .ok (.invokestatic 57, 3) := qd_o184 0 1 qd_g107 rfl rfl
theorem dX5_layoutOf_4 : decode cX5_layoutOf 4 = .ok (.ifCond .lt 8, 3) := qd_o155 0 4 qd_g107 rfl rfl
theorem dX5_layoutOf_7 : decode cX5_layoutOf 7 = .ok (.iload_n 0, 1) := qd_o26 0 7 qd_g107 rfl
theorem dX5_layoutOf_8 : decode cX5_layoutOf 8 = .ok (.bipush 7, 2) := qd_o16 0 8 qd_g107 rfl rfl
theorem dX5_layoutOf_10 : decode cX5_layoutOf 10 = .ok (.iand, 1) := qd_o126 0 10 qd_g107 rfl
theorem dX5_layoutOf_11 : decode cX5_layoutOf 11 = .ok (.ireturn, 1) := qd_o172 0 11 qd_g107 rfl
theorem dX5_layoutOf_12 : decode cX5_layoutOf 12 = .ok (.iload_n 0, 1) := qd_o26 0 12 qd_g107 rfl
theorem dX5_layoutOf_13 : decode cX5_layoutOf 13 = .ok (.sipush 159, 3) := qd_o17 0 13 qd_g107 rfl rfl
theorem dX5_layoutOf_16 : decode cX5_layoutOf 16 = .ok (.if_icmp .ne 8, 3) := qd_o160 0 16 qd_g107 rfl rfl
theorem dX5_layoutOf_19 : decode cX5_layoutOf 19 = .ok (.bipush 8, 2) := qd_o16 0 19 qd_g107 rfl rfl
theorem dX5_layoutOf_21 : decode cX5_layoutOf 21 = .ok (.goto 4, 3) := qd_o167 0 21 qd_g107 rfl rfl
theorem dX5_layoutOf_24 : decode cX5_layoutOf 24 = .ok (.iconst 3, 1) := qd_o6 0 24 qd_g107 rfl
theorem dX5_layoutOf_25 : decode cX5_layoutOf 25 = .ok (.ireturn, 1) := qd_o172 0 25 qd_g107 rfl
theorem qd_g108 : qd_bs cX5_appendOperand 0 [42, 16, 32, 182, 0, 30, 87, 27, 154, 0, 13, 42, 16, 35, 182, 0, 30, 87, 167, 0, 16, 27, 16, 6, 161, 0, 10, 42, 16, 40, 182, 0, 30, 87, 42, 28, 182, 0, 26, 87] = true := by decide +kernel
theorem dX5_appendOperand_0 : decode cX5_appendOperand 0 = .ok (.aload_n 0, 1) := qd_o42 0 0 qd_g108 rfl
theorem dX5_appendOperand_1 : decode cX5_appendOperand 1 = .ok (.bipush 32, 2) := qd_o16 0 1 qd_g108 rfl rfl
theorem dX5_appendOperand_3 : decode cX5_appendOperand 3 = .ok (.invokevirtual 30, 3) := qd_o182 0 3 qd_g108 rfl rfl
theorem dX5_appendOperand_6 : decode cX5_appendOperand 6 = .ok (.pop, 1) := qd_o87 0 6 qd_g108 rfl
theorem dX5_appendOperand_7 : decode cX5_appendOperand 7 = .ok (.iload_n 1, 1) := qd_o27 0 7 qd_g108 rfl
theorem dX5_appendOperand_8 : decode cX5_appendOperand 8 = .ok (.ifCond .ne 13, 3) := qd_o154 0 8 qd_g108 rfl rfl
theorem dX5_appendOperand_11 : decode cX5_appendOperand 11 = .ok (.aload_n 0, 1) := qd_o42 0 11 qd_g108 rfl
theorem dX5_appendOperand_12 : decode cX5_appendOperand 12 = .ok (.bipush 35, 2) := qd_o16 0 12 qd_g108 rfl rfl
theorem dX5_appendOperand_14 : decode cX5_appendOperand 14 = .ok (.invokevirtual 30, 3) := qd_o182 0 14 qd_g108 rfl rfl
theorem dX5_appendOperand_17 : decode cX5_appendOperand 17 = .ok (.pop, 1) := qd_o87 0 17 qd_g108 rfl
theorem dX5_appendOperand_18 : decode cX5_appendOperand 18 = .ok (.goto 16, 3) := qd_o167 0 18 qd_g108 rfl rfl
theorem dX5_appendOperand_21 : decode cX5_appendOperand 21 = .ok (.iload_n 1, 1) := qd_o27 0 21 qd_g108 rfl
theorem dX5_appendOperand_22 : decode cX5_appendOperand 22 = .ok (.bipush 6, 2) := qd_o16 0 22 qd_g108 rfl rfl
theorem dX5_appendOperand_24 : decode cX5_appendOperand 24 = .ok (.if_icmp .lt 10, 3) := qd_o161 0 24 qd_g108 rfl rfl
theorem dX5_appendOperand_27 : decode cX5_appendOperand 27 = .ok (.aload_n 0, 1) := qd_o42 0 27 qd_g108 rfl
theorem dX5_appendOperand_28 : decode cX5_appendOperand 28 = .ok (.bipush 40, 2) := qd_o16 0 28 qd_g108 rfl rfl
theorem dX5_appendOperand_30 : decode cX5_appendOperand 30 = .ok (.invokevirtual 30, 3) := qd_o182 0 30 qd_g108 rfl rfl
theorem dX5_appendOperand_33 : decode cX5_appendOperand 33 = .ok (.pop, 1) := qd_o87 0 33 qd_g108 rfl
theorem dX5_appendOperand_34 : decode cX5_appendOperand 34 = .ok (.aload_n 0, 1) := qd_o42 0 34 qd_g108 rfl
theorem dX5_appendOperand_35 : decode cX5_appendOperand 35 = .ok (.iload_n 2, 1) := qd_o28 0 35 qd_g108 rfl
theorem dX5_appendOperand_36 : decode cX5_appendOperand 36 = .ok (.invokevirtual 26, 3) := qd_o182 0 36 qd_g108 rfl rfl
theorem dX5_appendOperand_39 : decode cX5_appendOperand 39 = .ok (.pop, 1) := qd_o87 0 39 qd_g108 rfl
theorem qd_g109 : qd_bs cX5_appendOperand 40 [27] = true := by decide +kernel
theorem dX5_appendOperand_40 : decode cX5_appendOperand 40 = .ok (.iload_n 1, 1) := qd_o27 40 0 qd_g109 rfl
theorem dX5_appendOperand_41 : decode cX5_appendOperand 41 = .ok (.tableswitch 93 2 8 #[43, 93, 43, 53, 63, 73, 83], 43) := by decide +kernel
theorem qd_g110 : qd_bs cX5_appendOperand 84 [42, 18, 60, 182, 0, 62, 87, 167, 0, 43, 42, 18, 65, 182, 0, 62, 87, 167, 0, 33, 42, 18, 67, 182, 0, 62, 87, 167, 0, 23, 42, 18, 69, 182, 0, 62, 87, 167, 0, 13] = true := by decide +kernel
theorem dX5_appendOperand_84 : decode cX5_appendOperand 84 = .ok (.aload_n 0, 1) := qd_o42 84 0 qd_g110 rfl
theorem dX5_appendOperand_85 : decode cX5_appendOperand 85 = .ok (.ldc 60, 2) := qd_o18 84 1 qd_g110 rfl rfl
theorem dX5_appendOperand_87 : decode cX5_appendOperand 87 = .ok (.invokevirtual 62, 3) := qd_o182 84 3 qd_g110 rfl rfl
theorem dX5_appendOperand_90 : decode cX5_appendOperand 90 = .ok (.pop, 1) := qd_o87 84 6 qd_g110 rfl
theorem dX5_appendOperand_91 : decode cX5_appendOperand 91 = .ok (.goto 43, 3) := qd_o167 84 7 qd_g110 rfl rfl
theorem dX5_appendOperand_94 : decode cX5_appendOperand 94 = .ok (.aload_n 0, 1) := qd_o42 84 10 qd_g110 rfl
theorem dX5_appendOperand_95 : decode cX5_appendOperand 95 = .ok (.ldc 65, 2) := qd_o18 84 11 qd_g110 rfl rfl
theorem dX5_appendOperand_97 : decode cX5_appendOperand 97 = .ok (.invokevirtual 62, 3) := qd_o182 84 13 qd_g110 rfl rfl
theorem dX5_appendOperand_100 : decode cX5_appendOperand 100 = .ok (.pop, 1) := qd_o87 84 16 qd_g110 rfl
theorem dX5_appendOperand_101 : decode cX5_appendOperand 101 = .ok (.goto 33, 3) := qd_o167 84 17 qd_g110 rfl rfl
theorem dX5_appendOperand_104 : decode cX5_appendOperand 104 = .ok (.aload_n 0, 1) := qd_o42 84 20 qd_g110 rfl
theorem dX5_appendOperand_105 : decode cX5_appendOperand 105 = .ok (.ldc 67, 2) := qd_o18 84 21 qd_g110 rfl rfl
theorem dX5_appendOperand_107 : decode cX5_appendOperand 107 = .ok (.invokevirtual 62, 3) := qd_o182 84 23 qd_g110 rfl rfl
theorem dX5_appendOperand_110 : decode cX5_appendOperand 110 = .ok (.pop, 1) := qd_o87 84 26 qd_g110 rfl
theorem dX5_appendOperand_111 : decode cX5_appendOperand 111 = .ok (.goto 23, 3) := qd_o167 84 27 qd_g110 rfl rfl
theorem dX5_appendOperand_114 : decode cX5_appendOperand 114 = .ok (.aload_n 0, 1) := qd_o42 84 30 qd_g110 rfl
theorem dX5_appendOperand_115 : decode cX5_appendOperand 115 = .ok (.ldc 69, 2) := qd_o18 84 31 qd_g110 rfl rfl
theorem dX5_appendOperand_117 : decode cX5_appendOperand 117 = .ok (.invokevirtual 62, 3) := qd_o182 84 33 qd_g110 rfl rfl
theorem dX5_appendOperand_120 : decode cX5_appendOperand 120 = .ok (.pop, 1) := qd_o87 84 36 qd_g110 rfl
theorem dX5_appendOperand_121 : decode cX5_appendOperand 121 = .ok (.goto 13, 3) := qd_o167 84 37 qd_g110 rfl rfl
theorem qd_g111 : qd_bs cX5_appendOperand 124 [42, 16, 41, 182, 0, 30, 87, 167, 0, 3, 177] = true := by decide +kernel
theorem dX5_appendOperand_124 : decode cX5_appendOperand 124 = .ok (.aload_n 0, 1) := qd_o42 124 0 qd_g111 rfl
theorem dX5_appendOperand_125 : decode cX5_appendOperand 125 = .ok (.bipush 41, 2) := qd_o16 124 1 qd_g111 rfl rfl
theorem dX5_appendOperand_127 : decode cX5_appendOperand 127 = .ok (.invokevirtual 30, 3) := qd_o182 124 3 qd_g111 rfl rfl
theorem dX5_appendOperand_130 : decode cX5_appendOperand 130 = .ok (.pop, 1) := qd_o87 124 6 qd_g111 rfl
theorem dX5_appendOperand_131 : decode cX5_appendOperand 131 = .ok (.goto 3, 3) := qd_o167 124 7 qd_g111 rfl rfl
theorem dX5_appendOperand_134 : decode cX5_appendOperand 134 = .ok (.return_, 1) := qd_o177 124 10 qd_g111 rfl
theorem qd_g112 : qd_bs cX6_init 0 [42, 183, 0, 3, 42, 17, 0, 255, 181, 0, 9, 42, 7, 181, 0, 15, 42, 16, 16] = true := by decide +kernel
theorem dX6_init_0 : decode cX6_init 0 = .ok (.aload_n 0, 1) := qd_o42 0 0 qd_g112 rfl
theorem dX6_init_1 : decode cX6_init 1 = .ok (.invokespecial 3, 3) := qd_o183 0 1 qd_g112 rfl rfl
theorem dX6_init_4 : decode cX6_init 4 = .ok (.aload_n 0, 1) := qd_o42 0 4 qd_g112 rfl
theorem dX6_init_5 : decode cX6_init 5 = .ok (.sipush 255, 3) := qd_o17 0 5 qd_g112 rfl rfl
theorem dX6_init_8 : decode cX6_init 8 = .ok (.putfield 9, 3) := qd_o181 0 8 qd_g112 rfl rfl
theorem dX6_init_11 : decode cX6_init 11 = .ok (.aload_n 0, 1) := qd_o42 0 11 qd_g112 rfl
theorem dX6_init_12 : decode cX6_init 12 = .ok (.iconst 4, 1) := qd_o7 0 12 qd_g112 rfl
theorem dX6_init_13 : decode cX6_init 13 = .ok (.putfield 15, 3) := qd_o181 0 13 qd_g112 rfl rfl
theorem dX6_init_16 : decode cX6_init 16 = .ok (.aload_n 0, 1) := qd_o42 0 16 qd_g112 rfl
theorem dX6_init_17 : decode cX6_init 17 = .ok (.bipush 16, 2) := qd_o16 0 17 qd_g112 rfl rfl
theorem dX6_init_19 : decode cX6_init 19 = .ok (.newarray .int, 2) := by decide +kernel
theorem qd_g113 : qd_bs cX6_init 21 [181, 0, 18, 177] = true := by decide +kernel
theorem dX6_init_21 : decode cX6_init 21 = .ok (.putfield 18, 3) := qd_o181 21 0 qd_g113 rfl rfl
theorem dX6_init_24 : decode cX6_init 24 = .ok (.return_, 1) := qd_o177 21 3 qd_g113 rfl
theorem qd_g114 : qd_bs cX6_become 0 [42, 43, 180, 0, 22, 181, 0, 22, 42, 43, 180, 0, 25, 181, 0, 25, 42, 43, 180, 0, 28, 181, 0, 28, 42, 43, 180, 0, 9, 181, 0, 9, 42, 43, 180, 0, 31, 181, 0, 31] = true := by decide +kernel
theorem dX6_become_0 : decode cX6_become 0 = .ok (.aload_n 0, 1) := qd_o42 0 0 qd_g114 rfl
theorem dX6_become_1 : decode cX6_become 1 = .ok (.aload_n 1, 1) := qd_o43 0 1 qd_g114 rfl
theorem dX6_become_2 : decode cX6_become 2 = .ok (.getfield 22, 3) := qd_o180 0 2 qd_g114 rfl rfl
theorem dX6_become_5 : decode cX6_become 5 = .ok (.putfield 22, 3) := qd_o181 0 5 qd_g114 rfl rfl
theorem dX6_become_8 : decode cX6_become 8 = .ok (.aload_n 0, 1) := qd_o42 0 8 qd_g114 rfl
theorem dX6_become_9 : decode cX6_become 9 = .ok (.aload_n 1, 1) := qd_o43 0 9 qd_g114 rfl
theorem dX6_become_10 : decode cX6_become 10 = .ok (.getfield 25, 3) := qd_o180 0 10 qd_g114 rfl rfl
theorem dX6_become_13 : decode cX6_become 13 = .ok (.putfield 25, 3) := qd_o181 0 13 qd_g114 rfl rfl
theorem dX6_become_16 : decode cX6_become 16 = .ok (.aload_n 0, 1) := qd_o42 0 16 qd_g114 rfl
theorem dX6_become_17 : decode cX6_become 17 = .ok (.aload_n 1, 1) := qd_o43 0 17 qd_g114 rfl
theorem dX6_become_18 : decode cX6_become 18 = .ok (.getfield 28, 3) := qd_o180 0 18 qd_g114 rfl rfl
theorem dX6_become_21 : decode cX6_become 21 = .ok (.putfield 28, 3) := qd_o181 0 21 qd_g114 rfl rfl
theorem dX6_become_24 : decode cX6_become 24 = .ok (.aload_n 0, 1) := qd_o42 0 24 qd_g114 rfl
theorem dX6_become_25 : decode cX6_become 25 = .ok (.aload_n 1, 1) := qd_o43 0 25 qd_g114 rfl
theorem dX6_become_26 : decode cX6_become 26 = .ok (.getfield 9, 3) := qd_o180 0 26 qd_g114 rfl rfl
theorem dX6_become_29 : decode cX6_become 29 = .ok (.putfield 9, 3) := qd_o181 0 29 qd_g114 rfl rfl
theorem dX6_become_32 : decode cX6_become 32 = .ok (.aload_n 0, 1) := qd_o42 0 32 qd_g114 rfl
theorem dX6_become_33 : decode cX6_become 33 = .ok (.aload_n 1, 1) := qd_o43 0 33 qd_g114 rfl
theorem dX6_become_34 : decode cX6_become 34 = .ok (.getfield 31, 3) := qd_o180 0 34 qd_g114 rfl rfl
theorem dX6_become_37 : decode cX6_become 37 = .ok (.putfield 31, 3) := qd_o181 0 37 qd_g114 rfl rfl
theorem qd_g115 : qd_bs cX6_become 40 [42, 43, 180, 0, 15, 181, 0, 15, 42, 43, 180, 0, 34, 181, 0, 34, 42, 43, 180, 0, 38, 181, 0, 38, 42, 43, 180, 0, 41, 181, 0, 41, 42, 43, 180, 0, 44, 181, 0, 44] = true := by decide +kernel
theorem dX6_become_40 : decode cX6_become 40 = .ok (.aload_n 0, 1) := qd_o42 40 0 qd_g115 rfl
theorem dX6_become_41 : decode cX6_become 41 = .ok (.aload_n 1, 1) := qd_o43 40 1 qd_g115 rfl
theorem dX6_become_42 : decode cX6_become 42 = .ok (.getfield 15, 3) := qd_o180 40 2 qd_g115 rfl rfl
theorem dX6_become_45 : decode cX6_become 45 = .ok (.putfield 15, 3) := qd_o181 40 5 qd_g115 rfl rfl
theorem dX6_become_48 : decode cX6_become 48 = .ok (.aload_n 0, 1) := qd_o42 40 8 qd_g115 rfl
theorem dX6_become_49 : decode cX6_become 49 = .ok (.aload_n 1, 1) := qd_o43 40 9 qd_g115 rfl
theorem dX6_become_50 : decode cX6_become 50 = .ok (.getfield 34, 3) := qd_o180 40 10 qd_g115 rfl rfl
theorem dX6_become_53 : decode cX6_become 53 = .ok (.putfield 34, 3) := qd_o181 40 13 qd_g115 rfl rfl
theorem dX6_become_56 : decode cX6_become 56 = .ok (.aload_n 0, 1) := qd_o42 40 16 qd_g115 rfl
theorem dX6_become_57 : decode cX6_become 57 = .ok (.aload_n 1, 1) := qd_o43 40 17 qd_g115 rfl
theorem dX6_become_58 : decode cX6_become 58 = .ok (.getfield 38, 3) := qd_o180 40 18 qd_g115 rfl rfl
theorem dX6_become_61 : decode cX6_become 61 = .ok (.putfield 38, 3) := qd_o181 40 21 qd_g115 rfl rfl
theorem dX6_become_64 : decode cX6_become 64 = .ok (.aload_n 0, 1) := qd_o42 40 24 qd_g115 rfl
theorem dX6_become_65 : decode cX6_become 65 = .ok (.aload_n 1, 1) := qd_o43 40 25 qd_g115 rfl
theorem dX6_become_66 : decode cX6_become 66 = .ok (.getfield 41, 3) := qd_o180 40 26 qd_g115 rfl rfl
theorem dX6_become_69 : decode cX6_become 69 = .ok (.putfield 41, 3) := qd_o181 40 29 qd_g115 rfl rfl
theorem dX6_become_72 : decode cX6_become 72 = .ok (.aload_n 0, 1) := qd_o42 40 32 qd_g115 rfl
theorem dX6_become_73 : decode cX6_become 73 = .ok (.aload_n 1, 1) := qd_o43 40 33 qd_g115 rfl
theorem dX6_become_74 : decode cX6_become 74 = .ok (.getfield 44, 3) := qd_o180 40 34 qd_g115 rfl rfl
theorem dX6_become_77 : decode cX6_become 77 = .ok (.putfield 44, 3) := qd_o181 40 37 qd_g115 rfl rfl
theorem qd_g116 : qd_bs cX6_become 80 [42, 43, 180, 0, 47, 181, 0, 47, 42, 43, 180, 0, 50, 181, 0, 50, 43, 180, 0, 18, 3, 42, 180, 0, 18, 3, 16, 16, 184, 0, 53, 177] = true := by decide +kernel
theorem dX6_become_80 : decode cX6_become 80 = .ok (.aload_n 0, 1) := qd_o42 80 0 qd_g116 rfl
theorem dX6_become_81 : decode cX6_become 81 = .ok (.aload_n 1, 1) := qd_o43 80 1 qd_g116 rfl
theorem dX6_become_82 : decode cX6_become 82 = .ok (.getfield 47, 3) := qd_o180 80 2 qd_g116 rfl rfl
theorem dX6_become_85 : decode cX6_become 85 = .ok (.putfield 47, 3) := qd_o181 80 5 qd_g116 rfl rfl
theorem dX6_become_88 : decode cX6_become 88 = .ok (.aload_n 0, 1) := qd_o42 80 8 qd_g116 rfl
theorem dX6_become_89 : decode cX6_become 89 = .ok (.aload_n 1, 1) := qd_o43 80 9 qd_g116 rfl
theorem dX6_become_90 : decode cX6_become 90 = .ok (.getfield 50, 3) := qd_o180 80 10 qd_g116 rfl rfl
theorem dX6_become_93 : decode cX6_become 93 = .ok (.putfield 50, 3) := qd_o181 80 13 qd_g116 rfl rfl
theorem dX6_become_96 : decode cX6_become 96 = .ok (.aload_n 1, 1) := qd_o43 80 16 qd_g116 rfl
theorem dX6_become_97 : decode cX6_become 97 = .ok (.getfield 18, 3) := qd_o180 80 17 qd_g116 rfl rfl
theorem dX6_become_100 : decode cX6_become 100 = .ok (.iconst 0, 1) := qd_o3 80 20 qd_g116 rfl
theorem dX6_become_101 : decode cX6_become 101 = .ok (.aload_n 0, 1) := qd_o42 80 21 qd_g116 rfl
theorem dX6_become_102 : decode cX6_become 102 = .ok (.getfield 18, 3) := qd_o180 80 22 qd_g116 rfl rfl
theorem dX6_become_105 : decode cX6_become 105 = .ok (.iconst 0, 1) := qd_o3 80 25 qd_g116 rfl
theorem dX6_become_106 : decode cX6_become 106 = .ok (.bipush 16, 2) := qd_o16 80 26 qd_g116 rfl rfl
theorem dX6_become_108 : decode cX6_become 108 = .ok (.invokestatic 53, 3) := qd_o184 80 28 qd_g116 rfl rfl
theorem dX6_become_111 : decode cX6_become 111 = .ok (.return_, 1) := qd_o177 80 31 qd_g116 rfl
theorem qd_g117 : qd_bs cX6_isLike 0 [42, 180, 0, 22, 43, 180, 0, 22, 160, 0, 62, 42, 180, 0, 25, 43, 180, 0, 25, 160, 0, 51, 42, 180, 0, 28, 43, 180, 0, 28, 160, 0, 40, 42, 180, 0, 9, 43] = true := by decide +kernel
theorem dX6_isLike_0 : decode cX6_isLike 0 = .ok (.aload_n 0, 1) := qd_o42 0 0 qd_g117 rfl
theorem dX6_isLike_1 : decode cX6_isLike 1 = .ok (.getfield 22, 3) := qd_o180 0 1 qd_g117 rfl rfl
theorem dX6_isLike_4 : decode cX6_isLike 4 = .ok (.aload_n 1, 1) := qd_o43 0 4 qd_g117 rfl
theorem dX6_isLike_5 : decode cX6_isLike 5 = .ok (.getfield 22, 3) := qd_o180 0 5 qd_g117 rfl rfl
theorem dX6_isLike_8 : decode cX6_isLike 8 = .ok (.if_icmp .ne 62, 3) := qd_o160 0 8 qd_g117 rfl rfl
theorem dX6_isLike_11 : decode cX6_isLike 11 = .ok (.aload_n 0, 1) := qd_o42 0 11 qd_g117 rfl
theorem dX6_isLike_12 : decode cX6_isLike 12 = .ok (.getfield 25, 3) := qd_o180 0 12 qd_g117 rfl rfl
theorem dX6_isLike_15 : decode cX6_isLike 15 = .ok (.aload_n 1, 1) := qd_o43 0 15 qd_g117 rfl
theorem dX6_isLike_16 : decode cX6_isLike 16 = .ok (.getfield 25, 3) := qd_o180 0 16 qd_g117 rfl rfl
theorem dX6_isLike_19 : decode cX6_isLike 19 = .ok (.if_icmp .ne 51, 3) := qd_o160 0 19 qd_g117 rfl rfl
theorem dX6_isLike_22 : decode cX6_isLike 22 = .ok (.aload_n 0, 1) := qd_o42 0 22 qd_g117 rfl
theorem dX6_isLike_23 : decode cX6_isLike 23 = .ok (.getfield 28, 3) := qd_o180 0 23 qd_g117 rfl rfl
theorem dX6_isLike_26 : decode cX6_isLike 26 = .ok (.aload_n 1, 1) := qd_o43 0 26 qd_g117 rfl
theorem dX6_isLike_27 : decode cX6_isLike 27 = .ok (.getfield 28, 3) := qd_o180 0 27 qd_g117 rfl rfl
theorem dX6_isLike_30 : decode cX6_isLike 30 = .ok (.if_icmp .ne 40, 3) := qd_o160 0 30 qd_g117 rfl rfl
theorem dX6_isLike_33 : decode cX6_isLike 33 = .ok (.aload_n 0, 1) := qd_o42 0 33 qd_g117 rfl
theorem dX6_isLike_34 : decode cX6_isLike 34 = .ok (.getfield 9, 3) := qd_o180 0 34 qd_g117 rfl rfl
theorem dX6_isLike_37 : decode cX6_isLike 37 = .ok (.aload_n 1, 1) := qd_o43 0 37 qd_g117 rfl
theorem qd_g118 : qd_bs cX6_isLike 38 [180, 0, 9, 160, 0, 29, 42, 180, 0, 31, 43, 180, 0, 31, 160, 0, 18, 42, 180, 0, 15, 43, 180, 0, 15, 160, 0, 7, 4, 167, 0, 4, 3, 172] = true := by decide +kernel
theorem dX6_isLike_38 : decode cX6_isLike 38 = .ok (.getfield 9, 3) := qd_o180 38 0 qd_g118 rfl rfl
theorem dX6_isLike_41 : decode cX6_isLike 41 = .ok (.if_icmp .ne 29, 3) := qd_o160 38 3 qd_g118 rfl rfl
theorem dX6_isLike_44 : decode cX6_isLike 44 = .ok (.aload_n 0, 1) := qd_o42 38 6 qd_g118 rfl
theorem dX6_isLike_45 : decode cX6_isLike 45 = .ok (.getfield 31, 3) := qd_o180 38 7 qd_g118 rfl rfl
theorem dX6_isLike_48 : decode cX6_isLike 48 = .ok (.aload_n 1, 1) := qd_o43 38 10 qd_g118 rfl
theorem dX6_isLike_49 : decode cX6_isLike 49 = .ok (.getfield 31, 3) := qd_o180 38 11 qd_g118 rfl rfl
theorem dX6_isLike_52 : decode cX6_isLike 52 = .ok (.if_icmp .ne 18, 3) := qd_o160 38 14 qd_g118 rfl rfl
theorem dX6_isLike_55 : decode cX6_isLike 55 = .ok (.aload_n 0, 1) := qd_o42 38 17 qd_g118 rfl
theorem dX6_isLike_56 : decode cX6_isLike 56 = .ok (.getfield 15, 3) := qd_o180 38 18 qd_g118 rfl rfl
theorem dX6_isLike_59 : decode cX6_isLike 59 = .ok (.aload_n 1, 1) := qd_o43 38 21 qd_g118 rfl
theorem dX6_isLike_60 : decode cX6_isLike 60 = .ok (.getfield 15, 3) := qd_o180 38 22 qd_g118 rfl rfl
theorem dX6_isLike_63 : decode cX6_isLike 63 = .ok (.if_icmp .ne 7, 3) := qd_o160 38 25 qd_g118 rfl rfl
theorem dX6_isLike_66 : decode cX6_isLike 66 = .ok (.iconst 1, 1) := qd_o4 38 28 qd_g118 rfl
theorem dX6_isLike_67 : decode cX6_isLike 67 = .ok (.goto 4, 3) := qd_o167 38 29 qd_g118 rfl rfl
theorem dX6_isLike_70 : decode cX6_isLike 70 = .ok (.iconst 0, 1) := qd_o3 38 32 qd_g118 rfl
theorem dX6_isLike_71 : decode cX6_isLike 71 = .ok (.ireturn, 1) := qd_o172 38 33 qd_g118 rfl
theorem qd_g119 : qd_bs cX6_registerOf 0 [27] = true := by decide +kernel
theorem dX6_registerOf_0 : decode cX6_registerOf 0 = .ok (.iload_n 1, 1) := qd_o27 0 0 qd_g119 rfl
theorem dX6_registerOf_1 : decode cX6_registerOf 1 = .ok (.tableswitch 51 0 3 #[31, 36, 41, 46], 31) := by decide +kernel
theorem qd_g120 : qd_bs cX6_registerOf 32 [42, 180, 0, 22, 172, 42, 180, 0, 25, 172, 42, 180, 0, 28, 172, 42, 180, 0, 9, 172, 42, 180, 0, 31, 172] = true := by decide +kernel
theorem dX6_registerOf_32 : decode cX6_registerOf 32 = .ok (.aload_n 0, 1) := qd_o42 32 0 qd_g120 rfl
theorem dX6_registerOf_33 : decode cX6_registerOf 33 = .ok (.getfield 22, 3) := qd_o180 32 1 qd_g120 rfl rfl
theorem dX6_registerOf_36 : decode cX6_registerOf 36 = .ok (.ireturn, 1) := qd_o172 32 4 qd_g120 rfl
theorem dX6_registerOf_37 : decode cX6_registerOf 37 = .ok (.aload_n 0, 1) := qd_o42 32 5 qd_g120 rfl
theorem dX6_registerOf_38 : decode cX6_registerOf 38 = .ok (.getfield 25, 3) := qd_o180 32 6 qd_g120 rfl rfl
theorem dX6_registerOf_41 : decode cX6_registerOf 41 = .ok (.ireturn, 1) := qd_o172 32 9 qd_g120 rfl
theorem dX6_registerOf_42 : decode cX6_registerOf 42 = .ok (.aload_n 0, 1) := qd_o42 32 10 qd_g120 rfl
theorem dX6_registerOf_43 : decode cX6_registerOf 43 = .ok (.getfield 28, 3) := qd_o180 32 11 qd_g120 rfl rfl
theorem dX6_registerOf_46 : decode cX6_registerOf 46 = .ok (.ireturn, 1) := qd_o172 32 14 qd_g120 rfl
theorem dX6_registerOf_47 : decode cX6_registerOf 47 = .ok (.aload_n 0, 1) := qd_o42 32 15 qd_g120 rfl
theorem dX6_registerOf_48 : decode cX6_registerOf 48 = .ok (.getfield 9, 3) := qd_o180 32 16 qd_g120 rfl rfl
theorem dX6_registerOf_51 : decode cX6_registerOf 51 = .ok (.ireturn, 1) := qd_o172 32 19 qd_g120 rfl
theorem dX6_registerOf_52 : decode cX6_registerOf 52 = .ok (.aload_n 0, 1) := qd_o42 32 20 qd_g120 rfl
theorem dX6_registerOf_53 : decode cX6_registerOf 53 = .ok (.getfield 31, 3) := qd_o180 32 21 qd_g120 rfl rfl
theorem dX6_registerOf_56 : decode cX6_registerOf 56 = .ok (.ireturn, 1) := qd_o172 32 24 qd_g120 rfl
theorem qd_g121 : qd_bs cX6_exchange 0 [42, 27, 182, 0, 59, 62, 27] = true := by decide +kernel
theorem dX6_exchange_0 : decode cX6_exchange 0 = .ok (.aload_n 0, 1) := qd_o42 0 0 qd_g121 rfl
theorem dX6_exchange_1 : decode cX6_exchange 1 = .ok (.iload_n 1, 1) := qd_o27 0 1 qd_g121 rfl
theorem dX6_exchange_2 : decode cX6_exchange 2 = .ok (.invokevirtual 59, 3) := qd_o182 0 2 qd_g121 rfl rfl
theorem dX6_exchange_5 : decode cX6_exchange 5 = .ok (.istore_n 3, 1) := qd_o62 0 5 qd_g121 rfl
theorem dX6_exchange_6 : decode cX6_exchange 6 = .ok (.iload_n 1, 1) := qd_o27 0 6 qd_g121 rfl
theorem dX6_exchange_7 : decode cX6_exchange 7 = .ok (.tableswitch 61 0 3 #[29, 37, 45, 53], 29) := by decide +kernel
theorem qd_g122 : qd_bs cX6_exchange 36 [42, 28, 181, 0, 22, 167, 0, 32, 42, 28, 181, 0, 25, 167, 0, 24, 42, 28, 181, 0, 28, 167, 0, 16, 42, 28, 181, 0, 9, 167, 0, 8, 42, 28, 181, 0, 31, 29, 172] = true := by decide +kernel
theorem dX6_exchange_36 : decode cX6_exchange 36 = .ok (.aload_n 0, 1) := qd_o42 36 0 qd_g122 rfl
theorem dX6_exchange_37 : decode cX6_exchange 37 = .ok (.iload_n 2, 1) := qd_o28 36 1 qd_g122 rfl
theorem dX6_exchange_38 : decode cX6_exchange 38 = .ok (.putfield 22, 3) := qd_o181 36 2 qd_g122 rfl rfl
theorem dX6_exchange_41 : decode cX6_exchange 41 = .ok (.goto 32, 3) := qd_o167 36 5 qd_g122 rfl rfl
theorem dX6_exchange_44 : decode cX6_exchange 44 = .ok (.aload_n 0, 1) := qd_o42 36 8 qd_g122 rfl
theorem dX6_exchange_45 : decode cX6_exchange 45 = .ok (.iload_n 2, 1) := qd_o28 36 9 qd_g122 rfl
theorem dX6_exchange_46 : decode cX6_exchange 46 = .ok (.putfield 25, 3) := qd_o181 36 10 qd_g122 rfl rfl
theorem dX6_exchange_49 : decode cX6_exchange 49 = .ok (.goto 24, 3) := qd_o167 36 13 qd_g122 rfl rfl
theorem dX6_exchange_52 : decode cX6_exchange 52 = .ok (.aload_n 0, 1) := qd_o42 36 16 qd_g122 rfl
theorem dX6_exchange_53 : decode cX6_exchange 53 = .ok (.iload_n 2, 1) := qd_o28 36 17 qd_g122 rfl
theorem dX6_exchange_54 : decode cX6_exchange 54 = .ok (.putfield 28, 3) := qd_o181 36 18 qd_g122 rfl rfl
theorem dX6_exchange_57 : decode cX6_exchange 57 = .ok (.goto 16, 3) := qd_o167 36 21 qd_g122 rfl rfl
theorem dX6_exchange_60 : decode cX6_exchange 60 = .ok (.aload_n 0, 1) := qd_o42 36 24 qd_g122 rfl
theorem dX6_exchange_61 : decode cX6_exchange 61 = .ok (.iload_n 2, 1) := qd_o28 36 25 qd_g122 rfl
theorem dX6_exchange_62 : decode cX6_exchange 62 = .ok (.putfield 9, 3) := qd_o181 36 26 qd_g122 rfl rfl
theorem dX6_exchange_65 : decode cX6_exchange 65 = .ok (.goto 8, 3) := qd_o167 36 29 qd_g122 rfl rfl
theorem dX6_exchange_68 : decode cX6_exchange 68 = .ok (.aload_n 0, 1) := qd_o42 36 32 qd_g122 rfl
theorem dX6_exchange_69 : decode cX6_exchange 69 = .ok (.iload_n 2, 1) := qd_o28 36 33 qd_g122 rfl
theorem dX6_exchange_70 : decode cX6_exchange 70 = .ok (.putfield 31, 3) := qd_o181 36 34 qd_g122 rfl rfl
theorem dX6_exchange_73 : decode cX6_exchange 73 = .ok (.iload_n 3, 1) := qd_o29 36 37 qd_g122 rfl
theorem dX6_exchange_74 : decode cX6_exchange 74 = .ok (.ireturn, 1) := qd_o172 36 38 qd_g122 rfl
theorem qd_g123 : qd_bs cX6_startAnew 0 [42, 3, 181, 0, 22, 42, 3, 181, 0, 25, 42, 3, 181, 0, 28, 42, 17, 0, 255, 181, 0, 9, 42, 7, 181, 0, 15, 42, 3, 181, 0, 34, 42, 3, 181, 0, 38, 42, 3] = true := by decide +kernel
theorem dX6_startAnew_0 : decode cX6_startAnew 0 = .ok (.aload_n 0, 1) := qd_o42 0 0 qd_g123 rfl
theorem dX6_startAnew_1 : decode cX6_startAnew 1 = .ok (.iconst 0, 1) := qd_o3 0 1 qd_g123 rfl
theorem dX6_startAnew_2 : decode cX6_startAnew 2 = .ok (.putfield 22, 3) := qd_o181 0 2 qd_g123 rfl rfl
theorem dX6_startAnew_5 : decode cX6_startAnew 5 = .ok (.aload_n 0, 1) := qd_o42 0 5 qd_g123 rfl
theorem dX6_startAnew_6 : decode cX6_startAnew 6 = .ok (.iconst 0, 1) := qd_o3 0 6 qd_g123 rfl
theorem dX6_startAnew_7 : decode cX6_startAnew 7 = .ok (.putfield 25, 3) := qd_o181 0 7 qd_g123 rfl rfl
theorem dX6_startAnew_10 : decode cX6_startAnew 10 = .ok (.aload_n 0, 1) := qd_o42 0 10 qd_g123 rfl
theorem dX6_startAnew_11 : decode cX6_startAnew 11 = .ok (.iconst 0, 1) := qd_o3 0 11 qd_g123 rfl
theorem dX6_startAnew_12 : decode cX6_startAnew 12 = .ok (.putfield 28, 3) := qd_o181 0 12 qd_g123 rfl rfl
theorem dX6_startAnew_15 : decode cX6_startAnew 15 = .ok (.aload_n 0, 1) := qd_o42 0 15 qd_g123 rfl
theorem dX6_startAnew_16 : decode cX6_startAnew 16 = .ok (.sipush 255, 3) := qd_o17 0 16 qd_g123 rfl rfl
theorem dX6_startAnew_19 : decode cX6_startAnew 19 = .ok (.putfield 9, 3) := qd_o181 0 19 qd_g123 rfl rfl
theorem dX6_startAnew_22 : decode cX6_startAnew 22 = .ok (.aload_n 0, 1) := qd_o42 0 22 qd_g123 rfl
theorem dX6_startAnew_23 : decode cX6_startAnew 23 = .ok (.iconst 4, 1) := qd_o7 0 23 qd_g123 rfl
theorem dX6_startAnew_24 : decode cX6_startAnew 24 = .ok (.putfield 15, 3) := qd_o181 0 24 qd_g123 rfl rfl
theorem dX6_startAnew_27 : decode cX6_startAnew 27 = .ok (.aload_n 0, 1) := qd_o42 0 27 qd_g123 rfl
theorem dX6_startAnew_28 : decode cX6_startAnew 28 = .ok (.iconst 0, 1) := qd_o3 0 28 qd_g123 rfl
theorem dX6_startAnew_29 : decode cX6_startAnew 29 = .ok (.putfield 34, 3) := qd_o181 0 29 qd_g123 rfl rfl
theorem dX6_startAnew_32 : decode cX6_startAnew 32 = .ok (.aload_n 0, 1) := qd_o42 0 32 qd_g123 rfl
theorem dX6_startAnew_33 : decode cX6_startAnew 33 = .ok (.iconst 0, 1) := qd_o3 0 33 qd_g123 rfl
theorem dX6_startAnew_34 : decode cX6_startAnew 34 = .ok (.putfield 38, 3) := qd_o181 0 34 qd_g123 rfl rfl
theorem dX6_startAnew_37 : decode cX6_startAnew 37 = .ok (.aload_n 0, 1) := qd_o42 0 37 qd_g123 rfl
theorem dX6_startAnew_38 : decode cX6_startAnew 38 = .ok (.iconst 0, 1) := qd_o3 0 38 qd_g123 rfl
theorem qd_g124 : qd_bs cX6_startAnew 39 [181, 0, 44, 42, 43, 17, 14, 252, 182, 0, 63, 181, 0, 31, 177] = true := by decide +kernel
theorem dX6_startAnew_39 : decode cX6_startAnew 39 = .ok (.putfield 44, 3) := qd_o181 39 0 qd_g124 rfl rfl
theorem dX6_startAnew_42 : decode cX6_startAnew 42 = .ok (.aload_n 0, 1) := qd_o42 39 3 qd_g124 rfl
theorem dX6_startAnew_43 : decode cX6_startAnew 43 = .ok (.aload_n 1, 1) := qd_o43 39 4 qd_g124 rfl
theorem dX6_startAnew_44 : decode cX6_startAnew 44 = .ok (.sipush 3836, 3) := qd_o17 39 5 qd_g124 rfl rfl
theorem dX6_startAnew_47 : decode cX6_startAnew 47 = .ok (.invokevirtual 63, 3) := qd_o182 39 8 qd_g124 rfl rfl
theorem dX6_startAnew_50 : decode cX6_startAnew 50 = .ok (.putfield 31, 3) := qd_o181 39 11 qd_g124 rfl rfl
theorem dX6_startAnew_53 : decode cX6_startAnew 53 = .ok (.return_, 1) := qd_o177 39 14 qd_g124 rfl
theorem qd_g125 : qd_bs cX6_begin 0 [43, 180, 0, 68, 180, 0, 72, 16, 10, 46, 43, 180, 0, 68, 180, 0, 72, 16, 11, 46, 126, 153, 0, 7, 4, 167, 0, 4, 3, 61, 42, 180, 0, 38, 153, 0, 4, 177, 42] = true := by decide +kernel
theorem dX6_begin_0 : decode cX6_begin 0 = .ok (.aload_n 1, 1) := qd_o43 0 0 qd_g125 rfl
theorem dX6_begin_1 : decode cX6_begin 1 = .ok (.getfield 68, 3) := qd_o180 0 1 qd_g125 rfl rfl
theorem dX6_begin_4 : decode cX6_begin 4 = .ok (.getfield 72, 3) := qd_o180 0 4 qd_g125 rfl rfl
theorem dX6_begin_7 : decode cX6_begin 7 = .ok (.bipush 10, 2) := qd_o16 0 7 qd_g125 rfl rfl
theorem dX6_begin_9 : decode cX6_begin 9 = .ok (.iaload, 1) := qd_o46 0 9 qd_g125 rfl
theorem dX6_begin_10 : decode cX6_begin 10 = .ok (.aload_n 1, 1) := qd_o43 0 10 qd_g125 rfl
theorem dX6_begin_11 : decode cX6_begin 11 = .ok (.getfield 68, 3) := qd_o180 0 11 qd_g125 rfl rfl
theorem dX6_begin_14 : decode cX6_begin 14 = .ok (.getfield 72, 3) := qd_o180 0 14 qd_g125 rfl rfl
theorem dX6_begin_17 : decode cX6_begin 17 = .ok (.bipush 11, 2) := qd_o16 0 17 qd_g125 rfl rfl
theorem dX6_begin_19 : decode cX6_begin 19 = .ok (.iaload, 1) := qd_o46 0 19 qd_g125 rfl
theorem dX6_begin_20 : decode cX6_begin 20 = .ok (.iand, 1) := qd_o126 0 20 qd_g125 rfl
theorem dX6_begin_21 : decode cX6_begin 21 = .ok (.ifCond .eq 7, 3) := qd_o153 0 21 qd_g125 rfl rfl
theorem dX6_begin_24 : decode cX6_begin 24 = .ok (.iconst 1, 1) := qd_o4 0 24 qd_g125 rfl
theorem dX6_begin_25 : decode cX6_begin 25 = .ok (.goto 4, 3) := qd_o167 0 25 qd_g125 rfl rfl
theorem dX6_begin_28 : decode cX6_begin 28 = .ok (.iconst 0, 1) := qd_o3 0 28 qd_g125 rfl
theorem dX6_begin_29 : decode cX6_begin 29 = .ok (.istore_n 2, 1) := qd_o61 0 29 qd_g125 rfl
theorem dX6_begin_30 : decode cX6_begin 30 = .ok (.aload_n 0, 1) := qd_o42 0 30 qd_g125 rfl
theorem dX6_begin_31 : decode cX6_begin 31 = .ok (.getfield 38, 3) := qd_o180 0 31 qd_g125 rfl rfl
theorem dX6_begin_34 : decode cX6_begin 34 = .ok (.ifCond .eq 4, 3) := qd_o153 0 34 qd_g125 rfl rfl
theorem dX6_begin_37 : decode cX6_begin 37 = .ok (.return_, 1) := qd_o177 0 37 qd_g125 rfl
theorem dX6_begin_38 : decode cX6_begin 38 = .ok (.aload_n 0, 1) := qd_o42 0 38 qd_g125 rfl
theorem qd_g126 : qd_bs cX6_begin 39 [180, 0, 34, 153, 0, 24, 42, 3, 181, 0, 34, 42, 17, 14, 250, 181, 0, 41, 42, 16, 7, 181, 0, 44, 167, 0, 46, 28, 153, 0, 28, 42, 180, 0, 15, 7, 126, 154, 0, 19] = true := by decide +kernel
theorem dX6_begin_39 : decode cX6_begin 39 = .ok (.getfield 34, 3) := qd_o180 39 0 qd_g126 rfl rfl
theorem dX6_begin_42 : decode cX6_begin 42 = .ok (.ifCond .eq 24, 3) := qd_o153 39 3 qd_g126 rfl rfl
theorem dX6_begin_45 : decode cX6_begin 45 = .ok (.aload_n 0, 1) := qd_o42 39 6 qd_g126 rfl
theorem dX6_begin_46 : decode cX6_begin 46 = .ok (.iconst 0, 1) := qd_o3 39 7 qd_g126 rfl
theorem dX6_begin_47 : decode cX6_begin 47 = .ok (.putfield 34, 3) := qd_o181 39 8 qd_g126 rfl rfl
theorem dX6_begin_50 : decode cX6_begin 50 = .ok (.aload_n 0, 1) := qd_o42 39 11 qd_g126 rfl
theorem dX6_begin_51 : decode cX6_begin 51 = .ok (.sipush 3834, 3) := qd_o17 39 12 qd_g126 rfl rfl
theorem dX6_begin_54 : decode cX6_begin 54 = .ok (.putfield 41, 3) := qd_o181 39 15 qd_g126 rfl rfl
theorem dX6_begin_57 : decode cX6_begin 57 = .ok (.aload_n 0, 1) := qd_o42 39 18 qd_g126 rfl
theorem dX6_begin_58 : decode cX6_begin 58 = .ok (.bipush 7, 2) := qd_o16 39 19 qd_g126 rfl rfl
theorem dX6_begin_60 : decode cX6_begin 60 = .ok (.putfield 44, 3) := qd_o181 39 21 qd_g126 rfl rfl
theorem dX6_begin_63 : decode cX6_begin 63 = .ok (.goto 46, 3) := qd_o167 39 24 qd_g126 rfl rfl
theorem dX6_begin_66 : decode cX6_begin 66 = .ok (.iload_n 2, 1) := qd_o28 39 27 qd_g126 rfl
theorem dX6_begin_67 : decode cX6_begin 67 = .ok (.ifCond .eq 28, 3) := qd_o153 39 28 qd_g126 rfl rfl
theorem dX6_begin_70 : decode cX6_begin 70 = .ok (.aload_n 0, 1) := qd_o42 39 31 qd_g126 rfl
theorem dX6_begin_71 : decode cX6_begin 71 = .ok (.getfield 15, 3) := qd_o180 39 32 qd_g126 rfl rfl
theorem dX6_begin_74 : decode cX6_begin 74 = .ok (.iconst 4, 1) := qd_o7 39 35 qd_g126 rfl
theorem dX6_begin_75 : decode cX6_begin 75 = .ok (.iand, 1) := qd_o126 39 36 qd_g126 rfl
theorem dX6_begin_76 : decode cX6_begin 76 = .ok (.ifCond .ne 19, 3) := qd_o154 39 37 qd_g126 rfl rfl
theorem qd_g127 : qd_bs cX6_begin 79 [42, 17, 14, 254, 181, 0, 41, 42, 16, 7, 181, 0, 44, 167, 0, 17, 42, 3, 181, 0, 41, 42, 42, 43, 182, 0, 77, 181, 0, 44, 177] = true := by decide +kernel
theorem dX6_begin_79 : decode cX6_begin 79 = .ok (.aload_n 0, 1) := qd_o42 79 0 qd_g127 rfl
theorem dX6_begin_80 : decode cX6_begin 80 = .ok (.sipush 3838, 3) := qd_o17 79 1 qd_g127 rfl rfl
theorem dX6_begin_83 : decode cX6_begin 83 = .ok (.putfield 41, 3) := qd_o181 79 4 qd_g127 rfl rfl
theorem dX6_begin_86 : decode cX6_begin 86 = .ok (.aload_n 0, 1) := qd_o42 79 7 qd_g127 rfl
theorem dX6_begin_87 : decode cX6_begin 87 = .ok (.bipush 7, 2) := qd_o16 79 8 qd_g127 rfl rfl
theorem dX6_begin_89 : decode cX6_begin 89 = .ok (.putfield 44, 3) := qd_o181 79 10 qd_g127 rfl rfl
theorem dX6_begin_92 : decode cX6_begin 92 = .ok (.goto 17, 3) := qd_o167 79 13 qd_g127 rfl rfl
theorem dX6_begin_95 : decode cX6_begin 95 = .ok (.aload_n 0, 1) := qd_o42 79 16 qd_g127 rfl
theorem dX6_begin_96 : decode cX6_begin 96 = .ok (.iconst 0, 1) := qd_o3 79 17 qd_g127 rfl
theorem dX6_begin_97 : decode cX6_begin 97 = .ok (.putfield 41, 3) := qd_o181 79 18 qd_g127 rfl rfl
theorem dX6_begin_100 : decode cX6_begin 100 = .ok (.aload_n 0, 1) := qd_o42 79 21 qd_g127 rfl
theorem dX6_begin_101 : decode cX6_begin 101 = .ok (.aload_n 0, 1) := qd_o42 79 22 qd_g127 rfl
theorem dX6_begin_102 : decode cX6_begin 102 = .ok (.aload_n 1, 1) := qd_o43 79 23 qd_g127 rfl
theorem dX6_begin_103 : decode cX6_begin 103 = .ok (.invokevirtual 77, 3) := qd_o182 79 24 qd_g127 rfl rfl
theorem dX6_begin_106 : decode cX6_begin 106 = .ok (.putfield 44, 3) := qd_o181 79 27 qd_g127 rfl rfl
theorem dX6_begin_109 : decode cX6_begin 109 = .ok (.return_, 1) := qd_o177 79 30 qd_g127 rfl
theorem qd_g128 : qd_bs cX6_cyclesAt 0 [43, 42, 180, 0, 31, 182, 0, 81, 61, 28, 184, 0, 84, 62, 28, 16, 7, 126, 54, 4, 28, 184, 0, 89, 153, 0, 18, 42, 28, 43, 42, 4, 182, 0, 93, 182, 0, 81] = true := by decide +kernel
theorem dX6_cyclesAt_0 : decode cX6_cyclesAt 0 = .ok (.aload_n 1, 1) := qd_o43 0 0 qd_g128 rfl
theorem dX6_cyclesAt_1 : decode cX6_cyclesAt 1 = .ok (.aload_n 0, 1) := qd_o42 0 1 qd_g128 rfl
theorem dX6_cyclesAt_2 : decode cX6_cyclesAt 2 = .ok (.getfield 31, 3) := qd_o180 0 2 qd_g128 rfl rfl
theorem dX6_cyclesAt_5 : decode cX6_cyclesAt 5 = .ok (.invokevirtual 81, 3) := qd_o182 0 5 qd_g128 rfl rfl
theorem dX6_cyclesAt_8 : decode cX6_cyclesAt 8 = .ok (.istore_n 2, 1) := qd_o61 0 8 qd_g128 rfl
theorem dX6_cyclesAt_9 : decode cX6_cyclesAt 9 = .ok (.iload_n 2, 1) := qd_o28 0 9 qd_g128 rfl
theorem dX6_cyclesAt_10 : decode cX6_cyclesAt 10 = .ok (.invokestatic 84, 3) := qd_o184 0 10 qd_g128 rfl rfl
theorem dX6_cyclesAt_13 : decode cX6_cyclesAt 13 = .ok (.istore_n 3, 1) := qd_o62 0 13 qd_g128 rfl
theorem dX6_cyclesAt_14 : decode cX6_cyclesAt 14 = .ok (.iload_n 2, 1) := qd_o28 0 14 qd_g128 rfl
theorem dX6_cyclesAt_15 : decode cX6_cyclesAt 15 = .ok (.bipush 7, 2) := qd_o16 0 15 qd_g128 rfl rfl
theorem dX6_cyclesAt_17 : decode cX6_cyclesAt 17 = .ok (.iand, 1) := qd_o126 0 17 qd_g128 rfl
theorem dX6_cyclesAt_18 : decode cX6_cyclesAt 18 = .ok (.istore 4, 2) := qd_o54 0 18 qd_g128 rfl rfl
theorem dX6_cyclesAt_20 : decode cX6_cyclesAt 20 = .ok (.iload_n 2, 1) := qd_o28 0 20 qd_g128 rfl
theorem dX6_cyclesAt_21 : decode cX6_cyclesAt 21 = .ok (.invokestatic 89, 3) := qd_o184 0 21 qd_g128 rfl rfl
theorem dX6_cyclesAt_24 : decode cX6_cyclesAt 24 = .ok (.ifCond .eq 18, 3) := qd_o153 0 24 qd_g128 rfl rfl
theorem dX6_cyclesAt_27 : decode cX6_cyclesAt 27 = .ok (.aload_n 0, 1) := qd_o42 0 27 qd_g128 rfl
theorem dX6_cyclesAt_28 : decode cX6_cyclesAt 28 = .ok (.iload_n 2, 1) := qd_o28 0 28 qd_g128 rfl
theorem dX6_cyclesAt_29 : decode cX6_cyclesAt 29 = .ok (.aload_n 1, 1) := qd_o43 0 29 qd_g128 rfl
theorem dX6_cyclesAt_30 : decode cX6_cyclesAt 30 = .ok (.aload_n 0, 1) := qd_o42 0 30 qd_g128 rfl
theorem dX6_cyclesAt_31 : decode cX6_cyclesAt 31 = .ok (.iconst 1, 1) := qd_o4 0 31 qd_g128 rfl
theorem dX6_cyclesAt_32 : decode cX6_cyclesAt 32 = .ok (.invokevirtual 93, 3) := qd_o182 0 32 qd_g128 rfl rfl
theorem dX6_cyclesAt_35 : decode cX6_cyclesAt 35 = .ok (.invokevirtual 81, 3) := qd_o182 0 35 qd_g128 rfl rfl
theorem qd_g129 : qd_bs cX6_cyclesAt 38 [182, 0, 96, 172, 29, 156, 0, 8, 28, 184, 0, 100, 172, 21, 4, 154, 0, 5, 5, 172, 3, 54, 5, 21, 4, 7, 161, 0, 63, 21, 4, 16, 6, 163, 0, 56, 42, 43, 21, 4] = true := by decide +kernel
theorem dX6_cyclesAt_38 : decode cX6_cyclesAt 38 = .ok (.invokevirtual 96, 3) := qd_o182 38 0 qd_g129 rfl rfl
theorem dX6_cyclesAt_41 : decode cX6_cyclesAt 41 = .ok (.ireturn, 1) := qd_o172 38 3 qd_g129 rfl
theorem dX6_cyclesAt_42 : decode cX6_cyclesAt 42 = .ok (.iload_n 3, 1) := qd_o29 38 4 qd_g129 rfl
theorem dX6_cyclesAt_43 : decode cX6_cyclesAt 43 = .ok (.ifCond .ge 8, 3) := qd_o156 38 5 qd_g129 rfl rfl
theorem dX6_cyclesAt_46 : decode cX6_cyclesAt 46 = .ok (.iload_n 2, 1) := qd_o28 38 8 qd_g129 rfl
theorem dX6_cyclesAt_47 : decode cX6_cyclesAt 47 = .ok (.invokestatic 100, 3) := qd_o184 38 9 qd_g129 rfl rfl
theorem dX6_cyclesAt_50 : decode cX6_cyclesAt 50 = .ok (.ireturn, 1) := qd_o172 38 12 qd_g129 rfl
theorem dX6_cyclesAt_51 : decode cX6_cyclesAt 51 = .ok (.iload 4, 2) := qd_o21 38 13 qd_g129 rfl rfl
theorem dX6_cyclesAt_53 : decode cX6_cyclesAt 53 = .ok (.ifCond .ne 5, 3) := qd_o154 38 15 qd_g129 rfl rfl
theorem dX6_cyclesAt_56 : decode cX6_cyclesAt 56 = .ok (.iconst 2, 1) := qd_o5 38 18 qd_g129 rfl
theorem dX6_cyclesAt_57 : decode cX6_cyclesAt 57 = .ok (.ireturn, 1) := qd_o172 38 19 qd_g129 rfl
theorem dX6_cyclesAt_58 : decode cX6_cyclesAt 58 = .ok (.iconst 0, 1) := qd_o3 38 20 qd_g129 rfl
theorem dX6_cyclesAt_59 : decode cX6_cyclesAt 59 = .ok (.istore 5, 2) := qd_o54 38 21 qd_g129 rfl rfl
theorem dX6_cyclesAt_61 : decode cX6_cyclesAt 61 = .ok (.iload 4, 2) := qd_o21 38 23 qd_g129 rfl rfl
theorem dX6_cyclesAt_63 : decode cX6_cyclesAt 63 = .ok (.iconst 4, 1) := qd_o7 38 25 qd_g129 rfl
theorem dX6_cyclesAt_64 : decode cX6_cyclesAt 64 = .ok (.if_icmp .lt 63, 3) := qd_o161 38 26 qd_g129 rfl rfl
theorem dX6_cyclesAt_67 : decode cX6_cyclesAt 67 = .ok (.iload 4, 2) := qd_o21 38 29 qd_g129 rfl rfl
theorem dX6_cyclesAt_69 : decode cX6_cyclesAt 69 = .ok (.bipush 6, 2) := qd_o16 38 31 qd_g129 rfl rfl
theorem dX6_cyclesAt_71 : decode cX6_cyclesAt 71 = .ok (.if_icmp .gt 56, 3) := qd_o163 38 33 qd_g129 rfl rfl
theorem dX6_cyclesAt_74 : decode cX6_cyclesAt 74 = .ok (.aload_n 0, 1) := qd_o42 38 36 qd_g129 rfl
theorem dX6_cyclesAt_75 : decode cX6_cyclesAt 75 = .ok (.aload_n 1, 1) := qd_o43 38 37 qd_g129 rfl
theorem dX6_cyclesAt_76 : decode cX6_cyclesAt 76 = .ok (.iload 4, 2) := qd_o21 38 38 qd_g129 rfl rfl
theorem qd_g130 : qd_bs cX6_cyclesAt 78 [182, 0, 103, 54, 6, 21, 6, 42, 21, 4, 182, 0, 107, 96, 17, 15, 255, 126, 54, 7, 29, 184, 0, 110, 154, 0, 18, 21, 7, 17, 1, 0, 108, 21, 6, 17, 1, 0, 108] = true := by decide +kernel
theorem dX6_cyclesAt_78 : decode cX6_cyclesAt 78 = .ok (.invokevirtual 103, 3) := qd_o182 78 0 qd_g130 rfl rfl
theorem dX6_cyclesAt_81 : decode cX6_cyclesAt 81 = .ok (.istore 6, 2) := qd_o54 78 3 qd_g130 rfl rfl
theorem dX6_cyclesAt_83 : decode cX6_cyclesAt 83 = .ok (.iload 6, 2) := qd_o21 78 5 qd_g130 rfl rfl
theorem dX6_cyclesAt_85 : decode cX6_cyclesAt 85 = .ok (.aload_n 0, 1) := qd_o42 78 7 qd_g130 rfl
theorem dX6_cyclesAt_86 : decode cX6_cyclesAt 86 = .ok (.iload 4, 2) := qd_o21 78 8 qd_g130 rfl rfl
theorem dX6_cyclesAt_88 : decode cX6_cyclesAt 88 = .ok (.invokevirtual 107, 3) := qd_o182 78 10 qd_g130 rfl rfl
theorem dX6_cyclesAt_91 : decode cX6_cyclesAt 91 = .ok (.iadd, 1) := qd_o96 78 13 qd_g130 rfl
theorem dX6_cyclesAt_92 : decode cX6_cyclesAt 92 = .ok (.sipush 4095, 3) := qd_o17 78 14 qd_g130 rfl rfl
theorem dX6_cyclesAt_95 : decode cX6_cyclesAt 95 = .ok (.iand, 1) := qd_o126 78 17 qd_g130 rfl
theorem dX6_cyclesAt_96 : decode cX6_cyclesAt 96 = .ok (.istore 7, 2) := qd_o54 78 18 qd_g130 rfl rfl
theorem dX6_cyclesAt_98 : decode cX6_cyclesAt 98 = .ok (.iload_n 3, 1) := qd_o29 78 20 qd_g130 rfl
theorem dX6_cyclesAt_99 : decode cX6_cyclesAt 99 = .ok (.invokestatic 110, 3) := qd_o184 78 21 qd_g130 rfl rfl
theorem dX6_cyclesAt_102 : decode cX6_cyclesAt 102 = .ok (.ifCond .ne 18, 3) := qd_o154 78 24 qd_g130 rfl rfl
theorem dX6_cyclesAt_105 : decode cX6_cyclesAt 105 = .ok (.iload 7, 2) := qd_o21 78 27 qd_g130 rfl rfl
theorem dX6_cyclesAt_107 : decode cX6_cyclesAt 107 = .ok (.sipush 256, 3) := qd_o17 78 29 qd_g130 rfl rfl
theorem dX6_cyclesAt_110 : decode cX6_cyclesAt 110 = .ok (.idiv, 1) := qd_o108 78 32 qd_g130 rfl
theorem dX6_cyclesAt_111 : decode cX6_cyclesAt 111 = .ok (.iload 6, 2) := qd_o21 78 33 qd_g130 rfl rfl
theorem dX6_cyclesAt_113 : decode cX6_cyclesAt 113 = .ok (.sipush 256, 3) := qd_o17 78 35 qd_g130 rfl rfl
theorem dX6_cyclesAt_116 : decode cX6_cyclesAt 116 = .ok (.idiv, 1) := qd_o108 78 38 qd_g130 rfl
theorem qd_g131 : qd_bs cX6_cyclesAt 117 [159, 0, 7, 4, 167, 0, 4, 3, 54, 5, 21, 4, 184, 0, 113, 21, 5, 153, 0, 7, 4, 167, 0, 4, 3, 96, 29, 184, 0, 116, 153, 0, 7, 5, 167, 0, 4, 3, 96, 172] = true := by decide +kernel
theorem dX6_cyclesAt_117 : decode cX6_cyclesAt 117 = .ok (.if_icmp .eq 7, 3) := qd_o159 117 0 qd_g131 rfl rfl
theorem dX6_cyclesAt_120 : decode cX6_cyclesAt 120 = .ok (.iconst 1, 1) := qd_o4 117 3 qd_g131 rfl
theorem dX6_cyclesAt_121 : decode cX6_cyclesAt 121 = .ok (.goto 4, 3) := qd_o167 117 4 qd_g131 rfl rfl
theorem dX6_cyclesAt_124 : decode cX6_cyclesAt 124 = .ok (.iconst 0, 1) := qd_o3 117 7 qd_g131 rfl
theorem dX6_cyclesAt_125 : decode cX6_cyclesAt 125 = .ok (.istore 5, 2) := qd_o54 117 8 qd_g131 rfl rfl
theorem dX6_cyclesAt_127 : decode cX6_cyclesAt 127 = .ok (.iload 4, 2) := qd_o21 117 10 qd_g131 rfl rfl
theorem dX6_cyclesAt_129 : decode cX6_cyclesAt 129 = .ok (.invokestatic 113, 3) := qd_o184 117 12 qd_g131 rfl rfl
theorem dX6_cyclesAt_132 : decode cX6_cyclesAt 132 = .ok (.iload 5, 2) := qd_o21 117 15 qd_g131 rfl rfl
theorem dX6_cyclesAt_134 : decode cX6_cyclesAt 134 = .ok (.ifCond .eq 7, 3) := qd_o153 117 17 qd_g131 rfl rfl
theorem dX6_cyclesAt_137 : decode cX6_cyclesAt 137 = .ok (.iconst 1, 1) := qd_o4 117 20 qd_g131 rfl
theorem dX6_cyclesAt_138 : decode cX6_cyclesAt 138 = .ok (.goto 4, 3) := qd_o167 117 21 qd_g131 rfl rfl
theorem dX6_cyclesAt_141 : decode cX6_cyclesAt 141 = .ok (.iconst 0, 1) := qd_o3 117 24 qd_g131 rfl
theorem dX6_cyclesAt_142 : decode cX6_cyclesAt 142 = .ok (.iadd, 1) := qd_o96 117 25 qd_g131 rfl
theorem dX6_cyclesAt_143 : decode cX6_cyclesAt 143 = .ok (.iload_n 3, 1) := qd_o29 117 26 qd_g131 rfl
theorem dX6_cyclesAt_144 : decode cX6_cyclesAt 144 = .ok (.invokestatic 116, 3) := qd_o184 117 27 qd_g131 rfl rfl
theorem dX6_cyclesAt_147 : decode cX6_cyclesAt 147 = .ok (.ifCond .eq 7, 3) := qd_o153 117 30 qd_g131 rfl rfl
theorem dX6_cyclesAt_150 : decode cX6_cyclesAt 150 = .ok (.iconst 2, 1) := qd_o5 117 33 qd_g131 rfl
theorem dX6_cyclesAt_151 : decode cX6_cyclesAt 151 = .ok (.goto 4, 3) := qd_o167 117 34 qd_g131 rfl rfl
theorem dX6_cyclesAt_154 : decode cX6_cyclesAt 154 = .ok (.iconst 0, 1) := qd_o3 117 37 qd_g131 rfl
theorem dX6_cyclesAt_155 : decode cX6_cyclesAt 155 = .ok (.iadd, 1) := qd_o96 117 38 qd_g131 rfl
theorem dX6_cyclesAt_156 : decode cX6_cyclesAt 156 = .ok (.ireturn, 1) := qd_o172 117 39 qd_g131 rfl
theorem qd_g132 : qd_bs cX6_cyclesOfBranch 0 [42, 27, 182, 0, 119, 154, 0, 5, 5, 172, 42, 28, 182, 0, 122, 17, 1, 0, 108, 42, 5, 182, 0, 93, 17, 1, 0, 108, 160, 0, 7, 6, 167, 0, 4, 7, 172] = true := by decide +kernel
theorem dX6_cyclesOfBranch_0 : decode cX6_cyclesOfBranch 0 = .ok (.aload_n 0, 1) := qd_o42 0 0 qd_g132 rfl
theorem dX6_cyclesOfBranch_1 : decode cX6_cyclesOfBranch 1 = .ok (.iload_n 1, 1) := qd_o27 0 1 qd_g132 rfl
theorem dX6_cyclesOfBranch_2 : decode cX6_cyclesOfBranch 2 = .ok (.invokevirtual 119, 3) := qd_o182 0 2 qd_g132 rfl rfl
theorem dX6_cyclesOfBranch_5 : decode cX6_cyclesOfBranch 5 = .ok (.ifCond .ne 5, 3) := qd_o154 0 5 qd_g132 rfl rfl
theorem dX6_cyclesOfBranch_8 : decode cX6_cyclesOfBranch 8 = .ok (.iconst 2, 1) := qd_o5 0 8 qd_g132 rfl
theorem dX6_cyclesOfBranch_9 : decode cX6_cyclesOfBranch 9 = .ok (.ireturn, 1) := qd_o172 0 9 qd_g132 rfl
theorem dX6_cyclesOfBranch_10 : decode cX6_cyclesOfBranch 10 = .ok (.aload_n 0, 1) := qd_o42 0 10 qd_g132 rfl
theorem dX6_cyclesOfBranch_11 : decode cX6_cyclesOfBranch 11 = .ok (.iload_n 2, 1) := qd_o28 0 11 qd_g132 rfl
theorem dX6_cyclesOfBranch_12 : decode cX6_cyclesOfBranch 12 = .ok (.invokevirtual 122, 3) := qd_o182 0 12 qd_g132 rfl rfl
theorem dX6_cyclesOfBranch_15 : decode cX6_cyclesOfBranch 15 = .ok (.sipush 256, 3) := qd_o17 0 15 qd_g132 rfl rfl
theorem dX6_cyclesOfBranch_18 : decode cX6_cyclesOfBranch 18 = .ok (.idiv, 1) := qd_o108 0 18 qd_g132 rfl
theorem dX6_cyclesOfBranch_19 : decode cX6_cyclesOfBranch 19 = .ok (.aload_n 0, 1) := qd_o42 0 19 qd_g132 rfl
theorem dX6_cyclesOfBranch_20 : decode cX6_cyclesOfBranch 20 = .ok (.iconst 2, 1) := qd_o5 0 20 qd_g132 rfl
theorem dX6_cyclesOfBranch_21 : decode cX6_cyclesOfBranch 21 = .ok (.invokevirtual 93, 3) := qd_o182 0 21 qd_g132 rfl rfl
theorem dX6_cyclesOfBranch_24 : decode cX6_cyclesOfBranch 24 = .ok (.sipush 256, 3) := qd_o17 0 24 qd_g132 rfl rfl
theorem dX6_cyclesOfBranch_27 : decode cX6_cyclesOfBranch 27 = .ok (.idiv, 1) := qd_o108 0 27 qd_g132 rfl
theorem dX6_cyclesOfBranch_28 : decode cX6_cyclesOfBranch 28 = .ok (.if_icmp .ne 7, 3) := qd_o160 0 28 qd_g132 rfl rfl
theorem dX6_cyclesOfBranch_31 : decode cX6_cyclesOfBranch 31 = .ok (.iconst 3, 1) := qd_o6 0 31 qd_g132 rfl
theorem dX6_cyclesOfBranch_32 : decode cX6_cyclesOfBranch 32 = .ok (.goto 4, 3) := qd_o167 0 32 qd_g132 rfl rfl
theorem dX6_cyclesOfBranch_35 : decode cX6_cyclesOfBranch 35 = .ok (.iconst 4, 1) := qd_o7 0 35 qd_g132 rfl
theorem dX6_cyclesOfBranch_36 : decode cX6_cyclesOfBranch 36 = .ok (.ireturn, 1) := qd_o172 0 36 qd_g132 rfl
theorem qd_g133 : qd_bs cX6_targetOf 0 [42, 180, 0, 31, 27, 184, 0, 125, 172] = true := by decide +kernel
theorem dX6_targetOf_0 : decode cX6_targetOf 0 = .ok (.aload_n 0, 1) := qd_o42 0 0 qd_g133 rfl
theorem dX6_targetOf_1 : decode cX6_targetOf 1 = .ok (.getfield 31, 3) := qd_o180 0 1 qd_g133 rfl rfl
theorem dX6_targetOf_4 : decode cX6_targetOf 4 = .ok (.iload_n 1, 1) := qd_o27 0 4 qd_g133 rfl
theorem dX6_targetOf_5 : decode cX6_targetOf 5 = .ok (.invokestatic 125, 3) := qd_o184 0 5 qd_g133 rfl rfl
theorem dX6_targetOf_8 : decode cX6_targetOf 8 = .ok (.ireturn, 1) := qd_o172 0 8 qd_g133 rfl
theorem qd_g134 : qd_bs cX6_behind 0 [42, 180, 0, 31, 27, 96, 17, 15, 255, 126, 172] = true := by decide +kernel
theorem dX6_behind_0 : decode cX6_behind 0 = .ok (.aload_n 0, 1) := qd_o42 0 0 qd_g134 rfl
theorem dX6_behind_1 : decode cX6_behind 1 = .ok (.getfield 31, 3) := qd_o180 0 1 qd_g134 rfl rfl
theorem dX6_behind_4 : decode cX6_behind 4 = .ok (.iload_n 1, 1) := qd_o27 0 4 qd_g134 rfl
theorem dX6_behind_5 : decode cX6_behind 5 = .ok (.iadd, 1) := qd_o96 0 5 qd_g134 rfl
theorem dX6_behind_6 : decode cX6_behind 6 = .ok (.sipush 4095, 3) := qd_o17 0 6 qd_g134 rfl rfl
theorem dX6_behind_9 : decode cX6_behind 9 = .ok (.iand, 1) := qd_o126 0 9 qd_g134 rfl
theorem dX6_behind_10 : decode cX6_behind 10 = .ok (.ireturn, 1) := qd_o172 0 10 qd_g134 rfl
theorem qd_g135 : qd_bs cX6_isLastCycle 0 [42, 180, 0, 44, 154, 0, 5, 3, 172, 42, 89, 180, 0, 44, 4, 100, 181, 0, 44, 42, 180, 0, 44, 154, 0, 7, 4, 167, 0, 4, 3, 172] = true := by decide +kernel
theorem dX6_isLastCycle_0 : decode cX6_isLastCycle 0 = .ok (.aload_n 0, 1) := qd_o42 0 0 qd_g135 rfl
theorem dX6_isLastCycle_1 : decode cX6_isLastCycle 1 = .ok (.getfield 44, 3) := qd_o180 0 1 qd_g135 rfl rfl
theorem dX6_isLastCycle_4 : decode cX6_isLastCycle 4 = .ok (.ifCond .ne 5, 3) := qd_o154 0 4 qd_g135 rfl rfl
theorem dX6_isLastCycle_7 : decode cX6_isLastCycle 7 = .ok (.iconst 0, 1) := qd_o3 0 7 qd_g135 rfl
theorem dX6_isLastCycle_8 : decode cX6_isLastCycle 8 = .ok (.ireturn, 1) := qd_o172 0 8 qd_g135 rfl
theorem dX6_isLastCycle_9 : decode cX6_isLastCycle 9 = .ok (.aload_n 0, 1) := qd_o42 0 9 qd_g135 rfl
theorem dX6_isLastCycle_10 : decode cX6_isLastCycle 10 = .ok (.dup, 1) := qd_o89 0 10 qd_g135 rfl
theorem dX6_isLastCycle_11 : decode cX6_isLastCycle 11 = .ok (.getfield 44, 3) := qd_o180 0 11 qd_g135 rfl rfl
theorem dX6_isLastCycle_14 : decode cX6_isLastCycle 14 = .ok (.iconst 1, 1) := qd_o4 0 14 qd_g135 rfl
theorem dX6_isLastCycle_15 : decode cX6_isLastCycle 15 = .ok (.isub, 1) := qd_o100 0 15 qd_g135 rfl
theorem dX6_isLastCycle_16 : decode cX6_isLastCycle 16 = .ok (.putfield 44, 3) := qd_o181 0 16 qd_g135 rfl rfl
theorem dX6_isLastCycle_19 : decode cX6_isLastCycle 19 = .ok (.aload_n 0, 1) := qd_o42 0 19 qd_g135 rfl
theorem dX6_isLastCycle_20 : decode cX6_isLastCycle 20 = .ok (.getfield 44, 3) := qd_o180 0 20 qd_g135 rfl rfl
theorem dX6_isLastCycle_23 : decode cX6_isLastCycle 23 = .ok (.ifCond .ne 7, 3) := qd_o154 0 23 qd_g135 rfl rfl
theorem dX6_isLastCycle_26 : decode cX6_isLastCycle 26 = .ok (.iconst 1, 1) := qd_o4 0 26 qd_g135 rfl
theorem dX6_isLastCycle_27 : decode cX6_isLastCycle 27 = .ok (.goto 4, 3) := qd_o167 0 27 qd_g135 rfl rfl
theorem dX6_isLastCycle_30 : decode cX6_isLastCycle 30 = .ok (.iconst 0, 1) := qd_o3 0 30 qd_g135 rfl
theorem dX6_isLastCycle_31 : decode cX6_isLastCycle 31 = .ok (.ireturn, 1) := qd_o172 0 31 qd_g135 rfl
theorem qd_g136 : qd_bs cX6_finish 0 [42, 89, 180, 0, 47, 4, 96, 181, 0, 47, 42, 180, 0, 41, 153, 0, 24, 42, 43, 42, 180, 0, 31, 42, 180, 0, 15, 16, 32, 128, 42, 180, 0, 41, 182, 0, 127, 177, 42] = true := by decide +kernel
theorem dX6_finish_0 : decode cX6_finish 0 = .ok (.aload_n 0, 1) := qd_o42 0 0 qd_g136 rfl
theorem dX6_finish_1 : decode cX6_finish 1 = .ok (.dup, 1) := qd_o89 0 1 qd_g136 rfl
theorem dX6_finish_2 : decode cX6_finish 2 = .ok (.getfield 47, 3) := qd_o180 0 2 qd_g136 rfl rfl
theorem dX6_finish_5 : decode cX6_finish 5 = .ok (.iconst 1, 1) := qd_o4 0 5 qd_g136 rfl
theorem dX6_finish_6 : decode cX6_finish 6 = .ok (.iadd, 1) := qd_o96 0 6 qd_g136 rfl
theorem dX6_finish_7 : decode cX6_finish 7 = .ok (.putfield 47, 3) := qd_o181 0 7 qd_g136 rfl rfl
theorem dX6_finish_10 : decode cX6_finish 10 = .ok (.aload_n 0, 1) := qd_o42 0 10 qd_g136 rfl
theorem dX6_finish_11 : decode cX6_finish 11 = .ok (.getfield 41, 3) := qd_o180 0 11 qd_g136 rfl rfl
theorem dX6_finish_14 : decode cX6_finish 14 = .ok (.ifCond .eq 24, 3) := qd_o153 0 14 qd_g136 rfl rfl
theorem dX6_finish_17 : decode cX6_finish 17 = .ok (.aload_n 0, 1) := qd_o42 0 17 qd_g136 rfl
theorem dX6_finish_18 : decode cX6_finish 18 = .ok (.aload_n 1, 1) := qd_o43 0 18 qd_g136 rfl
theorem dX6_finish_19 : decode cX6_finish 19 = .ok (.aload_n 0, 1) := qd_o42 0 19 qd_g136 rfl
theorem dX6_finish_20 : decode cX6_finish 20 = .ok (.getfield 31, 3) := qd_o180 0 20 qd_g136 rfl rfl
theorem dX6_finish_23 : decode cX6_finish 23 = .ok (.aload_n 0, 1) := qd_o42 0 23 qd_g136 rfl
theorem dX6_finish_24 : decode cX6_finish 24 = .ok (.getfield 15, 3) := qd_o180 0 24 qd_g136 rfl rfl
theorem dX6_finish_27 : decode cX6_finish 27 = .ok (.bipush 32, 2) := qd_o16 0 27 qd_g136 rfl rfl
theorem dX6_finish_29 : decode cX6_finish 29 = .ok (.ior, 1) := qd_o128 0 29 qd_g136 rfl
theorem dX6_finish_30 : decode cX6_finish 30 = .ok (.aload_n 0, 1) := qd_o42 0 30 qd_g136 rfl
theorem dX6_finish_31 : decode cX6_finish 31 = .ok (.getfield 41, 3) := qd_o180 0 31 qd_g136 rfl rfl
theorem dX6_finish_34 : decode cX6_finish 34 = .ok (.invokevirtual 127, 3) := qd_o182 0 34 qd_g136 rfl rfl
theorem dX6_finish_37 : decode cX6_finish 37 = .ok (.return_, 1) := qd_o177 0 37 qd_g136 rfl
theorem dX6_finish_38 : decode cX6_finish 38 = .ok (.aload_n 0, 1) := qd_o42 0 38 qd_g136 rfl
theorem qd_g137 : qd_bs cX6_finish 39 [180, 0, 18, 42, 180, 0, 50, 16, 15, 126, 42, 180, 0, 31, 79, 42, 89, 180, 0, 50, 4, 96, 181, 0, 50, 43, 42, 180, 0, 31, 182, 0, 81, 61, 28, 184, 0, 84, 62, 28] = true := by decide +kernel
theorem dX6_finish_39 : decode cX6_finish 39 = .ok (.getfield 18, 3) := qd_o180 39 0 qd_g137 rfl rfl
theorem dX6_finish_42 : decode cX6_finish 42 = .ok (.aload_n 0, 1) := qd_o42 39 3 qd_g137 rfl
theorem dX6_finish_43 : decode cX6_finish 43 = .ok (.getfield 50, 3) := qd_o180 39 4 qd_g137 rfl rfl
theorem dX6_finish_46 : decode cX6_finish 46 = .ok (.bipush 15, 2) := qd_o16 39 7 qd_g137 rfl rfl
theorem dX6_finish_48 : decode cX6_finish 48 = .ok (.iand, 1) := qd_o126 39 9 qd_g137 rfl
theorem dX6_finish_49 : decode cX6_finish 49 = .ok (.aload_n 0, 1) := qd_o42 39 10 qd_g137 rfl
theorem dX6_finish_50 : decode cX6_finish 50 = .ok (.getfield 31, 3) := qd_o180 39 11 qd_g137 rfl rfl
theorem dX6_finish_53 : decode cX6_finish 53 = .ok (.iastore, 1) := qd_o79 39 14 qd_g137 rfl
theorem dX6_finish_54 : decode cX6_finish 54 = .ok (.aload_n 0, 1) := qd_o42 39 15 qd_g137 rfl
theorem dX6_finish_55 : decode cX6_finish 55 = .ok (.dup, 1) := qd_o89 39 16 qd_g137 rfl
theorem dX6_finish_56 : decode cX6_finish 56 = .ok (.getfield 50, 3) := qd_o180 39 17 qd_g137 rfl rfl
theorem dX6_finish_59 : decode cX6_finish 59 = .ok (.iconst 1, 1) := qd_o4 39 20 qd_g137 rfl
theorem dX6_finish_60 : decode cX6_finish 60 = .ok (.iadd, 1) := qd_o96 39 21 qd_g137 rfl
theorem dX6_finish_61 : decode cX6_finish 61 = .ok (.putfield 50, 3) := qd_o181 39 22 qd_g137 rfl rfl
theorem dX6_finish_64 : decode cX6_finish 64 = .ok (.aload_n 1, 1) := qd_o43 39 25 qd_g137 rfl
theorem dX6_finish_65 : decode cX6_finish 65 = .ok (.aload_n 0, 1) := qd_o42 39 26 qd_g137 rfl
theorem dX6_finish_66 : decode cX6_finish 66 = .ok (.getfield 31, 3) := qd_o180 39 27 qd_g137 rfl rfl
theorem dX6_finish_69 : decode cX6_finish 69 = .ok (.invokevirtual 81, 3) := qd_o182 39 30 qd_g137 rfl rfl
theorem dX6_finish_72 : decode cX6_finish 72 = .ok (.istore_n 2, 1) := qd_o61 39 33 qd_g137 rfl
theorem dX6_finish_73 : decode cX6_finish 73 = .ok (.iload_n 2, 1) := qd_o28 39 34 qd_g137 rfl
theorem dX6_finish_74 : decode cX6_finish 74 = .ok (.invokestatic 84, 3) := qd_o184 39 35 qd_g137 rfl rfl
theorem dX6_finish_77 : decode cX6_finish 77 = .ok (.istore_n 3, 1) := qd_o62 39 38 qd_g137 rfl
theorem dX6_finish_78 : decode cX6_finish 78 = .ok (.iload_n 2, 1) := qd_o28 39 39 qd_g137 rfl
theorem qd_g138 : qd_bs cX6_finish 79 [16, 7, 126, 54, 4, 42, 28, 184, 0, 131, 182, 0, 93, 54, 5, 28, 17, 0, 154, 160, 0, 24, 42, 43, 21, 5, 42, 180, 0, 15, 16, 32, 128, 16, 16, 128, 17, 14, 254] = true := by decide +kernel
theorem dX6_finish_79 : decode cX6_finish 79 = .ok (.bipush 7, 2) := qd_o16 79 0 qd_g138 rfl rfl
theorem dX6_finish_81 : decode cX6_finish 81 = .ok (.iand, 1) := qd_o126 79 2 qd_g138 rfl
theorem dX6_finish_82 : decode cX6_finish 82 = .ok (.istore 4, 2) := qd_o54 79 3 qd_g138 rfl rfl
theorem dX6_finish_84 : decode cX6_finish 84 = .ok (.aload_n 0, 1) := qd_o42 79 5 qd_g138 rfl
theorem dX6_finish_85 : decode cX6_finish 85 = .ok (.iload_n 2, 1) := qd_o28 79 6 qd_g138 rfl
theorem dX6_finish_86 : decode cX6_finish 86 = .ok (.invokestatic 131, 3) := qd_o184 79 7 qd_g138 rfl rfl
theorem dX6_finish_89 : decode cX6_finish 89 = .ok (.invokevirtual 93, 3) := qd_o182 79 10 qd_g138 rfl rfl
theorem dX6_finish_92 : decode cX6_finish 92 = .ok (.istore 5, 2) := qd_o54 79 13 qd_g138 rfl rfl
theorem dX6_finish_94 : decode cX6_finish 94 = .ok (.iload_n 2, 1) := qd_o28 79 15 qd_g138 rfl
theorem dX6_finish_95 : decode cX6_finish 95 = .ok (.sipush 154, 3) := qd_o17 79 16 qd_g138 rfl rfl
theorem dX6_finish_98 : decode cX6_finish 98 = .ok (.if_icmp .ne 24, 3) := qd_o160 79 19 qd_g138 rfl rfl
theorem dX6_finish_101 : decode cX6_finish 101 = .ok (.aload_n 0, 1) := qd_o42 79 22 qd_g138 rfl
theorem dX6_finish_102 : decode cX6_finish 102 = .ok (.aload_n 1, 1) := qd_o43 79 23 qd_g138 rfl
theorem dX6_finish_103 : decode cX6_finish 103 = .ok (.iload 5, 2) := qd_o21 79 24 qd_g138 rfl rfl
theorem dX6_finish_105 : decode cX6_finish 105 = .ok (.aload_n 0, 1) := qd_o42 79 26 qd_g138 rfl
theorem dX6_finish_106 : decode cX6_finish 106 = .ok (.getfield 15, 3) := qd_o180 79 27 qd_g138 rfl rfl
theorem dX6_finish_109 : decode cX6_finish 109 = .ok (.bipush 32, 2) := qd_o16 79 30 qd_g138 rfl rfl
theorem dX6_finish_111 : decode cX6_finish 111 = .ok (.ior, 1) := qd_o128 79 32 qd_g138 rfl
theorem dX6_finish_112 : decode cX6_finish 112 = .ok (.bipush 16, 2) := qd_o16 79 33 qd_g138 rfl rfl
theorem dX6_finish_114 : decode cX6_finish 114 = .ok (.ior, 1) := qd_o128 79 35 qd_g138 rfl
theorem dX6_finish_115 : decode cX6_finish 115 = .ok (.sipush 3838, 3) := qd_o17 79 36 qd_g138 rfl rfl
theorem qd_g139 : qd_bs cX6_finish 118 [182, 0, 127, 177, 29, 156, 0, 19, 28, 17, 0, 154, 162, 0, 12, 42, 43, 28, 182, 0, 134, 167, 0, 81, 29, 156, 0, 16, 42, 43, 28, 21, 5, 182, 0, 138, 54, 5] = true := by decide +kernel
theorem dX6_finish_118 : decode cX6_finish 118 = .ok (.invokevirtual 127, 3) := qd_o182 118 0 qd_g139 rfl rfl
theorem dX6_finish_121 : decode cX6_finish 121 = .ok (.return_, 1) := qd_o177 118 3 qd_g139 rfl
theorem dX6_finish_122 : decode cX6_finish 122 = .ok (.iload_n 3, 1) := qd_o29 118 4 qd_g139 rfl
theorem dX6_finish_123 : decode cX6_finish 123 = .ok (.ifCond .ge 19, 3) := qd_o156 118 5 qd_g139 rfl rfl
theorem dX6_finish_126 : decode cX6_finish 126 = .ok (.iload_n 2, 1) := qd_o28 118 8 qd_g139 rfl
theorem dX6_finish_127 : decode cX6_finish 127 = .ok (.sipush 154, 3) := qd_o17 118 9 qd_g139 rfl rfl
theorem dX6_finish_130 : decode cX6_finish 130 = .ok (.if_icmp .ge 12, 3) := qd_o162 118 12 qd_g139 rfl rfl
theorem dX6_finish_133 : decode cX6_finish 133 = .ok (.aload_n 0, 1) := qd_o42 118 15 qd_g139 rfl
theorem dX6_finish_134 : decode cX6_finish 134 = .ok (.aload_n 1, 1) := qd_o43 118 16 qd_g139 rfl
theorem dX6_finish_135 : decode cX6_finish 135 = .ok (.iload_n 2, 1) := qd_o28 118 17 qd_g139 rfl
theorem dX6_finish_136 : decode cX6_finish 136 = .ok (.invokevirtual 134, 3) := qd_o182 118 18 qd_g139 rfl rfl
theorem dX6_finish_139 : decode cX6_finish 139 = .ok (.goto 81, 3) := qd_o167 118 21 qd_g139 rfl rfl
theorem dX6_finish_142 : decode cX6_finish 142 = .ok (.iload_n 3, 1) := qd_o29 118 24 qd_g139 rfl
theorem dX6_finish_143 : decode cX6_finish 143 = .ok (.ifCond .ge 16, 3) := qd_o156 118 25 qd_g139 rfl rfl
theorem dX6_finish_146 : decode cX6_finish 146 = .ok (.aload_n 0, 1) := qd_o42 118 28 qd_g139 rfl
theorem dX6_finish_147 : decode cX6_finish 147 = .ok (.aload_n 1, 1) := qd_o43 118 29 qd_g139 rfl
theorem dX6_finish_148 : decode cX6_finish 148 = .ok (.iload_n 2, 1) := qd_o28 118 30 qd_g139 rfl
theorem dX6_finish_149 : decode cX6_finish 149 = .ok (.iload 5, 2) := qd_o21 118 31 qd_g139 rfl rfl
theorem dX6_finish_151 : decode cX6_finish 151 = .ok (.invokevirtual 138, 3) := qd_o182 118 33 qd_g139 rfl rfl
theorem dX6_finish_154 : decode cX6_finish 154 = .ok (.istore 5, 2) := qd_o54 118 36 qd_g139 rfl rfl
theorem qd_g140 : qd_bs cX6_finish 156 [167, 0, 64, 21, 4, 154, 0, 20, 42, 29, 43, 42, 4, 182, 0, 93, 182, 0, 81, 182, 0, 142, 167, 0, 42, 29, 184, 0, 110, 153, 0, 19, 42, 43, 29, 42, 43, 21, 4] = true := by decide +kernel
theorem dX6_finish_156 : decode cX6_finish 156 = .ok (.goto 64, 3) := qd_o167 156 0 qd_g140 rfl rfl
theorem dX6_finish_159 : decode cX6_finish 159 = .ok (.iload 4, 2) := qd_o21 156 3 qd_g140 rfl rfl
theorem dX6_finish_161 : decode cX6_finish 161 = .ok (.ifCond .ne 20, 3) := qd_o154 156 5 qd_g140 rfl rfl
theorem dX6_finish_164 : decode cX6_finish 164 = .ok (.aload_n 0, 1) := qd_o42 156 8 qd_g140 rfl
theorem dX6_finish_165 : decode cX6_finish 165 = .ok (.iload_n 3, 1) := qd_o29 156 9 qd_g140 rfl
theorem dX6_finish_166 : decode cX6_finish 166 = .ok (.aload_n 1, 1) := qd_o43 156 10 qd_g140 rfl
theorem dX6_finish_167 : decode cX6_finish 167 = .ok (.aload_n 0, 1) := qd_o42 156 11 qd_g140 rfl
theorem dX6_finish_168 : decode cX6_finish 168 = .ok (.iconst 1, 1) := qd_o4 156 12 qd_g140 rfl
theorem dX6_finish_169 : decode cX6_finish 169 = .ok (.invokevirtual 93, 3) := qd_o182 156 13 qd_g140 rfl rfl
theorem dX6_finish_172 : decode cX6_finish 172 = .ok (.invokevirtual 81, 3) := qd_o182 156 16 qd_g140 rfl rfl
theorem dX6_finish_175 : decode cX6_finish 175 = .ok (.invokevirtual 142, 3) := qd_o182 156 19 qd_g140 rfl rfl
theorem dX6_finish_178 : decode cX6_finish 178 = .ok (.goto 42, 3) := qd_o167 156 22 qd_g140 rfl rfl
theorem dX6_finish_181 : decode cX6_finish 181 = .ok (.iload_n 3, 1) := qd_o29 156 25 qd_g140 rfl
theorem dX6_finish_182 : decode cX6_finish 182 = .ok (.invokestatic 110, 3) := qd_o184 156 26 qd_g140 rfl rfl
theorem dX6_finish_185 : decode cX6_finish 185 = .ok (.ifCond .eq 19, 3) := qd_o153 156 29 qd_g140 rfl rfl
theorem dX6_finish_188 : decode cX6_finish 188 = .ok (.aload_n 0, 1) := qd_o42 156 32 qd_g140 rfl
theorem dX6_finish_189 : decode cX6_finish 189 = .ok (.aload_n 1, 1) := qd_o43 156 33 qd_g140 rfl
theorem dX6_finish_190 : decode cX6_finish 190 = .ok (.iload_n 3, 1) := qd_o29 156 34 qd_g140 rfl
theorem dX6_finish_191 : decode cX6_finish 191 = .ok (.aload_n 0, 1) := qd_o42 156 35 qd_g140 rfl
theorem dX6_finish_192 : decode cX6_finish 192 = .ok (.aload_n 1, 1) := qd_o43 156 36 qd_g140 rfl
theorem dX6_finish_193 : decode cX6_finish 193 = .ok (.iload 4, 2) := qd_o21 156 37 qd_g140 rfl rfl
theorem qd_g141 : qd_bs cX6_finish 195 [182, 0, 146, 182, 0, 149, 167, 0, 19, 42, 29, 43, 42, 43, 21, 4, 182, 0, 146, 182, 0, 153, 182, 0, 142, 42, 21, 5, 181, 0, 31, 177] = true := by decide +kernel
theorem dX6_finish_195 : decode cX6_finish 195 = .ok (.invokevirtual 146, 3) := qd_o182 195 0 qd_g141 rfl rfl
theorem dX6_finish_198 : decode cX6_finish 198 = .ok (.invokevirtual 149, 3) := qd_o182 195 3 qd_g141 rfl rfl
theorem dX6_finish_201 : decode cX6_finish 201 = .ok (.goto 19, 3) := qd_o167 195 6 qd_g141 rfl rfl
theorem dX6_finish_204 : decode cX6_finish 204 = .ok (.aload_n 0, 1) := qd_o42 195 9 qd_g141 rfl
theorem dX6_finish_205 : decode cX6_finish 205 = .ok (.iload_n 3, 1) := qd_o29 195 10 qd_g141 rfl
theorem dX6_finish_206 : decode cX6_finish 206 = .ok (.aload_n 1, 1) := qd_o43 195 11 qd_g141 rfl
theorem dX6_finish_207 : decode cX6_finish 207 = .ok (.aload_n 0, 1) := qd_o42 195 12 qd_g141 rfl
theorem dX6_finish_208 : decode cX6_finish 208 = .ok (.aload_n 1, 1) := qd_o43 195 13 qd_g141 rfl
theorem dX6_finish_209 : decode cX6_finish 209 = .ok (.iload 4, 2) := qd_o21 195 14 qd_g141 rfl rfl
theorem dX6_finish_211 : decode cX6_finish 211 = .ok (.invokevirtual 146, 3) := qd_o182 195 16 qd_g141 rfl rfl
theorem dX6_finish_214 : decode cX6_finish 214 = .ok (.invokevirtual 153, 3) := qd_o182 195 19 qd_g141 rfl rfl
theorem dX6_finish_217 : decode cX6_finish 217 = .ok (.invokevirtual 142, 3) := qd_o182 195 22 qd_g141 rfl rfl
theorem dX6_finish_220 : decode cX6_finish 220 = .ok (.aload_n 0, 1) := qd_o42 195 25 qd_g141 rfl
theorem dX6_finish_221 : decode cX6_finish 221 = .ok (.iload 5, 2) := qd_o21 195 26 qd_g141 rfl rfl
theorem dX6_finish_223 : decode cX6_finish 223 = .ok (.putfield 31, 3) := qd_o181 195 28 qd_g141 rfl rfl
theorem dX6_finish_226 : decode cX6_finish 226 = .ok (.return_, 1) := qd_o177 195 31 qd_g141 rfl
theorem qd_g142 : qd_bs cX6_indexOf 0 [27, 7, 160, 0, 8, 42, 180, 0, 25, 172, 27, 8, 159, 0, 9, 27, 16, 6, 160, 0, 10, 42, 180, 0, 28, 167, 0, 4, 3, 172] = true := by decide +kernel
theorem dX6_indexOf_0 : decode cX6_indexOf 0 = .ok (.iload_n 1, 1) := qd_o27 0 0 qd_g142 rfl
theorem dX6_indexOf_1 : decode cX6_indexOf 1 = .ok (.iconst 4, 1) := qd_o7 0 1 qd_g142 rfl
theorem dX6_indexOf_2 : decode cX6_indexOf 2 = .ok (.if_icmp .ne 8, 3) := qd_o160 0 2 qd_g142 rfl rfl
theorem dX6_indexOf_5 : decode cX6_indexOf 5 = .ok (.aload_n 0, 1) := qd_o42 0 5 qd_g142 rfl
theorem dX6_indexOf_6 : decode cX6_indexOf 6 = .ok (.getfield 25, 3) := qd_o180 0 6 qd_g142 rfl rfl
theorem dX6_indexOf_9 : decode cX6_indexOf 9 = .ok (.ireturn, 1) := qd_o172 0 9 qd_g142 rfl
theorem dX6_indexOf_10 : decode cX6_indexOf 10 = .ok (.iload_n 1, 1) := qd_o27 0 10 qd_g142 rfl
theorem dX6_indexOf_11 : decode cX6_indexOf 11 = .ok (.iconst 5, 1) := qd_o8 0 11 qd_g142 rfl
theorem dX6_indexOf_12 : decode cX6_indexOf 12 = .ok (.if_icmp .eq 9, 3) := qd_o159 0 12 qd_g142 rfl rfl
theorem dX6_indexOf_15 : decode cX6_indexOf 15 = .ok (.iload_n 1, 1) := qd_o27 0 15 qd_g142 rfl
theorem dX6_indexOf_16 : decode cX6_indexOf 16 = .ok (.bipush 6, 2) := qd_o16 0 16 qd_g142 rfl rfl
theorem dX6_indexOf_18 : decode cX6_indexOf 18 = .ok (.if_icmp .ne 10, 3) := qd_o160 0 18 qd_g142 rfl rfl
theorem dX6_indexOf_21 : decode cX6_indexOf 21 = .ok (.aload_n 0, 1) := qd_o42 0 21 qd_g142 rfl
theorem dX6_indexOf_22 : decode cX6_indexOf 22 = .ok (.getfield 28, 3) := qd_o180 0 22 qd_g142 rfl rfl
theorem dX6_indexOf_25 : decode cX6_indexOf 25 = .ok (.goto 4, 3) := qd_o167 0 25 qd_g142 rfl rfl
theorem dX6_indexOf_28 : decode cX6_indexOf 28 = .ok (.iconst 0, 1) := qd_o3 0 28 qd_g142 rfl
theorem dX6_indexOf_29 : decode cX6_indexOf 29 = .ok (.ireturn, 1) := qd_o172 0 29 qd_g142 rfl
theorem qd_g143 : qd_bs cX6_addressOf 0 [42, 43, 28, 182, 0, 103, 42, 28, 182, 0, 107, 96, 17, 15, 255, 126, 172] = true := by decide +kernel
theorem dX6_addressOf_0 : decode cX6_addressOf 0 = .ok (.aload_n 0, 1) := qd_o42 0 0 qd_g143 rfl
theorem dX6_addressOf_1 : decode cX6_addressOf 1 = .ok (.aload_n 1, 1) := qd_o43 0 1 qd_g143 rfl
theorem dX6_addressOf_2 : decode cX6_addressOf 2 = .ok (.iload_n 2, 1) := qd_o28 0 2 qd_g143 rfl
theorem dX6_addressOf_3 : decode cX6_addressOf 3 = .ok (.invokevirtual 103, 3) := qd_o182 0 3 qd_g143 rfl rfl
theorem dX6_addressOf_6 : decode cX6_addressOf 6 = .ok (.aload_n 0, 1) := qd_o42 0 6 qd_g143 rfl
theorem dX6_addressOf_7 : decode cX6_addressOf 7 = .ok (.iload_n 2, 1) := qd_o28 0 7 qd_g143 rfl
theorem dX6_addressOf_8 : decode cX6_addressOf 8 = .ok (.invokevirtual 107, 3) := qd_o182 0 8 qd_g143 rfl rfl
theorem dX6_addressOf_11 : decode cX6_addressOf 11 = .ok (.iadd, 1) := qd_o96 0 11 qd_g143 rfl
theorem dX6_addressOf_12 : decode cX6_addressOf 12 = .ok (.sipush 4095, 3) := qd_o17 0 12 qd_g143 rfl rfl
theorem dX6_addressOf_15 : decode cX6_addressOf 15 = .ok (.iand, 1) := qd_o126 0 15 qd_g143 rfl
theorem dX6_addressOf_16 : decode cX6_addressOf 16 = .ok (.ireturn, 1) := qd_o172 0 16 qd_g143 rfl
theorem qd_g144 : qd_bs cX6_baseOf 0 [43, 42, 4, 182, 0, 93, 182, 0, 81, 62, 28, 4, 160, 0, 5, 29, 172, 28, 5, 160, 0, 14, 29, 42, 180, 0, 25, 96, 17, 0, 255, 126, 172, 28, 16, 6, 162, 0, 23, 29] = true := by decide +kernel
theorem dX6_baseOf_0 : decode cX6_baseOf 0 = .ok (.aload_n 1, 1) := qd_o43 0 0 qd_g144 rfl
theorem dX6_baseOf_1 : decode cX6_baseOf 1 = .ok (.aload_n 0, 1) := qd_o42 0 1 qd_g144 rfl
theorem dX6_baseOf_2 : decode cX6_baseOf 2 = .ok (.iconst 1, 1) := qd_o4 0 2 qd_g144 rfl
theorem dX6_baseOf_3 : decode cX6_baseOf 3 = .ok (.invokevirtual 93, 3) := qd_o182 0 3 qd_g144 rfl rfl
theorem dX6_baseOf_6 : decode cX6_baseOf 6 = .ok (.invokevirtual 81, 3) := qd_o182 0 6 qd_g144 rfl rfl
theorem dX6_baseOf_9 : decode cX6_baseOf 9 = .ok (.istore_n 3, 1) := qd_o62 0 9 qd_g144 rfl
theorem dX6_baseOf_10 : decode cX6_baseOf 10 = .ok (.iload_n 2, 1) := qd_o28 0 10 qd_g144 rfl
theorem dX6_baseOf_11 : decode cX6_baseOf 11 = .ok (.iconst 1, 1) := qd_o4 0 11 qd_g144 rfl
theorem dX6_baseOf_12 : decode cX6_baseOf 12 = .ok (.if_icmp .ne 5, 3) := qd_o160 0 12 qd_g144 rfl rfl
theorem dX6_baseOf_15 : decode cX6_baseOf 15 = .ok (.iload_n 3, 1) := qd_o29 0 15 qd_g144 rfl
theorem dX6_baseOf_16 : decode cX6_baseOf 16 = .ok (.ireturn, 1) := qd_o172 0 16 qd_g144 rfl
theorem dX6_baseOf_17 : decode cX6_baseOf 17 = .ok (.iload_n 2, 1) := qd_o28 0 17 qd_g144 rfl
theorem dX6_baseOf_18 : decode cX6_baseOf 18 = .ok (.iconst 2, 1) := qd_o5 0 18 qd_g144 rfl
theorem dX6_baseOf_19 : decode cX6_baseOf 19 = .ok (.if_icmp .ne 14, 3) := qd_o160 0 19 qd_g144 rfl rfl
theorem dX6_baseOf_22 : decode cX6_baseOf 22 = .ok (.iload_n 3, 1) := qd_o29 0 22 qd_g144 rfl
theorem dX6_baseOf_23 : decode cX6_baseOf 23 = .ok (.aload_n 0, 1) := qd_o42 0 23 qd_g144 rfl
theorem dX6_baseOf_24 : decode cX6_baseOf 24 = .ok (.getfield 25, 3) := qd_o180 0 24 qd_g144 rfl rfl
theorem dX6_baseOf_27 : decode cX6_baseOf 27 = .ok (.iadd, 1) := qd_o96 0 27 qd_g144 rfl
theorem dX6_baseOf_28 : decode cX6_baseOf 28 = .ok (.sipush 255, 3) := qd_o17 0 28 qd_g144 rfl rfl
theorem dX6_baseOf_31 : decode cX6_baseOf 31 = .ok (.iand, 1) := qd_o126 0 31 qd_g144 rfl
theorem dX6_baseOf_32 : decode cX6_baseOf 32 = .ok (.ireturn, 1) := qd_o172 0 32 qd_g144 rfl
theorem dX6_baseOf_33 : decode cX6_baseOf 33 = .ok (.iload_n 2, 1) := qd_o28 0 33 qd_g144 rfl
theorem dX6_baseOf_34 : decode cX6_baseOf 34 = .ok (.bipush 6, 2) := qd_o16 0 34 qd_g144 rfl rfl
theorem dX6_baseOf_36 : decode cX6_baseOf 36 = .ok (.if_icmp .ge 23, 3) := qd_o162 0 36 qd_g144 rfl rfl
theorem dX6_baseOf_39 : decode cX6_baseOf 39 = .ok (.iload_n 3, 1) := qd_o29 0 39 qd_g144 rfl
theorem qd_g145 : qd_bs cX6_baseOf 40 [17, 1, 0, 43, 42, 5, 182, 0, 93, 182, 0, 81, 104, 96, 17, 15, 255, 126, 172, 28, 16, 7, 160, 0, 16, 29, 42, 180, 0, 25, 96, 17, 0, 255, 126, 167, 0, 4, 29] = true := by decide +kernel
theorem dX6_baseOf_40 : decode cX6_baseOf 40 = .ok (.sipush 256, 3) := qd_o17 40 0 qd_g145 rfl rfl
theorem dX6_baseOf_43 : decode cX6_baseOf 43 = .ok (.aload_n 1, 1) := qd_o43 40 3 qd_g145 rfl
theorem dX6_baseOf_44 : decode cX6_baseOf 44 = .ok (.aload_n 0, 1) := qd_o42 40 4 qd_g145 rfl
theorem dX6_baseOf_45 : decode cX6_baseOf 45 = .ok (.iconst 2, 1) := qd_o5 40 5 qd_g145 rfl
theorem dX6_baseOf_46 : decode cX6_baseOf 46 = .ok (.invokevirtual 93, 3) := qd_o182 40 6 qd_g145 rfl rfl
theorem dX6_baseOf_49 : decode cX6_baseOf 49 = .ok (.invokevirtual 81, 3) := qd_o182 40 9 qd_g145 rfl rfl
theorem dX6_baseOf_52 : decode cX6_baseOf 52 = .ok (.imul, 1) := qd_o104 40 12 qd_g145 rfl
theorem dX6_baseOf_53 : decode cX6_baseOf 53 = .ok (.iadd, 1) := qd_o96 40 13 qd_g145 rfl
theorem dX6_baseOf_54 : decode cX6_baseOf 54 = .ok (.sipush 4095, 3) := qd_o17 40 14 qd_g145 rfl rfl
theorem dX6_baseOf_57 : decode cX6_baseOf 57 = .ok (.iand, 1) := qd_o126 40 17 qd_g145 rfl
theorem dX6_baseOf_58 : decode cX6_baseOf 58 = .ok (.ireturn, 1) := qd_o172 40 18 qd_g145 rfl
theorem dX6_baseOf_59 : decode cX6_baseOf 59 = .ok (.iload_n 2, 1) := qd_o28 40 19 qd_g145 rfl
theorem dX6_baseOf_60 : decode cX6_baseOf 60 = .ok (.bipush 7, 2) := qd_o16 40 20 qd_g145 rfl rfl
theorem dX6_baseOf_62 : decode cX6_baseOf 62 = .ok (.if_icmp .ne 16, 3) := qd_o160 40 22 qd_g145 rfl rfl
theorem dX6_baseOf_65 : decode cX6_baseOf 65 = .ok (.iload_n 3, 1) := qd_o29 40 25 qd_g145 rfl
theorem dX6_baseOf_66 : decode cX6_baseOf 66 = .ok (.aload_n 0, 1) := qd_o42 40 26 qd_g145 rfl
theorem dX6_baseOf_67 : decode cX6_baseOf 67 = .ok (.getfield 25, 3) := qd_o180 40 27 qd_g145 rfl rfl
theorem dX6_baseOf_70 : decode cX6_baseOf 70 = .ok (.iadd, 1) := qd_o96 40 30 qd_g145 rfl
theorem dX6_baseOf_71 : decode cX6_baseOf 71 = .ok (.sipush 255, 3) := qd_o17 40 31 qd_g145 rfl rfl
theorem dX6_baseOf_74 : decode cX6_baseOf 74 = .ok (.iand, 1) := qd_o126 40 34 qd_g145 rfl
theorem dX6_baseOf_75 : decode cX6_baseOf 75 = .ok (.goto 4, 3) := qd_o167 40 35 qd_g145 rfl rfl
theorem dX6_baseOf_78 : decode cX6_baseOf 78 = .ok (.iload_n 3, 1) := qd_o29 40 38 qd_g145 rfl
theorem qd_g146 : qd_bs cX6_baseOf 79 [54, 4, 43, 21, 4, 182, 0, 81, 17, 1, 0, 43, 21, 4, 4, 96, 17, 0, 255, 126, 182, 0, 81, 104, 96, 17, 15, 255, 126, 172] = true := by decide +kernel
theorem dX6_baseOf_79 : decode cX6_baseOf 79 = .ok (.istore 4, 2) := qd_o54 79 0 qd_g146 rfl rfl
theorem dX6_baseOf_81 : decode cX6_baseOf 81 = .ok (.aload_n 1, 1) := qd_o43 79 2 qd_g146 rfl
theorem dX6_baseOf_82 : decode cX6_baseOf 82 = .ok (.iload 4, 2) := qd_o21 79 3 qd_g146 rfl rfl
theorem dX6_baseOf_84 : decode cX6_baseOf 84 = .ok (.invokevirtual 81, 3) := qd_o182 79 5 qd_g146 rfl rfl
theorem dX6_baseOf_87 : decode cX6_baseOf 87 = .ok (.sipush 256, 3) := qd_o17 79 8 qd_g146 rfl rfl
theorem dX6_baseOf_90 : decode cX6_baseOf 90 = .ok (.aload_n 1, 1) := qd_o43 79 11 qd_g146 rfl
theorem dX6_baseOf_91 : decode cX6_baseOf 91 = .ok (.iload 4, 2) := qd_o21 79 12 qd_g146 rfl rfl
theorem dX6_baseOf_93 : decode cX6_baseOf 93 = .ok (.iconst 1, 1) := qd_o4 79 14 qd_g146 rfl
theorem dX6_baseOf_94 : decode cX6_baseOf 94 = .ok (.iadd, 1) := qd_o96 79 15 qd_g146 rfl
theorem dX6_baseOf_95 : decode cX6_baseOf 95 = .ok (.sipush 255, 3) := qd_o17 79 16 qd_g146 rfl rfl
theorem dX6_baseOf_98 : decode cX6_baseOf 98 = .ok (.iand, 1) := qd_o126 79 19 qd_g146 rfl
theorem dX6_baseOf_99 : decode cX6_baseOf 99 = .ok (.invokevirtual 81, 3) := qd_o182 79 20 qd_g146 rfl rfl
theorem dX6_baseOf_102 : decode cX6_baseOf 102 = .ok (.imul, 1) := qd_o104 79 23 qd_g146 rfl
theorem dX6_baseOf_103 : decode cX6_baseOf 103 = .ok (.iadd, 1) := qd_o96 79 24 qd_g146 rfl
theorem dX6_baseOf_104 : decode cX6_baseOf 104 = .ok (.sipush 4095, 3) := qd_o17 79 25 qd_g146 rfl rfl
theorem dX6_baseOf_107 : decode cX6_baseOf 107 = .ok (.iand, 1) := qd_o126 79 28 qd_g146 rfl
theorem dX6_baseOf_108 : decode cX6_baseOf 108 = .ok (.ireturn, 1) := qd_o172 79 29 qd_g146 rfl
theorem qd_g147 : qd_bs cX6_push 0 [43, 17, 1, 0, 42, 180, 0, 9, 96, 28, 182, 0, 156, 42, 42, 180, 0, 9, 4, 100, 17, 0, 255, 126, 181, 0, 9, 177] = true := by decide +kernel
theorem dX6_push_0 : decode cX6_push 0 = .ok (.aload_n 1, 1) := qd_o43 0 0 qd_g147 rfl
theorem dX6_push_1 : decode cX6_push 1 = .ok (.sipush 256, 3) := qd_o17 0 1 qd_g147 rfl rfl
theorem dX6_push_4 : decode cX6_push 4 = .ok (.aload_n 0, 1) := qd_o42 0 4 qd_g147 rfl
theorem dX6_push_5 : decode cX6_push 5 = .ok (.getfield 9, 3) := qd_o180 0 5 qd_g147 rfl rfl
theorem dX6_push_8 : decode cX6_push 8 = .ok (.iadd, 1) := qd_o96 0 8 qd_g147 rfl
theorem dX6_push_9 : decode cX6_push 9 = .ok (.iload_n 2, 1) := qd_o28 0 9 qd_g147 rfl
theorem dX6_push_10 : decode cX6_push 10 = .ok (.invokevirtual 156, 3) := qd_o182 0 10 qd_g147 rfl rfl
theorem dX6_push_13 : decode cX6_push 13 = .ok (.aload_n 0, 1) := qd_o42 0 13 qd_g147 rfl
theorem dX6_push_14 : decode cX6_push 14 = .ok (.aload_n 0, 1) := qd_o42 0 14 qd_g147 rfl
theorem dX6_push_15 : decode cX6_push 15 = .ok (.getfield 9, 3) := qd_o180 0 15 qd_g147 rfl rfl
theorem dX6_push_18 : decode cX6_push 18 = .ok (.iconst 1, 1) := qd_o4 0 18 qd_g147 rfl
theorem dX6_push_19 : decode cX6_push 19 = .ok (.isub, 1) := qd_o100 0 19 qd_g147 rfl
theorem dX6_push_20 : decode cX6_push 20 = .ok (.sipush 255, 3) := qd_o17 0 20 qd_g147 rfl rfl
theorem dX6_push_23 : decode cX6_push 23 = .ok (.iand, 1) := qd_o126 0 23 qd_g147 rfl
theorem dX6_push_24 : decode cX6_push 24 = .ok (.putfield 9, 3) := qd_o181 0 24 qd_g147 rfl rfl
theorem dX6_push_27 : decode cX6_push 27 = .ok (.return_, 1) := qd_o177 0 27 qd_g147 rfl
theorem qd_g148 : qd_bs cX6_pull 0 [42, 42, 180, 0, 9, 4, 96, 17, 0, 255, 126, 181, 0, 9, 43, 180, 0, 68, 17, 1, 0, 42, 180, 0, 9, 96, 182, 0, 159, 172] = true := by decide +kernel
theorem dX6_pull_0 : decode cX6_pull 0 = .ok (.aload_n 0, 1) := qd_o42 0 0 qd_g148 rfl
theorem dX6_pull_1 : decode cX6_pull 1 = .ok (.aload_n 0, 1) := qd_o42 0 1 qd_g148 rfl
theorem dX6_pull_2 : decode cX6_pull 2 = .ok (.getfield 9, 3) := qd_o180 0 2 qd_g148 rfl rfl
theorem dX6_pull_5 : decode cX6_pull 5 = .ok (.iconst 1, 1) := qd_o4 0 5 qd_g148 rfl
theorem dX6_pull_6 : decode cX6_pull 6 = .ok (.iadd, 1) := qd_o96 0 6 qd_g148 rfl
theorem dX6_pull_7 : decode cX6_pull 7 = .ok (.sipush 255, 3) := qd_o17 0 7 qd_g148 rfl rfl
theorem dX6_pull_10 : decode cX6_pull 10 = .ok (.iand, 1) := qd_o126 0 10 qd_g148 rfl
theorem dX6_pull_11 : decode cX6_pull 11 = .ok (.putfield 9, 3) := qd_o181 0 11 qd_g148 rfl rfl
theorem dX6_pull_14 : decode cX6_pull 14 = .ok (.aload_n 1, 1) := qd_o43 0 14 qd_g148 rfl
theorem dX6_pull_15 : decode cX6_pull 15 = .ok (.getfield 68, 3) := qd_o180 0 15 qd_g148 rfl rfl
theorem dX6_pull_18 : decode cX6_pull 18 = .ok (.sipush 256, 3) := qd_o17 0 18 qd_g148 rfl rfl
theorem dX6_pull_21 : decode cX6_pull 21 = .ok (.aload_n 0, 1) := qd_o42 0 21 qd_g148 rfl
theorem dX6_pull_22 : decode cX6_pull 22 = .ok (.getfield 9, 3) := qd_o180 0 22 qd_g148 rfl rfl
theorem dX6_pull_25 : decode cX6_pull 25 = .ok (.iadd, 1) := qd_o96 0 25 qd_g148 rfl
theorem dX6_pull_26 : decode cX6_pull 26 = .ok (.invokevirtual 159, 3) := qd_o182 0 26 qd_g148 rfl rfl
theorem dX6_pull_29 : decode cX6_pull 29 = .ok (.ireturn, 1) := qd_o172 0 29 qd_g148 rfl
theorem qd_g149 : qd_bs cX6_interrupt 0 [42, 43, 28, 16, 8, 122, 182, 0, 162, 42, 43, 28, 17, 0, 255, 126, 182, 0, 162, 42, 43, 29, 182, 0, 162, 42, 89, 180, 0, 15, 7, 128, 181, 0, 15, 42, 43, 21, 4] = true := by decide +kernel
theorem dX6_interrupt_0 : decode cX6_interrupt 0 = .ok (.aload_n 0, 1) := qd_o42 0 0 qd_g149 rfl
theorem dX6_interrupt_1 : decode cX6_interrupt 1 = .ok (.aload_n 1, 1) := qd_o43 0 1 qd_g149 rfl
theorem dX6_interrupt_2 : decode cX6_interrupt 2 = .ok (.iload_n 2, 1) := qd_o28 0 2 qd_g149 rfl
theorem dX6_interrupt_3 : decode cX6_interrupt 3 = .ok (.bipush 8, 2) := qd_o16 0 3 qd_g149 rfl rfl
theorem dX6_interrupt_5 : decode cX6_interrupt 5 = .ok (.ishr, 1) := qd_o122 0 5 qd_g149 rfl
theorem dX6_interrupt_6 : decode cX6_interrupt 6 = .ok (.invokevirtual 162, 3) := qd_o182 0 6 qd_g149 rfl rfl
theorem dX6_interrupt_9 : decode cX6_interrupt 9 = .ok (.aload_n 0, 1) := qd_o42 0 9 qd_g149 rfl
theorem dX6_interrupt_10 : decode cX6_interrupt 10 = .ok (.aload_n 1, 1) := qd_o43 0 10 qd_g149 rfl
theorem dX6_interrupt_11 : decode cX6_interrupt 11 = .ok (.iload_n 2, 1) := qd_o28 0 11 qd_g149 rfl
theorem dX6_interrupt_12 : decode cX6_interrupt 12 = .ok (.sipush 255, 3) := qd_o17 0 12 qd_g149 rfl rfl
theorem dX6_interrupt_15 : decode cX6_interrupt 15 = .ok (.iand, 1) := qd_o126 0 15 qd_g149 rfl
theorem dX6_interrupt_16 : decode cX6_interrupt 16 = .ok (.invokevirtual 162, 3) := qd_o182 0 16 qd_g149 rfl rfl
theorem dX6_interrupt_19 : decode cX6_interrupt 19 = .ok (.aload_n 0, 1) := qd_o42 0 19 qd_g149 rfl
theorem dX6_interrupt_20 : decode cX6_interrupt 20 = .ok (.aload_n 1, 1) := qd_o43 0 20 qd_g149 rfl
theorem dX6_interrupt_21 : decode cX6_interrupt 21 = .ok (.iload_n 3, 1) := qd_o29 0 21 qd_g149 rfl
theorem dX6_interrupt_22 : decode cX6_interrupt 22 = .ok (.invokevirtual 162, 3) := qd_o182 0 22 qd_g149 rfl rfl
theorem dX6_interrupt_25 : decode cX6_interrupt 25 = .ok (.aload_n 0, 1) := qd_o42 0 25 qd_g149 rfl
theorem dX6_interrupt_26 : decode cX6_interrupt 26 = .ok (.dup, 1) := qd_o89 0 26 qd_g149 rfl
theorem dX6_interrupt_27 : decode cX6_interrupt 27 = .ok (.getfield 15, 3) := qd_o180 0 27 qd_g149 rfl rfl
theorem dX6_interrupt_30 : decode cX6_interrupt 30 = .ok (.iconst 4, 1) := qd_o7 0 30 qd_g149 rfl
theorem dX6_interrupt_31 : decode cX6_interrupt 31 = .ok (.ior, 1) := qd_o128 0 31 qd_g149 rfl
theorem dX6_interrupt_32 : decode cX6_interrupt 32 = .ok (.putfield 15, 3) := qd_o181 0 32 qd_g149 rfl rfl
theorem dX6_interrupt_35 : decode cX6_interrupt 35 = .ok (.aload_n 0, 1) := qd_o42 0 35 qd_g149 rfl
theorem dX6_interrupt_36 : decode cX6_interrupt 36 = .ok (.aload_n 1, 1) := qd_o43 0 36 qd_g149 rfl
theorem dX6_interrupt_37 : decode cX6_interrupt 37 = .ok (.iload 4, 2) := qd_o21 0 37 qd_g149 rfl rfl
theorem qd_g150 : qd_bs cX6_interrupt 39 [182, 0, 63, 181, 0, 31, 177] = true := by decide +kernel
theorem dX6_interrupt_39 : decode cX6_interrupt 39 = .ok (.invokevirtual 63, 3) := qd_o182 39 0 qd_g150 rfl rfl
theorem dX6_interrupt_42 : decode cX6_interrupt 42 = .ok (.putfield 31, 3) := qd_o181 39 3 qd_g150 rfl rfl
theorem dX6_interrupt_45 : decode cX6_interrupt 45 = .ok (.return_, 1) := qd_o177 39 6 qd_g150 rfl
theorem qd_g151 : qd_bs cX6_setFlag 0 [42, 28, 153, 0, 12, 42, 180, 0, 15, 27, 128, 167, 0, 11, 42, 180, 0, 15, 27, 2, 130, 126, 181, 0, 15, 177] = true := by decide +kernel
theorem dX6_setFlag_0 : decode cX6_setFlag 0 = .ok (.aload_n 0, 1) := qd_o42 0 0 qd_g151 rfl
theorem dX6_setFlag_1 : decode cX6_setFlag 1 = .ok (.iload_n 2, 1) := qd_o28 0 1 qd_g151 rfl
theorem dX6_setFlag_2 : decode cX6_setFlag 2 = .ok (.ifCond .eq 12, 3) := qd_o153 0 2 qd_g151 rfl rfl
theorem dX6_setFlag_5 : decode cX6_setFlag 5 = .ok (.aload_n 0, 1) := qd_o42 0 5 qd_g151 rfl
theorem dX6_setFlag_6 : decode cX6_setFlag 6 = .ok (.getfield 15, 3) := qd_o180 0 6 qd_g151 rfl rfl
theorem dX6_setFlag_9 : decode cX6_setFlag 9 = .ok (.iload_n 1, 1) := qd_o27 0 9 qd_g151 rfl
theorem dX6_setFlag_10 : decode cX6_setFlag 10 = .ok (.ior, 1) := qd_o128 0 10 qd_g151 rfl
theorem dX6_setFlag_11 : decode cX6_setFlag 11 = .ok (.goto 11, 3) := qd_o167 0 11 qd_g151 rfl rfl
theorem dX6_setFlag_14 : decode cX6_setFlag 14 = .ok (.aload_n 0, 1) := qd_o42 0 14 qd_g151 rfl
theorem dX6_setFlag_15 : decode cX6_setFlag 15 = .ok (.getfield 15, 3) := qd_o180 0 15 qd_g151 rfl rfl
theorem dX6_setFlag_18 : decode cX6_setFlag 18 = .ok (.iload_n 1, 1) := qd_o27 0 18 qd_g151 rfl
theorem dX6_setFlag_19 : decode cX6_setFlag 19 = .ok (.iconst (-1), 1) := qd_o2 0 19 qd_g151 rfl
theorem dX6_setFlag_20 : decode cX6_setFlag 20 = .ok (.ixor, 1) := qd_o130 0 20 qd_g151 rfl
theorem dX6_setFlag_21 : decode cX6_setFlag 21 = .ok (.iand, 1) := qd_o126 0 21 qd_g151 rfl
theorem dX6_setFlag_22 : decode cX6_setFlag 22 = .ok (.putfield 15, 3) := qd_o181 0 22 qd_g151 rfl rfl
theorem dX6_setFlag_25 : decode cX6_setFlag 25 = .ok (.return_, 1) := qd_o177 0 25 qd_g151 rfl
theorem qd_g152 : qd_bs cX6_judge 0 [42, 42, 180, 0, 15, 17, 255, 125, 126, 27, 154, 0, 7, 5, 167, 0, 4, 3, 128, 27, 16, 127, 164, 0, 9, 17, 0, 128, 167, 0, 4, 3, 128, 181, 0, 15, 27, 172] = true := by decide +kernel
theorem dX6_judge_0 : decode cX6_judge 0 = .ok (.aload_n 0, 1) := qd_o42 0 0 qd_g152 rfl
theorem dX6_judge_1 : decode cX6_judge 1 = .ok (.aload_n 0, 1) := qd_o42 0 1 qd_g152 rfl
theorem dX6_judge_2 : decode cX6_judge 2 = .ok (.getfield 15, 3) := qd_o180 0 2 qd_g152 rfl rfl
theorem dX6_judge_5 : decode cX6_judge 5 = .ok (.sipush (-131), 3) := qd_o17 0 5 qd_g152 rfl rfl
theorem dX6_judge_8 : decode cX6_judge 8 = .ok (.iand, 1) := qd_o126 0 8 qd_g152 rfl
theorem dX6_judge_9 : decode cX6_judge 9 = .ok (.iload_n 1, 1) := qd_o27 0 9 qd_g152 rfl
theorem dX6_judge_10 : decode cX6_judge 10 = .ok (.ifCond .ne 7, 3) := qd_o154 0 10 qd_g152 rfl rfl
theorem dX6_judge_13 : decode cX6_judge 13 = .ok (.iconst 2, 1) := qd_o5 0 13 qd_g152 rfl
theorem dX6_judge_14 : decode cX6_judge 14 = .ok (.goto 4, 3) := qd_o167 0 14 qd_g152 rfl rfl
theorem dX6_judge_17 : decode cX6_judge 17 = .ok (.iconst 0, 1) := qd_o3 0 17 qd_g152 rfl
theorem dX6_judge_18 : decode cX6_judge 18 = .ok (.ior, 1) := qd_o128 0 18 qd_g152 rfl
theorem dX6_judge_19 : decode cX6_judge 19 = .ok (.iload_n 1, 1) := qd_o27 0 19 qd_g152 rfl
theorem dX6_judge_20 : decode cX6_judge 20 = .ok (.bipush 127, 2) := qd_o16 0 20 qd_g152 rfl rfl
theorem dX6_judge_22 : decode cX6_judge 22 = .ok (.if_icmp .le 9, 3) := qd_o164 0 22 qd_g152 rfl rfl
theorem dX6_judge_25 : decode cX6_judge 25 = .ok (.sipush 128, 3) := qd_o17 0 25 qd_g152 rfl rfl
theorem dX6_judge_28 : decode cX6_judge 28 = .ok (.goto 4, 3) := qd_o167 0 28 qd_g152 rfl rfl
theorem dX6_judge_31 : decode cX6_judge 31 = .ok (.iconst 0, 1) := qd_o3 0 31 qd_g152 rfl
theorem dX6_judge_32 : decode cX6_judge 32 = .ok (.ior, 1) := qd_o128 0 32 qd_g152 rfl
theorem dX6_judge_33 : decode cX6_judge 33 = .ok (.putfield 15, 3) := qd_o181 0 33 qd_g152 rfl rfl
theorem dX6_judge_36 : decode cX6_judge 36 = .ok (.iload_n 1, 1) := qd_o27 0 36 qd_g152 rfl
theorem dX6_judge_37 : decode cX6_judge 37 = .ok (.ireturn, 1) := qd_o172 0 37 qd_g152 rfl
theorem qd_g153 : qd_bs cX6_match 0 [42, 4, 27, 28, 161, 0, 7, 4, 167, 0, 4, 3, 182, 0, 165, 42, 27, 28, 100, 17, 0, 255, 126, 182, 0, 169, 87, 177] = true := by decide +kernel
theorem dX6_match_0 : decode cX6_match 0 = .ok (.aload_n 0, 1) := qd_o42 0 0 qd_g153 rfl
theorem dX6_match_1 : decode cX6_match 1 = .ok (.iconst 1, 1) := qd_o4 0 1 qd_g153 rfl
theorem dX6_match_2 : decode cX6_match 2 = .ok (.iload_n 1, 1) := qd_o27 0 2 qd_g153 rfl
theorem dX6_match_3 : decode cX6_match 3 = .ok (.iload_n 2, 1) := qd_o28 0 3 qd_g153 rfl
theorem dX6_match_4 : decode cX6_match 4 = .ok (.if_icmp .lt 7, 3) := qd_o161 0 4 qd_g153 rfl rfl
theorem dX6_match_7 : decode cX6_match 7 = .ok (.iconst 1, 1) := qd_o4 0 7 qd_g153 rfl
theorem dX6_match_8 : decode cX6_match 8 = .ok (.goto 4, 3) := qd_o167 0 8 qd_g153 rfl rfl
theorem dX6_match_11 : decode cX6_match 11 = .ok (.iconst 0, 1) := qd_o3 0 11 qd_g153 rfl
theorem dX6_match_12 : decode cX6_match 12 = .ok (.invokevirtual 165, 3) := qd_o182 0 12 qd_g153 rfl rfl
theorem dX6_match_15 : decode cX6_match 15 = .ok (.aload_n 0, 1) := qd_o42 0 15 qd_g153 rfl
theorem dX6_match_16 : decode cX6_match 16 = .ok (.iload_n 1, 1) := qd_o27 0 16 qd_g153 rfl
theorem dX6_match_17 : decode cX6_match 17 = .ok (.iload_n 2, 1) := qd_o28 0 17 qd_g153 rfl
theorem dX6_match_18 : decode cX6_match 18 = .ok (.isub, 1) := qd_o100 0 18 qd_g153 rfl
theorem dX6_match_19 : decode cX6_match 19 = .ok (.sipush 255, 3) := qd_o17 0 19 qd_g153 rfl rfl
theorem dX6_match_22 : decode cX6_match 22 = .ok (.iand, 1) := qd_o126 0 22 qd_g153 rfl
theorem dX6_match_23 : decode cX6_match 23 = .ok (.invokevirtual 169, 3) := qd_o182 0 23 qd_g153 rfl rfl
theorem dX6_match_26 : decode cX6_match 26 = .ok (.pop, 1) := qd_o87 0 26 qd_g153 rfl
theorem dX6_match_27 : decode cX6_match 27 = .ok (.return_, 1) := qd_o177 0 27 qd_g153 rfl
theorem qd_g154 : qd_bs cX6_calculate 0 [27] = true := by decide +kernel
theorem dX6_calculate_0 : decode cX6_calculate 0 = .ok (.iload_n 1, 1) := qd_o27 0 0 qd_g154 rfl
theorem dX6_calculate_1 : decode cX6_calculate 1 = .ok (.tableswitch 315 0 20 #[99, 111, 123, 315, 315, 315, 135, 143, 151, 168, 185, 202, 214, 226, 315, 315, 238, 315, 315, 315, 255], 99) := by decide +kernel
theorem qd_g155 : qd_bs cX6_calculate 100 [42, 42, 28, 182, 0, 169, 181, 0, 22, 167, 0, 207, 42, 42, 28, 182, 0, 169, 181, 0, 25, 167, 0, 195, 42, 42, 28, 182, 0, 169, 181, 0, 28, 167, 0, 183, 42, 28] = true := by decide +kernel
theorem dX6_calculate_100 : decode cX6_calculate 100 = .ok (.aload_n 0, 1) := qd_o42 100 0 qd_g155 rfl
theorem dX6_calculate_101 : decode cX6_calculate 101 = .ok (.aload_n 0, 1) := qd_o42 100 1 qd_g155 rfl
theorem dX6_calculate_102 : decode cX6_calculate 102 = .ok (.iload_n 2, 1) := qd_o28 100 2 qd_g155 rfl
theorem dX6_calculate_103 : decode cX6_calculate 103 = .ok (.invokevirtual 169, 3) := qd_o182 100 3 qd_g155 rfl rfl
theorem dX6_calculate_106 : decode cX6_calculate 106 = .ok (.putfield 22, 3) := qd_o181 100 6 qd_g155 rfl rfl
theorem dX6_calculate_109 : decode cX6_calculate 109 = .ok (.goto 207, 3) := qd_o167 100 9 qd_g155 rfl rfl
theorem dX6_calculate_112 : decode cX6_calculate 112 = .ok (.aload_n 0, 1) := qd_o42 100 12 qd_g155 rfl
theorem dX6_calculate_113 : decode cX6_calculate 113 = .ok (.aload_n 0, 1) := qd_o42 100 13 qd_g155 rfl
theorem dX6_calculate_114 : decode cX6_calculate 114 = .ok (.iload_n 2, 1) := qd_o28 100 14 qd_g155 rfl
theorem dX6_calculate_115 : decode cX6_calculate 115 = .ok (.invokevirtual 169, 3) := qd_o182 100 15 qd_g155 rfl rfl
theorem dX6_calculate_118 : decode cX6_calculate 118 = .ok (.putfield 25, 3) := qd_o181 100 18 qd_g155 rfl rfl
theorem dX6_calculate_121 : decode cX6_calculate 121 = .ok (.goto 195, 3) := qd_o167 100 21 qd_g155 rfl rfl
theorem dX6_calculate_124 : decode cX6_calculate 124 = .ok (.aload_n 0, 1) := qd_o42 100 24 qd_g155 rfl
theorem dX6_calculate_125 : decode cX6_calculate 125 = .ok (.aload_n 0, 1) := qd_o42 100 25 qd_g155 rfl
theorem dX6_calculate_126 : decode cX6_calculate 126 = .ok (.iload_n 2, 1) := qd_o28 100 26 qd_g155 rfl
theorem dX6_calculate_127 : decode cX6_calculate 127 = .ok (.invokevirtual 169, 3) := qd_o182 100 27 qd_g155 rfl rfl
theorem dX6_calculate_130 : decode cX6_calculate 130 = .ok (.putfield 28, 3) := qd_o181 100 30 qd_g155 rfl rfl
theorem dX6_calculate_133 : decode cX6_calculate 133 = .ok (.goto 183, 3) := qd_o167 100 33 qd_g155 rfl rfl
theorem dX6_calculate_136 : decode cX6_calculate 136 = .ok (.aload_n 0, 1) := qd_o42 100 36 qd_g155 rfl
theorem dX6_calculate_137 : decode cX6_calculate 137 = .ok (.iload_n 2, 1) := qd_o28 100 37 qd_g155 rfl
theorem qd_g156 : qd_bs cX6_calculate 138 [182, 0, 172, 167, 0, 175, 42, 28, 182, 0, 176, 167, 0, 167, 42, 42, 42, 180, 0, 22, 28, 126, 182, 0, 169, 181, 0, 22, 167, 0, 150, 42, 42, 42, 180, 0, 22, 28, 128] = true := by decide +kernel
theorem dX6_calculate_138 : decode cX6_calculate 138 = .ok (.invokevirtual 172, 3) := qd_o182 138 0 qd_g156 rfl rfl
theorem dX6_calculate_141 : decode cX6_calculate 141 = .ok (.goto 175, 3) := qd_o167 138 3 qd_g156 rfl rfl
theorem dX6_calculate_144 : decode cX6_calculate 144 = .ok (.aload_n 0, 1) := qd_o42 138 6 qd_g156 rfl
theorem dX6_calculate_145 : decode cX6_calculate 145 = .ok (.iload_n 2, 1) := qd_o28 138 7 qd_g156 rfl
theorem dX6_calculate_146 : decode cX6_calculate 146 = .ok (.invokevirtual 176, 3) := qd_o182 138 8 qd_g156 rfl rfl
theorem dX6_calculate_149 : decode cX6_calculate 149 = .ok (.goto 167, 3) := qd_o167 138 11 qd_g156 rfl rfl
theorem dX6_calculate_152 : decode cX6_calculate 152 = .ok (.aload_n 0, 1) := qd_o42 138 14 qd_g156 rfl
theorem dX6_calculate_153 : decode cX6_calculate 153 = .ok (.aload_n 0, 1) := qd_o42 138 15 qd_g156 rfl
theorem dX6_calculate_154 : decode cX6_calculate 154 = .ok (.aload_n 0, 1) := qd_o42 138 16 qd_g156 rfl
theorem dX6_calculate_155 : decode cX6_calculate 155 = .ok (.getfield 22, 3) := qd_o180 138 17 qd_g156 rfl rfl
theorem dX6_calculate_158 : decode cX6_calculate 158 = .ok (.iload_n 2, 1) := qd_o28 138 20 qd_g156 rfl
theorem dX6_calculate_159 : decode cX6_calculate 159 = .ok (.iand, 1) := qd_o126 138 21 qd_g156 rfl
theorem dX6_calculate_160 : decode cX6_calculate 160 = .ok (.invokevirtual 169, 3) := qd_o182 138 22 qd_g156 rfl rfl
theorem dX6_calculate_163 : decode cX6_calculate 163 = .ok (.putfield 22, 3) := qd_o181 138 25 qd_g156 rfl rfl
theorem dX6_calculate_166 : decode cX6_calculate 166 = .ok (.goto 150, 3) := qd_o167 138 28 qd_g156 rfl rfl
theorem dX6_calculate_169 : decode cX6_calculate 169 = .ok (.aload_n 0, 1) := qd_o42 138 31 qd_g156 rfl
theorem dX6_calculate_170 : decode cX6_calculate 170 = .ok (.aload_n 0, 1) := qd_o42 138 32 qd_g156 rfl
theorem dX6_calculate_171 : decode cX6_calculate 171 = .ok (.aload_n 0, 1) := qd_o42 138 33 qd_g156 rfl
theorem dX6_calculate_172 : decode cX6_calculate 172 = .ok (.getfield 22, 3) := qd_o180 138 34 qd_g156 rfl rfl
theorem dX6_calculate_175 : decode cX6_calculate 175 = .ok (.iload_n 2, 1) := qd_o28 138 37 qd_g156 rfl
theorem dX6_calculate_176 : decode cX6_calculate 176 = .ok (.ior, 1) := qd_o128 138 38 qd_g156 rfl
theorem qd_g157 : qd_bs cX6_calculate 177 [182, 0, 169, 181, 0, 22, 167, 0, 133, 42, 42, 42, 180, 0, 22, 28, 130, 182, 0, 169, 181, 0, 22, 167, 0, 116, 42, 42, 180, 0, 22, 28, 182, 0, 179, 167, 0, 104, 42, 42] = true := by decide +kernel
theorem dX6_calculate_177 : decode cX6_calculate 177 = .ok (.invokevirtual 169, 3) := qd_o182 177 0 qd_g157 rfl rfl
theorem dX6_calculate_180 : decode cX6_calculate 180 = .ok (.putfield 22, 3) := qd_o181 177 3 qd_g157 rfl rfl
theorem dX6_calculate_183 : decode cX6_calculate 183 = .ok (.goto 133, 3) := qd_o167 177 6 qd_g157 rfl rfl
theorem dX6_calculate_186 : decode cX6_calculate 186 = .ok (.aload_n 0, 1) := qd_o42 177 9 qd_g157 rfl
theorem dX6_calculate_187 : decode cX6_calculate 187 = .ok (.aload_n 0, 1) := qd_o42 177 10 qd_g157 rfl
theorem dX6_calculate_188 : decode cX6_calculate 188 = .ok (.aload_n 0, 1) := qd_o42 177 11 qd_g157 rfl
theorem dX6_calculate_189 : decode cX6_calculate 189 = .ok (.getfield 22, 3) := qd_o180 177 12 qd_g157 rfl rfl
theorem dX6_calculate_192 : decode cX6_calculate 192 = .ok (.iload_n 2, 1) := qd_o28 177 15 qd_g157 rfl
theorem dX6_calculate_193 : decode cX6_calculate 193 = .ok (.ixor, 1) := qd_o130 177 16 qd_g157 rfl
theorem dX6_calculate_194 : decode cX6_calculate 194 = .ok (.invokevirtual 169, 3) := qd_o182 177 17 qd_g157 rfl rfl
theorem dX6_calculate_197 : decode cX6_calculate 197 = .ok (.putfield 22, 3) := qd_o181 177 20 qd_g157 rfl rfl
theorem dX6_calculate_200 : decode cX6_calculate 200 = .ok (.goto 116, 3) := qd_o167 177 23 qd_g157 rfl rfl
theorem dX6_calculate_203 : decode cX6_calculate 203 = .ok (.aload_n 0, 1) := qd_o42 177 26 qd_g157 rfl
theorem dX6_calculate_204 : decode cX6_calculate 204 = .ok (.aload_n 0, 1) := qd_o42 177 27 qd_g157 rfl
theorem dX6_calculate_205 : decode cX6_calculate 205 = .ok (.getfield 22, 3) := qd_o180 177 28 qd_g157 rfl rfl
theorem dX6_calculate_208 : decode cX6_calculate 208 = .ok (.iload_n 2, 1) := qd_o28 177 31 qd_g157 rfl
theorem dX6_calculate_209 : decode cX6_calculate 209 = .ok (.invokevirtual 179, 3) := qd_o182 177 32 qd_g157 rfl rfl
theorem dX6_calculate_212 : decode cX6_calculate 212 = .ok (.goto 104, 3) := qd_o167 177 35 qd_g157 rfl rfl
theorem dX6_calculate_215 : decode cX6_calculate 215 = .ok (.aload_n 0, 1) := qd_o42 177 38 qd_g157 rfl
theorem dX6_calculate_216 : decode cX6_calculate 216 = .ok (.aload_n 0, 1) := qd_o42 177 39 qd_g157 rfl
theorem qd_g158 : qd_bs cX6_calculate 217 [180, 0, 25, 28, 182, 0, 179, 167, 0, 92, 42, 42, 180, 0, 28, 28, 182, 0, 179, 167, 0, 80, 42, 42, 28, 182, 0, 169, 181, 0, 25, 42, 28, 181, 0, 22, 167, 0, 63, 42] = true := by decide +kernel
theorem dX6_calculate_217 : decode cX6_calculate 217 = .ok (.getfield 25, 3) := qd_o180 217 0 qd_g158 rfl rfl
theorem dX6_calculate_220 : decode cX6_calculate 220 = .ok (.iload_n 2, 1) := qd_o28 217 3 qd_g158 rfl
theorem dX6_calculate_221 : decode cX6_calculate 221 = .ok (.invokevirtual 179, 3) := qd_o182 217 4 qd_g158 rfl rfl
theorem dX6_calculate_224 : decode cX6_calculate 224 = .ok (.goto 92, 3) := qd_o167 217 7 qd_g158 rfl rfl
theorem dX6_calculate_227 : decode cX6_calculate 227 = .ok (.aload_n 0, 1) := qd_o42 217 10 qd_g158 rfl
theorem dX6_calculate_228 : decode cX6_calculate 228 = .ok (.aload_n 0, 1) := qd_o42 217 11 qd_g158 rfl
theorem dX6_calculate_229 : decode cX6_calculate 229 = .ok (.getfield 28, 3) := qd_o180 217 12 qd_g158 rfl rfl
theorem dX6_calculate_232 : decode cX6_calculate 232 = .ok (.iload_n 2, 1) := qd_o28 217 15 qd_g158 rfl
theorem dX6_calculate_233 : decode cX6_calculate 233 = .ok (.invokevirtual 179, 3) := qd_o182 217 16 qd_g158 rfl rfl
theorem dX6_calculate_236 : decode cX6_calculate 236 = .ok (.goto 80, 3) := qd_o167 217 19 qd_g158 rfl rfl
theorem dX6_calculate_239 : decode cX6_calculate 239 = .ok (.aload_n 0, 1) := qd_o42 217 22 qd_g158 rfl
theorem dX6_calculate_240 : decode cX6_calculate 240 = .ok (.aload_n 0, 1) := qd_o42 217 23 qd_g158 rfl
theorem dX6_calculate_241 : decode cX6_calculate 241 = .ok (.iload_n 2, 1) := qd_o28 217 24 qd_g158 rfl
theorem dX6_calculate_242 : decode cX6_calculate 242 = .ok (.invokevirtual 169, 3) := qd_o182 217 25 qd_g158 rfl rfl
theorem dX6_calculate_245 : decode cX6_calculate 245 = .ok (.putfield 25, 3) := qd_o181 217 28 qd_g158 rfl rfl
theorem dX6_calculate_248 : decode cX6_calculate 248 = .ok (.aload_n 0, 1) := qd_o42 217 31 qd_g158 rfl
theorem dX6_calculate_249 : decode cX6_calculate 249 = .ok (.iload_n 2, 1) := qd_o28 217 32 qd_g158 rfl
theorem dX6_calculate_250 : decode cX6_calculate 250 = .ok (.putfield 22, 3) := qd_o181 217 33 qd_g158 rfl rfl
theorem dX6_calculate_253 : decode cX6_calculate 253 = .ok (.goto 63, 3) := qd_o167 217 36 qd_g158 rfl rfl
theorem dX6_calculate_256 : decode cX6_calculate 256 = .ok (.aload_n 0, 1) := qd_o42 217 39 qd_g158 rfl
theorem qd_g159 : qd_bs cX6_calculate 257 [5, 42, 180, 0, 22, 28, 126, 154, 0, 7, 4, 167, 0, 4, 3, 182, 0, 165, 42, 17, 0, 128, 28, 17, 0, 128, 126, 153, 0, 7, 4, 167, 0, 4, 3, 182, 0, 165, 42] = true := by decide +kernel
theorem dX6_calculate_257 : decode cX6_calculate 257 = .ok (.iconst 2, 1) := qd_o5 257 0 qd_g159 rfl
theorem dX6_calculate_258 : decode cX6_calculate 258 = .ok (.aload_n 0, 1) := qd_o42 257 1 qd_g159 rfl
theorem dX6_calculate_259 : decode cX6_calculate 259 = .ok (.getfield 22, 3) := qd_o180 257 2 qd_g159 rfl rfl
theorem dX6_calculate_262 : decode cX6_calculate 262 = .ok (.iload_n 2, 1) := qd_o28 257 5 qd_g159 rfl
theorem dX6_calculate_263 : decode cX6_calculate 263 = .ok (.iand, 1) := qd_o126 257 6 qd_g159 rfl
theorem dX6_calculate_264 : decode cX6_calculate 264 = .ok (.ifCond .ne 7, 3) := qd_o154 257 7 qd_g159 rfl rfl
theorem dX6_calculate_267 : decode cX6_calculate 267 = .ok (.iconst 1, 1) := qd_o4 257 10 qd_g159 rfl
theorem dX6_calculate_268 : decode cX6_calculate 268 = .ok (.goto 4, 3) := qd_o167 257 11 qd_g159 rfl rfl
theorem dX6_calculate_271 : decode cX6_calculate 271 = .ok (.iconst 0, 1) := qd_o3 257 14 qd_g159 rfl
theorem dX6_calculate_272 : decode cX6_calculate 272 = .ok (.invokevirtual 165, 3) := qd_o182 257 15 qd_g159 rfl rfl
theorem dX6_calculate_275 : decode cX6_calculate 275 = .ok (.aload_n 0, 1) := qd_o42 257 18 qd_g159 rfl
theorem dX6_calculate_276 : decode cX6_calculate 276 = .ok (.sipush 128, 3) := qd_o17 257 19 qd_g159 rfl rfl
theorem dX6_calculate_279 : decode cX6_calculate 279 = .ok (.iload_n 2, 1) := qd_o28 257 22 qd_g159 rfl
theorem dX6_calculate_280 : decode cX6_calculate 280 = .ok (.sipush 128, 3) := qd_o17 257 23 qd_g159 rfl rfl
theorem dX6_calculate_283 : decode cX6_calculate 283 = .ok (.iand, 1) := qd_o126 257 26 qd_g159 rfl
theorem dX6_calculate_284 : decode cX6_calculate 284 = .ok (.ifCond .eq 7, 3) := qd_o153 257 27 qd_g159 rfl rfl
theorem dX6_calculate_287 : decode cX6_calculate 287 = .ok (.iconst 1, 1) := qd_o4 257 30 qd_g159 rfl
theorem dX6_calculate_288 : decode cX6_calculate 288 = .ok (.goto 4, 3) := qd_o167 257 31 qd_g159 rfl rfl
theorem dX6_calculate_291 : decode cX6_calculate 291 = .ok (.iconst 0, 1) := qd_o3 257 34 qd_g159 rfl
theorem dX6_calculate_292 : decode cX6_calculate 292 = .ok (.invokevirtual 165, 3) := qd_o182 257 35 qd_g159 rfl rfl
theorem dX6_calculate_295 : decode cX6_calculate 295 = .ok (.aload_n 0, 1) := qd_o42 257 38 qd_g159 rfl
theorem qd_g160 : qd_bs cX6_calculate 296 [16, 64, 28, 16, 64, 126, 153, 0, 7, 4, 167, 0, 4, 3, 182, 0, 165, 167, 0, 3, 177] = true := by decide +kernel
theorem dX6_calculate_296 : decode cX6_calculate 296 = .ok (.bipush 64, 2) := qd_o16 296 0 qd_g160 rfl rfl
theorem dX6_calculate_298 : decode cX6_calculate 298 = .ok (.iload_n 2, 1) := qd_o28 296 2 qd_g160 rfl
theorem dX6_calculate_299 : decode cX6_calculate 299 = .ok (.bipush 64, 2) := qd_o16 296 3 qd_g160 rfl rfl
theorem dX6_calculate_301 : decode cX6_calculate 301 = .ok (.iand, 1) := qd_o126 296 5 qd_g160 rfl
theorem dX6_calculate_302 : decode cX6_calculate 302 = .ok (.ifCond .eq 7, 3) := qd_o153 296 6 qd_g160 rfl rfl
theorem dX6_calculate_305 : decode cX6_calculate 305 = .ok (.iconst 1, 1) := qd_o4 296 9 qd_g160 rfl
theorem dX6_calculate_306 : decode cX6_calculate 306 = .ok (.goto 4, 3) := qd_o167 296 10 qd_g160 rfl rfl
theorem dX6_calculate_309 : decode cX6_calculate 309 = .ok (.iconst 0, 1) := qd_o3 296 13 qd_g160 rfl
theorem dX6_calculate_310 : decode cX6_calculate 310 = .ok (.invokevirtual 165, 3) := qd_o182 296 14 qd_g160 rfl rfl
theorem dX6_calculate_313 : decode cX6_calculate 313 = .ok (.goto 3, 3) := qd_o167 296 17 qd_g160 rfl rfl
theorem dX6_calculate_316 : decode cX6_calculate 316 = .ok (.return_, 1) := qd_o177 296 20 qd_g160 rfl
theorem qd_g161 : qd_bs cX6_store 0 [28] = true := by decide +kernel
theorem dX6_store_0 : decode cX6_store 0 = .ok (.iload_n 2, 1) := qd_o28 0 0 qd_g161 rfl
theorem dX6_store_1 : decode cX6_store 1 = .ok (.lookupswitch 88 #[(3, 43), (4, 53), (5, 63), (17, 73)], 43) := by decide +kernel
theorem qd_g162 : qd_bs cX6_store 44 [43, 29, 42, 180, 0, 22, 182, 0, 156, 177, 43, 29, 42, 180, 0, 25, 182, 0, 156, 177, 43, 29, 42, 180, 0, 28, 182, 0, 156, 177, 43, 29, 42, 180, 0, 22, 42, 180, 0, 25] = true := by decide +kernel
theorem dX6_store_44 : decode cX6_store 44 = .ok (.aload_n 1, 1) := qd_o43 44 0 qd_g162 rfl
theorem dX6_store_45 : decode cX6_store 45 = .ok (.iload_n 3, 1) := qd_o29 44 1 qd_g162 rfl
theorem dX6_store_46 : decode cX6_store 46 = .ok (.aload_n 0, 1) := qd_o42 44 2 qd_g162 rfl
theorem dX6_store_47 : decode cX6_store 47 = .ok (.getfield 22, 3) := qd_o180 44 3 qd_g162 rfl rfl
theorem dX6_store_50 : decode cX6_store 50 = .ok (.invokevirtual 156, 3) := qd_o182 44 6 qd_g162 rfl rfl
theorem dX6_store_53 : decode cX6_store 53 = .ok (.return_, 1) := qd_o177 44 9 qd_g162 rfl
theorem dX6_store_54 : decode cX6_store 54 = .ok (.aload_n 1, 1) := qd_o43 44 10 qd_g162 rfl
theorem dX6_store_55 : decode cX6_store 55 = .ok (.iload_n 3, 1) := qd_o29 44 11 qd_g162 rfl
theorem dX6_store_56 : decode cX6_store 56 = .ok (.aload_n 0, 1) := qd_o42 44 12 qd_g162 rfl
theorem dX6_store_57 : decode cX6_store 57 = .ok (.getfield 25, 3) := qd_o180 44 13 qd_g162 rfl rfl
theorem dX6_store_60 : decode cX6_store 60 = .ok (.invokevirtual 156, 3) := qd_o182 44 16 qd_g162 rfl rfl
theorem dX6_store_63 : decode cX6_store 63 = .ok (.return_, 1) := qd_o177 44 19 qd_g162 rfl
theorem dX6_store_64 : decode cX6_store 64 = .ok (.aload_n 1, 1) := qd_o43 44 20 qd_g162 rfl
theorem dX6_store_65 : decode cX6_store 65 = .ok (.iload_n 3, 1) := qd_o29 44 21 qd_g162 rfl
theorem dX6_store_66 : decode cX6_store 66 = .ok (.aload_n 0, 1) := qd_o42 44 22 qd_g162 rfl
theorem dX6_store_67 : decode cX6_store 67 = .ok (.getfield 28, 3) := qd_o180 44 23 qd_g162 rfl rfl
theorem dX6_store_70 : decode cX6_store 70 = .ok (.invokevirtual 156, 3) := qd_o182 44 26 qd_g162 rfl rfl
theorem dX6_store_73 : decode cX6_store 73 = .ok (.return_, 1) := qd_o177 44 29 qd_g162 rfl
theorem dX6_store_74 : decode cX6_store 74 = .ok (.aload_n 1, 1) := qd_o43 44 30 qd_g162 rfl
theorem dX6_store_75 : decode cX6_store 75 = .ok (.iload_n 3, 1) := qd_o29 44 31 qd_g162 rfl
theorem dX6_store_76 : decode cX6_store 76 = .ok (.aload_n 0, 1) := qd_o42 44 32 qd_g162 rfl
theorem dX6_store_77 : decode cX6_store 77 = .ok (.getfield 22, 3) := qd_o180 44 33 qd_g162 rfl rfl
theorem dX6_store_80 : decode cX6_store 80 = .ok (.aload_n 0, 1) := qd_o42 44 36 qd_g162 rfl
theorem dX6_store_81 : decode cX6_store 81 = .ok (.getfield 25, 3) := qd_o180 44 37 qd_g162 rfl rfl
theorem qd_g163 : qd_bs cX6_store 84 [126, 182, 0, 156, 177, 28, 16, 14, 159, 0, 9, 28, 16, 19, 160, 0, 7, 4, 167, 0, 4, 2, 54, 4, 43, 29, 182, 0, 153, 21, 4, 96, 17, 0, 255, 126, 54, 5, 43, 29] = true := by decide +kernel
theorem dX6_store_84 : decode cX6_store 84 = .ok (.iand, 1) := qd_o126 84 0 qd_g163 rfl
theorem dX6_store_85 : decode cX6_store 85 = .ok (.invokevirtual 156, 3) := qd_o182 84 1 qd_g163 rfl rfl
theorem dX6_store_88 : decode cX6_store 88 = .ok (.return_, 1) := qd_o177 84 4 qd_g163 rfl
theorem dX6_store_89 : decode cX6_store 89 = .ok (.iload_n 2, 1) := qd_o28 84 5 qd_g163 rfl
theorem dX6_store_90 : decode cX6_store 90 = .ok (.bipush 14, 2) := qd_o16 84 6 qd_g163 rfl rfl
theorem dX6_store_92 : decode cX6_store 92 = .ok (.if_icmp .eq 9, 3) := qd_o159 84 8 qd_g163 rfl rfl
theorem dX6_store_95 : decode cX6_store 95 = .ok (.iload_n 2, 1) := qd_o28 84 11 qd_g163 rfl
theorem dX6_store_96 : decode cX6_store 96 = .ok (.bipush 19, 2) := qd_o16 84 12 qd_g163 rfl rfl
theorem dX6_store_98 : decode cX6_store 98 = .ok (.if_icmp .ne 7, 3) := qd_o160 84 14 qd_g163 rfl rfl
theorem dX6_store_101 : decode cX6_store 101 = .ok (.iconst 1, 1) := qd_o4 84 17 qd_g163 rfl
theorem dX6_store_102 : decode cX6_store 102 = .ok (.goto 4, 3) := qd_o167 84 18 qd_g163 rfl rfl
theorem dX6_store_105 : decode cX6_store 105 = .ok (.iconst (-1), 1) := qd_o2 84 21 qd_g163 rfl
theorem dX6_store_106 : decode cX6_store 106 = .ok (.istore 4, 2) := qd_o54 84 22 qd_g163 rfl rfl
theorem dX6_store_108 : decode cX6_store 108 = .ok (.aload_n 1, 1) := qd_o43 84 24 qd_g163 rfl
theorem dX6_store_109 : decode cX6_store 109 = .ok (.iload_n 3, 1) := qd_o29 84 25 qd_g163 rfl
theorem dX6_store_110 : decode cX6_store 110 = .ok (.invokevirtual 153, 3) := qd_o182 84 26 qd_g163 rfl rfl
theorem dX6_store_113 : decode cX6_store 113 = .ok (.iload 4, 2) := qd_o21 84 29 qd_g163 rfl rfl
theorem dX6_store_115 : decode cX6_store 115 = .ok (.iadd, 1) := qd_o96 84 31 qd_g163 rfl
theorem dX6_store_116 : decode cX6_store 116 = .ok (.sipush 255, 3) := qd_o17 84 32 qd_g163 rfl rfl
theorem dX6_store_119 : decode cX6_store 119 = .ok (.iand, 1) := qd_o126 84 35 qd_g163 rfl
theorem dX6_store_120 : decode cX6_store 120 = .ok (.istore 5, 2) := qd_o54 84 36 qd_g163 rfl rfl
theorem dX6_store_122 : decode cX6_store 122 = .ok (.aload_n 1, 1) := qd_o43 84 38 qd_g163 rfl
theorem dX6_store_123 : decode cX6_store 123 = .ok (.iload_n 3, 1) := qd_o29 84 39 qd_g163 rfl
theorem qd_g164 : qd_bs cX6_store 124 [21, 5, 182, 0, 156, 28, 16, 18, 160, 0, 16, 42, 42, 180, 0, 22, 21, 5, 182, 0, 179, 167, 0, 25, 28, 16, 19, 160, 0, 12, 42, 21, 5, 182, 0, 176, 167, 0, 10, 42] = true := by decide +kernel
theorem dX6_store_124 : decode cX6_store 124 = .ok (.iload 5, 2) := qd_o21 124 0 qd_g164 rfl rfl
theorem dX6_store_126 : decode cX6_store 126 = .ok (.invokevirtual 156, 3) := qd_o182 124 2 qd_g164 rfl rfl
theorem dX6_store_129 : decode cX6_store 129 = .ok (.iload_n 2, 1) := qd_o28 124 5 qd_g164 rfl
theorem dX6_store_130 : decode cX6_store 130 = .ok (.bipush 18, 2) := qd_o16 124 6 qd_g164 rfl rfl
theorem dX6_store_132 : decode cX6_store 132 = .ok (.if_icmp .ne 16, 3) := qd_o160 124 8 qd_g164 rfl rfl
theorem dX6_store_135 : decode cX6_store 135 = .ok (.aload_n 0, 1) := qd_o42 124 11 qd_g164 rfl
theorem dX6_store_136 : decode cX6_store 136 = .ok (.aload_n 0, 1) := qd_o42 124 12 qd_g164 rfl
theorem dX6_store_137 : decode cX6_store 137 = .ok (.getfield 22, 3) := qd_o180 124 13 qd_g164 rfl rfl
theorem dX6_store_140 : decode cX6_store 140 = .ok (.iload 5, 2) := qd_o21 124 16 qd_g164 rfl rfl
theorem dX6_store_142 : decode cX6_store 142 = .ok (.invokevirtual 179, 3) := qd_o182 124 18 qd_g164 rfl rfl
theorem dX6_store_145 : decode cX6_store 145 = .ok (.goto 25, 3) := qd_o167 124 21 qd_g164 rfl rfl
theorem dX6_store_148 : decode cX6_store 148 = .ok (.iload_n 2, 1) := qd_o28 124 24 qd_g164 rfl
theorem dX6_store_149 : decode cX6_store 149 = .ok (.bipush 19, 2) := qd_o16 124 25 qd_g164 rfl rfl
theorem dX6_store_151 : decode cX6_store 151 = .ok (.if_icmp .ne 12, 3) := qd_o160 124 27 qd_g164 rfl rfl
theorem dX6_store_154 : decode cX6_store 154 = .ok (.aload_n 0, 1) := qd_o42 124 30 qd_g164 rfl
theorem dX6_store_155 : decode cX6_store 155 = .ok (.iload 5, 2) := qd_o21 124 31 qd_g164 rfl rfl
theorem dX6_store_157 : decode cX6_store 157 = .ok (.invokevirtual 176, 3) := qd_o182 124 33 qd_g164 rfl rfl
theorem dX6_store_160 : decode cX6_store 160 = .ok (.goto 10, 3) := qd_o167 124 36 qd_g164 rfl rfl
theorem dX6_store_163 : decode cX6_store 163 = .ok (.aload_n 0, 1) := qd_o42 124 39 qd_g164 rfl
theorem qd_g165 : qd_bs cX6_store 164 [21, 5, 182, 0, 169, 87, 177] = true := by decide +kernel
theorem dX6_store_164 : decode cX6_store 164 = .ok (.iload 5, 2) := qd_o21 164 0 qd_g165 rfl rfl
theorem dX6_store_166 : decode cX6_store 166 = .ok (.invokevirtual 169, 3) := qd_o182 164 2 qd_g165 rfl rfl
theorem dX6_store_169 : decode cX6_store 169 = .ok (.pop, 1) := qd_o87 164 5 qd_g165 rfl
theorem dX6_store_170 : decode cX6_store 170 = .ok (.return_, 1) := qd_o177 164 6 qd_g165 rfl
theorem qd_g166 : qd_bs cX6_add 0 [42, 180, 0, 15, 4, 126, 61, 42, 180, 0, 22, 16, 16, 112, 27, 16, 16, 112, 96, 28, 96, 62, 42, 180, 0, 22, 16, 16, 108, 27, 16, 16, 108, 96, 54, 4, 42, 27] = true := by decide +kernel
theorem dX6_add_0 : decode cX6_add 0 = .ok (.aload_n 0, 1) := qd_o42 0 0 qd_g166 rfl
theorem dX6_add_1 : decode cX6_add 1 = .ok (.getfield 15, 3) := qd_o180 0 1 qd_g166 rfl rfl
theorem dX6_add_4 : decode cX6_add 4 = .ok (.iconst 1, 1) := qd_o4 0 4 qd_g166 rfl
theorem dX6_add_5 : decode cX6_add 5 = .ok (.iand, 1) := qd_o126 0 5 qd_g166 rfl
theorem dX6_add_6 : decode cX6_add 6 = .ok (.istore_n 2, 1) := qd_o61 0 6 qd_g166 rfl
theorem dX6_add_7 : decode cX6_add 7 = .ok (.aload_n 0, 1) := qd_o42 0 7 qd_g166 rfl
theorem dX6_add_8 : decode cX6_add 8 = .ok (.getfield 22, 3) := qd_o180 0 8 qd_g166 rfl rfl
theorem dX6_add_11 : decode cX6_add 11 = .ok (.bipush 16, 2) := qd_o16 0 11 qd_g166 rfl rfl
theorem dX6_add_13 : decode cX6_add 13 = .ok (.irem, 1) := qd_o112 0 13 qd_g166 rfl
theorem dX6_add_14 : decode cX6_add 14 = .ok (.iload_n 1, 1) := qd_o27 0 14 qd_g166 rfl
theorem dX6_add_15 : decode cX6_add 15 = .ok (.bipush 16, 2) := qd_o16 0 15 qd_g166 rfl rfl
theorem dX6_add_17 : decode cX6_add 17 = .ok (.irem, 1) := qd_o112 0 17 qd_g166 rfl
theorem dX6_add_18 : decode cX6_add 18 = .ok (.iadd, 1) := qd_o96 0 18 qd_g166 rfl
theorem dX6_add_19 : decode cX6_add 19 = .ok (.iload_n 2, 1) := qd_o28 0 19 qd_g166 rfl
theorem dX6_add_20 : decode cX6_add 20 = .ok (.iadd, 1) := qd_o96 0 20 qd_g166 rfl
theorem dX6_add_21 : decode cX6_add 21 = .ok (.istore_n 3, 1) := qd_o62 0 21 qd_g166 rfl
theorem dX6_add_22 : decode cX6_add 22 = .ok (.aload_n 0, 1) := qd_o42 0 22 qd_g166 rfl
theorem dX6_add_23 : decode cX6_add 23 = .ok (.getfield 22, 3) := qd_o180 0 23 qd_g166 rfl rfl
theorem dX6_add_26 : decode cX6_add 26 = .ok (.bipush 16, 2) := qd_o16 0 26 qd_g166 rfl rfl
theorem dX6_add_28 : decode cX6_add 28 = .ok (.idiv, 1) := qd_o108 0 28 qd_g166 rfl
theorem dX6_add_29 : decode cX6_add 29 = .ok (.iload_n 1, 1) := qd_o27 0 29 qd_g166 rfl
theorem dX6_add_30 : decode cX6_add 30 = .ok (.bipush 16, 2) := qd_o16 0 30 qd_g166 rfl rfl
theorem dX6_add_32 : decode cX6_add 32 = .ok (.idiv, 1) := qd_o108 0 32 qd_g166 rfl
theorem dX6_add_33 : decode cX6_add 33 = .ok (.iadd, 1) := qd_o96 0 33 qd_g166 rfl
theorem dX6_add_34 : decode cX6_add 34 = .ok (.istore 4, 2) := qd_o54 0 34 qd_g166 rfl rfl
theorem dX6_add_36 : decode cX6_add 36 = .ok (.aload_n 0, 1) := qd_o42 0 36 qd_g166 rfl
theorem dX6_add_37 : decode cX6_add 37 = .ok (.iload_n 1, 1) := qd_o27 0 37 qd_g166 rfl
theorem qd_g167 : qd_bs cX6_add 38 [182, 0, 182, 42, 180, 0, 15, 16, 8, 126, 154, 0, 4, 177, 29, 16, 9, 164, 0, 9, 132, 3, 246, 132, 4, 1, 42, 4, 21, 4, 16, 9, 164, 0, 7, 4, 167, 0, 4, 3] = true := by decide +kernel
theorem dX6_add_38 : decode cX6_add 38 = .ok (.invokevirtual 182, 3) := qd_o182 38 0 qd_g167 rfl rfl
theorem dX6_add_41 : decode cX6_add 41 = .ok (.aload_n 0, 1) := qd_o42 38 3 qd_g167 rfl
theorem dX6_add_42 : decode cX6_add 42 = .ok (.getfield 15, 3) := qd_o180 38 4 qd_g167 rfl rfl
theorem dX6_add_45 : decode cX6_add 45 = .ok (.bipush 8, 2) := qd_o16 38 7 qd_g167 rfl rfl
theorem dX6_add_47 : decode cX6_add 47 = .ok (.iand, 1) := qd_o126 38 9 qd_g167 rfl
theorem dX6_add_48 : decode cX6_add 48 = .ok (.ifCond .ne 4, 3) := qd_o154 38 10 qd_g167 rfl rfl
theorem dX6_add_51 : decode cX6_add 51 = .ok (.return_, 1) := qd_o177 38 13 qd_g167 rfl
theorem dX6_add_52 : decode cX6_add 52 = .ok (.iload_n 3, 1) := qd_o29 38 14 qd_g167 rfl
theorem dX6_add_53 : decode cX6_add 53 = .ok (.bipush 9, 2) := qd_o16 38 15 qd_g167 rfl rfl
theorem dX6_add_55 : decode cX6_add 55 = .ok (.if_icmp .le 9, 3) := qd_o164 38 17 qd_g167 rfl rfl
theorem dX6_add_58 : decode cX6_add 58 = .ok (.iinc 3 (-10), 3) := qd_o132 38 20 qd_g167 rfl rfl
theorem dX6_add_61 : decode cX6_add 61 = .ok (.iinc 4 1, 3) := qd_o132 38 23 qd_g167 rfl rfl
theorem dX6_add_64 : decode cX6_add 64 = .ok (.aload_n 0, 1) := qd_o42 38 26 qd_g167 rfl
theorem dX6_add_65 : decode cX6_add 65 = .ok (.iconst 1, 1) := qd_o4 38 27 qd_g167 rfl
theorem dX6_add_66 : decode cX6_add 66 = .ok (.iload 4, 2) := qd_o21 38 28 qd_g167 rfl rfl
theorem dX6_add_68 : decode cX6_add 68 = .ok (.bipush 9, 2) := qd_o16 38 30 qd_g167 rfl rfl
theorem dX6_add_70 : decode cX6_add 70 = .ok (.if_icmp .le 7, 3) := qd_o164 38 32 qd_g167 rfl rfl
theorem dX6_add_73 : decode cX6_add 73 = .ok (.iconst 1, 1) := qd_o4 38 35 qd_g167 rfl
theorem dX6_add_74 : decode cX6_add 74 = .ok (.goto 4, 3) := qd_o167 38 36 qd_g167 rfl rfl
theorem dX6_add_77 : decode cX6_add 77 = .ok (.iconst 0, 1) := qd_o3 38 39 qd_g167 rfl
theorem qd_g168 : qd_bs cX6_add 78 [182, 0, 165, 21, 4, 16, 9, 164, 0, 6, 132, 4, 246, 42, 42, 16, 16, 21, 4, 104, 29, 96, 17, 0, 255, 126, 182, 0, 169, 181, 0, 22, 177] = true := by decide +kernel
theorem dX6_add_78 : decode cX6_add 78 = .ok (.invokevirtual 165, 3) := qd_o182 78 0 qd_g168 rfl rfl
theorem dX6_add_81 : decode cX6_add 81 = .ok (.iload 4, 2) := qd_o21 78 3 qd_g168 rfl rfl
theorem dX6_add_83 : decode cX6_add 83 = .ok (.bipush 9, 2) := qd_o16 78 5 qd_g168 rfl rfl
theorem dX6_add_85 : decode cX6_add 85 = .ok (.if_icmp .le 6, 3) := qd_o164 78 7 qd_g168 rfl rfl
theorem dX6_add_88 : decode cX6_add 88 = .ok (.iinc 4 (-10), 3) := qd_o132 78 10 qd_g168 rfl rfl
theorem dX6_add_91 : decode cX6_add 91 = .ok (.aload_n 0, 1) := qd_o42 78 13 qd_g168 rfl
theorem dX6_add_92 : decode cX6_add 92 = .ok (.aload_n 0, 1) := qd_o42 78 14 qd_g168 rfl
theorem dX6_add_93 : decode cX6_add 93 = .ok (.bipush 16, 2) := qd_o16 78 15 qd_g168 rfl rfl
theorem dX6_add_95 : decode cX6_add 95 = .ok (.iload 4, 2) := qd_o21 78 17 qd_g168 rfl rfl
theorem dX6_add_97 : decode cX6_add 97 = .ok (.imul, 1) := qd_o104 78 19 qd_g168 rfl
theorem dX6_add_98 : decode cX6_add 98 = .ok (.iload_n 3, 1) := qd_o29 78 20 qd_g168 rfl
theorem dX6_add_99 : decode cX6_add 99 = .ok (.iadd, 1) := qd_o96 78 21 qd_g168 rfl
theorem dX6_add_100 : decode cX6_add 100 = .ok (.sipush 255, 3) := qd_o17 78 22 qd_g168 rfl rfl
theorem dX6_add_103 : decode cX6_add 103 = .ok (.iand, 1) := qd_o126 78 25 qd_g168 rfl
theorem dX6_add_104 : decode cX6_add 104 = .ok (.invokevirtual 169, 3) := qd_o182 78 26 qd_g168 rfl rfl
theorem dX6_add_107 : decode cX6_add 107 = .ok (.putfield 22, 3) := qd_o181 78 29 qd_g168 rfl rfl
theorem dX6_add_110 : decode cX6_add 110 = .ok (.return_, 1) := qd_o177 78 32 qd_g168 rfl
theorem qd_g169 : qd_bs cX6_subtract 0 [42, 180, 0, 15, 4, 126, 61, 42, 180, 0, 22, 16, 16, 112, 27, 16, 16, 112, 100, 4, 100, 28, 96, 62, 42, 180, 0, 22, 16, 16, 108, 27, 16, 16, 108, 100, 54, 4, 42] = true := by decide +kernel
theorem dX6_subtract_0 : decode cX6_subtract 0 = .ok (.aload_n 0, 1) := qd_o42 0 0 qd_g169 rfl
theorem dX6_subtract_1 : decode cX6_subtract 1 = .ok (.getfield 15, 3) := qd_o180 0 1 qd_g169 rfl rfl
theorem dX6_subtract_4 : decode cX6_subtract 4 = .ok (.iconst 1, 1) := qd_o4 0 4 qd_g169 rfl
theorem dX6_subtract_5 : decode cX6_subtract 5 = .ok (.iand, 1) := qd_o126 0 5 qd_g169 rfl
theorem dX6_subtract_6 : decode cX6_subtract 6 = .ok (.istore_n 2, 1) := qd_o61 0 6 qd_g169 rfl
theorem dX6_subtract_7 : decode cX6_subtract 7 = .ok (.aload_n 0, 1) := qd_o42 0 7 qd_g169 rfl
theorem dX6_subtract_8 : decode cX6_subtract 8 = .ok (.getfield 22, 3) := qd_o180 0 8 qd_g169 rfl rfl
theorem dX6_subtract_11 : decode cX6_subtract 11 = .ok (.bipush 16, 2) := qd_o16 0 11 qd_g169 rfl rfl
theorem dX6_subtract_13 : decode cX6_subtract 13 = .ok (.irem, 1) := qd_o112 0 13 qd_g169 rfl
theorem dX6_subtract_14 : decode cX6_subtract 14 = .ok (.iload_n 1, 1) := qd_o27 0 14 qd_g169 rfl
theorem dX6_subtract_15 : decode cX6_subtract 15 = .ok (.bipush 16, 2) := qd_o16 0 15 qd_g169 rfl rfl
theorem dX6_subtract_17 : decode cX6_subtract 17 = .ok (.irem, 1) := qd_o112 0 17 qd_g169 rfl
theorem dX6_subtract_18 : decode cX6_subtract 18 = .ok (.isub, 1) := qd_o100 0 18 qd_g169 rfl
theorem dX6_subtract_19 : decode cX6_subtract 19 = .ok (.iconst 1, 1) := qd_o4 0 19 qd_g169 rfl
theorem dX6_subtract_20 : decode cX6_subtract 20 = .ok (.isub, 1) := qd_o100 0 20 qd_g169 rfl
theorem dX6_subtract_21 : decode cX6_subtract 21 = .ok (.iload_n 2, 1) := qd_o28 0 21 qd_g169 rfl
theorem dX6_subtract_22 : decode cX6_subtract 22 = .ok (.iadd, 1) := qd_o96 0 22 qd_g169 rfl
theorem dX6_subtract_23 : decode cX6_subtract 23 = .ok (.istore_n 3, 1) := qd_o62 0 23 qd_g169 rfl
theorem dX6_subtract_24 : decode cX6_subtract 24 = .ok (.aload_n 0, 1) := qd_o42 0 24 qd_g169 rfl
theorem dX6_subtract_25 : decode cX6_subtract 25 = .ok (.getfield 22, 3) := qd_o180 0 25 qd_g169 rfl rfl
theorem dX6_subtract_28 : decode cX6_subtract 28 = .ok (.bipush 16, 2) := qd_o16 0 28 qd_g169 rfl rfl
theorem dX6_subtract_30 : decode cX6_subtract 30 = .ok (.idiv, 1) := qd_o108 0 30 qd_g169 rfl
theorem dX6_subtract_31 : decode cX6_subtract 31 = .ok (.iload_n 1, 1) := qd_o27 0 31 qd_g169 rfl
theorem dX6_subtract_32 : decode cX6_subtract 32 = .ok (.bipush 16, 2) := qd_o16 0 32 qd_g169 rfl rfl
theorem dX6_subtract_34 : decode cX6_subtract 34 = .ok (.idiv, 1) := qd_o108 0 34 qd_g169 rfl
theorem dX6_subtract_35 : decode cX6_subtract 35 = .ok (.isub, 1) := qd_o100 0 35 qd_g169 rfl
theorem dX6_subtract_36 : decode cX6_subtract 36 = .ok (.istore 4, 2) := qd_o54 0 36 qd_g169 rfl rfl
theorem dX6_subtract_38 : decode cX6_subtract 38 = .ok (.aload_n 0, 1) := qd_o42 0 38 qd_g169 rfl
theorem qd_g170 : qd_bs cX6_subtract 39 [17, 0, 255, 27, 100, 182, 0, 182, 42, 180, 0, 15, 16, 8, 126, 154, 0, 4, 177, 29, 156, 0, 9, 132, 3, 10, 132, 4, 255, 42, 4, 21, 4, 155, 0, 7, 4, 167, 0, 4] = true := by decide +kernel
theorem dX6_subtract_39 : decode cX6_subtract 39 = .ok (.sipush 255, 3) := qd_o17 39 0 qd_g170 rfl rfl
theorem dX6_subtract_42 : decode cX6_subtract 42 = .ok (.iload_n 1, 1) := qd_o27 39 3 qd_g170 rfl
theorem dX6_subtract_43 : decode cX6_subtract 43 = .ok (.isub, 1) := qd_o100 39 4 qd_g170 rfl
theorem dX6_subtract_44 : decode cX6_subtract 44 = .ok (.invokevirtual 182, 3) := qd_o182 39 5 qd_g170 rfl rfl
theorem dX6_subtract_47 : decode cX6_subtract 47 = .ok (.aload_n 0, 1) := qd_o42 39 8 qd_g170 rfl
theorem dX6_subtract_48 : decode cX6_subtract 48 = .ok (.getfield 15, 3) := qd_o180 39 9 qd_g170 rfl rfl
theorem dX6_subtract_51 : decode cX6_subtract 51 = .ok (.bipush 8, 2) := qd_o16 39 12 qd_g170 rfl rfl
theorem dX6_subtract_53 : decode cX6_subtract 53 = .ok (.iand, 1) := qd_o126 39 14 qd_g170 rfl
theorem dX6_subtract_54 : decode cX6_subtract 54 = .ok (.ifCond .ne 4, 3) := qd_o154 39 15 qd_g170 rfl rfl
theorem dX6_subtract_57 : decode cX6_subtract 57 = .ok (.return_, 1) := qd_o177 39 18 qd_g170 rfl
theorem dX6_subtract_58 : decode cX6_subtract 58 = .ok (.iload_n 3, 1) := qd_o29 39 19 qd_g170 rfl
theorem dX6_subtract_59 : decode cX6_subtract 59 = .ok (.ifCond .ge 9, 3) := qd_o156 39 20 qd_g170 rfl rfl
theorem dX6_subtract_62 : decode cX6_subtract 62 = .ok (.iinc 3 10, 3) := qd_o132 39 23 qd_g170 rfl rfl
theorem dX6_subtract_65 : decode cX6_subtract 65 = .ok (.iinc 4 (-1), 3) := qd_o132 39 26 qd_g170 rfl rfl
theorem dX6_subtract_68 : decode cX6_subtract 68 = .ok (.aload_n 0, 1) := qd_o42 39 29 qd_g170 rfl
theorem dX6_subtract_69 : decode cX6_subtract 69 = .ok (.iconst 1, 1) := qd_o4 39 30 qd_g170 rfl
theorem dX6_subtract_70 : decode cX6_subtract 70 = .ok (.iload 4, 2) := qd_o21 39 31 qd_g170 rfl rfl
theorem dX6_subtract_72 : decode cX6_subtract 72 = .ok (.ifCond .lt 7, 3) := qd_o155 39 33 qd_g170 rfl rfl
theorem dX6_subtract_75 : decode cX6_subtract 75 = .ok (.iconst 1, 1) := qd_o4 39 36 qd_g170 rfl
theorem dX6_subtract_76 : decode cX6_subtract 76 = .ok (.goto 4, 3) := qd_o167 39 37 qd_g170 rfl rfl
theorem qd_g171 : qd_bs cX6_subtract 79 [3, 182, 0, 165, 21, 4, 156, 0, 6, 132, 4, 10, 42, 42, 16, 16, 21, 4, 104, 29, 96, 17, 0, 255, 126, 182, 0, 169, 181, 0, 22, 177] = true := by decide +kernel
theorem dX6_subtract_79 : decode cX6_subtract 79 = .ok (.iconst 0, 1) := qd_o3 79 0 qd_g171 rfl
theorem dX6_subtract_80 : decode cX6_subtract 80 = .ok (.invokevirtual 165, 3) := qd_o182 79 1 qd_g171 rfl rfl
theorem dX6_subtract_83 : decode cX6_subtract 83 = .ok (.iload 4, 2) := qd_o21 79 4 qd_g171 rfl rfl
theorem dX6_subtract_85 : decode cX6_subtract 85 = .ok (.ifCond .ge 6, 3) := qd_o156 79 6 qd_g171 rfl rfl
theorem dX6_subtract_88 : decode cX6_subtract 88 = .ok (.iinc 4 10, 3) := qd_o132 79 9 qd_g171 rfl rfl
theorem dX6_subtract_91 : decode cX6_subtract 91 = .ok (.aload_n 0, 1) := qd_o42 79 12 qd_g171 rfl
theorem dX6_subtract_92 : decode cX6_subtract 92 = .ok (.aload_n 0, 1) := qd_o42 79 13 qd_g171 rfl
theorem dX6_subtract_93 : decode cX6_subtract 93 = .ok (.bipush 16, 2) := qd_o16 79 14 qd_g171 rfl rfl
theorem dX6_subtract_95 : decode cX6_subtract 95 = .ok (.iload 4, 2) := qd_o21 79 16 qd_g171 rfl rfl
theorem dX6_subtract_97 : decode cX6_subtract 97 = .ok (.imul, 1) := qd_o104 79 18 qd_g171 rfl
theorem dX6_subtract_98 : decode cX6_subtract 98 = .ok (.iload_n 3, 1) := qd_o29 79 19 qd_g171 rfl
theorem dX6_subtract_99 : decode cX6_subtract 99 = .ok (.iadd, 1) := qd_o96 79 20 qd_g171 rfl
theorem dX6_subtract_100 : decode cX6_subtract 100 = .ok (.sipush 255, 3) := qd_o17 79 21 qd_g171 rfl rfl
theorem dX6_subtract_103 : decode cX6_subtract 103 = .ok (.iand, 1) := qd_o126 79 24 qd_g171 rfl
theorem dX6_subtract_104 : decode cX6_subtract 104 = .ok (.invokevirtual 169, 3) := qd_o182 79 25 qd_g171 rfl rfl
theorem dX6_subtract_107 : decode cX6_subtract 107 = .ok (.putfield 22, 3) := qd_o181 79 28 qd_g171 rfl rfl
theorem dX6_subtract_110 : decode cX6_subtract 110 = .ok (.return_, 1) := qd_o177 79 31 qd_g171 rfl
theorem qd_g172 : qd_bs cX6_addBinary 0 [42, 180, 0, 22, 27, 96, 42, 180, 0, 15, 4, 126, 96, 61, 42, 16, 64, 42, 180, 0, 22, 28, 130, 27, 28, 130, 126, 17, 0, 128, 126, 153, 0, 7, 4, 167, 0, 4, 3] = true := by decide +kernel
theorem dX6_addBinary_0 : decode cX6_addBinary 0 = .ok (.aload_n 0, 1) := qd_o42 0 0 qd_g172 rfl
theorem dX6_addBinary_1 : decode cX6_addBinary 1 = .ok (.getfield 22, 3) := qd_o180 0 1 qd_g172 rfl rfl
theorem dX6_addBinary_4 : decode cX6_addBinary 4 = .ok (.iload_n 1, 1) := qd_o27 0 4 qd_g172 rfl
theorem dX6_addBinary_5 : decode cX6_addBinary 5 = .ok (.iadd, 1) := qd_o96 0 5 qd_g172 rfl
theorem dX6_addBinary_6 : decode cX6_addBinary 6 = .ok (.aload_n 0, 1) := qd_o42 0 6 qd_g172 rfl
theorem dX6_addBinary_7 : decode cX6_addBinary 7 = .ok (.getfield 15, 3) := qd_o180 0 7 qd_g172 rfl rfl
theorem dX6_addBinary_10 : decode cX6_addBinary 10 = .ok (.iconst 1, 1) := qd_o4 0 10 qd_g172 rfl
theorem dX6_addBinary_11 : decode cX6_addBinary 11 = .ok (.iand, 1) := qd_o126 0 11 qd_g172 rfl
theorem dX6_addBinary_12 : decode cX6_addBinary 12 = .ok (.iadd, 1) := qd_o96 0 12 qd_g172 rfl
theorem dX6_addBinary_13 : decode cX6_addBinary 13 = .ok (.istore_n 2, 1) := qd_o61 0 13 qd_g172 rfl
theorem dX6_addBinary_14 : decode cX6_addBinary 14 = .ok (.aload_n 0, 1) := qd_o42 0 14 qd_g172 rfl
theorem dX6_addBinary_15 : decode cX6_addBinary 15 = .ok (.bipush 64, 2) := qd_o16 0 15 qd_g172 rfl rfl
theorem dX6_addBinary_17 : decode cX6_addBinary 17 = .ok (.aload_n 0, 1) := qd_o42 0 17 qd_g172 rfl
theorem dX6_addBinary_18 : decode cX6_addBinary 18 = .ok (.getfield 22, 3) := qd_o180 0 18 qd_g172 rfl rfl
theorem dX6_addBinary_21 : decode cX6_addBinary 21 = .ok (.iload_n 2, 1) := qd_o28 0 21 qd_g172 rfl
theorem dX6_addBinary_22 : decode cX6_addBinary 22 = .ok (.ixor, 1) := qd_o130 0 22 qd_g172 rfl
theorem dX6_addBinary_23 : decode cX6_addBinary 23 = .ok (.iload_n 1, 1) := qd_o27 0 23 qd_g172 rfl
theorem dX6_addBinary_24 : decode cX6_addBinary 24 = .ok (.iload_n 2, 1) := qd_o28 0 24 qd_g172 rfl
theorem dX6_addBinary_25 : decode cX6_addBinary 25 = .ok (.ixor, 1) := qd_o130 0 25 qd_g172 rfl
theorem dX6_addBinary_26 : decode cX6_addBinary 26 = .ok (.iand, 1) := qd_o126 0 26 qd_g172 rfl
theorem dX6_addBinary_27 : decode cX6_addBinary 27 = .ok (.sipush 128, 3) := qd_o17 0 27 qd_g172 rfl rfl
theorem dX6_addBinary_30 : decode cX6_addBinary 30 = .ok (.iand, 1) := qd_o126 0 30 qd_g172 rfl
theorem dX6_addBinary_31 : decode cX6_addBinary 31 = .ok (.ifCond .eq 7, 3) := qd_o153 0 31 qd_g172 rfl rfl
theorem dX6_addBinary_34 : decode cX6_addBinary 34 = .ok (.iconst 1, 1) := qd_o4 0 34 qd_g172 rfl
theorem dX6_addBinary_35 : decode cX6_addBinary 35 = .ok (.goto 4, 3) := qd_o167 0 35 qd_g172 rfl rfl
theorem dX6_addBinary_38 : decode cX6_addBinary 38 = .ok (.iconst 0, 1) := qd_o3 0 38 qd_g172 rfl
theorem qd_g173 : qd_bs cX6_addBinary 39 [182, 0, 165, 42, 4, 28, 17, 0, 255, 164, 0, 7, 4, 167, 0, 4, 3, 182, 0, 165, 42, 42, 28, 17, 0, 255, 126, 182, 0, 169, 181, 0, 22, 177] = true := by decide +kernel
theorem dX6_addBinary_39 : decode cX6_addBinary 39 = .ok (.invokevirtual 165, 3) := qd_o182 39 0 qd_g173 rfl rfl
theorem dX6_addBinary_42 : decode cX6_addBinary 42 = .ok (.aload_n 0, 1) := qd_o42 39 3 qd_g173 rfl
theorem dX6_addBinary_43 : decode cX6_addBinary 43 = .ok (.iconst 1, 1) := qd_o4 39 4 qd_g173 rfl
theorem dX6_addBinary_44 : decode cX6_addBinary 44 = .ok (.iload_n 2, 1) := qd_o28 39 5 qd_g173 rfl
theorem dX6_addBinary_45 : decode cX6_addBinary 45 = .ok (.sipush 255, 3) := qd_o17 39 6 qd_g173 rfl rfl
theorem dX6_addBinary_48 : decode cX6_addBinary 48 = .ok (.if_icmp .le 7, 3) := qd_o164 39 9 qd_g173 rfl rfl
theorem dX6_addBinary_51 : decode cX6_addBinary 51 = .ok (.iconst 1, 1) := qd_o4 39 12 qd_g173 rfl
theorem dX6_addBinary_52 : decode cX6_addBinary 52 = .ok (.goto 4, 3) := qd_o167 39 13 qd_g173 rfl rfl
theorem dX6_addBinary_55 : decode cX6_addBinary 55 = .ok (.iconst 0, 1) := qd_o3 39 16 qd_g173 rfl
theorem dX6_addBinary_56 : decode cX6_addBinary 56 = .ok (.invokevirtual 165, 3) := qd_o182 39 17 qd_g173 rfl rfl
theorem dX6_addBinary_59 : decode cX6_addBinary 59 = .ok (.aload_n 0, 1) := qd_o42 39 20 qd_g173 rfl
theorem dX6_addBinary_60 : decode cX6_addBinary 60 = .ok (.aload_n 0, 1) := qd_o42 39 21 qd_g173 rfl
theorem dX6_addBinary_61 : decode cX6_addBinary 61 = .ok (.iload_n 2, 1) := qd_o28 39 22 qd_g173 rfl
theorem dX6_addBinary_62 : decode cX6_addBinary 62 = .ok (.sipush 255, 3) := qd_o17 39 23 qd_g173 rfl rfl
theorem dX6_addBinary_65 : decode cX6_addBinary 65 = .ok (.iand, 1) := qd_o126 39 26 qd_g173 rfl
theorem dX6_addBinary_66 : decode cX6_addBinary 66 = .ok (.invokevirtual 169, 3) := qd_o182 39 27 qd_g173 rfl rfl
theorem dX6_addBinary_69 : decode cX6_addBinary 69 = .ok (.putfield 22, 3) := qd_o181 39 30 qd_g173 rfl rfl
theorem dX6_addBinary_72 : decode cX6_addBinary 72 = .ok (.return_, 1) := qd_o177 39 33 qd_g173 rfl
theorem qd_g174 : qd_bs cX6_doPlain 0 [28, 17, 0, 137, 163, 0, 11, 42, 28, 182, 0, 185, 167, 0, 127, 28, 17, 0, 142, 161, 0, 18, 28, 17, 0, 148, 163, 0, 11, 42, 28, 182, 0, 188, 167, 0, 105, 28] = true := by decide +kernel
theorem dX6_doPlain_0 : decode cX6_doPlain 0 = .ok (.iload_n 2, 1) := qd_o28 0 0 qd_g174 rfl
theorem dX6_doPlain_1 : decode cX6_doPlain 1 = .ok (.sipush 137, 3) := qd_o17 0 1 qd_g174 rfl rfl
theorem dX6_doPlain_4 : decode cX6_doPlain 4 = .ok (.if_icmp .gt 11, 3) := qd_o163 0 4 qd_g174 rfl rfl
theorem dX6_doPlain_7 : decode cX6_doPlain 7 = .ok (.aload_n 0, 1) := qd_o42 0 7 qd_g174 rfl
theorem dX6_doPlain_8 : decode cX6_doPlain 8 = .ok (.iload_n 2, 1) := qd_o28 0 8 qd_g174 rfl
theorem dX6_doPlain_9 : decode cX6_doPlain 9 = .ok (.invokevirtual 185, 3) := qd_o182 0 9 qd_g174 rfl rfl
theorem dX6_doPlain_12 : decode cX6_doPlain 12 = .ok (.goto 127, 3) := qd_o167 0 12 qd_g174 rfl rfl
theorem dX6_doPlain_15 : decode cX6_doPlain 15 = .ok (.iload_n 2, 1) := qd_o28 0 15 qd_g174 rfl
theorem dX6_doPlain_16 : decode cX6_doPlain 16 = .ok (.sipush 142, 3) := qd_o17 0 16 qd_g174 rfl rfl
theorem dX6_doPlain_19 : decode cX6_doPlain 19 = .ok (.if_icmp .lt 18, 3) := qd_o161 0 19 qd_g174 rfl rfl
theorem dX6_doPlain_22 : decode cX6_doPlain 22 = .ok (.iload_n 2, 1) := qd_o28 0 22 qd_g174 rfl
theorem dX6_doPlain_23 : decode cX6_doPlain 23 = .ok (.sipush 148, 3) := qd_o17 0 23 qd_g174 rfl rfl
theorem dX6_doPlain_26 : decode cX6_doPlain 26 = .ok (.if_icmp .gt 11, 3) := qd_o163 0 26 qd_g174 rfl rfl
theorem dX6_doPlain_29 : decode cX6_doPlain 29 = .ok (.aload_n 0, 1) := qd_o42 0 29 qd_g174 rfl
theorem dX6_doPlain_30 : decode cX6_doPlain 30 = .ok (.iload_n 2, 1) := qd_o28 0 30 qd_g174 rfl
theorem dX6_doPlain_31 : decode cX6_doPlain 31 = .ok (.invokevirtual 188, 3) := qd_o182 0 31 qd_g174 rfl rfl
theorem dX6_doPlain_34 : decode cX6_doPlain 34 = .ok (.goto 105, 3) := qd_o167 0 34 qd_g174 rfl rfl
theorem dX6_doPlain_37 : decode cX6_doPlain 37 = .ok (.iload_n 2, 1) := qd_o28 0 37 qd_g174 rfl
theorem qd_g175 : qd_bs cX6_doPlain 38 [17, 0, 150, 161, 0, 11, 42, 28, 182, 0, 191, 167, 0, 90, 28, 17, 0, 138, 160, 0, 15, 42, 43, 42, 180, 0, 22, 182, 0, 162, 167, 0, 71, 28, 17, 0, 139, 160, 0, 19] = true := by decide +kernel
theorem dX6_doPlain_38 : decode cX6_doPlain 38 = .ok (.sipush 150, 3) := qd_o17 38 0 qd_g175 rfl rfl
theorem dX6_doPlain_41 : decode cX6_doPlain 41 = .ok (.if_icmp .lt 11, 3) := qd_o161 38 3 qd_g175 rfl rfl
theorem dX6_doPlain_44 : decode cX6_doPlain 44 = .ok (.aload_n 0, 1) := qd_o42 38 6 qd_g175 rfl
theorem dX6_doPlain_45 : decode cX6_doPlain 45 = .ok (.iload_n 2, 1) := qd_o28 38 7 qd_g175 rfl
theorem dX6_doPlain_46 : decode cX6_doPlain 46 = .ok (.invokevirtual 191, 3) := qd_o182 38 8 qd_g175 rfl rfl
theorem dX6_doPlain_49 : decode cX6_doPlain 49 = .ok (.goto 90, 3) := qd_o167 38 11 qd_g175 rfl rfl
theorem dX6_doPlain_52 : decode cX6_doPlain 52 = .ok (.iload_n 2, 1) := qd_o28 38 14 qd_g175 rfl
theorem dX6_doPlain_53 : decode cX6_doPlain 53 = .ok (.sipush 138, 3) := qd_o17 38 15 qd_g175 rfl rfl
theorem dX6_doPlain_56 : decode cX6_doPlain 56 = .ok (.if_icmp .ne 15, 3) := qd_o160 38 18 qd_g175 rfl rfl
theorem dX6_doPlain_59 : decode cX6_doPlain 59 = .ok (.aload_n 0, 1) := qd_o42 38 21 qd_g175 rfl
theorem dX6_doPlain_60 : decode cX6_doPlain 60 = .ok (.aload_n 1, 1) := qd_o43 38 22 qd_g175 rfl
theorem dX6_doPlain_61 : decode cX6_doPlain 61 = .ok (.aload_n 0, 1) := qd_o42 38 23 qd_g175 rfl
theorem dX6_doPlain_62 : decode cX6_doPlain 62 = .ok (.getfield 22, 3) := qd_o180 38 24 qd_g175 rfl rfl
theorem dX6_doPlain_65 : decode cX6_doPlain 65 = .ok (.invokevirtual 162, 3) := qd_o182 38 27 qd_g175 rfl rfl
theorem dX6_doPlain_68 : decode cX6_doPlain 68 = .ok (.goto 71, 3) := qd_o167 38 30 qd_g175 rfl rfl
theorem dX6_doPlain_71 : decode cX6_doPlain 71 = .ok (.iload_n 2, 1) := qd_o28 38 33 qd_g175 rfl
theorem dX6_doPlain_72 : decode cX6_doPlain 72 = .ok (.sipush 139, 3) := qd_o17 38 34 qd_g175 rfl rfl
theorem dX6_doPlain_75 : decode cX6_doPlain 75 = .ok (.if_icmp .ne 19, 3) := qd_o160 38 37 qd_g175 rfl rfl
theorem qd_g176 : qd_bs cX6_doPlain 78 [42, 42, 42, 43, 182, 0, 194, 182, 0, 169, 181, 0, 22, 167, 0, 48, 28, 17, 0, 140, 160, 0, 21, 42, 43, 42, 180, 0, 15, 16, 32, 128, 16, 16, 128, 182, 0, 162] = true := by decide +kernel
theorem dX6_doPlain_78 : decode cX6_doPlain 78 = .ok (.aload_n 0, 1) := qd_o42 78 0 qd_g176 rfl
theorem dX6_doPlain_79 : decode cX6_doPlain 79 = .ok (.aload_n 0, 1) := qd_o42 78 1 qd_g176 rfl
theorem dX6_doPlain_80 : decode cX6_doPlain 80 = .ok (.aload_n 0, 1) := qd_o42 78 2 qd_g176 rfl
theorem dX6_doPlain_81 : decode cX6_doPlain 81 = .ok (.aload_n 1, 1) := qd_o43 78 3 qd_g176 rfl
theorem dX6_doPlain_82 : decode cX6_doPlain 82 = .ok (.invokevirtual 194, 3) := qd_o182 78 4 qd_g176 rfl rfl
theorem dX6_doPlain_85 : decode cX6_doPlain 85 = .ok (.invokevirtual 169, 3) := qd_o182 78 7 qd_g176 rfl rfl
theorem dX6_doPlain_88 : decode cX6_doPlain 88 = .ok (.putfield 22, 3) := qd_o181 78 10 qd_g176 rfl rfl
theorem dX6_doPlain_91 : decode cX6_doPlain 91 = .ok (.goto 48, 3) := qd_o167 78 13 qd_g176 rfl rfl
theorem dX6_doPlain_94 : decode cX6_doPlain 94 = .ok (.iload_n 2, 1) := qd_o28 78 16 qd_g176 rfl
theorem dX6_doPlain_95 : decode cX6_doPlain 95 = .ok (.sipush 140, 3) := qd_o17 78 17 qd_g176 rfl rfl
theorem dX6_doPlain_98 : decode cX6_doPlain 98 = .ok (.if_icmp .ne 21, 3) := qd_o160 78 20 qd_g176 rfl rfl
theorem dX6_doPlain_101 : decode cX6_doPlain 101 = .ok (.aload_n 0, 1) := qd_o42 78 23 qd_g176 rfl
theorem dX6_doPlain_102 : decode cX6_doPlain 102 = .ok (.aload_n 1, 1) := qd_o43 78 24 qd_g176 rfl
theorem dX6_doPlain_103 : decode cX6_doPlain 103 = .ok (.aload_n 0, 1) := qd_o42 78 25 qd_g176 rfl
theorem dX6_doPlain_104 : decode cX6_doPlain 104 = .ok (.getfield 15, 3) := qd_o180 78 26 qd_g176 rfl rfl
theorem dX6_doPlain_107 : decode cX6_doPlain 107 = .ok (.bipush 32, 2) := qd_o16 78 29 qd_g176 rfl rfl
theorem dX6_doPlain_109 : decode cX6_doPlain 109 = .ok (.ior, 1) := qd_o128 78 31 qd_g176 rfl
theorem dX6_doPlain_110 : decode cX6_doPlain 110 = .ok (.bipush 16, 2) := qd_o16 78 32 qd_g176 rfl rfl
theorem dX6_doPlain_112 : decode cX6_doPlain 112 = .ok (.ior, 1) := qd_o128 78 34 qd_g176 rfl
theorem dX6_doPlain_113 : decode cX6_doPlain 113 = .ok (.invokevirtual 162, 3) := qd_o182 78 35 qd_g176 rfl rfl
theorem qd_g177 : qd_bs cX6_doPlain 116 [167, 0, 23, 28, 17, 0, 141, 160, 0, 16, 42, 42, 43, 182, 0, 194, 17, 0, 207, 126, 181, 0, 15, 177] = true := by decide +kernel
theorem dX6_doPlain_116 : decode cX6_doPlain 116 = .ok (.goto 23, 3) := qd_o167 116 0 qd_g177 rfl rfl
theorem dX6_doPlain_119 : decode cX6_doPlain 119 = .ok (.iload_n 2, 1) := qd_o28 116 3 qd_g177 rfl
theorem dX6_doPlain_120 : decode cX6_doPlain 120 = .ok (.sipush 141, 3) := qd_o17 116 4 qd_g177 rfl rfl
theorem dX6_doPlain_123 : decode cX6_doPlain 123 = .ok (.if_icmp .ne 16, 3) := qd_o160 116 7 qd_g177 rfl rfl
theorem dX6_doPlain_126 : decode cX6_doPlain 126 = .ok (.aload_n 0, 1) := qd_o42 116 10 qd_g177 rfl
theorem dX6_doPlain_127 : decode cX6_doPlain 127 = .ok (.aload_n 0, 1) := qd_o42 116 11 qd_g177 rfl
theorem dX6_doPlain_128 : decode cX6_doPlain 128 = .ok (.aload_n 1, 1) := qd_o43 116 12 qd_g177 rfl
theorem dX6_doPlain_129 : decode cX6_doPlain 129 = .ok (.invokevirtual 194, 3) := qd_o182 116 13 qd_g177 rfl rfl
theorem dX6_doPlain_132 : decode cX6_doPlain 132 = .ok (.sipush 207, 3) := qd_o17 116 16 qd_g177 rfl rfl
theorem dX6_doPlain_135 : decode cX6_doPlain 135 = .ok (.iand, 1) := qd_o126 116 19 qd_g177 rfl
theorem dX6_doPlain_136 : decode cX6_doPlain 136 = .ok (.putfield 15, 3) := qd_o181 116 20 qd_g177 rfl rfl
theorem dX6_doPlain_139 : decode cX6_doPlain 139 = .ok (.return_, 1) := qd_o177 116 23 qd_g177 rfl
theorem qd_g178 : qd_bs cX6_jump 0 [28] = true := by decide +kernel
theorem dX6_jump_0 : decode cX6_jump 0 = .ok (.iload_n 2, 1) := qd_o28 0 0 qd_g178 rfl
theorem dX6_jump_1 : decode cX6_jump 1 = .ok (.tableswitch 123 155 159 #[35, 54, 66, 73, 111], 35) := by decide +kernel
theorem qd_g179 : qd_bs cX6_jump 36 [42, 42, 43, 182, 0, 194, 17, 0, 207, 126, 181, 0, 15, 42, 43, 182, 0, 197, 172, 42, 43, 182, 0, 197, 4, 96, 17, 15, 255, 126, 172, 42, 43, 6, 182, 0, 103, 172, 42, 43] = true := by decide +kernel
theorem dX6_jump_36 : decode cX6_jump 36 = .ok (.aload_n 0, 1) := qd_o42 36 0 qd_g179 rfl
theorem dX6_jump_37 : decode cX6_jump 37 = .ok (.aload_n 0, 1) := qd_o42 36 1 qd_g179 rfl
theorem dX6_jump_38 : decode cX6_jump 38 = .ok (.aload_n 1, 1) := qd_o43 36 2 qd_g179 rfl
theorem dX6_jump_39 : decode cX6_jump 39 = .ok (.invokevirtual 194, 3) := qd_o182 36 3 qd_g179 rfl rfl
theorem dX6_jump_42 : decode cX6_jump 42 = .ok (.sipush 207, 3) := qd_o17 36 6 qd_g179 rfl rfl
theorem dX6_jump_45 : decode cX6_jump 45 = .ok (.iand, 1) := qd_o126 36 9 qd_g179 rfl
theorem dX6_jump_46 : decode cX6_jump 46 = .ok (.putfield 15, 3) := qd_o181 36 10 qd_g179 rfl rfl
theorem dX6_jump_49 : decode cX6_jump 49 = .ok (.aload_n 0, 1) := qd_o42 36 13 qd_g179 rfl
theorem dX6_jump_50 : decode cX6_jump 50 = .ok (.aload_n 1, 1) := qd_o43 36 14 qd_g179 rfl
theorem dX6_jump_51 : decode cX6_jump 51 = .ok (.invokevirtual 197, 3) := qd_o182 36 15 qd_g179 rfl rfl
theorem dX6_jump_54 : decode cX6_jump 54 = .ok (.ireturn, 1) := qd_o172 36 18 qd_g179 rfl
theorem dX6_jump_55 : decode cX6_jump 55 = .ok (.aload_n 0, 1) := qd_o42 36 19 qd_g179 rfl
theorem dX6_jump_56 : decode cX6_jump 56 = .ok (.aload_n 1, 1) := qd_o43 36 20 qd_g179 rfl
theorem dX6_jump_57 : decode cX6_jump 57 = .ok (.invokevirtual 197, 3) := qd_o182 36 21 qd_g179 rfl rfl
theorem dX6_jump_60 : decode cX6_jump 60 = .ok (.iconst 1, 1) := qd_o4 36 24 qd_g179 rfl
theorem dX6_jump_61 : decode cX6_jump 61 = .ok (.iadd, 1) := qd_o96 36 25 qd_g179 rfl
theorem dX6_jump_62 : decode cX6_jump 62 = .ok (.sipush 4095, 3) := qd_o17 36 26 qd_g179 rfl rfl
theorem dX6_jump_65 : decode cX6_jump 65 = .ok (.iand, 1) := qd_o126 36 29 qd_g179 rfl
theorem dX6_jump_66 : decode cX6_jump 66 = .ok (.ireturn, 1) := qd_o172 36 30 qd_g179 rfl
theorem dX6_jump_67 : decode cX6_jump 67 = .ok (.aload_n 0, 1) := qd_o42 36 31 qd_g179 rfl
theorem dX6_jump_68 : decode cX6_jump 68 = .ok (.aload_n 1, 1) := qd_o43 36 32 qd_g179 rfl
theorem dX6_jump_69 : decode cX6_jump 69 = .ok (.iconst 3, 1) := qd_o6 36 33 qd_g179 rfl
theorem dX6_jump_70 : decode cX6_jump 70 = .ok (.invokevirtual 103, 3) := qd_o182 36 34 qd_g179 rfl rfl
theorem dX6_jump_73 : decode cX6_jump 73 = .ok (.ireturn, 1) := qd_o172 36 37 qd_g179 rfl
theorem dX6_jump_74 : decode cX6_jump 74 = .ok (.aload_n 0, 1) := qd_o42 36 38 qd_g179 rfl
theorem dX6_jump_75 : decode cX6_jump 75 = .ok (.aload_n 1, 1) := qd_o43 36 39 qd_g179 rfl
theorem qd_g180 : qd_bs cX6_jump 76 [6, 182, 0, 103, 54, 4, 42, 43, 42, 5, 182, 0, 93, 16, 8, 122, 182, 0, 162, 42, 43, 42, 5, 182, 0, 93, 17, 0, 255, 126, 182, 0, 162, 21, 4, 172, 42, 43, 42, 43] = true := by decide +kernel
theorem dX6_jump_76 : decode cX6_jump 76 = .ok (.iconst 3, 1) := qd_o6 76 0 qd_g180 rfl
theorem dX6_jump_77 : decode cX6_jump 77 = .ok (.invokevirtual 103, 3) := qd_o182 76 1 qd_g180 rfl rfl
theorem dX6_jump_80 : decode cX6_jump 80 = .ok (.istore 4, 2) := qd_o54 76 4 qd_g180 rfl rfl
theorem dX6_jump_82 : decode cX6_jump 82 = .ok (.aload_n 0, 1) := qd_o42 76 6 qd_g180 rfl
theorem dX6_jump_83 : decode cX6_jump 83 = .ok (.aload_n 1, 1) := qd_o43 76 7 qd_g180 rfl
theorem dX6_jump_84 : decode cX6_jump 84 = .ok (.aload_n 0, 1) := qd_o42 76 8 qd_g180 rfl
theorem dX6_jump_85 : decode cX6_jump 85 = .ok (.iconst 2, 1) := qd_o5 76 9 qd_g180 rfl
theorem dX6_jump_86 : decode cX6_jump 86 = .ok (.invokevirtual 93, 3) := qd_o182 76 10 qd_g180 rfl rfl
theorem dX6_jump_89 : decode cX6_jump 89 = .ok (.bipush 8, 2) := qd_o16 76 13 qd_g180 rfl rfl
theorem dX6_jump_91 : decode cX6_jump 91 = .ok (.ishr, 1) := qd_o122 76 15 qd_g180 rfl
theorem dX6_jump_92 : decode cX6_jump 92 = .ok (.invokevirtual 162, 3) := qd_o182 76 16 qd_g180 rfl rfl
theorem dX6_jump_95 : decode cX6_jump 95 = .ok (.aload_n 0, 1) := qd_o42 76 19 qd_g180 rfl
theorem dX6_jump_96 : decode cX6_jump 96 = .ok (.aload_n 1, 1) := qd_o43 76 20 qd_g180 rfl
theorem dX6_jump_97 : decode cX6_jump 97 = .ok (.aload_n 0, 1) := qd_o42 76 21 qd_g180 rfl
theorem dX6_jump_98 : decode cX6_jump 98 = .ok (.iconst 2, 1) := qd_o5 76 22 qd_g180 rfl
theorem dX6_jump_99 : decode cX6_jump 99 = .ok (.invokevirtual 93, 3) := qd_o182 76 23 qd_g180 rfl rfl
theorem dX6_jump_102 : decode cX6_jump 102 = .ok (.sipush 255, 3) := qd_o17 76 26 qd_g180 rfl rfl
theorem dX6_jump_105 : decode cX6_jump 105 = .ok (.iand, 1) := qd_o126 76 29 qd_g180 rfl
theorem dX6_jump_106 : decode cX6_jump 106 = .ok (.invokevirtual 162, 3) := qd_o182 76 30 qd_g180 rfl rfl
theorem dX6_jump_109 : decode cX6_jump 109 = .ok (.iload 4, 2) := qd_o21 76 33 qd_g180 rfl rfl
theorem dX6_jump_111 : decode cX6_jump 111 = .ok (.ireturn, 1) := qd_o172 76 35 qd_g180 rfl
theorem dX6_jump_112 : decode cX6_jump 112 = .ok (.aload_n 0, 1) := qd_o42 76 36 qd_g180 rfl
theorem dX6_jump_113 : decode cX6_jump 113 = .ok (.aload_n 1, 1) := qd_o43 76 37 qd_g180 rfl
theorem dX6_jump_114 : decode cX6_jump 114 = .ok (.aload_n 0, 1) := qd_o42 76 38 qd_g180 rfl
theorem dX6_jump_115 : decode cX6_jump 115 = .ok (.aload_n 1, 1) := qd_o43 76 39 qd_g180 rfl
theorem qd_g181 : qd_bs cX6_jump 116 [6, 182, 0, 103, 182, 0, 200, 172, 28, 184, 0, 89, 153, 0, 29, 42, 28, 182, 0, 119, 153, 0, 19, 42, 43, 42, 4, 182, 0, 93, 182, 0, 81, 182, 0, 122, 167, 0, 4, 29] = true := by decide +kernel
theorem dX6_jump_116 : decode cX6_jump 116 = .ok (.iconst 3, 1) := qd_o6 116 0 qd_g181 rfl
theorem dX6_jump_117 : decode cX6_jump 117 = .ok (.invokevirtual 103, 3) := qd_o182 116 1 qd_g181 rfl rfl
theorem dX6_jump_120 : decode cX6_jump 120 = .ok (.invokevirtual 200, 3) := qd_o182 116 4 qd_g181 rfl rfl
theorem dX6_jump_123 : decode cX6_jump 123 = .ok (.ireturn, 1) := qd_o172 116 7 qd_g181 rfl
theorem dX6_jump_124 : decode cX6_jump 124 = .ok (.iload_n 2, 1) := qd_o28 116 8 qd_g181 rfl
theorem dX6_jump_125 : decode cX6_jump 125 = .ok (.invokestatic 89, 3) := qd_o184 116 9 qd_g181 rfl rfl
theorem dX6_jump_128 : decode cX6_jump 128 = .ok (.ifCond .eq 29, 3) := qd_o153 116 12 qd_g181 rfl rfl
theorem dX6_jump_131 : decode cX6_jump 131 = .ok (.aload_n 0, 1) := qd_o42 116 15 qd_g181 rfl
theorem dX6_jump_132 : decode cX6_jump 132 = .ok (.iload_n 2, 1) := qd_o28 116 16 qd_g181 rfl
theorem dX6_jump_133 : decode cX6_jump 133 = .ok (.invokevirtual 119, 3) := qd_o182 116 17 qd_g181 rfl rfl
theorem dX6_jump_136 : decode cX6_jump 136 = .ok (.ifCond .eq 19, 3) := qd_o153 116 20 qd_g181 rfl rfl
theorem dX6_jump_139 : decode cX6_jump 139 = .ok (.aload_n 0, 1) := qd_o42 116 23 qd_g181 rfl
theorem dX6_jump_140 : decode cX6_jump 140 = .ok (.aload_n 1, 1) := qd_o43 116 24 qd_g181 rfl
theorem dX6_jump_141 : decode cX6_jump 141 = .ok (.aload_n 0, 1) := qd_o42 116 25 qd_g181 rfl
theorem dX6_jump_142 : decode cX6_jump 142 = .ok (.iconst 1, 1) := qd_o4 116 26 qd_g181 rfl
theorem dX6_jump_143 : decode cX6_jump 143 = .ok (.invokevirtual 93, 3) := qd_o182 116 27 qd_g181 rfl rfl
theorem dX6_jump_146 : decode cX6_jump 146 = .ok (.invokevirtual 81, 3) := qd_o182 116 30 qd_g181 rfl rfl
theorem dX6_jump_149 : decode cX6_jump 149 = .ok (.invokevirtual 122, 3) := qd_o182 116 33 qd_g181 rfl rfl
theorem dX6_jump_152 : decode cX6_jump 152 = .ok (.goto 4, 3) := qd_o167 116 36 qd_g181 rfl rfl
theorem dX6_jump_155 : decode cX6_jump 155 = .ok (.iload_n 3, 1) := qd_o29 116 39 qd_g181 rfl
theorem qd_g182 : qd_bs cX6_jump 156 [172, 42, 4, 181, 0, 38, 42, 180, 0, 31, 172] = true := by decide +kernel
theorem dX6_jump_156 : decode cX6_jump 156 = .ok (.ireturn, 1) := qd_o172 156 0 qd_g182 rfl
theorem dX6_jump_157 : decode cX6_jump 157 = .ok (.aload_n 0, 1) := qd_o42 156 1 qd_g182 rfl
theorem dX6_jump_158 : decode cX6_jump 158 = .ok (.iconst 1, 1) := qd_o4 156 2 qd_g182 rfl
theorem dX6_jump_159 : decode cX6_jump 159 = .ok (.putfield 38, 3) := qd_o181 156 3 qd_g182 rfl rfl
theorem dX6_jump_162 : decode cX6_jump 162 = .ok (.aload_n 0, 1) := qd_o42 156 6 qd_g182 rfl
theorem dX6_jump_163 : decode cX6_jump 163 = .ok (.getfield 31, 3) := qd_o180 156 7 qd_g182 rfl rfl
theorem dX6_jump_166 : decode cX6_jump 166 = .ok (.ireturn, 1) := qd_o172 156 10 qd_g182 rfl
theorem qd_g183 : qd_bs cX6_wordInPage 0 [28, 17, 1, 0, 108, 17, 1, 0, 104, 28, 4, 96, 17, 0, 255, 126, 96, 62, 43, 28, 182, 0, 81, 17, 1, 0, 43, 29, 182, 0, 81, 104, 96, 17, 15, 255, 126, 172] = true := by decide +kernel
theorem dX6_wordInPage_0 : decode cX6_wordInPage 0 = .ok (.iload_n 2, 1) := qd_o28 0 0 qd_g183 rfl
theorem dX6_wordInPage_1 : decode cX6_wordInPage 1 = .ok (.sipush 256, 3) := qd_o17 0 1 qd_g183 rfl rfl
theorem dX6_wordInPage_4 : decode cX6_wordInPage 4 = .ok (.idiv, 1) := qd_o108 0 4 qd_g183 rfl
theorem dX6_wordInPage_5 : decode cX6_wordInPage 5 = .ok (.sipush 256, 3) := qd_o17 0 5 qd_g183 rfl rfl
theorem dX6_wordInPage_8 : decode cX6_wordInPage 8 = .ok (.imul, 1) := qd_o104 0 8 qd_g183 rfl
theorem dX6_wordInPage_9 : decode cX6_wordInPage 9 = .ok (.iload_n 2, 1) := qd_o28 0 9 qd_g183 rfl
theorem dX6_wordInPage_10 : decode cX6_wordInPage 10 = .ok (.iconst 1, 1) := qd_o4 0 10 qd_g183 rfl
theorem dX6_wordInPage_11 : decode cX6_wordInPage 11 = .ok (.iadd, 1) := qd_o96 0 11 qd_g183 rfl
theorem dX6_wordInPage_12 : decode cX6_wordInPage 12 = .ok (.sipush 255, 3) := qd_o17 0 12 qd_g183 rfl rfl
theorem dX6_wordInPage_15 : decode cX6_wordInPage 15 = .ok (.iand, 1) := qd_o126 0 15 qd_g183 rfl
theorem dX6_wordInPage_16 : decode cX6_wordInPage 16 = .ok (.iadd, 1) := qd_o96 0 16 qd_g183 rfl
theorem dX6_wordInPage_17 : decode cX6_wordInPage 17 = .ok (.istore_n 3, 1) := qd_o62 0 17 qd_g183 rfl
theorem dX6_wordInPage_18 : decode cX6_wordInPage 18 = .ok (.aload_n 1, 1) := qd_o43 0 18 qd_g183 rfl
theorem dX6_wordInPage_19 : decode cX6_wordInPage 19 = .ok (.iload_n 2, 1) := qd_o28 0 19 qd_g183 rfl
theorem dX6_wordInPage_20 : decode cX6_wordInPage 20 = .ok (.invokevirtual 81, 3) := qd_o182 0 20 qd_g183 rfl rfl
theorem dX6_wordInPage_23 : decode cX6_wordInPage 23 = .ok (.sipush 256, 3) := qd_o17 0 23 qd_g183 rfl rfl
theorem dX6_wordInPage_26 : decode cX6_wordInPage 26 = .ok (.aload_n 1, 1) := qd_o43 0 26 qd_g183 rfl
theorem dX6_wordInPage_27 : decode cX6_wordInPage 27 = .ok (.iload_n 3, 1) := qd_o29 0 27 qd_g183 rfl
theorem dX6_wordInPage_28 : decode cX6_wordInPage 28 = .ok (.invokevirtual 81, 3) := qd_o182 0 28 qd_g183 rfl rfl
theorem dX6_wordInPage_31 : decode cX6_wordInPage 31 = .ok (.imul, 1) := qd_o104 0 31 qd_g183 rfl
theorem dX6_wordInPage_32 : decode cX6_wordInPage 32 = .ok (.iadd, 1) := qd_o96 0 32 qd_g183 rfl
theorem dX6_wordInPage_33 : decode cX6_wordInPage 33 = .ok (.sipush 4095, 3) := qd_o17 0 33 qd_g183 rfl rfl
theorem dX6_wordInPage_36 : decode cX6_wordInPage 36 = .ok (.iand, 1) := qd_o126 0 36 qd_g183 rfl
theorem dX6_wordInPage_37 : decode cX6_wordInPage 37 = .ok (.ireturn, 1) := qd_o172 0 37 qd_g183 rfl
theorem qd_g184 : qd_bs cX6_pullWord 0 [42, 43, 182, 0, 194, 61, 28, 17, 1, 0, 42, 43, 182, 0, 194, 104, 96, 17, 15, 255, 126, 172] = true := by decide +kernel
theorem dX6_pullWord_0 : decode cX6_pullWord 0 = .ok (.aload_n 0, 1) := qd_o42 0 0 qd_g184 rfl
theorem dX6_pullWord_1 : decode cX6_pullWord 1 = .ok (.aload_n 1, 1) := qd_o43 0 1 qd_g184 rfl
theorem dX6_pullWord_2 : decode cX6_pullWord 2 = .ok (.invokevirtual 194, 3) := qd_o182 0 2 qd_g184 rfl rfl
theorem dX6_pullWord_5 : decode cX6_pullWord 5 = .ok (.istore_n 2, 1) := qd_o61 0 5 qd_g184 rfl
theorem dX6_pullWord_6 : decode cX6_pullWord 6 = .ok (.iload_n 2, 1) := qd_o28 0 6 qd_g184 rfl
theorem dX6_pullWord_7 : decode cX6_pullWord 7 = .ok (.sipush 256, 3) := qd_o17 0 7 qd_g184 rfl rfl
theorem dX6_pullWord_10 : decode cX6_pullWord 10 = .ok (.aload_n 0, 1) := qd_o42 0 10 qd_g184 rfl
theorem dX6_pullWord_11 : decode cX6_pullWord 11 = .ok (.aload_n 1, 1) := qd_o43 0 11 qd_g184 rfl
theorem dX6_pullWord_12 : decode cX6_pullWord 12 = .ok (.invokevirtual 194, 3) := qd_o182 0 12 qd_g184 rfl rfl
theorem dX6_pullWord_15 : decode cX6_pullWord 15 = .ok (.imul, 1) := qd_o104 0 15 qd_g184 rfl
theorem dX6_pullWord_16 : decode cX6_pullWord 16 = .ok (.iadd, 1) := qd_o96 0 16 qd_g184 rfl
theorem dX6_pullWord_17 : decode cX6_pullWord 17 = .ok (.sipush 4095, 3) := qd_o17 0 17 qd_g184 rfl rfl
theorem dX6_pullWord_20 : decode cX6_pullWord 20 = .ok (.iand, 1) := qd_o126 0 20 qd_g184 rfl
theorem dX6_pullWord_21 : decode cX6_pullWord 21 = .ok (.ireturn, 1) := qd_o172 0 21 qd_g184 rfl
theorem qd_g185 : qd_bs cX6_isTaken 0 [27] = true := by decide +kernel
theorem dX6_isTaken_0 : decode cX6_isTaken 0 = .ok (.iload_n 1, 1) := qd_o27 0 0 qd_g185 rfl
theorem dX6_isTaken_1 : decode cX6_isTaken 1 = .ok (.tableswitch 153 160 166 #[43, 58, 73, 88, 103, 120, 137], 43) := by decide +kernel
theorem qd_g186 : qd_bs cX6_isTaken 44 [42, 180, 0, 15, 5, 126, 154, 0, 7, 4, 167, 0, 4, 3, 172, 42, 180, 0, 15, 5, 126, 153, 0, 7, 4, 167, 0, 4, 3, 172, 42, 180, 0, 15, 4, 126, 154, 0, 7, 4] = true := by decide +kernel
theorem dX6_isTaken_44 : decode cX6_isTaken 44 = .ok (.aload_n 0, 1) := qd_o42 44 0 qd_g186 rfl
theorem dX6_isTaken_45 : decode cX6_isTaken 45 = .ok (.getfield 15, 3) := qd_o180 44 1 qd_g186 rfl rfl
theorem dX6_isTaken_48 : decode cX6_isTaken 48 = .ok (.iconst 2, 1) := qd_o5 44 4 qd_g186 rfl
theorem dX6_isTaken_49 : decode cX6_isTaken 49 = .ok (.iand, 1) := qd_o126 44 5 qd_g186 rfl
theorem dX6_isTaken_50 : decode cX6_isTaken 50 = .ok (.ifCond .ne 7, 3) := qd_o154 44 6 qd_g186 rfl rfl
theorem dX6_isTaken_53 : decode cX6_isTaken 53 = .ok (.iconst 1, 1) := qd_o4 44 9 qd_g186 rfl
theorem dX6_isTaken_54 : decode cX6_isTaken 54 = .ok (.goto 4, 3) := qd_o167 44 10 qd_g186 rfl rfl
theorem dX6_isTaken_57 : decode cX6_isTaken 57 = .ok (.iconst 0, 1) := qd_o3 44 13 qd_g186 rfl
theorem dX6_isTaken_58 : decode cX6_isTaken 58 = .ok (.ireturn, 1) := qd_o172 44 14 qd_g186 rfl
theorem dX6_isTaken_59 : decode cX6_isTaken 59 = .ok (.aload_n 0, 1) := qd_o42 44 15 qd_g186 rfl
theorem dX6_isTaken_60 : decode cX6_isTaken 60 = .ok (.getfield 15, 3) := qd_o180 44 16 qd_g186 rfl rfl
theorem dX6_isTaken_63 : decode cX6_isTaken 63 = .ok (.iconst 2, 1) := qd_o5 44 19 qd_g186 rfl
theorem dX6_isTaken_64 : decode cX6_isTaken 64 = .ok (.iand, 1) := qd_o126 44 20 qd_g186 rfl
theorem dX6_isTaken_65 : decode cX6_isTaken 65 = .ok (.ifCond .eq 7, 3) := qd_o153 44 21 qd_g186 rfl rfl
theorem dX6_isTaken_68 : decode cX6_isTaken 68 = .ok (.iconst 1, 1) := qd_o4 44 24 qd_g186 rfl
theorem dX6_isTaken_69 : decode cX6_isTaken 69 = .ok (.goto 4, 3) := qd_o167 44 25 qd_g186 rfl rfl
theorem dX6_isTaken_72 : decode cX6_isTaken 72 = .ok (.iconst 0, 1) := qd_o3 44 28 qd_g186 rfl
theorem dX6_isTaken_73 : decode cX6_isTaken 73 = .ok (.ireturn, 1) := qd_o172 44 29 qd_g186 rfl
theorem dX6_isTaken_74 : decode cX6_isTaken 74 = .ok (.aload_n 0, 1) := qd_o42 44 30 qd_g186 rfl
theorem dX6_isTaken_75 : decode cX6_isTaken 75 = .ok (.getfield 15, 3) := qd_o180 44 31 qd_g186 rfl rfl
theorem dX6_isTaken_78 : decode cX6_isTaken 78 = .ok (.iconst 1, 1) := qd_o4 44 34 qd_g186 rfl
theorem dX6_isTaken_79 : decode cX6_isTaken 79 = .ok (.iand, 1) := qd_o126 44 35 qd_g186 rfl
theorem dX6_isTaken_80 : decode cX6_isTaken 80 = .ok (.ifCond .ne 7, 3) := qd_o154 44 36 qd_g186 rfl rfl
theorem dX6_isTaken_83 : decode cX6_isTaken 83 = .ok (.iconst 1, 1) := qd_o4 44 39 qd_g186 rfl
theorem qd_g187 : qd_bs cX6_isTaken 84 [167, 0, 4, 3, 172, 42, 180, 0, 15, 4, 126, 153, 0, 7, 4, 167, 0, 4, 3, 172, 42, 180, 0, 15, 17, 0, 128, 126, 154, 0, 7, 4, 167, 0, 4, 3, 172, 42] = true := by decide +kernel
theorem dX6_isTaken_84 : decode cX6_isTaken 84 = .ok (.goto 4, 3) := qd_o167 84 0 qd_g187 rfl rfl
theorem dX6_isTaken_87 : decode cX6_isTaken 87 = .ok (.iconst 0, 1) := qd_o3 84 3 qd_g187 rfl
theorem dX6_isTaken_88 : decode cX6_isTaken 88 = .ok (.ireturn, 1) := qd_o172 84 4 qd_g187 rfl
theorem dX6_isTaken_89 : decode cX6_isTaken 89 = .ok (.aload_n 0, 1) := qd_o42 84 5 qd_g187 rfl
theorem dX6_isTaken_90 : decode cX6_isTaken 90 = .ok (.getfield 15, 3) := qd_o180 84 6 qd_g187 rfl rfl
theorem dX6_isTaken_93 : decode cX6_isTaken 93 = .ok (.iconst 1, 1) := qd_o4 84 9 qd_g187 rfl
theorem dX6_isTaken_94 : decode cX6_isTaken 94 = .ok (.iand, 1) := qd_o126 84 10 qd_g187 rfl
theorem dX6_isTaken_95 : decode cX6_isTaken 95 = .ok (.ifCond .eq 7, 3) := qd_o153 84 11 qd_g187 rfl rfl
theorem dX6_isTaken_98 : decode cX6_isTaken 98 = .ok (.iconst 1, 1) := qd_o4 84 14 qd_g187 rfl
theorem dX6_isTaken_99 : decode cX6_isTaken 99 = .ok (.goto 4, 3) := qd_o167 84 15 qd_g187 rfl rfl
theorem dX6_isTaken_102 : decode cX6_isTaken 102 = .ok (.iconst 0, 1) := qd_o3 84 18 qd_g187 rfl
theorem dX6_isTaken_103 : decode cX6_isTaken 103 = .ok (.ireturn, 1) := qd_o172 84 19 qd_g187 rfl
theorem dX6_isTaken_104 : decode cX6_isTaken 104 = .ok (.aload_n 0, 1) := qd_o42 84 20 qd_g187 rfl
theorem dX6_isTaken_105 : decode cX6_isTaken 105 = .ok (.getfield 15, 3) := qd_o180 84 21 qd_g187 rfl rfl
theorem dX6_isTaken_108 : decode cX6_isTaken 108 = .ok (.sipush 128, 3) := qd_o17 84 24 qd_g187 rfl rfl
theorem dX6_isTaken_111 : decode cX6_isTaken 111 = .ok (.iand, 1) := qd_o126 84 27 qd_g187 rfl
theorem dX6_isTaken_112 : decode cX6_isTaken 112 = .ok (.ifCond .ne 7, 3) := qd_o154 84 28 qd_g187 rfl rfl
theorem dX6_isTaken_115 : decode cX6_isTaken 115 = .ok (.iconst 1, 1) := qd_o4 84 31 qd_g187 rfl
theorem dX6_isTaken_116 : decode cX6_isTaken 116 = .ok (.goto 4, 3) := qd_o167 84 32 qd_g187 rfl rfl
theorem dX6_isTaken_119 : decode cX6_isTaken 119 = .ok (.iconst 0, 1) := qd_o3 84 35 qd_g187 rfl
theorem dX6_isTaken_120 : decode cX6_isTaken 120 = .ok (.ireturn, 1) := qd_o172 84 36 qd_g187 rfl
theorem dX6_isTaken_121 : decode cX6_isTaken 121 = .ok (.aload_n 0, 1) := qd_o42 84 37 qd_g187 rfl
theorem qd_g188 : qd_bs cX6_isTaken 122 [180, 0, 15, 17, 0, 128, 126, 153, 0, 7, 4, 167, 0, 4, 3, 172, 42, 180, 0, 15, 16, 64, 126, 154, 0, 7, 4, 167, 0, 4, 3, 172, 42, 180, 0, 15, 16, 64, 126] = true := by decide +kernel
theorem dX6_isTaken_122 : decode cX6_isTaken 122 = .ok (.getfield 15, 3) := qd_o180 122 0 qd_g188 rfl rfl
theorem dX6_isTaken_125 : decode cX6_isTaken 125 = .ok (.sipush 128, 3) := qd_o17 122 3 qd_g188 rfl rfl
theorem dX6_isTaken_128 : decode cX6_isTaken 128 = .ok (.iand, 1) := qd_o126 122 6 qd_g188 rfl
theorem dX6_isTaken_129 : decode cX6_isTaken 129 = .ok (.ifCond .eq 7, 3) := qd_o153 122 7 qd_g188 rfl rfl
theorem dX6_isTaken_132 : decode cX6_isTaken 132 = .ok (.iconst 1, 1) := qd_o4 122 10 qd_g188 rfl
theorem dX6_isTaken_133 : decode cX6_isTaken 133 = .ok (.goto 4, 3) := qd_o167 122 11 qd_g188 rfl rfl
theorem dX6_isTaken_136 : decode cX6_isTaken 136 = .ok (.iconst 0, 1) := qd_o3 122 14 qd_g188 rfl
theorem dX6_isTaken_137 : decode cX6_isTaken 137 = .ok (.ireturn, 1) := qd_o172 122 15 qd_g188 rfl
theorem dX6_isTaken_138 : decode cX6_isTaken 138 = .ok (.aload_n 0, 1) := qd_o42 122 16 qd_g188 rfl
theorem dX6_isTaken_139 : decode cX6_isTaken 139 = .ok (.getfield 15, 3) := qd_o180 122 17 qd_g188 rfl rfl
theorem dX6_isTaken_142 : decode cX6_isTaken 142 = .ok (.bipush 64, 2) := qd_o16 122 20 qd_g188 rfl rfl
theorem dX6_isTaken_144 : decode cX6_isTaken 144 = .ok (.iand, 1) := qd_o126 122 22 qd_g188 rfl
theorem dX6_isTaken_145 : decode cX6_isTaken 145 = .ok (.ifCond .ne 7, 3) := qd_o154 122 23 qd_g188 rfl rfl
theorem dX6_isTaken_148 : decode cX6_isTaken 148 = .ok (.iconst 1, 1) := qd_o4 122 26 qd_g188 rfl
theorem dX6_isTaken_149 : decode cX6_isTaken 149 = .ok (.goto 4, 3) := qd_o167 122 27 qd_g188 rfl rfl
theorem dX6_isTaken_152 : decode cX6_isTaken 152 = .ok (.iconst 0, 1) := qd_o3 122 30 qd_g188 rfl
theorem dX6_isTaken_153 : decode cX6_isTaken 153 = .ok (.ireturn, 1) := qd_o172 122 31 qd_g188 rfl
theorem dX6_isTaken_154 : decode cX6_isTaken 154 = .ok (.aload_n 0, 1) := qd_o42 122 32 qd_g188 rfl
theorem dX6_isTaken_155 : decode cX6_isTaken 155 = .ok (.getfield 15, 3) := qd_o180 122 33 qd_g188 rfl rfl
theorem dX6_isTaken_158 : decode cX6_isTaken 158 = .ok (.bipush 64, 2) := qd_o16 122 36 qd_g188 rfl rfl
theorem dX6_isTaken_160 : decode cX6_isTaken 160 = .ok (.iand, 1) := qd_o126 122 38 qd_g188 rfl
theorem qd_g189 : qd_bs cX6_isTaken 161 [153, 0, 7, 4, 167, 0, 4, 3, 172] = true := by decide +kernel
theorem dX6_isTaken_161 : decode cX6_isTaken 161 = .ok (.ifCond .eq 7, 3) := qd_o153 161 0 qd_g189 rfl rfl
theorem dX6_isTaken_164 : decode cX6_isTaken 164 = .ok (.iconst 1, 1) := qd_o4 161 3 qd_g189 rfl
theorem dX6_isTaken_165 : decode cX6_isTaken 165 = .ok (.goto 4, 3) := qd_o167 161 4 qd_g189 rfl rfl
theorem dX6_isTaken_168 : decode cX6_isTaken 168 = .ok (.iconst 0, 1) := qd_o3 161 7 qd_g189 rfl
theorem dX6_isTaken_169 : decode cX6_isTaken 169 = .ok (.ireturn, 1) := qd_o172 161 8 qd_g189 rfl
theorem qd_g190 : qd_bs cX6_move 0 [27] = true := by decide +kernel
theorem dX6_move_0 : decode cX6_move 0 = .ok (.iload_n 1, 1) := qd_o27 0 0 qd_g190 rfl
theorem dX6_move_1 : decode cX6_move 1 = .ok (.tableswitch 210 128 136 #[51, 72, 93, 114, 135, 150, 165, 180, 195], 51) := by decide +kernel
theorem qd_g191 : qd_bs cX6_move 52 [42, 42, 42, 180, 0, 25, 4, 96, 17, 0, 255, 126, 182, 0, 169, 181, 0, 25, 167, 0, 149, 42, 42, 42, 180, 0, 25, 4, 100, 17, 0, 255, 126, 182, 0, 169, 181, 0, 25] = true := by decide +kernel
theorem dX6_move_52 : decode cX6_move 52 = .ok (.aload_n 0, 1) := qd_o42 52 0 qd_g191 rfl
theorem dX6_move_53 : decode cX6_move 53 = .ok (.aload_n 0, 1) := qd_o42 52 1 qd_g191 rfl
theorem dX6_move_54 : decode cX6_move 54 = .ok (.aload_n 0, 1) := qd_o42 52 2 qd_g191 rfl
theorem dX6_move_55 : decode cX6_move 55 = .ok (.getfield 25, 3) := qd_o180 52 3 qd_g191 rfl rfl
theorem dX6_move_58 : decode cX6_move 58 = .ok (.iconst 1, 1) := qd_o4 52 6 qd_g191 rfl
theorem dX6_move_59 : decode cX6_move 59 = .ok (.iadd, 1) := qd_o96 52 7 qd_g191 rfl
theorem dX6_move_60 : decode cX6_move 60 = .ok (.sipush 255, 3) := qd_o17 52 8 qd_g191 rfl rfl
theorem dX6_move_63 : decode cX6_move 63 = .ok (.iand, 1) := qd_o126 52 11 qd_g191 rfl
theorem dX6_move_64 : decode cX6_move 64 = .ok (.invokevirtual 169, 3) := qd_o182 52 12 qd_g191 rfl rfl
theorem dX6_move_67 : decode cX6_move 67 = .ok (.putfield 25, 3) := qd_o181 52 15 qd_g191 rfl rfl
theorem dX6_move_70 : decode cX6_move 70 = .ok (.goto 149, 3) := qd_o167 52 18 qd_g191 rfl rfl
theorem dX6_move_73 : decode cX6_move 73 = .ok (.aload_n 0, 1) := qd_o42 52 21 qd_g191 rfl
theorem dX6_move_74 : decode cX6_move 74 = .ok (.aload_n 0, 1) := qd_o42 52 22 qd_g191 rfl
theorem dX6_move_75 : decode cX6_move 75 = .ok (.aload_n 0, 1) := qd_o42 52 23 qd_g191 rfl
theorem dX6_move_76 : decode cX6_move 76 = .ok (.getfield 25, 3) := qd_o180 52 24 qd_g191 rfl rfl
theorem dX6_move_79 : decode cX6_move 79 = .ok (.iconst 1, 1) := qd_o4 52 27 qd_g191 rfl
theorem dX6_move_80 : decode cX6_move 80 = .ok (.isub, 1) := qd_o100 52 28 qd_g191 rfl
theorem dX6_move_81 : decode cX6_move 81 = .ok (.sipush 255, 3) := qd_o17 52 29 qd_g191 rfl rfl
theorem dX6_move_84 : decode cX6_move 84 = .ok (.iand, 1) := qd_o126 52 32 qd_g191 rfl
theorem dX6_move_85 : decode cX6_move 85 = .ok (.invokevirtual 169, 3) := qd_o182 52 33 qd_g191 rfl rfl
theorem dX6_move_88 : decode cX6_move 88 = .ok (.putfield 25, 3) := qd_o181 52 36 qd_g191 rfl rfl
theorem qd_g192 : qd_bs cX6_move 91 [167, 0, 128, 42, 42, 42, 180, 0, 28, 4, 96, 17, 0, 255, 126, 182, 0, 169, 181, 0, 28, 167, 0, 107, 42, 42, 42, 180, 0, 28, 4, 100, 17, 0, 255, 126, 182, 0, 169] = true := by decide +kernel
theorem dX6_move_91 : decode cX6_move 91 = .ok (.goto 128, 3) := qd_o167 91 0 qd_g192 rfl rfl
theorem dX6_move_94 : decode cX6_move 94 = .ok (.aload_n 0, 1) := qd_o42 91 3 qd_g192 rfl
theorem dX6_move_95 : decode cX6_move 95 = .ok (.aload_n 0, 1) := qd_o42 91 4 qd_g192 rfl
theorem dX6_move_96 : decode cX6_move 96 = .ok (.aload_n 0, 1) := qd_o42 91 5 qd_g192 rfl
theorem dX6_move_97 : decode cX6_move 97 = .ok (.getfield 28, 3) := qd_o180 91 6 qd_g192 rfl rfl
theorem dX6_move_100 : decode cX6_move 100 = .ok (.iconst 1, 1) := qd_o4 91 9 qd_g192 rfl
theorem dX6_move_101 : decode cX6_move 101 = .ok (.iadd, 1) := qd_o96 91 10 qd_g192 rfl
theorem dX6_move_102 : decode cX6_move 102 = .ok (.sipush 255, 3) := qd_o17 91 11 qd_g192 rfl rfl
theorem dX6_move_105 : decode cX6_move 105 = .ok (.iand, 1) := qd_o126 91 14 qd_g192 rfl
theorem dX6_move_106 : decode cX6_move 106 = .ok (.invokevirtual 169, 3) := qd_o182 91 15 qd_g192 rfl rfl
theorem dX6_move_109 : decode cX6_move 109 = .ok (.putfield 28, 3) := qd_o181 91 18 qd_g192 rfl rfl
theorem dX6_move_112 : decode cX6_move 112 = .ok (.goto 107, 3) := qd_o167 91 21 qd_g192 rfl rfl
theorem dX6_move_115 : decode cX6_move 115 = .ok (.aload_n 0, 1) := qd_o42 91 24 qd_g192 rfl
theorem dX6_move_116 : decode cX6_move 116 = .ok (.aload_n 0, 1) := qd_o42 91 25 qd_g192 rfl
theorem dX6_move_117 : decode cX6_move 117 = .ok (.aload_n 0, 1) := qd_o42 91 26 qd_g192 rfl
theorem dX6_move_118 : decode cX6_move 118 = .ok (.getfield 28, 3) := qd_o180 91 27 qd_g192 rfl rfl
theorem dX6_move_121 : decode cX6_move 121 = .ok (.iconst 1, 1) := qd_o4 91 30 qd_g192 rfl
theorem dX6_move_122 : decode cX6_move 122 = .ok (.isub, 1) := qd_o100 91 31 qd_g192 rfl
theorem dX6_move_123 : decode cX6_move 123 = .ok (.sipush 255, 3) := qd_o17 91 32 qd_g192 rfl rfl
theorem dX6_move_126 : decode cX6_move 126 = .ok (.iand, 1) := qd_o126 91 35 qd_g192 rfl
theorem dX6_move_127 : decode cX6_move 127 = .ok (.invokevirtual 169, 3) := qd_o182 91 36 qd_g192 rfl rfl
theorem qd_g193 : qd_bs cX6_move 130 [181, 0, 28, 167, 0, 86, 42, 42, 42, 180, 0, 22, 182, 0, 169, 181, 0, 25, 167, 0, 71, 42, 42, 42, 180, 0, 25, 182, 0, 169, 181, 0, 22, 167, 0, 56, 42, 42, 42] = true := by decide +kernel
theorem dX6_move_130 : decode cX6_move 130 = .ok (.putfield 28, 3) := qd_o181 130 0 qd_g193 rfl rfl
theorem dX6_move_133 : decode cX6_move 133 = .ok (.goto 86, 3) := qd_o167 130 3 qd_g193 rfl rfl
theorem dX6_move_136 : decode cX6_move 136 = .ok (.aload_n 0, 1) := qd_o42 130 6 qd_g193 rfl
theorem dX6_move_137 : decode cX6_move 137 = .ok (.aload_n 0, 1) := qd_o42 130 7 qd_g193 rfl
theorem dX6_move_138 : decode cX6_move 138 = .ok (.aload_n 0, 1) := qd_o42 130 8 qd_g193 rfl
theorem dX6_move_139 : decode cX6_move 139 = .ok (.getfield 22, 3) := qd_o180 130 9 qd_g193 rfl rfl
theorem dX6_move_142 : decode cX6_move 142 = .ok (.invokevirtual 169, 3) := qd_o182 130 12 qd_g193 rfl rfl
theorem dX6_move_145 : decode cX6_move 145 = .ok (.putfield 25, 3) := qd_o181 130 15 qd_g193 rfl rfl
theorem dX6_move_148 : decode cX6_move 148 = .ok (.goto 71, 3) := qd_o167 130 18 qd_g193 rfl rfl
theorem dX6_move_151 : decode cX6_move 151 = .ok (.aload_n 0, 1) := qd_o42 130 21 qd_g193 rfl
theorem dX6_move_152 : decode cX6_move 152 = .ok (.aload_n 0, 1) := qd_o42 130 22 qd_g193 rfl
theorem dX6_move_153 : decode cX6_move 153 = .ok (.aload_n 0, 1) := qd_o42 130 23 qd_g193 rfl
theorem dX6_move_154 : decode cX6_move 154 = .ok (.getfield 25, 3) := qd_o180 130 24 qd_g193 rfl rfl
theorem dX6_move_157 : decode cX6_move 157 = .ok (.invokevirtual 169, 3) := qd_o182 130 27 qd_g193 rfl rfl
theorem dX6_move_160 : decode cX6_move 160 = .ok (.putfield 22, 3) := qd_o181 130 30 qd_g193 rfl rfl
theorem dX6_move_163 : decode cX6_move 163 = .ok (.goto 56, 3) := qd_o167 130 33 qd_g193 rfl rfl
theorem dX6_move_166 : decode cX6_move 166 = .ok (.aload_n 0, 1) := qd_o42 130 36 qd_g193 rfl
theorem dX6_move_167 : decode cX6_move 167 = .ok (.aload_n 0, 1) := qd_o42 130 37 qd_g193 rfl
theorem dX6_move_168 : decode cX6_move 168 = .ok (.aload_n 0, 1) := qd_o42 130 38 qd_g193 rfl
theorem qd_g194 : qd_bs cX6_move 169 [180, 0, 22, 182, 0, 169, 181, 0, 28, 167, 0, 41, 42, 42, 42, 180, 0, 28, 182, 0, 169, 181, 0, 22, 167, 0, 26, 42, 42, 42, 180, 0, 9, 182, 0, 169, 181, 0, 25] = true := by decide +kernel
theorem dX6_move_169 : decode cX6_move 169 = .ok (.getfield 22, 3) := qd_o180 169 0 qd_g194 rfl rfl
theorem dX6_move_172 : decode cX6_move 172 = .ok (.invokevirtual 169, 3) := qd_o182 169 3 qd_g194 rfl rfl
theorem dX6_move_175 : decode cX6_move 175 = .ok (.putfield 28, 3) := qd_o181 169 6 qd_g194 rfl rfl
theorem dX6_move_178 : decode cX6_move 178 = .ok (.goto 41, 3) := qd_o167 169 9 qd_g194 rfl rfl
theorem dX6_move_181 : decode cX6_move 181 = .ok (.aload_n 0, 1) := qd_o42 169 12 qd_g194 rfl
theorem dX6_move_182 : decode cX6_move 182 = .ok (.aload_n 0, 1) := qd_o42 169 13 qd_g194 rfl
theorem dX6_move_183 : decode cX6_move 183 = .ok (.aload_n 0, 1) := qd_o42 169 14 qd_g194 rfl
theorem dX6_move_184 : decode cX6_move 184 = .ok (.getfield 28, 3) := qd_o180 169 15 qd_g194 rfl rfl
theorem dX6_move_187 : decode cX6_move 187 = .ok (.invokevirtual 169, 3) := qd_o182 169 18 qd_g194 rfl rfl
theorem dX6_move_190 : decode cX6_move 190 = .ok (.putfield 22, 3) := qd_o181 169 21 qd_g194 rfl rfl
theorem dX6_move_193 : decode cX6_move 193 = .ok (.goto 26, 3) := qd_o167 169 24 qd_g194 rfl rfl
theorem dX6_move_196 : decode cX6_move 196 = .ok (.aload_n 0, 1) := qd_o42 169 27 qd_g194 rfl
theorem dX6_move_197 : decode cX6_move 197 = .ok (.aload_n 0, 1) := qd_o42 169 28 qd_g194 rfl
theorem dX6_move_198 : decode cX6_move 198 = .ok (.aload_n 0, 1) := qd_o42 169 29 qd_g194 rfl
theorem dX6_move_199 : decode cX6_move 199 = .ok (.getfield 9, 3) := qd_o180 169 30 qd_g194 rfl rfl
theorem dX6_move_202 : decode cX6_move 202 = .ok (.invokevirtual 169, 3) := qd_o182 169 33 qd_g194 rfl rfl
theorem dX6_move_205 : decode cX6_move 205 = .ok (.putfield 25, 3) := qd_o181 169 36 qd_g194 rfl rfl
theorem qd_g195 : qd_bs cX6_move 208 [167, 0, 11, 42, 42, 180, 0, 25, 181, 0, 9, 177] = true := by decide +kernel
theorem dX6_move_208 : decode cX6_move 208 = .ok (.goto 11, 3) := qd_o167 208 0 qd_g195 rfl rfl
theorem dX6_move_211 : decode cX6_move 211 = .ok (.aload_n 0, 1) := qd_o42 208 3 qd_g195 rfl
theorem dX6_move_212 : decode cX6_move 212 = .ok (.aload_n 0, 1) := qd_o42 208 4 qd_g195 rfl
theorem dX6_move_213 : decode cX6_move 213 = .ok (.getfield 25, 3) := qd_o180 208 5 qd_g195 rfl rfl
theorem dX6_move_216 : decode cX6_move 216 = .ok (.putfield 9, 3) := qd_o181 208 8 qd_g195 rfl rfl
theorem dX6_move_219 : decode cX6_move 219 = .ok (.return_, 1) := qd_o177 208 11 qd_g195 rfl
theorem qd_g196 : qd_bs cX6_changeFlag 0 [27] = true := by decide +kernel
theorem dX6_changeFlag_0 : decode cX6_changeFlag 0 = .ok (.iload_n 1, 1) := qd_o27 0 0 qd_g196 rfl
theorem dX6_changeFlag_1 : decode cX6_changeFlag 1 = .ok (.tableswitch 95 142 147 #[39, 48, 57, 67, 77, 86], 39) := by decide +kernel
theorem qd_g197 : qd_bs cX6_changeFlag 40 [42, 4, 4, 182, 0, 165, 167, 0, 57, 42, 4, 3, 182, 0, 165, 167, 0, 48, 42, 16, 8, 4, 182, 0, 165, 167, 0, 38, 42, 16, 8, 3, 182, 0, 165, 167, 0, 28, 42, 7] = true := by decide +kernel
theorem dX6_changeFlag_40 : decode cX6_changeFlag 40 = .ok (.aload_n 0, 1) := qd_o42 40 0 qd_g197 rfl
theorem dX6_changeFlag_41 : decode cX6_changeFlag 41 = .ok (.iconst 1, 1) := qd_o4 40 1 qd_g197 rfl
theorem dX6_changeFlag_42 : decode cX6_changeFlag 42 = .ok (.iconst 1, 1) := qd_o4 40 2 qd_g197 rfl
theorem dX6_changeFlag_43 : decode cX6_changeFlag 43 = .ok (.invokevirtual 165, 3) := qd_o182 40 3 qd_g197 rfl rfl
theorem dX6_changeFlag_46 : decode cX6_changeFlag 46 = .ok (.goto 57, 3) := qd_o167 40 6 qd_g197 rfl rfl
theorem dX6_changeFlag_49 : decode cX6_changeFlag 49 = .ok (.aload_n 0, 1) := qd_o42 40 9 qd_g197 rfl
theorem dX6_changeFlag_50 : decode cX6_changeFlag 50 = .ok (.iconst 1, 1) := qd_o4 40 10 qd_g197 rfl
theorem dX6_changeFlag_51 : decode cX6_changeFlag 51 = .ok (.iconst 0, 1) := qd_o3 40 11 qd_g197 rfl
theorem dX6_changeFlag_52 : decode cX6_changeFlag 52 = .ok (.invokevirtual 165, 3) := qd_o182 40 12 qd_g197 rfl rfl
theorem dX6_changeFlag_55 : decode cX6_changeFlag 55 = .ok (.goto 48, 3) := qd_o167 40 15 qd_g197 rfl rfl
theorem dX6_changeFlag_58 : decode cX6_changeFlag 58 = .ok (.aload_n 0, 1) := qd_o42 40 18 qd_g197 rfl
theorem dX6_changeFlag_59 : decode cX6_changeFlag 59 = .ok (.bipush 8, 2) := qd_o16 40 19 qd_g197 rfl rfl
theorem dX6_changeFlag_61 : decode cX6_changeFlag 61 = .ok (.iconst 1, 1) := qd_o4 40 21 qd_g197 rfl
theorem dX6_changeFlag_62 : decode cX6_changeFlag 62 = .ok (.invokevirtual 165, 3) := qd_o182 40 22 qd_g197 rfl rfl
theorem dX6_changeFlag_65 : decode cX6_changeFlag 65 = .ok (.goto 38, 3) := qd_o167 40 25 qd_g197 rfl rfl
theorem dX6_changeFlag_68 : decode cX6_changeFlag 68 = .ok (.aload_n 0, 1) := qd_o42 40 28 qd_g197 rfl
theorem dX6_changeFlag_69 : decode cX6_changeFlag 69 = .ok (.bipush 8, 2) := qd_o16 40 29 qd_g197 rfl rfl
theorem dX6_changeFlag_71 : decode cX6_changeFlag 71 = .ok (.iconst 0, 1) := qd_o3 40 31 qd_g197 rfl
theorem dX6_changeFlag_72 : decode cX6_changeFlag 72 = .ok (.invokevirtual 165, 3) := qd_o182 40 32 qd_g197 rfl rfl
theorem dX6_changeFlag_75 : decode cX6_changeFlag 75 = .ok (.goto 28, 3) := qd_o167 40 35 qd_g197 rfl rfl
theorem dX6_changeFlag_78 : decode cX6_changeFlag 78 = .ok (.aload_n 0, 1) := qd_o42 40 38 qd_g197 rfl
theorem dX6_changeFlag_79 : decode cX6_changeFlag 79 = .ok (.iconst 4, 1) := qd_o7 40 39 qd_g197 rfl
theorem qd_g198 : qd_bs cX6_changeFlag 80 [4, 182, 0, 165, 167, 0, 19, 42, 7, 3, 182, 0, 165, 167, 0, 10, 42, 16, 64, 3, 182, 0, 165, 177] = true := by decide +kernel
theorem dX6_changeFlag_80 : decode cX6_changeFlag 80 = .ok (.iconst 1, 1) := qd_o4 80 0 qd_g198 rfl
theorem dX6_changeFlag_81 : decode cX6_changeFlag 81 = .ok (.invokevirtual 165, 3) := qd_o182 80 1 qd_g198 rfl rfl
theorem dX6_changeFlag_84 : decode cX6_changeFlag 84 = .ok (.goto 19, 3) := qd_o167 80 4 qd_g198 rfl rfl
theorem dX6_changeFlag_87 : decode cX6_changeFlag 87 = .ok (.aload_n 0, 1) := qd_o42 80 7 qd_g198 rfl
theorem dX6_changeFlag_88 : decode cX6_changeFlag 88 = .ok (.iconst 4, 1) := qd_o7 80 8 qd_g198 rfl
theorem dX6_changeFlag_89 : decode cX6_changeFlag 89 = .ok (.iconst 0, 1) := qd_o3 80 9 qd_g198 rfl
theorem dX6_changeFlag_90 : decode cX6_changeFlag 90 = .ok (.invokevirtual 165, 3) := qd_o182 80 10 qd_g198 rfl rfl
theorem dX6_changeFlag_93 : decode cX6_changeFlag 93 = .ok (.goto 10, 3) := qd_o167 80 13 qd_g198 rfl rfl
theorem dX6_changeFlag_96 : decode cX6_changeFlag 96 = .ok (.aload_n 0, 1) := qd_o42 80 16 qd_g198 rfl
theorem dX6_changeFlag_97 : decode cX6_changeFlag 97 = .ok (.bipush 64, 2) := qd_o16 80 17 qd_g198 rfl rfl
theorem dX6_changeFlag_99 : decode cX6_changeFlag 99 = .ok (.iconst 0, 1) := qd_o3 80 19 qd_g198 rfl
theorem dX6_changeFlag_100 : decode cX6_changeFlag 100 = .ok (.invokevirtual 165, 3) := qd_o182 80 20 qd_g198 rfl rfl
theorem dX6_changeFlag_103 : decode cX6_changeFlag 103 = .ok (.return_, 1) := qd_o177 80 23 qd_g198 rfl
theorem qd_g199 : qd_bs cX6_shift 0 [42, 180, 0, 15, 4, 126, 61, 27] = true := by decide +kernel
theorem dX6_shift_0 : decode cX6_shift 0 = .ok (.aload_n 0, 1) := qd_o42 0 0 qd_g199 rfl
theorem dX6_shift_1 : decode cX6_shift 1 = .ok (.getfield 15, 3) := qd_o180 0 1 qd_g199 rfl rfl
theorem dX6_shift_4 : decode cX6_shift 4 = .ok (.iconst 1, 1) := qd_o4 0 4 qd_g199 rfl
theorem dX6_shift_5 : decode cX6_shift 5 = .ok (.iand, 1) := qd_o126 0 5 qd_g199 rfl
theorem dX6_shift_6 : decode cX6_shift 6 = .ok (.istore_n 2, 1) := qd_o61 0 6 qd_g199 rfl
theorem dX6_shift_7 : decode cX6_shift 7 = .ok (.iload_n 1, 1) := qd_o27 0 7 qd_g199 rfl
theorem dX6_shift_8 : decode cX6_shift 8 = .ok (.tableswitch 147 150 152 #[28, 68, 105], 28) := by decide +kernel
theorem qd_g200 : qd_bs cX6_shift 36 [42, 4, 42, 180, 0, 22, 16, 127, 164, 0, 7, 4, 167, 0, 4, 3, 182, 0, 165, 42, 42, 5, 42, 180, 0, 22, 104, 17, 0, 255, 126, 182, 0, 169, 181, 0, 22, 167, 0, 122] = true := by decide +kernel
theorem dX6_shift_36 : decode cX6_shift 36 = .ok (.aload_n 0, 1) := qd_o42 36 0 qd_g200 rfl
theorem dX6_shift_37 : decode cX6_shift 37 = .ok (.iconst 1, 1) := qd_o4 36 1 qd_g200 rfl
theorem dX6_shift_38 : decode cX6_shift 38 = .ok (.aload_n 0, 1) := qd_o42 36 2 qd_g200 rfl
theorem dX6_shift_39 : decode cX6_shift 39 = .ok (.getfield 22, 3) := qd_o180 36 3 qd_g200 rfl rfl
theorem dX6_shift_42 : decode cX6_shift 42 = .ok (.bipush 127, 2) := qd_o16 36 6 qd_g200 rfl rfl
theorem dX6_shift_44 : decode cX6_shift 44 = .ok (.if_icmp .le 7, 3) := qd_o164 36 8 qd_g200 rfl rfl
theorem dX6_shift_47 : decode cX6_shift 47 = .ok (.iconst 1, 1) := qd_o4 36 11 qd_g200 rfl
theorem dX6_shift_48 : decode cX6_shift 48 = .ok (.goto 4, 3) := qd_o167 36 12 qd_g200 rfl rfl
theorem dX6_shift_51 : decode cX6_shift 51 = .ok (.iconst 0, 1) := qd_o3 36 15 qd_g200 rfl
theorem dX6_shift_52 : decode cX6_shift 52 = .ok (.invokevirtual 165, 3) := qd_o182 36 16 qd_g200 rfl rfl
theorem dX6_shift_55 : decode cX6_shift 55 = .ok (.aload_n 0, 1) := qd_o42 36 19 qd_g200 rfl
theorem dX6_shift_56 : decode cX6_shift 56 = .ok (.aload_n 0, 1) := qd_o42 36 20 qd_g200 rfl
theorem dX6_shift_57 : decode cX6_shift 57 = .ok (.iconst 2, 1) := qd_o5 36 21 qd_g200 rfl
theorem dX6_shift_58 : decode cX6_shift 58 = .ok (.aload_n 0, 1) := qd_o42 36 22 qd_g200 rfl
theorem dX6_shift_59 : decode cX6_shift 59 = .ok (.getfield 22, 3) := qd_o180 36 23 qd_g200 rfl rfl
theorem dX6_shift_62 : decode cX6_shift 62 = .ok (.imul, 1) := qd_o104 36 26 qd_g200 rfl
theorem dX6_shift_63 : decode cX6_shift 63 = .ok (.sipush 255, 3) := qd_o17 36 27 qd_g200 rfl rfl
theorem dX6_shift_66 : decode cX6_shift 66 = .ok (.iand, 1) := qd_o126 36 30 qd_g200 rfl
theorem dX6_shift_67 : decode cX6_shift 67 = .ok (.invokevirtual 169, 3) := qd_o182 36 31 qd_g200 rfl rfl
theorem dX6_shift_70 : decode cX6_shift 70 = .ok (.putfield 22, 3) := qd_o181 36 34 qd_g200 rfl rfl
theorem dX6_shift_73 : decode cX6_shift 73 = .ok (.goto 122, 3) := qd_o167 36 37 qd_g200 rfl rfl
theorem qd_g201 : qd_bs cX6_shift 76 [42, 4, 42, 180, 0, 22, 5, 112, 4, 160, 0, 7, 4, 167, 0, 4, 3, 182, 0, 165, 42, 42, 42, 180, 0, 22, 5, 108, 182, 0, 169, 181, 0, 22, 167, 0, 85, 42, 4, 42] = true := by decide +kernel
theorem dX6_shift_76 : decode cX6_shift 76 = .ok (.aload_n 0, 1) := qd_o42 76 0 qd_g201 rfl
theorem dX6_shift_77 : decode cX6_shift 77 = .ok (.iconst 1, 1) := qd_o4 76 1 qd_g201 rfl
theorem dX6_shift_78 : decode cX6_shift 78 = .ok (.aload_n 0, 1) := qd_o42 76 2 qd_g201 rfl
theorem dX6_shift_79 : decode cX6_shift 79 = .ok (.getfield 22, 3) := qd_o180 76 3 qd_g201 rfl rfl
theorem dX6_shift_82 : decode cX6_shift 82 = .ok (.iconst 2, 1) := qd_o5 76 6 qd_g201 rfl
theorem dX6_shift_83 : decode cX6_shift 83 = .ok (.irem, 1) := qd_o112 76 7 qd_g201 rfl
theorem dX6_shift_84 : decode cX6_shift 84 = .ok (.iconst 1, 1) := qd_o4 76 8 qd_g201 rfl
theorem dX6_shift_85 : decode cX6_shift 85 = .ok (.if_icmp .ne 7, 3) := qd_o160 76 9 qd_g201 rfl rfl
theorem dX6_shift_88 : decode cX6_shift 88 = .ok (.iconst 1, 1) := qd_o4 76 12 qd_g201 rfl
theorem dX6_shift_89 : decode cX6_shift 89 = .ok (.goto 4, 3) := qd_o167 76 13 qd_g201 rfl rfl
theorem dX6_shift_92 : decode cX6_shift 92 = .ok (.iconst 0, 1) := qd_o3 76 16 qd_g201 rfl
theorem dX6_shift_93 : decode cX6_shift 93 = .ok (.invokevirtual 165, 3) := qd_o182 76 17 qd_g201 rfl rfl
theorem dX6_shift_96 : decode cX6_shift 96 = .ok (.aload_n 0, 1) := qd_o42 76 20 qd_g201 rfl
theorem dX6_shift_97 : decode cX6_shift 97 = .ok (.aload_n 0, 1) := qd_o42 76 21 qd_g201 rfl
theorem dX6_shift_98 : decode cX6_shift 98 = .ok (.aload_n 0, 1) := qd_o42 76 22 qd_g201 rfl
theorem dX6_shift_99 : decode cX6_shift 99 = .ok (.getfield 22, 3) := qd_o180 76 23 qd_g201 rfl rfl
theorem dX6_shift_102 : decode cX6_shift 102 = .ok (.iconst 2, 1) := qd_o5 76 26 qd_g201 rfl
theorem dX6_shift_103 : decode cX6_shift 103 = .ok (.idiv, 1) := qd_o108 76 27 qd_g201 rfl
theorem dX6_shift_104 : decode cX6_shift 104 = .ok (.invokevirtual 169, 3) := qd_o182 76 28 qd_g201 rfl rfl
theorem dX6_shift_107 : decode cX6_shift 107 = .ok (.putfield 22, 3) := qd_o181 76 31 qd_g201 rfl rfl
theorem dX6_shift_110 : decode cX6_shift 110 = .ok (.goto 85, 3) := qd_o167 76 34 qd_g201 rfl rfl
theorem dX6_shift_113 : decode cX6_shift 113 = .ok (.aload_n 0, 1) := qd_o42 76 37 qd_g201 rfl
theorem dX6_shift_114 : decode cX6_shift 114 = .ok (.iconst 1, 1) := qd_o4 76 38 qd_g201 rfl
theorem dX6_shift_115 : decode cX6_shift 115 = .ok (.aload_n 0, 1) := qd_o42 76 39 qd_g201 rfl
theorem qd_g202 : qd_bs cX6_shift 116 [180, 0, 22, 16, 127, 164, 0, 7, 4, 167, 0, 4, 3, 182, 0, 165, 42, 42, 5, 42, 180, 0, 22, 104, 28, 96, 17, 0, 255, 126, 182, 0, 169, 181, 0, 22, 167, 0, 43, 42] = true := by decide +kernel
theorem dX6_shift_116 : decode cX6_shift 116 = .ok (.getfield 22, 3) := qd_o180 116 0 qd_g202 rfl rfl
theorem dX6_shift_119 : decode cX6_shift 119 = .ok (.bipush 127, 2) := qd_o16 116 3 qd_g202 rfl rfl
theorem dX6_shift_121 : decode cX6_shift 121 = .ok (.if_icmp .le 7, 3) := qd_o164 116 5 qd_g202 rfl rfl
theorem dX6_shift_124 : decode cX6_shift 124 = .ok (.iconst 1, 1) := qd_o4 116 8 qd_g202 rfl
theorem dX6_shift_125 : decode cX6_shift 125 = .ok (.goto 4, 3) := qd_o167 116 9 qd_g202 rfl rfl
theorem dX6_shift_128 : decode cX6_shift 128 = .ok (.iconst 0, 1) := qd_o3 116 12 qd_g202 rfl
theorem dX6_shift_129 : decode cX6_shift 129 = .ok (.invokevirtual 165, 3) := qd_o182 116 13 qd_g202 rfl rfl
theorem dX6_shift_132 : decode cX6_shift 132 = .ok (.aload_n 0, 1) := qd_o42 116 16 qd_g202 rfl
theorem dX6_shift_133 : decode cX6_shift 133 = .ok (.aload_n 0, 1) := qd_o42 116 17 qd_g202 rfl
theorem dX6_shift_134 : decode cX6_shift 134 = .ok (.iconst 2, 1) := qd_o5 116 18 qd_g202 rfl
theorem dX6_shift_135 : decode cX6_shift 135 = .ok (.aload_n 0, 1) := qd_o42 116 19 qd_g202 rfl
theorem dX6_shift_136 : decode cX6_shift 136 = .ok (.getfield 22, 3) := qd_o180 116 20 qd_g202 rfl rfl
theorem dX6_shift_139 : decode cX6_shift 139 = .ok (.imul, 1) := qd_o104 116 23 qd_g202 rfl
theorem dX6_shift_140 : decode cX6_shift 140 = .ok (.iload_n 2, 1) := qd_o28 116 24 qd_g202 rfl
theorem dX6_shift_141 : decode cX6_shift 141 = .ok (.iadd, 1) := qd_o96 116 25 qd_g202 rfl
theorem dX6_shift_142 : decode cX6_shift 142 = .ok (.sipush 255, 3) := qd_o17 116 26 qd_g202 rfl rfl
theorem dX6_shift_145 : decode cX6_shift 145 = .ok (.iand, 1) := qd_o126 116 29 qd_g202 rfl
theorem dX6_shift_146 : decode cX6_shift 146 = .ok (.invokevirtual 169, 3) := qd_o182 116 30 qd_g202 rfl rfl
theorem dX6_shift_149 : decode cX6_shift 149 = .ok (.putfield 22, 3) := qd_o181 116 33 qd_g202 rfl rfl
theorem dX6_shift_152 : decode cX6_shift 152 = .ok (.goto 43, 3) := qd_o167 116 36 qd_g202 rfl rfl
theorem dX6_shift_155 : decode cX6_shift 155 = .ok (.aload_n 0, 1) := qd_o42 116 39 qd_g202 rfl
theorem qd_g203 : qd_bs cX6_shift 156 [4, 42, 180, 0, 22, 5, 112, 4, 160, 0, 7, 4, 167, 0, 4, 3, 182, 0, 165, 42, 42, 42, 180, 0, 22, 5, 108, 17, 0, 128, 28, 104, 96, 182, 0, 169, 181, 0, 22, 177] = true := by decide +kernel
theorem dX6_shift_156 : decode cX6_shift 156 = .ok (.iconst 1, 1) := qd_o4 156 0 qd_g203 rfl
theorem dX6_shift_157 : decode cX6_shift 157 = .ok (.aload_n 0, 1) := qd_o42 156 1 qd_g203 rfl
theorem dX6_shift_158 : decode cX6_shift 158 = .ok (.getfield 22, 3) := qd_o180 156 2 qd_g203 rfl rfl
theorem dX6_shift_161 : decode cX6_shift 161 = .ok (.iconst 2, 1) := qd_o5 156 5 qd_g203 rfl
theorem dX6_shift_162 : decode cX6_shift 162 = .ok (.irem, 1) := qd_o112 156 6 qd_g203 rfl
theorem dX6_shift_163 : decode cX6_shift 163 = .ok (.iconst 1, 1) := qd_o4 156 7 qd_g203 rfl
theorem dX6_shift_164 : decode cX6_shift 164 = .ok (.if_icmp .ne 7, 3) := qd_o160 156 8 qd_g203 rfl rfl
theorem dX6_shift_167 : decode cX6_shift 167 = .ok (.iconst 1, 1) := qd_o4 156 11 qd_g203 rfl
theorem dX6_shift_168 : decode cX6_shift 168 = .ok (.goto 4, 3) := qd_o167 156 12 qd_g203 rfl rfl
theorem dX6_shift_171 : decode cX6_shift 171 = .ok (.iconst 0, 1) := qd_o3 156 15 qd_g203 rfl
theorem dX6_shift_172 : decode cX6_shift 172 = .ok (.invokevirtual 165, 3) := qd_o182 156 16 qd_g203 rfl rfl
theorem dX6_shift_175 : decode cX6_shift 175 = .ok (.aload_n 0, 1) := qd_o42 156 19 qd_g203 rfl
theorem dX6_shift_176 : decode cX6_shift 176 = .ok (.aload_n 0, 1) := qd_o42 156 20 qd_g203 rfl
theorem dX6_shift_177 : decode cX6_shift 177 = .ok (.aload_n 0, 1) := qd_o42 156 21 qd_g203 rfl
theorem dX6_shift_178 : decode cX6_shift 178 = .ok (.getfield 22, 3) := qd_o180 156 22 qd_g203 rfl rfl
theorem dX6_shift_181 : decode cX6_shift 181 = .ok (.iconst 2, 1) := qd_o5 156 25 qd_g203 rfl
theorem dX6_shift_182 : decode cX6_shift 182 = .ok (.idiv, 1) := qd_o108 156 26 qd_g203 rfl
theorem dX6_shift_183 : decode cX6_shift 183 = .ok (.sipush 128, 3) := qd_o17 156 27 qd_g203 rfl rfl
theorem dX6_shift_186 : decode cX6_shift 186 = .ok (.iload_n 2, 1) := qd_o28 156 30 qd_g203 rfl
theorem dX6_shift_187 : decode cX6_shift 187 = .ok (.imul, 1) := qd_o104 156 31 qd_g203 rfl
theorem dX6_shift_188 : decode cX6_shift 188 = .ok (.iadd, 1) := qd_o96 156 32 qd_g203 rfl
theorem dX6_shift_189 : decode cX6_shift 189 = .ok (.invokevirtual 169, 3) := qd_o182 156 33 qd_g203 rfl rfl
theorem dX6_shift_192 : decode cX6_shift 192 = .ok (.putfield 22, 3) := qd_o181 156 36 qd_g203 rfl rfl
theorem dX6_shift_195 : decode cX6_shift 195 = .ok (.return_, 1) := qd_o177 156 39 qd_g203 rfl
theorem qd_g204 : qd_bs cX7_init 0 [42, 183, 0, 3, 42, 187, 0, 9, 89, 183, 0, 11, 181, 0, 12, 42, 17, 2, 0] = true := by decide +kernel
theorem dX7_init_0 : decode cX7_init 0 = .ok (.aload_n 0, 1) := qd_o42 0 0 qd_g204 rfl
theorem dX7_init_1 : decode cX7_init 1 = .ok (.invokespecial 3, 3) := qd_o183 0 1 qd_g204 rfl rfl
theorem dX7_init_4 : decode cX7_init 4 = .ok (.aload_n 0, 1) := qd_o42 0 4 qd_g204 rfl
theorem dX7_init_5 : decode cX7_init 5 = .ok (.new 9, 3) := qd_o187 0 5 qd_g204 rfl rfl
theorem dX7_init_8 : decode cX7_init 8 = .ok (.dup, 1) := qd_o89 0 8 qd_g204 rfl
theorem dX7_init_9 : decode cX7_init 9 = .ok (.invokespecial 11, 3) := qd_o183 0 9 qd_g204 rfl rfl
theorem dX7_init_12 : decode cX7_init 12 = .ok (.putfield 12, 3) := qd_o181 0 12 qd_g204 rfl rfl
theorem dX7_init_15 : decode cX7_init 15 = .ok (.aload_n 0, 1) := qd_o42 0 15 qd_g204 rfl
theorem dX7_init_16 : decode cX7_init 16 = .ok (.sipush 512, 3) := qd_o17 0 16 qd_g204 rfl rfl
theorem dX7_init_19 : decode cX7_init 19 = .ok (.newarray .int, 2) := by decide +kernel
theorem qd_g205 : qd_bs cX7_init 21 [181, 0, 18, 42, 17, 2, 0] = true := by decide +kernel
theorem dX7_init_21 : decode cX7_init 21 = .ok (.putfield 18, 3) := qd_o181 21 0 qd_g205 rfl rfl
theorem dX7_init_24 : decode cX7_init 24 = .ok (.aload_n 0, 1) := qd_o42 21 3 qd_g205 rfl
theorem dX7_init_25 : decode cX7_init 25 = .ok (.sipush 512, 3) := qd_o17 21 4 qd_g205 rfl rfl
theorem dX7_init_28 : decode cX7_init 28 = .ok (.newarray .int, 2) := by decide +kernel
theorem qd_g206 : qd_bs cX7_init 30 [181, 0, 22, 42, 17, 2, 0] = true := by decide +kernel
theorem dX7_init_30 : decode cX7_init 30 = .ok (.putfield 22, 3) := qd_o181 30 0 qd_g206 rfl rfl
theorem dX7_init_33 : decode cX7_init 33 = .ok (.aload_n 0, 1) := qd_o42 30 3 qd_g206 rfl
theorem dX7_init_34 : decode cX7_init 34 = .ok (.sipush 512, 3) := qd_o17 30 4 qd_g206 rfl rfl
theorem dX7_init_37 : decode cX7_init 37 = .ok (.newarray .int, 2) := by decide +kernel
theorem qd_g207 : qd_bs cX7_init 39 [181, 0, 25, 42, 17, 2, 0] = true := by decide +kernel
theorem dX7_init_39 : decode cX7_init 39 = .ok (.putfield 25, 3) := qd_o181 39 0 qd_g207 rfl rfl
theorem dX7_init_42 : decode cX7_init 42 = .ok (.aload_n 0, 1) := qd_o42 39 3 qd_g207 rfl
theorem dX7_init_43 : decode cX7_init 43 = .ok (.sipush 512, 3) := qd_o17 39 4 qd_g207 rfl rfl
theorem dX7_init_46 : decode cX7_init 46 = .ok (.newarray .int, 2) := by decide +kernel
theorem qd_g208 : qd_bs cX7_init 48 [181, 0, 28, 177] = true := by decide +kernel
theorem dX7_init_48 : decode cX7_init 48 = .ok (.putfield 28, 3) := qd_o181 48 0 qd_g208 rfl rfl
theorem dX7_init_51 : decode cX7_init 51 = .ok (.return_, 1) := qd_o177 48 3 qd_g208 rfl
theorem qd_g209 : qd_bs cX7_begin 0 [42, 180, 0, 12, 43, 182, 0, 31, 42, 3, 181, 0, 35, 42, 3, 181, 0, 39, 42, 4, 181, 0, 42, 177] = true := by decide +kernel
theorem dX7_begin_0 : decode cX7_begin 0 = .ok (.aload_n 0, 1) := qd_o42 0 0 qd_g209 rfl
theorem dX7_begin_1 : decode cX7_begin 1 = .ok (.getfield 12, 3) := qd_o180 0 1 qd_g209 rfl rfl
theorem dX7_begin_4 : decode cX7_begin 4 = .ok (.aload_n 1, 1) := qd_o43 0 4 qd_g209 rfl
theorem dX7_begin_5 : decode cX7_begin 5 = .ok (.invokevirtual 31, 3) := qd_o182 0 5 qd_g209 rfl rfl
theorem dX7_begin_8 : decode cX7_begin 8 = .ok (.aload_n 0, 1) := qd_o42 0 8 qd_g209 rfl
theorem dX7_begin_9 : decode cX7_begin 9 = .ok (.iconst 0, 1) := qd_o3 0 9 qd_g209 rfl
theorem dX7_begin_10 : decode cX7_begin 10 = .ok (.putfield 35, 3) := qd_o181 0 10 qd_g209 rfl rfl
theorem dX7_begin_13 : decode cX7_begin 13 = .ok (.aload_n 0, 1) := qd_o42 0 13 qd_g209 rfl
theorem dX7_begin_14 : decode cX7_begin 14 = .ok (.iconst 0, 1) := qd_o3 0 14 qd_g209 rfl
theorem dX7_begin_15 : decode cX7_begin 15 = .ok (.putfield 39, 3) := qd_o181 0 15 qd_g209 rfl rfl
theorem dX7_begin_18 : decode cX7_begin 18 = .ok (.aload_n 0, 1) := qd_o42 0 18 qd_g209 rfl
theorem dX7_begin_19 : decode cX7_begin 19 = .ok (.iconst 1, 1) := qd_o4 0 19 qd_g209 rfl
theorem dX7_begin_20 : decode cX7_begin 20 = .ok (.putfield 42, 3) := qd_o181 0 20 qd_g209 rfl rfl
theorem dX7_begin_23 : decode cX7_begin 23 = .ok (.return_, 1) := qd_o177 0 23 qd_g209 rfl
theorem qd_g210 : qd_bs cX7_keep 0 [42, 180, 0, 42, 153, 0, 71, 42, 180, 0, 35, 155, 0, 64, 42, 180, 0, 35, 17, 2, 0, 162, 0, 54, 42, 180, 0, 18, 42, 180, 0, 35, 27, 79, 42, 180, 0, 22, 42] = true := by decide +kernel
theorem dX7_keep_0 : decode cX7_keep 0 = .ok (.aload_n 0, 1) := qd_o42 0 0 qd_g210 rfl
theorem dX7_keep_1 : decode cX7_keep 1 = .ok (.getfield 42, 3) := qd_o180 0 1 qd_g210 rfl rfl
theorem dX7_keep_4 : decode cX7_keep 4 = .ok (.ifCond .eq 71, 3) := qd_o153 0 4 qd_g210 rfl rfl
theorem dX7_keep_7 : decode cX7_keep 7 = .ok (.aload_n 0, 1) := qd_o42 0 7 qd_g210 rfl
theorem dX7_keep_8 : decode cX7_keep 8 = .ok (.getfield 35, 3) := qd_o180 0 8 qd_g210 rfl rfl
theorem dX7_keep_11 : decode cX7_keep 11 = .ok (.ifCond .lt 64, 3) := qd_o155 0 11 qd_g210 rfl rfl
theorem dX7_keep_14 : decode cX7_keep 14 = .ok (.aload_n 0, 1) := qd_o42 0 14 qd_g210 rfl
theorem dX7_keep_15 : decode cX7_keep 15 = .ok (.getfield 35, 3) := qd_o180 0 15 qd_g210 rfl rfl
theorem dX7_keep_18 : decode cX7_keep 18 = .ok (.sipush 512, 3) := qd_o17 0 18 qd_g210 rfl rfl
theorem dX7_keep_21 : decode cX7_keep 21 = .ok (.if_icmp .ge 54, 3) := qd_o162 0 21 qd_g210 rfl rfl
theorem dX7_keep_24 : decode cX7_keep 24 = .ok (.aload_n 0, 1) := qd_o42 0 24 qd_g210 rfl
theorem dX7_keep_25 : decode cX7_keep 25 = .ok (.getfield 18, 3) := qd_o180 0 25 qd_g210 rfl rfl
theorem dX7_keep_28 : decode cX7_keep 28 = .ok (.aload_n 0, 1) := qd_o42 0 28 qd_g210 rfl
theorem dX7_keep_29 : decode cX7_keep 29 = .ok (.getfield 35, 3) := qd_o180 0 29 qd_g210 rfl rfl
theorem dX7_keep_32 : decode cX7_keep 32 = .ok (.iload_n 1, 1) := qd_o27 0 32 qd_g210 rfl
theorem dX7_keep_33 : decode cX7_keep 33 = .ok (.iastore, 1) := qd_o79 0 33 qd_g210 rfl
theorem dX7_keep_34 : decode cX7_keep 34 = .ok (.aload_n 0, 1) := qd_o42 0 34 qd_g210 rfl
theorem dX7_keep_35 : decode cX7_keep 35 = .ok (.getfield 22, 3) := qd_o180 0 35 qd_g210 rfl rfl
theorem dX7_keep_38 : decode cX7_keep 38 = .ok (.aload_n 0, 1) := qd_o42 0 38 qd_g210 rfl
theorem qd_g211 : qd_bs cX7_keep 39 [180, 0, 35, 28, 79, 42, 180, 0, 25, 42, 180, 0, 35, 29, 79, 42, 180, 0, 28, 42, 180, 0, 35, 21, 4, 79, 42, 89, 180, 0, 35, 4, 96, 181, 0, 35, 177] = true := by decide +kernel
theorem dX7_keep_39 : decode cX7_keep 39 = .ok (.getfield 35, 3) := qd_o180 39 0 qd_g211 rfl rfl
theorem dX7_keep_42 : decode cX7_keep 42 = .ok (.iload_n 2, 1) := qd_o28 39 3 qd_g211 rfl
theorem dX7_keep_43 : decode cX7_keep 43 = .ok (.iastore, 1) := qd_o79 39 4 qd_g211 rfl
theorem dX7_keep_44 : decode cX7_keep 44 = .ok (.aload_n 0, 1) := qd_o42 39 5 qd_g211 rfl
theorem dX7_keep_45 : decode cX7_keep 45 = .ok (.getfield 25, 3) := qd_o180 39 6 qd_g211 rfl rfl
theorem dX7_keep_48 : decode cX7_keep 48 = .ok (.aload_n 0, 1) := qd_o42 39 9 qd_g211 rfl
theorem dX7_keep_49 : decode cX7_keep 49 = .ok (.getfield 35, 3) := qd_o180 39 10 qd_g211 rfl rfl
theorem dX7_keep_52 : decode cX7_keep 52 = .ok (.iload_n 3, 1) := qd_o29 39 13 qd_g211 rfl
theorem dX7_keep_53 : decode cX7_keep 53 = .ok (.iastore, 1) := qd_o79 39 14 qd_g211 rfl
theorem dX7_keep_54 : decode cX7_keep 54 = .ok (.aload_n 0, 1) := qd_o42 39 15 qd_g211 rfl
theorem dX7_keep_55 : decode cX7_keep 55 = .ok (.getfield 28, 3) := qd_o180 39 16 qd_g211 rfl rfl
theorem dX7_keep_58 : decode cX7_keep 58 = .ok (.aload_n 0, 1) := qd_o42 39 19 qd_g211 rfl
theorem dX7_keep_59 : decode cX7_keep 59 = .ok (.getfield 35, 3) := qd_o180 39 20 qd_g211 rfl rfl
theorem dX7_keep_62 : decode cX7_keep 62 = .ok (.iload 4, 2) := qd_o21 39 23 qd_g211 rfl rfl
theorem dX7_keep_64 : decode cX7_keep 64 = .ok (.iastore, 1) := qd_o79 39 25 qd_g211 rfl
theorem dX7_keep_65 : decode cX7_keep 65 = .ok (.aload_n 0, 1) := qd_o42 39 26 qd_g211 rfl
theorem dX7_keep_66 : decode cX7_keep 66 = .ok (.dup, 1) := qd_o89 39 27 qd_g211 rfl
theorem dX7_keep_67 : decode cX7_keep 67 = .ok (.getfield 35, 3) := qd_o180 39 28 qd_g211 rfl rfl
theorem dX7_keep_70 : decode cX7_keep 70 = .ok (.iconst 1, 1) := qd_o4 39 31 qd_g211 rfl
theorem dX7_keep_71 : decode cX7_keep 71 = .ok (.iadd, 1) := qd_o96 39 32 qd_g211 rfl
theorem dX7_keep_72 : decode cX7_keep 72 = .ok (.putfield 35, 3) := qd_o181 39 33 qd_g211 rfl rfl
theorem dX7_keep_75 : decode cX7_keep 75 = .ok (.return_, 1) := qd_o177 39 36 qd_g211 rfl
theorem qd_g212 : qd_bs cX8_init 0 [42, 183, 0, 3, 42, 17, 16, 0] = true := by decide +kernel
theorem dX8_init_0 : decode cX8_init 0 = .ok (.aload_n 0, 1) := qd_o42 0 0 qd_g212 rfl
theorem dX8_init_1 : decode cX8_init 1 = .ok (.invokespecial 3, 3) := qd_o183 0 1 qd_g212 rfl rfl
theorem dX8_init_4 : decode cX8_init 4 = .ok (.aload_n 0, 1) := qd_o42 0 4 qd_g212 rfl
theorem dX8_init_5 : decode cX8_init 5 = .ok (.sipush 4096, 3) := qd_o17 0 5 qd_g212 rfl rfl
theorem dX8_init_8 : decode cX8_init 8 = .ok (.newarray .int, 2) := by decide +kernel
theorem qd_g213 : qd_bs cX8_init 10 [181, 0, 9, 42, 16, 48] = true := by decide +kernel
theorem dX8_init_10 : decode cX8_init 10 = .ok (.putfield 9, 3) := qd_o181 10 0 qd_g213 rfl rfl
theorem dX8_init_13 : decode cX8_init 13 = .ok (.aload_n 0, 1) := qd_o42 10 3 qd_g213 rfl
theorem dX8_init_14 : decode cX8_init 14 = .ok (.bipush 48, 2) := qd_o16 10 4 qd_g213 rfl rfl
theorem dX8_init_16 : decode cX8_init 16 = .ok (.newarray .int, 2) := by decide +kernel
theorem qd_g214 : qd_bs cX8_init 18 [181, 0, 15, 177] = true := by decide +kernel
theorem dX8_init_18 : decode cX8_init 18 = .ok (.putfield 15, 3) := qd_o181 18 0 qd_g214 rfl rfl
theorem dX8_init_21 : decode cX8_init 21 = .ok (.return_, 1) := qd_o177 18 3 qd_g214 rfl
theorem qd_g215 : qd_bs cX8_become 0 [43, 180, 0, 9, 3, 42, 180, 0, 9, 3, 17, 16, 0, 184, 0, 18, 43, 180, 0, 15, 3, 42, 180, 0, 15, 3, 16, 48, 184, 0, 18, 177] = true := by decide +kernel
theorem dX8_become_0 : decode cX8_become 0 = .ok (.aload_n 1, 1) := qd_o43 0 0 qd_g215 rfl
theorem dX8_become_1 : decode cX8_become 1 = .ok (.getfield 9, 3) := qd_o180 0 1 qd_g215 rfl rfl
theorem dX8_become_4 : decode cX8_become 4 = .ok (.iconst 0, 1) := qd_o3 0 4 qd_g215 rfl
theorem dX8_become_5 : decode cX8_become 5 = .ok (.aload_n 0, 1) := qd_o42 0 5 qd_g215 rfl
theorem dX8_become_6 : decode cX8_become 6 = .ok (.getfield 9, 3) := qd_o180 0 6 qd_g215 rfl rfl
theorem dX8_become_9 : decode cX8_become 9 = .ok (.iconst 0, 1) := qd_o3 0 9 qd_g215 rfl
theorem dX8_become_10 : decode cX8_become 10 = .ok (.sipush 4096, 3) := qd_o17 0 10 qd_g215 rfl rfl
theorem dX8_become_13 : decode cX8_become 13 = .ok (.invokestatic 18, 3) := qd_o184 0 13 qd_g215 rfl rfl
theorem dX8_become_16 : decode cX8_become 16 = .ok (.aload_n 1, 1) := qd_o43 0 16 qd_g215 rfl
theorem dX8_become_17 : decode cX8_become 17 = .ok (.getfield 15, 3) := qd_o180 0 17 qd_g215 rfl rfl
theorem dX8_become_20 : decode cX8_become 20 = .ok (.iconst 0, 1) := qd_o3 0 20 qd_g215 rfl
theorem dX8_become_21 : decode cX8_become 21 = .ok (.aload_n 0, 1) := qd_o42 0 21 qd_g215 rfl
theorem dX8_become_22 : decode cX8_become 22 = .ok (.getfield 15, 3) := qd_o180 0 22 qd_g215 rfl rfl
theorem dX8_become_25 : decode cX8_become 25 = .ok (.iconst 0, 1) := qd_o3 0 25 qd_g215 rfl
theorem dX8_become_26 : decode cX8_become 26 = .ok (.bipush 48, 2) := qd_o16 0 26 qd_g215 rfl rfl
theorem dX8_become_28 : decode cX8_become 28 = .ok (.invokestatic 18, 3) := qd_o184 0 28 qd_g215 rfl rfl
theorem dX8_become_31 : decode cX8_become 31 = .ok (.return_, 1) := qd_o177 0 31 qd_g215 rfl
theorem qd_g216 : qd_bs cX8_bytesUnlike 0 [3, 61, 3, 62, 29, 17, 16, 0, 162, 0, 27, 42, 180, 0, 9, 29, 46, 43, 180, 0, 9, 29, 46, 159, 0, 6, 132, 2, 1, 132, 3, 1, 167, 255, 228, 28, 172] = true := by decide +kernel
theorem dX8_bytesUnlike_0 : decode cX8_bytesUnlike 0 = .ok (.iconst 0, 1) := qd_o3 0 0 qd_g216 rfl
theorem dX8_bytesUnlike_1 : decode cX8_bytesUnlike 1 = .ok (.istore_n 2, 1) := qd_o61 0 1 qd_g216 rfl
theorem dX8_bytesUnlike_2 : decode cX8_bytesUnlike 2 = .ok (.iconst 0, 1) := qd_o3 0 2 qd_g216 rfl
theorem dX8_bytesUnlike_3 : decode cX8_bytesUnlike 3 = .ok (.istore_n 3, 1) := qd_o62 0 3 qd_g216 rfl
theorem dX8_bytesUnlike_4 : decode cX8_bytesUnlike 4 = .ok (.iload_n 3, 1) := qd_o29 0 4 qd_g216 rfl
theorem dX8_bytesUnlike_5 : decode cX8_bytesUnlike 5 = .ok (.sipush 4096, 3) := qd_o17 0 5 qd_g216 rfl rfl
theorem dX8_bytesUnlike_8 : decode cX8_bytesUnlike 8 = .ok (.if_icmp .ge 27, 3) := qd_o162 0 8 qd_g216 rfl rfl
theorem dX8_bytesUnlike_11 : decode cX8_bytesUnlike 11 = .ok (.aload_n 0, 1) := qd_o42 0 11 qd_g216 rfl
theorem dX8_bytesUnlike_12 : decode cX8_bytesUnlike 12 = .ok (.getfield 9, 3) := qd_o180 0 12 qd_g216 rfl rfl
theorem dX8_bytesUnlike_15 : decode cX8_bytesUnlike 15 = .ok (.iload_n 3, 1) := qd_o29 0 15 qd_g216 rfl
theorem dX8_bytesUnlike_16 : decode cX8_bytesUnlike 16 = .ok (.iaload, 1) := qd_o46 0 16 qd_g216 rfl
theorem dX8_bytesUnlike_17 : decode cX8_bytesUnlike 17 = .ok (.aload_n 1, 1) := qd_o43 0 17 qd_g216 rfl
theorem dX8_bytesUnlike_18 : decode cX8_bytesUnlike 18 = .ok (.getfield 9, 3) := qd_o180 0 18 qd_g216 rfl rfl
theorem dX8_bytesUnlike_21 : decode cX8_bytesUnlike 21 = .ok (.iload_n 3, 1) := qd_o29 0 21 qd_g216 rfl
theorem dX8_bytesUnlike_22 : decode cX8_bytesUnlike 22 = .ok (.iaload, 1) := qd_o46 0 22 qd_g216 rfl
theorem dX8_bytesUnlike_23 : decode cX8_bytesUnlike 23 = .ok (.if_icmp .eq 6, 3) := qd_o159 0 23 qd_g216 rfl rfl
theorem dX8_bytesUnlike_26 : decode cX8_bytesUnlike 26 = .ok (.iinc 2 1, 3) := qd_o132 0 26 qd_g216 rfl rfl
theorem dX8_bytesUnlike_29 : decode cX8_bytesUnlike 29 = .ok (.iinc 3 1, 3) := qd_o132 0 29 qd_g216 rfl rfl
theorem dX8_bytesUnlike_32 : decode cX8_bytesUnlike 32 = .ok (.goto (-28), 3) := qd_o167 0 32 qd_g216 rfl rfl
theorem dX8_bytesUnlike_35 : decode cX8_bytesUnlike 35 = .ok (.iload_n 2, 1) := qd_o28 0 35 qd_g216 rfl
theorem dX8_bytesUnlike_36 : decode cX8_bytesUnlike 36 = .ok (.ireturn, 1) := qd_o172 0 36 qd_g216 rfl
theorem qd_g217 : qd_bs cX8_put 0 [27, 17, 15, 0, 100, 62, 29, 155, 0, 9, 29, 16, 48, 161, 0, 21, 42, 180, 0, 9, 27, 17, 15, 255, 126, 28, 17, 0, 255, 126, 79, 167, 0, 24, 178, 0, 24, 29, 46] = true := by decide +kernel
theorem dX8_put_0 : decode cX8_put 0 = .ok (.iload_n 1, 1) := qd_o27 0 0 qd_g217 rfl
theorem dX8_put_1 : decode cX8_put 1 = .ok (.sipush 3840, 3) := qd_o17 0 1 qd_g217 rfl rfl
theorem dX8_put_4 : decode cX8_put 4 = .ok (.isub, 1) := qd_o100 0 4 qd_g217 rfl
theorem dX8_put_5 : decode cX8_put 5 = .ok (.istore_n 3, 1) := qd_o62 0 5 qd_g217 rfl
theorem dX8_put_6 : decode cX8_put 6 = .ok (.iload_n 3, 1) := qd_o29 0 6 qd_g217 rfl
theorem dX8_put_7 : decode cX8_put 7 = .ok (.ifCond .lt 9, 3) := qd_o155 0 7 qd_g217 rfl rfl
theorem dX8_put_10 : decode cX8_put 10 = .ok (.iload_n 3, 1) := qd_o29 0 10 qd_g217 rfl
theorem dX8_put_11 : decode cX8_put 11 = .ok (.bipush 48, 2) := qd_o16 0 11 qd_g217 rfl rfl
theorem dX8_put_13 : decode cX8_put 13 = .ok (.if_icmp .lt 21, 3) := qd_o161 0 13 qd_g217 rfl rfl
theorem dX8_put_16 : decode cX8_put 16 = .ok (.aload_n 0, 1) := qd_o42 0 16 qd_g217 rfl
theorem dX8_put_17 : decode cX8_put 17 = .ok (.getfield 9, 3) := qd_o180 0 17 qd_g217 rfl rfl
theorem dX8_put_20 : decode cX8_put 20 = .ok (.iload_n 1, 1) := qd_o27 0 20 qd_g217 rfl
theorem dX8_put_21 : decode cX8_put 21 = .ok (.sipush 4095, 3) := qd_o17 0 21 qd_g217 rfl rfl
theorem dX8_put_24 : decode cX8_put 24 = .ok (.iand, 1) := qd_o126 0 24 qd_g217 rfl
theorem dX8_put_25 : decode cX8_put 25 = .ok (.iload_n 2, 1) := qd_o28 0 25 qd_g217 rfl
theorem dX8_put_26 : decode cX8_put 26 = .ok (.sipush 255, 3) := qd_o17 0 26 qd_g217 rfl rfl
theorem dX8_put_29 : decode cX8_put 29 = .ok (.iand, 1) := qd_o126 0 29 qd_g217 rfl
theorem dX8_put_30 : decode cX8_put 30 = .ok (.iastore, 1) := qd_o79 0 30 qd_g217 rfl
theorem dX8_put_31 : decode cX8_put 31 = .ok (.goto 24, 3) := qd_o167 0 31 qd_g217 rfl rfl
theorem dX8_put_34 : decode cX8_put 34 = .ok (.getstatic 24, 3) := qd_o178 0 34 qd_g217 rfl rfl
theorem dX8_put_37 : decode cX8_put 37 = .ok (.iload_n 3, 1) := qd_o29 0 37 qd_g217 rfl
theorem dX8_put_38 : decode cX8_put 38 = .ok (.iaload, 1) := qd_o46 0 38 qd_g217 rfl
theorem qd_g218 : qd_bs cX8_put 39 [153, 0, 16, 42, 180, 0, 15, 29, 28, 178, 0, 24, 29, 46, 126, 79, 177] = true := by decide +kernel
theorem dX8_put_39 : decode cX8_put 39 = .ok (.ifCond .eq 16, 3) := qd_o153 39 0 qd_g218 rfl rfl
theorem dX8_put_42 : decode cX8_put 42 = .ok (.aload_n 0, 1) := qd_o42 39 3 qd_g218 rfl
theorem dX8_put_43 : decode cX8_put 43 = .ok (.getfield 15, 3) := qd_o180 39 4 qd_g218 rfl rfl
theorem dX8_put_46 : decode cX8_put 46 = .ok (.iload_n 3, 1) := qd_o29 39 7 qd_g218 rfl
theorem dX8_put_47 : decode cX8_put 47 = .ok (.iload_n 2, 1) := qd_o28 39 8 qd_g218 rfl
theorem dX8_put_48 : decode cX8_put 48 = .ok (.getstatic 24, 3) := qd_o178 39 9 qd_g218 rfl rfl
theorem dX8_put_51 : decode cX8_put 51 = .ok (.iload_n 3, 1) := qd_o29 39 12 qd_g218 rfl
theorem dX8_put_52 : decode cX8_put 52 = .ok (.iaload, 1) := qd_o46 39 13 qd_g218 rfl
theorem dX8_put_53 : decode cX8_put 53 = .ok (.iand, 1) := qd_o126 39 14 qd_g218 rfl
theorem dX8_put_54 : decode cX8_put 54 = .ok (.iastore, 1) := qd_o79 39 15 qd_g218 rfl
theorem dX8_put_55 : decode cX8_put 55 = .ok (.return_, 1) := qd_o177 39 16 qd_g218 rfl
theorem qd_g219 : qd_bs cX8_clearRegisters 0 [42, 180, 0, 15, 3, 184, 0, 27, 177] = true := by decide +kernel
theorem dX8_clearRegisters_0 : decode cX8_clearRegisters 0 = .ok (.aload_n 0, 1) := qd_o42 0 0 qd_g219 rfl
theorem dX8_clearRegisters_1 : decode cX8_clearRegisters 1 = .ok (.getfield 15, 3) := qd_o180 0 1 qd_g219 rfl rfl
theorem dX8_clearRegisters_4 : decode cX8_clearRegisters 4 = .ok (.iconst 0, 1) := qd_o3 0 4 qd_g219 rfl
theorem dX8_clearRegisters_5 : decode cX8_clearRegisters 5 = .ok (.invokestatic 27, 3) := qd_o184 0 5 qd_g219 rfl rfl
theorem dX8_clearRegisters_8 : decode cX8_clearRegisters 8 = .ok (.return_, 1) := qd_o177 0 8 qd_g219 rfl
theorem qd_g220 : qd_bs cX8_scrollLeft 0 [42, 180, 0, 15, 5, 46, 6, 126, 172] = true := by decide +kernel
theorem dX8_scrollLeft_0 : decode cX8_scrollLeft 0 = .ok (.aload_n 0, 1) := qd_o42 0 0 qd_g220 rfl
theorem dX8_scrollLeft_1 : decode cX8_scrollLeft 1 = .ok (.getfield 15, 3) := qd_o180 0 1 qd_g220 rfl rfl
theorem dX8_scrollLeft_4 : decode cX8_scrollLeft 4 = .ok (.iconst 2, 1) := qd_o5 0 4 qd_g220 rfl
theorem dX8_scrollLeft_5 : decode cX8_scrollLeft 5 = .ok (.iaload, 1) := qd_o46 0 5 qd_g220 rfl
theorem dX8_scrollLeft_6 : decode cX8_scrollLeft 6 = .ok (.iconst 3, 1) := qd_o6 0 6 qd_g220 rfl
theorem dX8_scrollLeft_7 : decode cX8_scrollLeft 7 = .ok (.iand, 1) := qd_o126 0 7 qd_g220 rfl
theorem dX8_scrollLeft_8 : decode cX8_scrollLeft 8 = .ok (.ireturn, 1) := qd_o172 0 8 qd_g220 rfl
theorem qd_g221 : qd_bs cX8_scrollUp 0 [42, 180, 0, 15, 5, 46, 5, 122, 172] = true := by decide +kernel
theorem dX8_scrollUp_0 : decode cX8_scrollUp 0 = .ok (.aload_n 0, 1) := qd_o42 0 0 qd_g221 rfl
theorem dX8_scrollUp_1 : decode cX8_scrollUp 1 = .ok (.getfield 15, 3) := qd_o180 0 1 qd_g221 rfl rfl
theorem dX8_scrollUp_4 : decode cX8_scrollUp 4 = .ok (.iconst 2, 1) := qd_o5 0 4 qd_g221 rfl
theorem dX8_scrollUp_5 : decode cX8_scrollUp 5 = .ok (.iaload, 1) := qd_o46 0 5 qd_g221 rfl
theorem dX8_scrollUp_6 : decode cX8_scrollUp 6 = .ok (.iconst 2, 1) := qd_o5 0 6 qd_g221 rfl
theorem dX8_scrollUp_7 : decode cX8_scrollUp 7 = .ok (.ishr, 1) := qd_o122 0 7 qd_g221 rfl
theorem dX8_scrollUp_8 : decode cX8_scrollUp 8 = .ok (.ireturn, 1) := qd_o172 0 8 qd_g221 rfl
theorem qd_g222 : qd_bs cX8_takesCycle 0 [27, 155, 0, 21, 27, 16, 32, 162, 0, 15, 28, 16, 8, 161, 0, 11, 28, 16, 20, 162, 0, 5, 3, 172, 28, 16, 20, 161, 0, 13, 42, 28, 16, 20, 100, 27, 182, 0, 33, 172] = true := by decide +kernel
theorem dX8_takesCycle_0 : decode cX8_takesCycle 0 = .ok (.iload_n 1, 1) := qd_o27 0 0 qd_g222 rfl
theorem dX8_takesCycle_1 : decode cX8_takesCycle 1 = .ok (.ifCond .lt 21, 3) := qd_o155 0 1 qd_g222 rfl rfl
theorem dX8_takesCycle_4 : decode cX8_takesCycle 4 = .ok (.iload_n 1, 1) := qd_o27 0 4 qd_g222 rfl
theorem dX8_takesCycle_5 : decode cX8_takesCycle 5 = .ok (.bipush 32, 2) := qd_o16 0 5 qd_g222 rfl rfl
theorem dX8_takesCycle_7 : decode cX8_takesCycle 7 = .ok (.if_icmp .ge 15, 3) := qd_o162 0 7 qd_g222 rfl rfl
theorem dX8_takesCycle_10 : decode cX8_takesCycle 10 = .ok (.iload_n 2, 1) := qd_o28 0 10 qd_g222 rfl
theorem dX8_takesCycle_11 : decode cX8_takesCycle 11 = .ok (.bipush 8, 2) := qd_o16 0 11 qd_g222 rfl rfl
theorem dX8_takesCycle_13 : decode cX8_takesCycle 13 = .ok (.if_icmp .lt 11, 3) := qd_o161 0 13 qd_g222 rfl rfl
theorem dX8_takesCycle_16 : decode cX8_takesCycle 16 = .ok (.iload_n 2, 1) := qd_o28 0 16 qd_g222 rfl
theorem dX8_takesCycle_17 : decode cX8_takesCycle 17 = .ok (.bipush 20, 2) := qd_o16 0 17 qd_g222 rfl rfl
theorem dX8_takesCycle_19 : decode cX8_takesCycle 19 = .ok (.if_icmp .ge 5, 3) := qd_o162 0 19 qd_g222 rfl rfl
theorem dX8_takesCycle_22 : decode cX8_takesCycle 22 = .ok (.iconst 0, 1) := qd_o3 0 22 qd_g222 rfl
theorem dX8_takesCycle_23 : decode cX8_takesCycle 23 = .ok (.ireturn, 1) := qd_o172 0 23 qd_g222 rfl
theorem dX8_takesCycle_24 : decode cX8_takesCycle 24 = .ok (.iload_n 2, 1) := qd_o28 0 24 qd_g222 rfl
theorem dX8_takesCycle_25 : decode cX8_takesCycle 25 = .ok (.bipush 20, 2) := qd_o16 0 25 qd_g222 rfl rfl
theorem dX8_takesCycle_27 : decode cX8_takesCycle 27 = .ok (.if_icmp .lt 13, 3) := qd_o161 0 27 qd_g222 rfl rfl
theorem dX8_takesCycle_30 : decode cX8_takesCycle 30 = .ok (.aload_n 0, 1) := qd_o42 0 30 qd_g222 rfl
theorem dX8_takesCycle_31 : decode cX8_takesCycle 31 = .ok (.iload_n 2, 1) := qd_o28 0 31 qd_g222 rfl
theorem dX8_takesCycle_32 : decode cX8_takesCycle 32 = .ok (.bipush 20, 2) := qd_o16 0 32 qd_g222 rfl rfl
theorem dX8_takesCycle_34 : decode cX8_takesCycle 34 = .ok (.isub, 1) := qd_o100 0 34 qd_g222 rfl
theorem dX8_takesCycle_35 : decode cX8_takesCycle 35 = .ok (.iload_n 1, 1) := qd_o27 0 35 qd_g222 rfl
theorem dX8_takesCycle_36 : decode cX8_takesCycle 36 = .ok (.invokevirtual 33, 3) := qd_o182 0 36 qd_g222 rfl rfl
theorem dX8_takesCycle_39 : decode cX8_takesCycle 39 = .ok (.ireturn, 1) := qd_o172 0 39 qd_g222 rfl
theorem qd_g223 : qd_bs cX8_takesCycle 40 [42, 180, 0, 15, 4, 46, 154, 0, 21, 27, 42, 182, 0, 37, 96, 16, 8, 112, 154, 0, 7, 4, 167, 0, 4, 3, 172, 42, 180, 0, 15, 4, 46, 6, 159, 0, 12, 28, 7] = true := by decide +kernel
theorem dX8_takesCycle_40 : decode cX8_takesCycle 40 = .ok (.aload_n 0, 1) := qd_o42 40 0 qd_g223 rfl
theorem dX8_takesCycle_41 : decode cX8_takesCycle 41 = .ok (.getfield 15, 3) := qd_o180 40 1 qd_g223 rfl rfl
theorem dX8_takesCycle_44 : decode cX8_takesCycle 44 = .ok (.iconst 1, 1) := qd_o4 40 4 qd_g223 rfl
theorem dX8_takesCycle_45 : decode cX8_takesCycle 45 = .ok (.iaload, 1) := qd_o46 40 5 qd_g223 rfl
theorem dX8_takesCycle_46 : decode cX8_takesCycle 46 = .ok (.ifCond .ne 21, 3) := qd_o154 40 6 qd_g223 rfl rfl
theorem dX8_takesCycle_49 : decode cX8_takesCycle 49 = .ok (.iload_n 1, 1) := qd_o27 40 9 qd_g223 rfl
theorem dX8_takesCycle_50 : decode cX8_takesCycle 50 = .ok (.aload_n 0, 1) := qd_o42 40 10 qd_g223 rfl
theorem dX8_takesCycle_51 : decode cX8_takesCycle 51 = .ok (.invokevirtual 37, 3) := qd_o182 40 11 qd_g223 rfl rfl
theorem dX8_takesCycle_54 : decode cX8_takesCycle 54 = .ok (.iadd, 1) := qd_o96 40 14 qd_g223 rfl
theorem dX8_takesCycle_55 : decode cX8_takesCycle 55 = .ok (.bipush 8, 2) := qd_o16 40 15 qd_g223 rfl rfl
theorem dX8_takesCycle_57 : decode cX8_takesCycle 57 = .ok (.irem, 1) := qd_o112 40 17 qd_g223 rfl
theorem dX8_takesCycle_58 : decode cX8_takesCycle 58 = .ok (.ifCond .ne 7, 3) := qd_o154 40 18 qd_g223 rfl rfl
theorem dX8_takesCycle_61 : decode cX8_takesCycle 61 = .ok (.iconst 1, 1) := qd_o4 40 21 qd_g223 rfl
theorem dX8_takesCycle_62 : decode cX8_takesCycle 62 = .ok (.goto 4, 3) := qd_o167 40 22 qd_g223 rfl rfl
theorem dX8_takesCycle_65 : decode cX8_takesCycle 65 = .ok (.iconst 0, 1) := qd_o3 40 25 qd_g223 rfl
theorem dX8_takesCycle_66 : decode cX8_takesCycle 66 = .ok (.ireturn, 1) := qd_o172 40 26 qd_g223 rfl
theorem dX8_takesCycle_67 : decode cX8_takesCycle 67 = .ok (.aload_n 0, 1) := qd_o42 40 27 qd_g223 rfl
theorem dX8_takesCycle_68 : decode cX8_takesCycle 68 = .ok (.getfield 15, 3) := qd_o180 40 28 qd_g223 rfl rfl
theorem dX8_takesCycle_71 : decode cX8_takesCycle 71 = .ok (.iconst 1, 1) := qd_o4 40 31 qd_g223 rfl
theorem dX8_takesCycle_72 : decode cX8_takesCycle 72 = .ok (.iaload, 1) := qd_o46 40 32 qd_g223 rfl
theorem dX8_takesCycle_73 : decode cX8_takesCycle 73 = .ok (.iconst 3, 1) := qd_o6 40 33 qd_g223 rfl
theorem dX8_takesCycle_74 : decode cX8_takesCycle 74 = .ok (.if_icmp .eq 12, 3) := qd_o159 40 34 qd_g223 rfl rfl
theorem dX8_takesCycle_77 : decode cX8_takesCycle 77 = .ok (.iload_n 2, 1) := qd_o28 40 37 qd_g223 rfl
theorem dX8_takesCycle_78 : decode cX8_takesCycle 78 = .ok (.iconst 4, 1) := qd_o7 40 38 qd_g223 rfl
theorem qd_g224 : qd_bs cX8_takesCycle 79 [162, 0, 7, 4, 167, 0, 4, 3, 172] = true := by decide +kernel
theorem dX8_takesCycle_79 : decode cX8_takesCycle 79 = .ok (.if_icmp .ge 7, 3) := qd_o162 79 0 qd_g224 rfl rfl
theorem dX8_takesCycle_82 : decode cX8_takesCycle 82 = .ok (.iconst 1, 1) := qd_o4 79 3 qd_g224 rfl
theorem dX8_takesCycle_83 : decode cX8_takesCycle 83 = .ok (.goto 4, 3) := qd_o167 79 4 qd_g224 rfl rfl
theorem dX8_takesCycle_86 : decode cX8_takesCycle 86 = .ok (.iconst 0, 1) := qd_o3 79 7 qd_g224 rfl
theorem dX8_takesCycle_87 : decode cX8_takesCycle 87 = .ok (.ireturn, 1) := qd_o172 79 8 qd_g224 rfl
theorem qd_g225 : qd_bs cX8_isAmongRows 0 [27, 6, 126, 62, 42, 180, 0, 15, 16, 24, 29, 96, 46, 54, 4, 16, 8, 42, 16, 18, 29, 182, 0, 41, 120, 54, 5, 42, 16, 17, 29, 182, 0, 41, 4, 160, 0, 22, 28] = true := by decide +kernel
theorem dX8_isAmongRows_0 : decode cX8_isAmongRows 0 = .ok (.iload_n 1, 1) := qd_o27 0 0 qd_g225 rfl
theorem dX8_isAmongRows_1 : decode cX8_isAmongRows 1 = .ok (.iconst 3, 1) := qd_o6 0 1 qd_g225 rfl
theorem dX8_isAmongRows_2 : decode cX8_isAmongRows 2 = .ok (.iand, 1) := qd_o126 0 2 qd_g225 rfl
theorem dX8_isAmongRows_3 : decode cX8_isAmongRows 3 = .ok (.istore_n 3, 1) := qd_o62 0 3 qd_g225 rfl
theorem dX8_isAmongRows_4 : decode cX8_isAmongRows 4 = .ok (.aload_n 0, 1) := qd_o42 0 4 qd_g225 rfl
theorem dX8_isAmongRows_5 : decode cX8_isAmongRows 5 = .ok (.getfield 15, 3) := qd_o180 0 5 qd_g225 rfl rfl
theorem dX8_isAmongRows_8 : decode cX8_isAmongRows 8 = .ok (.bipush 24, 2) := qd_o16 0 8 qd_g225 rfl rfl
theorem dX8_isAmongRows_10 : decode cX8_isAmongRows 10 = .ok (.iload_n 3, 1) := qd_o29 0 10 qd_g225 rfl
theorem dX8_isAmongRows_11 : decode cX8_isAmongRows 11 = .ok (.iadd, 1) := qd_o96 0 11 qd_g225 rfl
theorem dX8_isAmongRows_12 : decode cX8_isAmongRows 12 = .ok (.iaload, 1) := qd_o46 0 12 qd_g225 rfl
theorem dX8_isAmongRows_13 : decode cX8_isAmongRows 13 = .ok (.istore 4, 2) := qd_o54 0 13 qd_g225 rfl rfl
theorem dX8_isAmongRows_15 : decode cX8_isAmongRows 15 = .ok (.bipush 8, 2) := qd_o16 0 15 qd_g225 rfl rfl
theorem dX8_isAmongRows_17 : decode cX8_isAmongRows 17 = .ok (.aload_n 0, 1) := qd_o42 0 17 qd_g225 rfl
theorem dX8_isAmongRows_18 : decode cX8_isAmongRows 18 = .ok (.bipush 18, 2) := qd_o16 0 18 qd_g225 rfl rfl
theorem dX8_isAmongRows_20 : decode cX8_isAmongRows 20 = .ok (.iload_n 3, 1) := qd_o29 0 20 qd_g225 rfl
theorem dX8_isAmongRows_21 : decode cX8_isAmongRows 21 = .ok (.invokevirtual 41, 3) := qd_o182 0 21 qd_g225 rfl rfl
theorem dX8_isAmongRows_24 : decode cX8_isAmongRows 24 = .ok (.ishl, 1) := qd_o120 0 24 qd_g225 rfl
theorem dX8_isAmongRows_25 : decode cX8_isAmongRows 25 = .ok (.istore 5, 2) := qd_o54 0 25 qd_g225 rfl rfl
theorem dX8_isAmongRows_27 : decode cX8_isAmongRows 27 = .ok (.aload_n 0, 1) := qd_o42 0 27 qd_g225 rfl
theorem dX8_isAmongRows_28 : decode cX8_isAmongRows 28 = .ok (.bipush 17, 2) := qd_o16 0 28 qd_g225 rfl rfl
theorem dX8_isAmongRows_30 : decode cX8_isAmongRows 30 = .ok (.iload_n 3, 1) := qd_o29 0 30 qd_g225 rfl
theorem dX8_isAmongRows_31 : decode cX8_isAmongRows 31 = .ok (.invokevirtual 41, 3) := qd_o182 0 31 qd_g225 rfl rfl
theorem dX8_isAmongRows_34 : decode cX8_isAmongRows 34 = .ok (.iconst 1, 1) := qd_o4 0 34 qd_g225 rfl
theorem dX8_isAmongRows_35 : decode cX8_isAmongRows 35 = .ok (.if_icmp .ne 22, 3) := qd_o160 0 35 qd_g225 rfl rfl
theorem dX8_isAmongRows_38 : decode cX8_isAmongRows 38 = .ok (.iload_n 2, 1) := qd_o28 0 38 qd_g225 rfl
theorem qd_g226 : qd_bs cX8_isAmongRows 39 [21, 4, 161, 0, 16, 28, 21, 4, 21, 5, 96, 162, 0, 7, 4, 167, 0, 4, 3, 172] = true := by decide +kernel
theorem dX8_isAmongRows_39 : decode cX8_isAmongRows 39 = .ok (.iload 4, 2) := qd_o21 39 0 qd_g226 rfl rfl
theorem dX8_isAmongRows_41 : decode cX8_isAmongRows 41 = .ok (.if_icmp .lt 16, 3) := qd_o161 39 2 qd_g226 rfl rfl
theorem dX8_isAmongRows_44 : decode cX8_isAmongRows 44 = .ok (.iload_n 2, 1) := qd_o28 39 5 qd_g226 rfl
theorem dX8_isAmongRows_45 : decode cX8_isAmongRows 45 = .ok (.iload 4, 2) := qd_o21 39 6 qd_g226 rfl rfl
theorem dX8_isAmongRows_47 : decode cX8_isAmongRows 47 = .ok (.iload 5, 2) := qd_o21 39 8 qd_g226 rfl rfl
theorem dX8_isAmongRows_49 : decode cX8_isAmongRows 49 = .ok (.iadd, 1) := qd_o96 39 10 qd_g226 rfl
theorem dX8_isAmongRows_50 : decode cX8_isAmongRows 50 = .ok (.if_icmp .ge 7, 3) := qd_o162 39 11 qd_g226 rfl rfl
theorem dX8_isAmongRows_53 : decode cX8_isAmongRows 53 = .ok (.iconst 1, 1) := qd_o4 39 14 qd_g226 rfl
theorem dX8_isAmongRows_54 : decode cX8_isAmongRows 54 = .ok (.goto 4, 3) := qd_o167 39 15 qd_g226 rfl rfl
theorem dX8_isAmongRows_57 : decode cX8_isAmongRows 57 = .ok (.iconst 0, 1) := qd_o3 39 18 qd_g226 rfl
theorem dX8_isAmongRows_58 : decode cX8_isAmongRows 58 = .ok (.ireturn, 1) := qd_o172 39 19 qd_g226 rfl
theorem qd_g227 : qd_bs cX8_bitOf 0 [27, 155, 0, 22, 27, 16, 48, 162, 0, 16, 42, 180, 0, 15, 27, 46, 28, 122, 4, 126, 167, 0, 4, 3, 172] = true := by decide +kernel
theorem dX8_bitOf_0 : decode cX8_bitOf 0 = .ok (.iload_n 1, 1) := qd_o27 0 0 qd_g227 rfl
theorem dX8_bitOf_1 : decode cX8_bitOf 1 = .ok (.ifCond .lt 22, 3) := qd_o155 0 1 qd_g227 rfl rfl
theorem dX8_bitOf_4 : decode cX8_bitOf 4 = .ok (.iload_n 1, 1) := qd_o27 0 4 qd_g227 rfl
theorem dX8_bitOf_5 : decode cX8_bitOf 5 = .ok (.bipush 48, 2) := qd_o16 0 5 qd_g227 rfl rfl
theorem dX8_bitOf_7 : decode cX8_bitOf 7 = .ok (.if_icmp .ge 16, 3) := qd_o162 0 7 qd_g227 rfl rfl
theorem dX8_bitOf_10 : decode cX8_bitOf 10 = .ok (.aload_n 0, 1) := qd_o42 0 10 qd_g227 rfl
theorem dX8_bitOf_11 : decode cX8_bitOf 11 = .ok (.getfield 15, 3) := qd_o180 0 11 qd_g227 rfl rfl
theorem dX8_bitOf_14 : decode cX8_bitOf 14 = .ok (.iload_n 1, 1) := qd_o27 0 14 qd_g227 rfl
theorem dX8_bitOf_15 : decode cX8_bitOf 15 = .ok (.iaload, 1) := qd_o46 0 15 qd_g227 rfl
theorem dX8_bitOf_16 : decode cX8_bitOf 16 = .ok (.iload_n 2, 1) := qd_o28 0 16 qd_g227 rfl
theorem dX8_bitOf_17 : decode cX8_bitOf 17 = .ok (.ishr, 1) := qd_o122 0 17 qd_g227 rfl
theorem dX8_bitOf_18 : decode cX8_bitOf 18 = .ok (.iconst 1, 1) := qd_o4 0 18 qd_g227 rfl
theorem dX8_bitOf_19 : decode cX8_bitOf 19 = .ok (.iand, 1) := qd_o126 0 19 qd_g227 rfl
theorem dX8_bitOf_20 : decode cX8_bitOf 20 = .ok (.goto 4, 3) := qd_o167 0 20 qd_g227 rfl rfl
theorem dX8_bitOf_23 : decode cX8_bitOf 23 = .ok (.iconst 0, 1) := qd_o3 0 23 qd_g227 rfl
theorem dX8_bitOf_24 : decode cX8_bitOf 24 = .ok (.ireturn, 1) := qd_o172 0 24 qd_g227 rfl
theorem qd_g228 : qd_bs cX8_valueAt 0 [27, 42, 182, 0, 45, 96, 16, 32, 112, 62, 28, 42, 182, 0, 37, 96, 16, 32, 112, 54, 4, 17, 1, 0, 42, 180, 0, 15, 16, 7, 46, 104, 54, 5, 42, 21, 5, 7, 21, 4] = true := by decide +kernel
theorem dX8_valueAt_0 : decode cX8_valueAt 0 = .ok (.iload_n 1, 1) := qd_o27 0 0 qd_g228 rfl
theorem dX8_valueAt_1 : decode cX8_valueAt 1 = .ok (.aload_n 0, 1) := qd_o42 0 1 qd_g228 rfl
theorem dX8_valueAt_2 : decode cX8_valueAt 2 = .ok (.invokevirtual 45, 3) := qd_o182 0 2 qd_g228 rfl rfl
theorem dX8_valueAt_5 : decode cX8_valueAt 5 = .ok (.iadd, 1) := qd_o96 0 5 qd_g228 rfl
theorem dX8_valueAt_6 : decode cX8_valueAt 6 = .ok (.bipush 32, 2) := qd_o16 0 6 qd_g228 rfl rfl
theorem dX8_valueAt_8 : decode cX8_valueAt 8 = .ok (.irem, 1) := qd_o112 0 8 qd_g228 rfl
theorem dX8_valueAt_9 : decode cX8_valueAt 9 = .ok (.istore_n 3, 1) := qd_o62 0 9 qd_g228 rfl
theorem dX8_valueAt_10 : decode cX8_valueAt 10 = .ok (.iload_n 2, 1) := qd_o28 0 10 qd_g228 rfl
theorem dX8_valueAt_11 : decode cX8_valueAt 11 = .ok (.aload_n 0, 1) := qd_o42 0 11 qd_g228 rfl
theorem dX8_valueAt_12 : decode cX8_valueAt 12 = .ok (.invokevirtual 37, 3) := qd_o182 0 12 qd_g228 rfl rfl
theorem dX8_valueAt_15 : decode cX8_valueAt 15 = .ok (.iadd, 1) := qd_o96 0 15 qd_g228 rfl
theorem dX8_valueAt_16 : decode cX8_valueAt 16 = .ok (.bipush 32, 2) := qd_o16 0 16 qd_g228 rfl rfl
theorem dX8_valueAt_18 : decode cX8_valueAt 18 = .ok (.irem, 1) := qd_o112 0 18 qd_g228 rfl
theorem dX8_valueAt_19 : decode cX8_valueAt 19 = .ok (.istore 4, 2) := qd_o54 0 19 qd_g228 rfl rfl
theorem dX8_valueAt_21 : decode cX8_valueAt 21 = .ok (.sipush 256, 3) := qd_o17 0 21 qd_g228 rfl rfl
theorem dX8_valueAt_24 : decode cX8_valueAt 24 = .ok (.aload_n 0, 1) := qd_o42 0 24 qd_g228 rfl
theorem dX8_valueAt_25 : decode cX8_valueAt 25 = .ok (.getfield 15, 3) := qd_o180 0 25 qd_g228 rfl rfl
theorem dX8_valueAt_28 : decode cX8_valueAt 28 = .ok (.bipush 7, 2) := qd_o16 0 28 qd_g228 rfl rfl
theorem dX8_valueAt_30 : decode cX8_valueAt 30 = .ok (.iaload, 1) := qd_o46 0 30 qd_g228 rfl
theorem dX8_valueAt_31 : decode cX8_valueAt 31 = .ok (.imul, 1) := qd_o104 0 31 qd_g228 rfl
theorem dX8_valueAt_32 : decode cX8_valueAt 32 = .ok (.istore 5, 2) := qd_o54 0 32 qd_g228 rfl rfl
theorem dX8_valueAt_34 : decode cX8_valueAt 34 = .ok (.aload_n 0, 1) := qd_o42 0 34 qd_g228 rfl
theorem dX8_valueAt_35 : decode cX8_valueAt 35 = .ok (.iload 5, 2) := qd_o21 0 35 qd_g228 rfl rfl
theorem dX8_valueAt_37 : decode cX8_valueAt 37 = .ok (.iconst 4, 1) := qd_o7 0 37 qd_g228 rfl
theorem dX8_valueAt_38 : decode cX8_valueAt 38 = .ok (.iload 4, 2) := qd_o21 0 38 qd_g228 rfl rfl
theorem qd_g229 : qd_bs cX8_valueAt 40 [104, 96, 29, 16, 8, 108, 96, 182, 0, 48, 54, 6, 42, 180, 0, 15, 4, 46] = true := by decide +kernel
theorem dX8_valueAt_40 : decode cX8_valueAt 40 = .ok (.imul, 1) := qd_o104 40 0 qd_g229 rfl
theorem dX8_valueAt_41 : decode cX8_valueAt 41 = .ok (.iadd, 1) := qd_o96 40 1 qd_g229 rfl
theorem dX8_valueAt_42 : decode cX8_valueAt 42 = .ok (.iload_n 3, 1) := qd_o29 40 2 qd_g229 rfl
theorem dX8_valueAt_43 : decode cX8_valueAt 43 = .ok (.bipush 8, 2) := qd_o16 40 3 qd_g229 rfl rfl
theorem dX8_valueAt_45 : decode cX8_valueAt 45 = .ok (.idiv, 1) := qd_o108 40 5 qd_g229 rfl
theorem dX8_valueAt_46 : decode cX8_valueAt 46 = .ok (.iadd, 1) := qd_o96 40 6 qd_g229 rfl
theorem dX8_valueAt_47 : decode cX8_valueAt 47 = .ok (.invokevirtual 48, 3) := qd_o182 40 7 qd_g229 rfl rfl
theorem dX8_valueAt_50 : decode cX8_valueAt 50 = .ok (.istore 6, 2) := qd_o54 40 10 qd_g229 rfl rfl
theorem dX8_valueAt_52 : decode cX8_valueAt 52 = .ok (.aload_n 0, 1) := qd_o42 40 12 qd_g229 rfl
theorem dX8_valueAt_53 : decode cX8_valueAt 53 = .ok (.getfield 15, 3) := qd_o180 40 13 qd_g229 rfl rfl
theorem dX8_valueAt_56 : decode cX8_valueAt 56 = .ok (.iconst 1, 1) := qd_o4 40 16 qd_g229 rfl
theorem dX8_valueAt_57 : decode cX8_valueAt 57 = .ok (.iaload, 1) := qd_o46 40 17 qd_g229 rfl
theorem dX8_valueAt_58 : decode cX8_valueAt 58 = .ok (.tableswitch 113 0 2 #[26, 83, 96], 26) := by decide +kernel
theorem qd_g230 : qd_bs cX8_valueAt 84 [42, 21, 5, 16, 8, 21, 4, 16, 8, 108, 104, 96, 29, 7, 108, 96, 182, 0, 48, 54, 7, 42, 17, 1, 0, 42, 180, 0, 15, 16, 8, 46, 104, 16, 8, 21, 7, 104, 96] = true := by decide +kernel
theorem dX8_valueAt_84 : decode cX8_valueAt 84 = .ok (.aload_n 0, 1) := qd_o42 84 0 qd_g230 rfl
theorem dX8_valueAt_85 : decode cX8_valueAt 85 = .ok (.iload 5, 2) := qd_o21 84 1 qd_g230 rfl rfl
theorem dX8_valueAt_87 : decode cX8_valueAt 87 = .ok (.bipush 8, 2) := qd_o16 84 3 qd_g230 rfl rfl
theorem dX8_valueAt_89 : decode cX8_valueAt 89 = .ok (.iload 4, 2) := qd_o21 84 5 qd_g230 rfl rfl
theorem dX8_valueAt_91 : decode cX8_valueAt 91 = .ok (.bipush 8, 2) := qd_o16 84 7 qd_g230 rfl rfl
theorem dX8_valueAt_93 : decode cX8_valueAt 93 = .ok (.idiv, 1) := qd_o108 84 9 qd_g230 rfl
theorem dX8_valueAt_94 : decode cX8_valueAt 94 = .ok (.imul, 1) := qd_o104 84 10 qd_g230 rfl
theorem dX8_valueAt_95 : decode cX8_valueAt 95 = .ok (.iadd, 1) := qd_o96 84 11 qd_g230 rfl
theorem dX8_valueAt_96 : decode cX8_valueAt 96 = .ok (.iload_n 3, 1) := qd_o29 84 12 qd_g230 rfl
theorem dX8_valueAt_97 : decode cX8_valueAt 97 = .ok (.iconst 4, 1) := qd_o7 84 13 qd_g230 rfl
theorem dX8_valueAt_98 : decode cX8_valueAt 98 = .ok (.idiv, 1) := qd_o108 84 14 qd_g230 rfl
theorem dX8_valueAt_99 : decode cX8_valueAt 99 = .ok (.iadd, 1) := qd_o96 84 15 qd_g230 rfl
theorem dX8_valueAt_100 : decode cX8_valueAt 100 = .ok (.invokevirtual 48, 3) := qd_o182 84 16 qd_g230 rfl rfl
theorem dX8_valueAt_103 : decode cX8_valueAt 103 = .ok (.istore 7, 2) := qd_o54 84 19 qd_g230 rfl rfl
theorem dX8_valueAt_105 : decode cX8_valueAt 105 = .ok (.aload_n 0, 1) := qd_o42 84 21 qd_g230 rfl
theorem dX8_valueAt_106 : decode cX8_valueAt 106 = .ok (.sipush 256, 3) := qd_o17 84 22 qd_g230 rfl rfl
theorem dX8_valueAt_109 : decode cX8_valueAt 109 = .ok (.aload_n 0, 1) := qd_o42 84 25 qd_g230 rfl
theorem dX8_valueAt_110 : decode cX8_valueAt 110 = .ok (.getfield 15, 3) := qd_o180 84 26 qd_g230 rfl rfl
theorem dX8_valueAt_113 : decode cX8_valueAt 113 = .ok (.bipush 8, 2) := qd_o16 84 29 qd_g230 rfl rfl
theorem dX8_valueAt_115 : decode cX8_valueAt 115 = .ok (.iaload, 1) := qd_o46 84 31 qd_g230 rfl
theorem dX8_valueAt_116 : decode cX8_valueAt 116 = .ok (.imul, 1) := qd_o104 84 32 qd_g230 rfl
theorem dX8_valueAt_117 : decode cX8_valueAt 117 = .ok (.bipush 8, 2) := qd_o16 84 33 qd_g230 rfl rfl
theorem dX8_valueAt_119 : decode cX8_valueAt 119 = .ok (.iload 7, 2) := qd_o21 84 35 qd_g230 rfl rfl
theorem dX8_valueAt_121 : decode cX8_valueAt 121 = .ok (.imul, 1) := qd_o104 84 37 qd_g230 rfl
theorem dX8_valueAt_122 : decode cX8_valueAt 122 = .ok (.iadd, 1) := qd_o96 84 38 qd_g230 rfl
theorem qd_g231 : qd_bs cX8_valueAt 123 [21, 4, 16, 8, 112, 96, 182, 0, 48, 6, 29, 7, 112, 100, 122, 4, 126, 172, 21, 6, 16, 7, 29, 16, 8, 112, 100, 122, 4, 126, 172, 21, 6, 16, 6, 5, 29, 16, 8, 112] = true := by decide +kernel
theorem dX8_valueAt_123 : decode cX8_valueAt 123 = .ok (.iload 4, 2) := qd_o21 123 0 qd_g231 rfl rfl
theorem dX8_valueAt_125 : decode cX8_valueAt 125 = .ok (.bipush 8, 2) := qd_o16 123 2 qd_g231 rfl rfl
theorem dX8_valueAt_127 : decode cX8_valueAt 127 = .ok (.irem, 1) := qd_o112 123 4 qd_g231 rfl
theorem dX8_valueAt_128 : decode cX8_valueAt 128 = .ok (.iadd, 1) := qd_o96 123 5 qd_g231 rfl
theorem dX8_valueAt_129 : decode cX8_valueAt 129 = .ok (.invokevirtual 48, 3) := qd_o182 123 6 qd_g231 rfl rfl
theorem dX8_valueAt_132 : decode cX8_valueAt 132 = .ok (.iconst 3, 1) := qd_o6 123 9 qd_g231 rfl
theorem dX8_valueAt_133 : decode cX8_valueAt 133 = .ok (.iload_n 3, 1) := qd_o29 123 10 qd_g231 rfl
theorem dX8_valueAt_134 : decode cX8_valueAt 134 = .ok (.iconst 4, 1) := qd_o7 123 11 qd_g231 rfl
theorem dX8_valueAt_135 : decode cX8_valueAt 135 = .ok (.irem, 1) := qd_o112 123 12 qd_g231 rfl
theorem dX8_valueAt_136 : decode cX8_valueAt 136 = .ok (.isub, 1) := qd_o100 123 13 qd_g231 rfl
theorem dX8_valueAt_137 : decode cX8_valueAt 137 = .ok (.ishr, 1) := qd_o122 123 14 qd_g231 rfl
theorem dX8_valueAt_138 : decode cX8_valueAt 138 = .ok (.iconst 1, 1) := qd_o4 123 15 qd_g231 rfl
theorem dX8_valueAt_139 : decode cX8_valueAt 139 = .ok (.iand, 1) := qd_o126 123 16 qd_g231 rfl
theorem dX8_valueAt_140 : decode cX8_valueAt 140 = .ok (.ireturn, 1) := qd_o172 123 17 qd_g231 rfl
theorem dX8_valueAt_141 : decode cX8_valueAt 141 = .ok (.iload 6, 2) := qd_o21 123 18 qd_g231 rfl rfl
theorem dX8_valueAt_143 : decode cX8_valueAt 143 = .ok (.bipush 7, 2) := qd_o16 123 20 qd_g231 rfl rfl
theorem dX8_valueAt_145 : decode cX8_valueAt 145 = .ok (.iload_n 3, 1) := qd_o29 123 22 qd_g231 rfl
theorem dX8_valueAt_146 : decode cX8_valueAt 146 = .ok (.bipush 8, 2) := qd_o16 123 23 qd_g231 rfl rfl
theorem dX8_valueAt_148 : decode cX8_valueAt 148 = .ok (.irem, 1) := qd_o112 123 25 qd_g231 rfl
theorem dX8_valueAt_149 : decode cX8_valueAt 149 = .ok (.isub, 1) := qd_o100 123 26 qd_g231 rfl
theorem dX8_valueAt_150 : decode cX8_valueAt 150 = .ok (.ishr, 1) := qd_o122 123 27 qd_g231 rfl
theorem dX8_valueAt_151 : decode cX8_valueAt 151 = .ok (.iconst 1, 1) := qd_o4 123 28 qd_g231 rfl
theorem dX8_valueAt_152 : decode cX8_valueAt 152 = .ok (.iand, 1) := qd_o126 123 29 qd_g231 rfl
theorem dX8_valueAt_153 : decode cX8_valueAt 153 = .ok (.ireturn, 1) := qd_o172 123 30 qd_g231 rfl
theorem dX8_valueAt_154 : decode cX8_valueAt 154 = .ok (.iload 6, 2) := qd_o21 123 31 qd_g231 rfl rfl
theorem dX8_valueAt_156 : decode cX8_valueAt 156 = .ok (.bipush 6, 2) := qd_o16 123 33 qd_g231 rfl rfl
theorem dX8_valueAt_158 : decode cX8_valueAt 158 = .ok (.iconst 2, 1) := qd_o5 123 35 qd_g231 rfl
theorem dX8_valueAt_159 : decode cX8_valueAt 159 = .ok (.iload_n 3, 1) := qd_o29 123 36 qd_g231 rfl
theorem dX8_valueAt_160 : decode cX8_valueAt 160 = .ok (.bipush 8, 2) := qd_o16 123 37 qd_g231 rfl rfl
theorem dX8_valueAt_162 : decode cX8_valueAt 162 = .ok (.irem, 1) := qd_o112 123 39 qd_g231 rfl
theorem qd_g232 : qd_bs cX8_valueAt 163 [5, 108, 104, 100, 122, 6, 126, 172, 3, 172] = true := by decide +kernel
theorem dX8_valueAt_163 : decode cX8_valueAt 163 = .ok (.iconst 2, 1) := qd_o5 163 0 qd_g232 rfl
theorem dX8_valueAt_164 : decode cX8_valueAt 164 = .ok (.idiv, 1) := qd_o108 163 1 qd_g232 rfl
theorem dX8_valueAt_165 : decode cX8_valueAt 165 = .ok (.imul, 1) := qd_o104 163 2 qd_g232 rfl
theorem dX8_valueAt_166 : decode cX8_valueAt 166 = .ok (.isub, 1) := qd_o100 163 3 qd_g232 rfl
theorem dX8_valueAt_167 : decode cX8_valueAt 167 = .ok (.ishr, 1) := qd_o122 163 4 qd_g232 rfl
theorem dX8_valueAt_168 : decode cX8_valueAt 168 = .ok (.iconst 3, 1) := qd_o6 163 5 qd_g232 rfl
theorem dX8_valueAt_169 : decode cX8_valueAt 169 = .ok (.iand, 1) := qd_o126 163 6 qd_g232 rfl
theorem dX8_valueAt_170 : decode cX8_valueAt 170 = .ok (.ireturn, 1) := qd_o172 163 7 qd_g232 rfl
theorem dX8_valueAt_171 : decode cX8_valueAt 171 = .ok (.iconst 0, 1) := qd_o3 163 8 qd_g232 rfl
theorem dX8_valueAt_172 : decode cX8_valueAt 172 = .ok (.ireturn, 1) := qd_o172 163 9 qd_g232 rfl
theorem qd_g233 : qd_bs cX8_byteAt 0 [42, 180, 0, 9, 27, 17, 15, 255, 126, 46, 172] = true := by decide +kernel
theorem dX8_byteAt_0 : decode cX8_byteAt 0 = .ok (.aload_n 0, 1) := qd_o42 0 0 qd_g233 rfl
theorem dX8_byteAt_1 : decode cX8_byteAt 1 = .ok (.getfield 9, 3) := qd_o180 0 1 qd_g233 rfl rfl
theorem dX8_byteAt_4 : decode cX8_byteAt 4 = .ok (.iload_n 1, 1) := qd_o27 0 4 qd_g233 rfl
theorem dX8_byteAt_5 : decode cX8_byteAt 5 = .ok (.sipush 4095, 3) := qd_o17 0 5 qd_g233 rfl rfl
theorem dX8_byteAt_8 : decode cX8_byteAt 8 = .ok (.iand, 1) := qd_o126 0 8 qd_g233 rfl
theorem dX8_byteAt_9 : decode cX8_byteAt 9 = .ok (.iaload, 1) := qd_o46 0 9 qd_g233 rfl
theorem dX8_byteAt_10 : decode cX8_byteAt 10 = .ok (.ireturn, 1) := qd_o172 0 10 qd_g233 rfl
theorem qd_g234 : qd_bs cX8_isSolid 0 [42, 180, 0, 15, 4, 46, 5, 160, 0, 16, 27, 5, 161, 0, 7, 4, 167, 0, 17, 3, 167, 0, 13, 27, 4, 160, 0, 7, 4, 167, 0, 4, 3, 172] = true := by decide +kernel
theorem dX8_isSolid_0 : decode cX8_isSolid 0 = .ok (.aload_n 0, 1) := qd_o42 0 0 qd_g234 rfl
theorem dX8_isSolid_1 : decode cX8_isSolid 1 = .ok (.getfield 15, 3) := qd_o180 0 1 qd_g234 rfl rfl
theorem dX8_isSolid_4 : decode cX8_isSolid 4 = .ok (.iconst 1, 1) := qd_o4 0 4 qd_g234 rfl
theorem dX8_isSolid_5 : decode cX8_isSolid 5 = .ok (.iaload, 1) := qd_o46 0 5 qd_g234 rfl
theorem dX8_isSolid_6 : decode cX8_isSolid 6 = .ok (.iconst 2, 1) := qd_o5 0 6 qd_g234 rfl
theorem dX8_isSolid_7 : decode cX8_isSolid 7 = .ok (.if_icmp .ne 16, 3) := qd_o160 0 7 qd_g234 rfl rfl
theorem dX8_isSolid_10 : decode cX8_isSolid 10 = .ok (.iload_n 1, 1) := qd_o27 0 10 qd_g234 rfl
theorem dX8_isSolid_11 : decode cX8_isSolid 11 = .ok (.iconst 2, 1) := qd_o5 0 11 qd_g234 rfl
theorem dX8_isSolid_12 : decode cX8_isSolid 12 = .ok (.if_icmp .lt 7, 3) := qd_o161 0 12 qd_g234 rfl rfl
theorem dX8_isSolid_15 : decode cX8_isSolid 15 = .ok (.iconst 1, 1) := qd_o4 0 15 qd_g234 rfl
theorem dX8_isSolid_16 : decode cX8_isSolid 16 = .ok (.goto 17, 3) := qd_o167 0 16 qd_g234 rfl rfl
theorem dX8_isSolid_19 : decode cX8_isSolid 19 = .ok (.iconst 0, 1) := qd_o3 0 19 qd_g234 rfl
theorem dX8_isSolid_20 : decode cX8_isSolid 20 = .ok (.goto 13, 3) := qd_o167 0 20 qd_g234 rfl rfl
theorem dX8_isSolid_23 : decode cX8_isSolid 23 = .ok (.iload_n 1, 1) := qd_o27 0 23 qd_g234 rfl
theorem dX8_isSolid_24 : decode cX8_isSolid 24 = .ok (.iconst 1, 1) := qd_o4 0 24 qd_g234 rfl
theorem dX8_isSolid_25 : decode cX8_isSolid 25 = .ok (.if_icmp .ne 7, 3) := qd_o160 0 25 qd_g234 rfl rfl
theorem dX8_isSolid_28 : decode cX8_isSolid 28 = .ok (.iconst 1, 1) := qd_o4 0 28 qd_g234 rfl
theorem dX8_isSolid_29 : decode cX8_isSolid 29 = .ok (.goto 4, 3) := qd_o167 0 29 qd_g234 rfl rfl
theorem dX8_isSolid_32 : decode cX8_isSolid 32 = .ok (.iconst 0, 1) := qd_o3 0 32 qd_g234 rfl
theorem dX8_isSolid_33 : decode cX8_isSolid 33 = .ok (.ireturn, 1) := qd_o172 0 33 qd_g234 rfl
theorem qd_g235 : qd_bs cX8_spritesAt 0 [3, 62, 3, 54, 4, 21, 4, 7, 162, 0, 135, 42, 16, 18, 21, 4, 182, 0, 41, 54, 5, 27, 42, 180, 0, 15, 16, 20, 21, 4, 96, 46, 100, 21, 5, 122, 54, 6, 28, 42] = true := by decide +kernel
theorem dX8_spritesAt_0 : decode cX8_spritesAt 0 = .ok (.iconst 0, 1) := qd_o3 0 0 qd_g235 rfl
theorem dX8_spritesAt_1 : decode cX8_spritesAt 1 = .ok (.istore_n 3, 1) := qd_o62 0 1 qd_g235 rfl
theorem dX8_spritesAt_2 : decode cX8_spritesAt 2 = .ok (.iconst 0, 1) := qd_o3 0 2 qd_g235 rfl
theorem dX8_spritesAt_3 : decode cX8_spritesAt 3 = .ok (.istore 4, 2) := qd_o54 0 3 qd_g235 rfl rfl
theorem dX8_spritesAt_5 : decode cX8_spritesAt 5 = .ok (.iload 4, 2) := qd_o21 0 5 qd_g235 rfl rfl
theorem dX8_spritesAt_7 : decode cX8_spritesAt 7 = .ok (.iconst 4, 1) := qd_o7 0 7 qd_g235 rfl
theorem dX8_spritesAt_8 : decode cX8_spritesAt 8 = .ok (.if_icmp .ge 135, 3) := qd_o162 0 8 qd_g235 rfl rfl
theorem dX8_spritesAt_11 : decode cX8_spritesAt 11 = .ok (.aload_n 0, 1) := qd_o42 0 11 qd_g235 rfl
theorem dX8_spritesAt_12 : decode cX8_spritesAt 12 = .ok (.bipush 18, 2) := qd_o16 0 12 qd_g235 rfl rfl
theorem dX8_spritesAt_14 : decode cX8_spritesAt 14 = .ok (.iload 4, 2) := qd_o21 0 14 qd_g235 rfl rfl
theorem dX8_spritesAt_16 : decode cX8_spritesAt 16 = .ok (.invokevirtual 41, 3) := qd_o182 0 16 qd_g235 rfl rfl
theorem dX8_spritesAt_19 : decode cX8_spritesAt 19 = .ok (.istore 5, 2) := qd_o54 0 19 qd_g235 rfl rfl
theorem dX8_spritesAt_21 : decode cX8_spritesAt 21 = .ok (.iload_n 1, 1) := qd_o27 0 21 qd_g235 rfl
theorem dX8_spritesAt_22 : decode cX8_spritesAt 22 = .ok (.aload_n 0, 1) := qd_o42 0 22 qd_g235 rfl
theorem dX8_spritesAt_23 : decode cX8_spritesAt 23 = .ok (.getfield 15, 3) := qd_o180 0 23 qd_g235 rfl rfl
theorem dX8_spritesAt_26 : decode cX8_spritesAt 26 = .ok (.bipush 20, 2) := qd_o16 0 26 qd_g235 rfl rfl
theorem dX8_spritesAt_28 : decode cX8_spritesAt 28 = .ok (.iload 4, 2) := qd_o21 0 28 qd_g235 rfl rfl
theorem dX8_spritesAt_30 : decode cX8_spritesAt 30 = .ok (.iadd, 1) := qd_o96 0 30 qd_g235 rfl
theorem dX8_spritesAt_31 : decode cX8_spritesAt 31 = .ok (.iaload, 1) := qd_o46 0 31 qd_g235 rfl
theorem dX8_spritesAt_32 : decode cX8_spritesAt 32 = .ok (.isub, 1) := qd_o100 0 32 qd_g235 rfl
theorem dX8_spritesAt_33 : decode cX8_spritesAt 33 = .ok (.iload 5, 2) := qd_o21 0 33 qd_g235 rfl rfl
theorem dX8_spritesAt_35 : decode cX8_spritesAt 35 = .ok (.ishr, 1) := qd_o122 0 35 qd_g235 rfl
theorem dX8_spritesAt_36 : decode cX8_spritesAt 36 = .ok (.istore 6, 2) := qd_o54 0 36 qd_g235 rfl rfl
theorem dX8_spritesAt_38 : decode cX8_spritesAt 38 = .ok (.iload_n 2, 1) := qd_o28 0 38 qd_g235 rfl
theorem dX8_spritesAt_39 : decode cX8_spritesAt 39 = .ok (.aload_n 0, 1) := qd_o42 0 39 qd_g235 rfl
theorem qd_g236 : qd_bs cX8_spritesAt 40 [180, 0, 15, 16, 24, 21, 4, 96, 46, 100, 21, 5, 122, 54, 7, 42, 16, 17, 21, 4, 182, 0, 41, 4, 160, 0, 73, 21, 6, 155, 0, 68, 21, 6, 16, 8, 162, 0, 61] = true := by decide +kernel
theorem dX8_spritesAt_40 : decode cX8_spritesAt 40 = .ok (.getfield 15, 3) := qd_o180 40 0 qd_g236 rfl rfl
theorem dX8_spritesAt_43 : decode cX8_spritesAt 43 = .ok (.bipush 24, 2) := qd_o16 40 3 qd_g236 rfl rfl
theorem dX8_spritesAt_45 : decode cX8_spritesAt 45 = .ok (.iload 4, 2) := qd_o21 40 5 qd_g236 rfl rfl
theorem dX8_spritesAt_47 : decode cX8_spritesAt 47 = .ok (.iadd, 1) := qd_o96 40 7 qd_g236 rfl
theorem dX8_spritesAt_48 : decode cX8_spritesAt 48 = .ok (.iaload, 1) := qd_o46 40 8 qd_g236 rfl
theorem dX8_spritesAt_49 : decode cX8_spritesAt 49 = .ok (.isub, 1) := qd_o100 40 9 qd_g236 rfl
theorem dX8_spritesAt_50 : decode cX8_spritesAt 50 = .ok (.iload 5, 2) := qd_o21 40 10 qd_g236 rfl rfl
theorem dX8_spritesAt_52 : decode cX8_spritesAt 52 = .ok (.ishr, 1) := qd_o122 40 12 qd_g236 rfl
theorem dX8_spritesAt_53 : decode cX8_spritesAt 53 = .ok (.istore 7, 2) := qd_o54 40 13 qd_g236 rfl rfl
theorem dX8_spritesAt_55 : decode cX8_spritesAt 55 = .ok (.aload_n 0, 1) := qd_o42 40 15 qd_g236 rfl
theorem dX8_spritesAt_56 : decode cX8_spritesAt 56 = .ok (.bipush 17, 2) := qd_o16 40 16 qd_g236 rfl rfl
theorem dX8_spritesAt_58 : decode cX8_spritesAt 58 = .ok (.iload 4, 2) := qd_o21 40 18 qd_g236 rfl rfl
theorem dX8_spritesAt_60 : decode cX8_spritesAt 60 = .ok (.invokevirtual 41, 3) := qd_o182 40 20 qd_g236 rfl rfl
theorem dX8_spritesAt_63 : decode cX8_spritesAt 63 = .ok (.iconst 1, 1) := qd_o4 40 23 qd_g236 rfl
theorem dX8_spritesAt_64 : decode cX8_spritesAt 64 = .ok (.if_icmp .ne 73, 3) := qd_o160 40 24 qd_g236 rfl rfl
theorem dX8_spritesAt_67 : decode cX8_spritesAt 67 = .ok (.iload 6, 2) := qd_o21 40 27 qd_g236 rfl rfl
theorem dX8_spritesAt_69 : decode cX8_spritesAt 69 = .ok (.ifCond .lt 68, 3) := qd_o155 40 29 qd_g236 rfl rfl
theorem dX8_spritesAt_72 : decode cX8_spritesAt 72 = .ok (.iload 6, 2) := qd_o21 40 32 qd_g236 rfl rfl
theorem dX8_spritesAt_74 : decode cX8_spritesAt 74 = .ok (.bipush 8, 2) := qd_o16 40 34 qd_g236 rfl rfl
theorem dX8_spritesAt_76 : decode cX8_spritesAt 76 = .ok (.if_icmp .ge 61, 3) := qd_o162 40 36 qd_g236 rfl rfl
theorem qd_g237 : qd_bs cX8_spritesAt 79 [21, 7, 155, 0, 56, 21, 7, 16, 8, 162, 0, 49, 42, 17, 1, 0, 42, 180, 0, 15, 16, 7, 46, 104, 17, 0, 128, 96, 16, 8, 21, 4, 104, 96, 21, 7, 96, 182, 0, 48] = true := by decide +kernel
theorem dX8_spritesAt_79 : decode cX8_spritesAt 79 = .ok (.iload 7, 2) := qd_o21 79 0 qd_g237 rfl rfl
theorem dX8_spritesAt_81 : decode cX8_spritesAt 81 = .ok (.ifCond .lt 56, 3) := qd_o155 79 2 qd_g237 rfl rfl
theorem dX8_spritesAt_84 : decode cX8_spritesAt 84 = .ok (.iload 7, 2) := qd_o21 79 5 qd_g237 rfl rfl
theorem dX8_spritesAt_86 : decode cX8_spritesAt 86 = .ok (.bipush 8, 2) := qd_o16 79 7 qd_g237 rfl rfl
theorem dX8_spritesAt_88 : decode cX8_spritesAt 88 = .ok (.if_icmp .ge 49, 3) := qd_o162 79 9 qd_g237 rfl rfl
theorem dX8_spritesAt_91 : decode cX8_spritesAt 91 = .ok (.aload_n 0, 1) := qd_o42 79 12 qd_g237 rfl
theorem dX8_spritesAt_92 : decode cX8_spritesAt 92 = .ok (.sipush 256, 3) := qd_o17 79 13 qd_g237 rfl rfl
theorem dX8_spritesAt_95 : decode cX8_spritesAt 95 = .ok (.aload_n 0, 1) := qd_o42 79 16 qd_g237 rfl
theorem dX8_spritesAt_96 : decode cX8_spritesAt 96 = .ok (.getfield 15, 3) := qd_o180 79 17 qd_g237 rfl rfl
theorem dX8_spritesAt_99 : decode cX8_spritesAt 99 = .ok (.bipush 7, 2) := qd_o16 79 20 qd_g237 rfl rfl
theorem dX8_spritesAt_101 : decode cX8_spritesAt 101 = .ok (.iaload, 1) := qd_o46 79 22 qd_g237 rfl
theorem dX8_spritesAt_102 : decode cX8_spritesAt 102 = .ok (.imul, 1) := qd_o104 79 23 qd_g237 rfl
theorem dX8_spritesAt_103 : decode cX8_spritesAt 103 = .ok (.sipush 128, 3) := qd_o17 79 24 qd_g237 rfl rfl
theorem dX8_spritesAt_106 : decode cX8_spritesAt 106 = .ok (.iadd, 1) := qd_o96 79 27 qd_g237 rfl
theorem dX8_spritesAt_107 : decode cX8_spritesAt 107 = .ok (.bipush 8, 2) := qd_o16 79 28 qd_g237 rfl rfl
theorem dX8_spritesAt_109 : decode cX8_spritesAt 109 = .ok (.iload 4, 2) := qd_o21 79 30 qd_g237 rfl rfl
theorem dX8_spritesAt_111 : decode cX8_spritesAt 111 = .ok (.imul, 1) := qd_o104 79 32 qd_g237 rfl
theorem dX8_spritesAt_112 : decode cX8_spritesAt 112 = .ok (.iadd, 1) := qd_o96 79 33 qd_g237 rfl
theorem dX8_spritesAt_113 : decode cX8_spritesAt 113 = .ok (.iload 7, 2) := qd_o21 79 34 qd_g237 rfl rfl
theorem dX8_spritesAt_115 : decode cX8_spritesAt 115 = .ok (.iadd, 1) := qd_o96 79 36 qd_g237 rfl
theorem dX8_spritesAt_116 : decode cX8_spritesAt 116 = .ok (.invokevirtual 48, 3) := qd_o182 79 37 qd_g237 rfl rfl
theorem qd_g238 : qd_bs cX8_spritesAt 119 [54, 8, 29, 21, 8, 16, 7, 21, 6, 100, 122, 4, 126, 21, 4, 120, 128, 62, 132, 4, 1, 167, 255, 121, 29, 172] = true := by decide +kernel
theorem dX8_spritesAt_119 : decode cX8_spritesAt 119 = .ok (.istore 8, 2) := qd_o54 119 0 qd_g238 rfl rfl
theorem dX8_spritesAt_121 : decode cX8_spritesAt 121 = .ok (.iload_n 3, 1) := qd_o29 119 2 qd_g238 rfl
theorem dX8_spritesAt_122 : decode cX8_spritesAt 122 = .ok (.iload 8, 2) := qd_o21 119 3 qd_g238 rfl rfl
theorem dX8_spritesAt_124 : decode cX8_spritesAt 124 = .ok (.bipush 7, 2) := qd_o16 119 5 qd_g238 rfl rfl
theorem dX8_spritesAt_126 : decode cX8_spritesAt 126 = .ok (.iload 6, 2) := qd_o21 119 7 qd_g238 rfl rfl
theorem dX8_spritesAt_128 : decode cX8_spritesAt 128 = .ok (.isub, 1) := qd_o100 119 9 qd_g238 rfl
theorem dX8_spritesAt_129 : decode cX8_spritesAt 129 = .ok (.ishr, 1) := qd_o122 119 10 qd_g238 rfl
theorem dX8_spritesAt_130 : decode cX8_spritesAt 130 = .ok (.iconst 1, 1) := qd_o4 119 11 qd_g238 rfl
theorem dX8_spritesAt_131 : decode cX8_spritesAt 131 = .ok (.iand, 1) := qd_o126 119 12 qd_g238 rfl
theorem dX8_spritesAt_132 : decode cX8_spritesAt 132 = .ok (.iload 4, 2) := qd_o21 119 13 qd_g238 rfl rfl
theorem dX8_spritesAt_134 : decode cX8_spritesAt 134 = .ok (.ishl, 1) := qd_o120 119 15 qd_g238 rfl
theorem dX8_spritesAt_135 : decode cX8_spritesAt 135 = .ok (.ior, 1) := qd_o128 119 16 qd_g238 rfl
theorem dX8_spritesAt_136 : decode cX8_spritesAt 136 = .ok (.istore_n 3, 1) := qd_o62 119 17 qd_g238 rfl
theorem dX8_spritesAt_137 : decode cX8_spritesAt 137 = .ok (.iinc 4 1, 3) := qd_o132 119 18 qd_g238 rfl rfl
theorem dX8_spritesAt_140 : decode cX8_spritesAt 140 = .ok (.goto (-135), 3) := qd_o167 119 21 qd_g238 rfl rfl
theorem dX8_spritesAt_143 : decode cX8_spritesAt 143 = .ok (.iload_n 3, 1) := qd_o29 119 24 qd_g238 rfl
theorem dX8_spritesAt_144 : decode cX8_spritesAt 144 = .ok (.ireturn, 1) := qd_o172 119 25 qd_g238 rfl
theorem qd_g239 : qd_bs cX8_colourOf 0 [3, 62, 29, 7, 162, 0, 75, 28, 29, 122, 4, 126, 4, 160, 0, 60, 42, 16, 19, 29, 182, 0, 41, 4, 160, 0, 15, 42, 27, 182, 0, 52, 153, 0, 7, 4, 167, 0, 4, 3] = true := by decide +kernel
theorem dX8_colourOf_0 : decode cX8_colourOf 0 = .ok (.iconst 0, 1) := qd_o3 0 0 qd_g239 rfl
theorem dX8_colourOf_1 : decode cX8_colourOf 1 = .ok (.istore_n 3, 1) := qd_o62 0 1 qd_g239 rfl
theorem dX8_colourOf_2 : decode cX8_colourOf 2 = .ok (.iload_n 3, 1) := qd_o29 0 2 qd_g239 rfl
theorem dX8_colourOf_3 : decode cX8_colourOf 3 = .ok (.iconst 4, 1) := qd_o7 0 3 qd_g239 rfl
theorem dX8_colourOf_4 : decode cX8_colourOf 4 = .ok (.if_icmp .ge 75, 3) := qd_o162 0 4 qd_g239 rfl rfl
theorem dX8_colourOf_7 : decode cX8_colourOf 7 = .ok (.iload_n 2, 1) := qd_o28 0 7 qd_g239 rfl
theorem dX8_colourOf_8 : decode cX8_colourOf 8 = .ok (.iload_n 3, 1) := qd_o29 0 8 qd_g239 rfl
theorem dX8_colourOf_9 : decode cX8_colourOf 9 = .ok (.ishr, 1) := qd_o122 0 9 qd_g239 rfl
theorem dX8_colourOf_10 : decode cX8_colourOf 10 = .ok (.iconst 1, 1) := qd_o4 0 10 qd_g239 rfl
theorem dX8_colourOf_11 : decode cX8_colourOf 11 = .ok (.iand, 1) := qd_o126 0 11 qd_g239 rfl
theorem dX8_colourOf_12 : decode cX8_colourOf 12 = .ok (.iconst 1, 1) := qd_o4 0 12 qd_g239 rfl
theorem dX8_colourOf_13 : decode cX8_colourOf 13 = .ok (.if_icmp .ne 60, 3) := qd_o160 0 13 qd_g239 rfl rfl
theorem dX8_colourOf_16 : decode cX8_colourOf 16 = .ok (.aload_n 0, 1) := qd_o42 0 16 qd_g239 rfl
theorem dX8_colourOf_17 : decode cX8_colourOf 17 = .ok (.bipush 19, 2) := qd_o16 0 17 qd_g239 rfl rfl
theorem dX8_colourOf_19 : decode cX8_colourOf 19 = .ok (.iload_n 3, 1) := qd_o29 0 19 qd_g239 rfl
theorem dX8_colourOf_20 : decode cX8_colourOf 20 = .ok (.invokevirtual 41, 3) := qd_o182 0 20 qd_g239 rfl rfl
theorem dX8_colourOf_23 : decode cX8_colourOf 23 = .ok (.iconst 1, 1) := qd_o4 0 23 qd_g239 rfl
theorem dX8_colourOf_24 : decode cX8_colourOf 24 = .ok (.if_icmp .ne 15, 3) := qd_o160 0 24 qd_g239 rfl rfl
theorem dX8_colourOf_27 : decode cX8_colourOf 27 = .ok (.aload_n 0, 1) := qd_o42 0 27 qd_g239 rfl
theorem dX8_colourOf_28 : decode cX8_colourOf 28 = .ok (.iload_n 1, 1) := qd_o27 0 28 qd_g239 rfl
theorem dX8_colourOf_29 : decode cX8_colourOf 29 = .ok (.invokevirtual 52, 3) := qd_o182 0 29 qd_g239 rfl rfl
theorem dX8_colourOf_32 : decode cX8_colourOf 32 = .ok (.ifCond .eq 7, 3) := qd_o153 0 32 qd_g239 rfl rfl
theorem dX8_colourOf_35 : decode cX8_colourOf 35 = .ok (.iconst 1, 1) := qd_o4 0 35 qd_g239 rfl
theorem dX8_colourOf_36 : decode cX8_colourOf 36 = .ok (.goto 4, 3) := qd_o167 0 36 qd_g239 rfl rfl
theorem dX8_colourOf_39 : decode cX8_colourOf 39 = .ok (.iconst 0, 1) := qd_o3 0 39 qd_g239 rfl
theorem qd_g240 : qd_bs cX8_colourOf 40 [54, 4, 21, 4, 153, 0, 16, 42, 180, 0, 15, 6, 27, 6, 126, 96, 46, 167, 0, 15, 42, 180, 0, 15, 16, 28, 46, 29, 96, 16, 16, 112, 172, 132, 3, 1, 167, 255, 182, 42] = true := by decide +kernel
theorem dX8_colourOf_40 : decode cX8_colourOf 40 = .ok (.istore 4, 2) := qd_o54 40 0 qd_g240 rfl rfl
theorem dX8_colourOf_42 : decode cX8_colourOf 42 = .ok (.iload 4, 2) := qd_o21 40 2 qd_g240 rfl rfl
theorem dX8_colourOf_44 : decode cX8_colourOf 44 = .ok (.ifCond .eq 16, 3) := qd_o153 40 4 qd_g240 rfl rfl
theorem dX8_colourOf_47 : decode cX8_colourOf 47 = .ok (.aload_n 0, 1) := qd_o42 40 7 qd_g240 rfl
theorem dX8_colourOf_48 : decode cX8_colourOf 48 = .ok (.getfield 15, 3) := qd_o180 40 8 qd_g240 rfl rfl
theorem dX8_colourOf_51 : decode cX8_colourOf 51 = .ok (.iconst 3, 1) := qd_o6 40 11 qd_g240 rfl
theorem dX8_colourOf_52 : decode cX8_colourOf 52 = .ok (.iload_n 1, 1) := qd_o27 40 12 qd_g240 rfl
theorem dX8_colourOf_53 : decode cX8_colourOf 53 = .ok (.iconst 3, 1) := qd_o6 40 13 qd_g240 rfl
theorem dX8_colourOf_54 : decode cX8_colourOf 54 = .ok (.iand, 1) := qd_o126 40 14 qd_g240 rfl
theorem dX8_colourOf_55 : decode cX8_colourOf 55 = .ok (.iadd, 1) := qd_o96 40 15 qd_g240 rfl
theorem dX8_colourOf_56 : decode cX8_colourOf 56 = .ok (.iaload, 1) := qd_o46 40 16 qd_g240 rfl
theorem dX8_colourOf_57 : decode cX8_colourOf 57 = .ok (.goto 15, 3) := qd_o167 40 17 qd_g240 rfl rfl
theorem dX8_colourOf_60 : decode cX8_colourOf 60 = .ok (.aload_n 0, 1) := qd_o42 40 20 qd_g240 rfl
theorem dX8_colourOf_61 : decode cX8_colourOf 61 = .ok (.getfield 15, 3) := qd_o180 40 21 qd_g240 rfl rfl
theorem dX8_colourOf_64 : decode cX8_colourOf 64 = .ok (.bipush 28, 2) := qd_o16 40 24 qd_g240 rfl rfl
theorem dX8_colourOf_66 : decode cX8_colourOf 66 = .ok (.iaload, 1) := qd_o46 40 26 qd_g240 rfl
theorem dX8_colourOf_67 : decode cX8_colourOf 67 = .ok (.iload_n 3, 1) := qd_o29 40 27 qd_g240 rfl
theorem dX8_colourOf_68 : decode cX8_colourOf 68 = .ok (.iadd, 1) := qd_o96 40 28 qd_g240 rfl
theorem dX8_colourOf_69 : decode cX8_colourOf 69 = .ok (.bipush 16, 2) := qd_o16 40 29 qd_g240 rfl rfl
theorem dX8_colourOf_71 : decode cX8_colourOf 71 = .ok (.irem, 1) := qd_o112 40 31 qd_g240 rfl
theorem dX8_colourOf_72 : decode cX8_colourOf 72 = .ok (.ireturn, 1) := qd_o172 40 32 qd_g240 rfl
theorem dX8_colourOf_73 : decode cX8_colourOf 73 = .ok (.iinc 3 1, 3) := qd_o132 40 33 qd_g240 rfl rfl
theorem dX8_colourOf_76 : decode cX8_colourOf 76 = .ok (.goto (-74), 3) := qd_o167 40 36 qd_g240 rfl rfl
theorem dX8_colourOf_79 : decode cX8_colourOf 79 = .ok (.aload_n 0, 1) := qd_o42 40 39 qd_g240 rfl
theorem qd_g241 : qd_bs cX8_colourOf 80 [180, 0, 15, 6, 27, 6, 126, 96, 46, 172] = true := by decide +kernel
theorem dX8_colourOf_80 : decode cX8_colourOf 80 = .ok (.getfield 15, 3) := qd_o180 80 0 qd_g241 rfl rfl
theorem dX8_colourOf_83 : decode cX8_colourOf 83 = .ok (.iconst 3, 1) := qd_o6 80 3 qd_g241 rfl
theorem dX8_colourOf_84 : decode cX8_colourOf 84 = .ok (.iload_n 1, 1) := qd_o27 80 4 qd_g241 rfl
theorem dX8_colourOf_85 : decode cX8_colourOf 85 = .ok (.iconst 3, 1) := qd_o6 80 5 qd_g241 rfl
theorem dX8_colourOf_86 : decode cX8_colourOf 86 = .ok (.iand, 1) := qd_o126 80 6 qd_g241 rfl
theorem dX8_colourOf_87 : decode cX8_colourOf 87 = .ok (.iadd, 1) := qd_o96 80 7 qd_g241 rfl
theorem dX8_colourOf_88 : decode cX8_colourOf 88 = .ok (.iaload, 1) := qd_o46 80 8 qd_g241 rfl
theorem dX8_colourOf_89 : decode cX8_colourOf 89 = .ok (.ireturn, 1) := qd_o172 80 9 qd_g241 rfl
theorem qd_g242 : qd_bs cX8_noteHits 0 [28, 184, 0, 56, 4, 164, 0, 14, 42, 180, 0, 15, 16, 29, 92, 46, 28, 128, 79, 42, 27, 182, 0, 52, 153, 0, 14, 42, 180, 0, 15, 16, 30, 92, 46, 28, 128, 79, 177] = true := by decide +kernel
theorem dX8_noteHits_0 : decode cX8_noteHits 0 = .ok (.iload_n 2, 1) := qd_o28 0 0 qd_g242 rfl
theorem dX8_noteHits_1 : decode cX8_noteHits 1 = .ok (.invokestatic 56, 3) := qd_o184 0 1 qd_g242 rfl rfl
theorem dX8_noteHits_4 : decode cX8_noteHits 4 = .ok (.iconst 1, 1) := qd_o4 0 4 qd_g242 rfl
theorem dX8_noteHits_5 : decode cX8_noteHits 5 = .ok (.if_icmp .le 14, 3) := qd_o164 0 5 qd_g242 rfl rfl
theorem dX8_noteHits_8 : decode cX8_noteHits 8 = .ok (.aload_n 0, 1) := qd_o42 0 8 qd_g242 rfl
theorem dX8_noteHits_9 : decode cX8_noteHits 9 = .ok (.getfield 15, 3) := qd_o180 0 9 qd_g242 rfl rfl
theorem dX8_noteHits_12 : decode cX8_noteHits 12 = .ok (.bipush 29, 2) := qd_o16 0 12 qd_g242 rfl rfl
theorem dX8_noteHits_14 : decode cX8_noteHits 14 = .ok (.dup2, 1) := qd_o92 0 14 qd_g242 rfl
theorem dX8_noteHits_15 : decode cX8_noteHits 15 = .ok (.iaload, 1) := qd_o46 0 15 qd_g242 rfl
theorem dX8_noteHits_16 : decode cX8_noteHits 16 = .ok (.iload_n 2, 1) := qd_o28 0 16 qd_g242 rfl
theorem dX8_noteHits_17 : decode cX8_noteHits 17 = .ok (.ior, 1) := qd_o128 0 17 qd_g242 rfl
theorem dX8_noteHits_18 : decode cX8_noteHits 18 = .ok (.iastore, 1) := qd_o79 0 18 qd_g242 rfl
theorem dX8_noteHits_19 : decode cX8_noteHits 19 = .ok (.aload_n 0, 1) := qd_o42 0 19 qd_g242 rfl
theorem dX8_noteHits_20 : decode cX8_noteHits 20 = .ok (.iload_n 1, 1) := qd_o27 0 20 qd_g242 rfl
theorem dX8_noteHits_21 : decode cX8_noteHits 21 = .ok (.invokevirtual 52, 3) := qd_o182 0 21 qd_g242 rfl rfl
theorem dX8_noteHits_24 : decode cX8_noteHits 24 = .ok (.ifCond .eq 14, 3) := qd_o153 0 24 qd_g242 rfl rfl
theorem dX8_noteHits_27 : decode cX8_noteHits 27 = .ok (.aload_n 0, 1) := qd_o42 0 27 qd_g242 rfl
theorem dX8_noteHits_28 : decode cX8_noteHits 28 = .ok (.getfield 15, 3) := qd_o180 0 28 qd_g242 rfl rfl
theorem dX8_noteHits_31 : decode cX8_noteHits 31 = .ok (.bipush 30, 2) := qd_o16 0 31 qd_g242 rfl rfl
theorem dX8_noteHits_33 : decode cX8_noteHits 33 = .ok (.dup2, 1) := qd_o92 0 33 qd_g242 rfl
theorem dX8_noteHits_34 : decode cX8_noteHits 34 = .ok (.iaload, 1) := qd_o46 0 34 qd_g242 rfl
theorem dX8_noteHits_35 : decode cX8_noteHits 35 = .ok (.iload_n 2, 1) := qd_o28 0 35 qd_g242 rfl
theorem dX8_noteHits_36 : decode cX8_noteHits 36 = .ok (.ior, 1) := qd_o128 0 36 qd_g242 rfl
theorem dX8_noteHits_37 : decode cX8_noteHits 37 = .ok (.iastore, 1) := qd_o79 0 37 qd_g242 rfl
theorem dX8_noteHits_38 : decode cX8_noteHits 38 = .ok (.return_, 1) := qd_o177 0 38 qd_g242 rfl
theorem qd_g243 : qd_bs cX9_init 0 [42, 183, 0, 3, 42, 16, 40] = true := by decide +kernel
theorem dX9_init_0 : decode cX9_init 0 = .ok (.aload_n 0, 1) := qd_o42 0 0 qd_g243 rfl
theorem dX9_init_1 : decode cX9_init 1 = .ok (.invokespecial 3, 3) := qd_o183 0 1 qd_g243 rfl rfl
theorem dX9_init_4 : decode cX9_init 4 = .ok (.aload_n 0, 1) := qd_o42 0 4 qd_g243 rfl
theorem dX9_init_5 : decode cX9_init 5 = .ok (.bipush 40, 2) := qd_o16 0 5 qd_g243 rfl rfl
theorem dX9_init_7 : decode cX9_init 7 = .ok (.newarray .int, 2) := by decide +kernel
theorem qd_g244 : qd_bs cX9_init 9 [181, 0, 9, 177] = true := by decide +kernel
theorem dX9_init_9 : decode cX9_init 9 = .ok (.putfield 9, 3) := qd_o181 9 0 qd_g244 rfl rfl
theorem dX9_init_12 : decode cX9_init 12 = .ok (.return_, 1) := qd_o177 9 3 qd_g244 rfl
theorem qd_g245 : qd_bs cX9_become 0 [43, 180, 0, 9, 3, 42, 180, 0, 9, 3, 16, 40, 184, 0, 15, 42, 43, 180, 0, 21, 181, 0, 21, 42, 43, 180, 0, 25, 181, 0, 25, 42, 43, 180, 0, 28, 181, 0, 28, 42] = true := by decide +kernel
theorem dX9_become_0 : decode cX9_become 0 = .ok (.aload_n 1, 1) := qd_o43 0 0 qd_g245 rfl
theorem dX9_become_1 : decode cX9_become 1 = .ok (.getfield 9, 3) := qd_o180 0 1 qd_g245 rfl rfl
theorem dX9_become_4 : decode cX9_become 4 = .ok (.iconst 0, 1) := qd_o3 0 4 qd_g245 rfl
theorem dX9_become_5 : decode cX9_become 5 = .ok (.aload_n 0, 1) := qd_o42 0 5 qd_g245 rfl
theorem dX9_become_6 : decode cX9_become 6 = .ok (.getfield 9, 3) := qd_o180 0 6 qd_g245 rfl rfl
theorem dX9_become_9 : decode cX9_become 9 = .ok (.iconst 0, 1) := qd_o3 0 9 qd_g245 rfl
theorem dX9_become_10 : decode cX9_become 10 = .ok (.bipush 40, 2) := qd_o16 0 10 qd_g245 rfl rfl
theorem dX9_become_12 : decode cX9_become 12 = .ok (.invokestatic 15, 3) := qd_o184 0 12 qd_g245 rfl rfl
theorem dX9_become_15 : decode cX9_become 15 = .ok (.aload_n 0, 1) := qd_o42 0 15 qd_g245 rfl
theorem dX9_become_16 : decode cX9_become 16 = .ok (.aload_n 1, 1) := qd_o43 0 16 qd_g245 rfl
theorem dX9_become_17 : decode cX9_become 17 = .ok (.getfield 21, 3) := qd_o180 0 17 qd_g245 rfl rfl
theorem dX9_become_20 : decode cX9_become 20 = .ok (.putfield 21, 3) := qd_o181 0 20 qd_g245 rfl rfl
theorem dX9_become_23 : decode cX9_become 23 = .ok (.aload_n 0, 1) := qd_o42 0 23 qd_g245 rfl
theorem dX9_become_24 : decode cX9_become 24 = .ok (.aload_n 1, 1) := qd_o43 0 24 qd_g245 rfl
theorem dX9_become_25 : decode cX9_become 25 = .ok (.getfield 25, 3) := qd_o180 0 25 qd_g245 rfl rfl
theorem dX9_become_28 : decode cX9_become 28 = .ok (.putfield 25, 3) := qd_o181 0 28 qd_g245 rfl rfl
theorem dX9_become_31 : decode cX9_become 31 = .ok (.aload_n 0, 1) := qd_o42 0 31 qd_g245 rfl
theorem dX9_become_32 : decode cX9_become 32 = .ok (.aload_n 1, 1) := qd_o43 0 32 qd_g245 rfl
theorem dX9_become_33 : decode cX9_become 33 = .ok (.getfield 28, 3) := qd_o180 0 33 qd_g245 rfl rfl
theorem dX9_become_36 : decode cX9_become 36 = .ok (.putfield 28, 3) := qd_o181 0 36 qd_g245 rfl rfl
theorem dX9_become_39 : decode cX9_become 39 = .ok (.aload_n 0, 1) := qd_o42 0 39 qd_g245 rfl
theorem qd_g246 : qd_bs cX9_become 40 [43, 180, 0, 31, 181, 0, 31, 177] = true := by decide +kernel
theorem dX9_become_40 : decode cX9_become 40 = .ok (.aload_n 1, 1) := qd_o43 40 0 qd_g246 rfl
theorem dX9_become_41 : decode cX9_become 41 = .ok (.getfield 31, 3) := qd_o180 40 1 qd_g246 rfl rfl
theorem dX9_become_44 : decode cX9_become 44 = .ok (.putfield 31, 3) := qd_o181 40 4 qd_g246 rfl rfl
theorem dX9_become_47 : decode cX9_become 47 = .ok (.return_, 1) := qd_o177 40 7 qd_g246 rfl
theorem qd_g247 : qd_bs cX9_add 0 [42, 180, 0, 21, 155, 0, 32, 42, 180, 0, 21, 16, 40, 162, 0, 23, 42, 180, 0, 9, 42, 180, 0, 21, 27, 79, 42, 89, 180, 0, 21, 4, 96, 181, 0, 21, 42, 180, 0, 21] = true := by decide +kernel
theorem dX9_add_0 : decode cX9_add 0 = .ok (.aload_n 0, 1) := qd_o42 0 0 qd_g247 rfl
theorem dX9_add_1 : decode cX9_add 1 = .ok (.getfield 21, 3) := qd_o180 0 1 qd_g247 rfl rfl
theorem dX9_add_4 : decode cX9_add 4 = .ok (.ifCond .lt 32, 3) := qd_o155 0 4 qd_g247 rfl rfl
theorem dX9_add_7 : decode cX9_add 7 = .ok (.aload_n 0, 1) := qd_o42 0 7 qd_g247 rfl
theorem dX9_add_8 : decode cX9_add 8 = .ok (.getfield 21, 3) := qd_o180 0 8 qd_g247 rfl rfl
theorem dX9_add_11 : decode cX9_add 11 = .ok (.bipush 40, 2) := qd_o16 0 11 qd_g247 rfl rfl
theorem dX9_add_13 : decode cX9_add 13 = .ok (.if_icmp .ge 23, 3) := qd_o162 0 13 qd_g247 rfl rfl
theorem dX9_add_16 : decode cX9_add 16 = .ok (.aload_n 0, 1) := qd_o42 0 16 qd_g247 rfl
theorem dX9_add_17 : decode cX9_add 17 = .ok (.getfield 9, 3) := qd_o180 0 17 qd_g247 rfl rfl
theorem dX9_add_20 : decode cX9_add 20 = .ok (.aload_n 0, 1) := qd_o42 0 20 qd_g247 rfl
theorem dX9_add_21 : decode cX9_add 21 = .ok (.getfield 21, 3) := qd_o180 0 21 qd_g247 rfl rfl
theorem dX9_add_24 : decode cX9_add 24 = .ok (.iload_n 1, 1) := qd_o27 0 24 qd_g247 rfl
theorem dX9_add_25 : decode cX9_add 25 = .ok (.iastore, 1) := qd_o79 0 25 qd_g247 rfl
theorem dX9_add_26 : decode cX9_add 26 = .ok (.aload_n 0, 1) := qd_o42 0 26 qd_g247 rfl
theorem dX9_add_27 : decode cX9_add 27 = .ok (.dup, 1) := qd_o89 0 27 qd_g247 rfl
theorem dX9_add_28 : decode cX9_add 28 = .ok (.getfield 21, 3) := qd_o180 0 28 qd_g247 rfl rfl
theorem dX9_add_31 : decode cX9_add 31 = .ok (.iconst 1, 1) := qd_o4 0 31 qd_g247 rfl
theorem dX9_add_32 : decode cX9_add 32 = .ok (.iadd, 1) := qd_o96 0 32 qd_g247 rfl
theorem dX9_add_33 : decode cX9_add 33 = .ok (.putfield 21, 3) := qd_o181 0 33 qd_g247 rfl rfl
theorem dX9_add_36 : decode cX9_add 36 = .ok (.aload_n 0, 1) := qd_o42 0 36 qd_g247 rfl
theorem dX9_add_37 : decode cX9_add 37 = .ok (.getfield 21, 3) := qd_o180 0 37 qd_g247 rfl rfl
theorem qd_g248 : qd_bs cX9_add 40 [172] = true := by decide +kernel
theorem dX9_add_40 : decode cX9_add 40 = .ok (.ireturn, 1) := qd_o172 40 0 qd_g248 rfl
theorem qd_g249 : qd_bs cX9_windBack 0 [42, 180, 0, 25, 60, 42, 3, 181, 0, 25, 42, 3, 181, 0, 28, 27, 172] = true := by decide +kernel
theorem dX9_windBack_0 : decode cX9_windBack 0 = .ok (.aload_n 0, 1) := qd_o42 0 0 qd_g249 rfl
theorem dX9_windBack_1 : decode cX9_windBack 1 = .ok (.getfield 25, 3) := qd_o180 0 1 qd_g249 rfl rfl
theorem dX9_windBack_4 : decode cX9_windBack 4 = .ok (.istore_n 1, 1) := qd_o60 0 4 qd_g249 rfl
theorem dX9_windBack_5 : decode cX9_windBack 5 = .ok (.aload_n 0, 1) := qd_o42 0 5 qd_g249 rfl
theorem dX9_windBack_6 : decode cX9_windBack 6 = .ok (.iconst 0, 1) := qd_o3 0 6 qd_g249 rfl
theorem dX9_windBack_7 : decode cX9_windBack 7 = .ok (.putfield 25, 3) := qd_o181 0 7 qd_g249 rfl rfl
theorem dX9_windBack_10 : decode cX9_windBack 10 = .ok (.aload_n 0, 1) := qd_o42 0 10 qd_g249 rfl
theorem dX9_windBack_11 : decode cX9_windBack 11 = .ok (.iconst 0, 1) := qd_o3 0 11 qd_g249 rfl
theorem dX9_windBack_12 : decode cX9_windBack 12 = .ok (.putfield 28, 3) := qd_o181 0 12 qd_g249 rfl rfl
theorem dX9_windBack_15 : decode cX9_windBack 15 = .ok (.iload_n 1, 1) := qd_o27 0 15 qd_g249 rfl
theorem dX9_windBack_16 : decode cX9_windBack 16 = .ok (.ireturn, 1) := qd_o172 0 16 qd_g249 rfl
theorem qd_g250 : qd_bs cX9_isPulseOver 0 [42, 180, 0, 25, 155, 0, 23, 42, 180, 0, 25, 42, 180, 0, 21, 162, 0, 12, 42, 180, 0, 25, 16, 40, 161, 0, 5, 3, 172, 42, 89, 180, 0, 28, 4, 96, 181, 0, 28, 42] = true := by decide +kernel
theorem dX9_isPulseOver_0 : decode cX9_isPulseOver 0 = .ok (.aload_n 0, 1) := qd_o42 0 0 qd_g250 rfl
theorem dX9_isPulseOver_1 : decode cX9_isPulseOver 1 = .ok (.getfield 25, 3) := qd_o180 0 1 qd_g250 rfl rfl
theorem dX9_isPulseOver_4 : decode cX9_isPulseOver 4 = .ok (.ifCond .lt 23, 3) := qd_o155 0 4 qd_g250 rfl rfl
theorem dX9_isPulseOver_7 : decode cX9_isPulseOver 7 = .ok (.aload_n 0, 1) := qd_o42 0 7 qd_g250 rfl
theorem dX9_isPulseOver_8 : decode cX9_isPulseOver 8 = .ok (.getfield 25, 3) := qd_o180 0 8 qd_g250 rfl rfl
theorem dX9_isPulseOver_11 : decode cX9_isPulseOver 11 = .ok (.aload_n 0, 1) := qd_o42 0 11 qd_g250 rfl
theorem dX9_isPulseOver_12 : decode cX9_isPulseOver 12 = .ok (.getfield 21, 3) := qd_o180 0 12 qd_g250 rfl rfl
theorem dX9_isPulseOver_15 : decode cX9_isPulseOver 15 = .ok (.if_icmp .ge 12, 3) := qd_o162 0 15 qd_g250 rfl rfl
theorem dX9_isPulseOver_18 : decode cX9_isPulseOver 18 = .ok (.aload_n 0, 1) := qd_o42 0 18 qd_g250 rfl
theorem dX9_isPulseOver_19 : decode cX9_isPulseOver 19 = .ok (.getfield 25, 3) := qd_o180 0 19 qd_g250 rfl rfl
theorem dX9_isPulseOver_22 : decode cX9_isPulseOver 22 = .ok (.bipush 40, 2) := qd_o16 0 22 qd_g250 rfl rfl
theorem dX9_isPulseOver_24 : decode cX9_isPulseOver 24 = .ok (.if_icmp .lt 5, 3) := qd_o161 0 24 qd_g250 rfl rfl
theorem dX9_isPulseOver_27 : decode cX9_isPulseOver 27 = .ok (.iconst 0, 1) := qd_o3 0 27 qd_g250 rfl
theorem dX9_isPulseOver_28 : decode cX9_isPulseOver 28 = .ok (.ireturn, 1) := qd_o172 0 28 qd_g250 rfl
theorem dX9_isPulseOver_29 : decode cX9_isPulseOver 29 = .ok (.aload_n 0, 1) := qd_o42 0 29 qd_g250 rfl
theorem dX9_isPulseOver_30 : decode cX9_isPulseOver 30 = .ok (.dup, 1) := qd_o89 0 30 qd_g250 rfl
theorem dX9_isPulseOver_31 : decode cX9_isPulseOver 31 = .ok (.getfield 28, 3) := qd_o180 0 31 qd_g250 rfl rfl
theorem dX9_isPulseOver_34 : decode cX9_isPulseOver 34 = .ok (.iconst 1, 1) := qd_o4 0 34 qd_g250 rfl
theorem dX9_isPulseOver_35 : decode cX9_isPulseOver 35 = .ok (.iadd, 1) := qd_o96 0 35 qd_g250 rfl
theorem dX9_isPulseOver_36 : decode cX9_isPulseOver 36 = .ok (.putfield 28, 3) := qd_o181 0 36 qd_g250 rfl rfl
theorem dX9_isPulseOver_39 : decode cX9_isPulseOver 39 = .ok (.aload_n 0, 1) := qd_o42 0 39 qd_g250 rfl
theorem qd_g251 : qd_bs cX9_isPulseOver 40 [180, 0, 28, 42, 180, 0, 9, 42, 180, 0, 25, 46, 162, 0, 5, 3, 172, 42, 3, 181, 0, 28, 42, 89, 180, 0, 25, 4, 96, 181, 0, 25, 42, 4, 42, 180, 0, 31, 100] = true := by decide +kernel
theorem dX9_isPulseOver_40 : decode cX9_isPulseOver 40 = .ok (.getfield 28, 3) := qd_o180 40 0 qd_g251 rfl rfl
theorem dX9_isPulseOver_43 : decode cX9_isPulseOver 43 = .ok (.aload_n 0, 1) := qd_o42 40 3 qd_g251 rfl
theorem dX9_isPulseOver_44 : decode cX9_isPulseOver 44 = .ok (.getfield 9, 3) := qd_o180 40 4 qd_g251 rfl rfl
theorem dX9_isPulseOver_47 : decode cX9_isPulseOver 47 = .ok (.aload_n 0, 1) := qd_o42 40 7 qd_g251 rfl
theorem dX9_isPulseOver_48 : decode cX9_isPulseOver 48 = .ok (.getfield 25, 3) := qd_o180 40 8 qd_g251 rfl rfl
theorem dX9_isPulseOver_51 : decode cX9_isPulseOver 51 = .ok (.iaload, 1) := qd_o46 40 11 qd_g251 rfl
theorem dX9_isPulseOver_52 : decode cX9_isPulseOver 52 = .ok (.if_icmp .ge 5, 3) := qd_o162 40 12 qd_g251 rfl rfl
theorem dX9_isPulseOver_55 : decode cX9_isPulseOver 55 = .ok (.iconst 0, 1) := qd_o3 40 15 qd_g251 rfl
theorem dX9_isPulseOver_56 : decode cX9_isPulseOver 56 = .ok (.ireturn, 1) := qd_o172 40 16 qd_g251 rfl
theorem dX9_isPulseOver_57 : decode cX9_isPulseOver 57 = .ok (.aload_n 0, 1) := qd_o42 40 17 qd_g251 rfl
theorem dX9_isPulseOver_58 : decode cX9_isPulseOver 58 = .ok (.iconst 0, 1) := qd_o3 40 18 qd_g251 rfl
theorem dX9_isPulseOver_59 : decode cX9_isPulseOver 59 = .ok (.putfield 28, 3) := qd_o181 40 19 qd_g251 rfl rfl
theorem dX9_isPulseOver_62 : decode cX9_isPulseOver 62 = .ok (.aload_n 0, 1) := qd_o42 40 22 qd_g251 rfl
theorem dX9_isPulseOver_63 : decode cX9_isPulseOver 63 = .ok (.dup, 1) := qd_o89 40 23 qd_g251 rfl
theorem dX9_isPulseOver_64 : decode cX9_isPulseOver 64 = .ok (.getfield 25, 3) := qd_o180 40 24 qd_g251 rfl rfl
theorem dX9_isPulseOver_67 : decode cX9_isPulseOver 67 = .ok (.iconst 1, 1) := qd_o4 40 27 qd_g251 rfl
theorem dX9_isPulseOver_68 : decode cX9_isPulseOver 68 = .ok (.iadd, 1) := qd_o96 40 28 qd_g251 rfl
theorem dX9_isPulseOver_69 : decode cX9_isPulseOver 69 = .ok (.putfield 25, 3) := qd_o181 40 29 qd_g251 rfl rfl
theorem dX9_isPulseOver_72 : decode cX9_isPulseOver 72 = .ok (.aload_n 0, 1) := qd_o42 40 32 qd_g251 rfl
theorem dX9_isPulseOver_73 : decode cX9_isPulseOver 73 = .ok (.iconst 1, 1) := qd_o4 40 33 qd_g251 rfl
theorem dX9_isPulseOver_74 : decode cX9_isPulseOver 74 = .ok (.aload_n 0, 1) := qd_o42 40 34 qd_g251 rfl
theorem dX9_isPulseOver_75 : decode cX9_isPulseOver 75 = .ok (.getfield 31, 3) := qd_o180 40 35 qd_g251 rfl rfl
theorem dX9_isPulseOver_78 : decode cX9_isPulseOver 78 = .ok (.isub, 1) := qd_o100 40 38 qd_g251 rfl
theorem qd_g252 : qd_bs cX9_isPulseOver 79 [181, 0, 31, 4, 172] = true := by decide +kernel
theorem dX9_isPulseOver_79 : decode cX9_isPulseOver 79 = .ok (.putfield 31, 3) := qd_o181 79 0 qd_g252 rfl rfl
theorem dX9_isPulseOver_82 : decode cX9_isPulseOver 82 = .ok (.iconst 1, 1) := qd_o4 79 3 qd_g252 rfl
theorem dX9_isPulseOver_83 : decode cX9_isPulseOver 83 = .ok (.ireturn, 1) := qd_o172 79 4 qd_g252 rfl
theorem qd_g253 : qd_bs cX10_init 0 [42, 183, 0, 3, 42, 6] = true := by decide +kernel
theorem dX10_init_0 : decode cX10_init 0 = .ok (.aload_n 0, 1) := qd_o42 0 0 qd_g253 rfl
theorem dX10_init_1 : decode cX10_init 1 = .ok (.invokespecial 3, 3) := qd_o183 0 1 qd_g253 rfl rfl
theorem dX10_init_4 : decode cX10_init 4 = .ok (.aload_n 0, 1) := qd_o42 0 4 qd_g253 rfl
theorem dX10_init_5 : decode cX10_init 5 = .ok (.iconst 3, 1) := qd_o6 0 5 qd_g253 rfl
theorem dX10_init_6 : decode cX10_init 6 = .ok (.newarray .int, 2) := by decide +kernel
theorem qd_g254 : qd_bs cX10_init 8 [181, 0, 11, 42, 6] = true := by decide +kernel
theorem dX10_init_8 : decode cX10_init 8 = .ok (.putfield 11, 3) := qd_o181 8 0 qd_g254 rfl rfl
theorem dX10_init_11 : decode cX10_init 11 = .ok (.aload_n 0, 1) := qd_o42 8 3 qd_g254 rfl
theorem dX10_init_12 : decode cX10_init 12 = .ok (.iconst 3, 1) := qd_o6 8 4 qd_g254 rfl
theorem dX10_init_13 : decode cX10_init 13 = .ok (.newarray .int, 2) := by decide +kernel
theorem qd_g255 : qd_bs cX10_init 15 [181, 0, 15, 42, 6] = true := by decide +kernel
theorem dX10_init_15 : decode cX10_init 15 = .ok (.putfield 15, 3) := qd_o181 15 0 qd_g255 rfl rfl
theorem dX10_init_18 : decode cX10_init 18 = .ok (.aload_n 0, 1) := qd_o42 15 3 qd_g255 rfl
theorem dX10_init_19 : decode cX10_init 19 = .ok (.iconst 3, 1) := qd_o6 15 4 qd_g255 rfl
theorem dX10_init_20 : decode cX10_init 20 = .ok (.newarray .int, 2) := by decide +kernel
theorem qd_g256 : qd_bs cX10_init 22 [181, 0, 18, 42, 6] = true := by decide +kernel
theorem dX10_init_22 : decode cX10_init 22 = .ok (.putfield 18, 3) := qd_o181 22 0 qd_g256 rfl rfl
theorem dX10_init_25 : decode cX10_init 25 = .ok (.aload_n 0, 1) := qd_o42 22 3 qd_g256 rfl
theorem dX10_init_26 : decode cX10_init 26 = .ok (.iconst 3, 1) := qd_o6 22 4 qd_g256 rfl
theorem dX10_init_27 : decode cX10_init 27 = .ok (.newarray .int, 2) := by decide +kernel
theorem qd_g257 : qd_bs cX10_init 29 [89, 3, 4, 79, 89, 4, 4, 79, 89, 5, 4, 79, 181, 0, 21, 42, 16, 40] = true := by decide +kernel
theorem dX10_init_29 : decode cX10_init 29 = .ok (.dup, 1) := qd_o89 29 0 qd_g257 rfl
theorem dX10_init_30 : decode cX10_init 30 = .ok (.iconst 0, 1) := qd_o3 29 1 qd_g257 rfl
theorem dX10_init_31 : decode cX10_init 31 = .ok (.iconst 1, 1) := qd_o4 29 2 qd_g257 rfl
theorem dX10_init_32 : decode cX10_init 32 = .ok (.iastore, 1) := qd_o79 29 3 qd_g257 rfl
theorem dX10_init_33 : decode cX10_init 33 = .ok (.dup, 1) := qd_o89 29 4 qd_g257 rfl
theorem dX10_init_34 : decode cX10_init 34 = .ok (.iconst 1, 1) := qd_o4 29 5 qd_g257 rfl
theorem dX10_init_35 : decode cX10_init 35 = .ok (.iconst 1, 1) := qd_o4 29 6 qd_g257 rfl
theorem dX10_init_36 : decode cX10_init 36 = .ok (.iastore, 1) := qd_o79 29 7 qd_g257 rfl
theorem dX10_init_37 : decode cX10_init 37 = .ok (.dup, 1) := qd_o89 29 8 qd_g257 rfl
theorem dX10_init_38 : decode cX10_init 38 = .ok (.iconst 2, 1) := qd_o5 29 9 qd_g257 rfl
theorem dX10_init_39 : decode cX10_init 39 = .ok (.iconst 1, 1) := qd_o4 29 10 qd_g257 rfl
theorem dX10_init_40 : decode cX10_init 40 = .ok (.iastore, 1) := qd_o79 29 11 qd_g257 rfl
theorem dX10_init_41 : decode cX10_init 41 = .ok (.putfield 21, 3) := qd_o181 29 12 qd_g257 rfl rfl
theorem dX10_init_44 : decode cX10_init 44 = .ok (.aload_n 0, 1) := qd_o42 29 15 qd_g257 rfl
theorem dX10_init_45 : decode cX10_init 45 = .ok (.bipush 40, 2) := qd_o16 29 16 qd_g257 rfl rfl
theorem dX10_init_47 : decode cX10_init 47 = .ok (.newarray .int, 2) := by decide +kernel
theorem qd_g258 : qd_bs cX10_init 49 [181, 0, 24, 177] = true := by decide +kernel
theorem dX10_init_49 : decode cX10_init 49 = .ok (.putfield 24, 3) := qd_o181 49 0 qd_g258 rfl rfl
theorem dX10_init_52 : decode cX10_init 52 = .ok (.return_, 1) := qd_o177 49 3 qd_g258 rfl
theorem qd_g259 : qd_bs cX10_become 0 [43, 180, 0, 11, 3, 42, 180, 0, 11, 3, 6, 184, 0, 27, 43, 180, 0, 15, 3, 42, 180, 0, 15, 3, 6, 184, 0, 27, 43, 180, 0, 18, 3, 42, 180, 0, 18, 3, 6] = true := by decide +kernel
theorem dX10_become_0 : decode cX10_become 0 = .ok (.aload_n 1, 1) := qd_o43 0 0 qd_g259 rfl
theorem dX10_become_1 : decode cX10_become 1 = .ok (.getfield 11, 3) := qd_o180 0 1 qd_g259 rfl rfl
theorem dX10_become_4 : decode cX10_become 4 = .ok (.iconst 0, 1) := qd_o3 0 4 qd_g259 rfl
theorem dX10_become_5 : decode cX10_become 5 = .ok (.aload_n 0, 1) := qd_o42 0 5 qd_g259 rfl
theorem dX10_become_6 : decode cX10_become 6 = .ok (.getfield 11, 3) := qd_o180 0 6 qd_g259 rfl rfl
theorem dX10_become_9 : decode cX10_become 9 = .ok (.iconst 0, 1) := qd_o3 0 9 qd_g259 rfl
theorem dX10_become_10 : decode cX10_become 10 = .ok (.iconst 3, 1) := qd_o6 0 10 qd_g259 rfl
theorem dX10_become_11 : decode cX10_become 11 = .ok (.invokestatic 27, 3) := qd_o184 0 11 qd_g259 rfl rfl
theorem dX10_become_14 : decode cX10_become 14 = .ok (.aload_n 1, 1) := qd_o43 0 14 qd_g259 rfl
theorem dX10_become_15 : decode cX10_become 15 = .ok (.getfield 15, 3) := qd_o180 0 15 qd_g259 rfl rfl
theorem dX10_become_18 : decode cX10_become 18 = .ok (.iconst 0, 1) := qd_o3 0 18 qd_g259 rfl
theorem dX10_become_19 : decode cX10_become 19 = .ok (.aload_n 0, 1) := qd_o42 0 19 qd_g259 rfl
theorem dX10_become_20 : decode cX10_become 20 = .ok (.getfield 15, 3) := qd_o180 0 20 qd_g259 rfl rfl
theorem dX10_become_23 : decode cX10_become 23 = .ok (.iconst 0, 1) := qd_o3 0 23 qd_g259 rfl
theorem dX10_become_24 : decode cX10_become 24 = .ok (.iconst 3, 1) := qd_o6 0 24 qd_g259 rfl
theorem dX10_become_25 : decode cX10_become 25 = .ok (.invokestatic 27, 3) := qd_o184 0 25 qd_g259 rfl rfl
theorem dX10_become_28 : decode cX10_become 28 = .ok (.aload_n 1, 1) := qd_o43 0 28 qd_g259 rfl
theorem dX10_become_29 : decode cX10_become 29 = .ok (.getfield 18, 3) := qd_o180 0 29 qd_g259 rfl rfl
theorem dX10_become_32 : decode cX10_become 32 = .ok (.iconst 0, 1) := qd_o3 0 32 qd_g259 rfl
theorem dX10_become_33 : decode cX10_become 33 = .ok (.aload_n 0, 1) := qd_o42 0 33 qd_g259 rfl
theorem dX10_become_34 : decode cX10_become 34 = .ok (.getfield 18, 3) := qd_o180 0 34 qd_g259 rfl rfl
theorem dX10_become_37 : decode cX10_become 37 = .ok (.iconst 0, 1) := qd_o3 0 37 qd_g259 rfl
theorem dX10_become_38 : decode cX10_become 38 = .ok (.iconst 3, 1) := qd_o6 0 38 qd_g259 rfl
theorem qd_g260 : qd_bs cX10_become 39 [184, 0, 27, 43, 180, 0, 21, 3, 42, 180, 0, 21, 3, 6, 184, 0, 27, 43, 180, 0, 24, 3, 42, 180, 0, 24, 3, 16, 40, 184, 0, 27, 177] = true := by decide +kernel
theorem dX10_become_39 : decode cX10_become 39 = .ok (.invokestatic 27, 3) := qd_o184 39 0 qd_g260 rfl rfl
theorem dX10_become_42 : decode cX10_become 42 = .ok (.aload_n 1, 1) := qd_o43 39 3 qd_g260 rfl
theorem dX10_become_43 : decode cX10_become 43 = .ok (.getfield 21, 3) := qd_o180 39 4 qd_g260 rfl rfl
theorem dX10_become_46 : decode cX10_become 46 = .ok (.iconst 0, 1) := qd_o3 39 7 qd_g260 rfl
theorem dX10_become_47 : decode cX10_become 47 = .ok (.aload_n 0, 1) := qd_o42 39 8 qd_g260 rfl
theorem dX10_become_48 : decode cX10_become 48 = .ok (.getfield 21, 3) := qd_o180 39 9 qd_g260 rfl rfl
theorem dX10_become_51 : decode cX10_become 51 = .ok (.iconst 0, 1) := qd_o3 39 12 qd_g260 rfl
theorem dX10_become_52 : decode cX10_become 52 = .ok (.iconst 3, 1) := qd_o6 39 13 qd_g260 rfl
theorem dX10_become_53 : decode cX10_become 53 = .ok (.invokestatic 27, 3) := qd_o184 39 14 qd_g260 rfl rfl
theorem dX10_become_56 : decode cX10_become 56 = .ok (.aload_n 1, 1) := qd_o43 39 17 qd_g260 rfl
theorem dX10_become_57 : decode cX10_become 57 = .ok (.getfield 24, 3) := qd_o180 39 18 qd_g260 rfl rfl
theorem dX10_become_60 : decode cX10_become 60 = .ok (.iconst 0, 1) := qd_o3 39 21 qd_g260 rfl
theorem dX10_become_61 : decode cX10_become 61 = .ok (.aload_n 0, 1) := qd_o42 39 22 qd_g260 rfl
theorem dX10_become_62 : decode cX10_become 62 = .ok (.getfield 24, 3) := qd_o180 39 23 qd_g260 rfl rfl
theorem dX10_become_65 : decode cX10_become 65 = .ok (.iconst 0, 1) := qd_o3 39 26 qd_g260 rfl
theorem dX10_become_66 : decode cX10_become 66 = .ok (.bipush 40, 2) := qd_o16 39 27 qd_g260 rfl rfl
theorem dX10_become_68 : decode cX10_become 68 = .ok (.invokestatic 27, 3) := qd_o184 39 29 qd_g260 rfl rfl
theorem dX10_become_71 : decode cX10_become 71 = .ok (.return_, 1) := qd_o177 39 32 qd_g260 rfl
theorem qd_g261 : qd_bs cX10_isLike 0 [3, 61, 28, 16, 40, 162, 0, 26, 42, 180, 0, 24, 28, 46, 43, 180, 0, 24, 28, 46, 159, 0, 5, 3, 172, 132, 2, 1, 167, 255, 230, 4, 172] = true := by decide +kernel
theorem dX10_isLike_0 : decode cX10_isLike 0 = .ok (.iconst 0, 1) := qd_o3 0 0 qd_g261 rfl
theorem dX10_isLike_1 : decode cX10_isLike 1 = .ok (.istore_n 2, 1) := qd_o61 0 1 qd_g261 rfl
theorem dX10_isLike_2 : decode cX10_isLike 2 = .ok (.iload_n 2, 1) := qd_o28 0 2 qd_g261 rfl
theorem dX10_isLike_3 : decode cX10_isLike 3 = .ok (.bipush 40, 2) := qd_o16 0 3 qd_g261 rfl rfl
theorem dX10_isLike_5 : decode cX10_isLike 5 = .ok (.if_icmp .ge 26, 3) := qd_o162 0 5 qd_g261 rfl rfl
theorem dX10_isLike_8 : decode cX10_isLike 8 = .ok (.aload_n 0, 1) := qd_o42 0 8 qd_g261 rfl
theorem dX10_isLike_9 : decode cX10_isLike 9 = .ok (.getfield 24, 3) := qd_o180 0 9 qd_g261 rfl rfl
theorem dX10_isLike_12 : decode cX10_isLike 12 = .ok (.iload_n 2, 1) := qd_o28 0 12 qd_g261 rfl
theorem dX10_isLike_13 : decode cX10_isLike 13 = .ok (.iaload, 1) := qd_o46 0 13 qd_g261 rfl
theorem dX10_isLike_14 : decode cX10_isLike 14 = .ok (.aload_n 1, 1) := qd_o43 0 14 qd_g261 rfl
theorem dX10_isLike_15 : decode cX10_isLike 15 = .ok (.getfield 24, 3) := qd_o180 0 15 qd_g261 rfl rfl
theorem dX10_isLike_18 : decode cX10_isLike 18 = .ok (.iload_n 2, 1) := qd_o28 0 18 qd_g261 rfl
theorem dX10_isLike_19 : decode cX10_isLike 19 = .ok (.iaload, 1) := qd_o46 0 19 qd_g261 rfl
theorem dX10_isLike_20 : decode cX10_isLike 20 = .ok (.if_icmp .eq 5, 3) := qd_o159 0 20 qd_g261 rfl rfl
theorem dX10_isLike_23 : decode cX10_isLike 23 = .ok (.iconst 0, 1) := qd_o3 0 23 qd_g261 rfl
theorem dX10_isLike_24 : decode cX10_isLike 24 = .ok (.ireturn, 1) := qd_o172 0 24 qd_g261 rfl
theorem dX10_isLike_25 : decode cX10_isLike 25 = .ok (.iinc 2 1, 3) := qd_o132 0 25 qd_g261 rfl rfl
theorem dX10_isLike_28 : decode cX10_isLike 28 = .ok (.goto (-26), 3) := qd_o167 0 28 qd_g261 rfl rfl
theorem dX10_isLike_31 : decode cX10_isLike 31 = .ok (.iconst 1, 1) := qd_o4 0 31 qd_g261 rfl
theorem dX10_isLike_32 : decode cX10_isLike 32 = .ok (.ireturn, 1) := qd_o172 0 32 qd_g261 rfl
theorem qd_g262 : qd_bs cX10_sound 0 [43, 190, 16, 48, 161, 0, 13, 28, 155, 0, 9, 28, 16, 40, 161, 0, 4, 177, 3, 62, 29, 6, 162, 0, 65, 16, 32, 7, 29, 104, 96, 54, 4, 42, 29, 43, 21, 4, 46] = true := by decide +kernel
theorem dX10_sound_0 : decode cX10_sound 0 = .ok (.aload_n 1, 1) := qd_o43 0 0 qd_g262 rfl
theorem dX10_sound_1 : decode cX10_sound 1 = .ok (.arraylength, 1) := qd_o190 0 1 qd_g262 rfl
theorem dX10_sound_2 : decode cX10_sound 2 = .ok (.bipush 48, 2) := qd_o16 0 2 qd_g262 rfl rfl
theorem dX10_sound_4 : decode cX10_sound 4 = .ok (.if_icmp .lt 13, 3) := qd_o161 0 4 qd_g262 rfl rfl
theorem dX10_sound_7 : decode cX10_sound 7 = .ok (.iload_n 2, 1) := qd_o28 0 7 qd_g262 rfl
theorem dX10_sound_8 : decode cX10_sound 8 = .ok (.ifCond .lt 9, 3) := qd_o155 0 8 qd_g262 rfl rfl
theorem dX10_sound_11 : decode cX10_sound 11 = .ok (.iload_n 2, 1) := qd_o28 0 11 qd_g262 rfl
theorem dX10_sound_12 : decode cX10_sound 12 = .ok (.bipush 40, 2) := qd_o16 0 12 qd_g262 rfl rfl
theorem dX10_sound_14 : decode cX10_sound 14 = .ok (.if_icmp .lt 4, 3) := qd_o161 0 14 qd_g262 rfl rfl
theorem dX10_sound_17 : decode cX10_sound 17 = .ok (.return_, 1) := qd_o177 0 17 qd_g262 rfl
theorem dX10_sound_18 : decode cX10_sound 18 = .ok (.iconst 0, 1) := qd_o3 0 18 qd_g262 rfl
theorem dX10_sound_19 : decode cX10_sound 19 = .ok (.istore_n 3, 1) := qd_o62 0 19 qd_g262 rfl
theorem dX10_sound_20 : decode cX10_sound 20 = .ok (.iload_n 3, 1) := qd_o29 0 20 qd_g262 rfl
theorem dX10_sound_21 : decode cX10_sound 21 = .ok (.iconst 3, 1) := qd_o6 0 21 qd_g262 rfl
theorem dX10_sound_22 : decode cX10_sound 22 = .ok (.if_icmp .ge 65, 3) := qd_o162 0 22 qd_g262 rfl rfl
theorem dX10_sound_25 : decode cX10_sound 25 = .ok (.bipush 32, 2) := qd_o16 0 25 qd_g262 rfl rfl
theorem dX10_sound_27 : decode cX10_sound 27 = .ok (.iconst 4, 1) := qd_o7 0 27 qd_g262 rfl
theorem dX10_sound_28 : decode cX10_sound 28 = .ok (.iload_n 3, 1) := qd_o29 0 28 qd_g262 rfl
theorem dX10_sound_29 : decode cX10_sound 29 = .ok (.imul, 1) := qd_o104 0 29 qd_g262 rfl
theorem dX10_sound_30 : decode cX10_sound 30 = .ok (.iadd, 1) := qd_o96 0 30 qd_g262 rfl
theorem dX10_sound_31 : decode cX10_sound 31 = .ok (.istore 4, 2) := qd_o54 0 31 qd_g262 rfl rfl
theorem dX10_sound_33 : decode cX10_sound 33 = .ok (.aload_n 0, 1) := qd_o42 0 33 qd_g262 rfl
theorem dX10_sound_34 : decode cX10_sound 34 = .ok (.iload_n 3, 1) := qd_o29 0 34 qd_g262 rfl
theorem dX10_sound_35 : decode cX10_sound 35 = .ok (.aload_n 1, 1) := qd_o43 0 35 qd_g262 rfl
theorem dX10_sound_36 : decode cX10_sound 36 = .ok (.iload 4, 2) := qd_o21 0 36 qd_g262 rfl rfl
theorem dX10_sound_38 : decode cX10_sound 38 = .ok (.iaload, 1) := qd_o46 0 38 qd_g262 rfl
theorem qd_g263 : qd_bs cX10_sound 39 [17, 1, 0, 43, 21, 4, 4, 96, 46, 104, 96, 182, 0, 33, 42, 29, 43, 21, 4, 5, 96, 46, 4, 126, 4, 160, 0, 7, 4, 167, 0, 4, 3, 43, 21, 4, 6, 96, 46] = true := by decide +kernel
theorem dX10_sound_39 : decode cX10_sound 39 = .ok (.sipush 256, 3) := qd_o17 39 0 qd_g263 rfl rfl
theorem dX10_sound_42 : decode cX10_sound 42 = .ok (.aload_n 1, 1) := qd_o43 39 3 qd_g263 rfl
theorem dX10_sound_43 : decode cX10_sound 43 = .ok (.iload 4, 2) := qd_o21 39 4 qd_g263 rfl rfl
theorem dX10_sound_45 : decode cX10_sound 45 = .ok (.iconst 1, 1) := qd_o4 39 6 qd_g263 rfl
theorem dX10_sound_46 : decode cX10_sound 46 = .ok (.iadd, 1) := qd_o96 39 7 qd_g263 rfl
theorem dX10_sound_47 : decode cX10_sound 47 = .ok (.iaload, 1) := qd_o46 39 8 qd_g263 rfl
theorem dX10_sound_48 : decode cX10_sound 48 = .ok (.imul, 1) := qd_o104 39 9 qd_g263 rfl
theorem dX10_sound_49 : decode cX10_sound 49 = .ok (.iadd, 1) := qd_o96 39 10 qd_g263 rfl
theorem dX10_sound_50 : decode cX10_sound 50 = .ok (.invokevirtual 33, 3) := qd_o182 39 11 qd_g263 rfl rfl
theorem dX10_sound_53 : decode cX10_sound 53 = .ok (.aload_n 0, 1) := qd_o42 39 14 qd_g263 rfl
theorem dX10_sound_54 : decode cX10_sound 54 = .ok (.iload_n 3, 1) := qd_o29 39 15 qd_g263 rfl
theorem dX10_sound_55 : decode cX10_sound 55 = .ok (.aload_n 1, 1) := qd_o43 39 16 qd_g263 rfl
theorem dX10_sound_56 : decode cX10_sound 56 = .ok (.iload 4, 2) := qd_o21 39 17 qd_g263 rfl rfl
theorem dX10_sound_58 : decode cX10_sound 58 = .ok (.iconst 2, 1) := qd_o5 39 19 qd_g263 rfl
theorem dX10_sound_59 : decode cX10_sound 59 = .ok (.iadd, 1) := qd_o96 39 20 qd_g263 rfl
theorem dX10_sound_60 : decode cX10_sound 60 = .ok (.iaload, 1) := qd_o46 39 21 qd_g263 rfl
theorem dX10_sound_61 : decode cX10_sound 61 = .ok (.iconst 1, 1) := qd_o4 39 22 qd_g263 rfl
theorem dX10_sound_62 : decode cX10_sound 62 = .ok (.iand, 1) := qd_o126 39 23 qd_g263 rfl
theorem dX10_sound_63 : decode cX10_sound 63 = .ok (.iconst 1, 1) := qd_o4 39 24 qd_g263 rfl
theorem dX10_sound_64 : decode cX10_sound 64 = .ok (.if_icmp .ne 7, 3) := qd_o160 39 25 qd_g263 rfl rfl
theorem dX10_sound_67 : decode cX10_sound 67 = .ok (.iconst 1, 1) := qd_o4 39 28 qd_g263 rfl
theorem dX10_sound_68 : decode cX10_sound 68 = .ok (.goto 4, 3) := qd_o167 39 29 qd_g263 rfl rfl
theorem dX10_sound_71 : decode cX10_sound 71 = .ok (.iconst 0, 1) := qd_o3 39 32 qd_g263 rfl
theorem dX10_sound_72 : decode cX10_sound 72 = .ok (.aload_n 1, 1) := qd_o43 39 33 qd_g263 rfl
theorem dX10_sound_73 : decode cX10_sound 73 = .ok (.iload 4, 2) := qd_o21 39 34 qd_g263 rfl rfl
theorem dX10_sound_75 : decode cX10_sound 75 = .ok (.iconst 3, 1) := qd_o6 39 36 qd_g263 rfl
theorem dX10_sound_76 : decode cX10_sound 76 = .ok (.iadd, 1) := qd_o96 39 37 qd_g263 rfl
theorem dX10_sound_77 : decode cX10_sound 77 = .ok (.iaload, 1) := qd_o46 39 38 qd_g263 rfl
theorem qd_g264 : qd_bs cX10_sound 78 [182, 0, 37, 132, 3, 1, 167, 255, 192, 3, 62, 3, 54, 4, 21, 4, 6, 162, 0, 37, 29, 42, 21, 4, 43, 16, 32, 7, 21, 4, 104, 96, 5, 96, 46, 182, 0, 41, 42] = true := by decide +kernel
theorem dX10_sound_78 : decode cX10_sound 78 = .ok (.invokevirtual 37, 3) := qd_o182 78 0 qd_g264 rfl rfl
theorem dX10_sound_81 : decode cX10_sound 81 = .ok (.iinc 3 1, 3) := qd_o132 78 3 qd_g264 rfl rfl
theorem dX10_sound_84 : decode cX10_sound 84 = .ok (.goto (-64), 3) := qd_o167 78 6 qd_g264 rfl rfl
theorem dX10_sound_87 : decode cX10_sound 87 = .ok (.iconst 0, 1) := qd_o3 78 9 qd_g264 rfl
theorem dX10_sound_88 : decode cX10_sound 88 = .ok (.istore_n 3, 1) := qd_o62 78 10 qd_g264 rfl
theorem dX10_sound_89 : decode cX10_sound 89 = .ok (.iconst 0, 1) := qd_o3 78 11 qd_g264 rfl
theorem dX10_sound_90 : decode cX10_sound 90 = .ok (.istore 4, 2) := qd_o54 78 12 qd_g264 rfl rfl
theorem dX10_sound_92 : decode cX10_sound 92 = .ok (.iload 4, 2) := qd_o21 78 14 qd_g264 rfl rfl
theorem dX10_sound_94 : decode cX10_sound 94 = .ok (.iconst 3, 1) := qd_o6 78 16 qd_g264 rfl
theorem dX10_sound_95 : decode cX10_sound 95 = .ok (.if_icmp .ge 37, 3) := qd_o162 78 17 qd_g264 rfl rfl
theorem dX10_sound_98 : decode cX10_sound 98 = .ok (.iload_n 3, 1) := qd_o29 78 20 qd_g264 rfl
theorem dX10_sound_99 : decode cX10_sound 99 = .ok (.aload_n 0, 1) := qd_o42 78 21 qd_g264 rfl
theorem dX10_sound_100 : decode cX10_sound 100 = .ok (.iload 4, 2) := qd_o21 78 22 qd_g264 rfl rfl
theorem dX10_sound_102 : decode cX10_sound 102 = .ok (.aload_n 1, 1) := qd_o43 78 24 qd_g264 rfl
theorem dX10_sound_103 : decode cX10_sound 103 = .ok (.bipush 32, 2) := qd_o16 78 25 qd_g264 rfl rfl
theorem dX10_sound_105 : decode cX10_sound 105 = .ok (.iconst 4, 1) := qd_o7 78 27 qd_g264 rfl
theorem dX10_sound_106 : decode cX10_sound 106 = .ok (.iload 4, 2) := qd_o21 78 28 qd_g264 rfl rfl
theorem dX10_sound_108 : decode cX10_sound 108 = .ok (.imul, 1) := qd_o104 78 30 qd_g264 rfl
theorem dX10_sound_109 : decode cX10_sound 109 = .ok (.iadd, 1) := qd_o96 78 31 qd_g264 rfl
theorem dX10_sound_110 : decode cX10_sound 110 = .ok (.iconst 2, 1) := qd_o5 78 32 qd_g264 rfl
theorem dX10_sound_111 : decode cX10_sound 111 = .ok (.iadd, 1) := qd_o96 78 33 qd_g264 rfl
theorem dX10_sound_112 : decode cX10_sound 112 = .ok (.iaload, 1) := qd_o46 78 34 qd_g264 rfl
theorem dX10_sound_113 : decode cX10_sound 113 = .ok (.invokevirtual 41, 3) := qd_o182 78 35 qd_g264 rfl rfl
theorem dX10_sound_116 : decode cX10_sound 116 = .ok (.aload_n 0, 1) := qd_o42 78 38 qd_g264 rfl
theorem qd_g265 : qd_bs cX10_sound 117 [180, 0, 15, 21, 4, 46, 104, 96, 62, 132, 4, 1, 167, 255, 219, 42, 180, 0, 24, 28, 29, 16, 15, 108, 79, 177] = true := by decide +kernel
theorem dX10_sound_117 : decode cX10_sound 117 = .ok (.getfield 15, 3) := qd_o180 117 0 qd_g265 rfl rfl
theorem dX10_sound_120 : decode cX10_sound 120 = .ok (.iload 4, 2) := qd_o21 117 3 qd_g265 rfl rfl
theorem dX10_sound_122 : decode cX10_sound 122 = .ok (.iaload, 1) := qd_o46 117 5 qd_g265 rfl
theorem dX10_sound_123 : decode cX10_sound 123 = .ok (.imul, 1) := qd_o104 117 6 qd_g265 rfl
theorem dX10_sound_124 : decode cX10_sound 124 = .ok (.iadd, 1) := qd_o96 117 7 qd_g265 rfl
theorem dX10_sound_125 : decode cX10_sound 125 = .ok (.istore_n 3, 1) := qd_o62 117 8 qd_g265 rfl
theorem dX10_sound_126 : decode cX10_sound 126 = .ok (.iinc 4 1, 3) := qd_o132 117 9 qd_g265 rfl rfl
theorem dX10_sound_129 : decode cX10_sound 129 = .ok (.goto (-37), 3) := qd_o167 117 12 qd_g265 rfl rfl
theorem dX10_sound_132 : decode cX10_sound 132 = .ok (.aload_n 0, 1) := qd_o42 117 15 qd_g265 rfl
theorem dX10_sound_133 : decode cX10_sound 133 = .ok (.getfield 24, 3) := qd_o180 117 16 qd_g265 rfl rfl
theorem dX10_sound_136 : decode cX10_sound 136 = .ok (.iload_n 2, 1) := qd_o28 117 19 qd_g265 rfl
theorem dX10_sound_137 : decode cX10_sound 137 = .ok (.iload_n 3, 1) := qd_o29 117 20 qd_g265 rfl
theorem dX10_sound_138 : decode cX10_sound 138 = .ok (.bipush 15, 2) := qd_o16 117 21 qd_g265 rfl rfl
theorem dX10_sound_140 : decode cX10_sound 140 = .ok (.idiv, 1) := qd_o108 117 23 qd_g265 rfl
theorem dX10_sound_141 : decode cX10_sound 141 = .ok (.iastore, 1) := qd_o79 117 24 qd_g265 rfl
theorem dX10_sound_142 : decode cX10_sound 142 = .ok (.return_, 1) := qd_o177 117 25 qd_g265 rfl
theorem qd_g266 : qd_bs cX10_turn 0 [27, 155, 0, 8, 27, 6, 161, 0, 4, 177, 42, 180, 0, 11, 27, 46, 28, 96, 62, 42, 180, 0, 21, 27, 46, 54, 4, 42, 180, 0, 11, 27, 29, 18, 45, 112, 79, 29, 18, 46] = true := by decide +kernel
theorem dX10_turn_0 : decode cX10_turn 0 = .ok (.iload_n 1, 1) := qd_o27 0 0 qd_g266 rfl
theorem dX10_turn_1 : decode cX10_turn 1 = .ok (.ifCond .lt 8, 3) := qd_o155 0 1 qd_g266 rfl rfl
theorem dX10_turn_4 : decode cX10_turn 4 = .ok (.iload_n 1, 1) := qd_o27 0 4 qd_g266 rfl
theorem dX10_turn_5 : decode cX10_turn 5 = .ok (.iconst 3, 1) := qd_o6 0 5 qd_g266 rfl
theorem dX10_turn_6 : decode cX10_turn 6 = .ok (.if_icmp .lt 4, 3) := qd_o161 0 6 qd_g266 rfl rfl
theorem dX10_turn_9 : decode cX10_turn 9 = .ok (.return_, 1) := qd_o177 0 9 qd_g266 rfl
theorem dX10_turn_10 : decode cX10_turn 10 = .ok (.aload_n 0, 1) := qd_o42 0 10 qd_g266 rfl
theorem dX10_turn_11 : decode cX10_turn 11 = .ok (.getfield 11, 3) := qd_o180 0 11 qd_g266 rfl rfl
theorem dX10_turn_14 : decode cX10_turn 14 = .ok (.iload_n 1, 1) := qd_o27 0 14 qd_g266 rfl
theorem dX10_turn_15 : decode cX10_turn 15 = .ok (.iaload, 1) := qd_o46 0 15 qd_g266 rfl
theorem dX10_turn_16 : decode cX10_turn 16 = .ok (.iload_n 2, 1) := qd_o28 0 16 qd_g266 rfl
theorem dX10_turn_17 : decode cX10_turn 17 = .ok (.iadd, 1) := qd_o96 0 17 qd_g266 rfl
theorem dX10_turn_18 : decode cX10_turn 18 = .ok (.istore_n 3, 1) := qd_o62 0 18 qd_g266 rfl
theorem dX10_turn_19 : decode cX10_turn 19 = .ok (.aload_n 0, 1) := qd_o42 0 19 qd_g266 rfl
theorem dX10_turn_20 : decode cX10_turn 20 = .ok (.getfield 21, 3) := qd_o180 0 20 qd_g266 rfl rfl
theorem dX10_turn_23 : decode cX10_turn 23 = .ok (.iload_n 1, 1) := qd_o27 0 23 qd_g266 rfl
theorem dX10_turn_24 : decode cX10_turn 24 = .ok (.iaload, 1) := qd_o46 0 24 qd_g266 rfl
theorem dX10_turn_25 : decode cX10_turn 25 = .ok (.istore 4, 2) := qd_o54 0 25 qd_g266 rfl rfl
theorem dX10_turn_27 : decode cX10_turn 27 = .ok (.aload_n 0, 1) := qd_o42 0 27 qd_g266 rfl
theorem dX10_turn_28 : decode cX10_turn 28 = .ok (.getfield 11, 3) := qd_o180 0 28 qd_g266 rfl rfl
theorem dX10_turn_31 : decode cX10_turn 31 = .ok (.iload_n 1, 1) := qd_o27 0 31 qd_g266 rfl
theorem dX10_turn_32 : decode cX10_turn 32 = .ok (.iload_n 3, 1) := qd_o29 0 32 qd_g266 rfl
theorem dX10_turn_33 : decode cX10_turn 33 = .ok (.ldc 45, 2) := qd_o18 0 33 qd_g266 rfl rfl
theorem dX10_turn_35 : decode cX10_turn 35 = .ok (.irem, 1) := qd_o112 0 35 qd_g266 rfl
theorem dX10_turn_36 : decode cX10_turn 36 = .ok (.iastore, 1) := qd_o79 0 36 qd_g266 rfl
theorem dX10_turn_37 : decode cX10_turn 37 = .ok (.iload_n 3, 1) := qd_o29 0 37 qd_g266 rfl
theorem dX10_turn_38 : decode cX10_turn 38 = .ok (.ldc 46, 2) := qd_o18 0 38 qd_g266 rfl rfl
theorem qd_g267 : qd_bs cX10_turn 40 [164, 0, 49, 21, 4, 6, 126, 4, 159, 0, 11, 21, 4, 6, 126, 5, 160, 0, 7, 4, 167, 0, 4, 3, 54, 5, 42, 180, 0, 21, 27, 21, 4, 5, 108, 21, 5, 153, 0, 9] = true := by decide +kernel
theorem dX10_turn_40 : decode cX10_turn 40 = .ok (.if_icmp .le 49, 3) := qd_o164 40 0 qd_g267 rfl rfl
theorem dX10_turn_43 : decode cX10_turn 43 = .ok (.iload 4, 2) := qd_o21 40 3 qd_g267 rfl rfl
theorem dX10_turn_45 : decode cX10_turn 45 = .ok (.iconst 3, 1) := qd_o6 40 5 qd_g267 rfl
theorem dX10_turn_46 : decode cX10_turn 46 = .ok (.iand, 1) := qd_o126 40 6 qd_g267 rfl
theorem dX10_turn_47 : decode cX10_turn 47 = .ok (.iconst 1, 1) := qd_o4 40 7 qd_g267 rfl
theorem dX10_turn_48 : decode cX10_turn 48 = .ok (.if_icmp .eq 11, 3) := qd_o159 40 8 qd_g267 rfl rfl
theorem dX10_turn_51 : decode cX10_turn 51 = .ok (.iload 4, 2) := qd_o21 40 11 qd_g267 rfl rfl
theorem dX10_turn_53 : decode cX10_turn 53 = .ok (.iconst 3, 1) := qd_o6 40 13 qd_g267 rfl
theorem dX10_turn_54 : decode cX10_turn 54 = .ok (.iand, 1) := qd_o126 40 14 qd_g267 rfl
theorem dX10_turn_55 : decode cX10_turn 55 = .ok (.iconst 2, 1) := qd_o5 40 15 qd_g267 rfl
theorem dX10_turn_56 : decode cX10_turn 56 = .ok (.if_icmp .ne 7, 3) := qd_o160 40 16 qd_g267 rfl rfl
theorem dX10_turn_59 : decode cX10_turn 59 = .ok (.iconst 1, 1) := qd_o4 40 19 qd_g267 rfl
theorem dX10_turn_60 : decode cX10_turn 60 = .ok (.goto 4, 3) := qd_o167 40 20 qd_g267 rfl rfl
theorem dX10_turn_63 : decode cX10_turn 63 = .ok (.iconst 0, 1) := qd_o3 40 23 qd_g267 rfl
theorem dX10_turn_64 : decode cX10_turn 64 = .ok (.istore 5, 2) := qd_o54 40 24 qd_g267 rfl rfl
theorem dX10_turn_66 : decode cX10_turn 66 = .ok (.aload_n 0, 1) := qd_o42 40 26 qd_g267 rfl
theorem dX10_turn_67 : decode cX10_turn 67 = .ok (.getfield 21, 3) := qd_o180 40 27 qd_g267 rfl rfl
theorem dX10_turn_70 : decode cX10_turn 70 = .ok (.iload_n 1, 1) := qd_o27 40 30 qd_g267 rfl
theorem dX10_turn_71 : decode cX10_turn 71 = .ok (.iload 4, 2) := qd_o21 40 31 qd_g267 rfl rfl
theorem dX10_turn_73 : decode cX10_turn 73 = .ok (.iconst 2, 1) := qd_o5 40 33 qd_g267 rfl
theorem dX10_turn_74 : decode cX10_turn 74 = .ok (.idiv, 1) := qd_o108 40 34 qd_g267 rfl
theorem dX10_turn_75 : decode cX10_turn 75 = .ok (.iload 5, 2) := qd_o21 40 35 qd_g267 rfl rfl
theorem dX10_turn_77 : decode cX10_turn 77 = .ok (.ifCond .eq 9, 3) := qd_o153 40 37 qd_g267 rfl rfl
theorem qd_g268 : qd_bs cX10_turn 80 [17, 64, 0, 167, 0, 4, 3, 96, 79, 177] = true := by decide +kernel
theorem dX10_turn_80 : decode cX10_turn 80 = .ok (.sipush 16384, 3) := qd_o17 80 0 qd_g268 rfl rfl
theorem dX10_turn_83 : decode cX10_turn 83 = .ok (.goto 4, 3) := qd_o167 80 3 qd_g268 rfl rfl
theorem dX10_turn_86 : decode cX10_turn 86 = .ok (.iconst 0, 1) := qd_o3 80 6 qd_g268 rfl
theorem dX10_turn_87 : decode cX10_turn 87 = .ok (.iadd, 1) := qd_o96 80 7 qd_g268 rfl
theorem dX10_turn_88 : decode cX10_turn 88 = .ok (.iastore, 1) := qd_o79 80 8 qd_g268 rfl
theorem dX10_turn_89 : decode cX10_turn 89 = .ok (.return_, 1) := qd_o177 80 9 qd_g268 rfl
theorem qd_g269 : qd_bs cX10_swell 0 [27, 155, 0, 8, 27, 6, 161, 0, 4, 177, 42, 180, 0, 18, 27, 92, 46, 4, 96, 79, 42, 180, 0, 18, 27, 46, 28, 153, 0, 10, 29, 16, 16, 112, 167, 0, 7, 29, 16, 16] = true := by decide +kernel
theorem dX10_swell_0 : decode cX10_swell 0 = .ok (.iload_n 1, 1) := qd_o27 0 0 qd_g269 rfl
theorem dX10_swell_1 : decode cX10_swell 1 = .ok (.ifCond .lt 8, 3) := qd_o155 0 1 qd_g269 rfl rfl
theorem dX10_swell_4 : decode cX10_swell 4 = .ok (.iload_n 1, 1) := qd_o27 0 4 qd_g269 rfl
theorem dX10_swell_5 : decode cX10_swell 5 = .ok (.iconst 3, 1) := qd_o6 0 5 qd_g269 rfl
theorem dX10_swell_6 : decode cX10_swell 6 = .ok (.if_icmp .lt 4, 3) := qd_o161 0 6 qd_g269 rfl rfl
theorem dX10_swell_9 : decode cX10_swell 9 = .ok (.return_, 1) := qd_o177 0 9 qd_g269 rfl
theorem dX10_swell_10 : decode cX10_swell 10 = .ok (.aload_n 0, 1) := qd_o42 0 10 qd_g269 rfl
theorem dX10_swell_11 : decode cX10_swell 11 = .ok (.getfield 18, 3) := qd_o180 0 11 qd_g269 rfl rfl
theorem dX10_swell_14 : decode cX10_swell 14 = .ok (.iload_n 1, 1) := qd_o27 0 14 qd_g269 rfl
theorem dX10_swell_15 : decode cX10_swell 15 = .ok (.dup2, 1) := qd_o92 0 15 qd_g269 rfl
theorem dX10_swell_16 : decode cX10_swell 16 = .ok (.iaload, 1) := qd_o46 0 16 qd_g269 rfl
theorem dX10_swell_17 : decode cX10_swell 17 = .ok (.iconst 1, 1) := qd_o4 0 17 qd_g269 rfl
theorem dX10_swell_18 : decode cX10_swell 18 = .ok (.iadd, 1) := qd_o96 0 18 qd_g269 rfl
theorem dX10_swell_19 : decode cX10_swell 19 = .ok (.iastore, 1) := qd_o79 0 19 qd_g269 rfl
theorem dX10_swell_20 : decode cX10_swell 20 = .ok (.aload_n 0, 1) := qd_o42 0 20 qd_g269 rfl
theorem dX10_swell_21 : decode cX10_swell 21 = .ok (.getfield 18, 3) := qd_o180 0 21 qd_g269 rfl rfl
theorem dX10_swell_24 : decode cX10_swell 24 = .ok (.iload_n 1, 1) := qd_o27 0 24 qd_g269 rfl
theorem dX10_swell_25 : decode cX10_swell 25 = .ok (.iaload, 1) := qd_o46 0 25 qd_g269 rfl
theorem dX10_swell_26 : decode cX10_swell 26 = .ok (.iload_n 2, 1) := qd_o28 0 26 qd_g269 rfl
theorem dX10_swell_27 : decode cX10_swell 27 = .ok (.ifCond .eq 10, 3) := qd_o153 0 27 qd_g269 rfl rfl
theorem dX10_swell_30 : decode cX10_swell 30 = .ok (.iload_n 3, 1) := qd_o29 0 30 qd_g269 rfl
theorem dX10_swell_31 : decode cX10_swell 31 = .ok (.bipush 16, 2) := qd_o16 0 31 qd_g269 rfl rfl
theorem dX10_swell_33 : decode cX10_swell 33 = .ok (.irem, 1) := qd_o112 0 33 qd_g269 rfl
theorem dX10_swell_34 : decode cX10_swell 34 = .ok (.goto 7, 3) := qd_o167 0 34 qd_g269 rfl rfl
theorem dX10_swell_37 : decode cX10_swell 37 = .ok (.iload_n 3, 1) := qd_o29 0 37 qd_g269 rfl
theorem dX10_swell_38 : decode cX10_swell 38 = .ok (.bipush 16, 2) := qd_o16 0 38 qd_g269 rfl rfl
theorem qd_g270 : qd_bs cX10_swell 40 [108, 163, 0, 4, 177, 42, 180, 0, 18, 27, 3, 79, 28, 153, 0, 27, 42, 180, 0, 15, 27, 46, 16, 15, 162, 0, 16, 42, 180, 0, 15, 27, 92, 46, 4, 96, 79, 167, 0, 26] = true := by decide +kernel
theorem dX10_swell_40 : decode cX10_swell 40 = .ok (.idiv, 1) := qd_o108 40 0 qd_g270 rfl
theorem dX10_swell_41 : decode cX10_swell 41 = .ok (.if_icmp .gt 4, 3) := qd_o163 40 1 qd_g270 rfl rfl
theorem dX10_swell_44 : decode cX10_swell 44 = .ok (.return_, 1) := qd_o177 40 4 qd_g270 rfl
theorem dX10_swell_45 : decode cX10_swell 45 = .ok (.aload_n 0, 1) := qd_o42 40 5 qd_g270 rfl
theorem dX10_swell_46 : decode cX10_swell 46 = .ok (.getfield 18, 3) := qd_o180 40 6 qd_g270 rfl rfl
theorem dX10_swell_49 : decode cX10_swell 49 = .ok (.iload_n 1, 1) := qd_o27 40 9 qd_g270 rfl
theorem dX10_swell_50 : decode cX10_swell 50 = .ok (.iconst 0, 1) := qd_o3 40 10 qd_g270 rfl
theorem dX10_swell_51 : decode cX10_swell 51 = .ok (.iastore, 1) := qd_o79 40 11 qd_g270 rfl
theorem dX10_swell_52 : decode cX10_swell 52 = .ok (.iload_n 2, 1) := qd_o28 40 12 qd_g270 rfl
theorem dX10_swell_53 : decode cX10_swell 53 = .ok (.ifCond .eq 27, 3) := qd_o153 40 13 qd_g270 rfl rfl
theorem dX10_swell_56 : decode cX10_swell 56 = .ok (.aload_n 0, 1) := qd_o42 40 16 qd_g270 rfl
theorem dX10_swell_57 : decode cX10_swell 57 = .ok (.getfield 15, 3) := qd_o180 40 17 qd_g270 rfl rfl
theorem dX10_swell_60 : decode cX10_swell 60 = .ok (.iload_n 1, 1) := qd_o27 40 20 qd_g270 rfl
theorem dX10_swell_61 : decode cX10_swell 61 = .ok (.iaload, 1) := qd_o46 40 21 qd_g270 rfl
theorem dX10_swell_62 : decode cX10_swell 62 = .ok (.bipush 15, 2) := qd_o16 40 22 qd_g270 rfl rfl
theorem dX10_swell_64 : decode cX10_swell 64 = .ok (.if_icmp .ge 16, 3) := qd_o162 40 24 qd_g270 rfl rfl
theorem dX10_swell_67 : decode cX10_swell 67 = .ok (.aload_n 0, 1) := qd_o42 40 27 qd_g270 rfl
theorem dX10_swell_68 : decode cX10_swell 68 = .ok (.getfield 15, 3) := qd_o180 40 28 qd_g270 rfl rfl
theorem dX10_swell_71 : decode cX10_swell 71 = .ok (.iload_n 1, 1) := qd_o27 40 31 qd_g270 rfl
theorem dX10_swell_72 : decode cX10_swell 72 = .ok (.dup2, 1) := qd_o92 40 32 qd_g270 rfl
theorem dX10_swell_73 : decode cX10_swell 73 = .ok (.iaload, 1) := qd_o46 40 33 qd_g270 rfl
theorem dX10_swell_74 : decode cX10_swell 74 = .ok (.iconst 1, 1) := qd_o4 40 34 qd_g270 rfl
theorem dX10_swell_75 : decode cX10_swell 75 = .ok (.iadd, 1) := qd_o96 40 35 qd_g270 rfl
theorem dX10_swell_76 : decode cX10_swell 76 = .ok (.iastore, 1) := qd_o79 40 36 qd_g270 rfl
theorem dX10_swell_77 : decode cX10_swell 77 = .ok (.goto 26, 3) := qd_o167 40 37 qd_g270 rfl rfl
theorem qd_g271 : qd_bs cX10_swell 80 [28, 154, 0, 22, 42, 180, 0, 15, 27, 46, 158, 0, 13, 42, 180, 0, 15, 27, 92, 46, 4, 100, 79, 177] = true := by decide +kernel
theorem dX10_swell_80 : decode cX10_swell 80 = .ok (.iload_n 2, 1) := qd_o28 80 0 qd_g271 rfl
theorem dX10_swell_81 : decode cX10_swell 81 = .ok (.ifCond .ne 22, 3) := qd_o154 80 1 qd_g271 rfl rfl
theorem dX10_swell_84 : decode cX10_swell 84 = .ok (.aload_n 0, 1) := qd_o42 80 4 qd_g271 rfl
theorem dX10_swell_85 : decode cX10_swell 85 = .ok (.getfield 15, 3) := qd_o180 80 5 qd_g271 rfl rfl
theorem dX10_swell_88 : decode cX10_swell 88 = .ok (.iload_n 1, 1) := qd_o27 80 8 qd_g271 rfl
theorem dX10_swell_89 : decode cX10_swell 89 = .ok (.iaload, 1) := qd_o46 80 9 qd_g271 rfl
theorem dX10_swell_90 : decode cX10_swell 90 = .ok (.ifCond .le 13, 3) := qd_o158 80 10 qd_g271 rfl rfl
theorem dX10_swell_93 : decode cX10_swell 93 = .ok (.aload_n 0, 1) := qd_o42 80 13 qd_g271 rfl
theorem dX10_swell_94 : decode cX10_swell 94 = .ok (.getfield 15, 3) := qd_o180 80 14 qd_g271 rfl rfl
theorem dX10_swell_97 : decode cX10_swell 97 = .ok (.iload_n 1, 1) := qd_o27 80 17 qd_g271 rfl
theorem dX10_swell_98 : decode cX10_swell 98 = .ok (.dup2, 1) := qd_o92 80 18 qd_g271 rfl
theorem dX10_swell_99 : decode cX10_swell 99 = .ok (.iaload, 1) := qd_o46 80 19 qd_g271 rfl
theorem dX10_swell_100 : decode cX10_swell 100 = .ok (.iconst 1, 1) := qd_o4 80 20 qd_g271 rfl
theorem dX10_swell_101 : decode cX10_swell 101 = .ok (.isub, 1) := qd_o100 80 21 qd_g271 rfl
theorem dX10_swell_102 : decode cX10_swell 102 = .ok (.iastore, 1) := qd_o79 80 22 qd_g271 rfl
theorem dX10_swell_103 : decode cX10_swell 103 = .ok (.return_, 1) := qd_o177 80 23 qd_g271 rfl
theorem qd_g272 : qd_bs cX10_outputOf 0 [27, 155, 0, 8, 27, 6, 161, 0, 5, 3, 172, 28, 4, 122, 6, 126, 42, 180, 0, 11, 27, 46, 42, 180, 0, 21, 27, 46, 184, 0, 47, 62, 27, 154, 0, 7, 5, 167, 0, 6] = true := by decide +kernel
theorem dX10_outputOf_0 : decode cX10_outputOf 0 = .ok (.iload_n 1, 1) := qd_o27 0 0 qd_g272 rfl
theorem dX10_outputOf_1 : decode cX10_outputOf 1 = .ok (.ifCond .lt 8, 3) := qd_o155 0 1 qd_g272 rfl rfl
theorem dX10_outputOf_4 : decode cX10_outputOf 4 = .ok (.iload_n 1, 1) := qd_o27 0 4 qd_g272 rfl
theorem dX10_outputOf_5 : decode cX10_outputOf 5 = .ok (.iconst 3, 1) := qd_o6 0 5 qd_g272 rfl
theorem dX10_outputOf_6 : decode cX10_outputOf 6 = .ok (.if_icmp .lt 5, 3) := qd_o161 0 6 qd_g272 rfl rfl
theorem dX10_outputOf_9 : decode cX10_outputOf 9 = .ok (.iconst 0, 1) := qd_o3 0 9 qd_g272 rfl
theorem dX10_outputOf_10 : decode cX10_outputOf 10 = .ok (.ireturn, 1) := qd_o172 0 10 qd_g272 rfl
theorem dX10_outputOf_11 : decode cX10_outputOf 11 = .ok (.iload_n 2, 1) := qd_o28 0 11 qd_g272 rfl
theorem dX10_outputOf_12 : decode cX10_outputOf 12 = .ok (.iconst 1, 1) := qd_o4 0 12 qd_g272 rfl
theorem dX10_outputOf_13 : decode cX10_outputOf 13 = .ok (.ishr, 1) := qd_o122 0 13 qd_g272 rfl
theorem dX10_outputOf_14 : decode cX10_outputOf 14 = .ok (.iconst 3, 1) := qd_o6 0 14 qd_g272 rfl
theorem dX10_outputOf_15 : decode cX10_outputOf 15 = .ok (.iand, 1) := qd_o126 0 15 qd_g272 rfl
theorem dX10_outputOf_16 : decode cX10_outputOf 16 = .ok (.aload_n 0, 1) := qd_o42 0 16 qd_g272 rfl
theorem dX10_outputOf_17 : decode cX10_outputOf 17 = .ok (.getfield 11, 3) := qd_o180 0 17 qd_g272 rfl rfl
theorem dX10_outputOf_20 : decode cX10_outputOf 20 = .ok (.iload_n 1, 1) := qd_o27 0 20 qd_g272 rfl
theorem dX10_outputOf_21 : decode cX10_outputOf 21 = .ok (.iaload, 1) := qd_o46 0 21 qd_g272 rfl
theorem dX10_outputOf_22 : decode cX10_outputOf 22 = .ok (.aload_n 0, 1) := qd_o42 0 22 qd_g272 rfl
theorem dX10_outputOf_23 : decode cX10_outputOf 23 = .ok (.getfield 21, 3) := qd_o180 0 23 qd_g272 rfl rfl
theorem dX10_outputOf_26 : decode cX10_outputOf 26 = .ok (.iload_n 1, 1) := qd_o27 0 26 qd_g272 rfl
theorem dX10_outputOf_27 : decode cX10_outputOf 27 = .ok (.iaload, 1) := qd_o46 0 27 qd_g272 rfl
theorem dX10_outputOf_28 : decode cX10_outputOf 28 = .ok (.invokestatic 47, 3) := qd_o184 0 28 qd_g272 rfl rfl
theorem dX10_outputOf_31 : decode cX10_outputOf 31 = .ok (.istore_n 3, 1) := qd_o62 0 31 qd_g272 rfl
theorem dX10_outputOf_32 : decode cX10_outputOf 32 = .ok (.iload_n 1, 1) := qd_o27 0 32 qd_g272 rfl
theorem dX10_outputOf_33 : decode cX10_outputOf 33 = .ok (.ifCond .ne 7, 3) := qd_o154 0 33 qd_g272 rfl rfl
theorem dX10_outputOf_36 : decode cX10_outputOf 36 = .ok (.iconst 2, 1) := qd_o5 0 36 qd_g272 rfl
theorem dX10_outputOf_37 : decode cX10_outputOf 37 = .ok (.goto 6, 3) := qd_o167 0 37 qd_g272 rfl rfl
theorem qd_g273 : qd_bs cX10_outputOf 40 [27, 4, 100, 54, 4, 28, 16, 8, 126, 16, 8, 160, 0, 19, 42, 180, 0, 11, 21, 4, 46, 18, 51, 161, 0, 7, 4, 167, 0, 4, 3, 54, 5, 21, 5, 153, 0, 10, 16, 15] = true := by decide +kernel
theorem dX10_outputOf_40 : decode cX10_outputOf 40 = .ok (.iload_n 1, 1) := qd_o27 40 0 qd_g273 rfl
theorem dX10_outputOf_41 : decode cX10_outputOf 41 = .ok (.iconst 1, 1) := qd_o4 40 1 qd_g273 rfl
theorem dX10_outputOf_42 : decode cX10_outputOf 42 = .ok (.isub, 1) := qd_o100 40 2 qd_g273 rfl
theorem dX10_outputOf_43 : decode cX10_outputOf 43 = .ok (.istore 4, 2) := qd_o54 40 3 qd_g273 rfl rfl
theorem dX10_outputOf_45 : decode cX10_outputOf 45 = .ok (.iload_n 2, 1) := qd_o28 40 5 qd_g273 rfl
theorem dX10_outputOf_46 : decode cX10_outputOf 46 = .ok (.bipush 8, 2) := qd_o16 40 6 qd_g273 rfl rfl
theorem dX10_outputOf_48 : decode cX10_outputOf 48 = .ok (.iand, 1) := qd_o126 40 8 qd_g273 rfl
theorem dX10_outputOf_49 : decode cX10_outputOf 49 = .ok (.bipush 8, 2) := qd_o16 40 9 qd_g273 rfl rfl
theorem dX10_outputOf_51 : decode cX10_outputOf 51 = .ok (.if_icmp .ne 19, 3) := qd_o160 40 11 qd_g273 rfl rfl
theorem dX10_outputOf_54 : decode cX10_outputOf 54 = .ok (.aload_n 0, 1) := qd_o42 40 14 qd_g273 rfl
theorem dX10_outputOf_55 : decode cX10_outputOf 55 = .ok (.getfield 11, 3) := qd_o180 40 15 qd_g273 rfl rfl
theorem dX10_outputOf_58 : decode cX10_outputOf 58 = .ok (.iload 4, 2) := qd_o21 40 18 qd_g273 rfl rfl
theorem dX10_outputOf_60 : decode cX10_outputOf 60 = .ok (.iaload, 1) := qd_o46 40 20 qd_g273 rfl
theorem dX10_outputOf_61 : decode cX10_outputOf 61 = .ok (.ldc 51, 2) := qd_o18 40 21 qd_g273 rfl rfl
theorem dX10_outputOf_63 : decode cX10_outputOf 63 = .ok (.if_icmp .lt 7, 3) := qd_o161 40 23 qd_g273 rfl rfl
theorem dX10_outputOf_66 : decode cX10_outputOf 66 = .ok (.iconst 1, 1) := qd_o4 40 26 qd_g273 rfl
theorem dX10_outputOf_67 : decode cX10_outputOf 67 = .ok (.goto 4, 3) := qd_o167 40 27 qd_g273 rfl rfl
theorem dX10_outputOf_70 : decode cX10_outputOf 70 = .ok (.iconst 0, 1) := qd_o3 40 30 qd_g273 rfl
theorem dX10_outputOf_71 : decode cX10_outputOf 71 = .ok (.istore 5, 2) := qd_o54 40 31 qd_g273 rfl rfl
theorem dX10_outputOf_73 : decode cX10_outputOf 73 = .ok (.iload 5, 2) := qd_o21 40 33 qd_g273 rfl rfl
theorem dX10_outputOf_75 : decode cX10_outputOf 75 = .ok (.ifCond .eq 10, 3) := qd_o153 40 35 qd_g273 rfl rfl
theorem dX10_outputOf_78 : decode cX10_outputOf 78 = .ok (.bipush 15, 2) := qd_o16 40 38 qd_g273 rfl rfl
theorem qd_g274 : qd_bs cX10_outputOf 80 [29, 100, 167, 0, 4, 29, 172] = true := by decide +kernel
theorem dX10_outputOf_80 : decode cX10_outputOf 80 = .ok (.iload_n 3, 1) := qd_o29 80 0 qd_g274 rfl
theorem dX10_outputOf_81 : decode cX10_outputOf 81 = .ok (.isub, 1) := qd_o100 80 1 qd_g274 rfl
theorem dX10_outputOf_82 : decode cX10_outputOf 82 = .ok (.goto 4, 3) := qd_o167 80 2 qd_g274 rfl rfl
theorem dX10_outputOf_85 : decode cX10_outputOf 85 = .ok (.iload_n 3, 1) := qd_o29 80 5 qd_g274 rfl
theorem dX10_outputOf_86 : decode cX10_outputOf 86 = .ok (.ireturn, 1) := qd_o172 80 6 qd_g274 rfl
theorem qd_g275 : qd_bs cX10_waveOf 0 [26] = true := by decide +kernel
theorem dX10_waveOf_0 : decode cX10_waveOf 0 = .ok (.iload_n 0, 1) := qd_o26 0 0 qd_g275 rfl
theorem dX10_waveOf_1 : decode cX10_waveOf 1 = .ok (.tableswitch 51 0 2 #[27, 33, 46], 27) := by decide +kernel
theorem qd_g276 : qd_bs cX10_waveOf 28 [27, 17, 16, 0, 108, 172, 27, 18, 51, 161, 0, 8, 16, 15, 167, 0, 4, 3, 172, 28, 16, 16, 112, 172, 3, 172] = true := by decide +kernel
theorem dX10_waveOf_28 : decode cX10_waveOf 28 = .ok (.iload_n 1, 1) := qd_o27 28 0 qd_g276 rfl
theorem dX10_waveOf_29 : decode cX10_waveOf 29 = .ok (.sipush 4096, 3) := qd_o17 28 1 qd_g276 rfl rfl
theorem dX10_waveOf_32 : decode cX10_waveOf 32 = .ok (.idiv, 1) := qd_o108 28 4 qd_g276 rfl
theorem dX10_waveOf_33 : decode cX10_waveOf 33 = .ok (.ireturn, 1) := qd_o172 28 5 qd_g276 rfl
theorem dX10_waveOf_34 : decode cX10_waveOf 34 = .ok (.iload_n 1, 1) := qd_o27 28 6 qd_g276 rfl
theorem dX10_waveOf_35 : decode cX10_waveOf 35 = .ok (.ldc 51, 2) := qd_o18 28 7 qd_g276 rfl rfl
theorem dX10_waveOf_37 : decode cX10_waveOf 37 = .ok (.if_icmp .lt 8, 3) := qd_o161 28 9 qd_g276 rfl rfl
theorem dX10_waveOf_40 : decode cX10_waveOf 40 = .ok (.bipush 15, 2) := qd_o16 28 12 qd_g276 rfl rfl
theorem dX10_waveOf_42 : decode cX10_waveOf 42 = .ok (.goto 4, 3) := qd_o167 28 14 qd_g276 rfl rfl
theorem dX10_waveOf_45 : decode cX10_waveOf 45 = .ok (.iconst 0, 1) := qd_o3 28 17 qd_g276 rfl
theorem dX10_waveOf_46 : decode cX10_waveOf 46 = .ok (.ireturn, 1) := qd_o172 28 18 qd_g276 rfl
theorem dX10_waveOf_47 : decode cX10_waveOf 47 = .ok (.iload_n 2, 1) := qd_o28 28 19 qd_g276 rfl
theorem dX10_waveOf_48 : decode cX10_waveOf 48 = .ok (.bipush 16, 2) := qd_o16 28 20 qd_g276 rfl rfl
theorem dX10_waveOf_50 : decode cX10_waveOf 50 = .ok (.irem, 1) := qd_o112 28 22 qd_g276 rfl
theorem dX10_waveOf_51 : decode cX10_waveOf 51 = .ok (.ireturn, 1) := qd_o172 28 23 qd_g276 rfl
theorem dX10_waveOf_52 : decode cX10_waveOf 52 = .ok (.iconst 0, 1) := qd_o3 28 24 qd_g276 rfl
theorem dX10_waveOf_53 : decode cX10_waveOf 53 = .ok (.ireturn, 1) := qd_o172 28 25 qd_g276 rfl
theorem qd_g277 : qd_bs cX11_init 0 [42, 183, 0, 1, 42, 187, 0, 7, 89, 183, 0, 9, 181, 0, 10, 42, 6, 189, 0, 7, 181, 0, 16, 42, 187, 0, 20, 89, 183, 0, 22, 181, 0, 23, 42, 187, 0, 27, 89] = true := by decide +kernel
theorem dX11_init_0 : decode cX11_init 0 = .ok (.aload_n 0, 1) := qd_o42 0 0 qd_g277 rfl
theorem dX11_init_1 : decode cX11_init 1 = .ok (.invokespecial 1, 3) := qd_o183 0 1 qd_g277 rfl rfl
theorem dX11_init_4 : decode cX11_init 4 = .ok (.aload_n 0, 1) := qd_o42 0 4 qd_g277 rfl
theorem dX11_init_5 : decode cX11_init 5 = .ok (.new 7, 3) := qd_o187 0 5 qd_g277 rfl rfl
theorem dX11_init_8 : decode cX11_init 8 = .ok (.dup, 1) := qd_o89 0 8 qd_g277 rfl
theorem dX11_init_9 : decode cX11_init 9 = .ok (.invokespecial 9, 3) := qd_o183 0 9 qd_g277 rfl rfl
theorem dX11_init_12 : decode cX11_init 12 = .ok (.putfield 10, 3) := qd_o181 0 12 qd_g277 rfl rfl
theorem dX11_init_15 : decode cX11_init 15 = .ok (.aload_n 0, 1) := qd_o42 0 15 qd_g277 rfl
theorem dX11_init_16 : decode cX11_init 16 = .ok (.iconst 3, 1) := qd_o6 0 16 qd_g277 rfl
theorem dX11_init_17 : decode cX11_init 17 = .ok (.anewarray 7, 3) := qd_o189 0 17 qd_g277 rfl rfl
theorem dX11_init_20 : decode cX11_init 20 = .ok (.putfield 16, 3) := qd_o181 0 20 qd_g277 rfl rfl
theorem dX11_init_23 : decode cX11_init 23 = .ok (.aload_n 0, 1) := qd_o42 0 23 qd_g277 rfl
theorem dX11_init_24 : decode cX11_init 24 = .ok (.new 20, 3) := qd_o187 0 24 qd_g277 rfl rfl
theorem dX11_init_27 : decode cX11_init 27 = .ok (.dup, 1) := qd_o89 0 27 qd_g277 rfl
theorem dX11_init_28 : decode cX11_init 28 = .ok (.invokespecial 22, 3) := qd_o183 0 28 qd_g277 rfl rfl
theorem dX11_init_31 : decode cX11_init 31 = .ok (.putfield 23, 3) := qd_o181 0 31 qd_g277 rfl rfl
theorem dX11_init_34 : decode cX11_init 34 = .ok (.aload_n 0, 1) := qd_o42 0 34 qd_g277 rfl
theorem dX11_init_35 : decode cX11_init 35 = .ok (.new 27, 3) := qd_o187 0 35 qd_g277 rfl rfl
theorem dX11_init_38 : decode cX11_init 38 = .ok (.dup, 1) := qd_o89 0 38 qd_g277 rfl
theorem qd_g278 : qd_bs cX11_init 39 [183, 0, 29, 181, 0, 30, 42, 187, 0, 34, 89, 183, 0, 36, 181, 0, 37, 3, 60, 27, 6, 162, 0, 22, 42, 180, 0, 16, 27, 187, 0, 7, 89, 183, 0, 9, 83, 132, 1, 1] = true := by decide +kernel
theorem dX11_init_39 : decode cX11_init 39 = .ok (.invokespecial 29, 3) := qd_o183 39 0 qd_g278 rfl rfl
theorem dX11_init_42 : decode cX11_init 42 = .ok (.putfield 30, 3) := qd_o181 39 3 qd_g278 rfl rfl
theorem dX11_init_45 : decode cX11_init 45 = .ok (.aload_n 0, 1) := qd_o42 39 6 qd_g278 rfl
theorem dX11_init_46 : decode cX11_init 46 = .ok (.new 34, 3) := qd_o187 39 7 qd_g278 rfl rfl
theorem dX11_init_49 : decode cX11_init 49 = .ok (.dup, 1) := qd_o89 39 10 qd_g278 rfl
theorem dX11_init_50 : decode cX11_init 50 = .ok (.invokespecial 36, 3) := qd_o183 39 11 qd_g278 rfl rfl
theorem dX11_init_53 : decode cX11_init 53 = .ok (.putfield 37, 3) := qd_o181 39 14 qd_g278 rfl rfl
theorem dX11_init_56 : decode cX11_init 56 = .ok (.iconst 0, 1) := qd_o3 39 17 qd_g278 rfl
theorem dX11_init_57 : decode cX11_init 57 = .ok (.istore_n 1, 1) := qd_o60 39 18 qd_g278 rfl
theorem dX11_init_58 : decode cX11_init 58 = .ok (.iload_n 1, 1) := qd_o27 39 19 qd_g278 rfl
theorem dX11_init_59 : decode cX11_init 59 = .ok (.iconst 3, 1) := qd_o6 39 20 qd_g278 rfl
theorem dX11_init_60 : decode cX11_init 60 = .ok (.if_icmp .ge 22, 3) := qd_o162 39 21 qd_g278 rfl rfl
theorem dX11_init_63 : decode cX11_init 63 = .ok (.aload_n 0, 1) := qd_o42 39 24 qd_g278 rfl
theorem dX11_init_64 : decode cX11_init 64 = .ok (.getfield 16, 3) := qd_o180 39 25 qd_g278 rfl rfl
theorem dX11_init_67 : decode cX11_init 67 = .ok (.iload_n 1, 1) := qd_o27 39 28 qd_g278 rfl
theorem dX11_init_68 : decode cX11_init 68 = .ok (.new 7, 3) := qd_o187 39 29 qd_g278 rfl rfl
theorem dX11_init_71 : decode cX11_init 71 = .ok (.dup, 1) := qd_o89 39 32 qd_g278 rfl
theorem dX11_init_72 : decode cX11_init 72 = .ok (.invokespecial 9, 3) := qd_o183 39 33 qd_g278 rfl rfl
theorem dX11_init_75 : decode cX11_init 75 = .ok (.aastore, 1) := qd_o83 39 36 qd_g278 rfl
theorem dX11_init_76 : decode cX11_init 76 = .ok (.iinc 1 1, 3) := qd_o132 39 37 qd_g278 rfl rfl
theorem qd_g279 : qd_bs cX11_init 79 [167, 255, 235, 177] = true := by decide +kernel
theorem dX11_init_79 : decode cX11_init 79 = .ok (.goto (-21), 3) := qd_o167 79 0 qd_g279 rfl rfl
theorem dX11_init_82 : decode cX11_init 82 = .ok (.return_, 1) := qd_o177 79 3 qd_g279 rfl
theorem qd_g280 : qd_bs cX11_poke 0 [27, 184, 0, 41, 28, 184, 0, 45, 42, 180, 0, 23, 3, 27, 28, 3, 182, 0, 48, 42, 180, 0, 10, 3, 27, 28, 3, 182, 0, 52, 172] = true := by decide +kernel
theorem dX11_poke_0 : decode cX11_poke 0 = .ok (.iload_n 1, 1) := qd_o27 0 0 qd_g280 rfl
theorem dX11_poke_1 : decode cX11_poke 1 = .ok (.invokestatic 41, 3) := qd_o184 0 1 qd_g280 rfl rfl
theorem dX11_poke_4 : decode cX11_poke 4 = .ok (.iload_n 2, 1) := qd_o28 0 4 qd_g280 rfl
theorem dX11_poke_5 : decode cX11_poke 5 = .ok (.invokestatic 45, 3) := qd_o184 0 5 qd_g280 rfl rfl
theorem dX11_poke_8 : decode cX11_poke 8 = .ok (.aload_n 0, 1) := qd_o42 0 8 qd_g280 rfl
theorem dX11_poke_9 : decode cX11_poke 9 = .ok (.getfield 23, 3) := qd_o180 0 9 qd_g280 rfl rfl
theorem dX11_poke_12 : decode cX11_poke 12 = .ok (.iconst 0, 1) := qd_o3 0 12 qd_g280 rfl
theorem dX11_poke_13 : decode cX11_poke 13 = .ok (.iload_n 1, 1) := qd_o27 0 13 qd_g280 rfl
theorem dX11_poke_14 : decode cX11_poke 14 = .ok (.iload_n 2, 1) := qd_o28 0 14 qd_g280 rfl
theorem dX11_poke_15 : decode cX11_poke 15 = .ok (.iconst 0, 1) := qd_o3 0 15 qd_g280 rfl
theorem dX11_poke_16 : decode cX11_poke 16 = .ok (.invokevirtual 48, 3) := qd_o182 0 16 qd_g280 rfl rfl
theorem dX11_poke_19 : decode cX11_poke 19 = .ok (.aload_n 0, 1) := qd_o42 0 19 qd_g280 rfl
theorem dX11_poke_20 : decode cX11_poke 20 = .ok (.getfield 10, 3) := qd_o180 0 20 qd_g280 rfl rfl
theorem dX11_poke_23 : decode cX11_poke 23 = .ok (.iconst 0, 1) := qd_o3 0 23 qd_g280 rfl
theorem dX11_poke_24 : decode cX11_poke 24 = .ok (.iload_n 1, 1) := qd_o27 0 24 qd_g280 rfl
theorem dX11_poke_25 : decode cX11_poke 25 = .ok (.iload_n 2, 1) := qd_o28 0 25 qd_g280 rfl
theorem dX11_poke_26 : decode cX11_poke 26 = .ok (.iconst 0, 1) := qd_o3 0 26 qd_g280 rfl
theorem dX11_poke_27 : decode cX11_poke 27 = .ok (.invokevirtual 52, 3) := qd_o182 0 27 qd_g280 rfl rfl
theorem dX11_poke_30 : decode cX11_poke 30 = .ok (.ireturn, 1) := qd_o172 0 30 qd_g280 rfl
theorem qd_g281 : qd_bs cX11_pokeRom 0 [27, 17, 2, 0, 184, 0, 56, 28, 184, 0, 45, 42, 180, 0, 23, 4, 27, 28, 3, 182, 0, 48, 42, 180, 0, 10, 4, 27, 28, 3, 182, 0, 52, 172] = true := by decide +kernel
theorem dX11_pokeRom_0 : decode cX11_pokeRom 0 = .ok (.iload_n 1, 1) := qd_o27 0 0 qd_g281 rfl
theorem dX11_pokeRom_1 : decode cX11_pokeRom 1 = .ok (.sipush 512, 3) := qd_o17 0 1 qd_g281 rfl rfl
theorem dX11_pokeRom_4 : decode cX11_pokeRom 4 = .ok (.invokestatic 56, 3) := qd_o184 0 4 qd_g281 rfl rfl
theorem dX11_pokeRom_7 : decode cX11_pokeRom 7 = .ok (.iload_n 2, 1) := qd_o28 0 7 qd_g281 rfl
theorem dX11_pokeRom_8 : decode cX11_pokeRom 8 = .ok (.invokestatic 45, 3) := qd_o184 0 8 qd_g281 rfl rfl
theorem dX11_pokeRom_11 : decode cX11_pokeRom 11 = .ok (.aload_n 0, 1) := qd_o42 0 11 qd_g281 rfl
theorem dX11_pokeRom_12 : decode cX11_pokeRom 12 = .ok (.getfield 23, 3) := qd_o180 0 12 qd_g281 rfl rfl
theorem dX11_pokeRom_15 : decode cX11_pokeRom 15 = .ok (.iconst 1, 1) := qd_o4 0 15 qd_g281 rfl
theorem dX11_pokeRom_16 : decode cX11_pokeRom 16 = .ok (.iload_n 1, 1) := qd_o27 0 16 qd_g281 rfl
theorem dX11_pokeRom_17 : decode cX11_pokeRom 17 = .ok (.iload_n 2, 1) := qd_o28 0 17 qd_g281 rfl
theorem dX11_pokeRom_18 : decode cX11_pokeRom 18 = .ok (.iconst 0, 1) := qd_o3 0 18 qd_g281 rfl
theorem dX11_pokeRom_19 : decode cX11_pokeRom 19 = .ok (.invokevirtual 48, 3) := qd_o182 0 19 qd_g281 rfl rfl
theorem dX11_pokeRom_22 : decode cX11_pokeRom 22 = .ok (.aload_n 0, 1) := qd_o42 0 22 qd_g281 rfl
theorem dX11_pokeRom_23 : decode cX11_pokeRom 23 = .ok (.getfield 10, 3) := qd_o180 0 23 qd_g281 rfl rfl
theorem dX11_pokeRom_26 : decode cX11_pokeRom 26 = .ok (.iconst 1, 1) := qd_o4 0 26 qd_g281 rfl
theorem dX11_pokeRom_27 : decode cX11_pokeRom 27 = .ok (.iload_n 1, 1) := qd_o27 0 27 qd_g281 rfl
theorem dX11_pokeRom_28 : decode cX11_pokeRom 28 = .ok (.iload_n 2, 1) := qd_o28 0 28 qd_g281 rfl
theorem dX11_pokeRom_29 : decode cX11_pokeRom 29 = .ok (.iconst 0, 1) := qd_o3 0 29 qd_g281 rfl
theorem dX11_pokeRom_30 : decode cX11_pokeRom 30 = .ok (.invokevirtual 52, 3) := qd_o182 0 30 qd_g281 rfl rfl
theorem dX11_pokeRom_33 : decode cX11_pokeRom 33 = .ok (.ireturn, 1) := qd_o172 0 33 qd_g281 rfl
theorem qd_g282 : qd_bs cX11_pokeCartridge 0 [27, 7, 184, 0, 56, 28, 17, 2, 0, 184, 0, 56, 29, 184, 0, 45, 42, 180, 0, 23, 5, 27, 28, 29, 182, 0, 48, 42, 180, 0, 10, 5, 27, 28, 29, 182, 0, 52, 172] = true := by decide +kernel
theorem dX11_pokeCartridge_0 : decode cX11_pokeCartridge 0 = .ok (.iload_n 1, 1) := qd_o27 0 0 qd_g282 rfl
theorem dX11_pokeCartridge_1 : decode cX11_pokeCartridge 1 = .ok (.iconst 4, 1) := qd_o7 0 1 qd_g282 rfl
theorem dX11_pokeCartridge_2 : decode cX11_pokeCartridge 2 = .ok (.invokestatic 56, 3) := qd_o184 0 2 qd_g282 rfl rfl
theorem dX11_pokeCartridge_5 : decode cX11_pokeCartridge 5 = .ok (.iload_n 2, 1) := qd_o28 0 5 qd_g282 rfl
theorem dX11_pokeCartridge_6 : decode cX11_pokeCartridge 6 = .ok (.sipush 512, 3) := qd_o17 0 6 qd_g282 rfl rfl
theorem dX11_pokeCartridge_9 : decode cX11_pokeCartridge 9 = .ok (.invokestatic 56, 3) := qd_o184 0 9 qd_g282 rfl rfl
theorem dX11_pokeCartridge_12 : decode cX11_pokeCartridge 12 = .ok (.iload_n 3, 1) := qd_o29 0 12 qd_g282 rfl
theorem dX11_pokeCartridge_13 : decode cX11_pokeCartridge 13 = .ok (.invokestatic 45, 3) := qd_o184 0 13 qd_g282 rfl rfl
theorem dX11_pokeCartridge_16 : decode cX11_pokeCartridge 16 = .ok (.aload_n 0, 1) := qd_o42 0 16 qd_g282 rfl
theorem dX11_pokeCartridge_17 : decode cX11_pokeCartridge 17 = .ok (.getfield 23, 3) := qd_o180 0 17 qd_g282 rfl rfl
theorem dX11_pokeCartridge_20 : decode cX11_pokeCartridge 20 = .ok (.iconst 2, 1) := qd_o5 0 20 qd_g282 rfl
theorem dX11_pokeCartridge_21 : decode cX11_pokeCartridge 21 = .ok (.iload_n 1, 1) := qd_o27 0 21 qd_g282 rfl
theorem dX11_pokeCartridge_22 : decode cX11_pokeCartridge 22 = .ok (.iload_n 2, 1) := qd_o28 0 22 qd_g282 rfl
theorem dX11_pokeCartridge_23 : decode cX11_pokeCartridge 23 = .ok (.iload_n 3, 1) := qd_o29 0 23 qd_g282 rfl
theorem dX11_pokeCartridge_24 : decode cX11_pokeCartridge 24 = .ok (.invokevirtual 48, 3) := qd_o182 0 24 qd_g282 rfl rfl
theorem dX11_pokeCartridge_27 : decode cX11_pokeCartridge 27 = .ok (.aload_n 0, 1) := qd_o42 0 27 qd_g282 rfl
theorem dX11_pokeCartridge_28 : decode cX11_pokeCartridge 28 = .ok (.getfield 10, 3) := qd_o180 0 28 qd_g282 rfl rfl
theorem dX11_pokeCartridge_31 : decode cX11_pokeCartridge 31 = .ok (.iconst 2, 1) := qd_o5 0 31 qd_g282 rfl
theorem dX11_pokeCartridge_32 : decode cX11_pokeCartridge 32 = .ok (.iload_n 1, 1) := qd_o27 0 32 qd_g282 rfl
theorem dX11_pokeCartridge_33 : decode cX11_pokeCartridge 33 = .ok (.iload_n 2, 1) := qd_o28 0 33 qd_g282 rfl
theorem dX11_pokeCartridge_34 : decode cX11_pokeCartridge 34 = .ok (.iload_n 3, 1) := qd_o29 0 34 qd_g282 rfl
theorem dX11_pokeCartridge_35 : decode cX11_pokeCartridge 35 = .ok (.invokevirtual 52, 3) := qd_o182 0 35 qd_g282 rfl rfl
theorem dX11_pokeCartridge_38 : decode cX11_pokeCartridge 38 = .ok (.ireturn, 1) := qd_o172 0 38 qd_g282 rfl
theorem qd_g283 : qd_bs cX11_peek 0 [27, 184, 0, 41, 42, 180, 0, 10, 180, 0, 60, 27, 182, 0, 64, 172] = true := by decide +kernel
theorem dX11_peek_0 : decode cX11_peek 0 = .ok (.iload_n 1, 1) := qd_o27 0 0 qd_g283 rfl
theorem dX11_peek_1 : decode cX11_peek 1 = .ok (.invokestatic 41, 3) := qd_o184 0 1 qd_g283 rfl rfl
theorem dX11_peek_4 : decode cX11_peek 4 = .ok (.aload_n 0, 1) := qd_o42 0 4 qd_g283 rfl
theorem dX11_peek_5 : decode cX11_peek 5 = .ok (.getfield 10, 3) := qd_o180 0 5 qd_g283 rfl rfl
theorem dX11_peek_8 : decode cX11_peek 8 = .ok (.getfield 60, 3) := qd_o180 0 8 qd_g283 rfl rfl
theorem dX11_peek_11 : decode cX11_peek 11 = .ok (.iload_n 1, 1) := qd_o27 0 11 qd_g283 rfl
theorem dX11_peek_12 : decode cX11_peek 12 = .ok (.invokevirtual 64, 3) := qd_o182 0 12 qd_g283 rfl rfl
theorem dX11_peek_15 : decode cX11_peek 15 = .ok (.ireturn, 1) := qd_o172 0 15 qd_g283 rfl
theorem qd_g284 : qd_bs cX11_ram 0 [27, 184, 0, 41, 42, 180, 0, 10, 180, 0, 60, 180, 0, 70, 180, 0, 73, 27, 17, 15, 255, 126, 46, 172] = true := by decide +kernel
theorem dX11_ram_0 : decode cX11_ram 0 = .ok (.iload_n 1, 1) := qd_o27 0 0 qd_g284 rfl
theorem dX11_ram_1 : decode cX11_ram 1 = .ok (.invokestatic 41, 3) := qd_o184 0 1 qd_g284 rfl rfl
theorem dX11_ram_4 : decode cX11_ram 4 = .ok (.aload_n 0, 1) := qd_o42 0 4 qd_g284 rfl
theorem dX11_ram_5 : decode cX11_ram 5 = .ok (.getfield 10, 3) := qd_o180 0 5 qd_g284 rfl rfl
theorem dX11_ram_8 : decode cX11_ram 8 = .ok (.getfield 60, 3) := qd_o180 0 8 qd_g284 rfl rfl
theorem dX11_ram_11 : decode cX11_ram 11 = .ok (.getfield 70, 3) := qd_o180 0 11 qd_g284 rfl rfl
theorem dX11_ram_14 : decode cX11_ram 14 = .ok (.getfield 73, 3) := qd_o180 0 14 qd_g284 rfl rfl
theorem dX11_ram_17 : decode cX11_ram 17 = .ok (.iload_n 1, 1) := qd_o27 0 17 qd_g284 rfl
theorem dX11_ram_18 : decode cX11_ram 18 = .ok (.sipush 4095, 3) := qd_o17 0 18 qd_g284 rfl rfl
theorem dX11_ram_21 : decode cX11_ram 21 = .ok (.iand, 1) := qd_o126 0 21 qd_g284 rfl
theorem dX11_ram_22 : decode cX11_ram 22 = .ok (.iaload, 1) := qd_o46 0 22 qd_g284 rfl
theorem dX11_ram_23 : decode cX11_ram 23 = .ok (.ireturn, 1) := qd_o172 0 23 qd_g284 rfl
theorem qd_g285 : qd_bs cX11_assemble 0 [27, 184, 0, 41, 28, 184, 0, 45, 29, 3, 17, 15, 255, 184, 0, 77, 28, 184, 0, 81, 5, 160, 0, 7, 29, 184, 0, 45, 42, 180, 0, 23, 6, 27, 28, 29, 182, 0, 48, 42] = true := by decide +kernel
theorem dX11_assemble_0 : decode cX11_assemble 0 = .ok (.iload_n 1, 1) := qd_o27 0 0 qd_g285 rfl
theorem dX11_assemble_1 : decode cX11_assemble 1 = .ok (.invokestatic 41, 3) := qd_o184 0 1 qd_g285 rfl rfl
theorem dX11_assemble_4 : decode cX11_assemble 4 = .ok (.iload_n 2, 1) := qd_o28 0 4 qd_g285 rfl
theorem dX11_assemble_5 : decode cX11_assemble 5 = .ok (.invokestatic 45, 3) := qd_o184 0 5 qd_g285 rfl rfl
theorem dX11_assemble_8 : decode cX11_assemble 8 = .ok (.iload_n 3, 1) := qd_o29 0 8 qd_g285 rfl
theorem dX11_assemble_9 : decode cX11_assemble 9 = .ok (.iconst 0, 1) := qd_o3 0 9 qd_g285 rfl
theorem dX11_assemble_10 : decode cX11_assemble 10 = .ok (.sipush 4095, 3) := qd_o17 0 10 qd_g285 rfl rfl
theorem dX11_assemble_13 : decode cX11_assemble 13 = .ok (.invokestatic 77, 3) := qd_o184 0 13 qd_g285 rfl rfl
theorem dX11_assemble_16 : decode cX11_assemble 16 = .ok (.iload_n 2, 1) := qd_o28 0 16 qd_g285 rfl
theorem dX11_assemble_17 : decode cX11_assemble 17 = .ok (.invokestatic 81, 3) := qd_o184 0 17 qd_g285 rfl rfl
theorem dX11_assemble_20 : decode cX11_assemble 20 = .ok (.iconst 2, 1) := qd_o5 0 20 qd_g285 rfl
theorem dX11_assemble_21 : decode cX11_assemble 21 = .ok (.if_icmp .ne 7, 3) := qd_o160 0 21 qd_g285 rfl rfl
theorem dX11_assemble_24 : decode cX11_assemble 24 = .ok (.iload_n 3, 1) := qd_o29 0 24 qd_g285 rfl
theorem dX11_assemble_25 : decode cX11_assemble 25 = .ok (.invokestatic 45, 3) := qd_o184 0 25 qd_g285 rfl rfl
theorem dX11_assemble_28 : decode cX11_assemble 28 = .ok (.aload_n 0, 1) := qd_o42 0 28 qd_g285 rfl
theorem dX11_assemble_29 : decode cX11_assemble 29 = .ok (.getfield 23, 3) := qd_o180 0 29 qd_g285 rfl rfl
theorem dX11_assemble_32 : decode cX11_assemble 32 = .ok (.iconst 3, 1) := qd_o6 0 32 qd_g285 rfl
theorem dX11_assemble_33 : decode cX11_assemble 33 = .ok (.iload_n 1, 1) := qd_o27 0 33 qd_g285 rfl
theorem dX11_assemble_34 : decode cX11_assemble 34 = .ok (.iload_n 2, 1) := qd_o28 0 34 qd_g285 rfl
theorem dX11_assemble_35 : decode cX11_assemble 35 = .ok (.iload_n 3, 1) := qd_o29 0 35 qd_g285 rfl
theorem dX11_assemble_36 : decode cX11_assemble 36 = .ok (.invokevirtual 48, 3) := qd_o182 0 36 qd_g285 rfl rfl
theorem dX11_assemble_39 : decode cX11_assemble 39 = .ok (.aload_n 0, 1) := qd_o42 0 39 qd_g285 rfl
theorem qd_g286 : qd_bs cX11_assemble 40 [180, 0, 10, 6, 27, 28, 29, 182, 0, 52, 172] = true := by decide +kernel
theorem dX11_assemble_40 : decode cX11_assemble 40 = .ok (.getfield 10, 3) := qd_o180 40 0 qd_g286 rfl rfl
theorem dX11_assemble_43 : decode cX11_assemble 43 = .ok (.iconst 3, 1) := qd_o6 40 3 qd_g286 rfl
theorem dX11_assemble_44 : decode cX11_assemble 44 = .ok (.iload_n 1, 1) := qd_o27 40 4 qd_g286 rfl
theorem dX11_assemble_45 : decode cX11_assemble 45 = .ok (.iload_n 2, 1) := qd_o28 40 5 qd_g286 rfl
theorem dX11_assemble_46 : decode cX11_assemble 46 = .ok (.iload_n 3, 1) := qd_o29 40 6 qd_g286 rfl
theorem dX11_assemble_47 : decode cX11_assemble 47 = .ok (.invokevirtual 52, 3) := qd_o182 40 7 qd_g286 rfl rfl
theorem dX11_assemble_50 : decode cX11_assemble 50 = .ok (.ireturn, 1) := qd_o172 40 10 qd_g286 rfl
theorem qd_g287 : qd_bs cX11_writeLine 0 [27, 184, 0, 41, 42, 180, 0, 30, 42, 180, 0, 10, 180, 0, 60, 27, 184, 0, 86, 42, 180, 0, 30, 182, 0, 92, 172] = true := by decide +kernel
theorem dX11_writeLine_0 : decode cX11_writeLine 0 = .ok (.iload_n 1, 1) := qd_o27 0 0 qd_g287 rfl
theorem dX11_writeLine_1 : decode cX11_writeLine 1 = .ok (.invokestatic 41, 3) := qd_o184 0 1 qd_g287 rfl rfl
theorem dX11_writeLine_4 : decode cX11_writeLine 4 = .ok (.aload_n 0, 1) := qd_o42 0 4 qd_g287 rfl
theorem dX11_writeLine_5 : decode cX11_writeLine 5 = .ok (.getfield 30, 3) := qd_o180 0 5 qd_g287 rfl rfl
theorem dX11_writeLine_8 : decode cX11_writeLine 8 = .ok (.aload_n 0, 1) := qd_o42 0 8 qd_g287 rfl
theorem dX11_writeLine_9 : decode cX11_writeLine 9 = .ok (.getfield 10, 3) := qd_o180 0 9 qd_g287 rfl rfl
theorem dX11_writeLine_12 : decode cX11_writeLine 12 = .ok (.getfield 60, 3) := qd_o180 0 12 qd_g287 rfl rfl
theorem dX11_writeLine_15 : decode cX11_writeLine 15 = .ok (.iload_n 1, 1) := qd_o27 0 15 qd_g287 rfl
theorem dX11_writeLine_16 : decode cX11_writeLine 16 = .ok (.invokestatic 86, 3) := qd_o184 0 16 qd_g287 rfl rfl
theorem dX11_writeLine_19 : decode cX11_writeLine 19 = .ok (.aload_n 0, 1) := qd_o42 0 19 qd_g287 rfl
theorem dX11_writeLine_20 : decode cX11_writeLine 20 = .ok (.getfield 30, 3) := qd_o180 0 20 qd_g287 rfl rfl
theorem dX11_writeLine_23 : decode cX11_writeLine 23 = .ok (.invokevirtual 92, 3) := qd_o182 0 23 qd_g287 rfl rfl
theorem dX11_writeLine_26 : decode cX11_writeLine 26 = .ok (.ireturn, 1) := qd_o172 0 26 qd_g287 rfl
theorem qd_g288 : qd_bs cX11_lineAt 0 [27, 42, 180, 0, 30, 182, 0, 92, 184, 0, 56, 42, 180, 0, 30, 27, 182, 0, 96, 172] = true := by decide +kernel
theorem dX11_lineAt_0 : decode cX11_lineAt 0 = .ok (.iload_n 1, 1) := qd_o27 0 0 qd_g288 rfl
theorem dX11_lineAt_1 : decode cX11_lineAt 1 = .ok (.aload_n 0, 1) := qd_o42 0 1 qd_g288 rfl
theorem dX11_lineAt_2 : decode cX11_lineAt 2 = .ok (.getfield 30, 3) := qd_o180 0 2 qd_g288 rfl rfl
theorem dX11_lineAt_5 : decode cX11_lineAt 5 = .ok (.invokevirtual 92, 3) := qd_o182 0 5 qd_g288 rfl rfl
theorem dX11_lineAt_8 : decode cX11_lineAt 8 = .ok (.invokestatic 56, 3) := qd_o184 0 8 qd_g288 rfl rfl
theorem dX11_lineAt_11 : decode cX11_lineAt 11 = .ok (.aload_n 0, 1) := qd_o42 0 11 qd_g288 rfl
theorem dX11_lineAt_12 : decode cX11_lineAt 12 = .ok (.getfield 30, 3) := qd_o180 0 12 qd_g288 rfl rfl
theorem dX11_lineAt_15 : decode cX11_lineAt 15 = .ok (.iload_n 1, 1) := qd_o27 0 15 qd_g288 rfl
theorem dX11_lineAt_16 : decode cX11_lineAt 16 = .ok (.invokevirtual 96, 3) := qd_o182 0 16 qd_g288 rfl rfl
theorem dX11_lineAt_19 : decode cX11_lineAt 19 = .ok (.ireturn, 1) := qd_o172 0 19 qd_g288 rfl
theorem qd_g289 : qd_bs cX11_compare 0 [27, 184, 0, 41, 28, 184, 0, 41, 29, 4, 17, 16, 0, 184, 0, 77, 3, 54, 4, 3, 54, 5, 21, 5, 29, 162, 0, 55, 42, 180, 0, 10, 180, 0, 60, 27, 21, 5, 96] = true := by decide +kernel
theorem dX11_compare_0 : decode cX11_compare 0 = .ok (.iload_n 1, 1) := qd_o27 0 0 qd_g289 rfl
theorem dX11_compare_1 : decode cX11_compare 1 = .ok (.invokestatic 41, 3) := qd_o184 0 1 qd_g289 rfl rfl
theorem dX11_compare_4 : decode cX11_compare 4 = .ok (.iload_n 2, 1) := qd_o28 0 4 qd_g289 rfl
theorem dX11_compare_5 : decode cX11_compare 5 = .ok (.invokestatic 41, 3) := qd_o184 0 5 qd_g289 rfl rfl
theorem dX11_compare_8 : decode cX11_compare 8 = .ok (.iload_n 3, 1) := qd_o29 0 8 qd_g289 rfl
theorem dX11_compare_9 : decode cX11_compare 9 = .ok (.iconst 1, 1) := qd_o4 0 9 qd_g289 rfl
theorem dX11_compare_10 : decode cX11_compare 10 = .ok (.sipush 4096, 3) := qd_o17 0 10 qd_g289 rfl rfl
theorem dX11_compare_13 : decode cX11_compare 13 = .ok (.invokestatic 77, 3) := qd_o184 0 13 qd_g289 rfl rfl
theorem dX11_compare_16 : decode cX11_compare 16 = .ok (.iconst 0, 1) := qd_o3 0 16 qd_g289 rfl
theorem dX11_compare_17 : decode cX11_compare 17 = .ok (.istore 4, 2) := qd_o54 0 17 qd_g289 rfl rfl
theorem dX11_compare_19 : decode cX11_compare 19 = .ok (.iconst 0, 1) := qd_o3 0 19 qd_g289 rfl
theorem dX11_compare_20 : decode cX11_compare 20 = .ok (.istore 5, 2) := qd_o54 0 20 qd_g289 rfl rfl
theorem dX11_compare_22 : decode cX11_compare 22 = .ok (.iload 5, 2) := qd_o21 0 22 qd_g289 rfl rfl
theorem dX11_compare_24 : decode cX11_compare 24 = .ok (.iload_n 3, 1) := qd_o29 0 24 qd_g289 rfl
theorem dX11_compare_25 : decode cX11_compare 25 = .ok (.if_icmp .ge 55, 3) := qd_o162 0 25 qd_g289 rfl rfl
theorem dX11_compare_28 : decode cX11_compare 28 = .ok (.aload_n 0, 1) := qd_o42 0 28 qd_g289 rfl
theorem dX11_compare_29 : decode cX11_compare 29 = .ok (.getfield 10, 3) := qd_o180 0 29 qd_g289 rfl rfl
theorem dX11_compare_32 : decode cX11_compare 32 = .ok (.getfield 60, 3) := qd_o180 0 32 qd_g289 rfl rfl
theorem dX11_compare_35 : decode cX11_compare 35 = .ok (.iload_n 1, 1) := qd_o27 0 35 qd_g289 rfl
theorem dX11_compare_36 : decode cX11_compare 36 = .ok (.iload 5, 2) := qd_o21 0 36 qd_g289 rfl rfl
theorem dX11_compare_38 : decode cX11_compare 38 = .ok (.iadd, 1) := qd_o96 0 38 qd_g289 rfl
theorem qd_g290 : qd_bs cX11_compare 39 [17, 15, 255, 126, 182, 0, 64, 54, 6, 21, 6, 42, 180, 0, 10, 180, 0, 60, 28, 21, 5, 96, 17, 15, 255, 126, 182, 0, 64, 159, 0, 6, 132, 4, 1, 132, 5, 1] = true := by decide +kernel
theorem dX11_compare_39 : decode cX11_compare 39 = .ok (.sipush 4095, 3) := qd_o17 39 0 qd_g290 rfl rfl
theorem dX11_compare_42 : decode cX11_compare 42 = .ok (.iand, 1) := qd_o126 39 3 qd_g290 rfl
theorem dX11_compare_43 : decode cX11_compare 43 = .ok (.invokevirtual 64, 3) := qd_o182 39 4 qd_g290 rfl rfl
theorem dX11_compare_46 : decode cX11_compare 46 = .ok (.istore 6, 2) := qd_o54 39 7 qd_g290 rfl rfl
theorem dX11_compare_48 : decode cX11_compare 48 = .ok (.iload 6, 2) := qd_o21 39 9 qd_g290 rfl rfl
theorem dX11_compare_50 : decode cX11_compare 50 = .ok (.aload_n 0, 1) := qd_o42 39 11 qd_g290 rfl
theorem dX11_compare_51 : decode cX11_compare 51 = .ok (.getfield 10, 3) := qd_o180 39 12 qd_g290 rfl rfl
theorem dX11_compare_54 : decode cX11_compare 54 = .ok (.getfield 60, 3) := qd_o180 39 15 qd_g290 rfl rfl
theorem dX11_compare_57 : decode cX11_compare 57 = .ok (.iload_n 2, 1) := qd_o28 39 18 qd_g290 rfl
theorem dX11_compare_58 : decode cX11_compare 58 = .ok (.iload 5, 2) := qd_o21 39 19 qd_g290 rfl rfl
theorem dX11_compare_60 : decode cX11_compare 60 = .ok (.iadd, 1) := qd_o96 39 21 qd_g290 rfl
theorem dX11_compare_61 : decode cX11_compare 61 = .ok (.sipush 4095, 3) := qd_o17 39 22 qd_g290 rfl rfl
theorem dX11_compare_64 : decode cX11_compare 64 = .ok (.iand, 1) := qd_o126 39 25 qd_g290 rfl
theorem dX11_compare_65 : decode cX11_compare 65 = .ok (.invokevirtual 64, 3) := qd_o182 39 26 qd_g290 rfl rfl
theorem dX11_compare_68 : decode cX11_compare 68 = .ok (.if_icmp .eq 6, 3) := qd_o159 39 29 qd_g290 rfl rfl
theorem dX11_compare_71 : decode cX11_compare 71 = .ok (.iinc 4 1, 3) := qd_o132 39 32 qd_g290 rfl rfl
theorem dX11_compare_74 : decode cX11_compare 74 = .ok (.iinc 5 1, 3) := qd_o132 39 35 qd_g290 rfl rfl
theorem qd_g291 : qd_bs cX11_compare 77 [167, 255, 201, 21, 4, 172] = true := by decide +kernel
theorem dX11_compare_77 : decode cX11_compare 77 = .ok (.goto (-55), 3) := qd_o167 77 0 qd_g291 rfl rfl
theorem dX11_compare_80 : decode cX11_compare 80 = .ok (.iload 4, 2) := qd_o21 77 3 qd_g291 rfl rfl
theorem dX11_compare_82 : decode cX11_compare 82 = .ok (.ireturn, 1) := qd_o172 77 5 qd_g291 rfl
theorem qd_g292 : qd_bs cX11_register 0 [27, 8, 184, 0, 56, 42, 180, 0, 10, 180, 0, 100, 27, 182, 0, 104, 172] = true := by decide +kernel
theorem dX11_register_0 : decode cX11_register 0 = .ok (.iload_n 1, 1) := qd_o27 0 0 qd_g292 rfl
theorem dX11_register_1 : decode cX11_register 1 = .ok (.iconst 5, 1) := qd_o8 0 1 qd_g292 rfl
theorem dX11_register_2 : decode cX11_register 2 = .ok (.invokestatic 56, 3) := qd_o184 0 2 qd_g292 rfl rfl
theorem dX11_register_5 : decode cX11_register 5 = .ok (.aload_n 0, 1) := qd_o42 0 5 qd_g292 rfl
theorem dX11_register_6 : decode cX11_register 6 = .ok (.getfield 10, 3) := qd_o180 0 6 qd_g292 rfl rfl
theorem dX11_register_9 : decode cX11_register 9 = .ok (.getfield 100, 3) := qd_o180 0 9 qd_g292 rfl rfl
theorem dX11_register_12 : decode cX11_register 12 = .ok (.iload_n 1, 1) := qd_o27 0 12 qd_g292 rfl
theorem dX11_register_13 : decode cX11_register 13 = .ok (.invokevirtual 104, 3) := qd_o182 0 13 qd_g292 rfl rfl
theorem dX11_register_16 : decode cX11_register 16 = .ok (.ireturn, 1) := qd_o172 0 16 qd_g292 rfl
theorem qd_g293 : qd_bs cX11_setRegister 0 [27, 8, 184, 0, 56, 28, 3, 27, 7, 160, 0, 9, 17, 15, 255, 167, 0, 6, 17, 0, 255, 184, 0, 77, 42, 180, 0, 10, 180, 0, 100, 180, 0, 109, 158, 0, 13, 187, 0, 113] = true := by decide +kernel
theorem dX11_setRegister_0 : decode cX11_setRegister 0 = .ok (.iload_n 1, 1) := qd_o27 0 0 qd_g293 rfl
theorem dX11_setRegister_1 : decode cX11_setRegister 1 = .ok (.iconst 5, 1) := qd_o8 0 1 qd_g293 rfl
theorem dX11_setRegister_2 : decode cX11_setRegister 2 = .ok (.invokestatic 56, 3) := qd_o184 0 2 qd_g293 rfl rfl
theorem dX11_setRegister_5 : decode cX11_setRegister 5 = .ok (.iload_n 2, 1) := qd_o28 0 5 qd_g293 rfl
theorem dX11_setRegister_6 : decode cX11_setRegister 6 = .ok (.iconst 0, 1) := qd_o3 0 6 qd_g293 rfl
theorem dX11_setRegister_7 : decode cX11_setRegister 7 = .ok (.iload_n 1, 1) := qd_o27 0 7 qd_g293 rfl
theorem dX11_setRegister_8 : decode cX11_setRegister 8 = .ok (.iconst 4, 1) := qd_o7 0 8 qd_g293 rfl
theorem dX11_setRegister_9 : decode cX11_setRegister 9 = .ok (.if_icmp .ne 9, 3) := qd_o160 0 9 qd_g293 rfl rfl
theorem dX11_setRegister_12 : decode cX11_setRegister 12 = .ok (.sipush 4095, 3) := qd_o17 0 12 qd_g293 rfl rfl
theorem dX11_setRegister_15 : decode cX11_setRegister 15 = .ok (.goto 6, 3) := qd_o167 0 15 qd_g293 rfl rfl
theorem dX11_setRegister_18 : decode cX11_setRegister 18 = .ok (.sipush 255, 3) := qd_o17 0 18 qd_g293 rfl rfl
theorem dX11_setRegister_21 : decode cX11_setRegister 21 = .ok (.invokestatic 77, 3) := qd_o184 0 21 qd_g293 rfl rfl
theorem dX11_setRegister_24 : decode cX11_setRegister 24 = .ok (.aload_n 0, 1) := qd_o42 0 24 qd_g293 rfl
theorem dX11_setRegister_25 : decode cX11_setRegister 25 = .ok (.getfield 10, 3) := qd_o180 0 25 qd_g293 rfl rfl
theorem dX11_setRegister_28 : decode cX11_setRegister 28 = .ok (.getfield 100, 3) := qd_o180 0 28 qd_g293 rfl rfl
theorem dX11_setRegister_31 : decode cX11_setRegister 31 = .ok (.getfield 109, 3) := qd_o180 0 31 qd_g293 rfl rfl
theorem dX11_setRegister_34 : decode cX11_setRegister 34 = .ok (.ifCond .le 13, 3) := qd_o158 0 34 qd_g293 rfl rfl
theorem dX11_setRegister_37 : decode cX11_setRegister 37 = .ok (.new 113, 3) := qd_o187 0 37 qd_g293 rfl rfl
theorem qd_g294 : qd_bs cX11_setRegister 40 [89, 18, 115, 183, 0, 117, 191, 42, 180, 0, 23, 7, 27, 28, 3, 182, 0, 48, 42, 180, 0, 10, 7, 27, 28, 3, 182, 0, 52, 172] = true := by decide +kernel
theorem dX11_setRegister_40 : decode cX11_setRegister 40 = .ok (.dup, 1) := qd_o89 40 0 qd_g294 rfl
theorem dX11_setRegister_41 : decode cX11_setRegister 41 = .ok (.ldc 115, 2) := qd_o18 40 1 qd_g294 rfl rfl
theorem dX11_setRegister_43 : decode cX11_setRegister 43 = .ok (.invokespecial 117, 3) := qd_o183 40 3 qd_g294 rfl rfl
theorem dX11_setRegister_46 : decode cX11_setRegister 46 = .ok (.athrow, 1) := qd_o191 40 6 qd_g294 rfl
theorem dX11_setRegister_47 : decode cX11_setRegister 47 = .ok (.aload_n 0, 1) := qd_o42 40 7 qd_g294 rfl
theorem dX11_setRegister_48 : decode cX11_setRegister 48 = .ok (.getfield 23, 3) := qd_o180 40 8 qd_g294 rfl rfl
theorem dX11_setRegister_51 : decode cX11_setRegister 51 = .ok (.iconst 4, 1) := qd_o7 40 11 qd_g294 rfl
theorem dX11_setRegister_52 : decode cX11_setRegister 52 = .ok (.iload_n 1, 1) := qd_o27 40 12 qd_g294 rfl
theorem dX11_setRegister_53 : decode cX11_setRegister 53 = .ok (.iload_n 2, 1) := qd_o28 40 13 qd_g294 rfl
theorem dX11_setRegister_54 : decode cX11_setRegister 54 = .ok (.iconst 0, 1) := qd_o3 40 14 qd_g294 rfl
theorem dX11_setRegister_55 : decode cX11_setRegister 55 = .ok (.invokevirtual 48, 3) := qd_o182 40 15 qd_g294 rfl rfl
theorem dX11_setRegister_58 : decode cX11_setRegister 58 = .ok (.aload_n 0, 1) := qd_o42 40 18 qd_g294 rfl
theorem dX11_setRegister_59 : decode cX11_setRegister 59 = .ok (.getfield 10, 3) := qd_o180 40 19 qd_g294 rfl rfl
theorem dX11_setRegister_62 : decode cX11_setRegister 62 = .ok (.iconst 4, 1) := qd_o7 40 22 qd_g294 rfl
theorem dX11_setRegister_63 : decode cX11_setRegister 63 = .ok (.iload_n 1, 1) := qd_o27 40 23 qd_g294 rfl
theorem dX11_setRegister_64 : decode cX11_setRegister 64 = .ok (.iload_n 2, 1) := qd_o28 40 24 qd_g294 rfl
theorem dX11_setRegister_65 : decode cX11_setRegister 65 = .ok (.iconst 0, 1) := qd_o3 40 25 qd_g294 rfl
theorem dX11_setRegister_66 : decode cX11_setRegister 66 = .ok (.invokevirtual 52, 3) := qd_o182 40 26 qd_g294 rfl rfl
theorem dX11_setRegister_69 : decode cX11_setRegister 69 = .ok (.ireturn, 1) := qd_o172 40 29 qd_g294 rfl
theorem qd_g295 : qd_bs cX11_status 0 [42, 180, 0, 10, 180, 0, 100, 180, 0, 120, 16, 32, 128, 16, 16, 128, 172] = true := by decide +kernel
theorem dX11_status_0 : decode cX11_status 0 = .ok (.aload_n 0, 1) := qd_o42 0 0 qd_g295 rfl
theorem dX11_status_1 : decode cX11_status 1 = .ok (.getfield 10, 3) := qd_o180 0 1 qd_g295 rfl rfl
theorem dX11_status_4 : decode cX11_status 4 = .ok (.getfield 100, 3) := qd_o180 0 4 qd_g295 rfl rfl
theorem dX11_status_7 : decode cX11_status 7 = .ok (.getfield 120, 3) := qd_o180 0 7 qd_g295 rfl rfl
theorem dX11_status_10 : decode cX11_status 10 = .ok (.bipush 32, 2) := qd_o16 0 10 qd_g295 rfl rfl
theorem dX11_status_12 : decode cX11_status 12 = .ok (.ior, 1) := qd_o128 0 12 qd_g295 rfl
theorem dX11_status_13 : decode cX11_status 13 = .ok (.bipush 16, 2) := qd_o16 0 13 qd_g295 rfl rfl
theorem dX11_status_15 : decode cX11_status 15 = .ok (.ior, 1) := qd_o128 0 15 qd_g295 rfl
theorem dX11_status_16 : decode cX11_status 16 = .ok (.ireturn, 1) := qd_o172 0 16 qd_g295 rfl
theorem qd_g296 : qd_bs cX11_reset 0 [42, 180, 0, 23, 8, 3, 3, 3, 182, 0, 48, 42, 180, 0, 10, 8, 3, 3, 3, 182, 0, 52, 172] = true := by decide +kernel
theorem dX11_reset_0 : decode cX11_reset 0 = .ok (.aload_n 0, 1) := qd_o42 0 0 qd_g296 rfl
theorem dX11_reset_1 : decode cX11_reset 1 = .ok (.getfield 23, 3) := qd_o180 0 1 qd_g296 rfl rfl
theorem dX11_reset_4 : decode cX11_reset 4 = .ok (.iconst 5, 1) := qd_o8 0 4 qd_g296 rfl
theorem dX11_reset_5 : decode cX11_reset 5 = .ok (.iconst 0, 1) := qd_o3 0 5 qd_g296 rfl
theorem dX11_reset_6 : decode cX11_reset 6 = .ok (.iconst 0, 1) := qd_o3 0 6 qd_g296 rfl
theorem dX11_reset_7 : decode cX11_reset 7 = .ok (.iconst 0, 1) := qd_o3 0 7 qd_g296 rfl
theorem dX11_reset_8 : decode cX11_reset 8 = .ok (.invokevirtual 48, 3) := qd_o182 0 8 qd_g296 rfl rfl
theorem dX11_reset_11 : decode cX11_reset 11 = .ok (.aload_n 0, 1) := qd_o42 0 11 qd_g296 rfl
theorem dX11_reset_12 : decode cX11_reset 12 = .ok (.getfield 10, 3) := qd_o180 0 12 qd_g296 rfl rfl
theorem dX11_reset_15 : decode cX11_reset 15 = .ok (.iconst 5, 1) := qd_o8 0 15 qd_g296 rfl
theorem dX11_reset_16 : decode cX11_reset 16 = .ok (.iconst 0, 1) := qd_o3 0 16 qd_g296 rfl
theorem dX11_reset_17 : decode cX11_reset 17 = .ok (.iconst 0, 1) := qd_o3 0 17 qd_g296 rfl
theorem dX11_reset_18 : decode cX11_reset 18 = .ok (.iconst 0, 1) := qd_o3 0 18 qd_g296 rfl
theorem dX11_reset_19 : decode cX11_reset 19 = .ok (.invokevirtual 52, 3) := qd_o182 0 19 qd_g296 rfl rfl
theorem dX11_reset_22 : decode cX11_reset 22 = .ok (.ireturn, 1) := qd_o172 0 22 qd_g296 rfl
theorem qd_g297 : qd_bs cX11_freeze 0 [42, 180, 0, 23, 16, 6, 3, 3, 3, 182, 0, 48, 42, 180, 0, 10, 16, 6, 3, 3, 3, 182, 0, 52, 172] = true := by decide +kernel
theorem dX11_freeze_0 : decode cX11_freeze 0 = .ok (.aload_n 0, 1) := qd_o42 0 0 qd_g297 rfl
theorem dX11_freeze_1 : decode cX11_freeze 1 = .ok (.getfield 23, 3) := qd_o180 0 1 qd_g297 rfl rfl
theorem dX11_freeze_4 : decode cX11_freeze 4 = .ok (.bipush 6, 2) := qd_o16 0 4 qd_g297 rfl rfl
theorem dX11_freeze_6 : decode cX11_freeze 6 = .ok (.iconst 0, 1) := qd_o3 0 6 qd_g297 rfl
theorem dX11_freeze_7 : decode cX11_freeze 7 = .ok (.iconst 0, 1) := qd_o3 0 7 qd_g297 rfl
theorem dX11_freeze_8 : decode cX11_freeze 8 = .ok (.iconst 0, 1) := qd_o3 0 8 qd_g297 rfl
theorem dX11_freeze_9 : decode cX11_freeze 9 = .ok (.invokevirtual 48, 3) := qd_o182 0 9 qd_g297 rfl rfl
theorem dX11_freeze_12 : decode cX11_freeze 12 = .ok (.aload_n 0, 1) := qd_o42 0 12 qd_g297 rfl
theorem dX11_freeze_13 : decode cX11_freeze 13 = .ok (.getfield 10, 3) := qd_o180 0 13 qd_g297 rfl rfl
theorem dX11_freeze_16 : decode cX11_freeze 16 = .ok (.bipush 6, 2) := qd_o16 0 16 qd_g297 rfl rfl
theorem dX11_freeze_18 : decode cX11_freeze 18 = .ok (.iconst 0, 1) := qd_o3 0 18 qd_g297 rfl
theorem dX11_freeze_19 : decode cX11_freeze 19 = .ok (.iconst 0, 1) := qd_o3 0 19 qd_g297 rfl
theorem dX11_freeze_20 : decode cX11_freeze 20 = .ok (.iconst 0, 1) := qd_o3 0 20 qd_g297 rfl
theorem dX11_freeze_21 : decode cX11_freeze 21 = .ok (.invokevirtual 52, 3) := qd_o182 0 21 qd_g297 rfl rfl
theorem dX11_freeze_24 : decode cX11_freeze 24 = .ok (.ireturn, 1) := qd_o172 0 24 qd_g297 rfl
theorem qd_g298 : qd_bs cX11_run 0 [27, 4, 17, 3, 232, 184, 0, 77, 42, 180, 0, 23, 16, 7, 27, 3, 3, 182, 0, 48, 42, 180, 0, 10, 16, 7, 27, 3, 3, 182, 0, 52, 172] = true := by decide +kernel
theorem dX11_run_0 : decode cX11_run 0 = .ok (.iload_n 1, 1) := qd_o27 0 0 qd_g298 rfl
theorem dX11_run_1 : decode cX11_run 1 = .ok (.iconst 1, 1) := qd_o4 0 1 qd_g298 rfl
theorem dX11_run_2 : decode cX11_run 2 = .ok (.sipush 1000, 3) := qd_o17 0 2 qd_g298 rfl rfl
theorem dX11_run_5 : decode cX11_run 5 = .ok (.invokestatic 77, 3) := qd_o184 0 5 qd_g298 rfl rfl
theorem dX11_run_8 : decode cX11_run 8 = .ok (.aload_n 0, 1) := qd_o42 0 8 qd_g298 rfl
theorem dX11_run_9 : decode cX11_run 9 = .ok (.getfield 23, 3) := qd_o180 0 9 qd_g298 rfl rfl
theorem dX11_run_12 : decode cX11_run 12 = .ok (.bipush 7, 2) := qd_o16 0 12 qd_g298 rfl rfl
theorem dX11_run_14 : decode cX11_run 14 = .ok (.iload_n 1, 1) := qd_o27 0 14 qd_g298 rfl
theorem dX11_run_15 : decode cX11_run 15 = .ok (.iconst 0, 1) := qd_o3 0 15 qd_g298 rfl
theorem dX11_run_16 : decode cX11_run 16 = .ok (.iconst 0, 1) := qd_o3 0 16 qd_g298 rfl
theorem dX11_run_17 : decode cX11_run 17 = .ok (.invokevirtual 48, 3) := qd_o182 0 17 qd_g298 rfl rfl
theorem dX11_run_20 : decode cX11_run 20 = .ok (.aload_n 0, 1) := qd_o42 0 20 qd_g298 rfl
theorem dX11_run_21 : decode cX11_run 21 = .ok (.getfield 10, 3) := qd_o180 0 21 qd_g298 rfl rfl
theorem dX11_run_24 : decode cX11_run 24 = .ok (.bipush 7, 2) := qd_o16 0 24 qd_g298 rfl rfl
theorem dX11_run_26 : decode cX11_run 26 = .ok (.iload_n 1, 1) := qd_o27 0 26 qd_g298 rfl
theorem dX11_run_27 : decode cX11_run 27 = .ok (.iconst 0, 1) := qd_o3 0 27 qd_g298 rfl
theorem dX11_run_28 : decode cX11_run 28 = .ok (.iconst 0, 1) := qd_o3 0 28 qd_g298 rfl
theorem dX11_run_29 : decode cX11_run 29 = .ok (.invokevirtual 52, 3) := qd_o182 0 29 qd_g298 rfl rfl
theorem dX11_run_32 : decode cX11_run 32 = .ok (.ireturn, 1) := qd_o172 0 32 qd_g298 rfl
theorem qd_g299 : qd_bs cX11_step 0 [42, 180, 0, 10, 180, 0, 100, 180, 0, 123, 153, 0, 13, 187, 0, 113, 89, 18, 127, 183, 0, 117, 191, 42, 180, 0, 23, 16, 8, 3, 3, 3, 182, 0, 48, 42, 180, 0, 10] = true := by decide +kernel
theorem dX11_step_0 : decode cX11_step 0 = .ok (.aload_n 0, 1) := qd_o42 0 0 qd_g299 rfl
theorem dX11_step_1 : decode cX11_step 1 = .ok (.getfield 10, 3) := qd_o180 0 1 qd_g299 rfl rfl
theorem dX11_step_4 : decode cX11_step 4 = .ok (.getfield 100, 3) := qd_o180 0 4 qd_g299 rfl rfl
theorem dX11_step_7 : decode cX11_step 7 = .ok (.getfield 123, 3) := qd_o180 0 7 qd_g299 rfl rfl
theorem dX11_step_10 : decode cX11_step 10 = .ok (.ifCond .eq 13, 3) := qd_o153 0 10 qd_g299 rfl rfl
theorem dX11_step_13 : decode cX11_step 13 = .ok (.new 113, 3) := qd_o187 0 13 qd_g299 rfl rfl
theorem dX11_step_16 : decode cX11_step 16 = .ok (.dup, 1) := qd_o89 0 16 qd_g299 rfl
theorem dX11_step_17 : decode cX11_step 17 = .ok (.ldc 127, 2) := qd_o18 0 17 qd_g299 rfl rfl
theorem dX11_step_19 : decode cX11_step 19 = .ok (.invokespecial 117, 3) := qd_o183 0 19 qd_g299 rfl rfl
theorem dX11_step_22 : decode cX11_step 22 = .ok (.athrow, 1) := qd_o191 0 22 qd_g299 rfl
theorem dX11_step_23 : decode cX11_step 23 = .ok (.aload_n 0, 1) := qd_o42 0 23 qd_g299 rfl
theorem dX11_step_24 : decode cX11_step 24 = .ok (.getfield 23, 3) := qd_o180 0 24 qd_g299 rfl rfl
theorem dX11_step_27 : decode cX11_step 27 = .ok (.bipush 8, 2) := qd_o16 0 27 qd_g299 rfl rfl
theorem dX11_step_29 : decode cX11_step 29 = .ok (.iconst 0, 1) := qd_o3 0 29 qd_g299 rfl
theorem dX11_step_30 : decode cX11_step 30 = .ok (.iconst 0, 1) := qd_o3 0 30 qd_g299 rfl
theorem dX11_step_31 : decode cX11_step 31 = .ok (.iconst 0, 1) := qd_o3 0 31 qd_g299 rfl
theorem dX11_step_32 : decode cX11_step 32 = .ok (.invokevirtual 48, 3) := qd_o182 0 32 qd_g299 rfl rfl
theorem dX11_step_35 : decode cX11_step 35 = .ok (.aload_n 0, 1) := qd_o42 0 35 qd_g299 rfl
theorem dX11_step_36 : decode cX11_step 36 = .ok (.getfield 10, 3) := qd_o180 0 36 qd_g299 rfl rfl
theorem qd_g300 : qd_bs cX11_step 39 [16, 8, 3, 3, 3, 182, 0, 52, 172] = true := by decide +kernel
theorem dX11_step_39 : decode cX11_step 39 = .ok (.bipush 8, 2) := qd_o16 39 0 qd_g300 rfl rfl
theorem dX11_step_41 : decode cX11_step 41 = .ok (.iconst 0, 1) := qd_o3 39 2 qd_g300 rfl
theorem dX11_step_42 : decode cX11_step 42 = .ok (.iconst 0, 1) := qd_o3 39 3 qd_g300 rfl
theorem dX11_step_43 : decode cX11_step 43 = .ok (.iconst 0, 1) := qd_o3 39 4 qd_g300 rfl
theorem dX11_step_44 : decode cX11_step 44 = .ok (.invokevirtual 52, 3) := qd_o182 39 5 qd_g300 rfl rfl
theorem dX11_step_47 : decode cX11_step 47 = .ok (.ireturn, 1) := qd_o172 39 8 qd_g300 rfl
theorem qd_g301 : qd_bs cX11_cycle 0 [42, 180, 0, 10, 180, 0, 60, 180, 0, 129, 173] = true := by decide +kernel
theorem dX11_cycle_0 : decode cX11_cycle 0 = .ok (.aload_n 0, 1) := qd_o42 0 0 qd_g301 rfl
theorem dX11_cycle_1 : decode cX11_cycle 1 = .ok (.getfield 10, 3) := qd_o180 0 1 qd_g301 rfl rfl
theorem dX11_cycle_4 : decode cX11_cycle 4 = .ok (.getfield 60, 3) := qd_o180 0 4 qd_g301 rfl rfl
theorem dX11_cycle_7 : decode cX11_cycle 7 = .ok (.getfield 129, 3) := qd_o180 0 7 qd_g301 rfl rfl
theorem dX11_cycle_10 : decode cX11_cycle 10 = .ok (.lreturn, 1) := qd_o173 0 10 qd_g301 rfl
theorem qd_g302 : qd_bs cX11_isPictures 0 [42, 180, 0, 10, 180, 0, 60, 182, 0, 133, 172] = true := by decide +kernel
theorem dX11_isPictures_0 : decode cX11_isPictures 0 = .ok (.aload_n 0, 1) := qd_o42 0 0 qd_g302 rfl
theorem dX11_isPictures_1 : decode cX11_isPictures 1 = .ok (.getfield 10, 3) := qd_o180 0 1 qd_g302 rfl rfl
theorem dX11_isPictures_4 : decode cX11_isPictures 4 = .ok (.getfield 60, 3) := qd_o180 0 4 qd_g302 rfl rfl
theorem dX11_isPictures_7 : decode cX11_isPictures 7 = .ok (.invokevirtual 133, 3) := qd_o182 0 7 qd_g302 rfl rfl
theorem dX11_isPictures_10 : decode cX11_isPictures 10 = .ok (.ireturn, 1) := qd_o172 0 10 qd_g302 rfl
theorem qd_g303 : qd_bs cX11_underWay 0 [42, 180, 0, 10, 180, 0, 100, 180, 0, 109, 172] = true := by decide +kernel
theorem dX11_underWay_0 : decode cX11_underWay 0 = .ok (.aload_n 0, 1) := qd_o42 0 0 qd_g303 rfl
theorem dX11_underWay_1 : decode cX11_underWay 1 = .ok (.getfield 10, 3) := qd_o180 0 1 qd_g303 rfl rfl
theorem dX11_underWay_4 : decode cX11_underWay 4 = .ok (.getfield 100, 3) := qd_o180 0 4 qd_g303 rfl rfl
theorem dX11_underWay_7 : decode cX11_underWay 7 = .ok (.getfield 109, 3) := qd_o180 0 7 qd_g303 rfl rfl
theorem dX11_underWay_10 : decode cX11_underWay 10 = .ok (.ireturn, 1) := qd_o172 0 10 qd_g303 rfl
theorem qd_g304 : qd_bs cX11_done 0 [42, 180, 0, 10, 180, 0, 100, 180, 0, 137, 172] = true := by decide +kernel
theorem dX11_done_0 : decode cX11_done 0 = .ok (.aload_n 0, 1) := qd_o42 0 0 qd_g304 rfl
theorem dX11_done_1 : decode cX11_done 1 = .ok (.getfield 10, 3) := qd_o180 0 1 qd_g304 rfl rfl
theorem dX11_done_4 : decode cX11_done 4 = .ok (.getfield 100, 3) := qd_o180 0 4 qd_g304 rfl rfl
theorem dX11_done_7 : decode cX11_done 7 = .ok (.getfield 137, 3) := qd_o180 0 7 qd_g304 rfl rfl
theorem dX11_done_10 : decode cX11_done 10 = .ok (.ireturn, 1) := qd_o172 0 10 qd_g304 rfl
theorem qd_g305 : qd_bs cX11_isJammed 0 [42, 180, 0, 10, 180, 0, 100, 180, 0, 123, 172] = true := by decide +kernel
theorem dX11_isJammed_0 : decode cX11_isJammed 0 = .ok (.aload_n 0, 1) := qd_o42 0 0 qd_g305 rfl
theorem dX11_isJammed_1 : decode cX11_isJammed 1 = .ok (.getfield 10, 3) := qd_o180 0 1 qd_g305 rfl rfl
theorem dX11_isJammed_4 : decode cX11_isJammed 4 = .ok (.getfield 100, 3) := qd_o180 0 4 qd_g305 rfl rfl
theorem dX11_isJammed_7 : decode cX11_isJammed 7 = .ok (.getfield 123, 3) := qd_o180 0 7 qd_g305 rfl rfl
theorem dX11_isJammed_10 : decode cX11_isJammed 10 = .ok (.ireturn, 1) := qd_o172 0 10 qd_g305 rfl
theorem qd_g306 : qd_bs cX11_traceAt 0 [42, 180, 0, 10, 180, 0, 100, 77, 27, 44, 180, 0, 140, 16, 16, 162, 0, 10, 44, 180, 0, 140, 167, 0, 5, 16, 16, 184, 0, 56, 44, 180, 0, 143, 44, 180, 0, 140, 4, 100] = true := by decide +kernel
theorem dX11_traceAt_0 : decode cX11_traceAt 0 = .ok (.aload_n 0, 1) := qd_o42 0 0 qd_g306 rfl
theorem dX11_traceAt_1 : decode cX11_traceAt 1 = .ok (.getfield 10, 3) := qd_o180 0 1 qd_g306 rfl rfl
theorem dX11_traceAt_4 : decode cX11_traceAt 4 = .ok (.getfield 100, 3) := qd_o180 0 4 qd_g306 rfl rfl
theorem dX11_traceAt_7 : decode cX11_traceAt 7 = .ok (.astore_n 2, 1) := qd_o77 0 7 qd_g306 rfl
theorem dX11_traceAt_8 : decode cX11_traceAt 8 = .ok (.iload_n 1, 1) := qd_o27 0 8 qd_g306 rfl
theorem dX11_traceAt_9 : decode cX11_traceAt 9 = .ok (.aload_n 2, 1) := qd_o44 0 9 qd_g306 rfl
theorem dX11_traceAt_10 : decode cX11_traceAt 10 = .ok (.getfield 140, 3) := qd_o180 0 10 qd_g306 rfl rfl
theorem dX11_traceAt_13 : decode cX11_traceAt 13 = .ok (.bipush 16, 2) := qd_o16 0 13 qd_g306 rfl rfl
theorem dX11_traceAt_15 : decode cX11_traceAt 15 = .ok (.if_icmp .ge 10, 3) := qd_o162 0 15 qd_g306 rfl rfl
theorem dX11_traceAt_18 : decode cX11_traceAt 18 = .ok (.aload_n 2, 1) := qd_o44 0 18 qd_g306 rfl
theorem dX11_traceAt_19 : decode cX11_traceAt 19 = .ok (.getfield 140, 3) := qd_o180 0 19 qd_g306 rfl rfl
theorem dX11_traceAt_22 : decode cX11_traceAt 22 = .ok (.goto 5, 3) := qd_o167 0 22 qd_g306 rfl rfl
theorem dX11_traceAt_25 : decode cX11_traceAt 25 = .ok (.bipush 16, 2) := qd_o16 0 25 qd_g306 rfl rfl
theorem dX11_traceAt_27 : decode cX11_traceAt 27 = .ok (.invokestatic 56, 3) := qd_o184 0 27 qd_g306 rfl rfl
theorem dX11_traceAt_30 : decode cX11_traceAt 30 = .ok (.aload_n 2, 1) := qd_o44 0 30 qd_g306 rfl
theorem dX11_traceAt_31 : decode cX11_traceAt 31 = .ok (.getfield 143, 3) := qd_o180 0 31 qd_g306 rfl rfl
theorem dX11_traceAt_34 : decode cX11_traceAt 34 = .ok (.aload_n 2, 1) := qd_o44 0 34 qd_g306 rfl
theorem dX11_traceAt_35 : decode cX11_traceAt 35 = .ok (.getfield 140, 3) := qd_o180 0 35 qd_g306 rfl rfl
theorem dX11_traceAt_38 : decode cX11_traceAt 38 = .ok (.iconst 1, 1) := qd_o4 0 38 qd_g306 rfl
theorem dX11_traceAt_39 : decode cX11_traceAt 39 = .ok (.isub, 1) := qd_o100 0 39 qd_g306 rfl
theorem qd_g307 : qd_bs cX11_traceAt 40 [27, 100, 16, 15, 126, 46, 172] = true := by decide +kernel
theorem dX11_traceAt_40 : decode cX11_traceAt 40 = .ok (.iload_n 1, 1) := qd_o27 40 0 qd_g307 rfl
theorem dX11_traceAt_41 : decode cX11_traceAt 41 = .ok (.isub, 1) := qd_o100 40 1 qd_g307 rfl
theorem dX11_traceAt_42 : decode cX11_traceAt 42 = .ok (.bipush 15, 2) := qd_o16 40 2 qd_g307 rfl rfl
theorem dX11_traceAt_44 : decode cX11_traceAt 44 = .ok (.iand, 1) := qd_o126 40 4 qd_g307 rfl
theorem dX11_traceAt_45 : decode cX11_traceAt 45 = .ok (.iaload, 1) := qd_o46 40 5 qd_g307 rfl
theorem dX11_traceAt_46 : decode cX11_traceAt 46 = .ok (.ireturn, 1) := qd_o172 40 6 qd_g307 rfl
theorem qd_g308 : qd_bs cX11_pixel 0 [27, 16, 32, 184, 0, 56, 28, 16, 32, 184, 0, 56, 42, 180, 0, 10, 180, 0, 146, 16, 32, 28, 104, 27, 96, 17, 3, 255, 126, 46, 172] = true := by decide +kernel
theorem dX11_pixel_0 : decode cX11_pixel 0 = .ok (.iload_n 1, 1) := qd_o27 0 0 qd_g308 rfl
theorem dX11_pixel_1 : decode cX11_pixel 1 = .ok (.bipush 32, 2) := qd_o16 0 1 qd_g308 rfl rfl
theorem dX11_pixel_3 : decode cX11_pixel 3 = .ok (.invokestatic 56, 3) := qd_o184 0 3 qd_g308 rfl rfl
theorem dX11_pixel_6 : decode cX11_pixel 6 = .ok (.iload_n 2, 1) := qd_o28 0 6 qd_g308 rfl
theorem dX11_pixel_7 : decode cX11_pixel 7 = .ok (.bipush 32, 2) := qd_o16 0 7 qd_g308 rfl rfl
theorem dX11_pixel_9 : decode cX11_pixel 9 = .ok (.invokestatic 56, 3) := qd_o184 0 9 qd_g308 rfl rfl
theorem dX11_pixel_12 : decode cX11_pixel 12 = .ok (.aload_n 0, 1) := qd_o42 0 12 qd_g308 rfl
theorem dX11_pixel_13 : decode cX11_pixel 13 = .ok (.getfield 10, 3) := qd_o180 0 13 qd_g308 rfl rfl
theorem dX11_pixel_16 : decode cX11_pixel 16 = .ok (.getfield 146, 3) := qd_o180 0 16 qd_g308 rfl rfl
theorem dX11_pixel_19 : decode cX11_pixel 19 = .ok (.bipush 32, 2) := qd_o16 0 19 qd_g308 rfl rfl
theorem dX11_pixel_21 : decode cX11_pixel 21 = .ok (.iload_n 2, 1) := qd_o28 0 21 qd_g308 rfl
theorem dX11_pixel_22 : decode cX11_pixel 22 = .ok (.imul, 1) := qd_o104 0 22 qd_g308 rfl
theorem dX11_pixel_23 : decode cX11_pixel 23 = .ok (.iload_n 1, 1) := qd_o27 0 23 qd_g308 rfl
theorem dX11_pixel_24 : decode cX11_pixel 24 = .ok (.iadd, 1) := qd_o96 0 24 qd_g308 rfl
theorem dX11_pixel_25 : decode cX11_pixel 25 = .ok (.sipush 1023, 3) := qd_o17 0 25 qd_g308 rfl rfl
theorem dX11_pixel_28 : decode cX11_pixel 28 = .ok (.iand, 1) := qd_o126 0 28 qd_g308 rfl
theorem dX11_pixel_29 : decode cX11_pixel 29 = .ok (.iaload, 1) := qd_o46 0 29 qd_g308 rfl
theorem dX11_pixel_30 : decode cX11_pixel 30 = .ok (.ireturn, 1) := qd_o172 0 30 qd_g308 rfl
theorem qd_g309 : qd_bs cX11_pixelAgain 0 [27, 16, 32, 184, 0, 56, 28, 16, 32, 184, 0, 56, 42, 180, 0, 10, 180, 0, 60, 27, 28, 42, 180, 0, 37, 182, 0, 149, 172] = true := by decide +kernel
theorem dX11_pixelAgain_0 : decode cX11_pixelAgain 0 = .ok (.iload_n 1, 1) := qd_o27 0 0 qd_g309 rfl
theorem dX11_pixelAgain_1 : decode cX11_pixelAgain 1 = .ok (.bipush 32, 2) := qd_o16 0 1 qd_g309 rfl rfl
theorem dX11_pixelAgain_3 : decode cX11_pixelAgain 3 = .ok (.invokestatic 56, 3) := qd_o184 0 3 qd_g309 rfl rfl
theorem dX11_pixelAgain_6 : decode cX11_pixelAgain 6 = .ok (.iload_n 2, 1) := qd_o28 0 6 qd_g309 rfl
theorem dX11_pixelAgain_7 : decode cX11_pixelAgain 7 = .ok (.bipush 32, 2) := qd_o16 0 7 qd_g309 rfl rfl
theorem dX11_pixelAgain_9 : decode cX11_pixelAgain 9 = .ok (.invokestatic 56, 3) := qd_o184 0 9 qd_g309 rfl rfl
theorem dX11_pixelAgain_12 : decode cX11_pixelAgain 12 = .ok (.aload_n 0, 1) := qd_o42 0 12 qd_g309 rfl
theorem dX11_pixelAgain_13 : decode cX11_pixelAgain 13 = .ok (.getfield 10, 3) := qd_o180 0 13 qd_g309 rfl rfl
theorem dX11_pixelAgain_16 : decode cX11_pixelAgain 16 = .ok (.getfield 60, 3) := qd_o180 0 16 qd_g309 rfl rfl
theorem dX11_pixelAgain_19 : decode cX11_pixelAgain 19 = .ok (.iload_n 1, 1) := qd_o27 0 19 qd_g309 rfl
theorem dX11_pixelAgain_20 : decode cX11_pixelAgain 20 = .ok (.iload_n 2, 1) := qd_o28 0 20 qd_g309 rfl
theorem dX11_pixelAgain_21 : decode cX11_pixelAgain 21 = .ok (.aload_n 0, 1) := qd_o42 0 21 qd_g309 rfl
theorem dX11_pixelAgain_22 : decode cX11_pixelAgain 22 = .ok (.getfield 37, 3) := qd_o180 0 22 qd_g309 rfl rfl
theorem dX11_pixelAgain_25 : decode cX11_pixelAgain 25 = .ok (.invokevirtual 149, 3) := qd_o182 0 25 qd_g309 rfl rfl
theorem dX11_pixelAgain_28 : decode cX11_pixelAgain 28 = .ok (.ireturn, 1) := qd_o172 0 28 qd_g309 rfl
theorem qd_g310 : qd_bs cX11_sample 0 [27, 16, 40, 184, 0, 56, 42, 180, 0, 10, 180, 0, 153, 180, 0, 157, 27, 46, 172] = true := by decide +kernel
theorem dX11_sample_0 : decode cX11_sample 0 = .ok (.iload_n 1, 1) := qd_o27 0 0 qd_g310 rfl
theorem dX11_sample_1 : decode cX11_sample 1 = .ok (.bipush 40, 2) := qd_o16 0 1 qd_g310 rfl rfl
theorem dX11_sample_3 : decode cX11_sample 3 = .ok (.invokestatic 56, 3) := qd_o184 0 3 qd_g310 rfl rfl
theorem dX11_sample_6 : decode cX11_sample 6 = .ok (.aload_n 0, 1) := qd_o42 0 6 qd_g310 rfl
theorem dX11_sample_7 : decode cX11_sample 7 = .ok (.getfield 10, 3) := qd_o180 0 7 qd_g310 rfl rfl
theorem dX11_sample_10 : decode cX11_sample 10 = .ok (.getfield 153, 3) := qd_o180 0 10 qd_g310 rfl rfl
theorem dX11_sample_13 : decode cX11_sample 13 = .ok (.getfield 157, 3) := qd_o180 0 13 qd_g310 rfl rfl
theorem dX11_sample_16 : decode cX11_sample 16 = .ok (.iload_n 1, 1) := qd_o27 0 16 qd_g310 rfl
theorem dX11_sample_17 : decode cX11_sample 17 = .ok (.iaload, 1) := qd_o46 0 17 qd_g310 rfl
theorem dX11_sample_18 : decode cX11_sample 18 = .ok (.ireturn, 1) := qd_o172 0 18 qd_g310 rfl
theorem qd_g311 : qd_bs cX11_level 0 [27, 6, 184, 0, 56, 42, 180, 0, 10, 180, 0, 153, 180, 0, 162, 27, 46, 172] = true := by decide +kernel
theorem dX11_level_0 : decode cX11_level 0 = .ok (.iload_n 1, 1) := qd_o27 0 0 qd_g311 rfl
theorem dX11_level_1 : decode cX11_level 1 = .ok (.iconst 3, 1) := qd_o6 0 1 qd_g311 rfl
theorem dX11_level_2 : decode cX11_level 2 = .ok (.invokestatic 56, 3) := qd_o184 0 2 qd_g311 rfl rfl
theorem dX11_level_5 : decode cX11_level 5 = .ok (.aload_n 0, 1) := qd_o42 0 5 qd_g311 rfl
theorem dX11_level_6 : decode cX11_level 6 = .ok (.getfield 10, 3) := qd_o180 0 6 qd_g311 rfl rfl
theorem dX11_level_9 : decode cX11_level 9 = .ok (.getfield 153, 3) := qd_o180 0 9 qd_g311 rfl rfl
theorem dX11_level_12 : decode cX11_level 12 = .ok (.getfield 162, 3) := qd_o180 0 12 qd_g311 rfl rfl
theorem dX11_level_15 : decode cX11_level 15 = .ok (.iload_n 1, 1) := qd_o27 0 15 qd_g311 rfl
theorem dX11_level_16 : decode cX11_level 16 = .ok (.iaload, 1) := qd_o46 0 16 qd_g311 rfl
theorem dX11_level_17 : decode cX11_level 17 = .ok (.ireturn, 1) := qd_o172 0 17 qd_g311 rfl
theorem qd_g312 : qd_bs cX11_key 0 [27, 7, 184, 0, 56, 28, 7, 184, 0, 56, 29, 153, 0, 7, 4, 167, 0, 4, 3, 54, 4, 42, 180, 0, 23, 16, 9, 27, 28, 21, 4, 182, 0, 48, 42, 180, 0, 10, 16, 9] = true := by decide +kernel
theorem dX11_key_0 : decode cX11_key 0 = .ok (.iload_n 1, 1) := qd_o27 0 0 qd_g312 rfl
theorem dX11_key_1 : decode cX11_key 1 = .ok (.iconst 4, 1) := qd_o7 0 1 qd_g312 rfl
theorem dX11_key_2 : decode cX11_key 2 = .ok (.invokestatic 56, 3) := qd_o184 0 2 qd_g312 rfl rfl
theorem dX11_key_5 : decode cX11_key 5 = .ok (.iload_n 2, 1) := qd_o28 0 5 qd_g312 rfl
theorem dX11_key_6 : decode cX11_key 6 = .ok (.iconst 4, 1) := qd_o7 0 6 qd_g312 rfl
theorem dX11_key_7 : decode cX11_key 7 = .ok (.invokestatic 56, 3) := qd_o184 0 7 qd_g312 rfl rfl
theorem dX11_key_10 : decode cX11_key 10 = .ok (.iload_n 3, 1) := qd_o29 0 10 qd_g312 rfl
theorem dX11_key_11 : decode cX11_key 11 = .ok (.ifCond .eq 7, 3) := qd_o153 0 11 qd_g312 rfl rfl
theorem dX11_key_14 : decode cX11_key 14 = .ok (.iconst 1, 1) := qd_o4 0 14 qd_g312 rfl
theorem dX11_key_15 : decode cX11_key 15 = .ok (.goto 4, 3) := qd_o167 0 15 qd_g312 rfl rfl
theorem dX11_key_18 : decode cX11_key 18 = .ok (.iconst 0, 1) := qd_o3 0 18 qd_g312 rfl
theorem dX11_key_19 : decode cX11_key 19 = .ok (.istore 4, 2) := qd_o54 0 19 qd_g312 rfl rfl
theorem dX11_key_21 : decode cX11_key 21 = .ok (.aload_n 0, 1) := qd_o42 0 21 qd_g312 rfl
theorem dX11_key_22 : decode cX11_key 22 = .ok (.getfield 23, 3) := qd_o180 0 22 qd_g312 rfl rfl
theorem dX11_key_25 : decode cX11_key 25 = .ok (.bipush 9, 2) := qd_o16 0 25 qd_g312 rfl rfl
theorem dX11_key_27 : decode cX11_key 27 = .ok (.iload_n 1, 1) := qd_o27 0 27 qd_g312 rfl
theorem dX11_key_28 : decode cX11_key 28 = .ok (.iload_n 2, 1) := qd_o28 0 28 qd_g312 rfl
theorem dX11_key_29 : decode cX11_key 29 = .ok (.iload 4, 2) := qd_o21 0 29 qd_g312 rfl rfl
theorem dX11_key_31 : decode cX11_key 31 = .ok (.invokevirtual 48, 3) := qd_o182 0 31 qd_g312 rfl rfl
theorem dX11_key_34 : decode cX11_key 34 = .ok (.aload_n 0, 1) := qd_o42 0 34 qd_g312 rfl
theorem dX11_key_35 : decode cX11_key 35 = .ok (.getfield 10, 3) := qd_o180 0 35 qd_g312 rfl rfl
theorem dX11_key_38 : decode cX11_key 38 = .ok (.bipush 9, 2) := qd_o16 0 38 qd_g312 rfl rfl
theorem qd_g313 : qd_bs cX11_key 40 [27, 28, 21, 4, 182, 0, 52, 4, 160, 0, 7, 4, 167, 0, 4, 3, 172] = true := by decide +kernel
theorem dX11_key_40 : decode cX11_key 40 = .ok (.iload_n 1, 1) := qd_o27 40 0 qd_g313 rfl
theorem dX11_key_41 : decode cX11_key 41 = .ok (.iload_n 2, 1) := qd_o28 40 1 qd_g313 rfl
theorem dX11_key_42 : decode cX11_key 42 = .ok (.iload 4, 2) := qd_o21 40 2 qd_g313 rfl rfl
theorem dX11_key_44 : decode cX11_key 44 = .ok (.invokevirtual 52, 3) := qd_o182 40 4 qd_g313 rfl rfl
theorem dX11_key_47 : decode cX11_key 47 = .ok (.iconst 1, 1) := qd_o4 40 7 qd_g313 rfl
theorem dX11_key_48 : decode cX11_key 48 = .ok (.if_icmp .ne 7, 3) := qd_o160 40 8 qd_g313 rfl rfl
theorem dX11_key_51 : decode cX11_key 51 = .ok (.iconst 1, 1) := qd_o4 40 11 qd_g313 rfl
theorem dX11_key_52 : decode cX11_key 52 = .ok (.goto 4, 3) := qd_o167 40 12 qd_g313 rfl rfl
theorem dX11_key_55 : decode cX11_key 55 = .ok (.iconst 0, 1) := qd_o3 40 15 qd_g313 rfl
theorem dX11_key_56 : decode cX11_key 56 = .ok (.ireturn, 1) := qd_o172 40 16 qd_g313 rfl
theorem qd_g314 : qd_bs cX11_columns 0 [27, 3, 16, 15, 184, 0, 77, 42, 180, 0, 10, 180, 0, 60, 180, 0, 167, 180, 0, 171, 27, 16, 15, 126, 46, 172] = true := by decide +kernel
theorem dX11_columns_0 : decode cX11_columns 0 = .ok (.iload_n 1, 1) := qd_o27 0 0 qd_g314 rfl
theorem dX11_columns_1 : decode cX11_columns 1 = .ok (.iconst 0, 1) := qd_o3 0 1 qd_g314 rfl
theorem dX11_columns_2 : decode cX11_columns 2 = .ok (.bipush 15, 2) := qd_o16 0 2 qd_g314 rfl rfl
theorem dX11_columns_4 : decode cX11_columns 4 = .ok (.invokestatic 77, 3) := qd_o184 0 4 qd_g314 rfl rfl
theorem dX11_columns_7 : decode cX11_columns 7 = .ok (.aload_n 0, 1) := qd_o42 0 7 qd_g314 rfl
theorem dX11_columns_8 : decode cX11_columns 8 = .ok (.getfield 10, 3) := qd_o180 0 8 qd_g314 rfl rfl
theorem dX11_columns_11 : decode cX11_columns 11 = .ok (.getfield 60, 3) := qd_o180 0 11 qd_g314 rfl rfl
theorem dX11_columns_14 : decode cX11_columns 14 = .ok (.getfield 167, 3) := qd_o180 0 14 qd_g314 rfl rfl
theorem dX11_columns_17 : decode cX11_columns 17 = .ok (.getfield 171, 3) := qd_o180 0 17 qd_g314 rfl rfl
theorem dX11_columns_20 : decode cX11_columns 20 = .ok (.iload_n 1, 1) := qd_o27 0 20 qd_g314 rfl
theorem dX11_columns_21 : decode cX11_columns 21 = .ok (.bipush 15, 2) := qd_o16 0 21 qd_g314 rfl rfl
theorem dX11_columns_23 : decode cX11_columns 23 = .ok (.iand, 1) := qd_o126 0 23 qd_g314 rfl
theorem dX11_columns_24 : decode cX11_columns 24 = .ok (.iaload, 1) := qd_o46 0 24 qd_g314 rfl
theorem dX11_columns_25 : decode cX11_columns 25 = .ok (.ireturn, 1) := qd_o172 0 25 qd_g314 rfl
theorem qd_g315 : qd_bs cX11_joystick 0 [27, 3, 16, 15, 184, 0, 77, 42, 180, 0, 23, 16, 10, 27, 3, 3, 182, 0, 48, 42, 180, 0, 10, 16, 10, 27, 3, 3, 182, 0, 52, 172] = true := by decide +kernel
theorem dX11_joystick_0 : decode cX11_joystick 0 = .ok (.iload_n 1, 1) := qd_o27 0 0 qd_g315 rfl
theorem dX11_joystick_1 : decode cX11_joystick 1 = .ok (.iconst 0, 1) := qd_o3 0 1 qd_g315 rfl
theorem dX11_joystick_2 : decode cX11_joystick 2 = .ok (.bipush 15, 2) := qd_o16 0 2 qd_g315 rfl rfl
theorem dX11_joystick_4 : decode cX11_joystick 4 = .ok (.invokestatic 77, 3) := qd_o184 0 4 qd_g315 rfl rfl
theorem dX11_joystick_7 : decode cX11_joystick 7 = .ok (.aload_n 0, 1) := qd_o42 0 7 qd_g315 rfl
theorem dX11_joystick_8 : decode cX11_joystick 8 = .ok (.getfield 23, 3) := qd_o180 0 8 qd_g315 rfl rfl
theorem dX11_joystick_11 : decode cX11_joystick 11 = .ok (.bipush 10, 2) := qd_o16 0 11 qd_g315 rfl rfl
theorem dX11_joystick_13 : decode cX11_joystick 13 = .ok (.iload_n 1, 1) := qd_o27 0 13 qd_g315 rfl
theorem dX11_joystick_14 : decode cX11_joystick 14 = .ok (.iconst 0, 1) := qd_o3 0 14 qd_g315 rfl
theorem dX11_joystick_15 : decode cX11_joystick 15 = .ok (.iconst 0, 1) := qd_o3 0 15 qd_g315 rfl
theorem dX11_joystick_16 : decode cX11_joystick 16 = .ok (.invokevirtual 48, 3) := qd_o182 0 16 qd_g315 rfl rfl
theorem dX11_joystick_19 : decode cX11_joystick 19 = .ok (.aload_n 0, 1) := qd_o42 0 19 qd_g315 rfl
theorem dX11_joystick_20 : decode cX11_joystick 20 = .ok (.getfield 10, 3) := qd_o180 0 20 qd_g315 rfl rfl
theorem dX11_joystick_23 : decode cX11_joystick 23 = .ok (.bipush 10, 2) := qd_o16 0 23 qd_g315 rfl rfl
theorem dX11_joystick_25 : decode cX11_joystick 25 = .ok (.iload_n 1, 1) := qd_o27 0 25 qd_g315 rfl
theorem dX11_joystick_26 : decode cX11_joystick 26 = .ok (.iconst 0, 1) := qd_o3 0 26 qd_g315 rfl
theorem dX11_joystick_27 : decode cX11_joystick 27 = .ok (.iconst 0, 1) := qd_o3 0 27 qd_g315 rfl
theorem dX11_joystick_28 : decode cX11_joystick 28 = .ok (.invokevirtual 52, 3) := qd_o182 0 28 qd_g315 rfl rfl
theorem dX11_joystick_31 : decode cX11_joystick 31 = .ok (.ireturn, 1) := qd_o172 0 31 qd_g315 rfl
theorem qd_g316 : qd_bs cX11_addPulse 0 [27, 4, 17, 3, 231, 184, 0, 77, 42, 180, 0, 10, 180, 0, 60, 180, 0, 174, 180, 0, 178, 16, 40, 161, 0, 13, 187, 0, 113, 89, 18, 183, 183, 0, 117, 191, 42, 180, 0, 23] = true := by decide +kernel
theorem dX11_addPulse_0 : decode cX11_addPulse 0 = .ok (.iload_n 1, 1) := qd_o27 0 0 qd_g316 rfl
theorem dX11_addPulse_1 : decode cX11_addPulse 1 = .ok (.iconst 1, 1) := qd_o4 0 1 qd_g316 rfl
theorem dX11_addPulse_2 : decode cX11_addPulse 2 = .ok (.sipush 999, 3) := qd_o17 0 2 qd_g316 rfl rfl
theorem dX11_addPulse_5 : decode cX11_addPulse 5 = .ok (.invokestatic 77, 3) := qd_o184 0 5 qd_g316 rfl rfl
theorem dX11_addPulse_8 : decode cX11_addPulse 8 = .ok (.aload_n 0, 1) := qd_o42 0 8 qd_g316 rfl
theorem dX11_addPulse_9 : decode cX11_addPulse 9 = .ok (.getfield 10, 3) := qd_o180 0 9 qd_g316 rfl rfl
theorem dX11_addPulse_12 : decode cX11_addPulse 12 = .ok (.getfield 60, 3) := qd_o180 0 12 qd_g316 rfl rfl
theorem dX11_addPulse_15 : decode cX11_addPulse 15 = .ok (.getfield 174, 3) := qd_o180 0 15 qd_g316 rfl rfl
theorem dX11_addPulse_18 : decode cX11_addPulse 18 = .ok (.getfield 178, 3) := qd_o180 0 18 qd_g316 rfl rfl
theorem dX11_addPulse_21 : decode cX11_addPulse 21 = .ok (.bipush 40, 2) := qd_o16 0 21 qd_g316 rfl rfl
theorem dX11_addPulse_23 : decode cX11_addPulse 23 = .ok (.if_icmp .lt 13, 3) := qd_o161 0 23 qd_g316 rfl rfl
theorem dX11_addPulse_26 : decode cX11_addPulse 26 = .ok (.new 113, 3) := qd_o187 0 26 qd_g316 rfl rfl
theorem dX11_addPulse_29 : decode cX11_addPulse 29 = .ok (.dup, 1) := qd_o89 0 29 qd_g316 rfl
theorem dX11_addPulse_30 : decode cX11_addPulse 30 = .ok (.ldc 183, 2) := qd_o18 0 30 qd_g316 rfl rfl
theorem dX11_addPulse_32 : decode cX11_addPulse 32 = .ok (.invokespecial 117, 3) := qd_o183 0 32 qd_g316 rfl rfl
theorem dX11_addPulse_35 : decode cX11_addPulse 35 = .ok (.athrow, 1) := qd_o191 0 35 qd_g316 rfl
theorem dX11_addPulse_36 : decode cX11_addPulse 36 = .ok (.aload_n 0, 1) := qd_o42 0 36 qd_g316 rfl
theorem dX11_addPulse_37 : decode cX11_addPulse 37 = .ok (.getfield 23, 3) := qd_o180 0 37 qd_g316 rfl rfl
theorem qd_g317 : qd_bs cX11_addPulse 40 [16, 11, 27, 3, 3, 182, 0, 48, 42, 180, 0, 10, 16, 11, 27, 3, 3, 182, 0, 52, 172] = true := by decide +kernel
theorem dX11_addPulse_40 : decode cX11_addPulse 40 = .ok (.bipush 11, 2) := qd_o16 40 0 qd_g317 rfl rfl
theorem dX11_addPulse_42 : decode cX11_addPulse 42 = .ok (.iload_n 1, 1) := qd_o27 40 2 qd_g317 rfl
theorem dX11_addPulse_43 : decode cX11_addPulse 43 = .ok (.iconst 0, 1) := qd_o3 40 3 qd_g317 rfl
theorem dX11_addPulse_44 : decode cX11_addPulse 44 = .ok (.iconst 0, 1) := qd_o3 40 4 qd_g317 rfl
theorem dX11_addPulse_45 : decode cX11_addPulse 45 = .ok (.invokevirtual 48, 3) := qd_o182 40 5 qd_g317 rfl rfl
theorem dX11_addPulse_48 : decode cX11_addPulse 48 = .ok (.aload_n 0, 1) := qd_o42 40 8 qd_g317 rfl
theorem dX11_addPulse_49 : decode cX11_addPulse 49 = .ok (.getfield 10, 3) := qd_o180 40 9 qd_g317 rfl rfl
theorem dX11_addPulse_52 : decode cX11_addPulse 52 = .ok (.bipush 11, 2) := qd_o16 40 12 qd_g317 rfl rfl
theorem dX11_addPulse_54 : decode cX11_addPulse 54 = .ok (.iload_n 1, 1) := qd_o27 40 14 qd_g317 rfl
theorem dX11_addPulse_55 : decode cX11_addPulse 55 = .ok (.iconst 0, 1) := qd_o3 40 15 qd_g317 rfl
theorem dX11_addPulse_56 : decode cX11_addPulse 56 = .ok (.iconst 0, 1) := qd_o3 40 16 qd_g317 rfl
theorem dX11_addPulse_57 : decode cX11_addPulse 57 = .ok (.invokevirtual 52, 3) := qd_o182 40 17 qd_g317 rfl rfl
theorem dX11_addPulse_60 : decode cX11_addPulse 60 = .ok (.ireturn, 1) := qd_o172 40 20 qd_g317 rfl
theorem qd_g318 : qd_bs cX11_rewind 0 [42, 180, 0, 23, 16, 12, 3, 3, 3, 182, 0, 48, 42, 180, 0, 10, 16, 12, 3, 3, 3, 182, 0, 52, 172] = true := by decide +kernel
theorem dX11_rewind_0 : decode cX11_rewind 0 = .ok (.aload_n 0, 1) := qd_o42 0 0 qd_g318 rfl
theorem dX11_rewind_1 : decode cX11_rewind 1 = .ok (.getfield 23, 3) := qd_o180 0 1 qd_g318 rfl rfl
theorem dX11_rewind_4 : decode cX11_rewind 4 = .ok (.bipush 12, 2) := qd_o16 0 4 qd_g318 rfl rfl
theorem dX11_rewind_6 : decode cX11_rewind 6 = .ok (.iconst 0, 1) := qd_o3 0 6 qd_g318 rfl
theorem dX11_rewind_7 : decode cX11_rewind 7 = .ok (.iconst 0, 1) := qd_o3 0 7 qd_g318 rfl
theorem dX11_rewind_8 : decode cX11_rewind 8 = .ok (.iconst 0, 1) := qd_o3 0 8 qd_g318 rfl
theorem dX11_rewind_9 : decode cX11_rewind 9 = .ok (.invokevirtual 48, 3) := qd_o182 0 9 qd_g318 rfl rfl
theorem dX11_rewind_12 : decode cX11_rewind 12 = .ok (.aload_n 0, 1) := qd_o42 0 12 qd_g318 rfl
theorem dX11_rewind_13 : decode cX11_rewind 13 = .ok (.getfield 10, 3) := qd_o180 0 13 qd_g318 rfl rfl
theorem dX11_rewind_16 : decode cX11_rewind 16 = .ok (.bipush 12, 2) := qd_o16 0 16 qd_g318 rfl rfl
theorem dX11_rewind_18 : decode cX11_rewind 18 = .ok (.iconst 0, 1) := qd_o3 0 18 qd_g318 rfl
theorem dX11_rewind_19 : decode cX11_rewind 19 = .ok (.iconst 0, 1) := qd_o3 0 19 qd_g318 rfl
theorem dX11_rewind_20 : decode cX11_rewind 20 = .ok (.iconst 0, 1) := qd_o3 0 20 qd_g318 rfl
theorem dX11_rewind_21 : decode cX11_rewind 21 = .ok (.invokevirtual 52, 3) := qd_o182 0 21 qd_g318 rfl rfl
theorem dX11_rewind_24 : decode cX11_rewind 24 = .ok (.ireturn, 1) := qd_o172 0 24 qd_g318 rfl
theorem qd_g319 : qd_bs cX11_pulsesLeft 0 [42, 180, 0, 10, 180, 0, 60, 180, 0, 174, 180, 0, 178, 42, 180, 0, 10, 180, 0, 60, 180, 0, 174, 180, 0, 185, 100, 172] = true := by decide +kernel
theorem dX11_pulsesLeft_0 : decode cX11_pulsesLeft 0 = .ok (.aload_n 0, 1) := qd_o42 0 0 qd_g319 rfl
theorem dX11_pulsesLeft_1 : decode cX11_pulsesLeft 1 = .ok (.getfield 10, 3) := qd_o180 0 1 qd_g319 rfl rfl
theorem dX11_pulsesLeft_4 : decode cX11_pulsesLeft 4 = .ok (.getfield 60, 3) := qd_o180 0 4 qd_g319 rfl rfl
theorem dX11_pulsesLeft_7 : decode cX11_pulsesLeft 7 = .ok (.getfield 174, 3) := qd_o180 0 7 qd_g319 rfl rfl
theorem dX11_pulsesLeft_10 : decode cX11_pulsesLeft 10 = .ok (.getfield 178, 3) := qd_o180 0 10 qd_g319 rfl rfl
theorem dX11_pulsesLeft_13 : decode cX11_pulsesLeft 13 = .ok (.aload_n 0, 1) := qd_o42 0 13 qd_g319 rfl
theorem dX11_pulsesLeft_14 : decode cX11_pulsesLeft 14 = .ok (.getfield 10, 3) := qd_o180 0 14 qd_g319 rfl rfl
theorem dX11_pulsesLeft_17 : decode cX11_pulsesLeft 17 = .ok (.getfield 60, 3) := qd_o180 0 17 qd_g319 rfl rfl
theorem dX11_pulsesLeft_20 : decode cX11_pulsesLeft 20 = .ok (.getfield 174, 3) := qd_o180 0 20 qd_g319 rfl rfl
theorem dX11_pulsesLeft_23 : decode cX11_pulsesLeft 23 = .ok (.getfield 185, 3) := qd_o180 0 23 qd_g319 rfl rfl
theorem dX11_pulsesLeft_26 : decode cX11_pulsesLeft 26 = .ok (.isub, 1) := qd_o100 0 26 qd_g319 rfl
theorem dX11_pulsesLeft_27 : decode cX11_pulsesLeft 27 = .ok (.ireturn, 1) := qd_o172 0 27 qd_g319 rfl
theorem qd_g320 : qd_bs cX11_save 0 [42, 180, 0, 188, 60, 27, 155, 0, 8, 27, 6, 161, 0, 13, 187, 0, 113, 89, 18, 191, 183, 0, 117, 191, 42, 180, 0, 16, 27, 50, 42, 180, 0, 10, 182, 0, 193, 42, 27, 4] = true := by decide +kernel
theorem dX11_save_0 : decode cX11_save 0 = .ok (.aload_n 0, 1) := qd_o42 0 0 qd_g320 rfl
theorem dX11_save_1 : decode cX11_save 1 = .ok (.getfield 188, 3) := qd_o180 0 1 qd_g320 rfl rfl
theorem dX11_save_4 : decode cX11_save 4 = .ok (.istore_n 1, 1) := qd_o60 0 4 qd_g320 rfl
theorem dX11_save_5 : decode cX11_save 5 = .ok (.iload_n 1, 1) := qd_o27 0 5 qd_g320 rfl
theorem dX11_save_6 : decode cX11_save 6 = .ok (.ifCond .lt 8, 3) := qd_o155 0 6 qd_g320 rfl rfl
theorem dX11_save_9 : decode cX11_save 9 = .ok (.iload_n 1, 1) := qd_o27 0 9 qd_g320 rfl
theorem dX11_save_10 : decode cX11_save 10 = .ok (.iconst 3, 1) := qd_o6 0 10 qd_g320 rfl
theorem dX11_save_11 : decode cX11_save 11 = .ok (.if_icmp .lt 13, 3) := qd_o161 0 11 qd_g320 rfl rfl
theorem dX11_save_14 : decode cX11_save 14 = .ok (.new 113, 3) := qd_o187 0 14 qd_g320 rfl rfl
theorem dX11_save_17 : decode cX11_save 17 = .ok (.dup, 1) := qd_o89 0 17 qd_g320 rfl
theorem dX11_save_18 : decode cX11_save 18 = .ok (.ldc 191, 2) := qd_o18 0 18 qd_g320 rfl rfl
theorem dX11_save_20 : decode cX11_save 20 = .ok (.invokespecial 117, 3) := qd_o183 0 20 qd_g320 rfl rfl
theorem dX11_save_23 : decode cX11_save 23 = .ok (.athrow, 1) := qd_o191 0 23 qd_g320 rfl
theorem dX11_save_24 : decode cX11_save 24 = .ok (.aload_n 0, 1) := qd_o42 0 24 qd_g320 rfl
theorem dX11_save_25 : decode cX11_save 25 = .ok (.getfield 16, 3) := qd_o180 0 25 qd_g320 rfl rfl
theorem dX11_save_28 : decode cX11_save 28 = .ok (.iload_n 1, 1) := qd_o27 0 28 qd_g320 rfl
theorem dX11_save_29 : decode cX11_save 29 = .ok (.aaload, 1) := qd_o50 0 29 qd_g320 rfl
theorem dX11_save_30 : decode cX11_save 30 = .ok (.aload_n 0, 1) := qd_o42 0 30 qd_g320 rfl
theorem dX11_save_31 : decode cX11_save 31 = .ok (.getfield 10, 3) := qd_o180 0 31 qd_g320 rfl rfl
theorem dX11_save_34 : decode cX11_save 34 = .ok (.invokevirtual 193, 3) := qd_o182 0 34 qd_g320 rfl rfl
theorem dX11_save_37 : decode cX11_save 37 = .ok (.aload_n 0, 1) := qd_o42 0 37 qd_g320 rfl
theorem dX11_save_38 : decode cX11_save 38 = .ok (.iload_n 1, 1) := qd_o27 0 38 qd_g320 rfl
theorem dX11_save_39 : decode cX11_save 39 = .ok (.iconst 1, 1) := qd_o4 0 39 qd_g320 rfl
theorem qd_g321 : qd_bs cX11_save 40 [96, 181, 0, 188, 27, 172] = true := by decide +kernel
theorem dX11_save_40 : decode cX11_save 40 = .ok (.iadd, 1) := qd_o96 40 0 qd_g321 rfl
theorem dX11_save_41 : decode cX11_save 41 = .ok (.putfield 188, 3) := qd_o181 40 1 qd_g321 rfl rfl
theorem dX11_save_44 : decode cX11_save 44 = .ok (.iload_n 1, 1) := qd_o27 40 4 qd_g321 rfl
theorem dX11_save_45 : decode cX11_save 45 = .ok (.ireturn, 1) := qd_o172 40 5 qd_g321 rfl
theorem qd_g322 : qd_bs cX11_restore 0 [42, 27, 182, 0, 197, 77, 44, 199, 0, 13, 187, 0, 201, 89, 18, 203, 183, 0, 205, 191, 42, 180, 0, 10, 180, 0, 60, 180, 0, 70, 44, 180, 0, 60, 180, 0, 70, 182, 0, 206] = true := by decide +kernel
theorem dX11_restore_0 : decode cX11_restore 0 = .ok (.aload_n 0, 1) := qd_o42 0 0 qd_g322 rfl
theorem dX11_restore_1 : decode cX11_restore 1 = .ok (.iload_n 1, 1) := qd_o27 0 1 qd_g322 rfl
theorem dX11_restore_2 : decode cX11_restore 2 = .ok (.invokevirtual 197, 3) := qd_o182 0 2 qd_g322 rfl rfl
theorem dX11_restore_5 : decode cX11_restore 5 = .ok (.astore_n 2, 1) := qd_o77 0 5 qd_g322 rfl
theorem dX11_restore_6 : decode cX11_restore 6 = .ok (.aload_n 2, 1) := qd_o44 0 6 qd_g322 rfl
theorem dX11_restore_7 : decode cX11_restore 7 = .ok (.ifnonnull 13, 3) := qd_o199 0 7 qd_g322 rfl rfl
theorem dX11_restore_10 : decode cX11_restore 10 = .ok (.new 201, 3) := qd_o187 0 10 qd_g322 rfl rfl
theorem dX11_restore_13 : decode cX11_restore 13 = .ok (.dup, 1) := qd_o89 0 13 qd_g322 rfl
theorem dX11_restore_14 : decode cX11_restore 14 = .ok (.ldc 203, 2) := qd_o18 0 14 qd_g322 rfl rfl
theorem dX11_restore_16 : decode cX11_restore 16 = .ok (.invokespecial 205, 3) := qd_o183 0 16 qd_g322 rfl rfl
theorem dX11_restore_19 : decode cX11_restore 19 = .ok (.athrow, 1) := qd_o191 0 19 qd_g322 rfl
theorem dX11_restore_20 : decode cX11_restore 20 = .ok (.aload_n 0, 1) := qd_o42 0 20 qd_g322 rfl
theorem dX11_restore_21 : decode cX11_restore 21 = .ok (.getfield 10, 3) := qd_o180 0 21 qd_g322 rfl rfl
theorem dX11_restore_24 : decode cX11_restore 24 = .ok (.getfield 60, 3) := qd_o180 0 24 qd_g322 rfl rfl
theorem dX11_restore_27 : decode cX11_restore 27 = .ok (.getfield 70, 3) := qd_o180 0 27 qd_g322 rfl rfl
theorem dX11_restore_30 : decode cX11_restore 30 = .ok (.aload_n 2, 1) := qd_o44 0 30 qd_g322 rfl
theorem dX11_restore_31 : decode cX11_restore 31 = .ok (.getfield 60, 3) := qd_o180 0 31 qd_g322 rfl rfl
theorem dX11_restore_34 : decode cX11_restore 34 = .ok (.getfield 70, 3) := qd_o180 0 34 qd_g322 rfl rfl
theorem dX11_restore_37 : decode cX11_restore 37 = .ok (.invokevirtual 206, 3) := qd_o182 0 37 qd_g322 rfl rfl
theorem qd_g323 : qd_bs cX11_restore 40 [62, 42, 180, 0, 10, 44, 182, 0, 193, 42, 180, 0, 23, 3, 181, 0, 210, 29, 172] = true := by decide +kernel
theorem dX11_restore_40 : decode cX11_restore 40 = .ok (.istore_n 3, 1) := qd_o62 40 0 qd_g323 rfl
theorem dX11_restore_41 : decode cX11_restore 41 = .ok (.aload_n 0, 1) := qd_o42 40 1 qd_g323 rfl
theorem dX11_restore_42 : decode cX11_restore 42 = .ok (.getfield 10, 3) := qd_o180 40 2 qd_g323 rfl rfl
theorem dX11_restore_45 : decode cX11_restore 45 = .ok (.aload_n 2, 1) := qd_o44 40 5 qd_g323 rfl
theorem dX11_restore_46 : decode cX11_restore 46 = .ok (.invokevirtual 193, 3) := qd_o182 40 6 qd_g323 rfl rfl
theorem dX11_restore_49 : decode cX11_restore 49 = .ok (.aload_n 0, 1) := qd_o42 40 9 qd_g323 rfl
theorem dX11_restore_50 : decode cX11_restore 50 = .ok (.getfield 23, 3) := qd_o180 40 10 qd_g323 rfl rfl
theorem dX11_restore_53 : decode cX11_restore 53 = .ok (.iconst 0, 1) := qd_o3 40 13 qd_g323 rfl
theorem dX11_restore_54 : decode cX11_restore 54 = .ok (.putfield 210, 3) := qd_o181 40 14 qd_g323 rfl rfl
theorem dX11_restore_57 : decode cX11_restore 57 = .ok (.iload_n 3, 1) := qd_o29 40 17 qd_g323 rfl
theorem dX11_restore_58 : decode cX11_restore 58 = .ok (.ireturn, 1) := qd_o172 40 18 qd_g323 rfl
theorem qd_g324 : qd_bs cX11_differences 0 [42, 27, 182, 0, 197, 77, 44, 199, 0, 13, 187, 0, 201, 89, 18, 203, 183, 0, 205, 191, 42, 180, 0, 10, 180, 0, 60, 180, 0, 70, 44, 180, 0, 60, 180, 0, 70, 182, 0, 206] = true := by decide +kernel
theorem dX11_differences_0 : decode cX11_differences 0 = .ok (.aload_n 0, 1) := qd_o42 0 0 qd_g324 rfl
theorem dX11_differences_1 : decode cX11_differences 1 = .ok (.iload_n 1, 1) := qd_o27 0 1 qd_g324 rfl
theorem dX11_differences_2 : decode cX11_differences 2 = .ok (.invokevirtual 197, 3) := qd_o182 0 2 qd_g324 rfl rfl
theorem dX11_differences_5 : decode cX11_differences 5 = .ok (.astore_n 2, 1) := qd_o77 0 5 qd_g324 rfl
theorem dX11_differences_6 : decode cX11_differences 6 = .ok (.aload_n 2, 1) := qd_o44 0 6 qd_g324 rfl
theorem dX11_differences_7 : decode cX11_differences 7 = .ok (.ifnonnull 13, 3) := qd_o199 0 7 qd_g324 rfl rfl
theorem dX11_differences_10 : decode cX11_differences 10 = .ok (.new 201, 3) := qd_o187 0 10 qd_g324 rfl rfl
theorem dX11_differences_13 : decode cX11_differences 13 = .ok (.dup, 1) := qd_o89 0 13 qd_g324 rfl
theorem dX11_differences_14 : decode cX11_differences 14 = .ok (.ldc 203, 2) := qd_o18 0 14 qd_g324 rfl rfl
theorem dX11_differences_16 : decode cX11_differences 16 = .ok (.invokespecial 205, 3) := qd_o183 0 16 qd_g324 rfl rfl
theorem dX11_differences_19 : decode cX11_differences 19 = .ok (.athrow, 1) := qd_o191 0 19 qd_g324 rfl
theorem dX11_differences_20 : decode cX11_differences 20 = .ok (.aload_n 0, 1) := qd_o42 0 20 qd_g324 rfl
theorem dX11_differences_21 : decode cX11_differences 21 = .ok (.getfield 10, 3) := qd_o180 0 21 qd_g324 rfl rfl
theorem dX11_differences_24 : decode cX11_differences 24 = .ok (.getfield 60, 3) := qd_o180 0 24 qd_g324 rfl rfl
theorem dX11_differences_27 : decode cX11_differences 27 = .ok (.getfield 70, 3) := qd_o180 0 27 qd_g324 rfl rfl
theorem dX11_differences_30 : decode cX11_differences 30 = .ok (.aload_n 2, 1) := qd_o44 0 30 qd_g324 rfl
theorem dX11_differences_31 : decode cX11_differences 31 = .ok (.getfield 60, 3) := qd_o180 0 31 qd_g324 rfl rfl
theorem dX11_differences_34 : decode cX11_differences 34 = .ok (.getfield 70, 3) := qd_o180 0 34 qd_g324 rfl rfl
theorem dX11_differences_37 : decode cX11_differences 37 = .ok (.invokevirtual 206, 3) := qd_o182 0 37 qd_g324 rfl rfl
theorem qd_g325 : qd_bs cX11_differences 40 [172] = true := by decide +kernel
theorem dX11_differences_40 : decode cX11_differences 40 = .ok (.ireturn, 1) := qd_o172 40 0 qd_g325 rfl
theorem qd_g326 : qd_bs cX11_startRecord 0 [42, 180, 0, 23, 180, 0, 210, 153, 0, 13, 42, 180, 0, 23, 180, 0, 213, 167, 0, 4, 3, 60, 42, 180, 0, 23, 42, 180, 0, 10, 182, 0, 214, 27, 172] = true := by decide +kernel
theorem dX11_startRecord_0 : decode cX11_startRecord 0 = .ok (.aload_n 0, 1) := qd_o42 0 0 qd_g326 rfl
theorem dX11_startRecord_1 : decode cX11_startRecord 1 = .ok (.getfield 23, 3) := qd_o180 0 1 qd_g326 rfl rfl
theorem dX11_startRecord_4 : decode cX11_startRecord 4 = .ok (.getfield 210, 3) := qd_o180 0 4 qd_g326 rfl rfl
theorem dX11_startRecord_7 : decode cX11_startRecord 7 = .ok (.ifCond .eq 13, 3) := qd_o153 0 7 qd_g326 rfl rfl
theorem dX11_startRecord_10 : decode cX11_startRecord 10 = .ok (.aload_n 0, 1) := qd_o42 0 10 qd_g326 rfl
theorem dX11_startRecord_11 : decode cX11_startRecord 11 = .ok (.getfield 23, 3) := qd_o180 0 11 qd_g326 rfl rfl
theorem dX11_startRecord_14 : decode cX11_startRecord 14 = .ok (.getfield 213, 3) := qd_o180 0 14 qd_g326 rfl rfl
theorem dX11_startRecord_17 : decode cX11_startRecord 17 = .ok (.goto 4, 3) := qd_o167 0 17 qd_g326 rfl rfl
theorem dX11_startRecord_20 : decode cX11_startRecord 20 = .ok (.iconst 0, 1) := qd_o3 0 20 qd_g326 rfl
theorem dX11_startRecord_21 : decode cX11_startRecord 21 = .ok (.istore_n 1, 1) := qd_o60 0 21 qd_g326 rfl
theorem dX11_startRecord_22 : decode cX11_startRecord 22 = .ok (.aload_n 0, 1) := qd_o42 0 22 qd_g326 rfl
theorem dX11_startRecord_23 : decode cX11_startRecord 23 = .ok (.getfield 23, 3) := qd_o180 0 23 qd_g326 rfl rfl
theorem dX11_startRecord_26 : decode cX11_startRecord 26 = .ok (.aload_n 0, 1) := qd_o42 0 26 qd_g326 rfl
theorem dX11_startRecord_27 : decode cX11_startRecord 27 = .ok (.getfield 10, 3) := qd_o180 0 27 qd_g326 rfl rfl
theorem dX11_startRecord_30 : decode cX11_startRecord 30 = .ok (.invokevirtual 214, 3) := qd_o182 0 30 qd_g326 rfl rfl
theorem dX11_startRecord_33 : decode cX11_startRecord 33 = .ok (.iload_n 1, 1) := qd_o27 0 33 qd_g326 rfl
theorem dX11_startRecord_34 : decode cX11_startRecord 34 = .ok (.ireturn, 1) := qd_o172 0 34 qd_g326 rfl
theorem qd_g327 : qd_bs cX11_recorded 0 [42, 180, 0, 23, 180, 0, 210, 154, 0, 13, 187, 0, 113, 89, 18, 217, 183, 0, 117, 191, 42, 180, 0, 23, 180, 0, 213, 172] = true := by decide +kernel
theorem dX11_recorded_0 : decode cX11_recorded 0 = .ok (.aload_n 0, 1) := qd_o42 0 0 qd_g327 rfl
theorem dX11_recorded_1 : decode cX11_recorded 1 = .ok (.getfield 23, 3) := qd_o180 0 1 qd_g327 rfl rfl
theorem dX11_recorded_4 : decode cX11_recorded 4 = .ok (.getfield 210, 3) := qd_o180 0 4 qd_g327 rfl rfl
theorem dX11_recorded_7 : decode cX11_recorded 7 = .ok (.ifCond .ne 13, 3) := qd_o154 0 7 qd_g327 rfl rfl
theorem dX11_recorded_10 : decode cX11_recorded 10 = .ok (.new 113, 3) := qd_o187 0 10 qd_g327 rfl rfl
theorem dX11_recorded_13 : decode cX11_recorded 13 = .ok (.dup, 1) := qd_o89 0 13 qd_g327 rfl
theorem dX11_recorded_14 : decode cX11_recorded 14 = .ok (.ldc 217, 2) := qd_o18 0 14 qd_g327 rfl rfl
theorem dX11_recorded_16 : decode cX11_recorded 16 = .ok (.invokespecial 117, 3) := qd_o183 0 16 qd_g327 rfl rfl
theorem dX11_recorded_19 : decode cX11_recorded 19 = .ok (.athrow, 1) := qd_o191 0 19 qd_g327 rfl
theorem dX11_recorded_20 : decode cX11_recorded 20 = .ok (.aload_n 0, 1) := qd_o42 0 20 qd_g327 rfl
theorem dX11_recorded_21 : decode cX11_recorded 21 = .ok (.getfield 23, 3) := qd_o180 0 21 qd_g327 rfl rfl
theorem dX11_recorded_24 : decode cX11_recorded 24 = .ok (.getfield 213, 3) := qd_o180 0 24 qd_g327 rfl rfl
theorem dX11_recorded_27 : decode cX11_recorded 27 = .ok (.ireturn, 1) := qd_o172 0 27 qd_g327 rfl
theorem qd_g328 : qd_bs cX11_isSame 0 [42, 180, 0, 23, 76, 43, 180, 0, 210, 154, 0, 13, 187, 0, 113, 89, 18, 217, 183, 0, 117, 191, 43, 180, 0, 219, 61, 28, 43, 180, 0, 213, 162, 0, 47, 28, 17, 1, 255, 126] = true := by decide +kernel
theorem dX11_isSame_0 : decode cX11_isSame 0 = .ok (.aload_n 0, 1) := qd_o42 0 0 qd_g328 rfl
theorem dX11_isSame_1 : decode cX11_isSame 1 = .ok (.getfield 23, 3) := qd_o180 0 1 qd_g328 rfl rfl
theorem dX11_isSame_4 : decode cX11_isSame 4 = .ok (.astore_n 1, 1) := qd_o76 0 4 qd_g328 rfl
theorem dX11_isSame_5 : decode cX11_isSame 5 = .ok (.aload_n 1, 1) := qd_o43 0 5 qd_g328 rfl
theorem dX11_isSame_6 : decode cX11_isSame 6 = .ok (.getfield 210, 3) := qd_o180 0 6 qd_g328 rfl rfl
theorem dX11_isSame_9 : decode cX11_isSame 9 = .ok (.ifCond .ne 13, 3) := qd_o154 0 9 qd_g328 rfl rfl
theorem dX11_isSame_12 : decode cX11_isSame 12 = .ok (.new 113, 3) := qd_o187 0 12 qd_g328 rfl rfl
theorem dX11_isSame_15 : decode cX11_isSame 15 = .ok (.dup, 1) := qd_o89 0 15 qd_g328 rfl
theorem dX11_isSame_16 : decode cX11_isSame 16 = .ok (.ldc 217, 2) := qd_o18 0 16 qd_g328 rfl rfl
theorem dX11_isSame_18 : decode cX11_isSame 18 = .ok (.invokespecial 117, 3) := qd_o183 0 18 qd_g328 rfl rfl
theorem dX11_isSame_21 : decode cX11_isSame 21 = .ok (.athrow, 1) := qd_o191 0 21 qd_g328 rfl
theorem dX11_isSame_22 : decode cX11_isSame 22 = .ok (.aload_n 1, 1) := qd_o43 0 22 qd_g328 rfl
theorem dX11_isSame_23 : decode cX11_isSame 23 = .ok (.getfield 219, 3) := qd_o180 0 23 qd_g328 rfl rfl
theorem dX11_isSame_26 : decode cX11_isSame 26 = .ok (.istore_n 2, 1) := qd_o61 0 26 qd_g328 rfl
theorem dX11_isSame_27 : decode cX11_isSame 27 = .ok (.iload_n 2, 1) := qd_o28 0 27 qd_g328 rfl
theorem dX11_isSame_28 : decode cX11_isSame 28 = .ok (.aload_n 1, 1) := qd_o43 0 28 qd_g328 rfl
theorem dX11_isSame_29 : decode cX11_isSame 29 = .ok (.getfield 213, 3) := qd_o180 0 29 qd_g328 rfl rfl
theorem dX11_isSame_32 : decode cX11_isSame 32 = .ok (.if_icmp .ge 47, 3) := qd_o162 0 32 qd_g328 rfl rfl
theorem dX11_isSame_35 : decode cX11_isSame 35 = .ok (.iload_n 2, 1) := qd_o28 0 35 qd_g328 rfl
theorem dX11_isSame_36 : decode cX11_isSame 36 = .ok (.sipush 511, 3) := qd_o17 0 36 qd_g328 rfl rfl
theorem dX11_isSame_39 : decode cX11_isSame 39 = .ok (.iand, 1) := qd_o126 0 39 qd_g328 rfl
theorem qd_g329 : qd_bs cX11_isSame 40 [62, 43, 180, 0, 222, 43, 180, 0, 223, 29, 46, 43, 180, 0, 226, 29, 46, 43, 180, 0, 229, 29, 46, 43, 180, 0, 232, 29, 46, 182, 0, 52, 87, 132, 2, 1, 167, 255, 207, 43] = true := by decide +kernel
theorem dX11_isSame_40 : decode cX11_isSame 40 = .ok (.istore_n 3, 1) := qd_o62 40 0 qd_g329 rfl
theorem dX11_isSame_41 : decode cX11_isSame 41 = .ok (.aload_n 1, 1) := qd_o43 40 1 qd_g329 rfl
theorem dX11_isSame_42 : decode cX11_isSame 42 = .ok (.getfield 222, 3) := qd_o180 40 2 qd_g329 rfl rfl
theorem dX11_isSame_45 : decode cX11_isSame 45 = .ok (.aload_n 1, 1) := qd_o43 40 5 qd_g329 rfl
theorem dX11_isSame_46 : decode cX11_isSame 46 = .ok (.getfield 223, 3) := qd_o180 40 6 qd_g329 rfl rfl
theorem dX11_isSame_49 : decode cX11_isSame 49 = .ok (.iload_n 3, 1) := qd_o29 40 9 qd_g329 rfl
theorem dX11_isSame_50 : decode cX11_isSame 50 = .ok (.iaload, 1) := qd_o46 40 10 qd_g329 rfl
theorem dX11_isSame_51 : decode cX11_isSame 51 = .ok (.aload_n 1, 1) := qd_o43 40 11 qd_g329 rfl
theorem dX11_isSame_52 : decode cX11_isSame 52 = .ok (.getfield 226, 3) := qd_o180 40 12 qd_g329 rfl rfl
theorem dX11_isSame_55 : decode cX11_isSame 55 = .ok (.iload_n 3, 1) := qd_o29 40 15 qd_g329 rfl
theorem dX11_isSame_56 : decode cX11_isSame 56 = .ok (.iaload, 1) := qd_o46 40 16 qd_g329 rfl
theorem dX11_isSame_57 : decode cX11_isSame 57 = .ok (.aload_n 1, 1) := qd_o43 40 17 qd_g329 rfl
theorem dX11_isSame_58 : decode cX11_isSame 58 = .ok (.getfield 229, 3) := qd_o180 40 18 qd_g329 rfl rfl
theorem dX11_isSame_61 : decode cX11_isSame 61 = .ok (.iload_n 3, 1) := qd_o29 40 21 qd_g329 rfl
theorem dX11_isSame_62 : decode cX11_isSame 62 = .ok (.iaload, 1) := qd_o46 40 22 qd_g329 rfl
theorem dX11_isSame_63 : decode cX11_isSame 63 = .ok (.aload_n 1, 1) := qd_o43 40 23 qd_g329 rfl
theorem dX11_isSame_64 : decode cX11_isSame 64 = .ok (.getfield 232, 3) := qd_o180 40 24 qd_g329 rfl rfl
theorem dX11_isSame_67 : decode cX11_isSame 67 = .ok (.iload_n 3, 1) := qd_o29 40 27 qd_g329 rfl
theorem dX11_isSame_68 : decode cX11_isSame 68 = .ok (.iaload, 1) := qd_o46 40 28 qd_g329 rfl
theorem dX11_isSame_69 : decode cX11_isSame 69 = .ok (.invokevirtual 52, 3) := qd_o182 40 29 qd_g329 rfl rfl
theorem dX11_isSame_72 : decode cX11_isSame 72 = .ok (.pop, 1) := qd_o87 40 32 qd_g329 rfl
theorem dX11_isSame_73 : decode cX11_isSame 73 = .ok (.iinc 2 1, 3) := qd_o132 40 33 qd_g329 rfl rfl
theorem dX11_isSame_76 : decode cX11_isSame 76 = .ok (.goto (-49), 3) := qd_o167 40 36 qd_g329 rfl rfl
theorem dX11_isSame_79 : decode cX11_isSame 79 = .ok (.aload_n 1, 1) := qd_o43 40 39 qd_g329 rfl
theorem qd_g330 : qd_bs cX11_isSame 80 [43, 180, 0, 213, 181, 0, 219, 43, 180, 0, 222, 42, 180, 0, 10, 182, 0, 235, 172] = true := by decide +kernel
theorem dX11_isSame_80 : decode cX11_isSame 80 = .ok (.aload_n 1, 1) := qd_o43 80 0 qd_g330 rfl
theorem dX11_isSame_81 : decode cX11_isSame 81 = .ok (.getfield 213, 3) := qd_o180 80 1 qd_g330 rfl rfl
theorem dX11_isSame_84 : decode cX11_isSame 84 = .ok (.putfield 219, 3) := qd_o181 80 4 qd_g330 rfl rfl
theorem dX11_isSame_87 : decode cX11_isSame 87 = .ok (.aload_n 1, 1) := qd_o43 80 7 qd_g330 rfl
theorem dX11_isSame_88 : decode cX11_isSame 88 = .ok (.getfield 222, 3) := qd_o180 80 8 qd_g330 rfl rfl
theorem dX11_isSame_91 : decode cX11_isSame 91 = .ok (.aload_n 0, 1) := qd_o42 80 11 qd_g330 rfl
theorem dX11_isSame_92 : decode cX11_isSame 92 = .ok (.getfield 10, 3) := qd_o180 80 12 qd_g330 rfl rfl
theorem dX11_isSame_95 : decode cX11_isSame 95 = .ok (.invokevirtual 235, 3) := qd_o182 80 15 qd_g330 rfl rfl
theorem dX11_isSame_98 : decode cX11_isSame 98 = .ok (.ireturn, 1) := qd_o172 80 18 qd_g330 rfl
theorem qd_g331 : qd_bs cX11_sumOfPicture 0 [3, 60, 3, 61, 28, 17, 4, 0, 162, 0, 24, 16, 31, 27, 104, 42, 180, 0, 10, 180, 0, 146, 28, 46, 96, 60, 132, 2, 1, 167, 255, 231, 27, 172] = true := by decide +kernel
theorem dX11_sumOfPicture_0 : decode cX11_sumOfPicture 0 = .ok (.iconst 0, 1) := qd_o3 0 0 qd_g331 rfl
theorem dX11_sumOfPicture_1 : decode cX11_sumOfPicture 1 = .ok (.istore_n 1, 1) := qd_o60 0 1 qd_g331 rfl
theorem dX11_sumOfPicture_2 : decode cX11_sumOfPicture 2 = .ok (.iconst 0, 1) := qd_o3 0 2 qd_g331 rfl
theorem dX11_sumOfPicture_3 : decode cX11_sumOfPicture 3 = .ok (.istore_n 2, 1) := qd_o61 0 3 qd_g331 rfl
theorem dX11_sumOfPicture_4 : decode cX11_sumOfPicture 4 = .ok (.iload_n 2, 1) := qd_o28 0 4 qd_g331 rfl
theorem dX11_sumOfPicture_5 : decode cX11_sumOfPicture 5 = .ok (.sipush 1024, 3) := qd_o17 0 5 qd_g331 rfl rfl
theorem dX11_sumOfPicture_8 : decode cX11_sumOfPicture 8 = .ok (.if_icmp .ge 24, 3) := qd_o162 0 8 qd_g331 rfl rfl
theorem dX11_sumOfPicture_11 : decode cX11_sumOfPicture 11 = .ok (.bipush 31, 2) := qd_o16 0 11 qd_g331 rfl rfl
theorem dX11_sumOfPicture_13 : decode cX11_sumOfPicture 13 = .ok (.iload_n 1, 1) := qd_o27 0 13 qd_g331 rfl
theorem dX11_sumOfPicture_14 : decode cX11_sumOfPicture 14 = .ok (.imul, 1) := qd_o104 0 14 qd_g331 rfl
theorem dX11_sumOfPicture_15 : decode cX11_sumOfPicture 15 = .ok (.aload_n 0, 1) := qd_o42 0 15 qd_g331 rfl
theorem dX11_sumOfPicture_16 : decode cX11_sumOfPicture 16 = .ok (.getfield 10, 3) := qd_o180 0 16 qd_g331 rfl rfl
theorem dX11_sumOfPicture_19 : decode cX11_sumOfPicture 19 = .ok (.getfield 146, 3) := qd_o180 0 19 qd_g331 rfl rfl
theorem dX11_sumOfPicture_22 : decode cX11_sumOfPicture 22 = .ok (.iload_n 2, 1) := qd_o28 0 22 qd_g331 rfl
theorem dX11_sumOfPicture_23 : decode cX11_sumOfPicture 23 = .ok (.iaload, 1) := qd_o46 0 23 qd_g331 rfl
theorem dX11_sumOfPicture_24 : decode cX11_sumOfPicture 24 = .ok (.iadd, 1) := qd_o96 0 24 qd_g331 rfl
theorem dX11_sumOfPicture_25 : decode cX11_sumOfPicture 25 = .ok (.istore_n 1, 1) := qd_o60 0 25 qd_g331 rfl
theorem dX11_sumOfPicture_26 : decode cX11_sumOfPicture 26 = .ok (.iinc 2 1, 3) := qd_o132 0 26 qd_g331 rfl rfl
theorem dX11_sumOfPicture_29 : decode cX11_sumOfPicture 29 = .ok (.goto (-25), 3) := qd_o167 0 29 qd_g331 rfl rfl
theorem dX11_sumOfPicture_32 : decode cX11_sumOfPicture 32 = .ok (.iload_n 1, 1) := qd_o27 0 32 qd_g331 rfl
theorem dX11_sumOfPicture_33 : decode cX11_sumOfPicture 33 = .ok (.ireturn, 1) := qd_o172 0 33 qd_g331 rfl
theorem qd_g332 : qd_bs cX11_pictures 0 [42, 180, 0, 10, 180, 0, 239, 173] = true := by decide +kernel
theorem dX11_pictures_0 : decode cX11_pictures 0 = .ok (.aload_n 0, 1) := qd_o42 0 0 qd_g332 rfl
theorem dX11_pictures_1 : decode cX11_pictures 1 = .ok (.getfield 10, 3) := qd_o180 0 1 qd_g332 rfl rfl
theorem dX11_pictures_4 : decode cX11_pictures 4 = .ok (.getfield 239, 3) := qd_o180 0 4 qd_g332 rfl rfl
theorem dX11_pictures_7 : decode cX11_pictures 7 = .ok (.lreturn, 1) := qd_o173 0 7 qd_g332 rfl
theorem qd_g333 : qd_bs cX11_solidShare 0 [42, 180, 0, 10, 180, 0, 60, 180, 0, 70, 180, 0, 242, 6, 46, 60, 3, 61, 3, 62, 29, 17, 4, 0, 162, 0, 25, 42, 180, 0, 10, 180, 0, 146, 29, 46, 27, 159, 0, 6] = true := by decide +kernel
theorem dX11_solidShare_0 : decode cX11_solidShare 0 = .ok (.aload_n 0, 1) := qd_o42 0 0 qd_g333 rfl
theorem dX11_solidShare_1 : decode cX11_solidShare 1 = .ok (.getfield 10, 3) := qd_o180 0 1 qd_g333 rfl rfl
theorem dX11_solidShare_4 : decode cX11_solidShare 4 = .ok (.getfield 60, 3) := qd_o180 0 4 qd_g333 rfl rfl
theorem dX11_solidShare_7 : decode cX11_solidShare 7 = .ok (.getfield 70, 3) := qd_o180 0 7 qd_g333 rfl rfl
theorem dX11_solidShare_10 : decode cX11_solidShare 10 = .ok (.getfield 242, 3) := qd_o180 0 10 qd_g333 rfl rfl
theorem dX11_solidShare_13 : decode cX11_solidShare 13 = .ok (.iconst 3, 1) := qd_o6 0 13 qd_g333 rfl
theorem dX11_solidShare_14 : decode cX11_solidShare 14 = .ok (.iaload, 1) := qd_o46 0 14 qd_g333 rfl
theorem dX11_solidShare_15 : decode cX11_solidShare 15 = .ok (.istore_n 1, 1) := qd_o60 0 15 qd_g333 rfl
theorem dX11_solidShare_16 : decode cX11_solidShare 16 = .ok (.iconst 0, 1) := qd_o3 0 16 qd_g333 rfl
theorem dX11_solidShare_17 : decode cX11_solidShare 17 = .ok (.istore_n 2, 1) := qd_o61 0 17 qd_g333 rfl
theorem dX11_solidShare_18 : decode cX11_solidShare 18 = .ok (.iconst 0, 1) := qd_o3 0 18 qd_g333 rfl
theorem dX11_solidShare_19 : decode cX11_solidShare 19 = .ok (.istore_n 3, 1) := qd_o62 0 19 qd_g333 rfl
theorem dX11_solidShare_20 : decode cX11_solidShare 20 = .ok (.iload_n 3, 1) := qd_o29 0 20 qd_g333 rfl
theorem dX11_solidShare_21 : decode cX11_solidShare 21 = .ok (.sipush 1024, 3) := qd_o17 0 21 qd_g333 rfl rfl
theorem dX11_solidShare_24 : decode cX11_solidShare 24 = .ok (.if_icmp .ge 25, 3) := qd_o162 0 24 qd_g333 rfl rfl
theorem dX11_solidShare_27 : decode cX11_solidShare 27 = .ok (.aload_n 0, 1) := qd_o42 0 27 qd_g333 rfl
theorem dX11_solidShare_28 : decode cX11_solidShare 28 = .ok (.getfield 10, 3) := qd_o180 0 28 qd_g333 rfl rfl
theorem dX11_solidShare_31 : decode cX11_solidShare 31 = .ok (.getfield 146, 3) := qd_o180 0 31 qd_g333 rfl rfl
theorem dX11_solidShare_34 : decode cX11_solidShare 34 = .ok (.iload_n 3, 1) := qd_o29 0 34 qd_g333 rfl
theorem dX11_solidShare_35 : decode cX11_solidShare 35 = .ok (.iaload, 1) := qd_o46 0 35 qd_g333 rfl
theorem dX11_solidShare_36 : decode cX11_solidShare 36 = .ok (.iload_n 1, 1) := qd_o27 0 36 qd_g333 rfl
theorem dX11_solidShare_37 : decode cX11_solidShare 37 = .ok (.if_icmp .eq 6, 3) := qd_o159 0 37 qd_g333 rfl rfl
theorem qd_g334 : qd_bs cX11_solidShare 40 [132, 2, 1, 132, 3, 1, 167, 255, 230, 28, 134, 18, 245, 110, 174] = true := by decide +kernel
theorem dX11_solidShare_40 : decode cX11_solidShare 40 = .ok (.iinc 2 1, 3) := qd_o132 40 0 qd_g334 rfl rfl
theorem dX11_solidShare_43 : decode cX11_solidShare 43 = .ok (.iinc 3 1, 3) := qd_o132 40 3 qd_g334 rfl rfl
theorem dX11_solidShare_46 : decode cX11_solidShare 46 = .ok (.goto (-26), 3) := qd_o167 40 6 qd_g334 rfl rfl
theorem dX11_solidShare_49 : decode cX11_solidShare 49 = .ok (.iload_n 2, 1) := qd_o28 40 9 qd_g334 rfl
theorem dX11_solidShare_50 : decode cX11_solidShare 50 = .ok (.i2f, 1) := qd_o134 40 10 qd_g334 rfl
theorem dX11_solidShare_51 : decode cX11_solidShare 51 = .ok (.ldc 245, 2) := qd_o18 40 11 qd_g334 rfl rfl
theorem dX11_solidShare_53 : decode cX11_solidShare 53 = .ok (.fdiv, 1) := qd_o110 40 13 qd_g334 rfl
theorem dX11_solidShare_54 : decode cX11_solidShare 54 = .ok (.freturn, 1) := qd_o174 40 14 qd_g334 rfl
theorem qd_g335 : qd_bs cX11_meanSample 0 [3, 60, 3, 61, 28, 16, 40, 162, 0, 24, 27, 42, 180, 0, 10, 180, 0, 153, 180, 0, 157, 28, 46, 96, 60, 132, 2, 1, 167, 255, 232, 27, 135, 20, 0, 246, 111, 175] = true := by decide +kernel
theorem dX11_meanSample_0 : decode cX11_meanSample 0 = .ok (.iconst 0, 1) := qd_o3 0 0 qd_g335 rfl
theorem dX11_meanSample_1 : decode cX11_meanSample 1 = .ok (.istore_n 1, 1) := qd_o60 0 1 qd_g335 rfl
theorem dX11_meanSample_2 : decode cX11_meanSample 2 = .ok (.iconst 0, 1) := qd_o3 0 2 qd_g335 rfl
theorem dX11_meanSample_3 : decode cX11_meanSample 3 = .ok (.istore_n 2, 1) := qd_o61 0 3 qd_g335 rfl
theorem dX11_meanSample_4 : decode cX11_meanSample 4 = .ok (.iload_n 2, 1) := qd_o28 0 4 qd_g335 rfl
theorem dX11_meanSample_5 : decode cX11_meanSample 5 = .ok (.bipush 40, 2) := qd_o16 0 5 qd_g335 rfl rfl
theorem dX11_meanSample_7 : decode cX11_meanSample 7 = .ok (.if_icmp .ge 24, 3) := qd_o162 0 7 qd_g335 rfl rfl
theorem dX11_meanSample_10 : decode cX11_meanSample 10 = .ok (.iload_n 1, 1) := qd_o27 0 10 qd_g335 rfl
theorem dX11_meanSample_11 : decode cX11_meanSample 11 = .ok (.aload_n 0, 1) := qd_o42 0 11 qd_g335 rfl
theorem dX11_meanSample_12 : decode cX11_meanSample 12 = .ok (.getfield 10, 3) := qd_o180 0 12 qd_g335 rfl rfl
theorem dX11_meanSample_15 : decode cX11_meanSample 15 = .ok (.getfield 153, 3) := qd_o180 0 15 qd_g335 rfl rfl
theorem dX11_meanSample_18 : decode cX11_meanSample 18 = .ok (.getfield 157, 3) := qd_o180 0 18 qd_g335 rfl rfl
theorem dX11_meanSample_21 : decode cX11_meanSample 21 = .ok (.iload_n 2, 1) := qd_o28 0 21 qd_g335 rfl
theorem dX11_meanSample_22 : decode cX11_meanSample 22 = .ok (.iaload, 1) := qd_o46 0 22 qd_g335 rfl
theorem dX11_meanSample_23 : decode cX11_meanSample 23 = .ok (.iadd, 1) := qd_o96 0 23 qd_g335 rfl
theorem dX11_meanSample_24 : decode cX11_meanSample 24 = .ok (.istore_n 1, 1) := qd_o60 0 24 qd_g335 rfl
theorem dX11_meanSample_25 : decode cX11_meanSample 25 = .ok (.iinc 2 1, 3) := qd_o132 0 25 qd_g335 rfl rfl
theorem dX11_meanSample_28 : decode cX11_meanSample 28 = .ok (.goto (-24), 3) := qd_o167 0 28 qd_g335 rfl rfl
theorem dX11_meanSample_31 : decode cX11_meanSample 31 = .ok (.iload_n 1, 1) := qd_o27 0 31 qd_g335 rfl
theorem dX11_meanSample_32 : decode cX11_meanSample 32 = .ok (.i2d, 1) := qd_o135 0 32 qd_g335 rfl
theorem dX11_meanSample_33 : decode cX11_meanSample 33 = .ok (.ldc2_w 246, 3) := qd_o20 0 33 qd_g335 rfl rfl
theorem dX11_meanSample_36 : decode cX11_meanSample 36 = .ok (.ddiv, 1) := qd_o111 0 36 qd_g335 rfl
theorem dX11_meanSample_37 : decode cX11_meanSample 37 = .ok (.dreturn, 1) := qd_o175 0 37 qd_g335 rfl
theorem qd_g336 : qd_bs cX11_checkAddress 0 [26, 17, 16, 0, 184, 0, 56, 177] = true := by decide +kernel
theorem dX11_checkAddress_0 : decode cX11_checkAddress 0 = .ok (.iload_n 0, 1) := qd_o26 0 0 qd_g336 rfl
theorem dX11_checkAddress_1 : decode cX11_checkAddress 1 = .ok (.sipush 4096, 3) := qd_o17 0 1 qd_g336 rfl rfl
theorem dX11_checkAddress_4 : decode cX11_checkAddress 4 = .ok (.invokestatic 56, 3) := qd_o184 0 4 qd_g336 rfl rfl
theorem dX11_checkAddress_7 : decode cX11_checkAddress 7 = .ok (.return_, 1) := qd_o177 0 7 qd_g336 rfl
theorem qd_g337 : qd_bs cX11_checkIndex 0 [26, 155, 0, 8, 26, 27, 161, 0, 13, 187, 0, 248, 89, 18, 250, 183, 0, 252, 191, 177] = true := by decide +kernel
theorem dX11_checkIndex_0 : decode cX11_checkIndex 0 = .ok (.iload_n 0, 1) := qd_o26 0 0 qd_g337 rfl
theorem dX11_checkIndex_1 : decode cX11_checkIndex 1 = .ok (.ifCond .lt 8, 3) := qd_o155 0 1 qd_g337 rfl rfl
theorem dX11_checkIndex_4 : decode cX11_checkIndex 4 = .ok (.iload_n 0, 1) := qd_o26 0 4 qd_g337 rfl
theorem dX11_checkIndex_5 : decode cX11_checkIndex 5 = .ok (.iload_n 1, 1) := qd_o27 0 5 qd_g337 rfl
theorem dX11_checkIndex_6 : decode cX11_checkIndex 6 = .ok (.if_icmp .lt 13, 3) := qd_o161 0 6 qd_g337 rfl rfl
theorem dX11_checkIndex_9 : decode cX11_checkIndex 9 = .ok (.new 248, 3) := qd_o187 0 9 qd_g337 rfl rfl
theorem dX11_checkIndex_12 : decode cX11_checkIndex 12 = .ok (.dup, 1) := qd_o89 0 12 qd_g337 rfl
theorem dX11_checkIndex_13 : decode cX11_checkIndex 13 = .ok (.ldc 250, 2) := qd_o18 0 13 qd_g337 rfl rfl
theorem dX11_checkIndex_15 : decode cX11_checkIndex 15 = .ok (.invokespecial 252, 3) := qd_o183 0 15 qd_g337 rfl rfl
theorem dX11_checkIndex_18 : decode cX11_checkIndex 18 = .ok (.athrow, 1) := qd_o191 0 18 qd_g337 rfl
theorem dX11_checkIndex_19 : decode cX11_checkIndex 19 = .ok (.return_, 1) := qd_o177 0 19 qd_g337 rfl
theorem qd_g338 : qd_bs cX11_checkByte 0 [26, 3, 17, 0, 255, 184, 0, 77, 177] = true := by decide +kernel
theorem dX11_checkByte_0 : decode cX11_checkByte 0 = .ok (.iload_n 0, 1) := qd_o26 0 0 qd_g338 rfl
theorem dX11_checkByte_1 : decode cX11_checkByte 1 = .ok (.iconst 0, 1) := qd_o3 0 1 qd_g338 rfl
theorem dX11_checkByte_2 : decode cX11_checkByte 2 = .ok (.sipush 255, 3) := qd_o17 0 2 qd_g338 rfl rfl
theorem dX11_checkByte_5 : decode cX11_checkByte 5 = .ok (.invokestatic 77, 3) := qd_o184 0 5 qd_g338 rfl rfl
theorem dX11_checkByte_8 : decode cX11_checkByte 8 = .ok (.return_, 1) := qd_o177 0 8 qd_g338 rfl
theorem qd_g339 : qd_bs cX11_checkArgument 0 [26, 27, 161, 0, 8, 26, 28, 164, 0, 13, 187, 0, 253, 89, 18, 255, 183, 1, 1, 191, 177] = true := by decide +kernel
theorem dX11_checkArgument_0 : decode cX11_checkArgument 0 = .ok (.iload_n 0, 1) := qd_o26 0 0 qd_g339 rfl
theorem dX11_checkArgument_1 : decode cX11_checkArgument 1 = .ok (.iload_n 1, 1) := qd_o27 0 1 qd_g339 rfl
theorem dX11_checkArgument_2 : decode cX11_checkArgument 2 = .ok (.if_icmp .lt 8, 3) := qd_o161 0 2 qd_g339 rfl rfl
theorem dX11_checkArgument_5 : decode cX11_checkArgument 5 = .ok (.iload_n 0, 1) := qd_o26 0 5 qd_g339 rfl
theorem dX11_checkArgument_6 : decode cX11_checkArgument 6 = .ok (.iload_n 2, 1) := qd_o28 0 6 qd_g339 rfl
theorem dX11_checkArgument_7 : decode cX11_checkArgument 7 = .ok (.if_icmp .le 13, 3) := qd_o164 0 7 qd_g339 rfl rfl
theorem dX11_checkArgument_10 : decode cX11_checkArgument 10 = .ok (.new 253, 3) := qd_o187 0 10 qd_g339 rfl rfl
theorem dX11_checkArgument_13 : decode cX11_checkArgument 13 = .ok (.dup, 1) := qd_o89 0 13 qd_g339 rfl
theorem dX11_checkArgument_14 : decode cX11_checkArgument 14 = .ok (.ldc 255, 2) := qd_o18 0 14 qd_g339 rfl rfl
theorem dX11_checkArgument_16 : decode cX11_checkArgument 16 = .ok (.invokespecial 257, 3) := qd_o183 0 16 qd_g339 rfl rfl
theorem dX11_checkArgument_19 : decode cX11_checkArgument 19 = .ok (.athrow, 1) := qd_o191 0 19 qd_g339 rfl
theorem dX11_checkArgument_20 : decode cX11_checkArgument 20 = .ok (.return_, 1) := qd_o177 0 20 qd_g339 rfl
theorem qd_g340 : qd_bs cX11_snapshotOf 0 [27, 155, 0, 25, 27, 42, 180, 0, 188, 162, 0, 17, 27, 6, 162, 0, 12, 42, 180, 0, 16, 27, 50, 167, 0, 4, 1, 176] = true := by decide +kernel
theorem dX11_snapshotOf_0 : decode cX11_snapshotOf 0 = .ok (.iload_n 1, 1) := qd_o27 0 0 qd_g340 rfl
theorem dX11_snapshotOf_1 : decode cX11_snapshotOf 1 = .ok (.ifCond .lt 25, 3) := qd_o155 0 1 qd_g340 rfl rfl
theorem dX11_snapshotOf_4 : decode cX11_snapshotOf 4 = .ok (.iload_n 1, 1) := qd_o27 0 4 qd_g340 rfl
theorem dX11_snapshotOf_5 : decode cX11_snapshotOf 5 = .ok (.aload_n 0, 1) := qd_o42 0 5 qd_g340 rfl
theorem dX11_snapshotOf_6 : decode cX11_snapshotOf 6 = .ok (.getfield 188, 3) := qd_o180 0 6 qd_g340 rfl rfl
theorem dX11_snapshotOf_9 : decode cX11_snapshotOf 9 = .ok (.if_icmp .ge 17, 3) := qd_o162 0 9 qd_g340 rfl rfl
theorem dX11_snapshotOf_12 : decode cX11_snapshotOf 12 = .ok (.iload_n 1, 1) := qd_o27 0 12 qd_g340 rfl
theorem dX11_snapshotOf_13 : decode cX11_snapshotOf 13 = .ok (.iconst 3, 1) := qd_o6 0 13 qd_g340 rfl
theorem dX11_snapshotOf_14 : decode cX11_snapshotOf 14 = .ok (.if_icmp .ge 12, 3) := qd_o162 0 14 qd_g340 rfl rfl
theorem dX11_snapshotOf_17 : decode cX11_snapshotOf 17 = .ok (.aload_n 0, 1) := qd_o42 0 17 qd_g340 rfl
theorem dX11_snapshotOf_18 : decode cX11_snapshotOf 18 = .ok (.getfield 16, 3) := qd_o180 0 18 qd_g340 rfl rfl
theorem dX11_snapshotOf_21 : decode cX11_snapshotOf 21 = .ok (.iload_n 1, 1) := qd_o27 0 21 qd_g340 rfl
theorem dX11_snapshotOf_22 : decode cX11_snapshotOf 22 = .ok (.aaload, 1) := qd_o50 0 22 qd_g340 rfl
theorem dX11_snapshotOf_23 : decode cX11_snapshotOf 23 = .ok (.goto 4, 3) := qd_o167 0 23 qd_g340 rfl rfl
theorem dX11_snapshotOf_26 : decode cX11_snapshotOf 26 = .ok (.aconst_null, 1) := qd_o1 0 26 qd_g340 rfl
theorem dX11_snapshotOf_27 : decode cX11_snapshotOf 27 = .ok (.areturn, 1) := qd_o176 0 27 qd_g340 rfl
theorem qd_g341 : qd_bs cX12_init 0 [42, 183, 0, 1, 42, 17, 16, 0] = true := by decide +kernel
theorem dX12_init_0 : decode cX12_init 0 = .ok (.aload_n 0, 1) := qd_o42 0 0 qd_g341 rfl
theorem dX12_init_1 : decode cX12_init 1 = .ok (.invokespecial 1, 3) := qd_o183 0 1 qd_g341 rfl rfl
theorem dX12_init_4 : decode cX12_init 4 = .ok (.aload_n 0, 1) := qd_o42 0 4 qd_g341 rfl
theorem dX12_init_5 : decode cX12_init 5 = .ok (.sipush 4096, 3) := qd_o17 0 5 qd_g341 rfl rfl
theorem dX12_init_8 : decode cX12_init 8 = .ok (.newarray .int, 2) := by decide +kernel
theorem qd_g342 : qd_bs cX12_init 10 [181, 0, 7, 42, 17, 2, 0] = true := by decide +kernel
theorem dX12_init_10 : decode cX12_init 10 = .ok (.putfield 7, 3) := qd_o181 10 0 qd_g342 rfl rfl
theorem dX12_init_13 : decode cX12_init 13 = .ok (.aload_n 0, 1) := qd_o42 10 3 qd_g342 rfl
theorem dX12_init_14 : decode cX12_init 14 = .ok (.sipush 512, 3) := qd_o17 10 4 qd_g342 rfl rfl
theorem dX12_init_17 : decode cX12_init 17 = .ok (.newarray .int, 2) := by decide +kernel
theorem qd_g343 : qd_bs cX12_init 19 [181, 0, 13, 42, 17, 8, 0] = true := by decide +kernel
theorem dX12_init_19 : decode cX12_init 19 = .ok (.putfield 13, 3) := qd_o181 19 0 qd_g343 rfl rfl
theorem dX12_init_22 : decode cX12_init 22 = .ok (.aload_n 0, 1) := qd_o42 19 3 qd_g343 rfl
theorem dX12_init_23 : decode cX12_init 23 = .ok (.sipush 2048, 3) := qd_o17 19 4 qd_g343 rfl rfl
theorem dX12_init_26 : decode cX12_init 26 = .ok (.newarray .int, 2) := by decide +kernel
theorem qd_g344 : qd_bs cX12_init 28 [181, 0, 16, 42, 16, 48] = true := by decide +kernel
theorem dX12_init_28 : decode cX12_init 28 = .ok (.putfield 16, 3) := qd_o181 28 0 qd_g344 rfl rfl
theorem dX12_init_31 : decode cX12_init 31 = .ok (.aload_n 0, 1) := qd_o42 28 3 qd_g344 rfl
theorem dX12_init_32 : decode cX12_init 32 = .ok (.bipush 48, 2) := qd_o16 28 4 qd_g344 rfl rfl
theorem dX12_init_34 : decode cX12_init 34 = .ok (.newarray .int, 2) := by decide +kernel
theorem qd_g345 : qd_bs cX12_init 36 [181, 0, 19, 42, 17, 4, 0] = true := by decide +kernel
theorem dX12_init_36 : decode cX12_init 36 = .ok (.putfield 19, 3) := qd_o181 36 0 qd_g345 rfl rfl
theorem dX12_init_39 : decode cX12_init 39 = .ok (.aload_n 0, 1) := qd_o42 36 3 qd_g345 rfl
theorem dX12_init_40 : decode cX12_init 40 = .ok (.sipush 1024, 3) := qd_o17 36 4 qd_g345 rfl rfl
theorem dX12_init_43 : decode cX12_init 43 = .ok (.newarray .int, 2) := by decide +kernel
theorem qd_g346 : qd_bs cX12_init 45 [181, 0, 22, 42, 16, 40] = true := by decide +kernel
theorem dX12_init_45 : decode cX12_init 45 = .ok (.putfield 22, 3) := qd_o181 45 0 qd_g346 rfl rfl
theorem dX12_init_48 : decode cX12_init 48 = .ok (.aload_n 0, 1) := qd_o42 45 3 qd_g346 rfl
theorem dX12_init_49 : decode cX12_init 49 = .ok (.bipush 40, 2) := qd_o16 45 4 qd_g346 rfl rfl
theorem dX12_init_51 : decode cX12_init 51 = .ok (.newarray .int, 2) := by decide +kernel
theorem qd_g347 : qd_bs cX12_init 53 [181, 0, 25, 42, 16, 16] = true := by decide +kernel
theorem dX12_init_53 : decode cX12_init 53 = .ok (.putfield 25, 3) := qd_o181 53 0 qd_g347 rfl rfl
theorem dX12_init_56 : decode cX12_init 56 = .ok (.aload_n 0, 1) := qd_o42 53 3 qd_g347 rfl
theorem dX12_init_57 : decode cX12_init 57 = .ok (.bipush 16, 2) := qd_o16 53 4 qd_g347 rfl rfl
theorem dX12_init_59 : decode cX12_init 59 = .ok (.newarray .boolean, 2) := by decide +kernel
theorem qd_g348 : qd_bs cX12_init 61 [181, 0, 28, 42, 16, 40] = true := by decide +kernel
theorem dX12_init_61 : decode cX12_init 61 = .ok (.putfield 28, 3) := qd_o181 61 0 qd_g348 rfl rfl
theorem dX12_init_64 : decode cX12_init 64 = .ok (.aload_n 0, 1) := qd_o42 61 3 qd_g348 rfl
theorem dX12_init_65 : decode cX12_init 65 = .ok (.bipush 40, 2) := qd_o16 61 4 qd_g348 rfl rfl
theorem dX12_init_67 : decode cX12_init 67 = .ok (.newarray .int, 2) := by decide +kernel
theorem qd_g349 : qd_bs cX12_init 69 [181, 0, 32, 42, 16, 16] = true := by decide +kernel
theorem dX12_init_69 : decode cX12_init 69 = .ok (.putfield 32, 3) := qd_o181 69 0 qd_g349 rfl rfl
theorem dX12_init_72 : decode cX12_init 72 = .ok (.aload_n 0, 1) := qd_o42 69 3 qd_g349 rfl
theorem dX12_init_73 : decode cX12_init 73 = .ok (.bipush 16, 2) := qd_o16 69 4 qd_g349 rfl rfl
theorem dX12_init_75 : decode cX12_init 75 = .ok (.newarray .int, 2) := by decide +kernel
theorem qd_g350 : qd_bs cX12_init 77 [181, 0, 35, 42, 6] = true := by decide +kernel
theorem dX12_init_77 : decode cX12_init 77 = .ok (.putfield 35, 3) := qd_o181 77 0 qd_g350 rfl rfl
theorem dX12_init_80 : decode cX12_init 80 = .ok (.aload_n 0, 1) := qd_o42 77 3 qd_g350 rfl
theorem dX12_init_81 : decode cX12_init 81 = .ok (.iconst 3, 1) := qd_o6 77 4 qd_g350 rfl
theorem dX12_init_82 : decode cX12_init 82 = .ok (.newarray .int, 2) := by decide +kernel
theorem qd_g351 : qd_bs cX12_init 84 [181, 0, 38, 42, 6] = true := by decide +kernel
theorem dX12_init_84 : decode cX12_init 84 = .ok (.putfield 38, 3) := qd_o181 84 0 qd_g351 rfl rfl
theorem dX12_init_87 : decode cX12_init 87 = .ok (.aload_n 0, 1) := qd_o42 84 3 qd_g351 rfl
theorem dX12_init_88 : decode cX12_init 88 = .ok (.iconst 3, 1) := qd_o6 84 4 qd_g351 rfl
theorem dX12_init_89 : decode cX12_init 89 = .ok (.newarray .int, 2) := by decide +kernel
theorem qd_g352 : qd_bs cX12_init 91 [181, 0, 41, 42, 6] = true := by decide +kernel
theorem dX12_init_91 : decode cX12_init 91 = .ok (.putfield 41, 3) := qd_o181 91 0 qd_g352 rfl rfl
theorem dX12_init_94 : decode cX12_init 94 = .ok (.aload_n 0, 1) := qd_o42 91 3 qd_g352 rfl
theorem dX12_init_95 : decode cX12_init 95 = .ok (.iconst 3, 1) := qd_o6 91 4 qd_g352 rfl
theorem dX12_init_96 : decode cX12_init 96 = .ok (.newarray .int, 2) := by decide +kernel
theorem qd_g353 : qd_bs cX12_init 98 [181, 0, 44, 42, 6] = true := by decide +kernel
theorem dX12_init_98 : decode cX12_init 98 = .ok (.putfield 44, 3) := qd_o181 98 0 qd_g353 rfl rfl
theorem dX12_init_101 : decode cX12_init 101 = .ok (.aload_n 0, 1) := qd_o42 98 3 qd_g353 rfl
theorem dX12_init_102 : decode cX12_init 102 = .ok (.iconst 3, 1) := qd_o6 98 4 qd_g353 rfl
theorem dX12_init_103 : decode cX12_init 103 = .ok (.newarray .int, 2) := by decide +kernel
theorem qd_g354 : qd_bs cX12_init 105 [89, 3, 4, 79, 89, 4, 4, 79, 89, 5, 4, 79, 181, 0, 47, 42, 16, 24] = true := by decide +kernel
theorem dX12_init_105 : decode cX12_init 105 = .ok (.dup, 1) := qd_o89 105 0 qd_g354 rfl
theorem dX12_init_106 : decode cX12_init 106 = .ok (.iconst 0, 1) := qd_o3 105 1 qd_g354 rfl
theorem dX12_init_107 : decode cX12_init 107 = .ok (.iconst 1, 1) := qd_o4 105 2 qd_g354 rfl
theorem dX12_init_108 : decode cX12_init 108 = .ok (.iastore, 1) := qd_o79 105 3 qd_g354 rfl
theorem dX12_init_109 : decode cX12_init 109 = .ok (.dup, 1) := qd_o89 105 4 qd_g354 rfl
theorem dX12_init_110 : decode cX12_init 110 = .ok (.iconst 1, 1) := qd_o4 105 5 qd_g354 rfl
theorem dX12_init_111 : decode cX12_init 111 = .ok (.iconst 1, 1) := qd_o4 105 6 qd_g354 rfl
theorem dX12_init_112 : decode cX12_init 112 = .ok (.iastore, 1) := qd_o79 105 7 qd_g354 rfl
theorem dX12_init_113 : decode cX12_init 113 = .ok (.dup, 1) := qd_o89 105 8 qd_g354 rfl
theorem dX12_init_114 : decode cX12_init 114 = .ok (.iconst 2, 1) := qd_o5 105 9 qd_g354 rfl
theorem dX12_init_115 : decode cX12_init 115 = .ok (.iconst 1, 1) := qd_o4 105 10 qd_g354 rfl
theorem dX12_init_116 : decode cX12_init 116 = .ok (.iastore, 1) := qd_o79 105 11 qd_g354 rfl
theorem dX12_init_117 : decode cX12_init 117 = .ok (.putfield 47, 3) := qd_o181 105 12 qd_g354 rfl rfl
theorem dX12_init_120 : decode cX12_init 120 = .ok (.aload_n 0, 1) := qd_o42 105 15 qd_g354 rfl
theorem dX12_init_121 : decode cX12_init 121 = .ok (.bipush 24, 2) := qd_o16 105 16 qd_g354 rfl rfl
theorem dX12_init_123 : decode cX12_init 123 = .ok (.newarray .int, 2) := by decide +kernel
theorem qd_g355 : qd_bs cX12_init 125 [181, 0, 50, 42, 16, 8] = true := by decide +kernel
theorem dX12_init_125 : decode cX12_init 125 = .ok (.putfield 50, 3) := qd_o181 125 0 qd_g355 rfl rfl
theorem dX12_init_128 : decode cX12_init 128 = .ok (.aload_n 0, 1) := qd_o42 125 3 qd_g355 rfl
theorem dX12_init_129 : decode cX12_init 129 = .ok (.bipush 8, 2) := qd_o16 125 4 qd_g355 rfl rfl
theorem dX12_init_131 : decode cX12_init 131 = .ok (.newarray .boolean, 2) := by decide +kernel
theorem qd_g356 : qd_bs cX12_init 133 [181, 0, 53, 42, 17, 48, 0] = true := by decide +kernel
theorem dX12_init_133 : decode cX12_init 133 = .ok (.putfield 53, 3) := qd_o181 133 0 qd_g356 rfl rfl
theorem dX12_init_136 : decode cX12_init 136 = .ok (.aload_n 0, 1) := qd_o42 133 3 qd_g356 rfl
theorem dX12_init_137 : decode cX12_init 137 = .ok (.sipush 12288, 3) := qd_o17 133 4 qd_g356 rfl rfl
theorem dX12_init_140 : decode cX12_init 140 = .ok (.newarray .int, 2) := by decide +kernel
theorem qd_g357 : qd_bs cX12_init 142 [181, 0, 56, 42, 17, 6, 0] = true := by decide +kernel
theorem dX12_init_142 : decode cX12_init 142 = .ok (.putfield 56, 3) := qd_o181 142 0 qd_g357 rfl rfl
theorem dX12_init_145 : decode cX12_init 145 = .ok (.aload_n 0, 1) := qd_o42 142 3 qd_g357 rfl
theorem dX12_init_146 : decode cX12_init 146 = .ok (.sipush 1536, 3) := qd_o17 142 4 qd_g357 rfl rfl
theorem dX12_init_149 : decode cX12_init 149 = .ok (.newarray .int, 2) := by decide +kernel
theorem qd_g358 : qd_bs cX12_init 151 [181, 0, 59, 42, 17, 24, 0] = true := by decide +kernel
theorem dX12_init_151 : decode cX12_init 151 = .ok (.putfield 59, 3) := qd_o181 151 0 qd_g358 rfl rfl
theorem dX12_init_154 : decode cX12_init 154 = .ok (.aload_n 0, 1) := qd_o42 151 3 qd_g358 rfl
theorem dX12_init_155 : decode cX12_init 155 = .ok (.sipush 6144, 3) := qd_o17 151 4 qd_g358 rfl rfl
theorem dX12_init_158 : decode cX12_init 158 = .ok (.newarray .int, 2) := by decide +kernel
theorem qd_g359 : qd_bs cX12_init 160 [181, 0, 62, 42, 17, 0, 144] = true := by decide +kernel
theorem dX12_init_160 : decode cX12_init 160 = .ok (.putfield 62, 3) := qd_o181 160 0 qd_g359 rfl rfl
theorem dX12_init_163 : decode cX12_init 163 = .ok (.aload_n 0, 1) := qd_o42 160 3 qd_g359 rfl
theorem dX12_init_164 : decode cX12_init 164 = .ok (.sipush 144, 3) := qd_o17 160 4 qd_g359 rfl rfl
theorem dX12_init_167 : decode cX12_init 167 = .ok (.newarray .int, 2) := by decide +kernel
theorem qd_g360 : qd_bs cX12_init 169 [181, 0, 65, 42, 17, 12, 0] = true := by decide +kernel
theorem dX12_init_169 : decode cX12_init 169 = .ok (.putfield 65, 3) := qd_o181 169 0 qd_g360 rfl rfl
theorem dX12_init_172 : decode cX12_init 172 = .ok (.aload_n 0, 1) := qd_o42 169 3 qd_g360 rfl
theorem dX12_init_173 : decode cX12_init 173 = .ok (.sipush 3072, 3) := qd_o17 169 4 qd_g360 rfl rfl
theorem dX12_init_176 : decode cX12_init 176 = .ok (.newarray .int, 2) := by decide +kernel
theorem qd_g361 : qd_bs cX12_init 178 [181, 0, 68, 42, 16, 120] = true := by decide +kernel
theorem dX12_init_178 : decode cX12_init 178 = .ok (.putfield 68, 3) := qd_o181 178 0 qd_g361 rfl rfl
theorem dX12_init_181 : decode cX12_init 181 = .ok (.aload_n 0, 1) := qd_o42 178 3 qd_g361 rfl
theorem dX12_init_182 : decode cX12_init 182 = .ok (.bipush 120, 2) := qd_o16 178 4 qd_g361 rfl rfl
theorem dX12_init_184 : decode cX12_init 184 = .ok (.newarray .int, 2) := by decide +kernel
theorem qd_g362 : qd_bs cX12_init 186 [181, 0, 71, 42, 16, 48] = true := by decide +kernel
theorem dX12_init_186 : decode cX12_init 186 = .ok (.putfield 71, 3) := qd_o181 186 0 qd_g362 rfl rfl
theorem dX12_init_189 : decode cX12_init 189 = .ok (.aload_n 0, 1) := qd_o42 186 3 qd_g362 rfl
theorem dX12_init_190 : decode cX12_init 190 = .ok (.bipush 48, 2) := qd_o16 186 4 qd_g362 rfl rfl
theorem dX12_init_192 : decode cX12_init 192 = .ok (.newarray .boolean, 2) := by decide +kernel
theorem qd_g363 : qd_bs cX12_init 194 [181, 0, 74, 42, 16, 120] = true := by decide +kernel
theorem dX12_init_194 : decode cX12_init 194 = .ok (.putfield 74, 3) := qd_o181 194 0 qd_g363 rfl rfl
theorem dX12_init_197 : decode cX12_init 197 = .ok (.aload_n 0, 1) := qd_o42 194 3 qd_g363 rfl
theorem dX12_init_198 : decode cX12_init 198 = .ok (.bipush 120, 2) := qd_o16 194 4 qd_g363 rfl rfl
theorem dX12_init_200 : decode cX12_init 200 = .ok (.newarray .int, 2) := by decide +kernel
theorem qd_g364 : qd_bs cX12_init 202 [181, 0, 77, 42, 16, 48] = true := by decide +kernel
theorem dX12_init_202 : decode cX12_init 202 = .ok (.putfield 77, 3) := qd_o181 202 0 qd_g364 rfl rfl
theorem dX12_init_205 : decode cX12_init 205 = .ok (.aload_n 0, 1) := qd_o42 202 3 qd_g364 rfl
theorem dX12_init_206 : decode cX12_init 206 = .ok (.bipush 48, 2) := qd_o16 202 4 qd_g364 rfl rfl
theorem dX12_init_208 : decode cX12_init 208 = .ok (.newarray .int, 2) := by decide +kernel
theorem qd_g365 : qd_bs cX12_init 210 [181, 0, 80, 42, 16, 9] = true := by decide +kernel
theorem dX12_init_210 : decode cX12_init 210 = .ok (.putfield 80, 3) := qd_o181 210 0 qd_g365 rfl rfl
theorem dX12_init_213 : decode cX12_init 213 = .ok (.aload_n 0, 1) := qd_o42 210 3 qd_g365 rfl
theorem dX12_init_214 : decode cX12_init 214 = .ok (.bipush 9, 2) := qd_o16 210 4 qd_g365 rfl rfl
theorem dX12_init_216 : decode cX12_init 216 = .ok (.newarray .int, 2) := by decide +kernel
theorem qd_g366 : qd_bs cX12_init 218 [181, 0, 83, 42, 16, 9] = true := by decide +kernel
theorem dX12_init_218 : decode cX12_init 218 = .ok (.putfield 83, 3) := qd_o181 218 0 qd_g366 rfl rfl
theorem dX12_init_221 : decode cX12_init 221 = .ok (.aload_n 0, 1) := qd_o42 218 3 qd_g366 rfl
theorem dX12_init_222 : decode cX12_init 222 = .ok (.bipush 9, 2) := qd_o16 218 4 qd_g366 rfl rfl
theorem dX12_init_224 : decode cX12_init 224 = .ok (.newarray .int, 2) := by decide +kernel
theorem qd_g367 : qd_bs cX12_init 226 [181, 0, 86, 42, 16, 9] = true := by decide +kernel
theorem dX12_init_226 : decode cX12_init 226 = .ok (.putfield 86, 3) := qd_o181 226 0 qd_g367 rfl rfl
theorem dX12_init_229 : decode cX12_init 229 = .ok (.aload_n 0, 1) := qd_o42 226 3 qd_g367 rfl
theorem dX12_init_230 : decode cX12_init 230 = .ok (.bipush 9, 2) := qd_o16 226 4 qd_g367 rfl rfl
theorem dX12_init_232 : decode cX12_init 232 = .ok (.newarray .int, 2) := by decide +kernel
theorem qd_g368 : qd_bs cX12_init 234 [181, 0, 89, 42, 16, 9] = true := by decide +kernel
theorem dX12_init_234 : decode cX12_init 234 = .ok (.putfield 89, 3) := qd_o181 234 0 qd_g368 rfl rfl
theorem dX12_init_237 : decode cX12_init 237 = .ok (.aload_n 0, 1) := qd_o42 234 3 qd_g368 rfl
theorem dX12_init_238 : decode cX12_init 238 = .ok (.bipush 9, 2) := qd_o16 234 4 qd_g368 rfl rfl
theorem dX12_init_240 : decode cX12_init 240 = .ok (.newarray .int, 2) := by decide +kernel
theorem qd_g369 : qd_bs cX12_init 242 [181, 0, 92, 42, 16, 72] = true := by decide +kernel
theorem dX12_init_242 : decode cX12_init 242 = .ok (.putfield 92, 3) := qd_o181 242 0 qd_g369 rfl rfl
theorem dX12_init_245 : decode cX12_init 245 = .ok (.aload_n 0, 1) := qd_o42 242 3 qd_g369 rfl
theorem dX12_init_246 : decode cX12_init 246 = .ok (.bipush 72, 2) := qd_o16 242 4 qd_g369 rfl rfl
theorem dX12_init_248 : decode cX12_init 248 = .ok (.newarray .int, 2) := by decide +kernel
theorem qd_g370 : qd_bs cX12_init 250 [181, 0, 95, 42, 16, 24] = true := by decide +kernel
theorem dX12_init_250 : decode cX12_init 250 = .ok (.putfield 95, 3) := qd_o181 250 0 qd_g370 rfl rfl
theorem dX12_init_253 : decode cX12_init 253 = .ok (.aload_n 0, 1) := qd_o42 250 3 qd_g370 rfl
theorem dX12_init_254 : decode cX12_init 254 = .ok (.bipush 24, 2) := qd_o16 250 4 qd_g370 rfl rfl
theorem dX12_init_256 : decode cX12_init 256 = .ok (.newarray .boolean, 2) := by decide +kernel
theorem qd_g371 : qd_bs cX12_init 258 [181, 0, 98, 42, 16, 6] = true := by decide +kernel
theorem dX12_init_258 : decode cX12_init 258 = .ok (.putfield 98, 3) := qd_o181 258 0 qd_g371 rfl rfl
theorem dX12_init_261 : decode cX12_init 261 = .ok (.aload_n 0, 1) := qd_o42 258 3 qd_g371 rfl
theorem dX12_init_262 : decode cX12_init 262 = .ok (.bipush 6, 2) := qd_o16 258 4 qd_g371 rfl rfl
theorem dX12_init_264 : decode cX12_init 264 = .ok (.newarray .long, 2) := by decide +kernel
theorem qd_g372 : qd_bs cX12_init 266 [181, 0, 101, 42, 2, 181, 0, 105, 42, 16, 40] = true := by decide +kernel
theorem dX12_init_266 : decode cX12_init 266 = .ok (.putfield 101, 3) := qd_o181 266 0 qd_g372 rfl rfl
theorem dX12_init_269 : decode cX12_init 269 = .ok (.aload_n 0, 1) := qd_o42 266 3 qd_g372 rfl
theorem dX12_init_270 : decode cX12_init 270 = .ok (.iconst (-1), 1) := qd_o2 266 4 qd_g372 rfl
theorem dX12_init_271 : decode cX12_init 271 = .ok (.putfield 105, 3) := qd_o181 266 5 qd_g372 rfl rfl
theorem dX12_init_274 : decode cX12_init 274 = .ok (.aload_n 0, 1) := qd_o42 266 8 qd_g372 rfl
theorem dX12_init_275 : decode cX12_init 275 = .ok (.bipush 40, 2) := qd_o16 266 9 qd_g372 rfl rfl
theorem dX12_init_277 : decode cX12_init 277 = .ok (.newarray .char, 2) := by decide +kernel
theorem qd_g373 : qd_bs cX12_init 279 [181, 0, 109, 42, 16, 8] = true := by decide +kernel
theorem dX12_init_279 : decode cX12_init 279 = .ok (.putfield 109, 3) := qd_o181 279 0 qd_g373 rfl rfl
theorem dX12_init_282 : decode cX12_init 282 = .ok (.aload_n 0, 1) := qd_o42 279 3 qd_g373 rfl
theorem dX12_init_283 : decode cX12_init 283 = .ok (.bipush 8, 2) := qd_o16 279 4 qd_g373 rfl rfl
theorem dX12_init_285 : decode cX12_init 285 = .ok (.newarray .boolean, 2) := by decide +kernel
theorem qd_g374 : qd_bs cX12_init 287 [181, 0, 113, 42, 180, 0, 50, 6, 17, 0, 255, 79, 42, 180, 0, 53, 6, 4, 84, 177] = true := by decide +kernel
theorem dX12_init_287 : decode cX12_init 287 = .ok (.putfield 113, 3) := qd_o181 287 0 qd_g374 rfl rfl
theorem dX12_init_290 : decode cX12_init 290 = .ok (.aload_n 0, 1) := qd_o42 287 3 qd_g374 rfl
theorem dX12_init_291 : decode cX12_init 291 = .ok (.getfield 50, 3) := qd_o180 287 4 qd_g374 rfl rfl
theorem dX12_init_294 : decode cX12_init 294 = .ok (.iconst 3, 1) := qd_o6 287 7 qd_g374 rfl
theorem dX12_init_295 : decode cX12_init 295 = .ok (.sipush 255, 3) := qd_o17 287 8 qd_g374 rfl rfl
theorem dX12_init_298 : decode cX12_init 298 = .ok (.iastore, 1) := qd_o79 287 11 qd_g374 rfl
theorem dX12_init_299 : decode cX12_init 299 = .ok (.aload_n 0, 1) := qd_o42 287 12 qd_g374 rfl
theorem dX12_init_300 : decode cX12_init 300 = .ok (.getfield 53, 3) := qd_o180 287 13 qd_g374 rfl rfl
theorem dX12_init_303 : decode cX12_init 303 = .ok (.iconst 3, 1) := qd_o6 287 16 qd_g374 rfl
theorem dX12_init_304 : decode cX12_init 304 = .ok (.iconst 1, 1) := qd_o4 287 17 qd_g374 rfl
theorem dX12_init_305 : decode cX12_init 305 = .ok (.bastore, 1) := qd_o84 287 18 qd_g374 rfl
theorem dX12_init_306 : decode cX12_init 306 = .ok (.return_, 1) := qd_o177 287 19 qd_g374 rfl
theorem qd_g375 : qd_bs cX12_thrown 0 [42, 180, 0, 116, 172] = true := by decide +kernel
theorem dX12_thrown_0 : decode cX12_thrown 0 = .ok (.aload_n 0, 1) := qd_o42 0 0 qd_g375 rfl
theorem dX12_thrown_1 : decode cX12_thrown 1 = .ok (.getfield 116, 3) := qd_o180 0 1 qd_g375 rfl rfl
theorem dX12_thrown_4 : decode cX12_thrown 4 = .ok (.ireturn, 1) := qd_o172 0 4 qd_g375 rfl
theorem qd_g376 : qd_bs cX12_fails 0 [42, 27, 181, 0, 116, 27, 158, 0, 7, 4, 167, 0, 4, 3, 172] = true := by decide +kernel
theorem dX12_fails_0 : decode cX12_fails 0 = .ok (.aload_n 0, 1) := qd_o42 0 0 qd_g376 rfl
theorem dX12_fails_1 : decode cX12_fails 1 = .ok (.iload_n 1, 1) := qd_o27 0 1 qd_g376 rfl
theorem dX12_fails_2 : decode cX12_fails 2 = .ok (.putfield 116, 3) := qd_o181 0 2 qd_g376 rfl rfl
theorem dX12_fails_5 : decode cX12_fails 5 = .ok (.iload_n 1, 1) := qd_o27 0 5 qd_g376 rfl
theorem dX12_fails_6 : decode cX12_fails 6 = .ok (.ifCond .le 7, 3) := qd_o158 0 6 qd_g376 rfl rfl
theorem dX12_fails_9 : decode cX12_fails 9 = .ok (.iconst 1, 1) := qd_o4 0 9 qd_g376 rfl
theorem dX12_fails_10 : decode cX12_fails 10 = .ok (.goto 4, 3) := qd_o167 0 10 qd_g376 rfl rfl
theorem dX12_fails_13 : decode cX12_fails 13 = .ok (.iconst 0, 1) := qd_o3 0 13 qd_g376 rfl
theorem dX12_fails_14 : decode cX12_fails 14 = .ok (.ireturn, 1) := qd_o172 0 14 qd_g376 rfl
theorem qd_g377 : qd_bs cX12_tells 0 [42, 3, 181, 0, 116, 27, 172] = true := by decide +kernel
theorem dX12_tells_0 : decode cX12_tells 0 = .ok (.aload_n 0, 1) := qd_o42 0 0 qd_g377 rfl
theorem dX12_tells_1 : decode cX12_tells 1 = .ok (.iconst 0, 1) := qd_o3 0 1 qd_g377 rfl
theorem dX12_tells_2 : decode cX12_tells 2 = .ok (.putfield 116, 3) := qd_o181 0 2 qd_g377 rfl rfl
theorem dX12_tells_5 : decode cX12_tells 5 = .ok (.iload_n 1, 1) := qd_o27 0 5 qd_g377 rfl
theorem dX12_tells_6 : decode cX12_tells 6 = .ok (.ireturn, 1) := qd_o172 0 6 qd_g377 rfl
theorem qd_g378 : qd_bs cX12_in 0 [26, 27, 161, 0, 12, 26, 28, 163, 0, 7, 4, 167, 0, 4, 3, 172] = true := by decide +kernel
theorem dX12_in_0 : decode cX12_in 0 = .ok (.iload_n 0, 1) := qd_o26 0 0 qd_g378 rfl
theorem dX12_in_1 : decode cX12_in 1 = .ok (.iload_n 1, 1) := qd_o27 0 1 qd_g378 rfl
theorem dX12_in_2 : decode cX12_in 2 = .ok (.if_icmp .lt 12, 3) := qd_o161 0 2 qd_g378 rfl rfl
theorem dX12_in_5 : decode cX12_in 5 = .ok (.iload_n 0, 1) := qd_o26 0 5 qd_g378 rfl
theorem dX12_in_6 : decode cX12_in 6 = .ok (.iload_n 2, 1) := qd_o28 0 6 qd_g378 rfl
theorem dX12_in_7 : decode cX12_in 7 = .ok (.if_icmp .gt 7, 3) := qd_o163 0 7 qd_g378 rfl rfl
theorem dX12_in_10 : decode cX12_in 10 = .ok (.iconst 1, 1) := qd_o4 0 10 qd_g378 rfl
theorem dX12_in_11 : decode cX12_in 11 = .ok (.goto 4, 3) := qd_o167 0 11 qd_g378 rfl rfl
theorem dX12_in_14 : decode cX12_in 14 = .ok (.iconst 0, 1) := qd_o3 0 14 qd_g378 rfl
theorem dX12_in_15 : decode cX12_in 15 = .ok (.ireturn, 1) := qd_o172 0 15 qd_g378 rfl
theorem qd_g379 : qd_bs cX12_isNoByte 0 [26, 3, 17, 0, 255, 184, 0, 119, 154, 0, 7, 4, 167, 0, 4, 3, 172] = true := by decide +kernel
theorem dX12_isNoByte_0 : decode cX12_isNoByte 0 = .ok (.iload_n 0, 1) := qd_o26 0 0 qd_g379 rfl
theorem dX12_isNoByte_1 : decode cX12_isNoByte 1 = .ok (.iconst 0, 1) := qd_o3 0 1 qd_g379 rfl
theorem dX12_isNoByte_2 : decode cX12_isNoByte 2 = .ok (.sipush 255, 3) := qd_o17 0 2 qd_g379 rfl rfl
theorem dX12_isNoByte_5 : decode cX12_isNoByte 5 = .ok (.invokestatic 119, 3) := qd_o184 0 5 qd_g379 rfl rfl
theorem dX12_isNoByte_8 : decode cX12_isNoByte 8 = .ok (.ifCond .ne 7, 3) := qd_o154 0 8 qd_g379 rfl rfl
theorem dX12_isNoByte_11 : decode cX12_isNoByte 11 = .ok (.iconst 1, 1) := qd_o4 0 11 qd_g379 rfl
theorem dX12_isNoByte_12 : decode cX12_isNoByte 12 = .ok (.goto 4, 3) := qd_o167 0 12 qd_g379 rfl rfl
theorem dX12_isNoByte_15 : decode cX12_isNoByte 15 = .ok (.iconst 0, 1) := qd_o3 0 15 qd_g379 rfl
theorem dX12_isNoByte_16 : decode cX12_isNoByte 16 = .ok (.ireturn, 1) := qd_o172 0 16 qd_g379 rfl
theorem qd_g380 : qd_bs cX12_isNoAddress 0 [26, 3, 17, 15, 255, 184, 0, 119, 154, 0, 7, 4, 167, 0, 4, 3, 172] = true := by decide +kernel
theorem dX12_isNoAddress_0 : decode cX12_isNoAddress 0 = .ok (.iload_n 0, 1) := qd_o26 0 0 qd_g380 rfl
theorem dX12_isNoAddress_1 : decode cX12_isNoAddress 1 = .ok (.iconst 0, 1) := qd_o3 0 1 qd_g380 rfl
theorem dX12_isNoAddress_2 : decode cX12_isNoAddress 2 = .ok (.sipush 4095, 3) := qd_o17 0 2 qd_g380 rfl rfl
theorem dX12_isNoAddress_5 : decode cX12_isNoAddress 5 = .ok (.invokestatic 119, 3) := qd_o184 0 5 qd_g380 rfl rfl
theorem dX12_isNoAddress_8 : decode cX12_isNoAddress 8 = .ok (.ifCond .ne 7, 3) := qd_o154 0 8 qd_g380 rfl rfl
theorem dX12_isNoAddress_11 : decode cX12_isNoAddress 11 = .ok (.iconst 1, 1) := qd_o4 0 11 qd_g380 rfl
theorem dX12_isNoAddress_12 : decode cX12_isNoAddress 12 = .ok (.goto 4, 3) := qd_o167 0 12 qd_g380 rfl rfl
theorem dX12_isNoAddress_15 : decode cX12_isNoAddress 15 = .ok (.iconst 0, 1) := qd_o3 0 15 qd_g380 rfl
theorem dX12_isNoAddress_16 : decode cX12_isNoAddress 16 = .ok (.ireturn, 1) := qd_o172 0 16 qd_g380 rfl
theorem qd_g381 : qd_bs cX12_keeps 0 [42, 180, 0, 105, 155, 0, 13, 42, 89, 180, 0, 105, 4, 96, 181, 0, 105, 177] = true := by decide +kernel
theorem dX12_keeps_0 : decode cX12_keeps 0 = .ok (.aload_n 0, 1) := qd_o42 0 0 qd_g381 rfl
theorem dX12_keeps_1 : decode cX12_keeps 1 = .ok (.getfield 105, 3) := qd_o180 0 1 qd_g381 rfl rfl
theorem dX12_keeps_4 : decode cX12_keeps 4 = .ok (.ifCond .lt 13, 3) := qd_o155 0 4 qd_g381 rfl rfl
theorem dX12_keeps_7 : decode cX12_keeps 7 = .ok (.aload_n 0, 1) := qd_o42 0 7 qd_g381 rfl
theorem dX12_keeps_8 : decode cX12_keeps 8 = .ok (.dup, 1) := qd_o89 0 8 qd_g381 rfl
theorem dX12_keeps_9 : decode cX12_keeps 9 = .ok (.getfield 105, 3) := qd_o180 0 9 qd_g381 rfl rfl
theorem dX12_keeps_12 : decode cX12_keeps 12 = .ok (.iconst 1, 1) := qd_o4 0 12 qd_g381 rfl
theorem dX12_keeps_13 : decode cX12_keeps 13 = .ok (.iadd, 1) := qd_o96 0 13 qd_g381 rfl
theorem dX12_keeps_14 : decode cX12_keeps 14 = .ok (.putfield 105, 3) := qd_o181 0 14 qd_g381 rfl rfl
theorem dX12_keeps_17 : decode cX12_keeps 17 = .ok (.return_, 1) := qd_o177 0 17 qd_g381 rfl
theorem qd_g382 : qd_bs cX12_has 0 [26, 27, 122, 4, 126, 4, 160, 0, 7, 4, 167, 0, 4, 3, 172] = true := by decide +kernel
theorem dX12_has_0 : decode cX12_has 0 = .ok (.iload_n 0, 1) := qd_o26 0 0 qd_g382 rfl
theorem dX12_has_1 : decode cX12_has 1 = .ok (.iload_n 1, 1) := qd_o27 0 1 qd_g382 rfl
theorem dX12_has_2 : decode cX12_has 2 = .ok (.ishr, 1) := qd_o122 0 2 qd_g382 rfl
theorem dX12_has_3 : decode cX12_has 3 = .ok (.iconst 1, 1) := qd_o4 0 3 qd_g382 rfl
theorem dX12_has_4 : decode cX12_has 4 = .ok (.iand, 1) := qd_o126 0 4 qd_g382 rfl
theorem dX12_has_5 : decode cX12_has 5 = .ok (.iconst 1, 1) := qd_o4 0 5 qd_g382 rfl
theorem dX12_has_6 : decode cX12_has 6 = .ok (.if_icmp .ne 7, 3) := qd_o160 0 6 qd_g382 rfl rfl
theorem dX12_has_9 : decode cX12_has 9 = .ok (.iconst 1, 1) := qd_o4 0 9 qd_g382 rfl
theorem dX12_has_10 : decode cX12_has 10 = .ok (.goto 4, 3) := qd_o167 0 10 qd_g382 rfl rfl
theorem dX12_has_13 : decode cX12_has 13 = .ok (.iconst 0, 1) := qd_o3 0 13 qd_g382 rfl
theorem dX12_has_14 : decode cX12_has 14 = .ok (.ireturn, 1) := qd_o172 0 14 qd_g382 rfl
theorem qd_g383 : qd_bs cX12_lineNow 0 [42, 180, 0, 123, 20, 0, 127, 109, 20, 0, 129, 113, 136, 172] = true := by decide +kernel
theorem dX12_lineNow_0 : decode cX12_lineNow 0 = .ok (.aload_n 0, 1) := qd_o42 0 0 qd_g383 rfl
theorem dX12_lineNow_1 : decode cX12_lineNow 1 = .ok (.getfield 123, 3) := qd_o180 0 1 qd_g383 rfl rfl
theorem dX12_lineNow_4 : decode cX12_lineNow 4 = .ok (.ldc2_w 127, 3) := qd_o20 0 4 qd_g383 rfl rfl
theorem dX12_lineNow_7 : decode cX12_lineNow 7 = .ok (.ldiv, 1) := qd_o109 0 7 qd_g383 rfl
theorem dX12_lineNow_8 : decode cX12_lineNow 8 = .ok (.ldc2_w 129, 3) := qd_o20 0 8 qd_g383 rfl rfl
theorem dX12_lineNow_11 : decode cX12_lineNow 11 = .ok (.lrem, 1) := qd_o113 0 11 qd_g383 rfl
theorem dX12_lineNow_12 : decode cX12_lineNow 12 = .ok (.l2i, 1) := qd_o136 0 12 qd_g383 rfl
theorem dX12_lineNow_13 : decode cX12_lineNow 13 = .ok (.ireturn, 1) := qd_o172 0 13 qd_g383 rfl
theorem qd_g384 : qd_bs cX12_seenColumns 0 [3, 61, 28, 7, 162, 0, 29, 42, 180, 0, 113, 28, 27, 28, 184, 0, 131, 84, 42, 180, 0, 113, 7, 28, 96, 3, 84, 132, 2, 1, 167, 255, 228, 3, 61, 28, 16, 8] = true := by decide +kernel
theorem dX12_seenColumns_0 : decode cX12_seenColumns 0 = .ok (.iconst 0, 1) := qd_o3 0 0 qd_g384 rfl
theorem dX12_seenColumns_1 : decode cX12_seenColumns 1 = .ok (.istore_n 2, 1) := qd_o61 0 1 qd_g384 rfl
theorem dX12_seenColumns_2 : decode cX12_seenColumns 2 = .ok (.iload_n 2, 1) := qd_o28 0 2 qd_g384 rfl
theorem dX12_seenColumns_3 : decode cX12_seenColumns 3 = .ok (.iconst 4, 1) := qd_o7 0 3 qd_g384 rfl
theorem dX12_seenColumns_4 : decode cX12_seenColumns 4 = .ok (.if_icmp .ge 29, 3) := qd_o162 0 4 qd_g384 rfl rfl
theorem dX12_seenColumns_7 : decode cX12_seenColumns 7 = .ok (.aload_n 0, 1) := qd_o42 0 7 qd_g384 rfl
theorem dX12_seenColumns_8 : decode cX12_seenColumns 8 = .ok (.getfield 113, 3) := qd_o180 0 8 qd_g384 rfl rfl
theorem dX12_seenColumns_11 : decode cX12_seenColumns 11 = .ok (.iload_n 2, 1) := qd_o28 0 11 qd_g384 rfl
theorem dX12_seenColumns_12 : decode cX12_seenColumns 12 = .ok (.iload_n 1, 1) := qd_o27 0 12 qd_g384 rfl
theorem dX12_seenColumns_13 : decode cX12_seenColumns 13 = .ok (.iload_n 2, 1) := qd_o28 0 13 qd_g384 rfl
theorem dX12_seenColumns_14 : decode cX12_seenColumns 14 = .ok (.invokestatic 131, 3) := qd_o184 0 14 qd_g384 rfl rfl
theorem dX12_seenColumns_17 : decode cX12_seenColumns 17 = .ok (.bastore, 1) := qd_o84 0 17 qd_g384 rfl
theorem dX12_seenColumns_18 : decode cX12_seenColumns 18 = .ok (.aload_n 0, 1) := qd_o42 0 18 qd_g384 rfl
theorem dX12_seenColumns_19 : decode cX12_seenColumns 19 = .ok (.getfield 113, 3) := qd_o180 0 19 qd_g384 rfl rfl
theorem dX12_seenColumns_22 : decode cX12_seenColumns 22 = .ok (.iconst 4, 1) := qd_o7 0 22 qd_g384 rfl
theorem dX12_seenColumns_23 : decode cX12_seenColumns 23 = .ok (.iload_n 2, 1) := qd_o28 0 23 qd_g384 rfl
theorem dX12_seenColumns_24 : decode cX12_seenColumns 24 = .ok (.iadd, 1) := qd_o96 0 24 qd_g384 rfl
theorem dX12_seenColumns_25 : decode cX12_seenColumns 25 = .ok (.iconst 0, 1) := qd_o3 0 25 qd_g384 rfl
theorem dX12_seenColumns_26 : decode cX12_seenColumns 26 = .ok (.bastore, 1) := qd_o84 0 26 qd_g384 rfl
theorem dX12_seenColumns_27 : decode cX12_seenColumns 27 = .ok (.iinc 2 1, 3) := qd_o132 0 27 qd_g384 rfl rfl
theorem dX12_seenColumns_30 : decode cX12_seenColumns 30 = .ok (.goto (-28), 3) := qd_o167 0 30 qd_g384 rfl rfl
theorem dX12_seenColumns_33 : decode cX12_seenColumns 33 = .ok (.iconst 0, 1) := qd_o3 0 33 qd_g384 rfl
theorem dX12_seenColumns_34 : decode cX12_seenColumns 34 = .ok (.istore_n 2, 1) := qd_o61 0 34 qd_g384 rfl
theorem dX12_seenColumns_35 : decode cX12_seenColumns 35 = .ok (.iload_n 2, 1) := qd_o28 0 35 qd_g384 rfl
theorem dX12_seenColumns_36 : decode cX12_seenColumns 36 = .ok (.bipush 8, 2) := qd_o16 0 36 qd_g384 rfl rfl
theorem qd_g385 : qd_bs cX12_seenColumns 38 [162, 0, 88, 3, 62, 29, 16, 16, 162, 0, 74, 42, 180, 0, 28, 29, 51, 154, 0, 6, 167, 0, 56, 42, 180, 0, 113, 29, 7, 108, 51, 154, 0, 16, 42, 180, 0, 113, 7, 29] = true := by decide +kernel
theorem dX12_seenColumns_38 : decode cX12_seenColumns 38 = .ok (.if_icmp .ge 88, 3) := qd_o162 38 0 qd_g385 rfl rfl
theorem dX12_seenColumns_41 : decode cX12_seenColumns 41 = .ok (.iconst 0, 1) := qd_o3 38 3 qd_g385 rfl
theorem dX12_seenColumns_42 : decode cX12_seenColumns 42 = .ok (.istore_n 3, 1) := qd_o62 38 4 qd_g385 rfl
theorem dX12_seenColumns_43 : decode cX12_seenColumns 43 = .ok (.iload_n 3, 1) := qd_o29 38 5 qd_g385 rfl
theorem dX12_seenColumns_44 : decode cX12_seenColumns 44 = .ok (.bipush 16, 2) := qd_o16 38 6 qd_g385 rfl rfl
theorem dX12_seenColumns_46 : decode cX12_seenColumns 46 = .ok (.if_icmp .ge 74, 3) := qd_o162 38 8 qd_g385 rfl rfl
theorem dX12_seenColumns_49 : decode cX12_seenColumns 49 = .ok (.aload_n 0, 1) := qd_o42 38 11 qd_g385 rfl
theorem dX12_seenColumns_50 : decode cX12_seenColumns 50 = .ok (.getfield 28, 3) := qd_o180 38 12 qd_g385 rfl rfl
theorem dX12_seenColumns_53 : decode cX12_seenColumns 53 = .ok (.iload_n 3, 1) := qd_o29 38 15 qd_g385 rfl
theorem dX12_seenColumns_54 : decode cX12_seenColumns 54 = .ok (.baload, 1) := qd_o51 38 16 qd_g385 rfl
theorem dX12_seenColumns_55 : decode cX12_seenColumns 55 = .ok (.ifCond .ne 6, 3) := qd_o154 38 17 qd_g385 rfl rfl
theorem dX12_seenColumns_58 : decode cX12_seenColumns 58 = .ok (.goto 56, 3) := qd_o167 38 20 qd_g385 rfl rfl
theorem dX12_seenColumns_61 : decode cX12_seenColumns 61 = .ok (.aload_n 0, 1) := qd_o42 38 23 qd_g385 rfl
theorem dX12_seenColumns_62 : decode cX12_seenColumns 62 = .ok (.getfield 113, 3) := qd_o180 38 24 qd_g385 rfl rfl
theorem dX12_seenColumns_65 : decode cX12_seenColumns 65 = .ok (.iload_n 3, 1) := qd_o29 38 27 qd_g385 rfl
theorem dX12_seenColumns_66 : decode cX12_seenColumns 66 = .ok (.iconst 4, 1) := qd_o7 38 28 qd_g385 rfl
theorem dX12_seenColumns_67 : decode cX12_seenColumns 67 = .ok (.idiv, 1) := qd_o108 38 29 qd_g385 rfl
theorem dX12_seenColumns_68 : decode cX12_seenColumns 68 = .ok (.baload, 1) := qd_o51 38 30 qd_g385 rfl
theorem dX12_seenColumns_69 : decode cX12_seenColumns 69 = .ok (.ifCond .ne 16, 3) := qd_o154 38 31 qd_g385 rfl rfl
theorem dX12_seenColumns_72 : decode cX12_seenColumns 72 = .ok (.aload_n 0, 1) := qd_o42 38 34 qd_g385 rfl
theorem dX12_seenColumns_73 : decode cX12_seenColumns 73 = .ok (.getfield 113, 3) := qd_o180 38 35 qd_g385 rfl rfl
theorem dX12_seenColumns_76 : decode cX12_seenColumns 76 = .ok (.iconst 4, 1) := qd_o7 38 38 qd_g385 rfl
theorem dX12_seenColumns_77 : decode cX12_seenColumns 77 = .ok (.iload_n 3, 1) := qd_o29 38 39 qd_g385 rfl
theorem qd_g386 : qd_bs cX12_seenColumns 78 [7, 112, 96, 51, 153, 0, 7, 4, 167, 0, 4, 3, 54, 4, 42, 180, 0, 113, 29, 7, 108, 21, 4, 84, 42, 180, 0, 113, 7, 29, 7, 112, 96, 21, 4, 84, 132, 3, 1] = true := by decide +kernel
theorem dX12_seenColumns_78 : decode cX12_seenColumns 78 = .ok (.iconst 4, 1) := qd_o7 78 0 qd_g386 rfl
theorem dX12_seenColumns_79 : decode cX12_seenColumns 79 = .ok (.irem, 1) := qd_o112 78 1 qd_g386 rfl
theorem dX12_seenColumns_80 : decode cX12_seenColumns 80 = .ok (.iadd, 1) := qd_o96 78 2 qd_g386 rfl
theorem dX12_seenColumns_81 : decode cX12_seenColumns 81 = .ok (.baload, 1) := qd_o51 78 3 qd_g386 rfl
theorem dX12_seenColumns_82 : decode cX12_seenColumns 82 = .ok (.ifCond .eq 7, 3) := qd_o153 78 4 qd_g386 rfl rfl
theorem dX12_seenColumns_85 : decode cX12_seenColumns 85 = .ok (.iconst 1, 1) := qd_o4 78 7 qd_g386 rfl
theorem dX12_seenColumns_86 : decode cX12_seenColumns 86 = .ok (.goto 4, 3) := qd_o167 78 8 qd_g386 rfl rfl
theorem dX12_seenColumns_89 : decode cX12_seenColumns 89 = .ok (.iconst 0, 1) := qd_o3 78 11 qd_g386 rfl
theorem dX12_seenColumns_90 : decode cX12_seenColumns 90 = .ok (.istore 4, 2) := qd_o54 78 12 qd_g386 rfl rfl
theorem dX12_seenColumns_92 : decode cX12_seenColumns 92 = .ok (.aload_n 0, 1) := qd_o42 78 14 qd_g386 rfl
theorem dX12_seenColumns_93 : decode cX12_seenColumns 93 = .ok (.getfield 113, 3) := qd_o180 78 15 qd_g386 rfl rfl
theorem dX12_seenColumns_96 : decode cX12_seenColumns 96 = .ok (.iload_n 3, 1) := qd_o29 78 18 qd_g386 rfl
theorem dX12_seenColumns_97 : decode cX12_seenColumns 97 = .ok (.iconst 4, 1) := qd_o7 78 19 qd_g386 rfl
theorem dX12_seenColumns_98 : decode cX12_seenColumns 98 = .ok (.idiv, 1) := qd_o108 78 20 qd_g386 rfl
theorem dX12_seenColumns_99 : decode cX12_seenColumns 99 = .ok (.iload 4, 2) := qd_o21 78 21 qd_g386 rfl rfl
theorem dX12_seenColumns_101 : decode cX12_seenColumns 101 = .ok (.bastore, 1) := qd_o84 78 23 qd_g386 rfl
theorem dX12_seenColumns_102 : decode cX12_seenColumns 102 = .ok (.aload_n 0, 1) := qd_o42 78 24 qd_g386 rfl
theorem dX12_seenColumns_103 : decode cX12_seenColumns 103 = .ok (.getfield 113, 3) := qd_o180 78 25 qd_g386 rfl rfl
theorem dX12_seenColumns_106 : decode cX12_seenColumns 106 = .ok (.iconst 4, 1) := qd_o7 78 28 qd_g386 rfl
theorem dX12_seenColumns_107 : decode cX12_seenColumns 107 = .ok (.iload_n 3, 1) := qd_o29 78 29 qd_g386 rfl
theorem dX12_seenColumns_108 : decode cX12_seenColumns 108 = .ok (.iconst 4, 1) := qd_o7 78 30 qd_g386 rfl
theorem dX12_seenColumns_109 : decode cX12_seenColumns 109 = .ok (.irem, 1) := qd_o112 78 31 qd_g386 rfl
theorem dX12_seenColumns_110 : decode cX12_seenColumns 110 = .ok (.iadd, 1) := qd_o96 78 32 qd_g386 rfl
theorem dX12_seenColumns_111 : decode cX12_seenColumns 111 = .ok (.iload 4, 2) := qd_o21 78 33 qd_g386 rfl rfl
theorem dX12_seenColumns_113 : decode cX12_seenColumns 113 = .ok (.bastore, 1) := qd_o84 78 35 qd_g386 rfl
theorem dX12_seenColumns_114 : decode cX12_seenColumns 114 = .ok (.iinc 3 1, 3) := qd_o132 78 36 qd_g386 rfl rfl
theorem qd_g387 : qd_bs cX12_seenColumns 117 [167, 255, 182, 132, 2, 1, 167, 255, 168, 3, 61, 3, 62, 29, 7, 162, 0, 30, 28, 42, 180, 0, 113, 7, 29, 96, 51, 153, 0, 9, 4, 29, 120, 167, 0, 4, 3, 96, 61] = true := by decide +kernel
theorem dX12_seenColumns_117 : decode cX12_seenColumns 117 = .ok (.goto (-74), 3) := qd_o167 117 0 qd_g387 rfl rfl
theorem dX12_seenColumns_120 : decode cX12_seenColumns 120 = .ok (.iinc 2 1, 3) := qd_o132 117 3 qd_g387 rfl rfl
theorem dX12_seenColumns_123 : decode cX12_seenColumns 123 = .ok (.goto (-88), 3) := qd_o167 117 6 qd_g387 rfl rfl
theorem dX12_seenColumns_126 : decode cX12_seenColumns 126 = .ok (.iconst 0, 1) := qd_o3 117 9 qd_g387 rfl
theorem dX12_seenColumns_127 : decode cX12_seenColumns 127 = .ok (.istore_n 2, 1) := qd_o61 117 10 qd_g387 rfl
theorem dX12_seenColumns_128 : decode cX12_seenColumns 128 = .ok (.iconst 0, 1) := qd_o3 117 11 qd_g387 rfl
theorem dX12_seenColumns_129 : decode cX12_seenColumns 129 = .ok (.istore_n 3, 1) := qd_o62 117 12 qd_g387 rfl
theorem dX12_seenColumns_130 : decode cX12_seenColumns 130 = .ok (.iload_n 3, 1) := qd_o29 117 13 qd_g387 rfl
theorem dX12_seenColumns_131 : decode cX12_seenColumns 131 = .ok (.iconst 4, 1) := qd_o7 117 14 qd_g387 rfl
theorem dX12_seenColumns_132 : decode cX12_seenColumns 132 = .ok (.if_icmp .ge 30, 3) := qd_o162 117 15 qd_g387 rfl rfl
theorem dX12_seenColumns_135 : decode cX12_seenColumns 135 = .ok (.iload_n 2, 1) := qd_o28 117 18 qd_g387 rfl
theorem dX12_seenColumns_136 : decode cX12_seenColumns 136 = .ok (.aload_n 0, 1) := qd_o42 117 19 qd_g387 rfl
theorem dX12_seenColumns_137 : decode cX12_seenColumns 137 = .ok (.getfield 113, 3) := qd_o180 117 20 qd_g387 rfl rfl
theorem dX12_seenColumns_140 : decode cX12_seenColumns 140 = .ok (.iconst 4, 1) := qd_o7 117 23 qd_g387 rfl
theorem dX12_seenColumns_141 : decode cX12_seenColumns 141 = .ok (.iload_n 3, 1) := qd_o29 117 24 qd_g387 rfl
theorem dX12_seenColumns_142 : decode cX12_seenColumns 142 = .ok (.iadd, 1) := qd_o96 117 25 qd_g387 rfl
theorem dX12_seenColumns_143 : decode cX12_seenColumns 143 = .ok (.baload, 1) := qd_o51 117 26 qd_g387 rfl
theorem dX12_seenColumns_144 : decode cX12_seenColumns 144 = .ok (.ifCond .eq 9, 3) := qd_o153 117 27 qd_g387 rfl rfl
theorem dX12_seenColumns_147 : decode cX12_seenColumns 147 = .ok (.iconst 1, 1) := qd_o4 117 30 qd_g387 rfl
theorem dX12_seenColumns_148 : decode cX12_seenColumns 148 = .ok (.iload_n 3, 1) := qd_o29 117 31 qd_g387 rfl
theorem dX12_seenColumns_149 : decode cX12_seenColumns 149 = .ok (.ishl, 1) := qd_o120 117 32 qd_g387 rfl
theorem dX12_seenColumns_150 : decode cX12_seenColumns 150 = .ok (.goto 4, 3) := qd_o167 117 33 qd_g387 rfl rfl
theorem dX12_seenColumns_153 : decode cX12_seenColumns 153 = .ok (.iconst 0, 1) := qd_o3 117 36 qd_g387 rfl
theorem dX12_seenColumns_154 : decode cX12_seenColumns 154 = .ok (.iadd, 1) := qd_o96 117 37 qd_g387 rfl
theorem dX12_seenColumns_155 : decode cX12_seenColumns 155 = .ok (.istore_n 2, 1) := qd_o61 117 38 qd_g387 rfl
theorem qd_g388 : qd_bs cX12_seenColumns 156 [132, 3, 1, 167, 255, 227, 28, 172] = true := by decide +kernel
theorem dX12_seenColumns_156 : decode cX12_seenColumns 156 = .ok (.iinc 3 1, 3) := qd_o132 156 0 qd_g388 rfl rfl
theorem dX12_seenColumns_159 : decode cX12_seenColumns 159 = .ok (.goto (-29), 3) := qd_o167 156 3 qd_g388 rfl rfl
theorem dX12_seenColumns_162 : decode cX12_seenColumns 162 = .ok (.iload_n 2, 1) := qd_o28 156 6 qd_g388 rfl
theorem dX12_seenColumns_163 : decode cX12_seenColumns 163 = .ok (.ireturn, 1) := qd_o172 156 7 qd_g388 rfl
theorem qd_g389 : qd_bs cX12_hasPulse 0 [42, 180, 0, 50, 16, 14, 46, 42, 180, 0, 50, 16, 13, 46, 162, 0, 7, 4, 167, 0, 4, 3, 172] = true := by decide +kernel
theorem dX12_hasPulse_0 : decode cX12_hasPulse 0 = .ok (.aload_n 0, 1) := qd_o42 0 0 qd_g389 rfl
theorem dX12_hasPulse_1 : decode cX12_hasPulse 1 = .ok (.getfield 50, 3) := qd_o180 0 1 qd_g389 rfl rfl
theorem dX12_hasPulse_4 : decode cX12_hasPulse 4 = .ok (.bipush 14, 2) := qd_o16 0 4 qd_g389 rfl rfl
theorem dX12_hasPulse_6 : decode cX12_hasPulse 6 = .ok (.iaload, 1) := qd_o46 0 6 qd_g389 rfl
theorem dX12_hasPulse_7 : decode cX12_hasPulse 7 = .ok (.aload_n 0, 1) := qd_o42 0 7 qd_g389 rfl
theorem dX12_hasPulse_8 : decode cX12_hasPulse 8 = .ok (.getfield 50, 3) := qd_o180 0 8 qd_g389 rfl rfl
theorem dX12_hasPulse_11 : decode cX12_hasPulse 11 = .ok (.bipush 13, 2) := qd_o16 0 11 qd_g389 rfl rfl
theorem dX12_hasPulse_13 : decode cX12_hasPulse 13 = .ok (.iaload, 1) := qd_o46 0 13 qd_g389 rfl
theorem dX12_hasPulse_14 : decode cX12_hasPulse 14 = .ok (.if_icmp .ge 7, 3) := qd_o162 0 14 qd_g389 rfl rfl
theorem dX12_hasPulse_17 : decode cX12_hasPulse 17 = .ok (.iconst 1, 1) := qd_o4 0 17 qd_g389 rfl
theorem dX12_hasPulse_18 : decode cX12_hasPulse 18 = .ok (.goto 4, 3) := qd_o167 0 18 qd_g389 rfl rfl
theorem dX12_hasPulse_21 : decode cX12_hasPulse 21 = .ok (.iconst 0, 1) := qd_o3 0 21 qd_g389 rfl
theorem dX12_hasPulse_22 : decode cX12_hasPulse 22 = .ok (.ireturn, 1) := qd_o172 0 22 qd_g389 rfl
theorem qd_g390 : qd_bs cX12_readRegister 0 [27, 16, 9, 160, 0, 8, 42, 182, 0, 135, 172, 27, 16, 10, 160, 0, 11, 42, 180, 0, 50, 16, 9, 46, 172, 27, 16, 12, 16, 15, 184, 0, 119, 153, 0, 47, 27, 5, 112] = true := by decide +kernel
theorem dX12_readRegister_0 : decode cX12_readRegister 0 = .ok (.iload_n 1, 1) := qd_o27 0 0 qd_g390 rfl
theorem dX12_readRegister_1 : decode cX12_readRegister 1 = .ok (.bipush 9, 2) := qd_o16 0 1 qd_g390 rfl rfl
theorem dX12_readRegister_3 : decode cX12_readRegister 3 = .ok (.if_icmp .ne 8, 3) := qd_o160 0 3 qd_g390 rfl rfl
theorem dX12_readRegister_6 : decode cX12_readRegister 6 = .ok (.aload_n 0, 1) := qd_o42 0 6 qd_g390 rfl
theorem dX12_readRegister_7 : decode cX12_readRegister 7 = .ok (.invokevirtual 135, 3) := qd_o182 0 7 qd_g390 rfl rfl
theorem dX12_readRegister_10 : decode cX12_readRegister 10 = .ok (.ireturn, 1) := qd_o172 0 10 qd_g390 rfl
theorem dX12_readRegister_11 : decode cX12_readRegister 11 = .ok (.iload_n 1, 1) := qd_o27 0 11 qd_g390 rfl
theorem dX12_readRegister_12 : decode cX12_readRegister 12 = .ok (.bipush 10, 2) := qd_o16 0 12 qd_g390 rfl rfl
theorem dX12_readRegister_14 : decode cX12_readRegister 14 = .ok (.if_icmp .ne 11, 3) := qd_o160 0 14 qd_g390 rfl rfl
theorem dX12_readRegister_17 : decode cX12_readRegister 17 = .ok (.aload_n 0, 1) := qd_o42 0 17 qd_g390 rfl
theorem dX12_readRegister_18 : decode cX12_readRegister 18 = .ok (.getfield 50, 3) := qd_o180 0 18 qd_g390 rfl rfl
theorem dX12_readRegister_21 : decode cX12_readRegister 21 = .ok (.bipush 9, 2) := qd_o16 0 21 qd_g390 rfl rfl
theorem dX12_readRegister_23 : decode cX12_readRegister 23 = .ok (.iaload, 1) := qd_o46 0 23 qd_g390 rfl
theorem dX12_readRegister_24 : decode cX12_readRegister 24 = .ok (.ireturn, 1) := qd_o172 0 24 qd_g390 rfl
theorem dX12_readRegister_25 : decode cX12_readRegister 25 = .ok (.iload_n 1, 1) := qd_o27 0 25 qd_g390 rfl
theorem dX12_readRegister_26 : decode cX12_readRegister 26 = .ok (.bipush 12, 2) := qd_o16 0 26 qd_g390 rfl rfl
theorem dX12_readRegister_28 : decode cX12_readRegister 28 = .ok (.bipush 15, 2) := qd_o16 0 28 qd_g390 rfl rfl
theorem dX12_readRegister_30 : decode cX12_readRegister 30 = .ok (.invokestatic 119, 3) := qd_o184 0 30 qd_g390 rfl rfl
theorem dX12_readRegister_33 : decode cX12_readRegister 33 = .ok (.ifCond .eq 47, 3) := qd_o153 0 33 qd_g390 rfl rfl
theorem dX12_readRegister_36 : decode cX12_readRegister 36 = .ok (.iload_n 1, 1) := qd_o27 0 36 qd_g390 rfl
theorem dX12_readRegister_37 : decode cX12_readRegister 37 = .ok (.iconst 2, 1) := qd_o5 0 37 qd_g390 rfl
theorem dX12_readRegister_38 : decode cX12_readRegister 38 = .ok (.irem, 1) := qd_o112 0 38 qd_g390 rfl
theorem qd_g391 : qd_bs cX12_readRegister 39 [154, 0, 19, 42, 180, 0, 50, 8, 27, 16, 12, 100, 5, 108, 96, 46, 167, 0, 20, 42, 180, 0, 50, 8, 27, 16, 12, 100, 5, 108, 96, 46, 17, 1, 0, 108, 17, 1, 0, 112] = true := by decide +kernel
theorem dX12_readRegister_39 : decode cX12_readRegister 39 = .ok (.ifCond .ne 19, 3) := qd_o154 39 0 qd_g391 rfl rfl
theorem dX12_readRegister_42 : decode cX12_readRegister 42 = .ok (.aload_n 0, 1) := qd_o42 39 3 qd_g391 rfl
theorem dX12_readRegister_43 : decode cX12_readRegister 43 = .ok (.getfield 50, 3) := qd_o180 39 4 qd_g391 rfl rfl
theorem dX12_readRegister_46 : decode cX12_readRegister 46 = .ok (.iconst 5, 1) := qd_o8 39 7 qd_g391 rfl
theorem dX12_readRegister_47 : decode cX12_readRegister 47 = .ok (.iload_n 1, 1) := qd_o27 39 8 qd_g391 rfl
theorem dX12_readRegister_48 : decode cX12_readRegister 48 = .ok (.bipush 12, 2) := qd_o16 39 9 qd_g391 rfl rfl
theorem dX12_readRegister_50 : decode cX12_readRegister 50 = .ok (.isub, 1) := qd_o100 39 11 qd_g391 rfl
theorem dX12_readRegister_51 : decode cX12_readRegister 51 = .ok (.iconst 2, 1) := qd_o5 39 12 qd_g391 rfl
theorem dX12_readRegister_52 : decode cX12_readRegister 52 = .ok (.idiv, 1) := qd_o108 39 13 qd_g391 rfl
theorem dX12_readRegister_53 : decode cX12_readRegister 53 = .ok (.iadd, 1) := qd_o96 39 14 qd_g391 rfl
theorem dX12_readRegister_54 : decode cX12_readRegister 54 = .ok (.iaload, 1) := qd_o46 39 15 qd_g391 rfl
theorem dX12_readRegister_55 : decode cX12_readRegister 55 = .ok (.goto 20, 3) := qd_o167 39 16 qd_g391 rfl rfl
theorem dX12_readRegister_58 : decode cX12_readRegister 58 = .ok (.aload_n 0, 1) := qd_o42 39 19 qd_g391 rfl
theorem dX12_readRegister_59 : decode cX12_readRegister 59 = .ok (.getfield 50, 3) := qd_o180 39 20 qd_g391 rfl rfl
theorem dX12_readRegister_62 : decode cX12_readRegister 62 = .ok (.iconst 5, 1) := qd_o8 39 23 qd_g391 rfl
theorem dX12_readRegister_63 : decode cX12_readRegister 63 = .ok (.iload_n 1, 1) := qd_o27 39 24 qd_g391 rfl
theorem dX12_readRegister_64 : decode cX12_readRegister 64 = .ok (.bipush 12, 2) := qd_o16 39 25 qd_g391 rfl rfl
theorem dX12_readRegister_66 : decode cX12_readRegister 66 = .ok (.isub, 1) := qd_o100 39 27 qd_g391 rfl
theorem dX12_readRegister_67 : decode cX12_readRegister 67 = .ok (.iconst 2, 1) := qd_o5 39 28 qd_g391 rfl
theorem dX12_readRegister_68 : decode cX12_readRegister 68 = .ok (.idiv, 1) := qd_o108 39 29 qd_g391 rfl
theorem dX12_readRegister_69 : decode cX12_readRegister 69 = .ok (.iadd, 1) := qd_o96 39 30 qd_g391 rfl
theorem dX12_readRegister_70 : decode cX12_readRegister 70 = .ok (.iaload, 1) := qd_o46 39 31 qd_g391 rfl
theorem dX12_readRegister_71 : decode cX12_readRegister 71 = .ok (.sipush 256, 3) := qd_o17 39 32 qd_g391 rfl rfl
theorem dX12_readRegister_74 : decode cX12_readRegister 74 = .ok (.idiv, 1) := qd_o108 39 35 qd_g391 rfl
theorem dX12_readRegister_75 : decode cX12_readRegister 75 = .ok (.sipush 256, 3) := qd_o17 39 36 qd_g391 rfl rfl
theorem dX12_readRegister_78 : decode cX12_readRegister 78 = .ok (.irem, 1) := qd_o112 39 39 qd_g391 rfl
theorem qd_g392 : qd_bs cX12_readRegister 79 [172, 27, 16, 29, 160, 0, 11, 42, 180, 0, 50, 16, 10, 46, 172, 27, 16, 30, 160, 0, 11, 42, 180, 0, 50, 16, 11, 46, 172, 27, 16, 31, 160, 0, 26, 42, 42, 180, 0, 19] = true := by decide +kernel
theorem dX12_readRegister_79 : decode cX12_readRegister 79 = .ok (.ireturn, 1) := qd_o172 79 0 qd_g392 rfl
theorem dX12_readRegister_80 : decode cX12_readRegister 80 = .ok (.iload_n 1, 1) := qd_o27 79 1 qd_g392 rfl
theorem dX12_readRegister_81 : decode cX12_readRegister 81 = .ok (.bipush 29, 2) := qd_o16 79 2 qd_g392 rfl rfl
theorem dX12_readRegister_83 : decode cX12_readRegister 83 = .ok (.if_icmp .ne 11, 3) := qd_o160 79 4 qd_g392 rfl rfl
theorem dX12_readRegister_86 : decode cX12_readRegister 86 = .ok (.aload_n 0, 1) := qd_o42 79 7 qd_g392 rfl
theorem dX12_readRegister_87 : decode cX12_readRegister 87 = .ok (.getfield 50, 3) := qd_o180 79 8 qd_g392 rfl rfl
theorem dX12_readRegister_90 : decode cX12_readRegister 90 = .ok (.bipush 10, 2) := qd_o16 79 11 qd_g392 rfl rfl
theorem dX12_readRegister_92 : decode cX12_readRegister 92 = .ok (.iaload, 1) := qd_o46 79 13 qd_g392 rfl
theorem dX12_readRegister_93 : decode cX12_readRegister 93 = .ok (.ireturn, 1) := qd_o172 79 14 qd_g392 rfl
theorem dX12_readRegister_94 : decode cX12_readRegister 94 = .ok (.iload_n 1, 1) := qd_o27 79 15 qd_g392 rfl
theorem dX12_readRegister_95 : decode cX12_readRegister 95 = .ok (.bipush 30, 2) := qd_o16 79 16 qd_g392 rfl rfl
theorem dX12_readRegister_97 : decode cX12_readRegister 97 = .ok (.if_icmp .ne 11, 3) := qd_o160 79 18 qd_g392 rfl rfl
theorem dX12_readRegister_100 : decode cX12_readRegister 100 = .ok (.aload_n 0, 1) := qd_o42 79 21 qd_g392 rfl
theorem dX12_readRegister_101 : decode cX12_readRegister 101 = .ok (.getfield 50, 3) := qd_o180 79 22 qd_g392 rfl rfl
theorem dX12_readRegister_104 : decode cX12_readRegister 104 = .ok (.bipush 11, 2) := qd_o16 79 25 qd_g392 rfl rfl
theorem dX12_readRegister_106 : decode cX12_readRegister 106 = .ok (.iaload, 1) := qd_o46 79 27 qd_g392 rfl
theorem dX12_readRegister_107 : decode cX12_readRegister 107 = .ok (.ireturn, 1) := qd_o172 79 28 qd_g392 rfl
theorem dX12_readRegister_108 : decode cX12_readRegister 108 = .ok (.iload_n 1, 1) := qd_o27 79 29 qd_g392 rfl
theorem dX12_readRegister_109 : decode cX12_readRegister 109 = .ok (.bipush 31, 2) := qd_o16 79 30 qd_g392 rfl rfl
theorem dX12_readRegister_111 : decode cX12_readRegister 111 = .ok (.if_icmp .ne 26, 3) := qd_o160 79 32 qd_g392 rfl rfl
theorem dX12_readRegister_114 : decode cX12_readRegister 114 = .ok (.aload_n 0, 1) := qd_o42 79 35 qd_g392 rfl
theorem dX12_readRegister_115 : decode cX12_readRegister 115 = .ok (.aload_n 0, 1) := qd_o42 79 36 qd_g392 rfl
theorem dX12_readRegister_116 : decode cX12_readRegister 116 = .ok (.getfield 19, 3) := qd_o180 79 37 qd_g392 rfl rfl
theorem qd_g393 : qd_bs cX12_readRegister 119 [16, 31, 46, 182, 0, 139, 16, 16, 42, 180, 0, 50, 16, 12, 46, 104, 96, 172, 27, 16, 44, 160, 0, 34, 42, 180, 0, 19, 16, 44, 46, 5, 42, 180, 0, 50, 16, 16, 46, 104] = true := by decide +kernel
theorem dX12_readRegister_119 : decode cX12_readRegister 119 = .ok (.bipush 31, 2) := qd_o16 119 0 qd_g393 rfl rfl
theorem dX12_readRegister_121 : decode cX12_readRegister 121 = .ok (.iaload, 1) := qd_o46 119 2 qd_g393 rfl
theorem dX12_readRegister_122 : decode cX12_readRegister 122 = .ok (.invokevirtual 139, 3) := qd_o182 119 3 qd_g393 rfl rfl
theorem dX12_readRegister_125 : decode cX12_readRegister 125 = .ok (.bipush 16, 2) := qd_o16 119 6 qd_g393 rfl rfl
theorem dX12_readRegister_127 : decode cX12_readRegister 127 = .ok (.aload_n 0, 1) := qd_o42 119 8 qd_g393 rfl
theorem dX12_readRegister_128 : decode cX12_readRegister 128 = .ok (.getfield 50, 3) := qd_o180 119 9 qd_g393 rfl rfl
theorem dX12_readRegister_131 : decode cX12_readRegister 131 = .ok (.bipush 12, 2) := qd_o16 119 12 qd_g393 rfl rfl
theorem dX12_readRegister_133 : decode cX12_readRegister 133 = .ok (.iaload, 1) := qd_o46 119 14 qd_g393 rfl
theorem dX12_readRegister_134 : decode cX12_readRegister 134 = .ok (.imul, 1) := qd_o104 119 15 qd_g393 rfl
theorem dX12_readRegister_135 : decode cX12_readRegister 135 = .ok (.iadd, 1) := qd_o96 119 16 qd_g393 rfl
theorem dX12_readRegister_136 : decode cX12_readRegister 136 = .ok (.ireturn, 1) := qd_o172 119 17 qd_g393 rfl
theorem dX12_readRegister_137 : decode cX12_readRegister 137 = .ok (.iload_n 1, 1) := qd_o27 119 18 qd_g393 rfl
theorem dX12_readRegister_138 : decode cX12_readRegister 138 = .ok (.bipush 44, 2) := qd_o16 119 19 qd_g393 rfl rfl
theorem dX12_readRegister_140 : decode cX12_readRegister 140 = .ok (.if_icmp .ne 34, 3) := qd_o160 119 21 qd_g393 rfl rfl
theorem dX12_readRegister_143 : decode cX12_readRegister 143 = .ok (.aload_n 0, 1) := qd_o42 119 24 qd_g393 rfl
theorem dX12_readRegister_144 : decode cX12_readRegister 144 = .ok (.getfield 19, 3) := qd_o180 119 25 qd_g393 rfl rfl
theorem dX12_readRegister_147 : decode cX12_readRegister 147 = .ok (.bipush 44, 2) := qd_o16 119 28 qd_g393 rfl rfl
theorem dX12_readRegister_149 : decode cX12_readRegister 149 = .ok (.iaload, 1) := qd_o46 119 30 qd_g393 rfl
theorem dX12_readRegister_150 : decode cX12_readRegister 150 = .ok (.iconst 2, 1) := qd_o5 119 31 qd_g393 rfl
theorem dX12_readRegister_151 : decode cX12_readRegister 151 = .ok (.aload_n 0, 1) := qd_o42 119 32 qd_g393 rfl
theorem dX12_readRegister_152 : decode cX12_readRegister 152 = .ok (.getfield 50, 3) := qd_o180 119 33 qd_g393 rfl rfl
theorem dX12_readRegister_155 : decode cX12_readRegister 155 = .ok (.bipush 16, 2) := qd_o16 119 36 qd_g393 rfl rfl
theorem dX12_readRegister_157 : decode cX12_readRegister 157 = .ok (.iaload, 1) := qd_o46 119 38 qd_g393 rfl
theorem dX12_readRegister_158 : decode cX12_readRegister 158 = .ok (.imul, 1) := qd_o104 119 39 qd_g393 rfl
theorem qd_g394 : qd_bs cX12_readRegister 159 [96, 42, 182, 0, 143, 153, 0, 7, 7, 167, 0, 4, 3, 96, 172, 27, 16, 44, 164, 0, 7, 3, 167, 0, 9, 42, 180, 0, 19, 27, 46, 172] = true := by decide +kernel
theorem dX12_readRegister_159 : decode cX12_readRegister 159 = .ok (.iadd, 1) := qd_o96 159 0 qd_g394 rfl
theorem dX12_readRegister_160 : decode cX12_readRegister 160 = .ok (.aload_n 0, 1) := qd_o42 159 1 qd_g394 rfl
theorem dX12_readRegister_161 : decode cX12_readRegister 161 = .ok (.invokevirtual 143, 3) := qd_o182 159 2 qd_g394 rfl rfl
theorem dX12_readRegister_164 : decode cX12_readRegister 164 = .ok (.ifCond .eq 7, 3) := qd_o153 159 5 qd_g394 rfl rfl
theorem dX12_readRegister_167 : decode cX12_readRegister 167 = .ok (.iconst 4, 1) := qd_o7 159 8 qd_g394 rfl
theorem dX12_readRegister_168 : decode cX12_readRegister 168 = .ok (.goto 4, 3) := qd_o167 159 9 qd_g394 rfl rfl
theorem dX12_readRegister_171 : decode cX12_readRegister 171 = .ok (.iconst 0, 1) := qd_o3 159 12 qd_g394 rfl
theorem dX12_readRegister_172 : decode cX12_readRegister 172 = .ok (.iadd, 1) := qd_o96 159 13 qd_g394 rfl
theorem dX12_readRegister_173 : decode cX12_readRegister 173 = .ok (.ireturn, 1) := qd_o172 159 14 qd_g394 rfl
theorem dX12_readRegister_174 : decode cX12_readRegister 174 = .ok (.iload_n 1, 1) := qd_o27 159 15 qd_g394 rfl
theorem dX12_readRegister_175 : decode cX12_readRegister 175 = .ok (.bipush 44, 2) := qd_o16 159 16 qd_g394 rfl rfl
theorem dX12_readRegister_177 : decode cX12_readRegister 177 = .ok (.if_icmp .le 7, 3) := qd_o164 159 18 qd_g394 rfl rfl
theorem dX12_readRegister_180 : decode cX12_readRegister 180 = .ok (.iconst 0, 1) := qd_o3 159 21 qd_g394 rfl
theorem dX12_readRegister_181 : decode cX12_readRegister 181 = .ok (.goto 9, 3) := qd_o167 159 22 qd_g394 rfl rfl
theorem dX12_readRegister_184 : decode cX12_readRegister 184 = .ok (.aload_n 0, 1) := qd_o42 159 25 qd_g394 rfl
theorem dX12_readRegister_185 : decode cX12_readRegister 185 = .ok (.getfield 19, 3) := qd_o180 159 26 qd_g394 rfl rfl
theorem dX12_readRegister_188 : decode cX12_readRegister 188 = .ok (.iload_n 1, 1) := qd_o27 159 29 qd_g394 rfl
theorem dX12_readRegister_189 : decode cX12_readRegister 189 = .ok (.iaload, 1) := qd_o46 159 30 qd_g394 rfl
theorem dX12_readRegister_190 : decode cX12_readRegister 190 = .ok (.ireturn, 1) := qd_o172 159 31 qd_g394 rfl
theorem qd_g395 : qd_bs cX12_bitsOf 0 [26, 4, 160, 0, 5, 5, 172, 26, 5, 160, 0, 5, 8, 172, 26, 16, 16, 160, 0, 5, 6, 172, 26, 16, 20, 16, 27, 184, 0, 119, 153, 0, 6, 16, 6, 172, 26, 16, 9] = true := by decide +kernel
theorem dX12_bitsOf_0 : decode cX12_bitsOf 0 = .ok (.iload_n 0, 1) := qd_o26 0 0 qd_g395 rfl
theorem dX12_bitsOf_1 : decode cX12_bitsOf 1 = .ok (.iconst 1, 1) := qd_o4 0 1 qd_g395 rfl
theorem dX12_bitsOf_2 : decode cX12_bitsOf 2 = .ok (.if_icmp .ne 5, 3) := qd_o160 0 2 qd_g395 rfl rfl
theorem dX12_bitsOf_5 : decode cX12_bitsOf 5 = .ok (.iconst 2, 1) := qd_o5 0 5 qd_g395 rfl
theorem dX12_bitsOf_6 : decode cX12_bitsOf 6 = .ok (.ireturn, 1) := qd_o172 0 6 qd_g395 rfl
theorem dX12_bitsOf_7 : decode cX12_bitsOf 7 = .ok (.iload_n 0, 1) := qd_o26 0 7 qd_g395 rfl
theorem dX12_bitsOf_8 : decode cX12_bitsOf 8 = .ok (.iconst 2, 1) := qd_o5 0 8 qd_g395 rfl
theorem dX12_bitsOf_9 : decode cX12_bitsOf 9 = .ok (.if_icmp .ne 5, 3) := qd_o160 0 9 qd_g395 rfl rfl
theorem dX12_bitsOf_12 : decode cX12_bitsOf 12 = .ok (.iconst 5, 1) := qd_o8 0 12 qd_g395 rfl
theorem dX12_bitsOf_13 : decode cX12_bitsOf 13 = .ok (.ireturn, 1) := qd_o172 0 13 qd_g395 rfl
theorem dX12_bitsOf_14 : decode cX12_bitsOf 14 = .ok (.iload_n 0, 1) := qd_o26 0 14 qd_g395 rfl
theorem dX12_bitsOf_15 : decode cX12_bitsOf 15 = .ok (.bipush 16, 2) := qd_o16 0 15 qd_g395 rfl rfl
theorem dX12_bitsOf_17 : decode cX12_bitsOf 17 = .ok (.if_icmp .ne 5, 3) := qd_o160 0 17 qd_g395 rfl rfl
theorem dX12_bitsOf_20 : decode cX12_bitsOf 20 = .ok (.iconst 3, 1) := qd_o6 0 20 qd_g395 rfl
theorem dX12_bitsOf_21 : decode cX12_bitsOf 21 = .ok (.ireturn, 1) := qd_o172 0 21 qd_g395 rfl
theorem dX12_bitsOf_22 : decode cX12_bitsOf 22 = .ok (.iload_n 0, 1) := qd_o26 0 22 qd_g395 rfl
theorem dX12_bitsOf_23 : decode cX12_bitsOf 23 = .ok (.bipush 20, 2) := qd_o16 0 23 qd_g395 rfl rfl
theorem dX12_bitsOf_25 : decode cX12_bitsOf 25 = .ok (.bipush 27, 2) := qd_o16 0 25 qd_g395 rfl rfl
theorem dX12_bitsOf_27 : decode cX12_bitsOf 27 = .ok (.invokestatic 119, 3) := qd_o184 0 27 qd_g395 rfl rfl
theorem dX12_bitsOf_30 : decode cX12_bitsOf 30 = .ok (.ifCond .eq 6, 3) := qd_o153 0 30 qd_g395 rfl rfl
theorem dX12_bitsOf_33 : decode cX12_bitsOf 33 = .ok (.bipush 6, 2) := qd_o16 0 33 qd_g395 rfl rfl
theorem dX12_bitsOf_35 : decode cX12_bitsOf 35 = .ok (.ireturn, 1) := qd_o172 0 35 qd_g395 rfl
theorem dX12_bitsOf_36 : decode cX12_bitsOf 36 = .ok (.iload_n 0, 1) := qd_o26 0 36 qd_g395 rfl
theorem dX12_bitsOf_37 : decode cX12_bitsOf 37 = .ok (.bipush 9, 2) := qd_o16 0 37 qd_g395 rfl rfl
theorem qd_g396 : qd_bs cX12_bitsOf 39 [159, 0, 25, 26, 16, 12, 16, 15, 184, 0, 119, 154, 0, 14, 26, 16, 32, 16, 43, 184, 0, 119, 153, 0, 6, 16, 8, 172, 26, 16, 44, 160, 0, 7, 4, 167, 0, 4, 7, 172] = true := by decide +kernel
theorem dX12_bitsOf_39 : decode cX12_bitsOf 39 = .ok (.if_icmp .eq 25, 3) := qd_o159 39 0 qd_g396 rfl rfl
theorem dX12_bitsOf_42 : decode cX12_bitsOf 42 = .ok (.iload_n 0, 1) := qd_o26 39 3 qd_g396 rfl
theorem dX12_bitsOf_43 : decode cX12_bitsOf 43 = .ok (.bipush 12, 2) := qd_o16 39 4 qd_g396 rfl rfl
theorem dX12_bitsOf_45 : decode cX12_bitsOf 45 = .ok (.bipush 15, 2) := qd_o16 39 6 qd_g396 rfl rfl
theorem dX12_bitsOf_47 : decode cX12_bitsOf 47 = .ok (.invokestatic 119, 3) := qd_o184 39 8 qd_g396 rfl rfl
theorem dX12_bitsOf_50 : decode cX12_bitsOf 50 = .ok (.ifCond .ne 14, 3) := qd_o154 39 11 qd_g396 rfl rfl
theorem dX12_bitsOf_53 : decode cX12_bitsOf 53 = .ok (.iload_n 0, 1) := qd_o26 39 14 qd_g396 rfl
theorem dX12_bitsOf_54 : decode cX12_bitsOf 54 = .ok (.bipush 32, 2) := qd_o16 39 15 qd_g396 rfl rfl
theorem dX12_bitsOf_56 : decode cX12_bitsOf 56 = .ok (.bipush 43, 2) := qd_o16 39 17 qd_g396 rfl rfl
theorem dX12_bitsOf_58 : decode cX12_bitsOf 58 = .ok (.invokestatic 119, 3) := qd_o184 39 19 qd_g396 rfl rfl
theorem dX12_bitsOf_61 : decode cX12_bitsOf 61 = .ok (.ifCond .eq 6, 3) := qd_o153 39 22 qd_g396 rfl rfl
theorem dX12_bitsOf_64 : decode cX12_bitsOf 64 = .ok (.bipush 8, 2) := qd_o16 39 25 qd_g396 rfl rfl
theorem dX12_bitsOf_66 : decode cX12_bitsOf 66 = .ok (.ireturn, 1) := qd_o172 39 27 qd_g396 rfl
theorem dX12_bitsOf_67 : decode cX12_bitsOf 67 = .ok (.iload_n 0, 1) := qd_o26 39 28 qd_g396 rfl
theorem dX12_bitsOf_68 : decode cX12_bitsOf 68 = .ok (.bipush 44, 2) := qd_o16 39 29 qd_g396 rfl rfl
theorem dX12_bitsOf_70 : decode cX12_bitsOf 70 = .ok (.if_icmp .ne 7, 3) := qd_o160 39 31 qd_g396 rfl rfl
theorem dX12_bitsOf_73 : decode cX12_bitsOf 73 = .ok (.iconst 1, 1) := qd_o4 39 34 qd_g396 rfl
theorem dX12_bitsOf_74 : decode cX12_bitsOf 74 = .ok (.goto 4, 3) := qd_o167 39 35 qd_g396 rfl rfl
theorem dX12_bitsOf_77 : decode cX12_bitsOf 77 = .ok (.iconst 4, 1) := qd_o7 39 38 qd_g396 rfl
theorem dX12_bitsOf_78 : decode cX12_bitsOf 78 = .ok (.ireturn, 1) := qd_o172 39 39 qd_g396 rfl
theorem qd_g397 : qd_bs cX12_writeRegister 0 [27, 16, 44, 163, 0, 15, 27, 16, 29, 159, 0, 9, 27, 16, 30, 160, 0, 4, 177, 28, 4, 27, 184, 0, 147, 120, 4, 100, 126, 62, 27, 16, 10, 160, 0, 17, 42, 180, 0, 50] = true := by decide +kernel
theorem dX12_writeRegister_0 : decode cX12_writeRegister 0 = .ok (.iload_n 1, 1) := qd_o27 0 0 qd_g397 rfl
theorem dX12_writeRegister_1 : decode cX12_writeRegister 1 = .ok (.bipush 44, 2) := qd_o16 0 1 qd_g397 rfl rfl
theorem dX12_writeRegister_3 : decode cX12_writeRegister 3 = .ok (.if_icmp .gt 15, 3) := qd_o163 0 3 qd_g397 rfl rfl
theorem dX12_writeRegister_6 : decode cX12_writeRegister 6 = .ok (.iload_n 1, 1) := qd_o27 0 6 qd_g397 rfl
theorem dX12_writeRegister_7 : decode cX12_writeRegister 7 = .ok (.bipush 29, 2) := qd_o16 0 7 qd_g397 rfl rfl
theorem dX12_writeRegister_9 : decode cX12_writeRegister 9 = .ok (.if_icmp .eq 9, 3) := qd_o159 0 9 qd_g397 rfl rfl
theorem dX12_writeRegister_12 : decode cX12_writeRegister 12 = .ok (.iload_n 1, 1) := qd_o27 0 12 qd_g397 rfl
theorem dX12_writeRegister_13 : decode cX12_writeRegister 13 = .ok (.bipush 30, 2) := qd_o16 0 13 qd_g397 rfl rfl
theorem dX12_writeRegister_15 : decode cX12_writeRegister 15 = .ok (.if_icmp .ne 4, 3) := qd_o160 0 15 qd_g397 rfl rfl
theorem dX12_writeRegister_18 : decode cX12_writeRegister 18 = .ok (.return_, 1) := qd_o177 0 18 qd_g397 rfl
theorem dX12_writeRegister_19 : decode cX12_writeRegister 19 = .ok (.iload_n 2, 1) := qd_o28 0 19 qd_g397 rfl
theorem dX12_writeRegister_20 : decode cX12_writeRegister 20 = .ok (.iconst 1, 1) := qd_o4 0 20 qd_g397 rfl
theorem dX12_writeRegister_21 : decode cX12_writeRegister 21 = .ok (.iload_n 1, 1) := qd_o27 0 21 qd_g397 rfl
theorem dX12_writeRegister_22 : decode cX12_writeRegister 22 = .ok (.invokestatic 147, 3) := qd_o184 0 22 qd_g397 rfl rfl
theorem dX12_writeRegister_25 : decode cX12_writeRegister 25 = .ok (.ishl, 1) := qd_o120 0 25 qd_g397 rfl
theorem dX12_writeRegister_26 : decode cX12_writeRegister 26 = .ok (.iconst 1, 1) := qd_o4 0 26 qd_g397 rfl
theorem dX12_writeRegister_27 : decode cX12_writeRegister 27 = .ok (.isub, 1) := qd_o100 0 27 qd_g397 rfl
theorem dX12_writeRegister_28 : decode cX12_writeRegister 28 = .ok (.iand, 1) := qd_o126 0 28 qd_g397 rfl
theorem dX12_writeRegister_29 : decode cX12_writeRegister 29 = .ok (.istore_n 3, 1) := qd_o62 0 29 qd_g397 rfl
theorem dX12_writeRegister_30 : decode cX12_writeRegister 30 = .ok (.iload_n 1, 1) := qd_o27 0 30 qd_g397 rfl
theorem dX12_writeRegister_31 : decode cX12_writeRegister 31 = .ok (.bipush 10, 2) := qd_o16 0 31 qd_g397 rfl rfl
theorem dX12_writeRegister_33 : decode cX12_writeRegister 33 = .ok (.if_icmp .ne 17, 3) := qd_o160 0 33 qd_g397 rfl rfl
theorem dX12_writeRegister_36 : decode cX12_writeRegister 36 = .ok (.aload_n 0, 1) := qd_o42 0 36 qd_g397 rfl
theorem dX12_writeRegister_37 : decode cX12_writeRegister 37 = .ok (.getfield 50, 3) := qd_o180 0 37 qd_g397 rfl rfl
theorem qd_g398 : qd_bs cX12_writeRegister 40 [16, 9, 92, 46, 28, 2, 130, 126, 79, 177, 27, 16, 12, 16, 15, 184, 0, 119, 153, 0, 65, 16, 7, 27, 16, 12, 100, 5, 108, 96, 54, 4, 42, 180, 0, 50, 21, 4, 27, 5] = true := by decide +kernel
theorem dX12_writeRegister_40 : decode cX12_writeRegister 40 = .ok (.bipush 9, 2) := qd_o16 40 0 qd_g398 rfl rfl
theorem dX12_writeRegister_42 : decode cX12_writeRegister 42 = .ok (.dup2, 1) := qd_o92 40 2 qd_g398 rfl
theorem dX12_writeRegister_43 : decode cX12_writeRegister 43 = .ok (.iaload, 1) := qd_o46 40 3 qd_g398 rfl
theorem dX12_writeRegister_44 : decode cX12_writeRegister 44 = .ok (.iload_n 2, 1) := qd_o28 40 4 qd_g398 rfl
theorem dX12_writeRegister_45 : decode cX12_writeRegister 45 = .ok (.iconst (-1), 1) := qd_o2 40 5 qd_g398 rfl
theorem dX12_writeRegister_46 : decode cX12_writeRegister 46 = .ok (.ixor, 1) := qd_o130 40 6 qd_g398 rfl
theorem dX12_writeRegister_47 : decode cX12_writeRegister 47 = .ok (.iand, 1) := qd_o126 40 7 qd_g398 rfl
theorem dX12_writeRegister_48 : decode cX12_writeRegister 48 = .ok (.iastore, 1) := qd_o79 40 8 qd_g398 rfl
theorem dX12_writeRegister_49 : decode cX12_writeRegister 49 = .ok (.return_, 1) := qd_o177 40 9 qd_g398 rfl
theorem dX12_writeRegister_50 : decode cX12_writeRegister 50 = .ok (.iload_n 1, 1) := qd_o27 40 10 qd_g398 rfl
theorem dX12_writeRegister_51 : decode cX12_writeRegister 51 = .ok (.bipush 12, 2) := qd_o16 40 11 qd_g398 rfl rfl
theorem dX12_writeRegister_53 : decode cX12_writeRegister 53 = .ok (.bipush 15, 2) := qd_o16 40 13 qd_g398 rfl rfl
theorem dX12_writeRegister_55 : decode cX12_writeRegister 55 = .ok (.invokestatic 119, 3) := qd_o184 40 15 qd_g398 rfl rfl
theorem dX12_writeRegister_58 : decode cX12_writeRegister 58 = .ok (.ifCond .eq 65, 3) := qd_o153 40 18 qd_g398 rfl rfl
theorem dX12_writeRegister_61 : decode cX12_writeRegister 61 = .ok (.bipush 7, 2) := qd_o16 40 21 qd_g398 rfl rfl
theorem dX12_writeRegister_63 : decode cX12_writeRegister 63 = .ok (.iload_n 1, 1) := qd_o27 40 23 qd_g398 rfl
theorem dX12_writeRegister_64 : decode cX12_writeRegister 64 = .ok (.bipush 12, 2) := qd_o16 40 24 qd_g398 rfl rfl
theorem dX12_writeRegister_66 : decode cX12_writeRegister 66 = .ok (.isub, 1) := qd_o100 40 26 qd_g398 rfl
theorem dX12_writeRegister_67 : decode cX12_writeRegister 67 = .ok (.iconst 2, 1) := qd_o5 40 27 qd_g398 rfl
theorem dX12_writeRegister_68 : decode cX12_writeRegister 68 = .ok (.idiv, 1) := qd_o108 40 28 qd_g398 rfl
theorem dX12_writeRegister_69 : decode cX12_writeRegister 69 = .ok (.iadd, 1) := qd_o96 40 29 qd_g398 rfl
theorem dX12_writeRegister_70 : decode cX12_writeRegister 70 = .ok (.istore 4, 2) := qd_o54 40 30 qd_g398 rfl rfl
theorem dX12_writeRegister_72 : decode cX12_writeRegister 72 = .ok (.aload_n 0, 1) := qd_o42 40 32 qd_g398 rfl
theorem dX12_writeRegister_73 : decode cX12_writeRegister 73 = .ok (.getfield 50, 3) := qd_o180 40 33 qd_g398 rfl rfl
theorem dX12_writeRegister_76 : decode cX12_writeRegister 76 = .ok (.iload 4, 2) := qd_o21 40 36 qd_g398 rfl rfl
theorem dX12_writeRegister_78 : decode cX12_writeRegister 78 = .ok (.iload_n 1, 1) := qd_o27 40 38 qd_g398 rfl
theorem dX12_writeRegister_79 : decode cX12_writeRegister 79 = .ok (.iconst 2, 1) := qd_o5 40 39 qd_g398 rfl
theorem qd_g399 : qd_bs cX12_writeRegister 80 [112, 154, 0, 23, 42, 180, 0, 50, 21, 4, 46, 17, 1, 0, 108, 17, 1, 0, 104, 28, 96, 167, 0, 20, 42, 180, 0, 50, 21, 4, 46, 17, 1, 0, 112, 17, 1, 0, 28, 104] = true := by decide +kernel
theorem dX12_writeRegister_80 : decode cX12_writeRegister 80 = .ok (.irem, 1) := qd_o112 80 0 qd_g399 rfl
theorem dX12_writeRegister_81 : decode cX12_writeRegister 81 = .ok (.ifCond .ne 23, 3) := qd_o154 80 1 qd_g399 rfl rfl
theorem dX12_writeRegister_84 : decode cX12_writeRegister 84 = .ok (.aload_n 0, 1) := qd_o42 80 4 qd_g399 rfl
theorem dX12_writeRegister_85 : decode cX12_writeRegister 85 = .ok (.getfield 50, 3) := qd_o180 80 5 qd_g399 rfl rfl
theorem dX12_writeRegister_88 : decode cX12_writeRegister 88 = .ok (.iload 4, 2) := qd_o21 80 8 qd_g399 rfl rfl
theorem dX12_writeRegister_90 : decode cX12_writeRegister 90 = .ok (.iaload, 1) := qd_o46 80 10 qd_g399 rfl
theorem dX12_writeRegister_91 : decode cX12_writeRegister 91 = .ok (.sipush 256, 3) := qd_o17 80 11 qd_g399 rfl rfl
theorem dX12_writeRegister_94 : decode cX12_writeRegister 94 = .ok (.idiv, 1) := qd_o108 80 14 qd_g399 rfl
theorem dX12_writeRegister_95 : decode cX12_writeRegister 95 = .ok (.sipush 256, 3) := qd_o17 80 15 qd_g399 rfl rfl
theorem dX12_writeRegister_98 : decode cX12_writeRegister 98 = .ok (.imul, 1) := qd_o104 80 18 qd_g399 rfl
theorem dX12_writeRegister_99 : decode cX12_writeRegister 99 = .ok (.iload_n 2, 1) := qd_o28 80 19 qd_g399 rfl
theorem dX12_writeRegister_100 : decode cX12_writeRegister 100 = .ok (.iadd, 1) := qd_o96 80 20 qd_g399 rfl
theorem dX12_writeRegister_101 : decode cX12_writeRegister 101 = .ok (.goto 20, 3) := qd_o167 80 21 qd_g399 rfl rfl
theorem dX12_writeRegister_104 : decode cX12_writeRegister 104 = .ok (.aload_n 0, 1) := qd_o42 80 24 qd_g399 rfl
theorem dX12_writeRegister_105 : decode cX12_writeRegister 105 = .ok (.getfield 50, 3) := qd_o180 80 25 qd_g399 rfl rfl
theorem dX12_writeRegister_108 : decode cX12_writeRegister 108 = .ok (.iload 4, 2) := qd_o21 80 28 qd_g399 rfl rfl
theorem dX12_writeRegister_110 : decode cX12_writeRegister 110 = .ok (.iaload, 1) := qd_o46 80 30 qd_g399 rfl
theorem dX12_writeRegister_111 : decode cX12_writeRegister 111 = .ok (.sipush 256, 3) := qd_o17 80 31 qd_g399 rfl rfl
theorem dX12_writeRegister_114 : decode cX12_writeRegister 114 = .ok (.irem, 1) := qd_o112 80 34 qd_g399 rfl
theorem dX12_writeRegister_115 : decode cX12_writeRegister 115 = .ok (.sipush 256, 3) := qd_o17 80 35 qd_g399 rfl rfl
theorem dX12_writeRegister_118 : decode cX12_writeRegister 118 = .ok (.iload_n 2, 1) := qd_o28 80 38 qd_g399 rfl
theorem dX12_writeRegister_119 : decode cX12_writeRegister 119 = .ok (.imul, 1) := qd_o104 80 39 qd_g399 rfl
theorem qd_g400 : qd_bs cX12_writeRegister 120 [96, 79, 177, 3, 54, 4, 27, 16, 16, 160, 0, 58, 21, 4, 5, 162, 0, 52, 29, 21, 4, 184, 0, 131, 153, 0, 37, 42, 180, 0, 19, 16, 16, 46, 21, 4, 184, 0, 131] = true := by decide +kernel
theorem dX12_writeRegister_120 : decode cX12_writeRegister 120 = .ok (.iadd, 1) := qd_o96 120 0 qd_g400 rfl
theorem dX12_writeRegister_121 : decode cX12_writeRegister 121 = .ok (.iastore, 1) := qd_o79 120 1 qd_g400 rfl
theorem dX12_writeRegister_122 : decode cX12_writeRegister 122 = .ok (.return_, 1) := qd_o177 120 2 qd_g400 rfl
theorem dX12_writeRegister_123 : decode cX12_writeRegister 123 = .ok (.iconst 0, 1) := qd_o3 120 3 qd_g400 rfl
theorem dX12_writeRegister_124 : decode cX12_writeRegister 124 = .ok (.istore 4, 2) := qd_o54 120 4 qd_g400 rfl rfl
theorem dX12_writeRegister_126 : decode cX12_writeRegister 126 = .ok (.iload_n 1, 1) := qd_o27 120 6 qd_g400 rfl
theorem dX12_writeRegister_127 : decode cX12_writeRegister 127 = .ok (.bipush 16, 2) := qd_o16 120 7 qd_g400 rfl rfl
theorem dX12_writeRegister_129 : decode cX12_writeRegister 129 = .ok (.if_icmp .ne 58, 3) := qd_o160 120 9 qd_g400 rfl rfl
theorem dX12_writeRegister_132 : decode cX12_writeRegister 132 = .ok (.iload 4, 2) := qd_o21 120 12 qd_g400 rfl rfl
theorem dX12_writeRegister_134 : decode cX12_writeRegister 134 = .ok (.iconst 2, 1) := qd_o5 120 14 qd_g400 rfl
theorem dX12_writeRegister_135 : decode cX12_writeRegister 135 = .ok (.if_icmp .ge 52, 3) := qd_o162 120 15 qd_g400 rfl rfl
theorem dX12_writeRegister_138 : decode cX12_writeRegister 138 = .ok (.iload_n 3, 1) := qd_o29 120 18 qd_g400 rfl
theorem dX12_writeRegister_139 : decode cX12_writeRegister 139 = .ok (.iload 4, 2) := qd_o21 120 19 qd_g400 rfl rfl
theorem dX12_writeRegister_141 : decode cX12_writeRegister 141 = .ok (.invokestatic 131, 3) := qd_o184 120 21 qd_g400 rfl rfl
theorem dX12_writeRegister_144 : decode cX12_writeRegister 144 = .ok (.ifCond .eq 37, 3) := qd_o153 120 24 qd_g400 rfl rfl
theorem dX12_writeRegister_147 : decode cX12_writeRegister 147 = .ok (.aload_n 0, 1) := qd_o42 120 27 qd_g400 rfl
theorem dX12_writeRegister_148 : decode cX12_writeRegister 148 = .ok (.getfield 19, 3) := qd_o180 120 28 qd_g400 rfl rfl
theorem dX12_writeRegister_151 : decode cX12_writeRegister 151 = .ok (.bipush 16, 2) := qd_o16 120 31 qd_g400 rfl rfl
theorem dX12_writeRegister_153 : decode cX12_writeRegister 153 = .ok (.iaload, 1) := qd_o46 120 33 qd_g400 rfl
theorem dX12_writeRegister_154 : decode cX12_writeRegister 154 = .ok (.iload 4, 2) := qd_o21 120 34 qd_g400 rfl rfl
theorem dX12_writeRegister_156 : decode cX12_writeRegister 156 = .ok (.invokestatic 131, 3) := qd_o184 120 36 qd_g400 rfl rfl
theorem qd_g401 : qd_bs cX12_writeRegister 159 [154, 0, 22, 42, 180, 0, 50, 8, 21, 4, 96, 42, 180, 0, 50, 16, 7, 21, 4, 96, 46, 79, 132, 4, 1, 167, 255, 198, 42, 180, 0, 19, 27, 29, 79, 177] = true := by decide +kernel
theorem dX12_writeRegister_159 : decode cX12_writeRegister 159 = .ok (.ifCond .ne 22, 3) := qd_o154 159 0 qd_g401 rfl rfl
theorem dX12_writeRegister_162 : decode cX12_writeRegister 162 = .ok (.aload_n 0, 1) := qd_o42 159 3 qd_g401 rfl
theorem dX12_writeRegister_163 : decode cX12_writeRegister 163 = .ok (.getfield 50, 3) := qd_o180 159 4 qd_g401 rfl rfl
theorem dX12_writeRegister_166 : decode cX12_writeRegister 166 = .ok (.iconst 5, 1) := qd_o8 159 7 qd_g401 rfl
theorem dX12_writeRegister_167 : decode cX12_writeRegister 167 = .ok (.iload 4, 2) := qd_o21 159 8 qd_g401 rfl rfl
theorem dX12_writeRegister_169 : decode cX12_writeRegister 169 = .ok (.iadd, 1) := qd_o96 159 10 qd_g401 rfl
theorem dX12_writeRegister_170 : decode cX12_writeRegister 170 = .ok (.aload_n 0, 1) := qd_o42 159 11 qd_g401 rfl
theorem dX12_writeRegister_171 : decode cX12_writeRegister 171 = .ok (.getfield 50, 3) := qd_o180 159 12 qd_g401 rfl rfl
theorem dX12_writeRegister_174 : decode cX12_writeRegister 174 = .ok (.bipush 7, 2) := qd_o16 159 15 qd_g401 rfl rfl
theorem dX12_writeRegister_176 : decode cX12_writeRegister 176 = .ok (.iload 4, 2) := qd_o21 159 17 qd_g401 rfl rfl
theorem dX12_writeRegister_178 : decode cX12_writeRegister 178 = .ok (.iadd, 1) := qd_o96 159 19 qd_g401 rfl
theorem dX12_writeRegister_179 : decode cX12_writeRegister 179 = .ok (.iaload, 1) := qd_o46 159 20 qd_g401 rfl
theorem dX12_writeRegister_180 : decode cX12_writeRegister 180 = .ok (.iastore, 1) := qd_o79 159 21 qd_g401 rfl
theorem dX12_writeRegister_181 : decode cX12_writeRegister 181 = .ok (.iinc 4 1, 3) := qd_o132 159 22 qd_g401 rfl rfl
theorem dX12_writeRegister_184 : decode cX12_writeRegister 184 = .ok (.goto (-58), 3) := qd_o167 159 25 qd_g401 rfl rfl
theorem dX12_writeRegister_187 : decode cX12_writeRegister 187 = .ok (.aload_n 0, 1) := qd_o42 159 28 qd_g401 rfl
theorem dX12_writeRegister_188 : decode cX12_writeRegister 188 = .ok (.getfield 19, 3) := qd_o180 159 29 qd_g401 rfl rfl
theorem dX12_writeRegister_191 : decode cX12_writeRegister 191 = .ok (.iload_n 1, 1) := qd_o27 159 32 qd_g401 rfl
theorem dX12_writeRegister_192 : decode cX12_writeRegister 192 = .ok (.iload_n 3, 1) := qd_o29 159 33 qd_g401 rfl
theorem dX12_writeRegister_193 : decode cX12_writeRegister 193 = .ok (.iastore, 1) := qd_o79 159 34 qd_g401 rfl
theorem dX12_writeRegister_194 : decode cX12_writeRegister 194 = .ok (.return_, 1) := qd_o177 159 35 qd_g401 rfl
theorem qd_g402 : qd_bs cX12_wrap 0 [26, 17, 15, 255, 126, 172] = true := by decide +kernel
theorem dX12_wrap_0 : decode cX12_wrap 0 = .ok (.iload_n 0, 1) := qd_o26 0 0 qd_g402 rfl
theorem dX12_wrap_1 : decode cX12_wrap 1 = .ok (.sipush 4095, 3) := qd_o17 0 1 qd_g402 rfl rfl
theorem dX12_wrap_4 : decode cX12_wrap 4 = .ok (.iand, 1) := qd_o126 0 4 qd_g402 rfl
theorem dX12_wrap_5 : decode cX12_wrap 5 = .ok (.ireturn, 1) := qd_o172 0 5 qd_g402 rfl
theorem qd_g403 : qd_bs cX12_reads 0 [27, 17, 15, 0, 17, 15, 47, 184, 0, 119, 153, 0, 13, 42, 27, 17, 15, 0, 100, 182, 0, 150, 172, 27, 17, 12, 0, 17, 13, 255, 184, 0, 119, 153, 0, 27, 42, 180, 0, 19] = true := by decide +kernel
theorem dX12_reads_0 : decode cX12_reads 0 = .ok (.iload_n 1, 1) := qd_o27 0 0 qd_g403 rfl
theorem dX12_reads_1 : decode cX12_reads 1 = .ok (.sipush 3840, 3) := qd_o17 0 1 qd_g403 rfl rfl
theorem dX12_reads_4 : decode cX12_reads 4 = .ok (.sipush 3887, 3) := qd_o17 0 4 qd_g403 rfl rfl
theorem dX12_reads_7 : decode cX12_reads 7 = .ok (.invokestatic 119, 3) := qd_o184 0 7 qd_g403 rfl rfl
theorem dX12_reads_10 : decode cX12_reads 10 = .ok (.ifCond .eq 13, 3) := qd_o153 0 10 qd_g403 rfl rfl
theorem dX12_reads_13 : decode cX12_reads 13 = .ok (.aload_n 0, 1) := qd_o42 0 13 qd_g403 rfl
theorem dX12_reads_14 : decode cX12_reads 14 = .ok (.iload_n 1, 1) := qd_o27 0 14 qd_g403 rfl
theorem dX12_reads_15 : decode cX12_reads 15 = .ok (.sipush 3840, 3) := qd_o17 0 15 qd_g403 rfl rfl
theorem dX12_reads_18 : decode cX12_reads 18 = .ok (.isub, 1) := qd_o100 0 18 qd_g403 rfl
theorem dX12_reads_19 : decode cX12_reads 19 = .ok (.invokevirtual 150, 3) := qd_o182 0 19 qd_g403 rfl rfl
theorem dX12_reads_22 : decode cX12_reads 22 = .ok (.ireturn, 1) := qd_o172 0 22 qd_g403 rfl
theorem dX12_reads_23 : decode cX12_reads 23 = .ok (.iload_n 1, 1) := qd_o27 0 23 qd_g403 rfl
theorem dX12_reads_24 : decode cX12_reads 24 = .ok (.sipush 3072, 3) := qd_o17 0 24 qd_g403 rfl rfl
theorem dX12_reads_27 : decode cX12_reads 27 = .ok (.sipush 3583, 3) := qd_o17 0 27 qd_g403 rfl rfl
theorem dX12_reads_30 : decode cX12_reads 30 = .ok (.invokestatic 119, 3) := qd_o184 0 30 qd_g403 rfl rfl
theorem dX12_reads_33 : decode cX12_reads 33 = .ok (.ifCond .eq 27, 3) := qd_o153 0 33 qd_g403 rfl rfl
theorem dX12_reads_36 : decode cX12_reads 36 = .ok (.aload_n 0, 1) := qd_o42 0 36 qd_g403 rfl
theorem dX12_reads_37 : decode cX12_reads 37 = .ok (.getfield 19, 3) := qd_o180 0 37 qd_g403 rfl rfl
theorem qd_g404 : qd_bs cX12_reads 40 [3, 46, 3, 184, 0, 131, 153, 0, 14, 42, 180, 0, 13, 27, 17, 12, 0, 100, 46, 172, 27, 17, 8, 0, 17, 9, 255, 184, 0, 119, 153, 0, 40, 42, 180, 0, 19, 3, 46, 4] = true := by decide +kernel
theorem dX12_reads_40 : decode cX12_reads 40 = .ok (.iconst 0, 1) := qd_o3 40 0 qd_g404 rfl
theorem dX12_reads_41 : decode cX12_reads 41 = .ok (.iaload, 1) := qd_o46 40 1 qd_g404 rfl
theorem dX12_reads_42 : decode cX12_reads 42 = .ok (.iconst 0, 1) := qd_o3 40 2 qd_g404 rfl
theorem dX12_reads_43 : decode cX12_reads 43 = .ok (.invokestatic 131, 3) := qd_o184 40 3 qd_g404 rfl rfl
theorem dX12_reads_46 : decode cX12_reads 46 = .ok (.ifCond .eq 14, 3) := qd_o153 40 6 qd_g404 rfl rfl
theorem dX12_reads_49 : decode cX12_reads 49 = .ok (.aload_n 0, 1) := qd_o42 40 9 qd_g404 rfl
theorem dX12_reads_50 : decode cX12_reads 50 = .ok (.getfield 13, 3) := qd_o180 40 10 qd_g404 rfl rfl
theorem dX12_reads_53 : decode cX12_reads 53 = .ok (.iload_n 1, 1) := qd_o27 40 13 qd_g404 rfl
theorem dX12_reads_54 : decode cX12_reads 54 = .ok (.sipush 3072, 3) := qd_o17 40 14 qd_g404 rfl rfl
theorem dX12_reads_57 : decode cX12_reads 57 = .ok (.isub, 1) := qd_o100 40 17 qd_g404 rfl
theorem dX12_reads_58 : decode cX12_reads 58 = .ok (.iaload, 1) := qd_o46 40 18 qd_g404 rfl
theorem dX12_reads_59 : decode cX12_reads 59 = .ok (.ireturn, 1) := qd_o172 40 19 qd_g404 rfl
theorem dX12_reads_60 : decode cX12_reads 60 = .ok (.iload_n 1, 1) := qd_o27 40 20 qd_g404 rfl
theorem dX12_reads_61 : decode cX12_reads 61 = .ok (.sipush 2048, 3) := qd_o17 40 21 qd_g404 rfl rfl
theorem dX12_reads_64 : decode cX12_reads 64 = .ok (.sipush 2559, 3) := qd_o17 40 24 qd_g404 rfl rfl
theorem dX12_reads_67 : decode cX12_reads 67 = .ok (.invokestatic 119, 3) := qd_o184 40 27 qd_g404 rfl rfl
theorem dX12_reads_70 : decode cX12_reads 70 = .ok (.ifCond .eq 40, 3) := qd_o153 40 30 qd_g404 rfl rfl
theorem dX12_reads_73 : decode cX12_reads 73 = .ok (.aload_n 0, 1) := qd_o42 40 33 qd_g404 rfl
theorem dX12_reads_74 : decode cX12_reads 74 = .ok (.getfield 19, 3) := qd_o180 40 34 qd_g404 rfl rfl
theorem dX12_reads_77 : decode cX12_reads 77 = .ok (.iconst 0, 1) := qd_o3 40 37 qd_g404 rfl
theorem dX12_reads_78 : decode cX12_reads 78 = .ok (.iaload, 1) := qd_o46 40 38 qd_g404 rfl
theorem dX12_reads_79 : decode cX12_reads 79 = .ok (.iconst 1, 1) := qd_o4 40 39 qd_g404 rfl
theorem qd_g405 : qd_bs cX12_reads 80 [184, 0, 131, 153, 0, 27, 42, 180, 0, 16, 17, 2, 0, 42, 180, 0, 19, 3, 46, 7, 108, 104, 27, 96, 17, 8, 0, 100, 46, 172, 42, 180, 0, 7, 27, 46, 172] = true := by decide +kernel
theorem dX12_reads_80 : decode cX12_reads 80 = .ok (.invokestatic 131, 3) := qd_o184 80 0 qd_g405 rfl rfl
theorem dX12_reads_83 : decode cX12_reads 83 = .ok (.ifCond .eq 27, 3) := qd_o153 80 3 qd_g405 rfl rfl
theorem dX12_reads_86 : decode cX12_reads 86 = .ok (.aload_n 0, 1) := qd_o42 80 6 qd_g405 rfl
theorem dX12_reads_87 : decode cX12_reads 87 = .ok (.getfield 16, 3) := qd_o180 80 7 qd_g405 rfl rfl
theorem dX12_reads_90 : decode cX12_reads 90 = .ok (.sipush 512, 3) := qd_o17 80 10 qd_g405 rfl rfl
theorem dX12_reads_93 : decode cX12_reads 93 = .ok (.aload_n 0, 1) := qd_o42 80 13 qd_g405 rfl
theorem dX12_reads_94 : decode cX12_reads 94 = .ok (.getfield 19, 3) := qd_o180 80 14 qd_g405 rfl rfl
theorem dX12_reads_97 : decode cX12_reads 97 = .ok (.iconst 0, 1) := qd_o3 80 17 qd_g405 rfl
theorem dX12_reads_98 : decode cX12_reads 98 = .ok (.iaload, 1) := qd_o46 80 18 qd_g405 rfl
theorem dX12_reads_99 : decode cX12_reads 99 = .ok (.iconst 4, 1) := qd_o7 80 19 qd_g405 rfl
theorem dX12_reads_100 : decode cX12_reads 100 = .ok (.idiv, 1) := qd_o108 80 20 qd_g405 rfl
theorem dX12_reads_101 : decode cX12_reads 101 = .ok (.imul, 1) := qd_o104 80 21 qd_g405 rfl
theorem dX12_reads_102 : decode cX12_reads 102 = .ok (.iload_n 1, 1) := qd_o27 80 22 qd_g405 rfl
theorem dX12_reads_103 : decode cX12_reads 103 = .ok (.iadd, 1) := qd_o96 80 23 qd_g405 rfl
theorem dX12_reads_104 : decode cX12_reads 104 = .ok (.sipush 2048, 3) := qd_o17 80 24 qd_g405 rfl rfl
theorem dX12_reads_107 : decode cX12_reads 107 = .ok (.isub, 1) := qd_o100 80 27 qd_g405 rfl
theorem dX12_reads_108 : decode cX12_reads 108 = .ok (.iaload, 1) := qd_o46 80 28 qd_g405 rfl
theorem dX12_reads_109 : decode cX12_reads 109 = .ok (.ireturn, 1) := qd_o172 80 29 qd_g405 rfl
theorem dX12_reads_110 : decode cX12_reads 110 = .ok (.aload_n 0, 1) := qd_o42 80 30 qd_g405 rfl
theorem dX12_reads_111 : decode cX12_reads 111 = .ok (.getfield 7, 3) := qd_o180 80 31 qd_g405 rfl rfl
theorem dX12_reads_114 : decode cX12_reads 114 = .ok (.iload_n 1, 1) := qd_o27 80 34 qd_g405 rfl
theorem dX12_reads_115 : decode cX12_reads 115 = .ok (.iaload, 1) := qd_o46 80 35 qd_g405 rfl
theorem dX12_reads_116 : decode cX12_reads 116 = .ok (.ireturn, 1) := qd_o172 80 36 qd_g405 rfl
theorem qd_g406 : qd_bs cX12_writes 0 [27, 17, 15, 0, 17, 15, 47, 184, 0, 119, 153, 0, 16, 42, 27, 17, 15, 0, 100, 28, 182, 0, 153, 167, 0, 10, 42, 180, 0, 7, 27, 28, 79, 177] = true := by decide +kernel
theorem dX12_writes_0 : decode cX12_writes 0 = .ok (.iload_n 1, 1) := qd_o27 0 0 qd_g406 rfl
theorem dX12_writes_1 : decode cX12_writes 1 = .ok (.sipush 3840, 3) := qd_o17 0 1 qd_g406 rfl rfl
theorem dX12_writes_4 : decode cX12_writes 4 = .ok (.sipush 3887, 3) := qd_o17 0 4 qd_g406 rfl rfl
theorem dX12_writes_7 : decode cX12_writes 7 = .ok (.invokestatic 119, 3) := qd_o184 0 7 qd_g406 rfl rfl
theorem dX12_writes_10 : decode cX12_writes 10 = .ok (.ifCond .eq 16, 3) := qd_o153 0 10 qd_g406 rfl rfl
theorem dX12_writes_13 : decode cX12_writes 13 = .ok (.aload_n 0, 1) := qd_o42 0 13 qd_g406 rfl
theorem dX12_writes_14 : decode cX12_writes 14 = .ok (.iload_n 1, 1) := qd_o27 0 14 qd_g406 rfl
theorem dX12_writes_15 : decode cX12_writes 15 = .ok (.sipush 3840, 3) := qd_o17 0 15 qd_g406 rfl rfl
theorem dX12_writes_18 : decode cX12_writes 18 = .ok (.isub, 1) := qd_o100 0 18 qd_g406 rfl
theorem dX12_writes_19 : decode cX12_writes 19 = .ok (.iload_n 2, 1) := qd_o28 0 19 qd_g406 rfl
theorem dX12_writes_20 : decode cX12_writes 20 = .ok (.invokevirtual 153, 3) := qd_o182 0 20 qd_g406 rfl rfl
theorem dX12_writes_23 : decode cX12_writes 23 = .ok (.goto 10, 3) := qd_o167 0 23 qd_g406 rfl rfl
theorem dX12_writes_26 : decode cX12_writes 26 = .ok (.aload_n 0, 1) := qd_o42 0 26 qd_g406 rfl
theorem dX12_writes_27 : decode cX12_writes 27 = .ok (.getfield 7, 3) := qd_o180 0 27 qd_g406 rfl rfl
theorem dX12_writes_30 : decode cX12_writes 30 = .ok (.iload_n 1, 1) := qd_o27 0 30 qd_g406 rfl
theorem dX12_writes_31 : decode cX12_writes 31 = .ok (.iload_n 2, 1) := qd_o28 0 31 qd_g406 rfl
theorem dX12_writes_32 : decode cX12_writes 32 = .ok (.iastore, 1) := qd_o79 0 32 qd_g406 rfl
theorem dX12_writes_33 : decode cX12_writes 33 = .ok (.return_, 1) := qd_o177 0 33 qd_g406 rfl
theorem qd_g407 : qd_bs cX12_poke 0 [42, 27, 184, 0, 157, 153, 0, 7, 4, 167, 0, 15, 28, 184, 0, 161, 153, 0, 7, 5, 167, 0, 4, 3, 182, 0, 164, 153, 0, 5, 3, 172, 42, 27, 182, 0, 167, 62, 42, 27] = true := by decide +kernel
theorem dX12_poke_0 : decode cX12_poke 0 = .ok (.aload_n 0, 1) := qd_o42 0 0 qd_g407 rfl
theorem dX12_poke_1 : decode cX12_poke 1 = .ok (.iload_n 1, 1) := qd_o27 0 1 qd_g407 rfl
theorem dX12_poke_2 : decode cX12_poke 2 = .ok (.invokestatic 157, 3) := qd_o184 0 2 qd_g407 rfl rfl
theorem dX12_poke_5 : decode cX12_poke 5 = .ok (.ifCond .eq 7, 3) := qd_o153 0 5 qd_g407 rfl rfl
theorem dX12_poke_8 : decode cX12_poke 8 = .ok (.iconst 1, 1) := qd_o4 0 8 qd_g407 rfl
theorem dX12_poke_9 : decode cX12_poke 9 = .ok (.goto 15, 3) := qd_o167 0 9 qd_g407 rfl rfl
theorem dX12_poke_12 : decode cX12_poke 12 = .ok (.iload_n 2, 1) := qd_o28 0 12 qd_g407 rfl
theorem dX12_poke_13 : decode cX12_poke 13 = .ok (.invokestatic 161, 3) := qd_o184 0 13 qd_g407 rfl rfl
theorem dX12_poke_16 : decode cX12_poke 16 = .ok (.ifCond .eq 7, 3) := qd_o153 0 16 qd_g407 rfl rfl
theorem dX12_poke_19 : decode cX12_poke 19 = .ok (.iconst 2, 1) := qd_o5 0 19 qd_g407 rfl
theorem dX12_poke_20 : decode cX12_poke 20 = .ok (.goto 4, 3) := qd_o167 0 20 qd_g407 rfl rfl
theorem dX12_poke_23 : decode cX12_poke 23 = .ok (.iconst 0, 1) := qd_o3 0 23 qd_g407 rfl
theorem dX12_poke_24 : decode cX12_poke 24 = .ok (.invokevirtual 164, 3) := qd_o182 0 24 qd_g407 rfl rfl
theorem dX12_poke_27 : decode cX12_poke 27 = .ok (.ifCond .eq 5, 3) := qd_o153 0 27 qd_g407 rfl rfl
theorem dX12_poke_30 : decode cX12_poke 30 = .ok (.iconst 0, 1) := qd_o3 0 30 qd_g407 rfl
theorem dX12_poke_31 : decode cX12_poke 31 = .ok (.ireturn, 1) := qd_o172 0 31 qd_g407 rfl
theorem dX12_poke_32 : decode cX12_poke 32 = .ok (.aload_n 0, 1) := qd_o42 0 32 qd_g407 rfl
theorem dX12_poke_33 : decode cX12_poke 33 = .ok (.iload_n 1, 1) := qd_o27 0 33 qd_g407 rfl
theorem dX12_poke_34 : decode cX12_poke 34 = .ok (.invokevirtual 167, 3) := qd_o182 0 34 qd_g407 rfl rfl
theorem dX12_poke_37 : decode cX12_poke 37 = .ok (.istore_n 3, 1) := qd_o62 0 37 qd_g407 rfl
theorem dX12_poke_38 : decode cX12_poke 38 = .ok (.aload_n 0, 1) := qd_o42 0 38 qd_g407 rfl
theorem dX12_poke_39 : decode cX12_poke 39 = .ok (.iload_n 1, 1) := qd_o27 0 39 qd_g407 rfl
theorem qd_g408 : qd_bs cX12_poke 40 [28, 182, 0, 170, 42, 182, 0, 173, 29, 172] = true := by decide +kernel
theorem dX12_poke_40 : decode cX12_poke 40 = .ok (.iload_n 2, 1) := qd_o28 40 0 qd_g408 rfl
theorem dX12_poke_41 : decode cX12_poke 41 = .ok (.invokevirtual 170, 3) := qd_o182 40 1 qd_g408 rfl rfl
theorem dX12_poke_44 : decode cX12_poke 44 = .ok (.aload_n 0, 1) := qd_o42 40 4 qd_g408 rfl
theorem dX12_poke_45 : decode cX12_poke 45 = .ok (.invokevirtual 173, 3) := qd_o182 40 5 qd_g408 rfl rfl
theorem dX12_poke_48 : decode cX12_poke 48 = .ok (.iload_n 3, 1) := qd_o29 40 8 qd_g408 rfl
theorem dX12_poke_49 : decode cX12_poke 49 = .ok (.ireturn, 1) := qd_o172 40 9 qd_g408 rfl
theorem qd_g409 : qd_bs cX12_pokeRom 0 [42, 27, 3, 17, 1, 255, 184, 0, 119, 154, 0, 7, 4, 167, 0, 15, 28, 184, 0, 161, 153, 0, 7, 5, 167, 0, 4, 3, 182, 0, 164, 153, 0, 5, 3, 172, 42, 180, 0, 13] = true := by decide +kernel
theorem dX12_pokeRom_0 : decode cX12_pokeRom 0 = .ok (.aload_n 0, 1) := qd_o42 0 0 qd_g409 rfl
theorem dX12_pokeRom_1 : decode cX12_pokeRom 1 = .ok (.iload_n 1, 1) := qd_o27 0 1 qd_g409 rfl
theorem dX12_pokeRom_2 : decode cX12_pokeRom 2 = .ok (.iconst 0, 1) := qd_o3 0 2 qd_g409 rfl
theorem dX12_pokeRom_3 : decode cX12_pokeRom 3 = .ok (.sipush 511, 3) := qd_o17 0 3 qd_g409 rfl rfl
theorem dX12_pokeRom_6 : decode cX12_pokeRom 6 = .ok (.invokestatic 119, 3) := qd_o184 0 6 qd_g409 rfl rfl
theorem dX12_pokeRom_9 : decode cX12_pokeRom 9 = .ok (.ifCond .ne 7, 3) := qd_o154 0 9 qd_g409 rfl rfl
theorem dX12_pokeRom_12 : decode cX12_pokeRom 12 = .ok (.iconst 1, 1) := qd_o4 0 12 qd_g409 rfl
theorem dX12_pokeRom_13 : decode cX12_pokeRom 13 = .ok (.goto 15, 3) := qd_o167 0 13 qd_g409 rfl rfl
theorem dX12_pokeRom_16 : decode cX12_pokeRom 16 = .ok (.iload_n 2, 1) := qd_o28 0 16 qd_g409 rfl
theorem dX12_pokeRom_17 : decode cX12_pokeRom 17 = .ok (.invokestatic 161, 3) := qd_o184 0 17 qd_g409 rfl rfl
theorem dX12_pokeRom_20 : decode cX12_pokeRom 20 = .ok (.ifCond .eq 7, 3) := qd_o153 0 20 qd_g409 rfl rfl
theorem dX12_pokeRom_23 : decode cX12_pokeRom 23 = .ok (.iconst 2, 1) := qd_o5 0 23 qd_g409 rfl
theorem dX12_pokeRom_24 : decode cX12_pokeRom 24 = .ok (.goto 4, 3) := qd_o167 0 24 qd_g409 rfl rfl
theorem dX12_pokeRom_27 : decode cX12_pokeRom 27 = .ok (.iconst 0, 1) := qd_o3 0 27 qd_g409 rfl
theorem dX12_pokeRom_28 : decode cX12_pokeRom 28 = .ok (.invokevirtual 164, 3) := qd_o182 0 28 qd_g409 rfl rfl
theorem dX12_pokeRom_31 : decode cX12_pokeRom 31 = .ok (.ifCond .eq 5, 3) := qd_o153 0 31 qd_g409 rfl rfl
theorem dX12_pokeRom_34 : decode cX12_pokeRom 34 = .ok (.iconst 0, 1) := qd_o3 0 34 qd_g409 rfl
theorem dX12_pokeRom_35 : decode cX12_pokeRom 35 = .ok (.ireturn, 1) := qd_o172 0 35 qd_g409 rfl
theorem dX12_pokeRom_36 : decode cX12_pokeRom 36 = .ok (.aload_n 0, 1) := qd_o42 0 36 qd_g409 rfl
theorem dX12_pokeRom_37 : decode cX12_pokeRom 37 = .ok (.getfield 13, 3) := qd_o180 0 37 qd_g409 rfl rfl
theorem qd_g410 : qd_bs cX12_pokeRom 40 [27, 46, 62, 42, 180, 0, 13, 27, 28, 79, 42, 182, 0, 173, 29, 172] = true := by decide +kernel
theorem dX12_pokeRom_40 : decode cX12_pokeRom 40 = .ok (.iload_n 1, 1) := qd_o27 40 0 qd_g410 rfl
theorem dX12_pokeRom_41 : decode cX12_pokeRom 41 = .ok (.iaload, 1) := qd_o46 40 1 qd_g410 rfl
theorem dX12_pokeRom_42 : decode cX12_pokeRom 42 = .ok (.istore_n 3, 1) := qd_o62 40 2 qd_g410 rfl
theorem dX12_pokeRom_43 : decode cX12_pokeRom 43 = .ok (.aload_n 0, 1) := qd_o42 40 3 qd_g410 rfl
theorem dX12_pokeRom_44 : decode cX12_pokeRom 44 = .ok (.getfield 13, 3) := qd_o180 40 4 qd_g410 rfl rfl
theorem dX12_pokeRom_47 : decode cX12_pokeRom 47 = .ok (.iload_n 1, 1) := qd_o27 40 7 qd_g410 rfl
theorem dX12_pokeRom_48 : decode cX12_pokeRom 48 = .ok (.iload_n 2, 1) := qd_o28 40 8 qd_g410 rfl
theorem dX12_pokeRom_49 : decode cX12_pokeRom 49 = .ok (.iastore, 1) := qd_o79 40 9 qd_g410 rfl
theorem dX12_pokeRom_50 : decode cX12_pokeRom 50 = .ok (.aload_n 0, 1) := qd_o42 40 10 qd_g410 rfl
theorem dX12_pokeRom_51 : decode cX12_pokeRom 51 = .ok (.invokevirtual 173, 3) := qd_o182 40 11 qd_g410 rfl rfl
theorem dX12_pokeRom_54 : decode cX12_pokeRom 54 = .ok (.iload_n 3, 1) := qd_o29 40 14 qd_g410 rfl
theorem dX12_pokeRom_55 : decode cX12_pokeRom 55 = .ok (.ireturn, 1) := qd_o172 40 15 qd_g410 rfl
theorem qd_g411 : qd_bs cX12_pokeCartridge 0 [42, 27, 3, 6, 184, 0, 119, 153, 0, 14, 28, 3, 17, 1, 255, 184, 0, 119, 154, 0, 7, 4, 167, 0, 15, 29, 184, 0, 161, 153, 0, 7, 5, 167, 0, 4, 3, 182, 0, 164] = true := by decide +kernel
theorem dX12_pokeCartridge_0 : decode cX12_pokeCartridge 0 = .ok (.aload_n 0, 1) := qd_o42 0 0 qd_g411 rfl
theorem dX12_pokeCartridge_1 : decode cX12_pokeCartridge 1 = .ok (.iload_n 1, 1) := qd_o27 0 1 qd_g411 rfl
theorem dX12_pokeCartridge_2 : decode cX12_pokeCartridge 2 = .ok (.iconst 0, 1) := qd_o3 0 2 qd_g411 rfl
theorem dX12_pokeCartridge_3 : decode cX12_pokeCartridge 3 = .ok (.iconst 3, 1) := qd_o6 0 3 qd_g411 rfl
theorem dX12_pokeCartridge_4 : decode cX12_pokeCartridge 4 = .ok (.invokestatic 119, 3) := qd_o184 0 4 qd_g411 rfl rfl
theorem dX12_pokeCartridge_7 : decode cX12_pokeCartridge 7 = .ok (.ifCond .eq 14, 3) := qd_o153 0 7 qd_g411 rfl rfl
theorem dX12_pokeCartridge_10 : decode cX12_pokeCartridge 10 = .ok (.iload_n 2, 1) := qd_o28 0 10 qd_g411 rfl
theorem dX12_pokeCartridge_11 : decode cX12_pokeCartridge 11 = .ok (.iconst 0, 1) := qd_o3 0 11 qd_g411 rfl
theorem dX12_pokeCartridge_12 : decode cX12_pokeCartridge 12 = .ok (.sipush 511, 3) := qd_o17 0 12 qd_g411 rfl rfl
theorem dX12_pokeCartridge_15 : decode cX12_pokeCartridge 15 = .ok (.invokestatic 119, 3) := qd_o184 0 15 qd_g411 rfl rfl
theorem dX12_pokeCartridge_18 : decode cX12_pokeCartridge 18 = .ok (.ifCond .ne 7, 3) := qd_o154 0 18 qd_g411 rfl rfl
theorem dX12_pokeCartridge_21 : decode cX12_pokeCartridge 21 = .ok (.iconst 1, 1) := qd_o4 0 21 qd_g411 rfl
theorem dX12_pokeCartridge_22 : decode cX12_pokeCartridge 22 = .ok (.goto 15, 3) := qd_o167 0 22 qd_g411 rfl rfl
theorem dX12_pokeCartridge_25 : decode cX12_pokeCartridge 25 = .ok (.iload_n 3, 1) := qd_o29 0 25 qd_g411 rfl
theorem dX12_pokeCartridge_26 : decode cX12_pokeCartridge 26 = .ok (.invokestatic 161, 3) := qd_o184 0 26 qd_g411 rfl rfl
theorem dX12_pokeCartridge_29 : decode cX12_pokeCartridge 29 = .ok (.ifCond .eq 7, 3) := qd_o153 0 29 qd_g411 rfl rfl
theorem dX12_pokeCartridge_32 : decode cX12_pokeCartridge 32 = .ok (.iconst 2, 1) := qd_o5 0 32 qd_g411 rfl
theorem dX12_pokeCartridge_33 : decode cX12_pokeCartridge 33 = .ok (.goto 4, 3) := qd_o167 0 33 qd_g411 rfl rfl
theorem dX12_pokeCartridge_36 : decode cX12_pokeCartridge 36 = .ok (.iconst 0, 1) := qd_o3 0 36 qd_g411 rfl
theorem dX12_pokeCartridge_37 : decode cX12_pokeCartridge 37 = .ok (.invokevirtual 164, 3) := qd_o182 0 37 qd_g411 rfl rfl
theorem qd_g412 : qd_bs cX12_pokeCartridge 40 [153, 0, 5, 3, 172, 42, 180, 0, 16, 17, 2, 0, 27, 104, 28, 96, 46, 54, 4, 42, 180, 0, 16, 17, 2, 0, 27, 104, 28, 96, 29, 79, 42, 182, 0, 173, 21, 4, 172] = true := by decide +kernel
theorem dX12_pokeCartridge_40 : decode cX12_pokeCartridge 40 = .ok (.ifCond .eq 5, 3) := qd_o153 40 0 qd_g412 rfl rfl
theorem dX12_pokeCartridge_43 : decode cX12_pokeCartridge 43 = .ok (.iconst 0, 1) := qd_o3 40 3 qd_g412 rfl
theorem dX12_pokeCartridge_44 : decode cX12_pokeCartridge 44 = .ok (.ireturn, 1) := qd_o172 40 4 qd_g412 rfl
theorem dX12_pokeCartridge_45 : decode cX12_pokeCartridge 45 = .ok (.aload_n 0, 1) := qd_o42 40 5 qd_g412 rfl
theorem dX12_pokeCartridge_46 : decode cX12_pokeCartridge 46 = .ok (.getfield 16, 3) := qd_o180 40 6 qd_g412 rfl rfl
theorem dX12_pokeCartridge_49 : decode cX12_pokeCartridge 49 = .ok (.sipush 512, 3) := qd_o17 40 9 qd_g412 rfl rfl
theorem dX12_pokeCartridge_52 : decode cX12_pokeCartridge 52 = .ok (.iload_n 1, 1) := qd_o27 40 12 qd_g412 rfl
theorem dX12_pokeCartridge_53 : decode cX12_pokeCartridge 53 = .ok (.imul, 1) := qd_o104 40 13 qd_g412 rfl
theorem dX12_pokeCartridge_54 : decode cX12_pokeCartridge 54 = .ok (.iload_n 2, 1) := qd_o28 40 14 qd_g412 rfl
theorem dX12_pokeCartridge_55 : decode cX12_pokeCartridge 55 = .ok (.iadd, 1) := qd_o96 40 15 qd_g412 rfl
theorem dX12_pokeCartridge_56 : decode cX12_pokeCartridge 56 = .ok (.iaload, 1) := qd_o46 40 16 qd_g412 rfl
theorem dX12_pokeCartridge_57 : decode cX12_pokeCartridge 57 = .ok (.istore 4, 2) := qd_o54 40 17 qd_g412 rfl rfl
theorem dX12_pokeCartridge_59 : decode cX12_pokeCartridge 59 = .ok (.aload_n 0, 1) := qd_o42 40 19 qd_g412 rfl
theorem dX12_pokeCartridge_60 : decode cX12_pokeCartridge 60 = .ok (.getfield 16, 3) := qd_o180 40 20 qd_g412 rfl rfl
theorem dX12_pokeCartridge_63 : decode cX12_pokeCartridge 63 = .ok (.sipush 512, 3) := qd_o17 40 23 qd_g412 rfl rfl
theorem dX12_pokeCartridge_66 : decode cX12_pokeCartridge 66 = .ok (.iload_n 1, 1) := qd_o27 40 26 qd_g412 rfl
theorem dX12_pokeCartridge_67 : decode cX12_pokeCartridge 67 = .ok (.imul, 1) := qd_o104 40 27 qd_g412 rfl
theorem dX12_pokeCartridge_68 : decode cX12_pokeCartridge 68 = .ok (.iload_n 2, 1) := qd_o28 40 28 qd_g412 rfl
theorem dX12_pokeCartridge_69 : decode cX12_pokeCartridge 69 = .ok (.iadd, 1) := qd_o96 40 29 qd_g412 rfl
theorem dX12_pokeCartridge_70 : decode cX12_pokeCartridge 70 = .ok (.iload_n 3, 1) := qd_o29 40 30 qd_g412 rfl
theorem dX12_pokeCartridge_71 : decode cX12_pokeCartridge 71 = .ok (.iastore, 1) := qd_o79 40 31 qd_g412 rfl
theorem dX12_pokeCartridge_72 : decode cX12_pokeCartridge 72 = .ok (.aload_n 0, 1) := qd_o42 40 32 qd_g412 rfl
theorem dX12_pokeCartridge_73 : decode cX12_pokeCartridge 73 = .ok (.invokevirtual 173, 3) := qd_o182 40 33 qd_g412 rfl rfl
theorem dX12_pokeCartridge_76 : decode cX12_pokeCartridge 76 = .ok (.iload 4, 2) := qd_o21 40 36 qd_g412 rfl rfl
theorem dX12_pokeCartridge_78 : decode cX12_pokeCartridge 78 = .ok (.ireturn, 1) := qd_o172 40 38 qd_g412 rfl
theorem qd_g413 : qd_bs cX12_peek 0 [42, 27, 184, 0, 157, 153, 0, 7, 4, 167, 0, 4, 3, 182, 0, 164, 153, 0, 7, 3, 167, 0, 8, 42, 27, 182, 0, 167, 172] = true := by decide +kernel
theorem dX12_peek_0 : decode cX12_peek 0 = .ok (.aload_n 0, 1) := qd_o42 0 0 qd_g413 rfl
theorem dX12_peek_1 : decode cX12_peek 1 = .ok (.iload_n 1, 1) := qd_o27 0 1 qd_g413 rfl
theorem dX12_peek_2 : decode cX12_peek 2 = .ok (.invokestatic 157, 3) := qd_o184 0 2 qd_g413 rfl rfl
theorem dX12_peek_5 : decode cX12_peek 5 = .ok (.ifCond .eq 7, 3) := qd_o153 0 5 qd_g413 rfl rfl
theorem dX12_peek_8 : decode cX12_peek 8 = .ok (.iconst 1, 1) := qd_o4 0 8 qd_g413 rfl
theorem dX12_peek_9 : decode cX12_peek 9 = .ok (.goto 4, 3) := qd_o167 0 9 qd_g413 rfl rfl
theorem dX12_peek_12 : decode cX12_peek 12 = .ok (.iconst 0, 1) := qd_o3 0 12 qd_g413 rfl
theorem dX12_peek_13 : decode cX12_peek 13 = .ok (.invokevirtual 164, 3) := qd_o182 0 13 qd_g413 rfl rfl
theorem dX12_peek_16 : decode cX12_peek 16 = .ok (.ifCond .eq 7, 3) := qd_o153 0 16 qd_g413 rfl rfl
theorem dX12_peek_19 : decode cX12_peek 19 = .ok (.iconst 0, 1) := qd_o3 0 19 qd_g413 rfl
theorem dX12_peek_20 : decode cX12_peek 20 = .ok (.goto 8, 3) := qd_o167 0 20 qd_g413 rfl rfl
theorem dX12_peek_23 : decode cX12_peek 23 = .ok (.aload_n 0, 1) := qd_o42 0 23 qd_g413 rfl
theorem dX12_peek_24 : decode cX12_peek 24 = .ok (.iload_n 1, 1) := qd_o27 0 24 qd_g413 rfl
theorem dX12_peek_25 : decode cX12_peek 25 = .ok (.invokevirtual 167, 3) := qd_o182 0 25 qd_g413 rfl rfl
theorem dX12_peek_28 : decode cX12_peek 28 = .ok (.ireturn, 1) := qd_o172 0 28 qd_g413 rfl
theorem qd_g414 : qd_bs cX12_ram 0 [42, 27, 184, 0, 157, 153, 0, 7, 4, 167, 0, 4, 3, 182, 0, 164, 153, 0, 7, 3, 167, 0, 9, 42, 180, 0, 7, 27, 46, 172] = true := by decide +kernel
theorem dX12_ram_0 : decode cX12_ram 0 = .ok (.aload_n 0, 1) := qd_o42 0 0 qd_g414 rfl
theorem dX12_ram_1 : decode cX12_ram 1 = .ok (.iload_n 1, 1) := qd_o27 0 1 qd_g414 rfl
theorem dX12_ram_2 : decode cX12_ram 2 = .ok (.invokestatic 157, 3) := qd_o184 0 2 qd_g414 rfl rfl
theorem dX12_ram_5 : decode cX12_ram 5 = .ok (.ifCond .eq 7, 3) := qd_o153 0 5 qd_g414 rfl rfl
theorem dX12_ram_8 : decode cX12_ram 8 = .ok (.iconst 1, 1) := qd_o4 0 8 qd_g414 rfl
theorem dX12_ram_9 : decode cX12_ram 9 = .ok (.goto 4, 3) := qd_o167 0 9 qd_g414 rfl rfl
theorem dX12_ram_12 : decode cX12_ram 12 = .ok (.iconst 0, 1) := qd_o3 0 12 qd_g414 rfl
theorem dX12_ram_13 : decode cX12_ram 13 = .ok (.invokevirtual 164, 3) := qd_o182 0 13 qd_g414 rfl rfl
theorem dX12_ram_16 : decode cX12_ram 16 = .ok (.ifCond .eq 7, 3) := qd_o153 0 16 qd_g414 rfl rfl
theorem dX12_ram_19 : decode cX12_ram 19 = .ok (.iconst 0, 1) := qd_o3 0 19 qd_g414 rfl
theorem dX12_ram_20 : decode cX12_ram 20 = .ok (.goto 9, 3) := qd_o167 0 20 qd_g414 rfl rfl
theorem dX12_ram_23 : decode cX12_ram 23 = .ok (.aload_n 0, 1) := qd_o42 0 23 qd_g414 rfl
theorem dX12_ram_24 : decode cX12_ram 24 = .ok (.getfield 7, 3) := qd_o180 0 24 qd_g414 rfl rfl
theorem dX12_ram_27 : decode cX12_ram 27 = .ok (.iload_n 1, 1) := qd_o27 0 27 qd_g414 rfl
theorem dX12_ram_28 : decode cX12_ram 28 = .ok (.iaload, 1) := qd_o46 0 28 qd_g414 rfl
theorem dX12_ram_29 : decode cX12_ram 29 = .ok (.ireturn, 1) := qd_o172 0 29 qd_g414 rfl
theorem qd_g415 : qd_bs cX12_compare 0 [42, 27, 184, 0, 157, 154, 0, 10, 28, 184, 0, 157, 153, 0, 7, 4, 167, 0, 19, 29, 4, 17, 16, 0, 184, 0, 119, 153, 0, 7, 3, 167, 0, 4, 5, 182, 0, 164] = true := by decide +kernel
theorem dX12_compare_0 : decode cX12_compare 0 = .ok (.aload_n 0, 1) := qd_o42 0 0 qd_g415 rfl
theorem dX12_compare_1 : decode cX12_compare 1 = .ok (.iload_n 1, 1) := qd_o27 0 1 qd_g415 rfl
theorem dX12_compare_2 : decode cX12_compare 2 = .ok (.invokestatic 157, 3) := qd_o184 0 2 qd_g415 rfl rfl
theorem dX12_compare_5 : decode cX12_compare 5 = .ok (.ifCond .ne 10, 3) := qd_o154 0 5 qd_g415 rfl rfl
theorem dX12_compare_8 : decode cX12_compare 8 = .ok (.iload_n 2, 1) := qd_o28 0 8 qd_g415 rfl
theorem dX12_compare_9 : decode cX12_compare 9 = .ok (.invokestatic 157, 3) := qd_o184 0 9 qd_g415 rfl rfl
theorem dX12_compare_12 : decode cX12_compare 12 = .ok (.ifCond .eq 7, 3) := qd_o153 0 12 qd_g415 rfl rfl
theorem dX12_compare_15 : decode cX12_compare 15 = .ok (.iconst 1, 1) := qd_o4 0 15 qd_g415 rfl
theorem dX12_compare_16 : decode cX12_compare 16 = .ok (.goto 19, 3) := qd_o167 0 16 qd_g415 rfl rfl
theorem dX12_compare_19 : decode cX12_compare 19 = .ok (.iload_n 3, 1) := qd_o29 0 19 qd_g415 rfl
theorem dX12_compare_20 : decode cX12_compare 20 = .ok (.iconst 1, 1) := qd_o4 0 20 qd_g415 rfl
theorem dX12_compare_21 : decode cX12_compare 21 = .ok (.sipush 4096, 3) := qd_o17 0 21 qd_g415 rfl rfl
theorem dX12_compare_24 : decode cX12_compare 24 = .ok (.invokestatic 119, 3) := qd_o184 0 24 qd_g415 rfl rfl
theorem dX12_compare_27 : decode cX12_compare 27 = .ok (.ifCond .eq 7, 3) := qd_o153 0 27 qd_g415 rfl rfl
theorem dX12_compare_30 : decode cX12_compare 30 = .ok (.iconst 0, 1) := qd_o3 0 30 qd_g415 rfl
theorem dX12_compare_31 : decode cX12_compare 31 = .ok (.goto 4, 3) := qd_o167 0 31 qd_g415 rfl rfl
theorem dX12_compare_34 : decode cX12_compare 34 = .ok (.iconst 2, 1) := qd_o5 0 34 qd_g415 rfl
theorem dX12_compare_35 : decode cX12_compare 35 = .ok (.invokevirtual 164, 3) := qd_o182 0 35 qd_g415 rfl rfl
theorem qd_g416 : qd_bs cX12_compare 38 [153, 0, 5, 3, 172, 3, 54, 4, 3, 54, 5, 21, 5, 29, 162, 0, 44, 21, 4, 42, 27, 21, 5, 96, 184, 0, 176, 182, 0, 167, 42, 28, 21, 5, 96, 184, 0, 176] = true := by decide +kernel
theorem dX12_compare_38 : decode cX12_compare 38 = .ok (.ifCond .eq 5, 3) := qd_o153 38 0 qd_g416 rfl rfl
theorem dX12_compare_41 : decode cX12_compare 41 = .ok (.iconst 0, 1) := qd_o3 38 3 qd_g416 rfl
theorem dX12_compare_42 : decode cX12_compare 42 = .ok (.ireturn, 1) := qd_o172 38 4 qd_g416 rfl
theorem dX12_compare_43 : decode cX12_compare 43 = .ok (.iconst 0, 1) := qd_o3 38 5 qd_g416 rfl
theorem dX12_compare_44 : decode cX12_compare 44 = .ok (.istore 4, 2) := qd_o54 38 6 qd_g416 rfl rfl
theorem dX12_compare_46 : decode cX12_compare 46 = .ok (.iconst 0, 1) := qd_o3 38 8 qd_g416 rfl
theorem dX12_compare_47 : decode cX12_compare 47 = .ok (.istore 5, 2) := qd_o54 38 9 qd_g416 rfl rfl
theorem dX12_compare_49 : decode cX12_compare 49 = .ok (.iload 5, 2) := qd_o21 38 11 qd_g416 rfl rfl
theorem dX12_compare_51 : decode cX12_compare 51 = .ok (.iload_n 3, 1) := qd_o29 38 13 qd_g416 rfl
theorem dX12_compare_52 : decode cX12_compare 52 = .ok (.if_icmp .ge 44, 3) := qd_o162 38 14 qd_g416 rfl rfl
theorem dX12_compare_55 : decode cX12_compare 55 = .ok (.iload 4, 2) := qd_o21 38 17 qd_g416 rfl rfl
theorem dX12_compare_57 : decode cX12_compare 57 = .ok (.aload_n 0, 1) := qd_o42 38 19 qd_g416 rfl
theorem dX12_compare_58 : decode cX12_compare 58 = .ok (.iload_n 1, 1) := qd_o27 38 20 qd_g416 rfl
theorem dX12_compare_59 : decode cX12_compare 59 = .ok (.iload 5, 2) := qd_o21 38 21 qd_g416 rfl rfl
theorem dX12_compare_61 : decode cX12_compare 61 = .ok (.iadd, 1) := qd_o96 38 23 qd_g416 rfl
theorem dX12_compare_62 : decode cX12_compare 62 = .ok (.invokestatic 176, 3) := qd_o184 38 24 qd_g416 rfl rfl
theorem dX12_compare_65 : decode cX12_compare 65 = .ok (.invokevirtual 167, 3) := qd_o182 38 27 qd_g416 rfl rfl
theorem dX12_compare_68 : decode cX12_compare 68 = .ok (.aload_n 0, 1) := qd_o42 38 30 qd_g416 rfl
theorem dX12_compare_69 : decode cX12_compare 69 = .ok (.iload_n 2, 1) := qd_o28 38 31 qd_g416 rfl
theorem dX12_compare_70 : decode cX12_compare 70 = .ok (.iload 5, 2) := qd_o21 38 32 qd_g416 rfl rfl
theorem dX12_compare_72 : decode cX12_compare 72 = .ok (.iadd, 1) := qd_o96 38 34 qd_g416 rfl
theorem dX12_compare_73 : decode cX12_compare 73 = .ok (.invokestatic 176, 3) := qd_o184 38 35 qd_g416 rfl rfl
theorem qd_g417 : qd_bs cX12_compare 76 [182, 0, 167, 160, 0, 7, 3, 167, 0, 4, 4, 96, 54, 4, 132, 5, 1, 167, 255, 212, 21, 4, 172] = true := by decide +kernel
theorem dX12_compare_76 : decode cX12_compare 76 = .ok (.invokevirtual 167, 3) := qd_o182 76 0 qd_g417 rfl rfl
theorem dX12_compare_79 : decode cX12_compare 79 = .ok (.if_icmp .ne 7, 3) := qd_o160 76 3 qd_g417 rfl rfl
theorem dX12_compare_82 : decode cX12_compare 82 = .ok (.iconst 0, 1) := qd_o3 76 6 qd_g417 rfl
theorem dX12_compare_83 : decode cX12_compare 83 = .ok (.goto 4, 3) := qd_o167 76 7 qd_g417 rfl rfl
theorem dX12_compare_86 : decode cX12_compare 86 = .ok (.iconst 1, 1) := qd_o4 76 10 qd_g417 rfl
theorem dX12_compare_87 : decode cX12_compare 87 = .ok (.iadd, 1) := qd_o96 76 11 qd_g417 rfl
theorem dX12_compare_88 : decode cX12_compare 88 = .ok (.istore 4, 2) := qd_o54 76 12 qd_g417 rfl rfl
theorem dX12_compare_90 : decode cX12_compare 90 = .ok (.iinc 5 1, 3) := qd_o132 76 14 qd_g417 rfl rfl
theorem dX12_compare_93 : decode cX12_compare 93 = .ok (.goto (-44), 3) := qd_o167 76 17 qd_g417 rfl rfl
theorem dX12_compare_96 : decode cX12_compare 96 = .ok (.iload 4, 2) := qd_o21 76 20 qd_g417 rfl rfl
theorem dX12_compare_98 : decode cX12_compare 98 = .ok (.ireturn, 1) := qd_o172 76 22 qd_g417 rfl
theorem qd_g418 : qd_bs cX12_rowNow 0 [42, 182, 0, 135, 7, 100, 172] = true := by decide +kernel
theorem dX12_rowNow_0 : decode cX12_rowNow 0 = .ok (.aload_n 0, 1) := qd_o42 0 0 qd_g418 rfl
theorem dX12_rowNow_1 : decode cX12_rowNow 1 = .ok (.invokevirtual 135, 3) := qd_o182 0 1 qd_g418 rfl rfl
theorem dX12_rowNow_4 : decode cX12_rowNow 4 = .ok (.iconst 4, 1) := qd_o7 0 4 qd_g418 rfl
theorem dX12_rowNow_5 : decode cX12_rowNow 5 = .ok (.isub, 1) := qd_o100 0 5 qd_g418 rfl
theorem dX12_rowNow_6 : decode cX12_rowNow 6 = .ok (.ireturn, 1) := qd_o172 0 6 qd_g418 rfl
theorem qd_g419 : qd_bs cX12_isOn 0 [42, 180, 0, 19, 16, 17, 46, 27, 184, 0, 131, 172] = true := by decide +kernel
theorem dX12_isOn_0 : decode cX12_isOn 0 = .ok (.aload_n 0, 1) := qd_o42 0 0 qd_g419 rfl
theorem dX12_isOn_1 : decode cX12_isOn 1 = .ok (.getfield 19, 3) := qd_o180 0 1 qd_g419 rfl rfl
theorem dX12_isOn_4 : decode cX12_isOn 4 = .ok (.bipush 17, 2) := qd_o16 0 4 qd_g419 rfl rfl
theorem dX12_isOn_6 : decode cX12_isOn 6 = .ok (.iaload, 1) := qd_o46 0 6 qd_g419 rfl
theorem dX12_isOn_7 : decode cX12_isOn 7 = .ok (.iload_n 1, 1) := qd_o27 0 7 qd_g419 rfl
theorem dX12_isOn_8 : decode cX12_isOn 8 = .ok (.invokestatic 131, 3) := qd_o184 0 8 qd_g419 rfl rfl
theorem dX12_isOn_11 : decode cX12_isOn 11 = .ok (.ireturn, 1) := qd_o172 0 11 qd_g419 rfl
theorem qd_g420 : qd_bs cX12_isAmong 0 [42, 180, 0, 19, 16, 24, 27, 96, 46, 62, 28, 29, 161, 0, 34, 28, 29, 42, 180, 0, 19, 16, 18, 46, 27, 184, 0, 131, 153, 0, 8, 16, 16, 167, 0, 5, 16, 8, 96] = true := by decide +kernel
theorem dX12_isAmong_0 : decode cX12_isAmong 0 = .ok (.aload_n 0, 1) := qd_o42 0 0 qd_g420 rfl
theorem dX12_isAmong_1 : decode cX12_isAmong 1 = .ok (.getfield 19, 3) := qd_o180 0 1 qd_g420 rfl rfl
theorem dX12_isAmong_4 : decode cX12_isAmong 4 = .ok (.bipush 24, 2) := qd_o16 0 4 qd_g420 rfl rfl
theorem dX12_isAmong_6 : decode cX12_isAmong 6 = .ok (.iload_n 1, 1) := qd_o27 0 6 qd_g420 rfl
theorem dX12_isAmong_7 : decode cX12_isAmong 7 = .ok (.iadd, 1) := qd_o96 0 7 qd_g420 rfl
theorem dX12_isAmong_8 : decode cX12_isAmong 8 = .ok (.iaload, 1) := qd_o46 0 8 qd_g420 rfl
theorem dX12_isAmong_9 : decode cX12_isAmong 9 = .ok (.istore_n 3, 1) := qd_o62 0 9 qd_g420 rfl
theorem dX12_isAmong_10 : decode cX12_isAmong 10 = .ok (.iload_n 2, 1) := qd_o28 0 10 qd_g420 rfl
theorem dX12_isAmong_11 : decode cX12_isAmong 11 = .ok (.iload_n 3, 1) := qd_o29 0 11 qd_g420 rfl
theorem dX12_isAmong_12 : decode cX12_isAmong 12 = .ok (.if_icmp .lt 34, 3) := qd_o161 0 12 qd_g420 rfl rfl
theorem dX12_isAmong_15 : decode cX12_isAmong 15 = .ok (.iload_n 2, 1) := qd_o28 0 15 qd_g420 rfl
theorem dX12_isAmong_16 : decode cX12_isAmong 16 = .ok (.iload_n 3, 1) := qd_o29 0 16 qd_g420 rfl
theorem dX12_isAmong_17 : decode cX12_isAmong 17 = .ok (.aload_n 0, 1) := qd_o42 0 17 qd_g420 rfl
theorem dX12_isAmong_18 : decode cX12_isAmong 18 = .ok (.getfield 19, 3) := qd_o180 0 18 qd_g420 rfl rfl
theorem dX12_isAmong_21 : decode cX12_isAmong 21 = .ok (.bipush 18, 2) := qd_o16 0 21 qd_g420 rfl rfl
theorem dX12_isAmong_23 : decode cX12_isAmong 23 = .ok (.iaload, 1) := qd_o46 0 23 qd_g420 rfl
theorem dX12_isAmong_24 : decode cX12_isAmong 24 = .ok (.iload_n 1, 1) := qd_o27 0 24 qd_g420 rfl
theorem dX12_isAmong_25 : decode cX12_isAmong 25 = .ok (.invokestatic 131, 3) := qd_o184 0 25 qd_g420 rfl rfl
theorem dX12_isAmong_28 : decode cX12_isAmong 28 = .ok (.ifCond .eq 8, 3) := qd_o153 0 28 qd_g420 rfl rfl
theorem dX12_isAmong_31 : decode cX12_isAmong 31 = .ok (.bipush 16, 2) := qd_o16 0 31 qd_g420 rfl rfl
theorem dX12_isAmong_33 : decode cX12_isAmong 33 = .ok (.goto 5, 3) := qd_o167 0 33 qd_g420 rfl rfl
theorem dX12_isAmong_36 : decode cX12_isAmong 36 = .ok (.bipush 8, 2) := qd_o16 0 36 qd_g420 rfl rfl
theorem dX12_isAmong_38 : decode cX12_isAmong 38 = .ok (.iadd, 1) := qd_o96 0 38 qd_g420 rfl
theorem qd_g421 : qd_bs cX12_isAmong 39 [162, 0, 7, 4, 167, 0, 4, 3, 172] = true := by decide +kernel
theorem dX12_isAmong_39 : decode cX12_isAmong 39 = .ok (.if_icmp .ge 7, 3) := qd_o162 39 0 qd_g421 rfl rfl
theorem dX12_isAmong_42 : decode cX12_isAmong 42 = .ok (.iconst 1, 1) := qd_o4 39 3 qd_g421 rfl
theorem dX12_isAmong_43 : decode cX12_isAmong 43 = .ok (.goto 4, 3) := qd_o167 39 4 qd_g421 rfl rfl
theorem dX12_isAmong_46 : decode cX12_isAmong 46 = .ok (.iconst 0, 1) := qd_o3 39 7 qd_g421 rfl
theorem dX12_isAmong_47 : decode cX12_isAmong 47 = .ok (.ireturn, 1) := qd_o172 39 8 qd_g421 rfl
theorem qd_g422 : qd_bs cX12_isOfPicture 0 [42, 182, 0, 179, 60, 42, 180, 0, 123, 20, 0, 127, 113, 136, 61, 27, 3, 16, 31, 184, 0, 119, 154, 0, 5, 3, 172, 42, 180, 0, 19, 4, 46, 154, 0, 31, 28, 16, 8] = true := by decide +kernel
theorem dX12_isOfPicture_0 : decode cX12_isOfPicture 0 = .ok (.aload_n 0, 1) := qd_o42 0 0 qd_g422 rfl
theorem dX12_isOfPicture_1 : decode cX12_isOfPicture 1 = .ok (.invokevirtual 179, 3) := qd_o182 0 1 qd_g422 rfl rfl
theorem dX12_isOfPicture_4 : decode cX12_isOfPicture 4 = .ok (.istore_n 1, 1) := qd_o60 0 4 qd_g422 rfl
theorem dX12_isOfPicture_5 : decode cX12_isOfPicture 5 = .ok (.aload_n 0, 1) := qd_o42 0 5 qd_g422 rfl
theorem dX12_isOfPicture_6 : decode cX12_isOfPicture 6 = .ok (.getfield 123, 3) := qd_o180 0 6 qd_g422 rfl rfl
theorem dX12_isOfPicture_9 : decode cX12_isOfPicture 9 = .ok (.ldc2_w 127, 3) := qd_o20 0 9 qd_g422 rfl rfl
theorem dX12_isOfPicture_12 : decode cX12_isOfPicture 12 = .ok (.lrem, 1) := qd_o113 0 12 qd_g422 rfl
theorem dX12_isOfPicture_13 : decode cX12_isOfPicture 13 = .ok (.l2i, 1) := qd_o136 0 13 qd_g422 rfl
theorem dX12_isOfPicture_14 : decode cX12_isOfPicture 14 = .ok (.istore_n 2, 1) := qd_o61 0 14 qd_g422 rfl
theorem dX12_isOfPicture_15 : decode cX12_isOfPicture 15 = .ok (.iload_n 1, 1) := qd_o27 0 15 qd_g422 rfl
theorem dX12_isOfPicture_16 : decode cX12_isOfPicture 16 = .ok (.iconst 0, 1) := qd_o3 0 16 qd_g422 rfl
theorem dX12_isOfPicture_17 : decode cX12_isOfPicture 17 = .ok (.bipush 31, 2) := qd_o16 0 17 qd_g422 rfl rfl
theorem dX12_isOfPicture_19 : decode cX12_isOfPicture 19 = .ok (.invokestatic 119, 3) := qd_o184 0 19 qd_g422 rfl rfl
theorem dX12_isOfPicture_22 : decode cX12_isOfPicture 22 = .ok (.ifCond .ne 5, 3) := qd_o154 0 22 qd_g422 rfl rfl
theorem dX12_isOfPicture_25 : decode cX12_isOfPicture 25 = .ok (.iconst 0, 1) := qd_o3 0 25 qd_g422 rfl
theorem dX12_isOfPicture_26 : decode cX12_isOfPicture 26 = .ok (.ireturn, 1) := qd_o172 0 26 qd_g422 rfl
theorem dX12_isOfPicture_27 : decode cX12_isOfPicture 27 = .ok (.aload_n 0, 1) := qd_o42 0 27 qd_g422 rfl
theorem dX12_isOfPicture_28 : decode cX12_isOfPicture 28 = .ok (.getfield 19, 3) := qd_o180 0 28 qd_g422 rfl rfl
theorem dX12_isOfPicture_31 : decode cX12_isOfPicture 31 = .ok (.iconst 1, 1) := qd_o4 0 31 qd_g422 rfl
theorem dX12_isOfPicture_32 : decode cX12_isOfPicture 32 = .ok (.iaload, 1) := qd_o46 0 32 qd_g422 rfl
theorem dX12_isOfPicture_33 : decode cX12_isOfPicture 33 = .ok (.ifCond .ne 31, 3) := qd_o154 0 33 qd_g422 rfl rfl
theorem dX12_isOfPicture_36 : decode cX12_isOfPicture 36 = .ok (.iload_n 2, 1) := qd_o28 0 36 qd_g422 rfl
theorem dX12_isOfPicture_37 : decode cX12_isOfPicture 37 = .ok (.bipush 8, 2) := qd_o16 0 37 qd_g422 rfl rfl
theorem qd_g423 : qd_bs cX12_isOfPicture 39 [162, 0, 25, 27, 42, 180, 0, 19, 5, 46, 7, 108, 96, 16, 8, 112, 154, 0, 7, 4, 167, 0, 4, 3, 172, 42, 180, 0, 19, 4, 46, 4, 5, 184, 0, 119, 153, 0, 10, 28] = true := by decide +kernel
theorem dX12_isOfPicture_39 : decode cX12_isOfPicture 39 = .ok (.if_icmp .ge 25, 3) := qd_o162 39 0 qd_g423 rfl rfl
theorem dX12_isOfPicture_42 : decode cX12_isOfPicture 42 = .ok (.iload_n 1, 1) := qd_o27 39 3 qd_g423 rfl
theorem dX12_isOfPicture_43 : decode cX12_isOfPicture 43 = .ok (.aload_n 0, 1) := qd_o42 39 4 qd_g423 rfl
theorem dX12_isOfPicture_44 : decode cX12_isOfPicture 44 = .ok (.getfield 19, 3) := qd_o180 39 5 qd_g423 rfl rfl
theorem dX12_isOfPicture_47 : decode cX12_isOfPicture 47 = .ok (.iconst 2, 1) := qd_o5 39 8 qd_g423 rfl
theorem dX12_isOfPicture_48 : decode cX12_isOfPicture 48 = .ok (.iaload, 1) := qd_o46 39 9 qd_g423 rfl
theorem dX12_isOfPicture_49 : decode cX12_isOfPicture 49 = .ok (.iconst 4, 1) := qd_o7 39 10 qd_g423 rfl
theorem dX12_isOfPicture_50 : decode cX12_isOfPicture 50 = .ok (.idiv, 1) := qd_o108 39 11 qd_g423 rfl
theorem dX12_isOfPicture_51 : decode cX12_isOfPicture 51 = .ok (.iadd, 1) := qd_o96 39 12 qd_g423 rfl
theorem dX12_isOfPicture_52 : decode cX12_isOfPicture 52 = .ok (.bipush 8, 2) := qd_o16 39 13 qd_g423 rfl rfl
theorem dX12_isOfPicture_54 : decode cX12_isOfPicture 54 = .ok (.irem, 1) := qd_o112 39 15 qd_g423 rfl
theorem dX12_isOfPicture_55 : decode cX12_isOfPicture 55 = .ok (.ifCond .ne 7, 3) := qd_o154 39 16 qd_g423 rfl rfl
theorem dX12_isOfPicture_58 : decode cX12_isOfPicture 58 = .ok (.iconst 1, 1) := qd_o4 39 19 qd_g423 rfl
theorem dX12_isOfPicture_59 : decode cX12_isOfPicture 59 = .ok (.goto 4, 3) := qd_o167 39 20 qd_g423 rfl rfl
theorem dX12_isOfPicture_62 : decode cX12_isOfPicture 62 = .ok (.iconst 0, 1) := qd_o3 39 23 qd_g423 rfl
theorem dX12_isOfPicture_63 : decode cX12_isOfPicture 63 = .ok (.ireturn, 1) := qd_o172 39 24 qd_g423 rfl
theorem dX12_isOfPicture_64 : decode cX12_isOfPicture 64 = .ok (.aload_n 0, 1) := qd_o42 39 25 qd_g423 rfl
theorem dX12_isOfPicture_65 : decode cX12_isOfPicture 65 = .ok (.getfield 19, 3) := qd_o180 39 26 qd_g423 rfl rfl
theorem dX12_isOfPicture_68 : decode cX12_isOfPicture 68 = .ok (.iconst 1, 1) := qd_o4 39 29 qd_g423 rfl
theorem dX12_isOfPicture_69 : decode cX12_isOfPicture 69 = .ok (.iaload, 1) := qd_o46 39 30 qd_g423 rfl
theorem dX12_isOfPicture_70 : decode cX12_isOfPicture 70 = .ok (.iconst 1, 1) := qd_o4 39 31 qd_g423 rfl
theorem dX12_isOfPicture_71 : decode cX12_isOfPicture 71 = .ok (.iconst 2, 1) := qd_o5 39 32 qd_g423 rfl
theorem dX12_isOfPicture_72 : decode cX12_isOfPicture 72 = .ok (.invokestatic 119, 3) := qd_o184 39 33 qd_g423 rfl rfl
theorem dX12_isOfPicture_75 : decode cX12_isOfPicture 75 = .ok (.ifCond .eq 10, 3) := qd_o153 39 36 qd_g423 rfl rfl
theorem dX12_isOfPicture_78 : decode cX12_isOfPicture 78 = .ok (.iload_n 2, 1) := qd_o28 39 39 qd_g423 rfl
theorem qd_g424 : qd_bs cX12_isOfPicture 79 [7, 162, 0, 5, 4, 172, 28, 16, 20, 161, 0, 30, 42, 28, 16, 20, 100, 182, 0, 182, 153, 0, 19, 42, 28, 16, 20, 100, 27, 182, 0, 185, 153, 0, 7, 4, 167, 0, 4, 3] = true := by decide +kernel
theorem dX12_isOfPicture_79 : decode cX12_isOfPicture 79 = .ok (.iconst 4, 1) := qd_o7 79 0 qd_g424 rfl
theorem dX12_isOfPicture_80 : decode cX12_isOfPicture 80 = .ok (.if_icmp .ge 5, 3) := qd_o162 79 1 qd_g424 rfl rfl
theorem dX12_isOfPicture_83 : decode cX12_isOfPicture 83 = .ok (.iconst 1, 1) := qd_o4 79 4 qd_g424 rfl
theorem dX12_isOfPicture_84 : decode cX12_isOfPicture 84 = .ok (.ireturn, 1) := qd_o172 79 5 qd_g424 rfl
theorem dX12_isOfPicture_85 : decode cX12_isOfPicture 85 = .ok (.iload_n 2, 1) := qd_o28 79 6 qd_g424 rfl
theorem dX12_isOfPicture_86 : decode cX12_isOfPicture 86 = .ok (.bipush 20, 2) := qd_o16 79 7 qd_g424 rfl rfl
theorem dX12_isOfPicture_88 : decode cX12_isOfPicture 88 = .ok (.if_icmp .lt 30, 3) := qd_o161 79 9 qd_g424 rfl rfl
theorem dX12_isOfPicture_91 : decode cX12_isOfPicture 91 = .ok (.aload_n 0, 1) := qd_o42 79 12 qd_g424 rfl
theorem dX12_isOfPicture_92 : decode cX12_isOfPicture 92 = .ok (.iload_n 2, 1) := qd_o28 79 13 qd_g424 rfl
theorem dX12_isOfPicture_93 : decode cX12_isOfPicture 93 = .ok (.bipush 20, 2) := qd_o16 79 14 qd_g424 rfl rfl
theorem dX12_isOfPicture_95 : decode cX12_isOfPicture 95 = .ok (.isub, 1) := qd_o100 79 16 qd_g424 rfl
theorem dX12_isOfPicture_96 : decode cX12_isOfPicture 96 = .ok (.invokevirtual 182, 3) := qd_o182 79 17 qd_g424 rfl rfl
theorem dX12_isOfPicture_99 : decode cX12_isOfPicture 99 = .ok (.ifCond .eq 19, 3) := qd_o153 79 20 qd_g424 rfl rfl
theorem dX12_isOfPicture_102 : decode cX12_isOfPicture 102 = .ok (.aload_n 0, 1) := qd_o42 79 23 qd_g424 rfl
theorem dX12_isOfPicture_103 : decode cX12_isOfPicture 103 = .ok (.iload_n 2, 1) := qd_o28 79 24 qd_g424 rfl
theorem dX12_isOfPicture_104 : decode cX12_isOfPicture 104 = .ok (.bipush 20, 2) := qd_o16 79 25 qd_g424 rfl rfl
theorem dX12_isOfPicture_106 : decode cX12_isOfPicture 106 = .ok (.isub, 1) := qd_o100 79 27 qd_g424 rfl
theorem dX12_isOfPicture_107 : decode cX12_isOfPicture 107 = .ok (.iload_n 1, 1) := qd_o27 79 28 qd_g424 rfl
theorem dX12_isOfPicture_108 : decode cX12_isOfPicture 108 = .ok (.invokevirtual 185, 3) := qd_o182 79 29 qd_g424 rfl rfl
theorem dX12_isOfPicture_111 : decode cX12_isOfPicture 111 = .ok (.ifCond .eq 7, 3) := qd_o153 79 32 qd_g424 rfl rfl
theorem dX12_isOfPicture_114 : decode cX12_isOfPicture 114 = .ok (.iconst 1, 1) := qd_o4 79 35 qd_g424 rfl
theorem dX12_isOfPicture_115 : decode cX12_isOfPicture 115 = .ok (.goto 4, 3) := qd_o167 79 36 qd_g424 rfl rfl
theorem dX12_isOfPicture_118 : decode cX12_isOfPicture 118 = .ok (.iconst 0, 1) := qd_o3 79 39 qd_g424 rfl
theorem qd_g425 : qd_bs cX12_isOfPicture 119 [172] = true := by decide +kernel
theorem dX12_isOfPicture_119 : decode cX12_isOfPicture 119 = .ok (.ireturn, 1) := qd_o172 119 0 qd_g425 rfl
theorem qd_g426 : qd_bs cX12_pictureAt 0 [27, 42, 180, 0, 19, 5, 46, 7, 112, 96, 16, 32, 112, 62, 28, 42, 180, 0, 19, 5, 46, 7, 108, 96, 16, 32, 112, 54, 4, 17, 1, 0, 42, 180, 0, 19, 16, 7, 46, 104] = true := by decide +kernel
theorem dX12_pictureAt_0 : decode cX12_pictureAt 0 = .ok (.iload_n 1, 1) := qd_o27 0 0 qd_g426 rfl
theorem dX12_pictureAt_1 : decode cX12_pictureAt 1 = .ok (.aload_n 0, 1) := qd_o42 0 1 qd_g426 rfl
theorem dX12_pictureAt_2 : decode cX12_pictureAt 2 = .ok (.getfield 19, 3) := qd_o180 0 2 qd_g426 rfl rfl
theorem dX12_pictureAt_5 : decode cX12_pictureAt 5 = .ok (.iconst 2, 1) := qd_o5 0 5 qd_g426 rfl
theorem dX12_pictureAt_6 : decode cX12_pictureAt 6 = .ok (.iaload, 1) := qd_o46 0 6 qd_g426 rfl
theorem dX12_pictureAt_7 : decode cX12_pictureAt 7 = .ok (.iconst 4, 1) := qd_o7 0 7 qd_g426 rfl
theorem dX12_pictureAt_8 : decode cX12_pictureAt 8 = .ok (.irem, 1) := qd_o112 0 8 qd_g426 rfl
theorem dX12_pictureAt_9 : decode cX12_pictureAt 9 = .ok (.iadd, 1) := qd_o96 0 9 qd_g426 rfl
theorem dX12_pictureAt_10 : decode cX12_pictureAt 10 = .ok (.bipush 32, 2) := qd_o16 0 10 qd_g426 rfl rfl
theorem dX12_pictureAt_12 : decode cX12_pictureAt 12 = .ok (.irem, 1) := qd_o112 0 12 qd_g426 rfl
theorem dX12_pictureAt_13 : decode cX12_pictureAt 13 = .ok (.istore_n 3, 1) := qd_o62 0 13 qd_g426 rfl
theorem dX12_pictureAt_14 : decode cX12_pictureAt 14 = .ok (.iload_n 2, 1) := qd_o28 0 14 qd_g426 rfl
theorem dX12_pictureAt_15 : decode cX12_pictureAt 15 = .ok (.aload_n 0, 1) := qd_o42 0 15 qd_g426 rfl
theorem dX12_pictureAt_16 : decode cX12_pictureAt 16 = .ok (.getfield 19, 3) := qd_o180 0 16 qd_g426 rfl rfl
theorem dX12_pictureAt_19 : decode cX12_pictureAt 19 = .ok (.iconst 2, 1) := qd_o5 0 19 qd_g426 rfl
theorem dX12_pictureAt_20 : decode cX12_pictureAt 20 = .ok (.iaload, 1) := qd_o46 0 20 qd_g426 rfl
theorem dX12_pictureAt_21 : decode cX12_pictureAt 21 = .ok (.iconst 4, 1) := qd_o7 0 21 qd_g426 rfl
theorem dX12_pictureAt_22 : decode cX12_pictureAt 22 = .ok (.idiv, 1) := qd_o108 0 22 qd_g426 rfl
theorem dX12_pictureAt_23 : decode cX12_pictureAt 23 = .ok (.iadd, 1) := qd_o96 0 23 qd_g426 rfl
theorem dX12_pictureAt_24 : decode cX12_pictureAt 24 = .ok (.bipush 32, 2) := qd_o16 0 24 qd_g426 rfl rfl
theorem dX12_pictureAt_26 : decode cX12_pictureAt 26 = .ok (.irem, 1) := qd_o112 0 26 qd_g426 rfl
theorem dX12_pictureAt_27 : decode cX12_pictureAt 27 = .ok (.istore 4, 2) := qd_o54 0 27 qd_g426 rfl rfl
theorem dX12_pictureAt_29 : decode cX12_pictureAt 29 = .ok (.sipush 256, 3) := qd_o17 0 29 qd_g426 rfl rfl
theorem dX12_pictureAt_32 : decode cX12_pictureAt 32 = .ok (.aload_n 0, 1) := qd_o42 0 32 qd_g426 rfl
theorem dX12_pictureAt_33 : decode cX12_pictureAt 33 = .ok (.getfield 19, 3) := qd_o180 0 33 qd_g426 rfl rfl
theorem dX12_pictureAt_36 : decode cX12_pictureAt 36 = .ok (.bipush 7, 2) := qd_o16 0 36 qd_g426 rfl rfl
theorem dX12_pictureAt_38 : decode cX12_pictureAt 38 = .ok (.iaload, 1) := qd_o46 0 38 qd_g426 rfl
theorem dX12_pictureAt_39 : decode cX12_pictureAt 39 = .ok (.imul, 1) := qd_o104 0 39 qd_g426 rfl
theorem qd_g427 : qd_bs cX12_pictureAt 40 [54, 5, 42, 180, 0, 19, 4, 46, 154, 0, 68, 42, 180, 0, 7, 21, 5, 16, 8, 21, 4, 16, 8, 108, 104, 96, 29, 7, 108, 96, 184, 0, 176, 46, 54, 6, 42, 180, 0, 7] = true := by decide +kernel
theorem dX12_pictureAt_40 : decode cX12_pictureAt 40 = .ok (.istore 5, 2) := qd_o54 40 0 qd_g427 rfl rfl
theorem dX12_pictureAt_42 : decode cX12_pictureAt 42 = .ok (.aload_n 0, 1) := qd_o42 40 2 qd_g427 rfl
theorem dX12_pictureAt_43 : decode cX12_pictureAt 43 = .ok (.getfield 19, 3) := qd_o180 40 3 qd_g427 rfl rfl
theorem dX12_pictureAt_46 : decode cX12_pictureAt 46 = .ok (.iconst 1, 1) := qd_o4 40 6 qd_g427 rfl
theorem dX12_pictureAt_47 : decode cX12_pictureAt 47 = .ok (.iaload, 1) := qd_o46 40 7 qd_g427 rfl
theorem dX12_pictureAt_48 : decode cX12_pictureAt 48 = .ok (.ifCond .ne 68, 3) := qd_o154 40 8 qd_g427 rfl rfl
theorem dX12_pictureAt_51 : decode cX12_pictureAt 51 = .ok (.aload_n 0, 1) := qd_o42 40 11 qd_g427 rfl
theorem dX12_pictureAt_52 : decode cX12_pictureAt 52 = .ok (.getfield 7, 3) := qd_o180 40 12 qd_g427 rfl rfl
theorem dX12_pictureAt_55 : decode cX12_pictureAt 55 = .ok (.iload 5, 2) := qd_o21 40 15 qd_g427 rfl rfl
theorem dX12_pictureAt_57 : decode cX12_pictureAt 57 = .ok (.bipush 8, 2) := qd_o16 40 17 qd_g427 rfl rfl
theorem dX12_pictureAt_59 : decode cX12_pictureAt 59 = .ok (.iload 4, 2) := qd_o21 40 19 qd_g427 rfl rfl
theorem dX12_pictureAt_61 : decode cX12_pictureAt 61 = .ok (.bipush 8, 2) := qd_o16 40 21 qd_g427 rfl rfl
theorem dX12_pictureAt_63 : decode cX12_pictureAt 63 = .ok (.idiv, 1) := qd_o108 40 23 qd_g427 rfl
theorem dX12_pictureAt_64 : decode cX12_pictureAt 64 = .ok (.imul, 1) := qd_o104 40 24 qd_g427 rfl
theorem dX12_pictureAt_65 : decode cX12_pictureAt 65 = .ok (.iadd, 1) := qd_o96 40 25 qd_g427 rfl
theorem dX12_pictureAt_66 : decode cX12_pictureAt 66 = .ok (.iload_n 3, 1) := qd_o29 40 26 qd_g427 rfl
theorem dX12_pictureAt_67 : decode cX12_pictureAt 67 = .ok (.iconst 4, 1) := qd_o7 40 27 qd_g427 rfl
theorem dX12_pictureAt_68 : decode cX12_pictureAt 68 = .ok (.idiv, 1) := qd_o108 40 28 qd_g427 rfl
theorem dX12_pictureAt_69 : decode cX12_pictureAt 69 = .ok (.iadd, 1) := qd_o96 40 29 qd_g427 rfl
theorem dX12_pictureAt_70 : decode cX12_pictureAt 70 = .ok (.invokestatic 176, 3) := qd_o184 40 30 qd_g427 rfl rfl
theorem dX12_pictureAt_73 : decode cX12_pictureAt 73 = .ok (.iaload, 1) := qd_o46 40 33 qd_g427 rfl
theorem dX12_pictureAt_74 : decode cX12_pictureAt 74 = .ok (.istore 6, 2) := qd_o54 40 34 qd_g427 rfl rfl
theorem dX12_pictureAt_76 : decode cX12_pictureAt 76 = .ok (.aload_n 0, 1) := qd_o42 40 36 qd_g427 rfl
theorem dX12_pictureAt_77 : decode cX12_pictureAt 77 = .ok (.getfield 7, 3) := qd_o180 40 37 qd_g427 rfl rfl
theorem qd_g428 : qd_bs cX12_pictureAt 80 [17, 1, 0, 42, 180, 0, 19, 16, 8, 46, 104, 16, 8, 21, 6, 104, 96, 21, 4, 16, 8, 112, 96, 184, 0, 176, 46, 6, 29, 7, 112, 100, 122, 4, 126, 172, 42, 180, 0, 7] = true := by decide +kernel
theorem dX12_pictureAt_80 : decode cX12_pictureAt 80 = .ok (.sipush 256, 3) := qd_o17 80 0 qd_g428 rfl rfl
theorem dX12_pictureAt_83 : decode cX12_pictureAt 83 = .ok (.aload_n 0, 1) := qd_o42 80 3 qd_g428 rfl
theorem dX12_pictureAt_84 : decode cX12_pictureAt 84 = .ok (.getfield 19, 3) := qd_o180 80 4 qd_g428 rfl rfl
theorem dX12_pictureAt_87 : decode cX12_pictureAt 87 = .ok (.bipush 8, 2) := qd_o16 80 7 qd_g428 rfl rfl
theorem dX12_pictureAt_89 : decode cX12_pictureAt 89 = .ok (.iaload, 1) := qd_o46 80 9 qd_g428 rfl
theorem dX12_pictureAt_90 : decode cX12_pictureAt 90 = .ok (.imul, 1) := qd_o104 80 10 qd_g428 rfl
theorem dX12_pictureAt_91 : decode cX12_pictureAt 91 = .ok (.bipush 8, 2) := qd_o16 80 11 qd_g428 rfl rfl
theorem dX12_pictureAt_93 : decode cX12_pictureAt 93 = .ok (.iload 6, 2) := qd_o21 80 13 qd_g428 rfl rfl
theorem dX12_pictureAt_95 : decode cX12_pictureAt 95 = .ok (.imul, 1) := qd_o104 80 15 qd_g428 rfl
theorem dX12_pictureAt_96 : decode cX12_pictureAt 96 = .ok (.iadd, 1) := qd_o96 80 16 qd_g428 rfl
theorem dX12_pictureAt_97 : decode cX12_pictureAt 97 = .ok (.iload 4, 2) := qd_o21 80 17 qd_g428 rfl rfl
theorem dX12_pictureAt_99 : decode cX12_pictureAt 99 = .ok (.bipush 8, 2) := qd_o16 80 19 qd_g428 rfl rfl
theorem dX12_pictureAt_101 : decode cX12_pictureAt 101 = .ok (.irem, 1) := qd_o112 80 21 qd_g428 rfl
theorem dX12_pictureAt_102 : decode cX12_pictureAt 102 = .ok (.iadd, 1) := qd_o96 80 22 qd_g428 rfl
theorem dX12_pictureAt_103 : decode cX12_pictureAt 103 = .ok (.invokestatic 176, 3) := qd_o184 80 23 qd_g428 rfl rfl
theorem dX12_pictureAt_106 : decode cX12_pictureAt 106 = .ok (.iaload, 1) := qd_o46 80 26 qd_g428 rfl
theorem dX12_pictureAt_107 : decode cX12_pictureAt 107 = .ok (.iconst 3, 1) := qd_o6 80 27 qd_g428 rfl
theorem dX12_pictureAt_108 : decode cX12_pictureAt 108 = .ok (.iload_n 3, 1) := qd_o29 80 28 qd_g428 rfl
theorem dX12_pictureAt_109 : decode cX12_pictureAt 109 = .ok (.iconst 4, 1) := qd_o7 80 29 qd_g428 rfl
theorem dX12_pictureAt_110 : decode cX12_pictureAt 110 = .ok (.irem, 1) := qd_o112 80 30 qd_g428 rfl
theorem dX12_pictureAt_111 : decode cX12_pictureAt 111 = .ok (.isub, 1) := qd_o100 80 31 qd_g428 rfl
theorem dX12_pictureAt_112 : decode cX12_pictureAt 112 = .ok (.ishr, 1) := qd_o122 80 32 qd_g428 rfl
theorem dX12_pictureAt_113 : decode cX12_pictureAt 113 = .ok (.iconst 1, 1) := qd_o4 80 33 qd_g428 rfl
theorem dX12_pictureAt_114 : decode cX12_pictureAt 114 = .ok (.iand, 1) := qd_o126 80 34 qd_g428 rfl
theorem dX12_pictureAt_115 : decode cX12_pictureAt 115 = .ok (.ireturn, 1) := qd_o172 80 35 qd_g428 rfl
theorem dX12_pictureAt_116 : decode cX12_pictureAt 116 = .ok (.aload_n 0, 1) := qd_o42 80 36 qd_g428 rfl
theorem dX12_pictureAt_117 : decode cX12_pictureAt 117 = .ok (.getfield 7, 3) := qd_o180 80 37 qd_g428 rfl rfl
theorem qd_g429 : qd_bs cX12_pictureAt 120 [21, 5, 7, 21, 4, 104, 96, 29, 16, 8, 108, 96, 184, 0, 176, 46, 54, 6, 42, 180, 0, 19, 4, 46, 4, 160, 0, 18, 21, 6, 16, 7, 29, 16, 8, 112, 100, 122, 4, 126] = true := by decide +kernel
theorem dX12_pictureAt_120 : decode cX12_pictureAt 120 = .ok (.iload 5, 2) := qd_o21 120 0 qd_g429 rfl rfl
theorem dX12_pictureAt_122 : decode cX12_pictureAt 122 = .ok (.iconst 4, 1) := qd_o7 120 2 qd_g429 rfl
theorem dX12_pictureAt_123 : decode cX12_pictureAt 123 = .ok (.iload 4, 2) := qd_o21 120 3 qd_g429 rfl rfl
theorem dX12_pictureAt_125 : decode cX12_pictureAt 125 = .ok (.imul, 1) := qd_o104 120 5 qd_g429 rfl
theorem dX12_pictureAt_126 : decode cX12_pictureAt 126 = .ok (.iadd, 1) := qd_o96 120 6 qd_g429 rfl
theorem dX12_pictureAt_127 : decode cX12_pictureAt 127 = .ok (.iload_n 3, 1) := qd_o29 120 7 qd_g429 rfl
theorem dX12_pictureAt_128 : decode cX12_pictureAt 128 = .ok (.bipush 8, 2) := qd_o16 120 8 qd_g429 rfl rfl
theorem dX12_pictureAt_130 : decode cX12_pictureAt 130 = .ok (.idiv, 1) := qd_o108 120 10 qd_g429 rfl
theorem dX12_pictureAt_131 : decode cX12_pictureAt 131 = .ok (.iadd, 1) := qd_o96 120 11 qd_g429 rfl
theorem dX12_pictureAt_132 : decode cX12_pictureAt 132 = .ok (.invokestatic 176, 3) := qd_o184 120 12 qd_g429 rfl rfl
theorem dX12_pictureAt_135 : decode cX12_pictureAt 135 = .ok (.iaload, 1) := qd_o46 120 15 qd_g429 rfl
theorem dX12_pictureAt_136 : decode cX12_pictureAt 136 = .ok (.istore 6, 2) := qd_o54 120 16 qd_g429 rfl rfl
theorem dX12_pictureAt_138 : decode cX12_pictureAt 138 = .ok (.aload_n 0, 1) := qd_o42 120 18 qd_g429 rfl
theorem dX12_pictureAt_139 : decode cX12_pictureAt 139 = .ok (.getfield 19, 3) := qd_o180 120 19 qd_g429 rfl rfl
theorem dX12_pictureAt_142 : decode cX12_pictureAt 142 = .ok (.iconst 1, 1) := qd_o4 120 22 qd_g429 rfl
theorem dX12_pictureAt_143 : decode cX12_pictureAt 143 = .ok (.iaload, 1) := qd_o46 120 23 qd_g429 rfl
theorem dX12_pictureAt_144 : decode cX12_pictureAt 144 = .ok (.iconst 1, 1) := qd_o4 120 24 qd_g429 rfl
theorem dX12_pictureAt_145 : decode cX12_pictureAt 145 = .ok (.if_icmp .ne 18, 3) := qd_o160 120 25 qd_g429 rfl rfl
theorem dX12_pictureAt_148 : decode cX12_pictureAt 148 = .ok (.iload 6, 2) := qd_o21 120 28 qd_g429 rfl rfl
theorem dX12_pictureAt_150 : decode cX12_pictureAt 150 = .ok (.bipush 7, 2) := qd_o16 120 30 qd_g429 rfl rfl
theorem dX12_pictureAt_152 : decode cX12_pictureAt 152 = .ok (.iload_n 3, 1) := qd_o29 120 32 qd_g429 rfl
theorem dX12_pictureAt_153 : decode cX12_pictureAt 153 = .ok (.bipush 8, 2) := qd_o16 120 33 qd_g429 rfl rfl
theorem dX12_pictureAt_155 : decode cX12_pictureAt 155 = .ok (.irem, 1) := qd_o112 120 35 qd_g429 rfl
theorem dX12_pictureAt_156 : decode cX12_pictureAt 156 = .ok (.isub, 1) := qd_o100 120 36 qd_g429 rfl
theorem dX12_pictureAt_157 : decode cX12_pictureAt 157 = .ok (.ishr, 1) := qd_o122 120 37 qd_g429 rfl
theorem dX12_pictureAt_158 : decode cX12_pictureAt 158 = .ok (.iconst 1, 1) := qd_o4 120 38 qd_g429 rfl
theorem dX12_pictureAt_159 : decode cX12_pictureAt 159 = .ok (.iand, 1) := qd_o126 120 39 qd_g429 rfl
theorem qd_g430 : qd_bs cX12_pictureAt 160 [167, 0, 33, 42, 180, 0, 19, 4, 46, 5, 160, 0, 22, 21, 6, 16, 6, 5, 29, 16, 8, 112, 5, 108, 104, 100, 122, 6, 126, 167, 0, 4, 3, 172] = true := by decide +kernel
theorem dX12_pictureAt_160 : decode cX12_pictureAt 160 = .ok (.goto 33, 3) := qd_o167 160 0 qd_g430 rfl rfl
theorem dX12_pictureAt_163 : decode cX12_pictureAt 163 = .ok (.aload_n 0, 1) := qd_o42 160 3 qd_g430 rfl
theorem dX12_pictureAt_164 : decode cX12_pictureAt 164 = .ok (.getfield 19, 3) := qd_o180 160 4 qd_g430 rfl rfl
theorem dX12_pictureAt_167 : decode cX12_pictureAt 167 = .ok (.iconst 1, 1) := qd_o4 160 7 qd_g430 rfl
theorem dX12_pictureAt_168 : decode cX12_pictureAt 168 = .ok (.iaload, 1) := qd_o46 160 8 qd_g430 rfl
theorem dX12_pictureAt_169 : decode cX12_pictureAt 169 = .ok (.iconst 2, 1) := qd_o5 160 9 qd_g430 rfl
theorem dX12_pictureAt_170 : decode cX12_pictureAt 170 = .ok (.if_icmp .ne 22, 3) := qd_o160 160 10 qd_g430 rfl rfl
theorem dX12_pictureAt_173 : decode cX12_pictureAt 173 = .ok (.iload 6, 2) := qd_o21 160 13 qd_g430 rfl rfl
theorem dX12_pictureAt_175 : decode cX12_pictureAt 175 = .ok (.bipush 6, 2) := qd_o16 160 15 qd_g430 rfl rfl
theorem dX12_pictureAt_177 : decode cX12_pictureAt 177 = .ok (.iconst 2, 1) := qd_o5 160 17 qd_g430 rfl
theorem dX12_pictureAt_178 : decode cX12_pictureAt 178 = .ok (.iload_n 3, 1) := qd_o29 160 18 qd_g430 rfl
theorem dX12_pictureAt_179 : decode cX12_pictureAt 179 = .ok (.bipush 8, 2) := qd_o16 160 19 qd_g430 rfl rfl
theorem dX12_pictureAt_181 : decode cX12_pictureAt 181 = .ok (.irem, 1) := qd_o112 160 21 qd_g430 rfl
theorem dX12_pictureAt_182 : decode cX12_pictureAt 182 = .ok (.iconst 2, 1) := qd_o5 160 22 qd_g430 rfl
theorem dX12_pictureAt_183 : decode cX12_pictureAt 183 = .ok (.idiv, 1) := qd_o108 160 23 qd_g430 rfl
theorem dX12_pictureAt_184 : decode cX12_pictureAt 184 = .ok (.imul, 1) := qd_o104 160 24 qd_g430 rfl
theorem dX12_pictureAt_185 : decode cX12_pictureAt 185 = .ok (.isub, 1) := qd_o100 160 25 qd_g430 rfl
theorem dX12_pictureAt_186 : decode cX12_pictureAt 186 = .ok (.ishr, 1) := qd_o122 160 26 qd_g430 rfl
theorem dX12_pictureAt_187 : decode cX12_pictureAt 187 = .ok (.iconst 3, 1) := qd_o6 160 27 qd_g430 rfl
theorem dX12_pictureAt_188 : decode cX12_pictureAt 188 = .ok (.iand, 1) := qd_o126 160 28 qd_g430 rfl
theorem dX12_pictureAt_189 : decode cX12_pictureAt 189 = .ok (.goto 4, 3) := qd_o167 160 29 qd_g430 rfl rfl
theorem dX12_pictureAt_192 : decode cX12_pictureAt 192 = .ok (.iconst 0, 1) := qd_o3 160 32 qd_g430 rfl
theorem dX12_pictureAt_193 : decode cX12_pictureAt 193 = .ok (.ireturn, 1) := qd_o172 160 33 qd_g430 rfl
theorem qd_g431 : qd_bs cX12_covers 0 [42, 27, 182, 0, 182, 154, 0, 5, 3, 172, 28, 42, 180, 0, 19, 16, 20, 27, 96, 46, 100, 54, 4, 29, 42, 180, 0, 19, 16, 24, 27, 96, 46, 100, 54, 5, 42, 180, 0, 19] = true := by decide +kernel
theorem dX12_covers_0 : decode cX12_covers 0 = .ok (.aload_n 0, 1) := qd_o42 0 0 qd_g431 rfl
theorem dX12_covers_1 : decode cX12_covers 1 = .ok (.iload_n 1, 1) := qd_o27 0 1 qd_g431 rfl
theorem dX12_covers_2 : decode cX12_covers 2 = .ok (.invokevirtual 182, 3) := qd_o182 0 2 qd_g431 rfl rfl
theorem dX12_covers_5 : decode cX12_covers 5 = .ok (.ifCond .ne 5, 3) := qd_o154 0 5 qd_g431 rfl rfl
theorem dX12_covers_8 : decode cX12_covers 8 = .ok (.iconst 0, 1) := qd_o3 0 8 qd_g431 rfl
theorem dX12_covers_9 : decode cX12_covers 9 = .ok (.ireturn, 1) := qd_o172 0 9 qd_g431 rfl
