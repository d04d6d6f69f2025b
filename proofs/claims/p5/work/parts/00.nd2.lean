theorem dX12_covers_10 : decode cX12_covers 10 = .ok (.iload_n 2, 1) := qd_o28 0 10 qd_g431 rfl
theorem dX12_covers_11 : decode cX12_covers 11 = .ok (.aload_n 0, 1) := qd_o42 0 11 qd_g431 rfl
theorem dX12_covers_12 : decode cX12_covers 12 = .ok (.getfield 19, 3) := qd_o180 0 12 qd_g431 rfl rfl
theorem dX12_covers_15 : decode cX12_covers 15 = .ok (.bipush 20, 2) := qd_o16 0 15 qd_g431 rfl rfl
theorem dX12_covers_17 : decode cX12_covers 17 = .ok (.iload_n 1, 1) := qd_o27 0 17 qd_g431 rfl
theorem dX12_covers_18 : decode cX12_covers 18 = .ok (.iadd, 1) := qd_o96 0 18 qd_g431 rfl
theorem dX12_covers_19 : decode cX12_covers 19 = .ok (.iaload, 1) := qd_o46 0 19 qd_g431 rfl
theorem dX12_covers_20 : decode cX12_covers 20 = .ok (.isub, 1) := qd_o100 0 20 qd_g431 rfl
theorem dX12_covers_21 : decode cX12_covers 21 = .ok (.istore 4, 2) := qd_o54 0 21 qd_g431 rfl rfl
theorem dX12_covers_23 : decode cX12_covers 23 = .ok (.iload_n 3, 1) := qd_o29 0 23 qd_g431 rfl
theorem dX12_covers_24 : decode cX12_covers 24 = .ok (.aload_n 0, 1) := qd_o42 0 24 qd_g431 rfl
theorem dX12_covers_25 : decode cX12_covers 25 = .ok (.getfield 19, 3) := qd_o180 0 25 qd_g431 rfl rfl
theorem dX12_covers_28 : decode cX12_covers 28 = .ok (.bipush 24, 2) := qd_o16 0 28 qd_g431 rfl rfl
theorem dX12_covers_30 : decode cX12_covers 30 = .ok (.iload_n 1, 1) := qd_o27 0 30 qd_g431 rfl
theorem dX12_covers_31 : decode cX12_covers 31 = .ok (.iadd, 1) := qd_o96 0 31 qd_g431 rfl
theorem dX12_covers_32 : decode cX12_covers 32 = .ok (.iaload, 1) := qd_o46 0 32 qd_g431 rfl
theorem dX12_covers_33 : decode cX12_covers 33 = .ok (.isub, 1) := qd_o100 0 33 qd_g431 rfl
theorem dX12_covers_34 : decode cX12_covers 34 = .ok (.istore 5, 2) := qd_o54 0 34 qd_g431 rfl rfl
theorem dX12_covers_36 : decode cX12_covers 36 = .ok (.aload_n 0, 1) := qd_o42 0 36 qd_g431 rfl
theorem dX12_covers_37 : decode cX12_covers 37 = .ok (.getfield 19, 3) := qd_o180 0 37 qd_g431 rfl rfl
theorem qd_g432 : qd_bs cX12_covers 40 [16, 18, 46, 27, 184, 0, 131, 153, 0, 15, 21, 4, 4, 122, 54, 4, 21, 5, 4, 122, 54, 5, 21, 4, 3, 16, 7, 184, 0, 119, 153, 0, 60, 21, 5, 3, 16, 7] = true := by decide +kernel
theorem dX12_covers_40 : decode cX12_covers 40 = .ok (.bipush 18, 2) := qd_o16 40 0 qd_g432 rfl rfl
theorem dX12_covers_42 : decode cX12_covers 42 = .ok (.iaload, 1) := qd_o46 40 2 qd_g432 rfl
theorem dX12_covers_43 : decode cX12_covers 43 = .ok (.iload_n 1, 1) := qd_o27 40 3 qd_g432 rfl
theorem dX12_covers_44 : decode cX12_covers 44 = .ok (.invokestatic 131, 3) := qd_o184 40 4 qd_g432 rfl rfl
theorem dX12_covers_47 : decode cX12_covers 47 = .ok (.ifCond .eq 15, 3) := qd_o153 40 7 qd_g432 rfl rfl
theorem dX12_covers_50 : decode cX12_covers 50 = .ok (.iload 4, 2) := qd_o21 40 10 qd_g432 rfl rfl
theorem dX12_covers_52 : decode cX12_covers 52 = .ok (.iconst 1, 1) := qd_o4 40 12 qd_g432 rfl
theorem dX12_covers_53 : decode cX12_covers 53 = .ok (.ishr, 1) := qd_o122 40 13 qd_g432 rfl
theorem dX12_covers_54 : decode cX12_covers 54 = .ok (.istore 4, 2) := qd_o54 40 14 qd_g432 rfl rfl
theorem dX12_covers_56 : decode cX12_covers 56 = .ok (.iload 5, 2) := qd_o21 40 16 qd_g432 rfl rfl
theorem dX12_covers_58 : decode cX12_covers 58 = .ok (.iconst 1, 1) := qd_o4 40 18 qd_g432 rfl
theorem dX12_covers_59 : decode cX12_covers 59 = .ok (.ishr, 1) := qd_o122 40 19 qd_g432 rfl
theorem dX12_covers_60 : decode cX12_covers 60 = .ok (.istore 5, 2) := qd_o54 40 20 qd_g432 rfl rfl
theorem dX12_covers_62 : decode cX12_covers 62 = .ok (.iload 4, 2) := qd_o21 40 22 qd_g432 rfl rfl
theorem dX12_covers_64 : decode cX12_covers 64 = .ok (.iconst 0, 1) := qd_o3 40 24 qd_g432 rfl
theorem dX12_covers_65 : decode cX12_covers 65 = .ok (.bipush 7, 2) := qd_o16 40 25 qd_g432 rfl rfl
theorem dX12_covers_67 : decode cX12_covers 67 = .ok (.invokestatic 119, 3) := qd_o184 40 27 qd_g432 rfl rfl
theorem dX12_covers_70 : decode cX12_covers 70 = .ok (.ifCond .eq 60, 3) := qd_o153 40 30 qd_g432 rfl rfl
theorem dX12_covers_73 : decode cX12_covers 73 = .ok (.iload 5, 2) := qd_o21 40 33 qd_g432 rfl rfl
theorem dX12_covers_75 : decode cX12_covers 75 = .ok (.iconst 0, 1) := qd_o3 40 35 qd_g432 rfl
theorem dX12_covers_76 : decode cX12_covers 76 = .ok (.bipush 7, 2) := qd_o16 40 36 qd_g432 rfl rfl
theorem qd_g433 : qd_bs cX12_covers 78 [184, 0, 119, 153, 0, 49, 42, 180, 0, 7, 17, 1, 0, 42, 180, 0, 19, 16, 7, 46, 104, 17, 0, 128, 96, 16, 8, 27, 104, 96, 21, 5, 96, 184, 0, 176, 46, 16, 7] = true := by decide +kernel
theorem dX12_covers_78 : decode cX12_covers 78 = .ok (.invokestatic 119, 3) := qd_o184 78 0 qd_g433 rfl rfl
theorem dX12_covers_81 : decode cX12_covers 81 = .ok (.ifCond .eq 49, 3) := qd_o153 78 3 qd_g433 rfl rfl
theorem dX12_covers_84 : decode cX12_covers 84 = .ok (.aload_n 0, 1) := qd_o42 78 6 qd_g433 rfl
theorem dX12_covers_85 : decode cX12_covers 85 = .ok (.getfield 7, 3) := qd_o180 78 7 qd_g433 rfl rfl
theorem dX12_covers_88 : decode cX12_covers 88 = .ok (.sipush 256, 3) := qd_o17 78 10 qd_g433 rfl rfl
theorem dX12_covers_91 : decode cX12_covers 91 = .ok (.aload_n 0, 1) := qd_o42 78 13 qd_g433 rfl
theorem dX12_covers_92 : decode cX12_covers 92 = .ok (.getfield 19, 3) := qd_o180 78 14 qd_g433 rfl rfl
theorem dX12_covers_95 : decode cX12_covers 95 = .ok (.bipush 7, 2) := qd_o16 78 17 qd_g433 rfl rfl
theorem dX12_covers_97 : decode cX12_covers 97 = .ok (.iaload, 1) := qd_o46 78 19 qd_g433 rfl
theorem dX12_covers_98 : decode cX12_covers 98 = .ok (.imul, 1) := qd_o104 78 20 qd_g433 rfl
theorem dX12_covers_99 : decode cX12_covers 99 = .ok (.sipush 128, 3) := qd_o17 78 21 qd_g433 rfl rfl
theorem dX12_covers_102 : decode cX12_covers 102 = .ok (.iadd, 1) := qd_o96 78 24 qd_g433 rfl
theorem dX12_covers_103 : decode cX12_covers 103 = .ok (.bipush 8, 2) := qd_o16 78 25 qd_g433 rfl rfl
theorem dX12_covers_105 : decode cX12_covers 105 = .ok (.iload_n 1, 1) := qd_o27 78 27 qd_g433 rfl
theorem dX12_covers_106 : decode cX12_covers 106 = .ok (.imul, 1) := qd_o104 78 28 qd_g433 rfl
theorem dX12_covers_107 : decode cX12_covers 107 = .ok (.iadd, 1) := qd_o96 78 29 qd_g433 rfl
theorem dX12_covers_108 : decode cX12_covers 108 = .ok (.iload 5, 2) := qd_o21 78 30 qd_g433 rfl rfl
theorem dX12_covers_110 : decode cX12_covers 110 = .ok (.iadd, 1) := qd_o96 78 32 qd_g433 rfl
theorem dX12_covers_111 : decode cX12_covers 111 = .ok (.invokestatic 176, 3) := qd_o184 78 33 qd_g433 rfl rfl
theorem dX12_covers_114 : decode cX12_covers 114 = .ok (.iaload, 1) := qd_o46 78 36 qd_g433 rfl
theorem dX12_covers_115 : decode cX12_covers 115 = .ok (.bipush 7, 2) := qd_o16 78 37 qd_g433 rfl rfl
theorem qd_g434 : qd_bs cX12_covers 117 [21, 4, 100, 184, 0, 131, 153, 0, 7, 4, 167, 0, 4, 3, 172] = true := by decide +kernel
theorem dX12_covers_117 : decode cX12_covers 117 = .ok (.iload 4, 2) := qd_o21 117 0 qd_g434 rfl rfl
theorem dX12_covers_119 : decode cX12_covers 119 = .ok (.isub, 1) := qd_o100 117 2 qd_g434 rfl
theorem dX12_covers_120 : decode cX12_covers 120 = .ok (.invokestatic 131, 3) := qd_o184 117 3 qd_g434 rfl rfl
theorem dX12_covers_123 : decode cX12_covers 123 = .ok (.ifCond .eq 7, 3) := qd_o153 117 6 qd_g434 rfl rfl
theorem dX12_covers_126 : decode cX12_covers 126 = .ok (.iconst 1, 1) := qd_o4 117 9 qd_g434 rfl
theorem dX12_covers_127 : decode cX12_covers 127 = .ok (.goto 4, 3) := qd_o167 117 10 qd_g434 rfl rfl
theorem dX12_covers_130 : decode cX12_covers 130 = .ok (.iconst 0, 1) := qd_o3 117 13 qd_g434 rfl
theorem dX12_covers_131 : decode cX12_covers 131 = .ok (.ireturn, 1) := qd_o172 117 14 qd_g434 rfl
theorem qd_g435 : qd_bs cX12_draws 0 [42, 27, 28, 182, 0, 188, 62, 42, 180, 0, 19, 4, 46, 5, 160, 0, 16, 29, 4, 164, 0, 7, 4, 167, 0, 17, 3, 167, 0, 13, 29, 4, 160, 0, 7, 4, 167, 0, 4, 3] = true := by decide +kernel
theorem dX12_draws_0 : decode cX12_draws 0 = .ok (.aload_n 0, 1) := qd_o42 0 0 qd_g435 rfl
theorem dX12_draws_1 : decode cX12_draws 1 = .ok (.iload_n 1, 1) := qd_o27 0 1 qd_g435 rfl
theorem dX12_draws_2 : decode cX12_draws 2 = .ok (.iload_n 2, 1) := qd_o28 0 2 qd_g435 rfl
theorem dX12_draws_3 : decode cX12_draws 3 = .ok (.invokevirtual 188, 3) := qd_o182 0 3 qd_g435 rfl rfl
theorem dX12_draws_6 : decode cX12_draws 6 = .ok (.istore_n 3, 1) := qd_o62 0 6 qd_g435 rfl
theorem dX12_draws_7 : decode cX12_draws 7 = .ok (.aload_n 0, 1) := qd_o42 0 7 qd_g435 rfl
theorem dX12_draws_8 : decode cX12_draws 8 = .ok (.getfield 19, 3) := qd_o180 0 8 qd_g435 rfl rfl
theorem dX12_draws_11 : decode cX12_draws 11 = .ok (.iconst 1, 1) := qd_o4 0 11 qd_g435 rfl
theorem dX12_draws_12 : decode cX12_draws 12 = .ok (.iaload, 1) := qd_o46 0 12 qd_g435 rfl
theorem dX12_draws_13 : decode cX12_draws 13 = .ok (.iconst 2, 1) := qd_o5 0 13 qd_g435 rfl
theorem dX12_draws_14 : decode cX12_draws 14 = .ok (.if_icmp .ne 16, 3) := qd_o160 0 14 qd_g435 rfl rfl
theorem dX12_draws_17 : decode cX12_draws 17 = .ok (.iload_n 3, 1) := qd_o29 0 17 qd_g435 rfl
theorem dX12_draws_18 : decode cX12_draws 18 = .ok (.iconst 1, 1) := qd_o4 0 18 qd_g435 rfl
theorem dX12_draws_19 : decode cX12_draws 19 = .ok (.if_icmp .le 7, 3) := qd_o164 0 19 qd_g435 rfl rfl
theorem dX12_draws_22 : decode cX12_draws 22 = .ok (.iconst 1, 1) := qd_o4 0 22 qd_g435 rfl
theorem dX12_draws_23 : decode cX12_draws 23 = .ok (.goto 17, 3) := qd_o167 0 23 qd_g435 rfl rfl
theorem dX12_draws_26 : decode cX12_draws 26 = .ok (.iconst 0, 1) := qd_o3 0 26 qd_g435 rfl
theorem dX12_draws_27 : decode cX12_draws 27 = .ok (.goto 13, 3) := qd_o167 0 27 qd_g435 rfl rfl
theorem dX12_draws_30 : decode cX12_draws 30 = .ok (.iload_n 3, 1) := qd_o29 0 30 qd_g435 rfl
theorem dX12_draws_31 : decode cX12_draws 31 = .ok (.iconst 1, 1) := qd_o4 0 31 qd_g435 rfl
theorem dX12_draws_32 : decode cX12_draws 32 = .ok (.if_icmp .ne 7, 3) := qd_o160 0 32 qd_g435 rfl rfl
theorem dX12_draws_35 : decode cX12_draws 35 = .ok (.iconst 1, 1) := qd_o4 0 35 qd_g435 rfl
theorem dX12_draws_36 : decode cX12_draws 36 = .ok (.goto 4, 3) := qd_o167 0 36 qd_g435 rfl rfl
theorem dX12_draws_39 : decode cX12_draws 39 = .ok (.iconst 0, 1) := qd_o3 0 39 qd_g435 rfl
theorem qd_g436 : qd_bs cX12_draws 40 [54, 4, 3, 54, 5, 2, 54, 6, 6, 54, 7, 21, 7, 155, 0, 36, 42, 21, 7, 27, 28, 182, 0, 192, 154, 0, 6, 167, 0, 16, 21, 5, 4, 21, 7, 120, 128, 54, 5] = true := by decide +kernel
theorem dX12_draws_40 : decode cX12_draws 40 = .ok (.istore 4, 2) := qd_o54 40 0 qd_g436 rfl rfl
theorem dX12_draws_42 : decode cX12_draws 42 = .ok (.iconst 0, 1) := qd_o3 40 2 qd_g436 rfl
theorem dX12_draws_43 : decode cX12_draws 43 = .ok (.istore 5, 2) := qd_o54 40 3 qd_g436 rfl rfl
theorem dX12_draws_45 : decode cX12_draws 45 = .ok (.iconst (-1), 1) := qd_o2 40 5 qd_g436 rfl
theorem dX12_draws_46 : decode cX12_draws 46 = .ok (.istore 6, 2) := qd_o54 40 6 qd_g436 rfl rfl
theorem dX12_draws_48 : decode cX12_draws 48 = .ok (.iconst 3, 1) := qd_o6 40 8 qd_g436 rfl
theorem dX12_draws_49 : decode cX12_draws 49 = .ok (.istore 7, 2) := qd_o54 40 9 qd_g436 rfl rfl
theorem dX12_draws_51 : decode cX12_draws 51 = .ok (.iload 7, 2) := qd_o21 40 11 qd_g436 rfl rfl
theorem dX12_draws_53 : decode cX12_draws 53 = .ok (.ifCond .lt 36, 3) := qd_o155 40 13 qd_g436 rfl rfl
theorem dX12_draws_56 : decode cX12_draws 56 = .ok (.aload_n 0, 1) := qd_o42 40 16 qd_g436 rfl
theorem dX12_draws_57 : decode cX12_draws 57 = .ok (.iload 7, 2) := qd_o21 40 17 qd_g436 rfl rfl
theorem dX12_draws_59 : decode cX12_draws 59 = .ok (.iload_n 1, 1) := qd_o27 40 19 qd_g436 rfl
theorem dX12_draws_60 : decode cX12_draws 60 = .ok (.iload_n 2, 1) := qd_o28 40 20 qd_g436 rfl
theorem dX12_draws_61 : decode cX12_draws 61 = .ok (.invokevirtual 192, 3) := qd_o182 40 21 qd_g436 rfl rfl
theorem dX12_draws_64 : decode cX12_draws 64 = .ok (.ifCond .ne 6, 3) := qd_o154 40 24 qd_g436 rfl rfl
theorem dX12_draws_67 : decode cX12_draws 67 = .ok (.goto 16, 3) := qd_o167 40 27 qd_g436 rfl rfl
theorem dX12_draws_70 : decode cX12_draws 70 = .ok (.iload 5, 2) := qd_o21 40 30 qd_g436 rfl rfl
theorem dX12_draws_72 : decode cX12_draws 72 = .ok (.iconst 1, 1) := qd_o4 40 32 qd_g436 rfl
theorem dX12_draws_73 : decode cX12_draws 73 = .ok (.iload 7, 2) := qd_o21 40 33 qd_g436 rfl rfl
theorem dX12_draws_75 : decode cX12_draws 75 = .ok (.ishl, 1) := qd_o120 40 35 qd_g436 rfl
theorem dX12_draws_76 : decode cX12_draws 76 = .ok (.ior, 1) := qd_o128 40 36 qd_g436 rfl
theorem dX12_draws_77 : decode cX12_draws 77 = .ok (.istore 5, 2) := qd_o54 40 37 qd_g436 rfl rfl
theorem qd_g437 : qd_bs cX12_draws 79 [21, 7, 54, 6, 132, 7, 255, 167, 255, 221, 21, 6, 155, 0, 27, 21, 4, 153, 0, 18, 42, 180, 0, 19, 16, 19, 46, 21, 6, 184, 0, 131, 154, 0, 7, 4, 167, 0, 4, 3] = true := by decide +kernel
theorem dX12_draws_79 : decode cX12_draws 79 = .ok (.iload 7, 2) := qd_o21 79 0 qd_g437 rfl rfl
theorem dX12_draws_81 : decode cX12_draws 81 = .ok (.istore 6, 2) := qd_o54 79 2 qd_g437 rfl rfl
theorem dX12_draws_83 : decode cX12_draws 83 = .ok (.iinc 7 (-1), 3) := qd_o132 79 4 qd_g437 rfl rfl
theorem dX12_draws_86 : decode cX12_draws 86 = .ok (.goto (-35), 3) := qd_o167 79 7 qd_g437 rfl rfl
theorem dX12_draws_89 : decode cX12_draws 89 = .ok (.iload 6, 2) := qd_o21 79 10 qd_g437 rfl rfl
theorem dX12_draws_91 : decode cX12_draws 91 = .ok (.ifCond .lt 27, 3) := qd_o155 79 12 qd_g437 rfl rfl
theorem dX12_draws_94 : decode cX12_draws 94 = .ok (.iload 4, 2) := qd_o21 79 15 qd_g437 rfl rfl
theorem dX12_draws_96 : decode cX12_draws 96 = .ok (.ifCond .eq 18, 3) := qd_o153 79 17 qd_g437 rfl rfl
theorem dX12_draws_99 : decode cX12_draws 99 = .ok (.aload_n 0, 1) := qd_o42 79 20 qd_g437 rfl
theorem dX12_draws_100 : decode cX12_draws 100 = .ok (.getfield 19, 3) := qd_o180 79 21 qd_g437 rfl rfl
theorem dX12_draws_103 : decode cX12_draws 103 = .ok (.bipush 19, 2) := qd_o16 79 24 qd_g437 rfl rfl
theorem dX12_draws_105 : decode cX12_draws 105 = .ok (.iaload, 1) := qd_o46 79 26 qd_g437 rfl
theorem dX12_draws_106 : decode cX12_draws 106 = .ok (.iload 6, 2) := qd_o21 79 27 qd_g437 rfl rfl
theorem dX12_draws_108 : decode cX12_draws 108 = .ok (.invokestatic 131, 3) := qd_o184 79 29 qd_g437 rfl rfl
theorem dX12_draws_111 : decode cX12_draws 111 = .ok (.ifCond .ne 7, 3) := qd_o154 79 32 qd_g437 rfl rfl
theorem dX12_draws_114 : decode cX12_draws 114 = .ok (.iconst 1, 1) := qd_o4 79 35 qd_g437 rfl
theorem dX12_draws_115 : decode cX12_draws 115 = .ok (.goto 4, 3) := qd_o167 79 36 qd_g437 rfl rfl
theorem dX12_draws_118 : decode cX12_draws 118 = .ok (.iconst 0, 1) := qd_o3 79 39 qd_g437 rfl
theorem qd_g438 : qd_bs cX12_draws 119 [54, 7, 42, 180, 0, 22, 16, 32, 28, 104, 27, 96, 21, 7, 153, 0, 19, 42, 180, 0, 19, 16, 28, 46, 21, 6, 96, 16, 16, 112, 167, 0, 11, 42, 180, 0, 19, 6, 29, 96] = true := by decide +kernel
theorem dX12_draws_119 : decode cX12_draws 119 = .ok (.istore 7, 2) := qd_o54 119 0 qd_g438 rfl rfl
theorem dX12_draws_121 : decode cX12_draws 121 = .ok (.aload_n 0, 1) := qd_o42 119 2 qd_g438 rfl
theorem dX12_draws_122 : decode cX12_draws 122 = .ok (.getfield 22, 3) := qd_o180 119 3 qd_g438 rfl rfl
theorem dX12_draws_125 : decode cX12_draws 125 = .ok (.bipush 32, 2) := qd_o16 119 6 qd_g438 rfl rfl
theorem dX12_draws_127 : decode cX12_draws 127 = .ok (.iload_n 2, 1) := qd_o28 119 8 qd_g438 rfl
theorem dX12_draws_128 : decode cX12_draws 128 = .ok (.imul, 1) := qd_o104 119 9 qd_g438 rfl
theorem dX12_draws_129 : decode cX12_draws 129 = .ok (.iload_n 1, 1) := qd_o27 119 10 qd_g438 rfl
theorem dX12_draws_130 : decode cX12_draws 130 = .ok (.iadd, 1) := qd_o96 119 11 qd_g438 rfl
theorem dX12_draws_131 : decode cX12_draws 131 = .ok (.iload 7, 2) := qd_o21 119 12 qd_g438 rfl rfl
theorem dX12_draws_133 : decode cX12_draws 133 = .ok (.ifCond .eq 19, 3) := qd_o153 119 14 qd_g438 rfl rfl
theorem dX12_draws_136 : decode cX12_draws 136 = .ok (.aload_n 0, 1) := qd_o42 119 17 qd_g438 rfl
theorem dX12_draws_137 : decode cX12_draws 137 = .ok (.getfield 19, 3) := qd_o180 119 18 qd_g438 rfl rfl
theorem dX12_draws_140 : decode cX12_draws 140 = .ok (.bipush 28, 2) := qd_o16 119 21 qd_g438 rfl rfl
theorem dX12_draws_142 : decode cX12_draws 142 = .ok (.iaload, 1) := qd_o46 119 23 qd_g438 rfl
theorem dX12_draws_143 : decode cX12_draws 143 = .ok (.iload 6, 2) := qd_o21 119 24 qd_g438 rfl rfl
theorem dX12_draws_145 : decode cX12_draws 145 = .ok (.iadd, 1) := qd_o96 119 26 qd_g438 rfl
theorem dX12_draws_146 : decode cX12_draws 146 = .ok (.bipush 16, 2) := qd_o16 119 27 qd_g438 rfl rfl
theorem dX12_draws_148 : decode cX12_draws 148 = .ok (.irem, 1) := qd_o112 119 29 qd_g438 rfl
theorem dX12_draws_149 : decode cX12_draws 149 = .ok (.goto 11, 3) := qd_o167 119 30 qd_g438 rfl rfl
theorem dX12_draws_152 : decode cX12_draws 152 = .ok (.aload_n 0, 1) := qd_o42 119 33 qd_g438 rfl
theorem dX12_draws_153 : decode cX12_draws 153 = .ok (.getfield 19, 3) := qd_o180 119 34 qd_g438 rfl rfl
theorem dX12_draws_156 : decode cX12_draws 156 = .ok (.iconst 3, 1) := qd_o6 119 37 qd_g438 rfl
theorem dX12_draws_157 : decode cX12_draws 157 = .ok (.iload_n 3, 1) := qd_o29 119 38 qd_g438 rfl
theorem dX12_draws_158 : decode cX12_draws 158 = .ok (.iadd, 1) := qd_o96 119 39 qd_g438 rfl
theorem qd_g439 : qd_bs cX12_draws 159 [46, 79, 21, 5, 21, 5, 4, 100, 126, 153, 0, 15, 42, 180, 0, 50, 16, 10, 92, 46, 21, 5, 128, 79, 21, 4, 153, 0, 15, 42, 180, 0, 50, 16, 11, 92, 46, 21, 5, 128] = true := by decide +kernel
theorem dX12_draws_159 : decode cX12_draws 159 = .ok (.iaload, 1) := qd_o46 159 0 qd_g439 rfl
theorem dX12_draws_160 : decode cX12_draws 160 = .ok (.iastore, 1) := qd_o79 159 1 qd_g439 rfl
theorem dX12_draws_161 : decode cX12_draws 161 = .ok (.iload 5, 2) := qd_o21 159 2 qd_g439 rfl rfl
theorem dX12_draws_163 : decode cX12_draws 163 = .ok (.iload 5, 2) := qd_o21 159 4 qd_g439 rfl rfl
theorem dX12_draws_165 : decode cX12_draws 165 = .ok (.iconst 1, 1) := qd_o4 159 6 qd_g439 rfl
theorem dX12_draws_166 : decode cX12_draws 166 = .ok (.isub, 1) := qd_o100 159 7 qd_g439 rfl
theorem dX12_draws_167 : decode cX12_draws 167 = .ok (.iand, 1) := qd_o126 159 8 qd_g439 rfl
theorem dX12_draws_168 : decode cX12_draws 168 = .ok (.ifCond .eq 15, 3) := qd_o153 159 9 qd_g439 rfl rfl
theorem dX12_draws_171 : decode cX12_draws 171 = .ok (.aload_n 0, 1) := qd_o42 159 12 qd_g439 rfl
theorem dX12_draws_172 : decode cX12_draws 172 = .ok (.getfield 50, 3) := qd_o180 159 13 qd_g439 rfl rfl
theorem dX12_draws_175 : decode cX12_draws 175 = .ok (.bipush 10, 2) := qd_o16 159 16 qd_g439 rfl rfl
theorem dX12_draws_177 : decode cX12_draws 177 = .ok (.dup2, 1) := qd_o92 159 18 qd_g439 rfl
theorem dX12_draws_178 : decode cX12_draws 178 = .ok (.iaload, 1) := qd_o46 159 19 qd_g439 rfl
theorem dX12_draws_179 : decode cX12_draws 179 = .ok (.iload 5, 2) := qd_o21 159 20 qd_g439 rfl rfl
theorem dX12_draws_181 : decode cX12_draws 181 = .ok (.ior, 1) := qd_o128 159 22 qd_g439 rfl
theorem dX12_draws_182 : decode cX12_draws 182 = .ok (.iastore, 1) := qd_o79 159 23 qd_g439 rfl
theorem dX12_draws_183 : decode cX12_draws 183 = .ok (.iload 4, 2) := qd_o21 159 24 qd_g439 rfl rfl
theorem dX12_draws_185 : decode cX12_draws 185 = .ok (.ifCond .eq 15, 3) := qd_o153 159 26 qd_g439 rfl rfl
theorem dX12_draws_188 : decode cX12_draws 188 = .ok (.aload_n 0, 1) := qd_o42 159 29 qd_g439 rfl
theorem dX12_draws_189 : decode cX12_draws 189 = .ok (.getfield 50, 3) := qd_o180 159 30 qd_g439 rfl rfl
theorem dX12_draws_192 : decode cX12_draws 192 = .ok (.bipush 11, 2) := qd_o16 159 33 qd_g439 rfl rfl
theorem dX12_draws_194 : decode cX12_draws 194 = .ok (.dup2, 1) := qd_o92 159 35 qd_g439 rfl
theorem dX12_draws_195 : decode cX12_draws 195 = .ok (.iaload, 1) := qd_o46 159 36 qd_g439 rfl
theorem dX12_draws_196 : decode cX12_draws 196 = .ok (.iload 5, 2) := qd_o21 159 37 qd_g439 rfl rfl
theorem dX12_draws_198 : decode cX12_draws 198 = .ok (.ior, 1) := qd_o128 159 39 qd_g439 rfl
theorem qd_g440 : qd_bs cX12_draws 199 [79, 177] = true := by decide +kernel
theorem dX12_draws_199 : decode cX12_draws 199 = .ok (.iastore, 1) := qd_o79 199 0 qd_g440 rfl
theorem dX12_draws_200 : decode cX12_draws 200 = .ok (.return_, 1) := qd_o177 199 1 qd_g440 rfl
theorem qd_g441 : qd_bs cX12_counts 0 [42, 180, 0, 50, 8, 27, 96, 46, 158, 0, 17, 42, 180, 0, 50, 8, 27, 96, 92, 46, 4, 100, 79, 3, 172, 42, 180, 0, 50, 8, 27, 96, 42, 180, 0, 50, 16, 7, 27, 96] = true := by decide +kernel
theorem dX12_counts_0 : decode cX12_counts 0 = .ok (.aload_n 0, 1) := qd_o42 0 0 qd_g441 rfl
theorem dX12_counts_1 : decode cX12_counts 1 = .ok (.getfield 50, 3) := qd_o180 0 1 qd_g441 rfl rfl
theorem dX12_counts_4 : decode cX12_counts 4 = .ok (.iconst 5, 1) := qd_o8 0 4 qd_g441 rfl
theorem dX12_counts_5 : decode cX12_counts 5 = .ok (.iload_n 1, 1) := qd_o27 0 5 qd_g441 rfl
theorem dX12_counts_6 : decode cX12_counts 6 = .ok (.iadd, 1) := qd_o96 0 6 qd_g441 rfl
theorem dX12_counts_7 : decode cX12_counts 7 = .ok (.iaload, 1) := qd_o46 0 7 qd_g441 rfl
theorem dX12_counts_8 : decode cX12_counts 8 = .ok (.ifCond .le 17, 3) := qd_o158 0 8 qd_g441 rfl rfl
theorem dX12_counts_11 : decode cX12_counts 11 = .ok (.aload_n 0, 1) := qd_o42 0 11 qd_g441 rfl
theorem dX12_counts_12 : decode cX12_counts 12 = .ok (.getfield 50, 3) := qd_o180 0 12 qd_g441 rfl rfl
theorem dX12_counts_15 : decode cX12_counts 15 = .ok (.iconst 5, 1) := qd_o8 0 15 qd_g441 rfl
theorem dX12_counts_16 : decode cX12_counts 16 = .ok (.iload_n 1, 1) := qd_o27 0 16 qd_g441 rfl
theorem dX12_counts_17 : decode cX12_counts 17 = .ok (.iadd, 1) := qd_o96 0 17 qd_g441 rfl
theorem dX12_counts_18 : decode cX12_counts 18 = .ok (.dup2, 1) := qd_o92 0 18 qd_g441 rfl
theorem dX12_counts_19 : decode cX12_counts 19 = .ok (.iaload, 1) := qd_o46 0 19 qd_g441 rfl
theorem dX12_counts_20 : decode cX12_counts 20 = .ok (.iconst 1, 1) := qd_o4 0 20 qd_g441 rfl
theorem dX12_counts_21 : decode cX12_counts 21 = .ok (.isub, 1) := qd_o100 0 21 qd_g441 rfl
theorem dX12_counts_22 : decode cX12_counts 22 = .ok (.iastore, 1) := qd_o79 0 22 qd_g441 rfl
theorem dX12_counts_23 : decode cX12_counts 23 = .ok (.iconst 0, 1) := qd_o3 0 23 qd_g441 rfl
theorem dX12_counts_24 : decode cX12_counts 24 = .ok (.ireturn, 1) := qd_o172 0 24 qd_g441 rfl
theorem dX12_counts_25 : decode cX12_counts 25 = .ok (.aload_n 0, 1) := qd_o42 0 25 qd_g441 rfl
theorem dX12_counts_26 : decode cX12_counts 26 = .ok (.getfield 50, 3) := qd_o180 0 26 qd_g441 rfl rfl
theorem dX12_counts_29 : decode cX12_counts 29 = .ok (.iconst 5, 1) := qd_o8 0 29 qd_g441 rfl
theorem dX12_counts_30 : decode cX12_counts 30 = .ok (.iload_n 1, 1) := qd_o27 0 30 qd_g441 rfl
theorem dX12_counts_31 : decode cX12_counts 31 = .ok (.iadd, 1) := qd_o96 0 31 qd_g441 rfl
theorem dX12_counts_32 : decode cX12_counts 32 = .ok (.aload_n 0, 1) := qd_o42 0 32 qd_g441 rfl
theorem dX12_counts_33 : decode cX12_counts 33 = .ok (.getfield 50, 3) := qd_o180 0 33 qd_g441 rfl rfl
theorem dX12_counts_36 : decode cX12_counts 36 = .ok (.bipush 7, 2) := qd_o16 0 36 qd_g441 rfl rfl
theorem dX12_counts_38 : decode cX12_counts 38 = .ok (.iload_n 1, 1) := qd_o27 0 38 qd_g441 rfl
theorem dX12_counts_39 : decode cX12_counts 39 = .ok (.iadd, 1) := qd_o96 0 39 qd_g441 rfl
theorem qd_g442 : qd_bs cX12_counts 40 [46, 79, 42, 180, 0, 50, 16, 9, 92, 46, 5, 27, 120, 128, 79, 4, 172] = true := by decide +kernel
theorem dX12_counts_40 : decode cX12_counts 40 = .ok (.iaload, 1) := qd_o46 40 0 qd_g442 rfl
theorem dX12_counts_41 : decode cX12_counts 41 = .ok (.iastore, 1) := qd_o79 40 1 qd_g442 rfl
theorem dX12_counts_42 : decode cX12_counts 42 = .ok (.aload_n 0, 1) := qd_o42 40 2 qd_g442 rfl
theorem dX12_counts_43 : decode cX12_counts 43 = .ok (.getfield 50, 3) := qd_o180 40 3 qd_g442 rfl rfl
theorem dX12_counts_46 : decode cX12_counts 46 = .ok (.bipush 9, 2) := qd_o16 40 6 qd_g442 rfl rfl
theorem dX12_counts_48 : decode cX12_counts 48 = .ok (.dup2, 1) := qd_o92 40 8 qd_g442 rfl
theorem dX12_counts_49 : decode cX12_counts 49 = .ok (.iaload, 1) := qd_o46 40 9 qd_g442 rfl
theorem dX12_counts_50 : decode cX12_counts 50 = .ok (.iconst 2, 1) := qd_o5 40 10 qd_g442 rfl
theorem dX12_counts_51 : decode cX12_counts 51 = .ok (.iload_n 1, 1) := qd_o27 40 11 qd_g442 rfl
theorem dX12_counts_52 : decode cX12_counts 52 = .ok (.ishl, 1) := qd_o120 40 12 qd_g442 rfl
theorem dX12_counts_53 : decode cX12_counts 53 = .ok (.ior, 1) := qd_o128 40 13 qd_g442 rfl
theorem dX12_counts_54 : decode cX12_counts 54 = .ok (.iastore, 1) := qd_o79 40 14 qd_g442 rfl
theorem dX12_counts_55 : decode cX12_counts 55 = .ok (.iconst 1, 1) := qd_o4 40 15 qd_g442 rfl
theorem dX12_counts_56 : decode cX12_counts 56 = .ok (.ireturn, 1) := qd_o172 40 16 qd_g442 rfl
theorem qd_g443 : qd_bs cX12_times 0 [42, 42, 180, 0, 19, 16, 16, 46, 3, 184, 0, 131, 153, 0, 15, 42, 3, 182, 0, 195, 153, 0, 7, 4, 167, 0, 4, 3, 181, 0, 198, 42, 180, 0, 19, 16, 16, 46, 4] = true := by decide +kernel
theorem dX12_times_0 : decode cX12_times 0 = .ok (.aload_n 0, 1) := qd_o42 0 0 qd_g443 rfl
theorem dX12_times_1 : decode cX12_times 1 = .ok (.aload_n 0, 1) := qd_o42 0 1 qd_g443 rfl
theorem dX12_times_2 : decode cX12_times 2 = .ok (.getfield 19, 3) := qd_o180 0 2 qd_g443 rfl rfl
theorem dX12_times_5 : decode cX12_times 5 = .ok (.bipush 16, 2) := qd_o16 0 5 qd_g443 rfl rfl
theorem dX12_times_7 : decode cX12_times 7 = .ok (.iaload, 1) := qd_o46 0 7 qd_g443 rfl
theorem dX12_times_8 : decode cX12_times 8 = .ok (.iconst 0, 1) := qd_o3 0 8 qd_g443 rfl
theorem dX12_times_9 : decode cX12_times 9 = .ok (.invokestatic 131, 3) := qd_o184 0 9 qd_g443 rfl rfl
theorem dX12_times_12 : decode cX12_times 12 = .ok (.ifCond .eq 15, 3) := qd_o153 0 12 qd_g443 rfl rfl
theorem dX12_times_15 : decode cX12_times 15 = .ok (.aload_n 0, 1) := qd_o42 0 15 qd_g443 rfl
theorem dX12_times_16 : decode cX12_times 16 = .ok (.iconst 0, 1) := qd_o3 0 16 qd_g443 rfl
theorem dX12_times_17 : decode cX12_times 17 = .ok (.invokevirtual 195, 3) := qd_o182 0 17 qd_g443 rfl rfl
theorem dX12_times_20 : decode cX12_times 20 = .ok (.ifCond .eq 7, 3) := qd_o153 0 20 qd_g443 rfl rfl
theorem dX12_times_23 : decode cX12_times 23 = .ok (.iconst 1, 1) := qd_o4 0 23 qd_g443 rfl
theorem dX12_times_24 : decode cX12_times 24 = .ok (.goto 4, 3) := qd_o167 0 24 qd_g443 rfl rfl
theorem dX12_times_27 : decode cX12_times 27 = .ok (.iconst 0, 1) := qd_o3 0 27 qd_g443 rfl
theorem dX12_times_28 : decode cX12_times 28 = .ok (.putfield 198, 3) := qd_o181 0 28 qd_g443 rfl rfl
theorem dX12_times_31 : decode cX12_times 31 = .ok (.aload_n 0, 1) := qd_o42 0 31 qd_g443 rfl
theorem dX12_times_32 : decode cX12_times 32 = .ok (.getfield 19, 3) := qd_o180 0 32 qd_g443 rfl rfl
theorem dX12_times_35 : decode cX12_times 35 = .ok (.bipush 16, 2) := qd_o16 0 35 qd_g443 rfl rfl
theorem dX12_times_37 : decode cX12_times 37 = .ok (.iaload, 1) := qd_o46 0 37 qd_g443 rfl
theorem dX12_times_38 : decode cX12_times 38 = .ok (.iconst 1, 1) := qd_o4 0 38 qd_g443 rfl
theorem qd_g444 : qd_bs cX12_times 39 [184, 0, 131, 153, 0, 30, 42, 180, 0, 198, 154, 0, 17, 42, 180, 0, 19, 16, 16, 46, 5, 184, 0, 131, 154, 0, 9, 42, 4, 182, 0, 195, 87, 177] = true := by decide +kernel
theorem dX12_times_39 : decode cX12_times 39 = .ok (.invokestatic 131, 3) := qd_o184 39 0 qd_g444 rfl rfl
theorem dX12_times_42 : decode cX12_times 42 = .ok (.ifCond .eq 30, 3) := qd_o153 39 3 qd_g444 rfl rfl
theorem dX12_times_45 : decode cX12_times 45 = .ok (.aload_n 0, 1) := qd_o42 39 6 qd_g444 rfl
theorem dX12_times_46 : decode cX12_times 46 = .ok (.getfield 198, 3) := qd_o180 39 7 qd_g444 rfl rfl
theorem dX12_times_49 : decode cX12_times 49 = .ok (.ifCond .ne 17, 3) := qd_o154 39 10 qd_g444 rfl rfl
theorem dX12_times_52 : decode cX12_times 52 = .ok (.aload_n 0, 1) := qd_o42 39 13 qd_g444 rfl
theorem dX12_times_53 : decode cX12_times 53 = .ok (.getfield 19, 3) := qd_o180 39 14 qd_g444 rfl rfl
theorem dX12_times_56 : decode cX12_times 56 = .ok (.bipush 16, 2) := qd_o16 39 17 qd_g444 rfl rfl
theorem dX12_times_58 : decode cX12_times 58 = .ok (.iaload, 1) := qd_o46 39 19 qd_g444 rfl
theorem dX12_times_59 : decode cX12_times 59 = .ok (.iconst 2, 1) := qd_o5 39 20 qd_g444 rfl
theorem dX12_times_60 : decode cX12_times 60 = .ok (.invokestatic 131, 3) := qd_o184 39 21 qd_g444 rfl rfl
theorem dX12_times_63 : decode cX12_times 63 = .ok (.ifCond .ne 9, 3) := qd_o154 39 24 qd_g444 rfl rfl
theorem dX12_times_66 : decode cX12_times 66 = .ok (.aload_n 0, 1) := qd_o42 39 27 qd_g444 rfl
theorem dX12_times_67 : decode cX12_times 67 = .ok (.iconst 1, 1) := qd_o4 39 28 qd_g444 rfl
theorem dX12_times_68 : decode cX12_times 68 = .ok (.invokevirtual 195, 3) := qd_o182 39 29 qd_g444 rfl rfl
theorem dX12_times_71 : decode cX12_times 71 = .ok (.pop, 1) := qd_o87 39 32 qd_g444 rfl
theorem dX12_times_72 : decode cX12_times 72 = .ok (.return_, 1) := qd_o177 39 33 qd_g444 rfl
theorem qd_g445 : qd_bs cX12_winds 0 [42, 180, 0, 19, 16, 44, 46, 153, 0, 10, 42, 182, 0, 143, 154, 0, 4, 177, 42, 180, 0, 50, 16, 15, 92, 46, 4, 100, 79, 42, 180, 0, 50, 16, 15, 46, 158, 0, 4, 177] = true := by decide +kernel
theorem dX12_winds_0 : decode cX12_winds 0 = .ok (.aload_n 0, 1) := qd_o42 0 0 qd_g445 rfl
theorem dX12_winds_1 : decode cX12_winds 1 = .ok (.getfield 19, 3) := qd_o180 0 1 qd_g445 rfl rfl
theorem dX12_winds_4 : decode cX12_winds 4 = .ok (.bipush 44, 2) := qd_o16 0 4 qd_g445 rfl rfl
theorem dX12_winds_6 : decode cX12_winds 6 = .ok (.iaload, 1) := qd_o46 0 6 qd_g445 rfl
theorem dX12_winds_7 : decode cX12_winds 7 = .ok (.ifCond .eq 10, 3) := qd_o153 0 7 qd_g445 rfl rfl
theorem dX12_winds_10 : decode cX12_winds 10 = .ok (.aload_n 0, 1) := qd_o42 0 10 qd_g445 rfl
theorem dX12_winds_11 : decode cX12_winds 11 = .ok (.invokevirtual 143, 3) := qd_o182 0 11 qd_g445 rfl rfl
theorem dX12_winds_14 : decode cX12_winds 14 = .ok (.ifCond .ne 4, 3) := qd_o154 0 14 qd_g445 rfl rfl
theorem dX12_winds_17 : decode cX12_winds 17 = .ok (.return_, 1) := qd_o177 0 17 qd_g445 rfl
theorem dX12_winds_18 : decode cX12_winds 18 = .ok (.aload_n 0, 1) := qd_o42 0 18 qd_g445 rfl
theorem dX12_winds_19 : decode cX12_winds 19 = .ok (.getfield 50, 3) := qd_o180 0 19 qd_g445 rfl rfl
theorem dX12_winds_22 : decode cX12_winds 22 = .ok (.bipush 15, 2) := qd_o16 0 22 qd_g445 rfl rfl
theorem dX12_winds_24 : decode cX12_winds 24 = .ok (.dup2, 1) := qd_o92 0 24 qd_g445 rfl
theorem dX12_winds_25 : decode cX12_winds 25 = .ok (.iaload, 1) := qd_o46 0 25 qd_g445 rfl
theorem dX12_winds_26 : decode cX12_winds 26 = .ok (.iconst 1, 1) := qd_o4 0 26 qd_g445 rfl
theorem dX12_winds_27 : decode cX12_winds 27 = .ok (.isub, 1) := qd_o100 0 27 qd_g445 rfl
theorem dX12_winds_28 : decode cX12_winds 28 = .ok (.iastore, 1) := qd_o79 0 28 qd_g445 rfl
theorem dX12_winds_29 : decode cX12_winds 29 = .ok (.aload_n 0, 1) := qd_o42 0 29 qd_g445 rfl
theorem dX12_winds_30 : decode cX12_winds 30 = .ok (.getfield 50, 3) := qd_o180 0 30 qd_g445 rfl rfl
theorem dX12_winds_33 : decode cX12_winds 33 = .ok (.bipush 15, 2) := qd_o16 0 33 qd_g445 rfl rfl
theorem dX12_winds_35 : decode cX12_winds 35 = .ok (.iaload, 1) := qd_o46 0 35 qd_g445 rfl
theorem dX12_winds_36 : decode cX12_winds 36 = .ok (.ifCond .le 4, 3) := qd_o158 0 36 qd_g445 rfl rfl
theorem dX12_winds_39 : decode cX12_winds 39 = .ok (.return_, 1) := qd_o177 0 39 qd_g445 rfl
theorem qd_g446 : qd_bs cX12_winds 40 [42, 180, 0, 50, 16, 14, 92, 46, 4, 96, 79, 42, 180, 0, 50, 16, 16, 4, 42, 180, 0, 50, 16, 16, 46, 100, 79, 42, 180, 0, 50, 16, 9, 92, 46, 16, 8, 128, 79, 42] = true := by decide +kernel
theorem dX12_winds_40 : decode cX12_winds 40 = .ok (.aload_n 0, 1) := qd_o42 40 0 qd_g446 rfl
theorem dX12_winds_41 : decode cX12_winds 41 = .ok (.getfield 50, 3) := qd_o180 40 1 qd_g446 rfl rfl
theorem dX12_winds_44 : decode cX12_winds 44 = .ok (.bipush 14, 2) := qd_o16 40 4 qd_g446 rfl rfl
theorem dX12_winds_46 : decode cX12_winds 46 = .ok (.dup2, 1) := qd_o92 40 6 qd_g446 rfl
theorem dX12_winds_47 : decode cX12_winds 47 = .ok (.iaload, 1) := qd_o46 40 7 qd_g446 rfl
theorem dX12_winds_48 : decode cX12_winds 48 = .ok (.iconst 1, 1) := qd_o4 40 8 qd_g446 rfl
theorem dX12_winds_49 : decode cX12_winds 49 = .ok (.iadd, 1) := qd_o96 40 9 qd_g446 rfl
theorem dX12_winds_50 : decode cX12_winds 50 = .ok (.iastore, 1) := qd_o79 40 10 qd_g446 rfl
theorem dX12_winds_51 : decode cX12_winds 51 = .ok (.aload_n 0, 1) := qd_o42 40 11 qd_g446 rfl
theorem dX12_winds_52 : decode cX12_winds 52 = .ok (.getfield 50, 3) := qd_o180 40 12 qd_g446 rfl rfl
theorem dX12_winds_55 : decode cX12_winds 55 = .ok (.bipush 16, 2) := qd_o16 40 15 qd_g446 rfl rfl
theorem dX12_winds_57 : decode cX12_winds 57 = .ok (.iconst 1, 1) := qd_o4 40 17 qd_g446 rfl
theorem dX12_winds_58 : decode cX12_winds 58 = .ok (.aload_n 0, 1) := qd_o42 40 18 qd_g446 rfl
theorem dX12_winds_59 : decode cX12_winds 59 = .ok (.getfield 50, 3) := qd_o180 40 19 qd_g446 rfl rfl
theorem dX12_winds_62 : decode cX12_winds 62 = .ok (.bipush 16, 2) := qd_o16 40 22 qd_g446 rfl rfl
theorem dX12_winds_64 : decode cX12_winds 64 = .ok (.iaload, 1) := qd_o46 40 24 qd_g446 rfl
theorem dX12_winds_65 : decode cX12_winds 65 = .ok (.isub, 1) := qd_o100 40 25 qd_g446 rfl
theorem dX12_winds_66 : decode cX12_winds 66 = .ok (.iastore, 1) := qd_o79 40 26 qd_g446 rfl
theorem dX12_winds_67 : decode cX12_winds 67 = .ok (.aload_n 0, 1) := qd_o42 40 27 qd_g446 rfl
theorem dX12_winds_68 : decode cX12_winds 68 = .ok (.getfield 50, 3) := qd_o180 40 28 qd_g446 rfl rfl
theorem dX12_winds_71 : decode cX12_winds 71 = .ok (.bipush 9, 2) := qd_o16 40 31 qd_g446 rfl rfl
theorem dX12_winds_73 : decode cX12_winds 73 = .ok (.dup2, 1) := qd_o92 40 33 qd_g446 rfl
theorem dX12_winds_74 : decode cX12_winds 74 = .ok (.iaload, 1) := qd_o46 40 34 qd_g446 rfl
theorem dX12_winds_75 : decode cX12_winds 75 = .ok (.bipush 8, 2) := qd_o16 40 35 qd_g446 rfl rfl
theorem dX12_winds_77 : decode cX12_winds 77 = .ok (.ior, 1) := qd_o128 40 37 qd_g446 rfl
theorem dX12_winds_78 : decode cX12_winds 78 = .ok (.iastore, 1) := qd_o79 40 38 qd_g446 rfl
theorem dX12_winds_79 : decode cX12_winds 79 = .ok (.aload_n 0, 1) := qd_o42 40 39 qd_g446 rfl
theorem qd_g447 : qd_bs cX12_winds 80 [180, 0, 50, 16, 15, 42, 182, 0, 143, 153, 0, 18, 42, 180, 0, 32, 42, 180, 0, 50, 16, 14, 46, 46, 167, 0, 4, 3, 79, 177] = true := by decide +kernel
theorem dX12_winds_80 : decode cX12_winds 80 = .ok (.getfield 50, 3) := qd_o180 80 0 qd_g447 rfl rfl
theorem dX12_winds_83 : decode cX12_winds 83 = .ok (.bipush 15, 2) := qd_o16 80 3 qd_g447 rfl rfl
theorem dX12_winds_85 : decode cX12_winds 85 = .ok (.aload_n 0, 1) := qd_o42 80 5 qd_g447 rfl
theorem dX12_winds_86 : decode cX12_winds 86 = .ok (.invokevirtual 143, 3) := qd_o182 80 6 qd_g447 rfl rfl
theorem dX12_winds_89 : decode cX12_winds 89 = .ok (.ifCond .eq 18, 3) := qd_o153 80 9 qd_g447 rfl rfl
theorem dX12_winds_92 : decode cX12_winds 92 = .ok (.aload_n 0, 1) := qd_o42 80 12 qd_g447 rfl
theorem dX12_winds_93 : decode cX12_winds 93 = .ok (.getfield 32, 3) := qd_o180 80 13 qd_g447 rfl rfl
theorem dX12_winds_96 : decode cX12_winds 96 = .ok (.aload_n 0, 1) := qd_o42 80 16 qd_g447 rfl
theorem dX12_winds_97 : decode cX12_winds 97 = .ok (.getfield 50, 3) := qd_o180 80 17 qd_g447 rfl rfl
theorem dX12_winds_100 : decode cX12_winds 100 = .ok (.bipush 14, 2) := qd_o16 80 20 qd_g447 rfl rfl
theorem dX12_winds_102 : decode cX12_winds 102 = .ok (.iaload, 1) := qd_o46 80 22 qd_g447 rfl
theorem dX12_winds_103 : decode cX12_winds 103 = .ok (.iaload, 1) := qd_o46 80 23 qd_g447 rfl
theorem dX12_winds_104 : decode cX12_winds 104 = .ok (.goto 4, 3) := qd_o167 80 24 qd_g447 rfl rfl
theorem dX12_winds_107 : decode cX12_winds 107 = .ok (.iconst 0, 1) := qd_o3 80 27 qd_g447 rfl
theorem dX12_winds_108 : decode cX12_winds 108 = .ok (.iastore, 1) := qd_o79 80 28 qd_g447 rfl
theorem dX12_winds_109 : decode cX12_winds 109 = .ok (.return_, 1) := qd_o177 80 29 qd_g447 rfl
theorem qd_g448 : qd_bs cX12_sounds 0 [16, 32, 7, 27, 104, 96, 61, 42, 180, 0, 38, 27, 46, 42, 180, 0, 19, 28, 46, 96, 17, 1, 0, 42, 180, 0, 19, 28, 4, 96, 46, 104, 96, 62, 42, 180, 0, 38, 27, 29] = true := by decide +kernel
theorem dX12_sounds_0 : decode cX12_sounds 0 = .ok (.bipush 32, 2) := qd_o16 0 0 qd_g448 rfl rfl
theorem dX12_sounds_2 : decode cX12_sounds 2 = .ok (.iconst 4, 1) := qd_o7 0 2 qd_g448 rfl
theorem dX12_sounds_3 : decode cX12_sounds 3 = .ok (.iload_n 1, 1) := qd_o27 0 3 qd_g448 rfl
theorem dX12_sounds_4 : decode cX12_sounds 4 = .ok (.imul, 1) := qd_o104 0 4 qd_g448 rfl
theorem dX12_sounds_5 : decode cX12_sounds 5 = .ok (.iadd, 1) := qd_o96 0 5 qd_g448 rfl
theorem dX12_sounds_6 : decode cX12_sounds 6 = .ok (.istore_n 2, 1) := qd_o61 0 6 qd_g448 rfl
theorem dX12_sounds_7 : decode cX12_sounds 7 = .ok (.aload_n 0, 1) := qd_o42 0 7 qd_g448 rfl
theorem dX12_sounds_8 : decode cX12_sounds 8 = .ok (.getfield 38, 3) := qd_o180 0 8 qd_g448 rfl rfl
theorem dX12_sounds_11 : decode cX12_sounds 11 = .ok (.iload_n 1, 1) := qd_o27 0 11 qd_g448 rfl
theorem dX12_sounds_12 : decode cX12_sounds 12 = .ok (.iaload, 1) := qd_o46 0 12 qd_g448 rfl
theorem dX12_sounds_13 : decode cX12_sounds 13 = .ok (.aload_n 0, 1) := qd_o42 0 13 qd_g448 rfl
theorem dX12_sounds_14 : decode cX12_sounds 14 = .ok (.getfield 19, 3) := qd_o180 0 14 qd_g448 rfl rfl
theorem dX12_sounds_17 : decode cX12_sounds 17 = .ok (.iload_n 2, 1) := qd_o28 0 17 qd_g448 rfl
theorem dX12_sounds_18 : decode cX12_sounds 18 = .ok (.iaload, 1) := qd_o46 0 18 qd_g448 rfl
theorem dX12_sounds_19 : decode cX12_sounds 19 = .ok (.iadd, 1) := qd_o96 0 19 qd_g448 rfl
theorem dX12_sounds_20 : decode cX12_sounds 20 = .ok (.sipush 256, 3) := qd_o17 0 20 qd_g448 rfl rfl
theorem dX12_sounds_23 : decode cX12_sounds 23 = .ok (.aload_n 0, 1) := qd_o42 0 23 qd_g448 rfl
theorem dX12_sounds_24 : decode cX12_sounds 24 = .ok (.getfield 19, 3) := qd_o180 0 24 qd_g448 rfl rfl
theorem dX12_sounds_27 : decode cX12_sounds 27 = .ok (.iload_n 2, 1) := qd_o28 0 27 qd_g448 rfl
theorem dX12_sounds_28 : decode cX12_sounds 28 = .ok (.iconst 1, 1) := qd_o4 0 28 qd_g448 rfl
theorem dX12_sounds_29 : decode cX12_sounds 29 = .ok (.iadd, 1) := qd_o96 0 29 qd_g448 rfl
theorem dX12_sounds_30 : decode cX12_sounds 30 = .ok (.iaload, 1) := qd_o46 0 30 qd_g448 rfl
theorem dX12_sounds_31 : decode cX12_sounds 31 = .ok (.imul, 1) := qd_o104 0 31 qd_g448 rfl
theorem dX12_sounds_32 : decode cX12_sounds 32 = .ok (.iadd, 1) := qd_o96 0 32 qd_g448 rfl
theorem dX12_sounds_33 : decode cX12_sounds 33 = .ok (.istore_n 3, 1) := qd_o62 0 33 qd_g448 rfl
theorem dX12_sounds_34 : decode cX12_sounds 34 = .ok (.aload_n 0, 1) := qd_o42 0 34 qd_g448 rfl
theorem dX12_sounds_35 : decode cX12_sounds 35 = .ok (.getfield 38, 3) := qd_o180 0 35 qd_g448 rfl rfl
theorem dX12_sounds_38 : decode cX12_sounds 38 = .ok (.iload_n 1, 1) := qd_o27 0 38 qd_g448 rfl
theorem dX12_sounds_39 : decode cX12_sounds 39 = .ok (.iload_n 3, 1) := qd_o29 0 39 qd_g448 rfl
theorem qd_g449 : qd_bs cX12_sounds 40 [18, 202, 112, 79, 29, 18, 203, 164, 0, 46, 42, 180, 0, 47, 27, 42, 180, 0, 47, 27, 46, 5, 108, 42, 180, 0, 47, 27, 46, 5, 112, 42, 180, 0, 47, 27, 46, 5, 108, 5] = true := by decide +kernel
theorem dX12_sounds_40 : decode cX12_sounds 40 = .ok (.ldc 202, 2) := qd_o18 40 0 qd_g449 rfl rfl
theorem dX12_sounds_42 : decode cX12_sounds 42 = .ok (.irem, 1) := qd_o112 40 2 qd_g449 rfl
theorem dX12_sounds_43 : decode cX12_sounds 43 = .ok (.iastore, 1) := qd_o79 40 3 qd_g449 rfl
theorem dX12_sounds_44 : decode cX12_sounds 44 = .ok (.iload_n 3, 1) := qd_o29 40 4 qd_g449 rfl
theorem dX12_sounds_45 : decode cX12_sounds 45 = .ok (.ldc 203, 2) := qd_o18 40 5 qd_g449 rfl rfl
theorem dX12_sounds_47 : decode cX12_sounds 47 = .ok (.if_icmp .le 46, 3) := qd_o164 40 7 qd_g449 rfl rfl
theorem dX12_sounds_50 : decode cX12_sounds 50 = .ok (.aload_n 0, 1) := qd_o42 40 10 qd_g449 rfl
theorem dX12_sounds_51 : decode cX12_sounds 51 = .ok (.getfield 47, 3) := qd_o180 40 11 qd_g449 rfl rfl
theorem dX12_sounds_54 : decode cX12_sounds 54 = .ok (.iload_n 1, 1) := qd_o27 40 14 qd_g449 rfl
theorem dX12_sounds_55 : decode cX12_sounds 55 = .ok (.aload_n 0, 1) := qd_o42 40 15 qd_g449 rfl
theorem dX12_sounds_56 : decode cX12_sounds 56 = .ok (.getfield 47, 3) := qd_o180 40 16 qd_g449 rfl rfl
theorem dX12_sounds_59 : decode cX12_sounds 59 = .ok (.iload_n 1, 1) := qd_o27 40 19 qd_g449 rfl
theorem dX12_sounds_60 : decode cX12_sounds 60 = .ok (.iaload, 1) := qd_o46 40 20 qd_g449 rfl
theorem dX12_sounds_61 : decode cX12_sounds 61 = .ok (.iconst 2, 1) := qd_o5 40 21 qd_g449 rfl
theorem dX12_sounds_62 : decode cX12_sounds 62 = .ok (.idiv, 1) := qd_o108 40 22 qd_g449 rfl
theorem dX12_sounds_63 : decode cX12_sounds 63 = .ok (.aload_n 0, 1) := qd_o42 40 23 qd_g449 rfl
theorem dX12_sounds_64 : decode cX12_sounds 64 = .ok (.getfield 47, 3) := qd_o180 40 24 qd_g449 rfl rfl
theorem dX12_sounds_67 : decode cX12_sounds 67 = .ok (.iload_n 1, 1) := qd_o27 40 27 qd_g449 rfl
theorem dX12_sounds_68 : decode cX12_sounds 68 = .ok (.iaload, 1) := qd_o46 40 28 qd_g449 rfl
theorem dX12_sounds_69 : decode cX12_sounds 69 = .ok (.iconst 2, 1) := qd_o5 40 29 qd_g449 rfl
theorem dX12_sounds_70 : decode cX12_sounds 70 = .ok (.irem, 1) := qd_o112 40 30 qd_g449 rfl
theorem dX12_sounds_71 : decode cX12_sounds 71 = .ok (.aload_n 0, 1) := qd_o42 40 31 qd_g449 rfl
theorem dX12_sounds_72 : decode cX12_sounds 72 = .ok (.getfield 47, 3) := qd_o180 40 32 qd_g449 rfl rfl
theorem dX12_sounds_75 : decode cX12_sounds 75 = .ok (.iload_n 1, 1) := qd_o27 40 35 qd_g449 rfl
theorem dX12_sounds_76 : decode cX12_sounds 76 = .ok (.iaload, 1) := qd_o46 40 36 qd_g449 rfl
theorem dX12_sounds_77 : decode cX12_sounds 77 = .ok (.iconst 2, 1) := qd_o5 40 37 qd_g449 rfl
theorem dX12_sounds_78 : decode cX12_sounds 78 = .ok (.idiv, 1) := qd_o108 40 38 qd_g449 rfl
theorem dX12_sounds_79 : decode cX12_sounds 79 = .ok (.iconst 2, 1) := qd_o5 40 39 qd_g449 rfl
theorem qd_g450 : qd_bs cX12_sounds 80 [112, 160, 0, 7, 3, 167, 0, 6, 17, 64, 0, 96, 79, 42, 180, 0, 19, 28, 5, 96, 46, 3, 184, 0, 131, 54, 4, 42, 180, 0, 44, 27, 92, 46, 4, 96, 79, 42] = true := by decide +kernel
theorem dX12_sounds_80 : decode cX12_sounds 80 = .ok (.irem, 1) := qd_o112 80 0 qd_g450 rfl
theorem dX12_sounds_81 : decode cX12_sounds 81 = .ok (.if_icmp .ne 7, 3) := qd_o160 80 1 qd_g450 rfl rfl
theorem dX12_sounds_84 : decode cX12_sounds 84 = .ok (.iconst 0, 1) := qd_o3 80 4 qd_g450 rfl
theorem dX12_sounds_85 : decode cX12_sounds 85 = .ok (.goto 6, 3) := qd_o167 80 5 qd_g450 rfl rfl
theorem dX12_sounds_88 : decode cX12_sounds 88 = .ok (.sipush 16384, 3) := qd_o17 80 8 qd_g450 rfl rfl
theorem dX12_sounds_91 : decode cX12_sounds 91 = .ok (.iadd, 1) := qd_o96 80 11 qd_g450 rfl
theorem dX12_sounds_92 : decode cX12_sounds 92 = .ok (.iastore, 1) := qd_o79 80 12 qd_g450 rfl
theorem dX12_sounds_93 : decode cX12_sounds 93 = .ok (.aload_n 0, 1) := qd_o42 80 13 qd_g450 rfl
theorem dX12_sounds_94 : decode cX12_sounds 94 = .ok (.getfield 19, 3) := qd_o180 80 14 qd_g450 rfl rfl
theorem dX12_sounds_97 : decode cX12_sounds 97 = .ok (.iload_n 2, 1) := qd_o28 80 17 qd_g450 rfl
theorem dX12_sounds_98 : decode cX12_sounds 98 = .ok (.iconst 2, 1) := qd_o5 80 18 qd_g450 rfl
theorem dX12_sounds_99 : decode cX12_sounds 99 = .ok (.iadd, 1) := qd_o96 80 19 qd_g450 rfl
theorem dX12_sounds_100 : decode cX12_sounds 100 = .ok (.iaload, 1) := qd_o46 80 20 qd_g450 rfl
theorem dX12_sounds_101 : decode cX12_sounds 101 = .ok (.iconst 0, 1) := qd_o3 80 21 qd_g450 rfl
theorem dX12_sounds_102 : decode cX12_sounds 102 = .ok (.invokestatic 131, 3) := qd_o184 80 22 qd_g450 rfl rfl
theorem dX12_sounds_105 : decode cX12_sounds 105 = .ok (.istore 4, 2) := qd_o54 80 25 qd_g450 rfl rfl
theorem dX12_sounds_107 : decode cX12_sounds 107 = .ok (.aload_n 0, 1) := qd_o42 80 27 qd_g450 rfl
theorem dX12_sounds_108 : decode cX12_sounds 108 = .ok (.getfield 44, 3) := qd_o180 80 28 qd_g450 rfl rfl
theorem dX12_sounds_111 : decode cX12_sounds 111 = .ok (.iload_n 1, 1) := qd_o27 80 31 qd_g450 rfl
theorem dX12_sounds_112 : decode cX12_sounds 112 = .ok (.dup2, 1) := qd_o92 80 32 qd_g450 rfl
theorem dX12_sounds_113 : decode cX12_sounds 113 = .ok (.iaload, 1) := qd_o46 80 33 qd_g450 rfl
theorem dX12_sounds_114 : decode cX12_sounds 114 = .ok (.iconst 1, 1) := qd_o4 80 34 qd_g450 rfl
theorem dX12_sounds_115 : decode cX12_sounds 115 = .ok (.iadd, 1) := qd_o96 80 35 qd_g450 rfl
theorem dX12_sounds_116 : decode cX12_sounds 116 = .ok (.iastore, 1) := qd_o79 80 36 qd_g450 rfl
theorem dX12_sounds_117 : decode cX12_sounds 117 = .ok (.aload_n 0, 1) := qd_o42 80 37 qd_g450 rfl
theorem qd_g451 : qd_bs cX12_sounds 118 [180, 0, 44, 27, 46, 21, 4, 153, 0, 17, 42, 180, 0, 19, 28, 6, 96, 46, 16, 16, 112, 167, 0, 14, 42, 180, 0, 19, 28, 6, 96, 46, 16, 16, 108, 163, 0, 4, 177, 42] = true := by decide +kernel
theorem dX12_sounds_118 : decode cX12_sounds 118 = .ok (.getfield 44, 3) := qd_o180 118 0 qd_g451 rfl rfl
theorem dX12_sounds_121 : decode cX12_sounds 121 = .ok (.iload_n 1, 1) := qd_o27 118 3 qd_g451 rfl
theorem dX12_sounds_122 : decode cX12_sounds 122 = .ok (.iaload, 1) := qd_o46 118 4 qd_g451 rfl
theorem dX12_sounds_123 : decode cX12_sounds 123 = .ok (.iload 4, 2) := qd_o21 118 5 qd_g451 rfl rfl
theorem dX12_sounds_125 : decode cX12_sounds 125 = .ok (.ifCond .eq 17, 3) := qd_o153 118 7 qd_g451 rfl rfl
theorem dX12_sounds_128 : decode cX12_sounds 128 = .ok (.aload_n 0, 1) := qd_o42 118 10 qd_g451 rfl
theorem dX12_sounds_129 : decode cX12_sounds 129 = .ok (.getfield 19, 3) := qd_o180 118 11 qd_g451 rfl rfl
theorem dX12_sounds_132 : decode cX12_sounds 132 = .ok (.iload_n 2, 1) := qd_o28 118 14 qd_g451 rfl
theorem dX12_sounds_133 : decode cX12_sounds 133 = .ok (.iconst 3, 1) := qd_o6 118 15 qd_g451 rfl
theorem dX12_sounds_134 : decode cX12_sounds 134 = .ok (.iadd, 1) := qd_o96 118 16 qd_g451 rfl
theorem dX12_sounds_135 : decode cX12_sounds 135 = .ok (.iaload, 1) := qd_o46 118 17 qd_g451 rfl
theorem dX12_sounds_136 : decode cX12_sounds 136 = .ok (.bipush 16, 2) := qd_o16 118 18 qd_g451 rfl rfl
theorem dX12_sounds_138 : decode cX12_sounds 138 = .ok (.irem, 1) := qd_o112 118 20 qd_g451 rfl
theorem dX12_sounds_139 : decode cX12_sounds 139 = .ok (.goto 14, 3) := qd_o167 118 21 qd_g451 rfl rfl
theorem dX12_sounds_142 : decode cX12_sounds 142 = .ok (.aload_n 0, 1) := qd_o42 118 24 qd_g451 rfl
theorem dX12_sounds_143 : decode cX12_sounds 143 = .ok (.getfield 19, 3) := qd_o180 118 25 qd_g451 rfl rfl
theorem dX12_sounds_146 : decode cX12_sounds 146 = .ok (.iload_n 2, 1) := qd_o28 118 28 qd_g451 rfl
theorem dX12_sounds_147 : decode cX12_sounds 147 = .ok (.iconst 3, 1) := qd_o6 118 29 qd_g451 rfl
theorem dX12_sounds_148 : decode cX12_sounds 148 = .ok (.iadd, 1) := qd_o96 118 30 qd_g451 rfl
theorem dX12_sounds_149 : decode cX12_sounds 149 = .ok (.iaload, 1) := qd_o46 118 31 qd_g451 rfl
theorem dX12_sounds_150 : decode cX12_sounds 150 = .ok (.bipush 16, 2) := qd_o16 118 32 qd_g451 rfl rfl
theorem dX12_sounds_152 : decode cX12_sounds 152 = .ok (.idiv, 1) := qd_o108 118 34 qd_g451 rfl
theorem dX12_sounds_153 : decode cX12_sounds 153 = .ok (.if_icmp .gt 4, 3) := qd_o163 118 35 qd_g451 rfl rfl
theorem dX12_sounds_156 : decode cX12_sounds 156 = .ok (.return_, 1) := qd_o177 118 38 qd_g451 rfl
theorem dX12_sounds_157 : decode cX12_sounds 157 = .ok (.aload_n 0, 1) := qd_o42 118 39 qd_g451 rfl
theorem qd_g452 : qd_bs cX12_sounds 158 [180, 0, 44, 27, 3, 79, 42, 180, 0, 41, 27, 21, 4, 153, 0, 19, 16, 15, 42, 180, 0, 41, 27, 46, 4, 96, 184, 0, 204, 167, 0, 15, 3, 42, 180, 0, 41, 27, 46, 4] = true := by decide +kernel
theorem dX12_sounds_158 : decode cX12_sounds 158 = .ok (.getfield 44, 3) := qd_o180 158 0 qd_g452 rfl rfl
theorem dX12_sounds_161 : decode cX12_sounds 161 = .ok (.iload_n 1, 1) := qd_o27 158 3 qd_g452 rfl
theorem dX12_sounds_162 : decode cX12_sounds 162 = .ok (.iconst 0, 1) := qd_o3 158 4 qd_g452 rfl
theorem dX12_sounds_163 : decode cX12_sounds 163 = .ok (.iastore, 1) := qd_o79 158 5 qd_g452 rfl
theorem dX12_sounds_164 : decode cX12_sounds 164 = .ok (.aload_n 0, 1) := qd_o42 158 6 qd_g452 rfl
theorem dX12_sounds_165 : decode cX12_sounds 165 = .ok (.getfield 41, 3) := qd_o180 158 7 qd_g452 rfl rfl
theorem dX12_sounds_168 : decode cX12_sounds 168 = .ok (.iload_n 1, 1) := qd_o27 158 10 qd_g452 rfl
theorem dX12_sounds_169 : decode cX12_sounds 169 = .ok (.iload 4, 2) := qd_o21 158 11 qd_g452 rfl rfl
theorem dX12_sounds_171 : decode cX12_sounds 171 = .ok (.ifCond .eq 19, 3) := qd_o153 158 13 qd_g452 rfl rfl
theorem dX12_sounds_174 : decode cX12_sounds 174 = .ok (.bipush 15, 2) := qd_o16 158 16 qd_g452 rfl rfl
theorem dX12_sounds_176 : decode cX12_sounds 176 = .ok (.aload_n 0, 1) := qd_o42 158 18 qd_g452 rfl
theorem dX12_sounds_177 : decode cX12_sounds 177 = .ok (.getfield 41, 3) := qd_o180 158 19 qd_g452 rfl rfl
theorem dX12_sounds_180 : decode cX12_sounds 180 = .ok (.iload_n 1, 1) := qd_o27 158 22 qd_g452 rfl
theorem dX12_sounds_181 : decode cX12_sounds 181 = .ok (.iaload, 1) := qd_o46 158 23 qd_g452 rfl
theorem dX12_sounds_182 : decode cX12_sounds 182 = .ok (.iconst 1, 1) := qd_o4 158 24 qd_g452 rfl
theorem dX12_sounds_183 : decode cX12_sounds 183 = .ok (.iadd, 1) := qd_o96 158 25 qd_g452 rfl
theorem dX12_sounds_184 : decode cX12_sounds 184 = .ok (.invokestatic 204, 3) := qd_o184 158 26 qd_g452 rfl rfl
theorem dX12_sounds_187 : decode cX12_sounds 187 = .ok (.goto 15, 3) := qd_o167 158 29 qd_g452 rfl rfl
theorem dX12_sounds_190 : decode cX12_sounds 190 = .ok (.iconst 0, 1) := qd_o3 158 32 qd_g452 rfl
theorem dX12_sounds_191 : decode cX12_sounds 191 = .ok (.aload_n 0, 1) := qd_o42 158 33 qd_g452 rfl
theorem dX12_sounds_192 : decode cX12_sounds 192 = .ok (.getfield 41, 3) := qd_o180 158 34 qd_g452 rfl rfl
theorem dX12_sounds_195 : decode cX12_sounds 195 = .ok (.iload_n 1, 1) := qd_o27 158 37 qd_g452 rfl
theorem dX12_sounds_196 : decode cX12_sounds 196 = .ok (.iaload, 1) := qd_o46 158 38 qd_g452 rfl
theorem dX12_sounds_197 : decode cX12_sounds 197 = .ok (.iconst 1, 1) := qd_o4 158 39 qd_g452 rfl
theorem qd_g453 : qd_bs cX12_sounds 198 [100, 184, 0, 209, 79, 177] = true := by decide +kernel
theorem dX12_sounds_198 : decode cX12_sounds 198 = .ok (.isub, 1) := qd_o100 198 0 qd_g453 rfl
theorem dX12_sounds_199 : decode cX12_sounds 199 = .ok (.invokestatic 209, 3) := qd_o184 198 1 qd_g453 rfl rfl
theorem dX12_sounds_202 : decode cX12_sounds 202 = .ok (.iastore, 1) := qd_o79 198 4 qd_g453 rfl
theorem dX12_sounds_203 : decode cX12_sounds 203 = .ok (.return_, 1) := qd_o177 198 5 qd_g453 rfl
theorem qd_g454 : qd_bs cX12_gives 0 [42, 180, 0, 19, 16, 34, 7, 27, 104, 96, 46, 5, 108, 7, 112, 61, 28, 154, 0, 16, 42, 180, 0, 38, 27, 46, 17, 16, 0, 108, 167, 0, 46, 28, 4, 160, 0, 23, 42] = true := by decide +kernel
theorem dX12_gives_0 : decode cX12_gives 0 = .ok (.aload_n 0, 1) := qd_o42 0 0 qd_g454 rfl
theorem dX12_gives_1 : decode cX12_gives 1 = .ok (.getfield 19, 3) := qd_o180 0 1 qd_g454 rfl rfl
theorem dX12_gives_4 : decode cX12_gives 4 = .ok (.bipush 34, 2) := qd_o16 0 4 qd_g454 rfl rfl
theorem dX12_gives_6 : decode cX12_gives 6 = .ok (.iconst 4, 1) := qd_o7 0 6 qd_g454 rfl
theorem dX12_gives_7 : decode cX12_gives 7 = .ok (.iload_n 1, 1) := qd_o27 0 7 qd_g454 rfl
theorem dX12_gives_8 : decode cX12_gives 8 = .ok (.imul, 1) := qd_o104 0 8 qd_g454 rfl
theorem dX12_gives_9 : decode cX12_gives 9 = .ok (.iadd, 1) := qd_o96 0 9 qd_g454 rfl
theorem dX12_gives_10 : decode cX12_gives 10 = .ok (.iaload, 1) := qd_o46 0 10 qd_g454 rfl
theorem dX12_gives_11 : decode cX12_gives 11 = .ok (.iconst 2, 1) := qd_o5 0 11 qd_g454 rfl
theorem dX12_gives_12 : decode cX12_gives 12 = .ok (.idiv, 1) := qd_o108 0 12 qd_g454 rfl
theorem dX12_gives_13 : decode cX12_gives 13 = .ok (.iconst 4, 1) := qd_o7 0 13 qd_g454 rfl
theorem dX12_gives_14 : decode cX12_gives 14 = .ok (.irem, 1) := qd_o112 0 14 qd_g454 rfl
theorem dX12_gives_15 : decode cX12_gives 15 = .ok (.istore_n 2, 1) := qd_o61 0 15 qd_g454 rfl
theorem dX12_gives_16 : decode cX12_gives 16 = .ok (.iload_n 2, 1) := qd_o28 0 16 qd_g454 rfl
theorem dX12_gives_17 : decode cX12_gives 17 = .ok (.ifCond .ne 16, 3) := qd_o154 0 17 qd_g454 rfl rfl
theorem dX12_gives_20 : decode cX12_gives 20 = .ok (.aload_n 0, 1) := qd_o42 0 20 qd_g454 rfl
theorem dX12_gives_21 : decode cX12_gives 21 = .ok (.getfield 38, 3) := qd_o180 0 21 qd_g454 rfl rfl
theorem dX12_gives_24 : decode cX12_gives 24 = .ok (.iload_n 1, 1) := qd_o27 0 24 qd_g454 rfl
theorem dX12_gives_25 : decode cX12_gives 25 = .ok (.iaload, 1) := qd_o46 0 25 qd_g454 rfl
theorem dX12_gives_26 : decode cX12_gives 26 = .ok (.sipush 4096, 3) := qd_o17 0 26 qd_g454 rfl rfl
theorem dX12_gives_29 : decode cX12_gives 29 = .ok (.idiv, 1) := qd_o108 0 29 qd_g454 rfl
theorem dX12_gives_30 : decode cX12_gives 30 = .ok (.goto 46, 3) := qd_o167 0 30 qd_g454 rfl rfl
theorem dX12_gives_33 : decode cX12_gives 33 = .ok (.iload_n 2, 1) := qd_o28 0 33 qd_g454 rfl
theorem dX12_gives_34 : decode cX12_gives 34 = .ok (.iconst 1, 1) := qd_o4 0 34 qd_g454 rfl
theorem dX12_gives_35 : decode cX12_gives 35 = .ok (.if_icmp .ne 23, 3) := qd_o160 0 35 qd_g454 rfl rfl
theorem dX12_gives_38 : decode cX12_gives 38 = .ok (.aload_n 0, 1) := qd_o42 0 38 qd_g454 rfl
theorem qd_g455 : qd_bs cX12_gives 39 [180, 0, 38, 27, 46, 18, 212, 161, 0, 8, 16, 15, 167, 0, 25, 3, 167, 0, 21, 28, 5, 160, 0, 15, 42, 180, 0, 47, 27, 46, 16, 16, 112, 167, 0, 4, 3, 62, 42] = true := by decide +kernel
theorem dX12_gives_39 : decode cX12_gives 39 = .ok (.getfield 38, 3) := qd_o180 39 0 qd_g455 rfl rfl
theorem dX12_gives_42 : decode cX12_gives 42 = .ok (.iload_n 1, 1) := qd_o27 39 3 qd_g455 rfl
theorem dX12_gives_43 : decode cX12_gives 43 = .ok (.iaload, 1) := qd_o46 39 4 qd_g455 rfl
theorem dX12_gives_44 : decode cX12_gives 44 = .ok (.ldc 212, 2) := qd_o18 39 5 qd_g455 rfl rfl
theorem dX12_gives_46 : decode cX12_gives 46 = .ok (.if_icmp .lt 8, 3) := qd_o161 39 7 qd_g455 rfl rfl
theorem dX12_gives_49 : decode cX12_gives 49 = .ok (.bipush 15, 2) := qd_o16 39 10 qd_g455 rfl rfl
theorem dX12_gives_51 : decode cX12_gives 51 = .ok (.goto 25, 3) := qd_o167 39 12 qd_g455 rfl rfl
theorem dX12_gives_54 : decode cX12_gives 54 = .ok (.iconst 0, 1) := qd_o3 39 15 qd_g455 rfl
theorem dX12_gives_55 : decode cX12_gives 55 = .ok (.goto 21, 3) := qd_o167 39 16 qd_g455 rfl rfl
theorem dX12_gives_58 : decode cX12_gives 58 = .ok (.iload_n 2, 1) := qd_o28 39 19 qd_g455 rfl
theorem dX12_gives_59 : decode cX12_gives 59 = .ok (.iconst 2, 1) := qd_o5 39 20 qd_g455 rfl
theorem dX12_gives_60 : decode cX12_gives 60 = .ok (.if_icmp .ne 15, 3) := qd_o160 39 21 qd_g455 rfl rfl
theorem dX12_gives_63 : decode cX12_gives 63 = .ok (.aload_n 0, 1) := qd_o42 39 24 qd_g455 rfl
theorem dX12_gives_64 : decode cX12_gives 64 = .ok (.getfield 47, 3) := qd_o180 39 25 qd_g455 rfl rfl
theorem dX12_gives_67 : decode cX12_gives 67 = .ok (.iload_n 1, 1) := qd_o27 39 28 qd_g455 rfl
theorem dX12_gives_68 : decode cX12_gives 68 = .ok (.iaload, 1) := qd_o46 39 29 qd_g455 rfl
theorem dX12_gives_69 : decode cX12_gives 69 = .ok (.bipush 16, 2) := qd_o16 39 30 qd_g455 rfl rfl
theorem dX12_gives_71 : decode cX12_gives 71 = .ok (.irem, 1) := qd_o112 39 32 qd_g455 rfl
theorem dX12_gives_72 : decode cX12_gives 72 = .ok (.goto 4, 3) := qd_o167 39 33 qd_g455 rfl rfl
theorem dX12_gives_75 : decode cX12_gives 75 = .ok (.iconst 0, 1) := qd_o3 39 36 qd_g455 rfl
theorem dX12_gives_76 : decode cX12_gives 76 = .ok (.istore_n 3, 1) := qd_o62 39 37 qd_g455 rfl
theorem dX12_gives_77 : decode cX12_gives 77 = .ok (.aload_n 0, 1) := qd_o42 39 38 qd_g455 rfl
theorem qd_g456 : qd_bs cX12_gives 78 [180, 0, 19, 16, 34, 7, 27, 104, 96, 46, 6, 184, 0, 131, 153, 0, 25, 42, 180, 0, 38, 27, 5, 96, 6, 112, 46, 18, 212, 161, 0, 10, 16, 15, 29, 100, 167, 0, 4, 29] = true := by decide +kernel
theorem dX12_gives_78 : decode cX12_gives 78 = .ok (.getfield 19, 3) := qd_o180 78 0 qd_g456 rfl rfl
theorem dX12_gives_81 : decode cX12_gives 81 = .ok (.bipush 34, 2) := qd_o16 78 3 qd_g456 rfl rfl
theorem dX12_gives_83 : decode cX12_gives 83 = .ok (.iconst 4, 1) := qd_o7 78 5 qd_g456 rfl
theorem dX12_gives_84 : decode cX12_gives 84 = .ok (.iload_n 1, 1) := qd_o27 78 6 qd_g456 rfl
theorem dX12_gives_85 : decode cX12_gives 85 = .ok (.imul, 1) := qd_o104 78 7 qd_g456 rfl
theorem dX12_gives_86 : decode cX12_gives 86 = .ok (.iadd, 1) := qd_o96 78 8 qd_g456 rfl
theorem dX12_gives_87 : decode cX12_gives 87 = .ok (.iaload, 1) := qd_o46 78 9 qd_g456 rfl
theorem dX12_gives_88 : decode cX12_gives 88 = .ok (.iconst 3, 1) := qd_o6 78 10 qd_g456 rfl
theorem dX12_gives_89 : decode cX12_gives 89 = .ok (.invokestatic 131, 3) := qd_o184 78 11 qd_g456 rfl rfl
theorem dX12_gives_92 : decode cX12_gives 92 = .ok (.ifCond .eq 25, 3) := qd_o153 78 14 qd_g456 rfl rfl
theorem dX12_gives_95 : decode cX12_gives 95 = .ok (.aload_n 0, 1) := qd_o42 78 17 qd_g456 rfl
theorem dX12_gives_96 : decode cX12_gives 96 = .ok (.getfield 38, 3) := qd_o180 78 18 qd_g456 rfl rfl
theorem dX12_gives_99 : decode cX12_gives 99 = .ok (.iload_n 1, 1) := qd_o27 78 21 qd_g456 rfl
theorem dX12_gives_100 : decode cX12_gives 100 = .ok (.iconst 2, 1) := qd_o5 78 22 qd_g456 rfl
theorem dX12_gives_101 : decode cX12_gives 101 = .ok (.iadd, 1) := qd_o96 78 23 qd_g456 rfl
theorem dX12_gives_102 : decode cX12_gives 102 = .ok (.iconst 3, 1) := qd_o6 78 24 qd_g456 rfl
theorem dX12_gives_103 : decode cX12_gives 103 = .ok (.irem, 1) := qd_o112 78 25 qd_g456 rfl
theorem dX12_gives_104 : decode cX12_gives 104 = .ok (.iaload, 1) := qd_o46 78 26 qd_g456 rfl
theorem dX12_gives_105 : decode cX12_gives 105 = .ok (.ldc 212, 2) := qd_o18 78 27 qd_g456 rfl rfl
theorem dX12_gives_107 : decode cX12_gives 107 = .ok (.if_icmp .lt 10, 3) := qd_o161 78 29 qd_g456 rfl rfl
theorem dX12_gives_110 : decode cX12_gives 110 = .ok (.bipush 15, 2) := qd_o16 78 32 qd_g456 rfl rfl
theorem dX12_gives_112 : decode cX12_gives 112 = .ok (.iload_n 3, 1) := qd_o29 78 34 qd_g456 rfl
theorem dX12_gives_113 : decode cX12_gives 113 = .ok (.isub, 1) := qd_o100 78 35 qd_g456 rfl
theorem dX12_gives_114 : decode cX12_gives 114 = .ok (.goto 4, 3) := qd_o167 78 36 qd_g456 rfl rfl
theorem dX12_gives_117 : decode cX12_gives 117 = .ok (.iload_n 3, 1) := qd_o29 78 39 qd_g456 rfl
theorem qd_g457 : qd_bs cX12_gives 118 [172] = true := by decide +kernel
theorem dX12_gives_118 : decode cX12_gives 118 = .ok (.ireturn, 1) := qd_o172 118 0 qd_g457 rfl
theorem qd_g458 : qd_bs cX12_makesSample 0 [3, 60, 27, 6, 162, 0, 14, 42, 27, 182, 0, 213, 132, 1, 1, 167, 255, 243, 3, 60, 3, 61, 28, 6, 162, 0, 24, 27, 42, 28, 182, 0, 217, 42, 180, 0, 41, 28, 46, 104] = true := by decide +kernel
theorem dX12_makesSample_0 : decode cX12_makesSample 0 = .ok (.iconst 0, 1) := qd_o3 0 0 qd_g458 rfl
theorem dX12_makesSample_1 : decode cX12_makesSample 1 = .ok (.istore_n 1, 1) := qd_o60 0 1 qd_g458 rfl
theorem dX12_makesSample_2 : decode cX12_makesSample 2 = .ok (.iload_n 1, 1) := qd_o27 0 2 qd_g458 rfl
theorem dX12_makesSample_3 : decode cX12_makesSample 3 = .ok (.iconst 3, 1) := qd_o6 0 3 qd_g458 rfl
theorem dX12_makesSample_4 : decode cX12_makesSample 4 = .ok (.if_icmp .ge 14, 3) := qd_o162 0 4 qd_g458 rfl rfl
theorem dX12_makesSample_7 : decode cX12_makesSample 7 = .ok (.aload_n 0, 1) := qd_o42 0 7 qd_g458 rfl
theorem dX12_makesSample_8 : decode cX12_makesSample 8 = .ok (.iload_n 1, 1) := qd_o27 0 8 qd_g458 rfl
theorem dX12_makesSample_9 : decode cX12_makesSample 9 = .ok (.invokevirtual 213, 3) := qd_o182 0 9 qd_g458 rfl rfl
theorem dX12_makesSample_12 : decode cX12_makesSample 12 = .ok (.iinc 1 1, 3) := qd_o132 0 12 qd_g458 rfl rfl
theorem dX12_makesSample_15 : decode cX12_makesSample 15 = .ok (.goto (-13), 3) := qd_o167 0 15 qd_g458 rfl rfl
theorem dX12_makesSample_18 : decode cX12_makesSample 18 = .ok (.iconst 0, 1) := qd_o3 0 18 qd_g458 rfl
theorem dX12_makesSample_19 : decode cX12_makesSample 19 = .ok (.istore_n 1, 1) := qd_o60 0 19 qd_g458 rfl
theorem dX12_makesSample_20 : decode cX12_makesSample 20 = .ok (.iconst 0, 1) := qd_o3 0 20 qd_g458 rfl
theorem dX12_makesSample_21 : decode cX12_makesSample 21 = .ok (.istore_n 2, 1) := qd_o61 0 21 qd_g458 rfl
theorem dX12_makesSample_22 : decode cX12_makesSample 22 = .ok (.iload_n 2, 1) := qd_o28 0 22 qd_g458 rfl
theorem dX12_makesSample_23 : decode cX12_makesSample 23 = .ok (.iconst 3, 1) := qd_o6 0 23 qd_g458 rfl
theorem dX12_makesSample_24 : decode cX12_makesSample 24 = .ok (.if_icmp .ge 24, 3) := qd_o162 0 24 qd_g458 rfl rfl
theorem dX12_makesSample_27 : decode cX12_makesSample 27 = .ok (.iload_n 1, 1) := qd_o27 0 27 qd_g458 rfl
theorem dX12_makesSample_28 : decode cX12_makesSample 28 = .ok (.aload_n 0, 1) := qd_o42 0 28 qd_g458 rfl
theorem dX12_makesSample_29 : decode cX12_makesSample 29 = .ok (.iload_n 2, 1) := qd_o28 0 29 qd_g458 rfl
theorem dX12_makesSample_30 : decode cX12_makesSample 30 = .ok (.invokevirtual 217, 3) := qd_o182 0 30 qd_g458 rfl rfl
theorem dX12_makesSample_33 : decode cX12_makesSample 33 = .ok (.aload_n 0, 1) := qd_o42 0 33 qd_g458 rfl
theorem dX12_makesSample_34 : decode cX12_makesSample 34 = .ok (.getfield 41, 3) := qd_o180 0 34 qd_g458 rfl rfl
theorem dX12_makesSample_37 : decode cX12_makesSample 37 = .ok (.iload_n 2, 1) := qd_o28 0 37 qd_g458 rfl
theorem dX12_makesSample_38 : decode cX12_makesSample 38 = .ok (.iaload, 1) := qd_o46 0 38 qd_g458 rfl
theorem dX12_makesSample_39 : decode cX12_makesSample 39 = .ok (.imul, 1) := qd_o104 0 39 qd_g458 rfl
theorem qd_g459 : qd_bs cX12_makesSample 40 [96, 60, 132, 2, 1, 167, 255, 233, 42, 180, 0, 25, 42, 182, 0, 135, 27, 16, 15, 108, 79, 177] = true := by decide +kernel
theorem dX12_makesSample_40 : decode cX12_makesSample 40 = .ok (.iadd, 1) := qd_o96 40 0 qd_g459 rfl
theorem dX12_makesSample_41 : decode cX12_makesSample 41 = .ok (.istore_n 1, 1) := qd_o60 40 1 qd_g459 rfl
theorem dX12_makesSample_42 : decode cX12_makesSample 42 = .ok (.iinc 2 1, 3) := qd_o132 40 2 qd_g459 rfl rfl
theorem dX12_makesSample_45 : decode cX12_makesSample 45 = .ok (.goto (-23), 3) := qd_o167 40 5 qd_g459 rfl rfl
theorem dX12_makesSample_48 : decode cX12_makesSample 48 = .ok (.aload_n 0, 1) := qd_o42 40 8 qd_g459 rfl
theorem dX12_makesSample_49 : decode cX12_makesSample 49 = .ok (.getfield 25, 3) := qd_o180 40 9 qd_g459 rfl rfl
theorem dX12_makesSample_52 : decode cX12_makesSample 52 = .ok (.aload_n 0, 1) := qd_o42 40 12 qd_g459 rfl
theorem dX12_makesSample_53 : decode cX12_makesSample 53 = .ok (.invokevirtual 135, 3) := qd_o182 40 13 qd_g459 rfl rfl
theorem dX12_makesSample_56 : decode cX12_makesSample 56 = .ok (.iload_n 1, 1) := qd_o27 40 16 qd_g459 rfl
theorem dX12_makesSample_57 : decode cX12_makesSample 57 = .ok (.bipush 15, 2) := qd_o16 40 17 qd_g459 rfl rfl
theorem dX12_makesSample_59 : decode cX12_makesSample 59 = .ok (.idiv, 1) := qd_o108 40 19 qd_g459 rfl
theorem dX12_makesSample_60 : decode cX12_makesSample 60 = .ok (.iastore, 1) := qd_o79 40 20 qd_g459 rfl
theorem dX12_makesSample_61 : decode cX12_makesSample 61 = .ok (.return_, 1) := qd_o177 40 21 qd_g459 rfl
theorem qd_g460 : qd_bs cX12_passes 0 [42, 180, 0, 123, 20, 0, 127, 113, 136, 60, 27, 154, 0, 28, 42, 182, 0, 135, 42, 180, 0, 19, 16, 9, 46, 160, 0, 14, 42, 180, 0, 50, 16, 9, 92, 46, 4, 128, 79, 42] = true := by decide +kernel
theorem dX12_passes_0 : decode cX12_passes 0 = .ok (.aload_n 0, 1) := qd_o42 0 0 qd_g460 rfl
theorem dX12_passes_1 : decode cX12_passes 1 = .ok (.getfield 123, 3) := qd_o180 0 1 qd_g460 rfl rfl
theorem dX12_passes_4 : decode cX12_passes 4 = .ok (.ldc2_w 127, 3) := qd_o20 0 4 qd_g460 rfl rfl
theorem dX12_passes_7 : decode cX12_passes 7 = .ok (.lrem, 1) := qd_o113 0 7 qd_g460 rfl
theorem dX12_passes_8 : decode cX12_passes 8 = .ok (.l2i, 1) := qd_o136 0 8 qd_g460 rfl
theorem dX12_passes_9 : decode cX12_passes 9 = .ok (.istore_n 1, 1) := qd_o60 0 9 qd_g460 rfl
theorem dX12_passes_10 : decode cX12_passes 10 = .ok (.iload_n 1, 1) := qd_o27 0 10 qd_g460 rfl
theorem dX12_passes_11 : decode cX12_passes 11 = .ok (.ifCond .ne 28, 3) := qd_o154 0 11 qd_g460 rfl rfl
theorem dX12_passes_14 : decode cX12_passes 14 = .ok (.aload_n 0, 1) := qd_o42 0 14 qd_g460 rfl
theorem dX12_passes_15 : decode cX12_passes 15 = .ok (.invokevirtual 135, 3) := qd_o182 0 15 qd_g460 rfl rfl
theorem dX12_passes_18 : decode cX12_passes 18 = .ok (.aload_n 0, 1) := qd_o42 0 18 qd_g460 rfl
theorem dX12_passes_19 : decode cX12_passes 19 = .ok (.getfield 19, 3) := qd_o180 0 19 qd_g460 rfl rfl
theorem dX12_passes_22 : decode cX12_passes 22 = .ok (.bipush 9, 2) := qd_o16 0 22 qd_g460 rfl rfl
theorem dX12_passes_24 : decode cX12_passes 24 = .ok (.iaload, 1) := qd_o46 0 24 qd_g460 rfl
theorem dX12_passes_25 : decode cX12_passes 25 = .ok (.if_icmp .ne 14, 3) := qd_o160 0 25 qd_g460 rfl rfl
theorem dX12_passes_28 : decode cX12_passes 28 = .ok (.aload_n 0, 1) := qd_o42 0 28 qd_g460 rfl
theorem dX12_passes_29 : decode cX12_passes 29 = .ok (.getfield 50, 3) := qd_o180 0 29 qd_g460 rfl rfl
theorem dX12_passes_32 : decode cX12_passes 32 = .ok (.bipush 9, 2) := qd_o16 0 32 qd_g460 rfl rfl
theorem dX12_passes_34 : decode cX12_passes 34 = .ok (.dup2, 1) := qd_o92 0 34 qd_g460 rfl
theorem dX12_passes_35 : decode cX12_passes 35 = .ok (.iaload, 1) := qd_o46 0 35 qd_g460 rfl
theorem dX12_passes_36 : decode cX12_passes 36 = .ok (.iconst 1, 1) := qd_o4 0 36 qd_g460 rfl
theorem dX12_passes_37 : decode cX12_passes 37 = .ok (.ior, 1) := qd_o128 0 37 qd_g460 rfl
theorem dX12_passes_38 : decode cX12_passes 38 = .ok (.iastore, 1) := qd_o79 0 38 qd_g460 rfl
theorem dX12_passes_39 : decode cX12_passes 39 = .ok (.aload_n 0, 1) := qd_o42 0 39 qd_g460 rfl
theorem qd_g461 : qd_bs cX12_passes 40 [182, 0, 220, 61, 42, 182, 0, 179, 62, 29, 3, 16, 31, 184, 0, 119, 153, 0, 35, 27, 7, 16, 19, 184, 0, 119, 153, 0, 25, 42, 5, 27, 104, 16, 8, 100, 29, 182, 0, 223] = true := by decide +kernel
theorem dX12_passes_40 : decode cX12_passes 40 = .ok (.invokevirtual 220, 3) := qd_o182 40 0 qd_g461 rfl rfl
theorem dX12_passes_43 : decode cX12_passes 43 = .ok (.istore_n 2, 1) := qd_o61 40 3 qd_g461 rfl
theorem dX12_passes_44 : decode cX12_passes 44 = .ok (.aload_n 0, 1) := qd_o42 40 4 qd_g461 rfl
theorem dX12_passes_45 : decode cX12_passes 45 = .ok (.invokevirtual 179, 3) := qd_o182 40 5 qd_g461 rfl rfl
theorem dX12_passes_48 : decode cX12_passes 48 = .ok (.istore_n 3, 1) := qd_o62 40 8 qd_g461 rfl
theorem dX12_passes_49 : decode cX12_passes 49 = .ok (.iload_n 3, 1) := qd_o29 40 9 qd_g461 rfl
theorem dX12_passes_50 : decode cX12_passes 50 = .ok (.iconst 0, 1) := qd_o3 40 10 qd_g461 rfl
theorem dX12_passes_51 : decode cX12_passes 51 = .ok (.bipush 31, 2) := qd_o16 40 11 qd_g461 rfl rfl
theorem dX12_passes_53 : decode cX12_passes 53 = .ok (.invokestatic 119, 3) := qd_o184 40 13 qd_g461 rfl rfl
theorem dX12_passes_56 : decode cX12_passes 56 = .ok (.ifCond .eq 35, 3) := qd_o153 40 16 qd_g461 rfl rfl
theorem dX12_passes_59 : decode cX12_passes 59 = .ok (.iload_n 1, 1) := qd_o27 40 19 qd_g461 rfl
theorem dX12_passes_60 : decode cX12_passes 60 = .ok (.iconst 4, 1) := qd_o7 40 20 qd_g461 rfl
theorem dX12_passes_61 : decode cX12_passes 61 = .ok (.bipush 19, 2) := qd_o16 40 21 qd_g461 rfl rfl
theorem dX12_passes_63 : decode cX12_passes 63 = .ok (.invokestatic 119, 3) := qd_o184 40 23 qd_g461 rfl rfl
theorem dX12_passes_66 : decode cX12_passes 66 = .ok (.ifCond .eq 25, 3) := qd_o153 40 26 qd_g461 rfl rfl
theorem dX12_passes_69 : decode cX12_passes 69 = .ok (.aload_n 0, 1) := qd_o42 40 29 qd_g461 rfl
theorem dX12_passes_70 : decode cX12_passes 70 = .ok (.iconst 2, 1) := qd_o5 40 30 qd_g461 rfl
theorem dX12_passes_71 : decode cX12_passes 71 = .ok (.iload_n 1, 1) := qd_o27 40 31 qd_g461 rfl
theorem dX12_passes_72 : decode cX12_passes 72 = .ok (.imul, 1) := qd_o104 40 32 qd_g461 rfl
theorem dX12_passes_73 : decode cX12_passes 73 = .ok (.bipush 8, 2) := qd_o16 40 33 qd_g461 rfl rfl
theorem dX12_passes_75 : decode cX12_passes 75 = .ok (.isub, 1) := qd_o100 40 35 qd_g461 rfl
theorem dX12_passes_76 : decode cX12_passes 76 = .ok (.iload_n 3, 1) := qd_o29 40 36 qd_g461 rfl
theorem dX12_passes_77 : decode cX12_passes 77 = .ok (.invokevirtual 223, 3) := qd_o182 40 37 qd_g461 rfl rfl
theorem qd_g462 : qd_bs cX12_passes 80 [42, 5, 27, 104, 16, 7, 100, 29, 182, 0, 223, 42, 182, 0, 226, 42, 182, 0, 229, 27, 16, 23, 160, 0, 7, 42, 182, 0, 232, 28, 154, 0, 7, 42, 182, 0, 235, 42, 89] = true := by decide +kernel
theorem dX12_passes_80 : decode cX12_passes 80 = .ok (.aload_n 0, 1) := qd_o42 80 0 qd_g462 rfl
theorem dX12_passes_81 : decode cX12_passes 81 = .ok (.iconst 2, 1) := qd_o5 80 1 qd_g462 rfl
theorem dX12_passes_82 : decode cX12_passes 82 = .ok (.iload_n 1, 1) := qd_o27 80 2 qd_g462 rfl
theorem dX12_passes_83 : decode cX12_passes 83 = .ok (.imul, 1) := qd_o104 80 3 qd_g462 rfl
theorem dX12_passes_84 : decode cX12_passes 84 = .ok (.bipush 7, 2) := qd_o16 80 4 qd_g462 rfl rfl
theorem dX12_passes_86 : decode cX12_passes 86 = .ok (.isub, 1) := qd_o100 80 6 qd_g462 rfl
theorem dX12_passes_87 : decode cX12_passes 87 = .ok (.iload_n 3, 1) := qd_o29 80 7 qd_g462 rfl
theorem dX12_passes_88 : decode cX12_passes 88 = .ok (.invokevirtual 223, 3) := qd_o182 80 8 qd_g462 rfl rfl
theorem dX12_passes_91 : decode cX12_passes 91 = .ok (.aload_n 0, 1) := qd_o42 80 11 qd_g462 rfl
theorem dX12_passes_92 : decode cX12_passes 92 = .ok (.invokevirtual 226, 3) := qd_o182 80 12 qd_g462 rfl rfl
theorem dX12_passes_95 : decode cX12_passes 95 = .ok (.aload_n 0, 1) := qd_o42 80 15 qd_g462 rfl
theorem dX12_passes_96 : decode cX12_passes 96 = .ok (.invokevirtual 229, 3) := qd_o182 80 16 qd_g462 rfl rfl
theorem dX12_passes_99 : decode cX12_passes 99 = .ok (.iload_n 1, 1) := qd_o27 80 19 qd_g462 rfl
theorem dX12_passes_100 : decode cX12_passes 100 = .ok (.bipush 23, 2) := qd_o16 80 20 qd_g462 rfl rfl
theorem dX12_passes_102 : decode cX12_passes 102 = .ok (.if_icmp .ne 7, 3) := qd_o160 80 22 qd_g462 rfl rfl
theorem dX12_passes_105 : decode cX12_passes 105 = .ok (.aload_n 0, 1) := qd_o42 80 25 qd_g462 rfl
theorem dX12_passes_106 : decode cX12_passes 106 = .ok (.invokevirtual 232, 3) := qd_o182 80 26 qd_g462 rfl rfl
theorem dX12_passes_109 : decode cX12_passes 109 = .ok (.iload_n 2, 1) := qd_o28 80 29 qd_g462 rfl
theorem dX12_passes_110 : decode cX12_passes 110 = .ok (.ifCond .ne 7, 3) := qd_o154 80 30 qd_g462 rfl rfl
theorem dX12_passes_113 : decode cX12_passes 113 = .ok (.aload_n 0, 1) := qd_o42 80 33 qd_g462 rfl
theorem dX12_passes_114 : decode cX12_passes 114 = .ok (.invokevirtual 235, 3) := qd_o182 80 34 qd_g462 rfl rfl
theorem dX12_passes_117 : decode cX12_passes 117 = .ok (.aload_n 0, 1) := qd_o42 80 37 qd_g462 rfl
theorem dX12_passes_118 : decode cX12_passes 118 = .ok (.dup, 1) := qd_o89 80 38 qd_g462 rfl
theorem qd_g463 : qd_bs cX12_passes 119 [180, 0, 238, 28, 153, 0, 7, 10, 167, 0, 4, 9, 97, 181, 0, 238, 42, 89, 180, 0, 123, 10, 97, 181, 0, 123, 28, 172] = true := by decide +kernel
theorem dX12_passes_119 : decode cX12_passes 119 = .ok (.getfield 238, 3) := qd_o180 119 0 qd_g463 rfl rfl
theorem dX12_passes_122 : decode cX12_passes 122 = .ok (.iload_n 2, 1) := qd_o28 119 3 qd_g463 rfl
theorem dX12_passes_123 : decode cX12_passes 123 = .ok (.ifCond .eq 7, 3) := qd_o153 119 4 qd_g463 rfl rfl
theorem dX12_passes_126 : decode cX12_passes 126 = .ok (.lconst 1, 1) := qd_o10 119 7 qd_g463 rfl
theorem dX12_passes_127 : decode cX12_passes 127 = .ok (.goto 4, 3) := qd_o167 119 8 qd_g463 rfl rfl
theorem dX12_passes_130 : decode cX12_passes 130 = .ok (.lconst 0, 1) := qd_o9 119 11 qd_g463 rfl
theorem dX12_passes_131 : decode cX12_passes 131 = .ok (.ladd, 1) := qd_o97 119 12 qd_g463 rfl
theorem dX12_passes_132 : decode cX12_passes 132 = .ok (.putfield 238, 3) := qd_o181 119 13 qd_g463 rfl rfl
theorem dX12_passes_135 : decode cX12_passes 135 = .ok (.aload_n 0, 1) := qd_o42 119 16 qd_g463 rfl
theorem dX12_passes_136 : decode cX12_passes 136 = .ok (.dup, 1) := qd_o89 119 17 qd_g463 rfl
theorem dX12_passes_137 : decode cX12_passes 137 = .ok (.getfield 123, 3) := qd_o180 119 18 qd_g463 rfl rfl
theorem dX12_passes_140 : decode cX12_passes 140 = .ok (.lconst 1, 1) := qd_o10 119 21 qd_g463 rfl
theorem dX12_passes_141 : decode cX12_passes 141 = .ok (.ladd, 1) := qd_o97 119 22 qd_g463 rfl
theorem dX12_passes_142 : decode cX12_passes 142 = .ok (.putfield 123, 3) := qd_o181 119 23 qd_g463 rfl rfl
theorem dX12_passes_145 : decode cX12_passes 145 = .ok (.iload_n 2, 1) := qd_o28 119 26 qd_g463 rfl
theorem dX12_passes_146 : decode cX12_passes 146 = .ok (.ireturn, 1) := qd_o172 119 27 qd_g463 rfl
theorem qd_g464 : qd_bs cX12_run 0 [42, 27, 4, 17, 3, 232, 184, 0, 119, 153, 0, 7, 3, 167, 0, 4, 4, 182, 0, 164, 153, 0, 5, 3, 172, 3, 61, 3, 62, 29, 27, 162, 0, 24, 28, 42, 182, 0, 241] = true := by decide +kernel
theorem dX12_run_0 : decode cX12_run 0 = .ok (.aload_n 0, 1) := qd_o42 0 0 qd_g464 rfl
theorem dX12_run_1 : decode cX12_run 1 = .ok (.iload_n 1, 1) := qd_o27 0 1 qd_g464 rfl
theorem dX12_run_2 : decode cX12_run 2 = .ok (.iconst 1, 1) := qd_o4 0 2 qd_g464 rfl
theorem dX12_run_3 : decode cX12_run 3 = .ok (.sipush 1000, 3) := qd_o17 0 3 qd_g464 rfl rfl
theorem dX12_run_6 : decode cX12_run 6 = .ok (.invokestatic 119, 3) := qd_o184 0 6 qd_g464 rfl rfl
theorem dX12_run_9 : decode cX12_run 9 = .ok (.ifCond .eq 7, 3) := qd_o153 0 9 qd_g464 rfl rfl
theorem dX12_run_12 : decode cX12_run 12 = .ok (.iconst 0, 1) := qd_o3 0 12 qd_g464 rfl
theorem dX12_run_13 : decode cX12_run 13 = .ok (.goto 4, 3) := qd_o167 0 13 qd_g464 rfl rfl
theorem dX12_run_16 : decode cX12_run 16 = .ok (.iconst 1, 1) := qd_o4 0 16 qd_g464 rfl
theorem dX12_run_17 : decode cX12_run 17 = .ok (.invokevirtual 164, 3) := qd_o182 0 17 qd_g464 rfl rfl
theorem dX12_run_20 : decode cX12_run 20 = .ok (.ifCond .eq 5, 3) := qd_o153 0 20 qd_g464 rfl rfl
theorem dX12_run_23 : decode cX12_run 23 = .ok (.iconst 0, 1) := qd_o3 0 23 qd_g464 rfl
theorem dX12_run_24 : decode cX12_run 24 = .ok (.ireturn, 1) := qd_o172 0 24 qd_g464 rfl
theorem dX12_run_25 : decode cX12_run 25 = .ok (.iconst 0, 1) := qd_o3 0 25 qd_g464 rfl
theorem dX12_run_26 : decode cX12_run 26 = .ok (.istore_n 2, 1) := qd_o61 0 26 qd_g464 rfl
theorem dX12_run_27 : decode cX12_run 27 = .ok (.iconst 0, 1) := qd_o3 0 27 qd_g464 rfl
theorem dX12_run_28 : decode cX12_run 28 = .ok (.istore_n 3, 1) := qd_o62 0 28 qd_g464 rfl
theorem dX12_run_29 : decode cX12_run 29 = .ok (.iload_n 3, 1) := qd_o29 0 29 qd_g464 rfl
theorem dX12_run_30 : decode cX12_run 30 = .ok (.iload_n 1, 1) := qd_o27 0 30 qd_g464 rfl
theorem dX12_run_31 : decode cX12_run 31 = .ok (.if_icmp .ge 24, 3) := qd_o162 0 31 qd_g464 rfl rfl
theorem dX12_run_34 : decode cX12_run 34 = .ok (.iload_n 2, 1) := qd_o28 0 34 qd_g464 rfl
theorem dX12_run_35 : decode cX12_run 35 = .ok (.aload_n 0, 1) := qd_o42 0 35 qd_g464 rfl
theorem dX12_run_36 : decode cX12_run 36 = .ok (.invokevirtual 241, 3) := qd_o182 0 36 qd_g464 rfl rfl
theorem qd_g465 : qd_bs cX12_run 39 [153, 0, 7, 4, 167, 0, 4, 3, 96, 61, 132, 3, 1, 167, 255, 233, 42, 182, 0, 173, 28, 172] = true := by decide +kernel
theorem dX12_run_39 : decode cX12_run 39 = .ok (.ifCond .eq 7, 3) := qd_o153 39 0 qd_g465 rfl rfl
theorem dX12_run_42 : decode cX12_run 42 = .ok (.iconst 1, 1) := qd_o4 39 3 qd_g465 rfl
theorem dX12_run_43 : decode cX12_run 43 = .ok (.goto 4, 3) := qd_o167 39 4 qd_g465 rfl rfl
theorem dX12_run_46 : decode cX12_run 46 = .ok (.iconst 0, 1) := qd_o3 39 7 qd_g465 rfl
theorem dX12_run_47 : decode cX12_run 47 = .ok (.iadd, 1) := qd_o96 39 8 qd_g465 rfl
theorem dX12_run_48 : decode cX12_run 48 = .ok (.istore_n 2, 1) := qd_o61 39 9 qd_g465 rfl
theorem dX12_run_49 : decode cX12_run 49 = .ok (.iinc 3 1, 3) := qd_o132 39 10 qd_g465 rfl rfl
theorem dX12_run_52 : decode cX12_run 52 = .ok (.goto (-23), 3) := qd_o167 39 13 qd_g465 rfl rfl
theorem dX12_run_55 : decode cX12_run 55 = .ok (.aload_n 0, 1) := qd_o42 39 16 qd_g465 rfl
theorem dX12_run_56 : decode cX12_run 56 = .ok (.invokevirtual 173, 3) := qd_o182 39 17 qd_g465 rfl rfl
theorem dX12_run_59 : decode cX12_run 59 = .ok (.iload_n 2, 1) := qd_o28 39 20 qd_g465 rfl
theorem dX12_run_60 : decode cX12_run 60 = .ok (.ireturn, 1) := qd_o172 39 21 qd_g465 rfl
theorem qd_g466 : qd_bs cX12_step 0 [42, 42, 180, 0, 53, 16, 7, 51, 153, 0, 7, 4, 167, 0, 4, 3, 182, 0, 164, 153, 0, 5, 3, 172, 42, 180, 0, 50, 16, 19, 46, 60, 3, 61, 28, 17, 0, 200] = true := by decide +kernel
theorem dX12_step_0 : decode cX12_step 0 = .ok (.aload_n 0, 1) := qd_o42 0 0 qd_g466 rfl
theorem dX12_step_1 : decode cX12_step 1 = .ok (.aload_n 0, 1) := qd_o42 0 1 qd_g466 rfl
theorem dX12_step_2 : decode cX12_step 2 = .ok (.getfield 53, 3) := qd_o180 0 2 qd_g466 rfl rfl
theorem dX12_step_5 : decode cX12_step 5 = .ok (.bipush 7, 2) := qd_o16 0 5 qd_g466 rfl rfl
theorem dX12_step_7 : decode cX12_step 7 = .ok (.baload, 1) := qd_o51 0 7 qd_g466 rfl
theorem dX12_step_8 : decode cX12_step 8 = .ok (.ifCond .eq 7, 3) := qd_o153 0 8 qd_g466 rfl rfl
theorem dX12_step_11 : decode cX12_step 11 = .ok (.iconst 1, 1) := qd_o4 0 11 qd_g466 rfl
theorem dX12_step_12 : decode cX12_step 12 = .ok (.goto 4, 3) := qd_o167 0 12 qd_g466 rfl rfl
theorem dX12_step_15 : decode cX12_step 15 = .ok (.iconst 0, 1) := qd_o3 0 15 qd_g466 rfl
theorem dX12_step_16 : decode cX12_step 16 = .ok (.invokevirtual 164, 3) := qd_o182 0 16 qd_g466 rfl rfl
theorem dX12_step_19 : decode cX12_step 19 = .ok (.ifCond .eq 5, 3) := qd_o153 0 19 qd_g466 rfl rfl
theorem dX12_step_22 : decode cX12_step 22 = .ok (.iconst 0, 1) := qd_o3 0 22 qd_g466 rfl
theorem dX12_step_23 : decode cX12_step 23 = .ok (.ireturn, 1) := qd_o172 0 23 qd_g466 rfl
theorem dX12_step_24 : decode cX12_step 24 = .ok (.aload_n 0, 1) := qd_o42 0 24 qd_g466 rfl
theorem dX12_step_25 : decode cX12_step 25 = .ok (.getfield 50, 3) := qd_o180 0 25 qd_g466 rfl rfl
theorem dX12_step_28 : decode cX12_step 28 = .ok (.bipush 19, 2) := qd_o16 0 28 qd_g466 rfl rfl
theorem dX12_step_30 : decode cX12_step 30 = .ok (.iaload, 1) := qd_o46 0 30 qd_g466 rfl
theorem dX12_step_31 : decode cX12_step 31 = .ok (.istore_n 1, 1) := qd_o60 0 31 qd_g466 rfl
theorem dX12_step_32 : decode cX12_step 32 = .ok (.iconst 0, 1) := qd_o3 0 32 qd_g466 rfl
theorem dX12_step_33 : decode cX12_step 33 = .ok (.istore_n 2, 1) := qd_o61 0 33 qd_g466 rfl
theorem dX12_step_34 : decode cX12_step 34 = .ok (.iload_n 2, 1) := qd_o28 0 34 qd_g466 rfl
theorem dX12_step_35 : decode cX12_step 35 = .ok (.sipush 200, 3) := qd_o17 0 35 qd_g466 rfl rfl
theorem qd_g467 : qd_bs cX12_step 38 [162, 0, 25, 42, 180, 0, 50, 16, 19, 46, 27, 160, 0, 14, 42, 182, 0, 241, 87, 132, 2, 1, 167, 255, 230, 42, 182, 0, 173, 28, 172] = true := by decide +kernel
theorem dX12_step_38 : decode cX12_step 38 = .ok (.if_icmp .ge 25, 3) := qd_o162 38 0 qd_g467 rfl rfl
theorem dX12_step_41 : decode cX12_step 41 = .ok (.aload_n 0, 1) := qd_o42 38 3 qd_g467 rfl
theorem dX12_step_42 : decode cX12_step 42 = .ok (.getfield 50, 3) := qd_o180 38 4 qd_g467 rfl rfl
theorem dX12_step_45 : decode cX12_step 45 = .ok (.bipush 19, 2) := qd_o16 38 7 qd_g467 rfl rfl
theorem dX12_step_47 : decode cX12_step 47 = .ok (.iaload, 1) := qd_o46 38 9 qd_g467 rfl
theorem dX12_step_48 : decode cX12_step 48 = .ok (.iload_n 1, 1) := qd_o27 38 10 qd_g467 rfl
theorem dX12_step_49 : decode cX12_step 49 = .ok (.if_icmp .ne 14, 3) := qd_o160 38 11 qd_g467 rfl rfl
theorem dX12_step_52 : decode cX12_step 52 = .ok (.aload_n 0, 1) := qd_o42 38 14 qd_g467 rfl
theorem dX12_step_53 : decode cX12_step 53 = .ok (.invokevirtual 241, 3) := qd_o182 38 15 qd_g467 rfl rfl
theorem dX12_step_56 : decode cX12_step 56 = .ok (.pop, 1) := qd_o87 38 18 qd_g467 rfl
theorem dX12_step_57 : decode cX12_step 57 = .ok (.iinc 2 1, 3) := qd_o132 38 19 qd_g467 rfl rfl
theorem dX12_step_60 : decode cX12_step 60 = .ok (.goto (-26), 3) := qd_o167 38 22 qd_g467 rfl rfl
theorem dX12_step_63 : decode cX12_step 63 = .ok (.aload_n 0, 1) := qd_o42 38 25 qd_g467 rfl
theorem dX12_step_64 : decode cX12_step 64 = .ok (.invokevirtual 173, 3) := qd_o182 38 26 qd_g467 rfl rfl
theorem dX12_step_67 : decode cX12_step 67 = .ok (.iload_n 2, 1) := qd_o28 38 29 qd_g467 rfl
theorem dX12_step_68 : decode cX12_step 68 = .ok (.ireturn, 1) := qd_o172 38 30 qd_g467 rfl
theorem qd_g468 : qd_bs cX12_cycle 0 [42, 3, 181, 0, 116, 42, 180, 0, 123, 173] = true := by decide +kernel
theorem dX12_cycle_0 : decode cX12_cycle 0 = .ok (.aload_n 0, 1) := qd_o42 0 0 qd_g468 rfl
theorem dX12_cycle_1 : decode cX12_cycle 1 = .ok (.iconst 0, 1) := qd_o3 0 1 qd_g468 rfl
theorem dX12_cycle_2 : decode cX12_cycle 2 = .ok (.putfield 116, 3) := qd_o181 0 2 qd_g468 rfl rfl
theorem dX12_cycle_5 : decode cX12_cycle 5 = .ok (.aload_n 0, 1) := qd_o42 0 5 qd_g468 rfl
theorem dX12_cycle_6 : decode cX12_cycle 6 = .ok (.getfield 123, 3) := qd_o180 0 6 qd_g468 rfl rfl
theorem dX12_cycle_9 : decode cX12_cycle 9 = .ok (.lreturn, 1) := qd_o173 0 9 qd_g468 rfl
theorem qd_g469 : qd_bs cX12_isPictures 0 [42, 3, 181, 0, 116, 42, 182, 0, 220, 172] = true := by decide +kernel
theorem dX12_isPictures_0 : decode cX12_isPictures 0 = .ok (.aload_n 0, 1) := qd_o42 0 0 qd_g469 rfl
theorem dX12_isPictures_1 : decode cX12_isPictures 1 = .ok (.iconst 0, 1) := qd_o3 0 1 qd_g469 rfl
theorem dX12_isPictures_2 : decode cX12_isPictures 2 = .ok (.putfield 116, 3) := qd_o181 0 2 qd_g469 rfl rfl
theorem dX12_isPictures_5 : decode cX12_isPictures 5 = .ok (.aload_n 0, 1) := qd_o42 0 5 qd_g469 rfl
theorem dX12_isPictures_6 : decode cX12_isPictures 6 = .ok (.invokevirtual 220, 3) := qd_o182 0 6 qd_g469 rfl rfl
theorem dX12_isPictures_9 : decode cX12_isPictures 9 = .ok (.ireturn, 1) := qd_o172 0 9 qd_g469 rfl
theorem qd_g470 : qd_bs cX12_underWay 0 [42, 42, 180, 0, 50, 16, 17, 46, 182, 0, 244, 172] = true := by decide +kernel
theorem dX12_underWay_0 : decode cX12_underWay 0 = .ok (.aload_n 0, 1) := qd_o42 0 0 qd_g470 rfl
theorem dX12_underWay_1 : decode cX12_underWay 1 = .ok (.aload_n 0, 1) := qd_o42 0 1 qd_g470 rfl
theorem dX12_underWay_2 : decode cX12_underWay 2 = .ok (.getfield 50, 3) := qd_o180 0 2 qd_g470 rfl rfl
theorem dX12_underWay_5 : decode cX12_underWay 5 = .ok (.bipush 17, 2) := qd_o16 0 5 qd_g470 rfl rfl
theorem dX12_underWay_7 : decode cX12_underWay 7 = .ok (.iaload, 1) := qd_o46 0 7 qd_g470 rfl
theorem dX12_underWay_8 : decode cX12_underWay 8 = .ok (.invokevirtual 244, 3) := qd_o182 0 8 qd_g470 rfl rfl
theorem dX12_underWay_11 : decode cX12_underWay 11 = .ok (.ireturn, 1) := qd_o172 0 11 qd_g470 rfl
theorem qd_g471 : qd_bs cX12_done 0 [42, 42, 180, 0, 50, 16, 19, 46, 182, 0, 244, 172] = true := by decide +kernel
theorem dX12_done_0 : decode cX12_done 0 = .ok (.aload_n 0, 1) := qd_o42 0 0 qd_g471 rfl
theorem dX12_done_1 : decode cX12_done 1 = .ok (.aload_n 0, 1) := qd_o42 0 1 qd_g471 rfl
theorem dX12_done_2 : decode cX12_done 2 = .ok (.getfield 50, 3) := qd_o180 0 2 qd_g471 rfl rfl
theorem dX12_done_5 : decode cX12_done 5 = .ok (.bipush 19, 2) := qd_o16 0 5 qd_g471 rfl rfl
theorem dX12_done_7 : decode cX12_done 7 = .ok (.iaload, 1) := qd_o46 0 7 qd_g471 rfl
theorem dX12_done_8 : decode cX12_done 8 = .ok (.invokevirtual 244, 3) := qd_o182 0 8 qd_g471 rfl rfl
theorem dX12_done_11 : decode cX12_done 11 = .ok (.ireturn, 1) := qd_o172 0 11 qd_g471 rfl
theorem qd_g472 : qd_bs cX12_isJammed 0 [42, 3, 181, 0, 116, 42, 180, 0, 53, 16, 7, 51, 172] = true := by decide +kernel
theorem dX12_isJammed_0 : decode cX12_isJammed 0 = .ok (.aload_n 0, 1) := qd_o42 0 0 qd_g472 rfl
theorem dX12_isJammed_1 : decode cX12_isJammed 1 = .ok (.iconst 0, 1) := qd_o3 0 1 qd_g472 rfl
theorem dX12_isJammed_2 : decode cX12_isJammed 2 = .ok (.putfield 116, 3) := qd_o181 0 2 qd_g472 rfl rfl
theorem dX12_isJammed_5 : decode cX12_isJammed 5 = .ok (.aload_n 0, 1) := qd_o42 0 5 qd_g472 rfl
theorem dX12_isJammed_6 : decode cX12_isJammed 6 = .ok (.getfield 53, 3) := qd_o180 0 6 qd_g472 rfl rfl
theorem dX12_isJammed_9 : decode cX12_isJammed 9 = .ok (.bipush 7, 2) := qd_o16 0 9 qd_g472 rfl rfl
theorem dX12_isJammed_11 : decode cX12_isJammed 11 = .ok (.baload, 1) := qd_o51 0 11 qd_g472 rfl
theorem dX12_isJammed_12 : decode cX12_isJammed 12 = .ok (.ireturn, 1) := qd_o172 0 12 qd_g472 rfl
theorem qd_g473 : qd_bs cX12_traceAt 0 [42, 27, 3, 16, 16, 42, 180, 0, 50, 16, 20, 46, 184, 0, 204, 4, 100, 184, 0, 119, 153, 0, 7, 3, 167, 0, 4, 4, 182, 0, 164, 153, 0, 7, 3, 167, 0, 22, 42] = true := by decide +kernel
theorem dX12_traceAt_0 : decode cX12_traceAt 0 = .ok (.aload_n 0, 1) := qd_o42 0 0 qd_g473 rfl
theorem dX12_traceAt_1 : decode cX12_traceAt 1 = .ok (.iload_n 1, 1) := qd_o27 0 1 qd_g473 rfl
theorem dX12_traceAt_2 : decode cX12_traceAt 2 = .ok (.iconst 0, 1) := qd_o3 0 2 qd_g473 rfl
theorem dX12_traceAt_3 : decode cX12_traceAt 3 = .ok (.bipush 16, 2) := qd_o16 0 3 qd_g473 rfl rfl
theorem dX12_traceAt_5 : decode cX12_traceAt 5 = .ok (.aload_n 0, 1) := qd_o42 0 5 qd_g473 rfl
theorem dX12_traceAt_6 : decode cX12_traceAt 6 = .ok (.getfield 50, 3) := qd_o180 0 6 qd_g473 rfl rfl
theorem dX12_traceAt_9 : decode cX12_traceAt 9 = .ok (.bipush 20, 2) := qd_o16 0 9 qd_g473 rfl rfl
theorem dX12_traceAt_11 : decode cX12_traceAt 11 = .ok (.iaload, 1) := qd_o46 0 11 qd_g473 rfl
theorem dX12_traceAt_12 : decode cX12_traceAt 12 = .ok (.invokestatic 204, 3) := qd_o184 0 12 qd_g473 rfl rfl
theorem dX12_traceAt_15 : decode cX12_traceAt 15 = .ok (.iconst 1, 1) := qd_o4 0 15 qd_g473 rfl
theorem dX12_traceAt_16 : decode cX12_traceAt 16 = .ok (.isub, 1) := qd_o100 0 16 qd_g473 rfl
theorem dX12_traceAt_17 : decode cX12_traceAt 17 = .ok (.invokestatic 119, 3) := qd_o184 0 17 qd_g473 rfl rfl
theorem dX12_traceAt_20 : decode cX12_traceAt 20 = .ok (.ifCond .eq 7, 3) := qd_o153 0 20 qd_g473 rfl rfl
theorem dX12_traceAt_23 : decode cX12_traceAt 23 = .ok (.iconst 0, 1) := qd_o3 0 23 qd_g473 rfl
theorem dX12_traceAt_24 : decode cX12_traceAt 24 = .ok (.goto 4, 3) := qd_o167 0 24 qd_g473 rfl rfl
theorem dX12_traceAt_27 : decode cX12_traceAt 27 = .ok (.iconst 1, 1) := qd_o4 0 27 qd_g473 rfl
theorem dX12_traceAt_28 : decode cX12_traceAt 28 = .ok (.invokevirtual 164, 3) := qd_o182 0 28 qd_g473 rfl rfl
theorem dX12_traceAt_31 : decode cX12_traceAt 31 = .ok (.ifCond .eq 7, 3) := qd_o153 0 31 qd_g473 rfl rfl
theorem dX12_traceAt_34 : decode cX12_traceAt 34 = .ok (.iconst 0, 1) := qd_o3 0 34 qd_g473 rfl
theorem dX12_traceAt_35 : decode cX12_traceAt 35 = .ok (.goto 22, 3) := qd_o167 0 35 qd_g473 rfl rfl
theorem dX12_traceAt_38 : decode cX12_traceAt 38 = .ok (.aload_n 0, 1) := qd_o42 0 38 qd_g473 rfl
theorem qd_g474 : qd_bs cX12_traceAt 39 [180, 0, 35, 42, 180, 0, 50, 16, 20, 46, 4, 100, 27, 100, 16, 16, 112, 46, 172] = true := by decide +kernel
theorem dX12_traceAt_39 : decode cX12_traceAt 39 = .ok (.getfield 35, 3) := qd_o180 39 0 qd_g474 rfl rfl
theorem dX12_traceAt_42 : decode cX12_traceAt 42 = .ok (.aload_n 0, 1) := qd_o42 39 3 qd_g474 rfl
theorem dX12_traceAt_43 : decode cX12_traceAt 43 = .ok (.getfield 50, 3) := qd_o180 39 4 qd_g474 rfl rfl
theorem dX12_traceAt_46 : decode cX12_traceAt 46 = .ok (.bipush 20, 2) := qd_o16 39 7 qd_g474 rfl rfl
theorem dX12_traceAt_48 : decode cX12_traceAt 48 = .ok (.iaload, 1) := qd_o46 39 9 qd_g474 rfl
theorem dX12_traceAt_49 : decode cX12_traceAt 49 = .ok (.iconst 1, 1) := qd_o4 39 10 qd_g474 rfl
theorem dX12_traceAt_50 : decode cX12_traceAt 50 = .ok (.isub, 1) := qd_o100 39 11 qd_g474 rfl
theorem dX12_traceAt_51 : decode cX12_traceAt 51 = .ok (.iload_n 1, 1) := qd_o27 39 12 qd_g474 rfl
theorem dX12_traceAt_52 : decode cX12_traceAt 52 = .ok (.isub, 1) := qd_o100 39 13 qd_g474 rfl
theorem dX12_traceAt_53 : decode cX12_traceAt 53 = .ok (.bipush 16, 2) := qd_o16 39 14 qd_g474 rfl rfl
theorem dX12_traceAt_55 : decode cX12_traceAt 55 = .ok (.irem, 1) := qd_o112 39 16 qd_g474 rfl
theorem dX12_traceAt_56 : decode cX12_traceAt 56 = .ok (.iaload, 1) := qd_o46 39 17 qd_g474 rfl
theorem dX12_traceAt_57 : decode cX12_traceAt 57 = .ok (.ireturn, 1) := qd_o172 39 18 qd_g474 rfl
theorem qd_g475 : qd_bs cX12_operationOf 0 [26, 17, 0, 128, 162, 0, 10, 26, 16, 8, 108, 167, 0, 31, 26, 17, 0, 192, 17, 0, 231, 184, 0, 119, 153, 0, 17, 16, 16, 26, 17, 0, 192, 100, 16, 8, 108, 96] = true := by decide +kernel
theorem dX12_operationOf_0 : decode cX12_operationOf 0 = .ok (.iload_n 0, 1) := qd_o26 0 0 qd_g475 rfl
theorem dX12_operationOf_1 : decode cX12_operationOf 1 = .ok (.sipush 128, 3) := qd_o17 0 1 qd_g475 rfl rfl
theorem dX12_operationOf_4 : decode cX12_operationOf 4 = .ok (.if_icmp .ge 10, 3) := qd_o162 0 4 qd_g475 rfl rfl
theorem dX12_operationOf_7 : decode cX12_operationOf 7 = .ok (.iload_n 0, 1) := qd_o26 0 7 qd_g475 rfl
theorem dX12_operationOf_8 : decode cX12_operationOf 8 = .ok (.bipush 8, 2) := qd_o16 0 8 qd_g475 rfl rfl
theorem dX12_operationOf_10 : decode cX12_operationOf 10 = .ok (.idiv, 1) := qd_o108 0 10 qd_g475 rfl
theorem dX12_operationOf_11 : decode cX12_operationOf 11 = .ok (.goto 31, 3) := qd_o167 0 11 qd_g475 rfl rfl
theorem dX12_operationOf_14 : decode cX12_operationOf 14 = .ok (.iload_n 0, 1) := qd_o26 0 14 qd_g475 rfl
theorem dX12_operationOf_15 : decode cX12_operationOf 15 = .ok (.sipush 192, 3) := qd_o17 0 15 qd_g475 rfl rfl
theorem dX12_operationOf_18 : decode cX12_operationOf 18 = .ok (.sipush 231, 3) := qd_o17 0 18 qd_g475 rfl rfl
theorem dX12_operationOf_21 : decode cX12_operationOf 21 = .ok (.invokestatic 119, 3) := qd_o184 0 21 qd_g475 rfl rfl
theorem dX12_operationOf_24 : decode cX12_operationOf 24 = .ok (.ifCond .eq 17, 3) := qd_o153 0 24 qd_g475 rfl rfl
theorem dX12_operationOf_27 : decode cX12_operationOf 27 = .ok (.bipush 16, 2) := qd_o16 0 27 qd_g475 rfl rfl
theorem dX12_operationOf_29 : decode cX12_operationOf 29 = .ok (.iload_n 0, 1) := qd_o26 0 29 qd_g475 rfl
theorem dX12_operationOf_30 : decode cX12_operationOf 30 = .ok (.sipush 192, 3) := qd_o17 0 30 qd_g475 rfl rfl
theorem dX12_operationOf_33 : decode cX12_operationOf 33 = .ok (.isub, 1) := qd_o100 0 33 qd_g475 rfl
theorem dX12_operationOf_34 : decode cX12_operationOf 34 = .ok (.bipush 8, 2) := qd_o16 0 34 qd_g475 rfl rfl
theorem dX12_operationOf_36 : decode cX12_operationOf 36 = .ok (.idiv, 1) := qd_o108 0 36 qd_g475 rfl
theorem dX12_operationOf_37 : decode cX12_operationOf 37 = .ok (.iadd, 1) := qd_o96 0 37 qd_g475 rfl
theorem qd_g476 : qd_bs cX12_operationOf 38 [167, 0, 4, 2, 172] = true := by decide +kernel
theorem dX12_operationOf_38 : decode cX12_operationOf 38 = .ok (.goto 4, 3) := qd_o167 38 0 qd_g476 rfl rfl
theorem dX12_operationOf_41 : decode cX12_operationOf 41 = .ok (.iconst (-1), 1) := qd_o2 38 3 qd_g476 rfl
theorem dX12_operationOf_42 : decode cX12_operationOf 42 = .ok (.ireturn, 1) := qd_o172 38 4 qd_g476 rfl
theorem qd_g477 : qd_bs cX12_isWriting 0 [26, 6, 8, 184, 0, 119, 154, 0, 25, 26, 16, 14, 16, 15, 184, 0, 119, 154, 0, 14, 26, 16, 17, 16, 19, 184, 0, 119, 153, 0, 7, 4, 167, 0, 4, 3, 172] = true := by decide +kernel
theorem dX12_isWriting_0 : decode cX12_isWriting 0 = .ok (.iload_n 0, 1) := qd_o26 0 0 qd_g477 rfl
theorem dX12_isWriting_1 : decode cX12_isWriting 1 = .ok (.iconst 3, 1) := qd_o6 0 1 qd_g477 rfl
theorem dX12_isWriting_2 : decode cX12_isWriting 2 = .ok (.iconst 5, 1) := qd_o8 0 2 qd_g477 rfl
theorem dX12_isWriting_3 : decode cX12_isWriting 3 = .ok (.invokestatic 119, 3) := qd_o184 0 3 qd_g477 rfl rfl
theorem dX12_isWriting_6 : decode cX12_isWriting 6 = .ok (.ifCond .ne 25, 3) := qd_o154 0 6 qd_g477 rfl rfl
theorem dX12_isWriting_9 : decode cX12_isWriting 9 = .ok (.iload_n 0, 1) := qd_o26 0 9 qd_g477 rfl
theorem dX12_isWriting_10 : decode cX12_isWriting 10 = .ok (.bipush 14, 2) := qd_o16 0 10 qd_g477 rfl rfl
theorem dX12_isWriting_12 : decode cX12_isWriting 12 = .ok (.bipush 15, 2) := qd_o16 0 12 qd_g477 rfl rfl
theorem dX12_isWriting_14 : decode cX12_isWriting 14 = .ok (.invokestatic 119, 3) := qd_o184 0 14 qd_g477 rfl rfl
theorem dX12_isWriting_17 : decode cX12_isWriting 17 = .ok (.ifCond .ne 14, 3) := qd_o154 0 17 qd_g477 rfl rfl
theorem dX12_isWriting_20 : decode cX12_isWriting 20 = .ok (.iload_n 0, 1) := qd_o26 0 20 qd_g477 rfl
theorem dX12_isWriting_21 : decode cX12_isWriting 21 = .ok (.bipush 17, 2) := qd_o16 0 21 qd_g477 rfl rfl
theorem dX12_isWriting_23 : decode cX12_isWriting 23 = .ok (.bipush 19, 2) := qd_o16 0 23 qd_g477 rfl rfl
theorem dX12_isWriting_25 : decode cX12_isWriting 25 = .ok (.invokestatic 119, 3) := qd_o184 0 25 qd_g477 rfl rfl
theorem dX12_isWriting_28 : decode cX12_isWriting 28 = .ok (.ifCond .eq 7, 3) := qd_o153 0 28 qd_g477 rfl rfl
theorem dX12_isWriting_31 : decode cX12_isWriting 31 = .ok (.iconst 1, 1) := qd_o4 0 31 qd_g477 rfl
theorem dX12_isWriting_32 : decode cX12_isWriting 32 = .ok (.goto 4, 3) := qd_o167 0 32 qd_g477 rfl rfl
theorem dX12_isWriting_35 : decode cX12_isWriting 35 = .ok (.iconst 0, 1) := qd_o3 0 35 qd_g477 rfl
theorem dX12_isWriting_36 : decode cX12_isWriting 36 = .ok (.ireturn, 1) := qd_o172 0 36 qd_g477 rfl
theorem qd_g478 : qd_bs cX12_lengthOf 0 [26, 184, 0, 247, 60, 27, 155, 0, 21, 26, 16, 8, 112, 6, 8, 184, 0, 119, 153, 0, 7, 6, 167, 0, 4, 5, 172, 26, 17, 0, 157, 17, 0, 159, 184, 0, 119, 153, 0, 5] = true := by decide +kernel
theorem dX12_lengthOf_0 : decode cX12_lengthOf 0 = .ok (.iload_n 0, 1) := qd_o26 0 0 qd_g478 rfl
theorem dX12_lengthOf_1 : decode cX12_lengthOf 1 = .ok (.invokestatic 247, 3) := qd_o184 0 1 qd_g478 rfl rfl
theorem dX12_lengthOf_4 : decode cX12_lengthOf 4 = .ok (.istore_n 1, 1) := qd_o60 0 4 qd_g478 rfl
theorem dX12_lengthOf_5 : decode cX12_lengthOf 5 = .ok (.iload_n 1, 1) := qd_o27 0 5 qd_g478 rfl
theorem dX12_lengthOf_6 : decode cX12_lengthOf 6 = .ok (.ifCond .lt 21, 3) := qd_o155 0 6 qd_g478 rfl rfl
theorem dX12_lengthOf_9 : decode cX12_lengthOf 9 = .ok (.iload_n 0, 1) := qd_o26 0 9 qd_g478 rfl
theorem dX12_lengthOf_10 : decode cX12_lengthOf 10 = .ok (.bipush 8, 2) := qd_o16 0 10 qd_g478 rfl rfl
theorem dX12_lengthOf_12 : decode cX12_lengthOf 12 = .ok (.irem, 1) := qd_o112 0 12 qd_g478 rfl
theorem dX12_lengthOf_13 : decode cX12_lengthOf 13 = .ok (.iconst 3, 1) := qd_o6 0 13 qd_g478 rfl
theorem dX12_lengthOf_14 : decode cX12_lengthOf 14 = .ok (.iconst 5, 1) := qd_o8 0 14 qd_g478 rfl
theorem dX12_lengthOf_15 : decode cX12_lengthOf 15 = .ok (.invokestatic 119, 3) := qd_o184 0 15 qd_g478 rfl rfl
theorem dX12_lengthOf_18 : decode cX12_lengthOf 18 = .ok (.ifCond .eq 7, 3) := qd_o153 0 18 qd_g478 rfl rfl
theorem dX12_lengthOf_21 : decode cX12_lengthOf 21 = .ok (.iconst 3, 1) := qd_o6 0 21 qd_g478 rfl
theorem dX12_lengthOf_22 : decode cX12_lengthOf 22 = .ok (.goto 4, 3) := qd_o167 0 22 qd_g478 rfl rfl
theorem dX12_lengthOf_25 : decode cX12_lengthOf 25 = .ok (.iconst 2, 1) := qd_o5 0 25 qd_g478 rfl
theorem dX12_lengthOf_26 : decode cX12_lengthOf 26 = .ok (.ireturn, 1) := qd_o172 0 26 qd_g478 rfl
theorem dX12_lengthOf_27 : decode cX12_lengthOf 27 = .ok (.iload_n 0, 1) := qd_o26 0 27 qd_g478 rfl
theorem dX12_lengthOf_28 : decode cX12_lengthOf 28 = .ok (.sipush 157, 3) := qd_o17 0 28 qd_g478 rfl rfl
theorem dX12_lengthOf_31 : decode cX12_lengthOf 31 = .ok (.sipush 159, 3) := qd_o17 0 31 qd_g478 rfl rfl
theorem dX12_lengthOf_34 : decode cX12_lengthOf 34 = .ok (.invokestatic 119, 3) := qd_o184 0 34 qd_g478 rfl rfl
theorem dX12_lengthOf_37 : decode cX12_lengthOf 37 = .ok (.ifCond .eq 5, 3) := qd_o153 0 37 qd_g478 rfl rfl
theorem qd_g479 : qd_bs cX12_lengthOf 40 [6, 172, 26, 17, 0, 160, 17, 0, 167, 184, 0, 119, 153, 0, 7, 5, 167, 0, 4, 4, 172] = true := by decide +kernel
theorem dX12_lengthOf_40 : decode cX12_lengthOf 40 = .ok (.iconst 3, 1) := qd_o6 40 0 qd_g479 rfl
theorem dX12_lengthOf_41 : decode cX12_lengthOf 41 = .ok (.ireturn, 1) := qd_o172 40 1 qd_g479 rfl
theorem dX12_lengthOf_42 : decode cX12_lengthOf 42 = .ok (.iload_n 0, 1) := qd_o26 40 2 qd_g479 rfl
theorem dX12_lengthOf_43 : decode cX12_lengthOf 43 = .ok (.sipush 160, 3) := qd_o17 40 3 qd_g479 rfl rfl
theorem dX12_lengthOf_46 : decode cX12_lengthOf 46 = .ok (.sipush 167, 3) := qd_o17 40 6 qd_g479 rfl rfl
theorem dX12_lengthOf_49 : decode cX12_lengthOf 49 = .ok (.invokestatic 119, 3) := qd_o184 40 9 qd_g479 rfl rfl
theorem dX12_lengthOf_52 : decode cX12_lengthOf 52 = .ok (.ifCond .eq 7, 3) := qd_o153 40 12 qd_g479 rfl rfl
theorem dX12_lengthOf_55 : decode cX12_lengthOf 55 = .ok (.iconst 2, 1) := qd_o5 40 15 qd_g479 rfl
theorem dX12_lengthOf_56 : decode cX12_lengthOf 56 = .ok (.goto 4, 3) := qd_o167 40 16 qd_g479 rfl rfl
theorem dX12_lengthOf_59 : decode cX12_lengthOf 59 = .ok (.iconst 1, 1) := qd_o4 40 19 qd_g479 rfl
theorem dX12_lengthOf_60 : decode cX12_lengthOf 60 = .ok (.ireturn, 1) := qd_o172 40 20 qd_g479 rfl
theorem qd_g480 : qd_bs cX12_byteAt 0 [42, 27, 184, 0, 176, 182, 0, 167, 172] = true := by decide +kernel
theorem dX12_byteAt_0 : decode cX12_byteAt 0 = .ok (.aload_n 0, 1) := qd_o42 0 0 qd_g480 rfl
theorem dX12_byteAt_1 : decode cX12_byteAt 1 = .ok (.iload_n 1, 1) := qd_o27 0 1 qd_g480 rfl
theorem dX12_byteAt_2 : decode cX12_byteAt 2 = .ok (.invokestatic 176, 3) := qd_o184 0 2 qd_g480 rfl rfl
theorem dX12_byteAt_5 : decode cX12_byteAt 5 = .ok (.invokevirtual 167, 3) := qd_o182 0 5 qd_g480 rfl rfl
theorem dX12_byteAt_8 : decode cX12_byteAt 8 = .ok (.ireturn, 1) := qd_o172 0 8 qd_g480 rfl
theorem qd_g481 : qd_bs cX12_wordAt 0 [42, 27, 182, 0, 250, 17, 1, 0, 42, 27, 4, 96, 182, 0, 250, 104, 96, 184, 0, 176, 172] = true := by decide +kernel
theorem dX12_wordAt_0 : decode cX12_wordAt 0 = .ok (.aload_n 0, 1) := qd_o42 0 0 qd_g481 rfl
theorem dX12_wordAt_1 : decode cX12_wordAt 1 = .ok (.iload_n 1, 1) := qd_o27 0 1 qd_g481 rfl
theorem dX12_wordAt_2 : decode cX12_wordAt 2 = .ok (.invokevirtual 250, 3) := qd_o182 0 2 qd_g481 rfl rfl
theorem dX12_wordAt_5 : decode cX12_wordAt 5 = .ok (.sipush 256, 3) := qd_o17 0 5 qd_g481 rfl rfl
theorem dX12_wordAt_8 : decode cX12_wordAt 8 = .ok (.aload_n 0, 1) := qd_o42 0 8 qd_g481 rfl
theorem dX12_wordAt_9 : decode cX12_wordAt 9 = .ok (.iload_n 1, 1) := qd_o27 0 9 qd_g481 rfl
theorem dX12_wordAt_10 : decode cX12_wordAt 10 = .ok (.iconst 1, 1) := qd_o4 0 10 qd_g481 rfl
theorem dX12_wordAt_11 : decode cX12_wordAt 11 = .ok (.iadd, 1) := qd_o96 0 11 qd_g481 rfl
theorem dX12_wordAt_12 : decode cX12_wordAt 12 = .ok (.invokevirtual 250, 3) := qd_o182 0 12 qd_g481 rfl rfl
theorem dX12_wordAt_15 : decode cX12_wordAt 15 = .ok (.imul, 1) := qd_o104 0 15 qd_g481 rfl
theorem dX12_wordAt_16 : decode cX12_wordAt 16 = .ok (.iadd, 1) := qd_o96 0 16 qd_g481 rfl
theorem dX12_wordAt_17 : decode cX12_wordAt 17 = .ok (.invokestatic 176, 3) := qd_o184 0 17 qd_g481 rfl rfl
theorem dX12_wordAt_20 : decode cX12_wordAt 20 = .ok (.ireturn, 1) := qd_o172 0 20 qd_g481 rfl
theorem qd_g482 : qd_bs cX12_baseOf 0 [27, 16, 6, 162, 0, 11, 42, 28, 4, 96, 182, 0, 253, 172, 42, 28, 4, 96, 182, 0, 250, 62, 42, 29, 182, 0, 250, 17, 1, 0, 42, 29, 4, 96, 17, 1, 0, 112] = true := by decide +kernel
theorem dX12_baseOf_0 : decode cX12_baseOf 0 = .ok (.iload_n 1, 1) := qd_o27 0 0 qd_g482 rfl
theorem dX12_baseOf_1 : decode cX12_baseOf 1 = .ok (.bipush 6, 2) := qd_o16 0 1 qd_g482 rfl rfl
theorem dX12_baseOf_3 : decode cX12_baseOf 3 = .ok (.if_icmp .ge 11, 3) := qd_o162 0 3 qd_g482 rfl rfl
theorem dX12_baseOf_6 : decode cX12_baseOf 6 = .ok (.aload_n 0, 1) := qd_o42 0 6 qd_g482 rfl
theorem dX12_baseOf_7 : decode cX12_baseOf 7 = .ok (.iload_n 2, 1) := qd_o28 0 7 qd_g482 rfl
theorem dX12_baseOf_8 : decode cX12_baseOf 8 = .ok (.iconst 1, 1) := qd_o4 0 8 qd_g482 rfl
theorem dX12_baseOf_9 : decode cX12_baseOf 9 = .ok (.iadd, 1) := qd_o96 0 9 qd_g482 rfl
theorem dX12_baseOf_10 : decode cX12_baseOf 10 = .ok (.invokevirtual 253, 3) := qd_o182 0 10 qd_g482 rfl rfl
theorem dX12_baseOf_13 : decode cX12_baseOf 13 = .ok (.ireturn, 1) := qd_o172 0 13 qd_g482 rfl
theorem dX12_baseOf_14 : decode cX12_baseOf 14 = .ok (.aload_n 0, 1) := qd_o42 0 14 qd_g482 rfl
theorem dX12_baseOf_15 : decode cX12_baseOf 15 = .ok (.iload_n 2, 1) := qd_o28 0 15 qd_g482 rfl
theorem dX12_baseOf_16 : decode cX12_baseOf 16 = .ok (.iconst 1, 1) := qd_o4 0 16 qd_g482 rfl
theorem dX12_baseOf_17 : decode cX12_baseOf 17 = .ok (.iadd, 1) := qd_o96 0 17 qd_g482 rfl
theorem dX12_baseOf_18 : decode cX12_baseOf 18 = .ok (.invokevirtual 250, 3) := qd_o182 0 18 qd_g482 rfl rfl
theorem dX12_baseOf_21 : decode cX12_baseOf 21 = .ok (.istore_n 3, 1) := qd_o62 0 21 qd_g482 rfl
theorem dX12_baseOf_22 : decode cX12_baseOf 22 = .ok (.aload_n 0, 1) := qd_o42 0 22 qd_g482 rfl
theorem dX12_baseOf_23 : decode cX12_baseOf 23 = .ok (.iload_n 3, 1) := qd_o29 0 23 qd_g482 rfl
theorem dX12_baseOf_24 : decode cX12_baseOf 24 = .ok (.invokevirtual 250, 3) := qd_o182 0 24 qd_g482 rfl rfl
theorem dX12_baseOf_27 : decode cX12_baseOf 27 = .ok (.sipush 256, 3) := qd_o17 0 27 qd_g482 rfl rfl
theorem dX12_baseOf_30 : decode cX12_baseOf 30 = .ok (.aload_n 0, 1) := qd_o42 0 30 qd_g482 rfl
theorem dX12_baseOf_31 : decode cX12_baseOf 31 = .ok (.iload_n 3, 1) := qd_o29 0 31 qd_g482 rfl
theorem dX12_baseOf_32 : decode cX12_baseOf 32 = .ok (.iconst 1, 1) := qd_o4 0 32 qd_g482 rfl
theorem dX12_baseOf_33 : decode cX12_baseOf 33 = .ok (.iadd, 1) := qd_o96 0 33 qd_g482 rfl
theorem dX12_baseOf_34 : decode cX12_baseOf 34 = .ok (.sipush 256, 3) := qd_o17 0 34 qd_g482 rfl rfl
theorem dX12_baseOf_37 : decode cX12_baseOf 37 = .ok (.irem, 1) := qd_o112 0 37 qd_g482 rfl
theorem qd_g483 : qd_bs cX12_baseOf 38 [182, 0, 250, 104, 96, 184, 0, 176, 172] = true := by decide +kernel
theorem dX12_baseOf_38 : decode cX12_baseOf 38 = .ok (.invokevirtual 250, 3) := qd_o182 38 0 qd_g483 rfl rfl
theorem dX12_baseOf_41 : decode cX12_baseOf 41 = .ok (.imul, 1) := qd_o104 38 3 qd_g483 rfl
theorem dX12_baseOf_42 : decode cX12_baseOf 42 = .ok (.iadd, 1) := qd_o96 38 4 qd_g483 rfl
theorem dX12_baseOf_43 : decode cX12_baseOf 43 = .ok (.invokestatic 176, 3) := qd_o184 38 5 qd_g483 rfl rfl
theorem dX12_baseOf_46 : decode cX12_baseOf 46 = .ok (.ireturn, 1) := qd_o172 38 8 qd_g483 rfl
theorem qd_g484 : qd_bs cX12_addressOf 0 [27, 4, 160, 0, 11, 42, 28, 4, 96, 182, 0, 250, 172, 27, 5, 160, 0, 22, 42, 28, 4, 96, 182, 0, 250, 42, 180, 0, 50, 4, 46, 96, 17, 1, 0, 112, 172, 27, 6] = true := by decide +kernel
theorem dX12_addressOf_0 : decode cX12_addressOf 0 = .ok (.iload_n 1, 1) := qd_o27 0 0 qd_g484 rfl
theorem dX12_addressOf_1 : decode cX12_addressOf 1 = .ok (.iconst 1, 1) := qd_o4 0 1 qd_g484 rfl
theorem dX12_addressOf_2 : decode cX12_addressOf 2 = .ok (.if_icmp .ne 11, 3) := qd_o160 0 2 qd_g484 rfl rfl
theorem dX12_addressOf_5 : decode cX12_addressOf 5 = .ok (.aload_n 0, 1) := qd_o42 0 5 qd_g484 rfl
theorem dX12_addressOf_6 : decode cX12_addressOf 6 = .ok (.iload_n 2, 1) := qd_o28 0 6 qd_g484 rfl
theorem dX12_addressOf_7 : decode cX12_addressOf 7 = .ok (.iconst 1, 1) := qd_o4 0 7 qd_g484 rfl
theorem dX12_addressOf_8 : decode cX12_addressOf 8 = .ok (.iadd, 1) := qd_o96 0 8 qd_g484 rfl
theorem dX12_addressOf_9 : decode cX12_addressOf 9 = .ok (.invokevirtual 250, 3) := qd_o182 0 9 qd_g484 rfl rfl
theorem dX12_addressOf_12 : decode cX12_addressOf 12 = .ok (.ireturn, 1) := qd_o172 0 12 qd_g484 rfl
theorem dX12_addressOf_13 : decode cX12_addressOf 13 = .ok (.iload_n 1, 1) := qd_o27 0 13 qd_g484 rfl
theorem dX12_addressOf_14 : decode cX12_addressOf 14 = .ok (.iconst 2, 1) := qd_o5 0 14 qd_g484 rfl
theorem dX12_addressOf_15 : decode cX12_addressOf 15 = .ok (.if_icmp .ne 22, 3) := qd_o160 0 15 qd_g484 rfl rfl
theorem dX12_addressOf_18 : decode cX12_addressOf 18 = .ok (.aload_n 0, 1) := qd_o42 0 18 qd_g484 rfl
theorem dX12_addressOf_19 : decode cX12_addressOf 19 = .ok (.iload_n 2, 1) := qd_o28 0 19 qd_g484 rfl
theorem dX12_addressOf_20 : decode cX12_addressOf 20 = .ok (.iconst 1, 1) := qd_o4 0 20 qd_g484 rfl
theorem dX12_addressOf_21 : decode cX12_addressOf 21 = .ok (.iadd, 1) := qd_o96 0 21 qd_g484 rfl
theorem dX12_addressOf_22 : decode cX12_addressOf 22 = .ok (.invokevirtual 250, 3) := qd_o182 0 22 qd_g484 rfl rfl
theorem dX12_addressOf_25 : decode cX12_addressOf 25 = .ok (.aload_n 0, 1) := qd_o42 0 25 qd_g484 rfl
theorem dX12_addressOf_26 : decode cX12_addressOf 26 = .ok (.getfield 50, 3) := qd_o180 0 26 qd_g484 rfl rfl
theorem dX12_addressOf_29 : decode cX12_addressOf 29 = .ok (.iconst 1, 1) := qd_o4 0 29 qd_g484 rfl
theorem dX12_addressOf_30 : decode cX12_addressOf 30 = .ok (.iaload, 1) := qd_o46 0 30 qd_g484 rfl
theorem dX12_addressOf_31 : decode cX12_addressOf 31 = .ok (.iadd, 1) := qd_o96 0 31 qd_g484 rfl
theorem dX12_addressOf_32 : decode cX12_addressOf 32 = .ok (.sipush 256, 3) := qd_o17 0 32 qd_g484 rfl rfl
theorem dX12_addressOf_35 : decode cX12_addressOf 35 = .ok (.irem, 1) := qd_o112 0 35 qd_g484 rfl
theorem dX12_addressOf_36 : decode cX12_addressOf 36 = .ok (.ireturn, 1) := qd_o172 0 36 qd_g484 rfl
theorem dX12_addressOf_37 : decode cX12_addressOf 37 = .ok (.iload_n 1, 1) := qd_o27 0 37 qd_g484 rfl
theorem dX12_addressOf_38 : decode cX12_addressOf 38 = .ok (.iconst 3, 1) := qd_o6 0 38 qd_g484 rfl
theorem qd_g485 : qd_bs cX12_addressOf 39 [160, 0, 11, 42, 28, 4, 96, 182, 0, 253, 172, 27, 7, 160, 0, 20, 42, 27, 28, 182, 1, 0, 42, 180, 0, 50, 4, 46, 96, 184, 0, 176, 172, 27, 16, 7, 162, 0, 20, 42] = true := by decide +kernel
theorem dX12_addressOf_39 : decode cX12_addressOf 39 = .ok (.if_icmp .ne 11, 3) := qd_o160 39 0 qd_g485 rfl rfl
theorem dX12_addressOf_42 : decode cX12_addressOf 42 = .ok (.aload_n 0, 1) := qd_o42 39 3 qd_g485 rfl
theorem dX12_addressOf_43 : decode cX12_addressOf 43 = .ok (.iload_n 2, 1) := qd_o28 39 4 qd_g485 rfl
theorem dX12_addressOf_44 : decode cX12_addressOf 44 = .ok (.iconst 1, 1) := qd_o4 39 5 qd_g485 rfl
theorem dX12_addressOf_45 : decode cX12_addressOf 45 = .ok (.iadd, 1) := qd_o96 39 6 qd_g485 rfl
theorem dX12_addressOf_46 : decode cX12_addressOf 46 = .ok (.invokevirtual 253, 3) := qd_o182 39 7 qd_g485 rfl rfl
theorem dX12_addressOf_49 : decode cX12_addressOf 49 = .ok (.ireturn, 1) := qd_o172 39 10 qd_g485 rfl
theorem dX12_addressOf_50 : decode cX12_addressOf 50 = .ok (.iload_n 1, 1) := qd_o27 39 11 qd_g485 rfl
theorem dX12_addressOf_51 : decode cX12_addressOf 51 = .ok (.iconst 4, 1) := qd_o7 39 12 qd_g485 rfl
theorem dX12_addressOf_52 : decode cX12_addressOf 52 = .ok (.if_icmp .ne 20, 3) := qd_o160 39 13 qd_g485 rfl rfl
theorem dX12_addressOf_55 : decode cX12_addressOf 55 = .ok (.aload_n 0, 1) := qd_o42 39 16 qd_g485 rfl
theorem dX12_addressOf_56 : decode cX12_addressOf 56 = .ok (.iload_n 1, 1) := qd_o27 39 17 qd_g485 rfl
theorem dX12_addressOf_57 : decode cX12_addressOf 57 = .ok (.iload_n 2, 1) := qd_o28 39 18 qd_g485 rfl
theorem dX12_addressOf_58 : decode cX12_addressOf 58 = .ok (.invokevirtual 256, 3) := qd_o182 39 19 qd_g485 rfl rfl
theorem dX12_addressOf_61 : decode cX12_addressOf 61 = .ok (.aload_n 0, 1) := qd_o42 39 22 qd_g485 rfl
theorem dX12_addressOf_62 : decode cX12_addressOf 62 = .ok (.getfield 50, 3) := qd_o180 39 23 qd_g485 rfl rfl
theorem dX12_addressOf_65 : decode cX12_addressOf 65 = .ok (.iconst 1, 1) := qd_o4 39 26 qd_g485 rfl
theorem dX12_addressOf_66 : decode cX12_addressOf 66 = .ok (.iaload, 1) := qd_o46 39 27 qd_g485 rfl
theorem dX12_addressOf_67 : decode cX12_addressOf 67 = .ok (.iadd, 1) := qd_o96 39 28 qd_g485 rfl
theorem dX12_addressOf_68 : decode cX12_addressOf 68 = .ok (.invokestatic 176, 3) := qd_o184 39 29 qd_g485 rfl rfl
theorem dX12_addressOf_71 : decode cX12_addressOf 71 = .ok (.ireturn, 1) := qd_o172 39 32 qd_g485 rfl
theorem dX12_addressOf_72 : decode cX12_addressOf 72 = .ok (.iload_n 1, 1) := qd_o27 39 33 qd_g485 rfl
theorem dX12_addressOf_73 : decode cX12_addressOf 73 = .ok (.bipush 7, 2) := qd_o16 39 34 qd_g485 rfl rfl
theorem dX12_addressOf_75 : decode cX12_addressOf 75 = .ok (.if_icmp .ge 20, 3) := qd_o162 39 36 qd_g485 rfl rfl
theorem dX12_addressOf_78 : decode cX12_addressOf 78 = .ok (.aload_n 0, 1) := qd_o42 39 39 qd_g485 rfl
theorem qd_g486 : qd_bs cX12_addressOf 79 [27, 28, 182, 1, 0, 42, 180, 0, 50, 5, 46, 96, 184, 0, 176, 172, 42, 28, 4, 96, 182, 0, 250, 42, 180, 0, 50, 4, 46, 96, 17, 1, 0, 112, 62, 42, 29, 182, 0, 250] = true := by decide +kernel
theorem dX12_addressOf_79 : decode cX12_addressOf 79 = .ok (.iload_n 1, 1) := qd_o27 79 0 qd_g486 rfl
theorem dX12_addressOf_80 : decode cX12_addressOf 80 = .ok (.iload_n 2, 1) := qd_o28 79 1 qd_g486 rfl
theorem dX12_addressOf_81 : decode cX12_addressOf 81 = .ok (.invokevirtual 256, 3) := qd_o182 79 2 qd_g486 rfl rfl
theorem dX12_addressOf_84 : decode cX12_addressOf 84 = .ok (.aload_n 0, 1) := qd_o42 79 5 qd_g486 rfl
theorem dX12_addressOf_85 : decode cX12_addressOf 85 = .ok (.getfield 50, 3) := qd_o180 79 6 qd_g486 rfl rfl
theorem dX12_addressOf_88 : decode cX12_addressOf 88 = .ok (.iconst 2, 1) := qd_o5 79 9 qd_g486 rfl
theorem dX12_addressOf_89 : decode cX12_addressOf 89 = .ok (.iaload, 1) := qd_o46 79 10 qd_g486 rfl
theorem dX12_addressOf_90 : decode cX12_addressOf 90 = .ok (.iadd, 1) := qd_o96 79 11 qd_g486 rfl
theorem dX12_addressOf_91 : decode cX12_addressOf 91 = .ok (.invokestatic 176, 3) := qd_o184 79 12 qd_g486 rfl rfl
theorem dX12_addressOf_94 : decode cX12_addressOf 94 = .ok (.ireturn, 1) := qd_o172 79 15 qd_g486 rfl
theorem dX12_addressOf_95 : decode cX12_addressOf 95 = .ok (.aload_n 0, 1) := qd_o42 79 16 qd_g486 rfl
theorem dX12_addressOf_96 : decode cX12_addressOf 96 = .ok (.iload_n 2, 1) := qd_o28 79 17 qd_g486 rfl
theorem dX12_addressOf_97 : decode cX12_addressOf 97 = .ok (.iconst 1, 1) := qd_o4 79 18 qd_g486 rfl
theorem dX12_addressOf_98 : decode cX12_addressOf 98 = .ok (.iadd, 1) := qd_o96 79 19 qd_g486 rfl
theorem dX12_addressOf_99 : decode cX12_addressOf 99 = .ok (.invokevirtual 250, 3) := qd_o182 79 20 qd_g486 rfl rfl
theorem dX12_addressOf_102 : decode cX12_addressOf 102 = .ok (.aload_n 0, 1) := qd_o42 79 23 qd_g486 rfl
theorem dX12_addressOf_103 : decode cX12_addressOf 103 = .ok (.getfield 50, 3) := qd_o180 79 24 qd_g486 rfl rfl
theorem dX12_addressOf_106 : decode cX12_addressOf 106 = .ok (.iconst 1, 1) := qd_o4 79 27 qd_g486 rfl
theorem dX12_addressOf_107 : decode cX12_addressOf 107 = .ok (.iaload, 1) := qd_o46 79 28 qd_g486 rfl
theorem dX12_addressOf_108 : decode cX12_addressOf 108 = .ok (.iadd, 1) := qd_o96 79 29 qd_g486 rfl
theorem dX12_addressOf_109 : decode cX12_addressOf 109 = .ok (.sipush 256, 3) := qd_o17 79 30 qd_g486 rfl rfl
theorem dX12_addressOf_112 : decode cX12_addressOf 112 = .ok (.irem, 1) := qd_o112 79 33 qd_g486 rfl
theorem dX12_addressOf_113 : decode cX12_addressOf 113 = .ok (.istore_n 3, 1) := qd_o62 79 34 qd_g486 rfl
theorem dX12_addressOf_114 : decode cX12_addressOf 114 = .ok (.aload_n 0, 1) := qd_o42 79 35 qd_g486 rfl
theorem dX12_addressOf_115 : decode cX12_addressOf 115 = .ok (.iload_n 3, 1) := qd_o29 79 36 qd_g486 rfl
theorem dX12_addressOf_116 : decode cX12_addressOf 116 = .ok (.invokevirtual 250, 3) := qd_o182 79 37 qd_g486 rfl rfl
theorem qd_g487 : qd_bs cX12_addressOf 119 [17, 1, 0, 42, 29, 4, 96, 17, 1, 0, 112, 182, 0, 250, 104, 96, 184, 0, 176, 172] = true := by decide +kernel
theorem dX12_addressOf_119 : decode cX12_addressOf 119 = .ok (.sipush 256, 3) := qd_o17 119 0 qd_g487 rfl rfl
theorem dX12_addressOf_122 : decode cX12_addressOf 122 = .ok (.aload_n 0, 1) := qd_o42 119 3 qd_g487 rfl
theorem dX12_addressOf_123 : decode cX12_addressOf 123 = .ok (.iload_n 3, 1) := qd_o29 119 4 qd_g487 rfl
theorem dX12_addressOf_124 : decode cX12_addressOf 124 = .ok (.iconst 1, 1) := qd_o4 119 5 qd_g487 rfl
theorem dX12_addressOf_125 : decode cX12_addressOf 125 = .ok (.iadd, 1) := qd_o96 119 6 qd_g487 rfl
theorem dX12_addressOf_126 : decode cX12_addressOf 126 = .ok (.sipush 256, 3) := qd_o17 119 7 qd_g487 rfl rfl
theorem dX12_addressOf_129 : decode cX12_addressOf 129 = .ok (.irem, 1) := qd_o112 119 10 qd_g487 rfl
theorem dX12_addressOf_130 : decode cX12_addressOf 130 = .ok (.invokevirtual 250, 3) := qd_o182 119 11 qd_g487 rfl rfl
theorem dX12_addressOf_133 : decode cX12_addressOf 133 = .ok (.imul, 1) := qd_o104 119 14 qd_g487 rfl
theorem dX12_addressOf_134 : decode cX12_addressOf 134 = .ok (.iadd, 1) := qd_o96 119 15 qd_g487 rfl
theorem dX12_addressOf_135 : decode cX12_addressOf 135 = .ok (.invokestatic 176, 3) := qd_o184 119 16 qd_g487 rfl rfl
theorem dX12_addressOf_138 : decode cX12_addressOf 138 = .ok (.ireturn, 1) := qd_o172 119 19 qd_g487 rfl
theorem qd_g488 : qd_bs cX12_modeCycles 0 [28, 154, 0, 5, 5, 172, 27, 16, 14, 16, 15, 184, 0, 119, 154, 0, 14, 27, 16, 18, 16, 19, 184, 0, 119, 153, 0, 7, 5, 167, 0, 4, 3, 54, 4, 28, 4, 160, 0, 7] = true := by decide +kernel
theorem dX12_modeCycles_0 : decode cX12_modeCycles 0 = .ok (.iload_n 2, 1) := qd_o28 0 0 qd_g488 rfl
theorem dX12_modeCycles_1 : decode cX12_modeCycles 1 = .ok (.ifCond .ne 5, 3) := qd_o154 0 1 qd_g488 rfl rfl
theorem dX12_modeCycles_4 : decode cX12_modeCycles 4 = .ok (.iconst 2, 1) := qd_o5 0 4 qd_g488 rfl
theorem dX12_modeCycles_5 : decode cX12_modeCycles 5 = .ok (.ireturn, 1) := qd_o172 0 5 qd_g488 rfl
theorem dX12_modeCycles_6 : decode cX12_modeCycles 6 = .ok (.iload_n 1, 1) := qd_o27 0 6 qd_g488 rfl
theorem dX12_modeCycles_7 : decode cX12_modeCycles 7 = .ok (.bipush 14, 2) := qd_o16 0 7 qd_g488 rfl rfl
theorem dX12_modeCycles_9 : decode cX12_modeCycles 9 = .ok (.bipush 15, 2) := qd_o16 0 9 qd_g488 rfl rfl
theorem dX12_modeCycles_11 : decode cX12_modeCycles 11 = .ok (.invokestatic 119, 3) := qd_o184 0 11 qd_g488 rfl rfl
theorem dX12_modeCycles_14 : decode cX12_modeCycles 14 = .ok (.ifCond .ne 14, 3) := qd_o154 0 14 qd_g488 rfl rfl
theorem dX12_modeCycles_17 : decode cX12_modeCycles 17 = .ok (.iload_n 1, 1) := qd_o27 0 17 qd_g488 rfl
theorem dX12_modeCycles_18 : decode cX12_modeCycles 18 = .ok (.bipush 18, 2) := qd_o16 0 18 qd_g488 rfl rfl
theorem dX12_modeCycles_20 : decode cX12_modeCycles 20 = .ok (.bipush 19, 2) := qd_o16 0 20 qd_g488 rfl rfl
theorem dX12_modeCycles_22 : decode cX12_modeCycles 22 = .ok (.invokestatic 119, 3) := qd_o184 0 22 qd_g488 rfl rfl
theorem dX12_modeCycles_25 : decode cX12_modeCycles 25 = .ok (.ifCond .eq 7, 3) := qd_o153 0 25 qd_g488 rfl rfl
theorem dX12_modeCycles_28 : decode cX12_modeCycles 28 = .ok (.iconst 2, 1) := qd_o5 0 28 qd_g488 rfl
theorem dX12_modeCycles_29 : decode cX12_modeCycles 29 = .ok (.goto 4, 3) := qd_o167 0 29 qd_g488 rfl rfl
theorem dX12_modeCycles_32 : decode cX12_modeCycles 32 = .ok (.iconst 0, 1) := qd_o3 0 32 qd_g488 rfl
theorem dX12_modeCycles_33 : decode cX12_modeCycles 33 = .ok (.istore 4, 2) := qd_o54 0 33 qd_g488 rfl rfl
theorem dX12_modeCycles_35 : decode cX12_modeCycles 35 = .ok (.iload_n 2, 1) := qd_o28 0 35 qd_g488 rfl
theorem dX12_modeCycles_36 : decode cX12_modeCycles 36 = .ok (.iconst 1, 1) := qd_o4 0 36 qd_g488 rfl
theorem dX12_modeCycles_37 : decode cX12_modeCycles 37 = .ok (.if_icmp .ne 7, 3) := qd_o160 0 37 qd_g488 rfl rfl
theorem qd_g489 : qd_bs cX12_modeCycles 40 [6, 167, 0, 16, 28, 16, 6, 162, 0, 7, 7, 167, 0, 6, 28, 4, 100, 54, 5, 28, 7, 16, 6, 184, 0, 119, 154, 0, 9, 21, 5, 21, 4, 96, 172, 42, 28, 29] = true := by decide +kernel
theorem dX12_modeCycles_40 : decode cX12_modeCycles 40 = .ok (.iconst 3, 1) := qd_o6 40 0 qd_g489 rfl
theorem dX12_modeCycles_41 : decode cX12_modeCycles 41 = .ok (.goto 16, 3) := qd_o167 40 1 qd_g489 rfl rfl
theorem dX12_modeCycles_44 : decode cX12_modeCycles 44 = .ok (.iload_n 2, 1) := qd_o28 40 4 qd_g489 rfl
theorem dX12_modeCycles_45 : decode cX12_modeCycles 45 = .ok (.bipush 6, 2) := qd_o16 40 5 qd_g489 rfl rfl
theorem dX12_modeCycles_47 : decode cX12_modeCycles 47 = .ok (.if_icmp .ge 7, 3) := qd_o162 40 7 qd_g489 rfl rfl
theorem dX12_modeCycles_50 : decode cX12_modeCycles 50 = .ok (.iconst 4, 1) := qd_o7 40 10 qd_g489 rfl
theorem dX12_modeCycles_51 : decode cX12_modeCycles 51 = .ok (.goto 6, 3) := qd_o167 40 11 qd_g489 rfl rfl
theorem dX12_modeCycles_54 : decode cX12_modeCycles 54 = .ok (.iload_n 2, 1) := qd_o28 40 14 qd_g489 rfl
theorem dX12_modeCycles_55 : decode cX12_modeCycles 55 = .ok (.iconst 1, 1) := qd_o4 40 15 qd_g489 rfl
theorem dX12_modeCycles_56 : decode cX12_modeCycles 56 = .ok (.isub, 1) := qd_o100 40 16 qd_g489 rfl
theorem dX12_modeCycles_57 : decode cX12_modeCycles 57 = .ok (.istore 5, 2) := qd_o54 40 17 qd_g489 rfl rfl
theorem dX12_modeCycles_59 : decode cX12_modeCycles 59 = .ok (.iload_n 2, 1) := qd_o28 40 19 qd_g489 rfl
theorem dX12_modeCycles_60 : decode cX12_modeCycles 60 = .ok (.iconst 4, 1) := qd_o7 40 20 qd_g489 rfl
theorem dX12_modeCycles_61 : decode cX12_modeCycles 61 = .ok (.bipush 6, 2) := qd_o16 40 21 qd_g489 rfl rfl
theorem dX12_modeCycles_63 : decode cX12_modeCycles 63 = .ok (.invokestatic 119, 3) := qd_o184 40 23 qd_g489 rfl rfl
theorem dX12_modeCycles_66 : decode cX12_modeCycles 66 = .ok (.ifCond .ne 9, 3) := qd_o154 40 26 qd_g489 rfl rfl
theorem dX12_modeCycles_69 : decode cX12_modeCycles 69 = .ok (.iload 5, 2) := qd_o21 40 29 qd_g489 rfl rfl
theorem dX12_modeCycles_71 : decode cX12_modeCycles 71 = .ok (.iload 4, 2) := qd_o21 40 31 qd_g489 rfl rfl
theorem dX12_modeCycles_73 : decode cX12_modeCycles 73 = .ok (.iadd, 1) := qd_o96 40 33 qd_g489 rfl
theorem dX12_modeCycles_74 : decode cX12_modeCycles 74 = .ok (.ireturn, 1) := qd_o172 40 34 qd_g489 rfl
theorem dX12_modeCycles_75 : decode cX12_modeCycles 75 = .ok (.aload_n 0, 1) := qd_o42 40 35 qd_g489 rfl
theorem dX12_modeCycles_76 : decode cX12_modeCycles 76 = .ok (.iload_n 2, 1) := qd_o28 40 36 qd_g489 rfl
theorem dX12_modeCycles_77 : decode cX12_modeCycles 77 = .ok (.iload_n 3, 1) := qd_o29 40 37 qd_g489 rfl
theorem qd_g490 : qd_bs cX12_modeCycles 78 [182, 1, 0, 17, 1, 0, 108, 42, 28, 29, 182, 1, 3, 17, 1, 0, 108, 159, 0, 7, 4, 167, 0, 4, 3, 54, 6, 21, 5, 21, 4, 96, 21, 6, 154, 0, 10, 27] = true := by decide +kernel
theorem dX12_modeCycles_78 : decode cX12_modeCycles 78 = .ok (.invokevirtual 256, 3) := qd_o182 78 0 qd_g490 rfl rfl
theorem dX12_modeCycles_81 : decode cX12_modeCycles 81 = .ok (.sipush 256, 3) := qd_o17 78 3 qd_g490 rfl rfl
theorem dX12_modeCycles_84 : decode cX12_modeCycles 84 = .ok (.idiv, 1) := qd_o108 78 6 qd_g490 rfl
theorem dX12_modeCycles_85 : decode cX12_modeCycles 85 = .ok (.aload_n 0, 1) := qd_o42 78 7 qd_g490 rfl
theorem dX12_modeCycles_86 : decode cX12_modeCycles 86 = .ok (.iload_n 2, 1) := qd_o28 78 8 qd_g490 rfl
theorem dX12_modeCycles_87 : decode cX12_modeCycles 87 = .ok (.iload_n 3, 1) := qd_o29 78 9 qd_g490 rfl
theorem dX12_modeCycles_88 : decode cX12_modeCycles 88 = .ok (.invokevirtual 259, 3) := qd_o182 78 10 qd_g490 rfl rfl
theorem dX12_modeCycles_91 : decode cX12_modeCycles 91 = .ok (.sipush 256, 3) := qd_o17 78 13 qd_g490 rfl rfl
theorem dX12_modeCycles_94 : decode cX12_modeCycles 94 = .ok (.idiv, 1) := qd_o108 78 16 qd_g490 rfl
theorem dX12_modeCycles_95 : decode cX12_modeCycles 95 = .ok (.if_icmp .eq 7, 3) := qd_o159 78 17 qd_g490 rfl rfl
theorem dX12_modeCycles_98 : decode cX12_modeCycles 98 = .ok (.iconst 1, 1) := qd_o4 78 20 qd_g490 rfl
theorem dX12_modeCycles_99 : decode cX12_modeCycles 99 = .ok (.goto 4, 3) := qd_o167 78 21 qd_g490 rfl rfl
theorem dX12_modeCycles_102 : decode cX12_modeCycles 102 = .ok (.iconst 0, 1) := qd_o3 78 24 qd_g490 rfl
theorem dX12_modeCycles_103 : decode cX12_modeCycles 103 = .ok (.istore 6, 2) := qd_o54 78 25 qd_g490 rfl rfl
theorem dX12_modeCycles_105 : decode cX12_modeCycles 105 = .ok (.iload 5, 2) := qd_o21 78 27 qd_g490 rfl rfl
theorem dX12_modeCycles_107 : decode cX12_modeCycles 107 = .ok (.iload 4, 2) := qd_o21 78 29 qd_g490 rfl rfl
theorem dX12_modeCycles_109 : decode cX12_modeCycles 109 = .ok (.iadd, 1) := qd_o96 78 31 qd_g490 rfl
theorem dX12_modeCycles_110 : decode cX12_modeCycles 110 = .ok (.iload 6, 2) := qd_o21 78 32 qd_g490 rfl rfl
theorem dX12_modeCycles_112 : decode cX12_modeCycles 112 = .ok (.ifCond .ne 10, 3) := qd_o154 78 34 qd_g490 rfl rfl
theorem dX12_modeCycles_115 : decode cX12_modeCycles 115 = .ok (.iload_n 1, 1) := qd_o27 78 37 qd_g490 rfl
theorem qd_g491 : qd_bs cX12_modeCycles 116 [184, 1, 6, 153, 0, 7, 4, 167, 0, 4, 3, 96, 172] = true := by decide +kernel
theorem dX12_modeCycles_116 : decode cX12_modeCycles 116 = .ok (.invokestatic 262, 3) := qd_o184 116 0 qd_g491 rfl rfl
theorem dX12_modeCycles_119 : decode cX12_modeCycles 119 = .ok (.ifCond .eq 7, 3) := qd_o153 116 3 qd_g491 rfl rfl
theorem dX12_modeCycles_122 : decode cX12_modeCycles 122 = .ok (.iconst 1, 1) := qd_o4 116 6 qd_g491 rfl
theorem dX12_modeCycles_123 : decode cX12_modeCycles 123 = .ok (.goto 4, 3) := qd_o167 116 7 qd_g491 rfl rfl
theorem dX12_modeCycles_126 : decode cX12_modeCycles 126 = .ok (.iconst 0, 1) := qd_o3 116 10 qd_g491 rfl
theorem dX12_modeCycles_127 : decode cX12_modeCycles 127 = .ok (.iadd, 1) := qd_o96 116 11 qd_g491 rfl
theorem dX12_modeCycles_128 : decode cX12_modeCycles 128 = .ok (.ireturn, 1) := qd_o172 116 12 qd_g491 rfl
theorem qd_g492 : qd_bs cX12_isTaken 0 [27, 17, 0, 162, 162, 0, 12, 42, 180, 0, 53, 7, 51, 167, 0, 41, 27, 17, 0, 164, 162, 0, 12, 42, 180, 0, 53, 8, 51, 167, 0, 25, 27, 17, 0, 166, 162, 0, 12, 42] = true := by decide +kernel
theorem dX12_isTaken_0 : decode cX12_isTaken 0 = .ok (.iload_n 1, 1) := qd_o27 0 0 qd_g492 rfl
theorem dX12_isTaken_1 : decode cX12_isTaken 1 = .ok (.sipush 162, 3) := qd_o17 0 1 qd_g492 rfl rfl
theorem dX12_isTaken_4 : decode cX12_isTaken 4 = .ok (.if_icmp .ge 12, 3) := qd_o162 0 4 qd_g492 rfl rfl
theorem dX12_isTaken_7 : decode cX12_isTaken 7 = .ok (.aload_n 0, 1) := qd_o42 0 7 qd_g492 rfl
theorem dX12_isTaken_8 : decode cX12_isTaken 8 = .ok (.getfield 53, 3) := qd_o180 0 8 qd_g492 rfl rfl
theorem dX12_isTaken_11 : decode cX12_isTaken 11 = .ok (.iconst 4, 1) := qd_o7 0 11 qd_g492 rfl
theorem dX12_isTaken_12 : decode cX12_isTaken 12 = .ok (.baload, 1) := qd_o51 0 12 qd_g492 rfl
theorem dX12_isTaken_13 : decode cX12_isTaken 13 = .ok (.goto 41, 3) := qd_o167 0 13 qd_g492 rfl rfl
theorem dX12_isTaken_16 : decode cX12_isTaken 16 = .ok (.iload_n 1, 1) := qd_o27 0 16 qd_g492 rfl
theorem dX12_isTaken_17 : decode cX12_isTaken 17 = .ok (.sipush 164, 3) := qd_o17 0 17 qd_g492 rfl rfl
theorem dX12_isTaken_20 : decode cX12_isTaken 20 = .ok (.if_icmp .ge 12, 3) := qd_o162 0 20 qd_g492 rfl rfl
theorem dX12_isTaken_23 : decode cX12_isTaken 23 = .ok (.aload_n 0, 1) := qd_o42 0 23 qd_g492 rfl
theorem dX12_isTaken_24 : decode cX12_isTaken 24 = .ok (.getfield 53, 3) := qd_o180 0 24 qd_g492 rfl rfl
theorem dX12_isTaken_27 : decode cX12_isTaken 27 = .ok (.iconst 5, 1) := qd_o8 0 27 qd_g492 rfl
theorem dX12_isTaken_28 : decode cX12_isTaken 28 = .ok (.baload, 1) := qd_o51 0 28 qd_g492 rfl
theorem dX12_isTaken_29 : decode cX12_isTaken 29 = .ok (.goto 25, 3) := qd_o167 0 29 qd_g492 rfl rfl
theorem dX12_isTaken_32 : decode cX12_isTaken 32 = .ok (.iload_n 1, 1) := qd_o27 0 32 qd_g492 rfl
theorem dX12_isTaken_33 : decode cX12_isTaken 33 = .ok (.sipush 166, 3) := qd_o17 0 33 qd_g492 rfl rfl
theorem dX12_isTaken_36 : decode cX12_isTaken 36 = .ok (.if_icmp .ge 12, 3) := qd_o162 0 36 qd_g492 rfl rfl
theorem dX12_isTaken_39 : decode cX12_isTaken 39 = .ok (.aload_n 0, 1) := qd_o42 0 39 qd_g492 rfl
theorem qd_g493 : qd_bs cX12_isTaken 40 [180, 0, 53, 3, 51, 167, 0, 9, 42, 180, 0, 53, 4, 51, 61, 28, 27, 17, 0, 161, 159, 0, 24, 27, 17, 0, 163, 159, 0, 17, 27, 17, 0, 165, 159, 0, 10, 27] = true := by decide +kernel
theorem dX12_isTaken_40 : decode cX12_isTaken 40 = .ok (.getfield 53, 3) := qd_o180 40 0 qd_g493 rfl rfl
theorem dX12_isTaken_43 : decode cX12_isTaken 43 = .ok (.iconst 0, 1) := qd_o3 40 3 qd_g493 rfl
theorem dX12_isTaken_44 : decode cX12_isTaken 44 = .ok (.baload, 1) := qd_o51 40 4 qd_g493 rfl
theorem dX12_isTaken_45 : decode cX12_isTaken 45 = .ok (.goto 9, 3) := qd_o167 40 5 qd_g493 rfl rfl
theorem dX12_isTaken_48 : decode cX12_isTaken 48 = .ok (.aload_n 0, 1) := qd_o42 40 8 qd_g493 rfl
theorem dX12_isTaken_49 : decode cX12_isTaken 49 = .ok (.getfield 53, 3) := qd_o180 40 9 qd_g493 rfl rfl
theorem dX12_isTaken_52 : decode cX12_isTaken 52 = .ok (.iconst 1, 1) := qd_o4 40 12 qd_g493 rfl
theorem dX12_isTaken_53 : decode cX12_isTaken 53 = .ok (.baload, 1) := qd_o51 40 13 qd_g493 rfl
theorem dX12_isTaken_54 : decode cX12_isTaken 54 = .ok (.istore_n 2, 1) := qd_o61 40 14 qd_g493 rfl
theorem dX12_isTaken_55 : decode cX12_isTaken 55 = .ok (.iload_n 2, 1) := qd_o28 40 15 qd_g493 rfl
theorem dX12_isTaken_56 : decode cX12_isTaken 56 = .ok (.iload_n 1, 1) := qd_o27 40 16 qd_g493 rfl
theorem dX12_isTaken_57 : decode cX12_isTaken 57 = .ok (.sipush 161, 3) := qd_o17 40 17 qd_g493 rfl rfl
theorem dX12_isTaken_60 : decode cX12_isTaken 60 = .ok (.if_icmp .eq 24, 3) := qd_o159 40 20 qd_g493 rfl rfl
theorem dX12_isTaken_63 : decode cX12_isTaken 63 = .ok (.iload_n 1, 1) := qd_o27 40 23 qd_g493 rfl
theorem dX12_isTaken_64 : decode cX12_isTaken 64 = .ok (.sipush 163, 3) := qd_o17 40 24 qd_g493 rfl rfl
theorem dX12_isTaken_67 : decode cX12_isTaken 67 = .ok (.if_icmp .eq 17, 3) := qd_o159 40 27 qd_g493 rfl rfl
theorem dX12_isTaken_70 : decode cX12_isTaken 70 = .ok (.iload_n 1, 1) := qd_o27 40 30 qd_g493 rfl
theorem dX12_isTaken_71 : decode cX12_isTaken 71 = .ok (.sipush 165, 3) := qd_o17 40 31 qd_g493 rfl rfl
theorem dX12_isTaken_74 : decode cX12_isTaken 74 = .ok (.if_icmp .eq 10, 3) := qd_o159 40 34 qd_g493 rfl rfl
theorem dX12_isTaken_77 : decode cX12_isTaken 77 = .ok (.iload_n 1, 1) := qd_o27 40 37 qd_g493 rfl
theorem qd_g494 : qd_bs cX12_isTaken 78 [17, 0, 167, 160, 0, 7, 4, 167, 0, 4, 3, 160, 0, 7, 4, 167, 0, 4, 3, 172] = true := by decide +kernel
theorem dX12_isTaken_78 : decode cX12_isTaken 78 = .ok (.sipush 167, 3) := qd_o17 78 0 qd_g494 rfl rfl
theorem dX12_isTaken_81 : decode cX12_isTaken 81 = .ok (.if_icmp .ne 7, 3) := qd_o160 78 3 qd_g494 rfl rfl
theorem dX12_isTaken_84 : decode cX12_isTaken 84 = .ok (.iconst 1, 1) := qd_o4 78 6 qd_g494 rfl
theorem dX12_isTaken_85 : decode cX12_isTaken 85 = .ok (.goto 4, 3) := qd_o167 78 7 qd_g494 rfl rfl
theorem dX12_isTaken_88 : decode cX12_isTaken 88 = .ok (.iconst 0, 1) := qd_o3 78 10 qd_g494 rfl
theorem dX12_isTaken_89 : decode cX12_isTaken 89 = .ok (.if_icmp .ne 7, 3) := qd_o160 78 11 qd_g494 rfl rfl
theorem dX12_isTaken_92 : decode cX12_isTaken 92 = .ok (.iconst 1, 1) := qd_o4 78 14 qd_g494 rfl
theorem dX12_isTaken_93 : decode cX12_isTaken 93 = .ok (.goto 4, 3) := qd_o167 78 15 qd_g494 rfl rfl
theorem dX12_isTaken_96 : decode cX12_isTaken 96 = .ok (.iconst 0, 1) := qd_o3 78 18 qd_g494 rfl
theorem dX12_isTaken_97 : decode cX12_isTaken 97 = .ok (.ireturn, 1) := qd_o172 78 19 qd_g494 rfl
theorem qd_g495 : qd_bs cX12_targetOf 0 [42, 27, 4, 96, 182, 0, 250, 61, 27, 5, 96, 28, 16, 127, 164, 0, 11, 28, 17, 1, 0, 100, 167, 0, 4, 28, 96, 184, 0, 176, 172] = true := by decide +kernel
theorem dX12_targetOf_0 : decode cX12_targetOf 0 = .ok (.aload_n 0, 1) := qd_o42 0 0 qd_g495 rfl
theorem dX12_targetOf_1 : decode cX12_targetOf 1 = .ok (.iload_n 1, 1) := qd_o27 0 1 qd_g495 rfl
theorem dX12_targetOf_2 : decode cX12_targetOf 2 = .ok (.iconst 1, 1) := qd_o4 0 2 qd_g495 rfl
theorem dX12_targetOf_3 : decode cX12_targetOf 3 = .ok (.iadd, 1) := qd_o96 0 3 qd_g495 rfl
theorem dX12_targetOf_4 : decode cX12_targetOf 4 = .ok (.invokevirtual 250, 3) := qd_o182 0 4 qd_g495 rfl rfl
theorem dX12_targetOf_7 : decode cX12_targetOf 7 = .ok (.istore_n 2, 1) := qd_o61 0 7 qd_g495 rfl
theorem dX12_targetOf_8 : decode cX12_targetOf 8 = .ok (.iload_n 1, 1) := qd_o27 0 8 qd_g495 rfl
theorem dX12_targetOf_9 : decode cX12_targetOf 9 = .ok (.iconst 2, 1) := qd_o5 0 9 qd_g495 rfl
theorem dX12_targetOf_10 : decode cX12_targetOf 10 = .ok (.iadd, 1) := qd_o96 0 10 qd_g495 rfl
theorem dX12_targetOf_11 : decode cX12_targetOf 11 = .ok (.iload_n 2, 1) := qd_o28 0 11 qd_g495 rfl
theorem dX12_targetOf_12 : decode cX12_targetOf 12 = .ok (.bipush 127, 2) := qd_o16 0 12 qd_g495 rfl rfl
theorem dX12_targetOf_14 : decode cX12_targetOf 14 = .ok (.if_icmp .le 11, 3) := qd_o164 0 14 qd_g495 rfl rfl
theorem dX12_targetOf_17 : decode cX12_targetOf 17 = .ok (.iload_n 2, 1) := qd_o28 0 17 qd_g495 rfl
theorem dX12_targetOf_18 : decode cX12_targetOf 18 = .ok (.sipush 256, 3) := qd_o17 0 18 qd_g495 rfl rfl
theorem dX12_targetOf_21 : decode cX12_targetOf 21 = .ok (.isub, 1) := qd_o100 0 21 qd_g495 rfl
theorem dX12_targetOf_22 : decode cX12_targetOf 22 = .ok (.goto 4, 3) := qd_o167 0 22 qd_g495 rfl rfl
theorem dX12_targetOf_25 : decode cX12_targetOf 25 = .ok (.iload_n 2, 1) := qd_o28 0 25 qd_g495 rfl
theorem dX12_targetOf_26 : decode cX12_targetOf 26 = .ok (.iadd, 1) := qd_o96 0 26 qd_g495 rfl
theorem dX12_targetOf_27 : decode cX12_targetOf 27 = .ok (.invokestatic 176, 3) := qd_o184 0 27 qd_g495 rfl rfl
theorem dX12_targetOf_30 : decode cX12_targetOf 30 = .ok (.ireturn, 1) := qd_o172 0 30 qd_g495 rfl
theorem qd_g496 : qd_bs cX12_cyclesOf 0 [42, 27, 182, 0, 250, 61, 28, 184, 0, 247, 62, 29, 155, 0, 14, 42, 29, 28, 16, 8, 112, 27, 182, 1, 9, 172, 28, 17, 0, 160, 17, 0, 167, 184, 0, 119, 153, 0, 43, 42] = true := by decide +kernel
theorem dX12_cyclesOf_0 : decode cX12_cyclesOf 0 = .ok (.aload_n 0, 1) := qd_o42 0 0 qd_g496 rfl
theorem dX12_cyclesOf_1 : decode cX12_cyclesOf 1 = .ok (.iload_n 1, 1) := qd_o27 0 1 qd_g496 rfl
theorem dX12_cyclesOf_2 : decode cX12_cyclesOf 2 = .ok (.invokevirtual 250, 3) := qd_o182 0 2 qd_g496 rfl rfl
theorem dX12_cyclesOf_5 : decode cX12_cyclesOf 5 = .ok (.istore_n 2, 1) := qd_o61 0 5 qd_g496 rfl
theorem dX12_cyclesOf_6 : decode cX12_cyclesOf 6 = .ok (.iload_n 2, 1) := qd_o28 0 6 qd_g496 rfl
theorem dX12_cyclesOf_7 : decode cX12_cyclesOf 7 = .ok (.invokestatic 247, 3) := qd_o184 0 7 qd_g496 rfl rfl
theorem dX12_cyclesOf_10 : decode cX12_cyclesOf 10 = .ok (.istore_n 3, 1) := qd_o62 0 10 qd_g496 rfl
theorem dX12_cyclesOf_11 : decode cX12_cyclesOf 11 = .ok (.iload_n 3, 1) := qd_o29 0 11 qd_g496 rfl
theorem dX12_cyclesOf_12 : decode cX12_cyclesOf 12 = .ok (.ifCond .lt 14, 3) := qd_o155 0 12 qd_g496 rfl rfl
theorem dX12_cyclesOf_15 : decode cX12_cyclesOf 15 = .ok (.aload_n 0, 1) := qd_o42 0 15 qd_g496 rfl
theorem dX12_cyclesOf_16 : decode cX12_cyclesOf 16 = .ok (.iload_n 3, 1) := qd_o29 0 16 qd_g496 rfl
theorem dX12_cyclesOf_17 : decode cX12_cyclesOf 17 = .ok (.iload_n 2, 1) := qd_o28 0 17 qd_g496 rfl
theorem dX12_cyclesOf_18 : decode cX12_cyclesOf 18 = .ok (.bipush 8, 2) := qd_o16 0 18 qd_g496 rfl rfl
theorem dX12_cyclesOf_20 : decode cX12_cyclesOf 20 = .ok (.irem, 1) := qd_o112 0 20 qd_g496 rfl
theorem dX12_cyclesOf_21 : decode cX12_cyclesOf 21 = .ok (.iload_n 1, 1) := qd_o27 0 21 qd_g496 rfl
theorem dX12_cyclesOf_22 : decode cX12_cyclesOf 22 = .ok (.invokevirtual 265, 3) := qd_o182 0 22 qd_g496 rfl rfl
theorem dX12_cyclesOf_25 : decode cX12_cyclesOf 25 = .ok (.ireturn, 1) := qd_o172 0 25 qd_g496 rfl
theorem dX12_cyclesOf_26 : decode cX12_cyclesOf 26 = .ok (.iload_n 2, 1) := qd_o28 0 26 qd_g496 rfl
theorem dX12_cyclesOf_27 : decode cX12_cyclesOf 27 = .ok (.sipush 160, 3) := qd_o17 0 27 qd_g496 rfl rfl
theorem dX12_cyclesOf_30 : decode cX12_cyclesOf 30 = .ok (.sipush 167, 3) := qd_o17 0 30 qd_g496 rfl rfl
theorem dX12_cyclesOf_33 : decode cX12_cyclesOf 33 = .ok (.invokestatic 119, 3) := qd_o184 0 33 qd_g496 rfl rfl
theorem dX12_cyclesOf_36 : decode cX12_cyclesOf 36 = .ok (.ifCond .eq 43, 3) := qd_o153 0 36 qd_g496 rfl rfl
theorem dX12_cyclesOf_39 : decode cX12_cyclesOf 39 = .ok (.aload_n 0, 1) := qd_o42 0 39 qd_g496 rfl
theorem qd_g497 : qd_bs cX12_cyclesOf 40 [28, 182, 1, 13, 154, 0, 7, 5, 167, 0, 30, 27, 5, 96, 184, 0, 176, 17, 1, 0, 108, 42, 27, 182, 1, 16, 17, 1, 0, 108, 160, 0, 7, 6, 167, 0, 4, 7, 172, 28] = true := by decide +kernel
theorem dX12_cyclesOf_40 : decode cX12_cyclesOf 40 = .ok (.iload_n 2, 1) := qd_o28 40 0 qd_g497 rfl
theorem dX12_cyclesOf_41 : decode cX12_cyclesOf 41 = .ok (.invokevirtual 269, 3) := qd_o182 40 1 qd_g497 rfl rfl
theorem dX12_cyclesOf_44 : decode cX12_cyclesOf 44 = .ok (.ifCond .ne 7, 3) := qd_o154 40 4 qd_g497 rfl rfl
theorem dX12_cyclesOf_47 : decode cX12_cyclesOf 47 = .ok (.iconst 2, 1) := qd_o5 40 7 qd_g497 rfl
theorem dX12_cyclesOf_48 : decode cX12_cyclesOf 48 = .ok (.goto 30, 3) := qd_o167 40 8 qd_g497 rfl rfl
theorem dX12_cyclesOf_51 : decode cX12_cyclesOf 51 = .ok (.iload_n 1, 1) := qd_o27 40 11 qd_g497 rfl
theorem dX12_cyclesOf_52 : decode cX12_cyclesOf 52 = .ok (.iconst 2, 1) := qd_o5 40 12 qd_g497 rfl
theorem dX12_cyclesOf_53 : decode cX12_cyclesOf 53 = .ok (.iadd, 1) := qd_o96 40 13 qd_g497 rfl
theorem dX12_cyclesOf_54 : decode cX12_cyclesOf 54 = .ok (.invokestatic 176, 3) := qd_o184 40 14 qd_g497 rfl rfl
theorem dX12_cyclesOf_57 : decode cX12_cyclesOf 57 = .ok (.sipush 256, 3) := qd_o17 40 17 qd_g497 rfl rfl
theorem dX12_cyclesOf_60 : decode cX12_cyclesOf 60 = .ok (.idiv, 1) := qd_o108 40 20 qd_g497 rfl
theorem dX12_cyclesOf_61 : decode cX12_cyclesOf 61 = .ok (.aload_n 0, 1) := qd_o42 40 21 qd_g497 rfl
theorem dX12_cyclesOf_62 : decode cX12_cyclesOf 62 = .ok (.iload_n 1, 1) := qd_o27 40 22 qd_g497 rfl
theorem dX12_cyclesOf_63 : decode cX12_cyclesOf 63 = .ok (.invokevirtual 272, 3) := qd_o182 40 23 qd_g497 rfl rfl
theorem dX12_cyclesOf_66 : decode cX12_cyclesOf 66 = .ok (.sipush 256, 3) := qd_o17 40 26 qd_g497 rfl rfl
theorem dX12_cyclesOf_69 : decode cX12_cyclesOf 69 = .ok (.idiv, 1) := qd_o108 40 29 qd_g497 rfl
theorem dX12_cyclesOf_70 : decode cX12_cyclesOf 70 = .ok (.if_icmp .ne 7, 3) := qd_o160 40 30 qd_g497 rfl rfl
theorem dX12_cyclesOf_73 : decode cX12_cyclesOf 73 = .ok (.iconst 3, 1) := qd_o6 40 33 qd_g497 rfl
theorem dX12_cyclesOf_74 : decode cX12_cyclesOf 74 = .ok (.goto 4, 3) := qd_o167 40 34 qd_g497 rfl rfl
theorem dX12_cyclesOf_77 : decode cX12_cyclesOf 77 = .ok (.iconst 4, 1) := qd_o7 40 37 qd_g497 rfl
theorem dX12_cyclesOf_78 : decode cX12_cyclesOf 78 = .ok (.ireturn, 1) := qd_o172 40 38 qd_g497 rfl
theorem dX12_cyclesOf_79 : decode cX12_cyclesOf 79 = .ok (.iload_n 2, 1) := qd_o28 40 39 qd_g497 rfl
theorem qd_g498 : qd_bs cX12_cyclesOf 80 [17, 0, 138, 159, 0, 17, 28, 17, 0, 140, 159, 0, 10, 28, 17, 0, 157, 160, 0, 5, 6, 172, 28, 17, 0, 139, 159, 0, 10, 28, 17, 0, 141, 160, 0, 5, 7, 172, 28] = true := by decide +kernel
theorem dX12_cyclesOf_80 : decode cX12_cyclesOf 80 = .ok (.sipush 138, 3) := qd_o17 80 0 qd_g498 rfl rfl
theorem dX12_cyclesOf_83 : decode cX12_cyclesOf 83 = .ok (.if_icmp .eq 17, 3) := qd_o159 80 3 qd_g498 rfl rfl
theorem dX12_cyclesOf_86 : decode cX12_cyclesOf 86 = .ok (.iload_n 2, 1) := qd_o28 80 6 qd_g498 rfl
theorem dX12_cyclesOf_87 : decode cX12_cyclesOf 87 = .ok (.sipush 140, 3) := qd_o17 80 7 qd_g498 rfl rfl
theorem dX12_cyclesOf_90 : decode cX12_cyclesOf 90 = .ok (.if_icmp .eq 10, 3) := qd_o159 80 10 qd_g498 rfl rfl
theorem dX12_cyclesOf_93 : decode cX12_cyclesOf 93 = .ok (.iload_n 2, 1) := qd_o28 80 13 qd_g498 rfl
theorem dX12_cyclesOf_94 : decode cX12_cyclesOf 94 = .ok (.sipush 157, 3) := qd_o17 80 14 qd_g498 rfl rfl
theorem dX12_cyclesOf_97 : decode cX12_cyclesOf 97 = .ok (.if_icmp .ne 5, 3) := qd_o160 80 17 qd_g498 rfl rfl
theorem dX12_cyclesOf_100 : decode cX12_cyclesOf 100 = .ok (.iconst 3, 1) := qd_o6 80 20 qd_g498 rfl
theorem dX12_cyclesOf_101 : decode cX12_cyclesOf 101 = .ok (.ireturn, 1) := qd_o172 80 21 qd_g498 rfl
theorem dX12_cyclesOf_102 : decode cX12_cyclesOf 102 = .ok (.iload_n 2, 1) := qd_o28 80 22 qd_g498 rfl
theorem dX12_cyclesOf_103 : decode cX12_cyclesOf 103 = .ok (.sipush 139, 3) := qd_o17 80 23 qd_g498 rfl rfl
theorem dX12_cyclesOf_106 : decode cX12_cyclesOf 106 = .ok (.if_icmp .eq 10, 3) := qd_o159 80 26 qd_g498 rfl rfl
theorem dX12_cyclesOf_109 : decode cX12_cyclesOf 109 = .ok (.iload_n 2, 1) := qd_o28 80 29 qd_g498 rfl
theorem dX12_cyclesOf_110 : decode cX12_cyclesOf 110 = .ok (.sipush 141, 3) := qd_o17 80 30 qd_g498 rfl rfl
theorem dX12_cyclesOf_113 : decode cX12_cyclesOf 113 = .ok (.if_icmp .ne 5, 3) := qd_o160 80 33 qd_g498 rfl rfl
theorem dX12_cyclesOf_116 : decode cX12_cyclesOf 116 = .ok (.iconst 4, 1) := qd_o7 80 36 qd_g498 rfl
theorem dX12_cyclesOf_117 : decode cX12_cyclesOf 117 = .ok (.ireturn, 1) := qd_o172 80 37 qd_g498 rfl
theorem dX12_cyclesOf_118 : decode cX12_cyclesOf 118 = .ok (.iload_n 2, 1) := qd_o28 80 38 qd_g498 rfl
theorem qd_g499 : qd_bs cX12_cyclesOf 119 [17, 0, 159, 160, 0, 5, 8, 172, 28, 17, 0, 155, 159, 0, 17, 28, 17, 0, 156, 159, 0, 10, 28, 17, 0, 158, 160, 0, 6, 16, 6, 172, 28, 17, 0, 154, 160, 0, 8] = true := by decide +kernel
theorem dX12_cyclesOf_119 : decode cX12_cyclesOf 119 = .ok (.sipush 159, 3) := qd_o17 119 0 qd_g499 rfl rfl
theorem dX12_cyclesOf_122 : decode cX12_cyclesOf 122 = .ok (.if_icmp .ne 5, 3) := qd_o160 119 3 qd_g499 rfl rfl
theorem dX12_cyclesOf_125 : decode cX12_cyclesOf 125 = .ok (.iconst 5, 1) := qd_o8 119 6 qd_g499 rfl
theorem dX12_cyclesOf_126 : decode cX12_cyclesOf 126 = .ok (.ireturn, 1) := qd_o172 119 7 qd_g499 rfl
theorem dX12_cyclesOf_127 : decode cX12_cyclesOf 127 = .ok (.iload_n 2, 1) := qd_o28 119 8 qd_g499 rfl
theorem dX12_cyclesOf_128 : decode cX12_cyclesOf 128 = .ok (.sipush 155, 3) := qd_o17 119 9 qd_g499 rfl rfl
theorem dX12_cyclesOf_131 : decode cX12_cyclesOf 131 = .ok (.if_icmp .eq 17, 3) := qd_o159 119 12 qd_g499 rfl rfl
theorem dX12_cyclesOf_134 : decode cX12_cyclesOf 134 = .ok (.iload_n 2, 1) := qd_o28 119 15 qd_g499 rfl
theorem dX12_cyclesOf_135 : decode cX12_cyclesOf 135 = .ok (.sipush 156, 3) := qd_o17 119 16 qd_g499 rfl rfl
theorem dX12_cyclesOf_138 : decode cX12_cyclesOf 138 = .ok (.if_icmp .eq 10, 3) := qd_o159 119 19 qd_g499 rfl rfl
theorem dX12_cyclesOf_141 : decode cX12_cyclesOf 141 = .ok (.iload_n 2, 1) := qd_o28 119 22 qd_g499 rfl
theorem dX12_cyclesOf_142 : decode cX12_cyclesOf 142 = .ok (.sipush 158, 3) := qd_o17 119 23 qd_g499 rfl rfl
theorem dX12_cyclesOf_145 : decode cX12_cyclesOf 145 = .ok (.if_icmp .ne 6, 3) := qd_o160 119 26 qd_g499 rfl rfl
theorem dX12_cyclesOf_148 : decode cX12_cyclesOf 148 = .ok (.bipush 6, 2) := qd_o16 119 29 qd_g499 rfl rfl
theorem dX12_cyclesOf_150 : decode cX12_cyclesOf 150 = .ok (.ireturn, 1) := qd_o172 119 31 qd_g499 rfl
theorem dX12_cyclesOf_151 : decode cX12_cyclesOf 151 = .ok (.iload_n 2, 1) := qd_o28 119 32 qd_g499 rfl
theorem dX12_cyclesOf_152 : decode cX12_cyclesOf 152 = .ok (.sipush 154, 3) := qd_o17 119 33 qd_g499 rfl rfl
theorem dX12_cyclesOf_155 : decode cX12_cyclesOf 155 = .ok (.if_icmp .ne 8, 3) := qd_o160 119 36 qd_g499 rfl rfl
theorem qd_g500 : qd_bs cX12_cyclesOf 158 [16, 7, 167, 0, 4, 5, 172] = true := by decide +kernel
theorem dX12_cyclesOf_158 : decode cX12_cyclesOf 158 = .ok (.bipush 7, 2) := qd_o16 158 0 qd_g500 rfl rfl
theorem dX12_cyclesOf_160 : decode cX12_cyclesOf 160 = .ok (.goto 4, 3) := qd_o167 158 2 qd_g500 rfl rfl
theorem dX12_cyclesOf_163 : decode cX12_cyclesOf 163 = .ok (.iconst 2, 1) := qd_o5 158 5 qd_g500 rfl
theorem dX12_cyclesOf_164 : decode cX12_cyclesOf 164 = .ok (.ireturn, 1) := qd_o172 158 6 qd_g500 rfl
theorem qd_g501 : qd_bs cX12_pushes 0 [42, 180, 0, 7, 17, 1, 0, 42, 180, 0, 50, 6, 46, 96, 27, 79, 42, 180, 0, 50, 6, 42, 180, 0, 50, 6, 46, 17, 0, 255, 96, 17, 1, 0, 112, 79, 177] = true := by decide +kernel
theorem dX12_pushes_0 : decode cX12_pushes 0 = .ok (.aload_n 0, 1) := qd_o42 0 0 qd_g501 rfl
theorem dX12_pushes_1 : decode cX12_pushes 1 = .ok (.getfield 7, 3) := qd_o180 0 1 qd_g501 rfl rfl
theorem dX12_pushes_4 : decode cX12_pushes 4 = .ok (.sipush 256, 3) := qd_o17 0 4 qd_g501 rfl rfl
theorem dX12_pushes_7 : decode cX12_pushes 7 = .ok (.aload_n 0, 1) := qd_o42 0 7 qd_g501 rfl
theorem dX12_pushes_8 : decode cX12_pushes 8 = .ok (.getfield 50, 3) := qd_o180 0 8 qd_g501 rfl rfl
theorem dX12_pushes_11 : decode cX12_pushes 11 = .ok (.iconst 3, 1) := qd_o6 0 11 qd_g501 rfl
theorem dX12_pushes_12 : decode cX12_pushes 12 = .ok (.iaload, 1) := qd_o46 0 12 qd_g501 rfl
theorem dX12_pushes_13 : decode cX12_pushes 13 = .ok (.iadd, 1) := qd_o96 0 13 qd_g501 rfl
theorem dX12_pushes_14 : decode cX12_pushes 14 = .ok (.iload_n 1, 1) := qd_o27 0 14 qd_g501 rfl
theorem dX12_pushes_15 : decode cX12_pushes 15 = .ok (.iastore, 1) := qd_o79 0 15 qd_g501 rfl
theorem dX12_pushes_16 : decode cX12_pushes 16 = .ok (.aload_n 0, 1) := qd_o42 0 16 qd_g501 rfl
theorem dX12_pushes_17 : decode cX12_pushes 17 = .ok (.getfield 50, 3) := qd_o180 0 17 qd_g501 rfl rfl
theorem dX12_pushes_20 : decode cX12_pushes 20 = .ok (.iconst 3, 1) := qd_o6 0 20 qd_g501 rfl
theorem dX12_pushes_21 : decode cX12_pushes 21 = .ok (.aload_n 0, 1) := qd_o42 0 21 qd_g501 rfl
theorem dX12_pushes_22 : decode cX12_pushes 22 = .ok (.getfield 50, 3) := qd_o180 0 22 qd_g501 rfl rfl
theorem dX12_pushes_25 : decode cX12_pushes 25 = .ok (.iconst 3, 1) := qd_o6 0 25 qd_g501 rfl
theorem dX12_pushes_26 : decode cX12_pushes 26 = .ok (.iaload, 1) := qd_o46 0 26 qd_g501 rfl
theorem dX12_pushes_27 : decode cX12_pushes 27 = .ok (.sipush 255, 3) := qd_o17 0 27 qd_g501 rfl rfl
theorem dX12_pushes_30 : decode cX12_pushes 30 = .ok (.iadd, 1) := qd_o96 0 30 qd_g501 rfl
theorem dX12_pushes_31 : decode cX12_pushes 31 = .ok (.sipush 256, 3) := qd_o17 0 31 qd_g501 rfl rfl
theorem dX12_pushes_34 : decode cX12_pushes 34 = .ok (.irem, 1) := qd_o112 0 34 qd_g501 rfl
theorem dX12_pushes_35 : decode cX12_pushes 35 = .ok (.iastore, 1) := qd_o79 0 35 qd_g501 rfl
theorem dX12_pushes_36 : decode cX12_pushes 36 = .ok (.return_, 1) := qd_o177 0 36 qd_g501 rfl
theorem qd_g502 : qd_bs cX12_pulls 0 [42, 180, 0, 50, 6, 42, 180, 0, 50, 6, 46, 4, 96, 17, 1, 0, 112, 79, 42, 180, 0, 7, 17, 1, 0, 42, 180, 0, 50, 6, 46, 96, 46, 172] = true := by decide +kernel
theorem dX12_pulls_0 : decode cX12_pulls 0 = .ok (.aload_n 0, 1) := qd_o42 0 0 qd_g502 rfl
theorem dX12_pulls_1 : decode cX12_pulls 1 = .ok (.getfield 50, 3) := qd_o180 0 1 qd_g502 rfl rfl
theorem dX12_pulls_4 : decode cX12_pulls 4 = .ok (.iconst 3, 1) := qd_o6 0 4 qd_g502 rfl
theorem dX12_pulls_5 : decode cX12_pulls 5 = .ok (.aload_n 0, 1) := qd_o42 0 5 qd_g502 rfl
theorem dX12_pulls_6 : decode cX12_pulls 6 = .ok (.getfield 50, 3) := qd_o180 0 6 qd_g502 rfl rfl
theorem dX12_pulls_9 : decode cX12_pulls 9 = .ok (.iconst 3, 1) := qd_o6 0 9 qd_g502 rfl
theorem dX12_pulls_10 : decode cX12_pulls 10 = .ok (.iaload, 1) := qd_o46 0 10 qd_g502 rfl
theorem dX12_pulls_11 : decode cX12_pulls 11 = .ok (.iconst 1, 1) := qd_o4 0 11 qd_g502 rfl
theorem dX12_pulls_12 : decode cX12_pulls 12 = .ok (.iadd, 1) := qd_o96 0 12 qd_g502 rfl
theorem dX12_pulls_13 : decode cX12_pulls 13 = .ok (.sipush 256, 3) := qd_o17 0 13 qd_g502 rfl rfl
theorem dX12_pulls_16 : decode cX12_pulls 16 = .ok (.irem, 1) := qd_o112 0 16 qd_g502 rfl
theorem dX12_pulls_17 : decode cX12_pulls 17 = .ok (.iastore, 1) := qd_o79 0 17 qd_g502 rfl
theorem dX12_pulls_18 : decode cX12_pulls 18 = .ok (.aload_n 0, 1) := qd_o42 0 18 qd_g502 rfl
theorem dX12_pulls_19 : decode cX12_pulls 19 = .ok (.getfield 7, 3) := qd_o180 0 19 qd_g502 rfl rfl
theorem dX12_pulls_22 : decode cX12_pulls 22 = .ok (.sipush 256, 3) := qd_o17 0 22 qd_g502 rfl rfl
theorem dX12_pulls_25 : decode cX12_pulls 25 = .ok (.aload_n 0, 1) := qd_o42 0 25 qd_g502 rfl
theorem dX12_pulls_26 : decode cX12_pulls 26 = .ok (.getfield 50, 3) := qd_o180 0 26 qd_g502 rfl rfl
theorem dX12_pulls_29 : decode cX12_pulls 29 = .ok (.iconst 3, 1) := qd_o6 0 29 qd_g502 rfl
theorem dX12_pulls_30 : decode cX12_pulls 30 = .ok (.iaload, 1) := qd_o46 0 30 qd_g502 rfl
theorem dX12_pulls_31 : decode cX12_pulls 31 = .ok (.iadd, 1) := qd_o96 0 31 qd_g502 rfl
theorem dX12_pulls_32 : decode cX12_pulls 32 = .ok (.iaload, 1) := qd_o46 0 32 qd_g502 rfl
theorem dX12_pulls_33 : decode cX12_pulls 33 = .ok (.ireturn, 1) := qd_o172 0 33 qd_g502 rfl
theorem qd_g503 : qd_bs cX12_bit 0 [42, 180, 0, 53, 27, 51, 153, 0, 7, 28, 167, 0, 4, 3, 172] = true := by decide +kernel
theorem dX12_bit_0 : decode cX12_bit 0 = .ok (.aload_n 0, 1) := qd_o42 0 0 qd_g503 rfl
theorem dX12_bit_1 : decode cX12_bit 1 = .ok (.getfield 53, 3) := qd_o180 0 1 qd_g503 rfl rfl
theorem dX12_bit_4 : decode cX12_bit 4 = .ok (.iload_n 1, 1) := qd_o27 0 4 qd_g503 rfl
theorem dX12_bit_5 : decode cX12_bit 5 = .ok (.baload, 1) := qd_o51 0 5 qd_g503 rfl
theorem dX12_bit_6 : decode cX12_bit 6 = .ok (.ifCond .eq 7, 3) := qd_o153 0 6 qd_g503 rfl rfl
theorem dX12_bit_9 : decode cX12_bit 9 = .ok (.iload_n 2, 1) := qd_o28 0 9 qd_g503 rfl
theorem dX12_bit_10 : decode cX12_bit 10 = .ok (.goto 4, 3) := qd_o167 0 10 qd_g503 rfl rfl
theorem dX12_bit_13 : decode cX12_bit 13 = .ok (.iconst 0, 1) := qd_o3 0 13 qd_g503 rfl
theorem dX12_bit_14 : decode cX12_bit 14 = .ok (.ireturn, 1) := qd_o172 0 14 qd_g503 rfl
theorem qd_g504 : qd_bs cX12_statusWith 0 [42, 8, 4, 182, 1, 19, 42, 7, 5, 182, 1, 19, 96, 42, 6, 7, 182, 1, 19, 96, 42, 5, 16, 8, 182, 1, 19, 96, 27, 96, 16, 32, 96, 42, 4, 16, 64, 182, 1, 19] = true := by decide +kernel
theorem dX12_statusWith_0 : decode cX12_statusWith 0 = .ok (.aload_n 0, 1) := qd_o42 0 0 qd_g504 rfl
theorem dX12_statusWith_1 : decode cX12_statusWith 1 = .ok (.iconst 5, 1) := qd_o8 0 1 qd_g504 rfl
theorem dX12_statusWith_2 : decode cX12_statusWith 2 = .ok (.iconst 1, 1) := qd_o4 0 2 qd_g504 rfl
theorem dX12_statusWith_3 : decode cX12_statusWith 3 = .ok (.invokevirtual 275, 3) := qd_o182 0 3 qd_g504 rfl rfl
theorem dX12_statusWith_6 : decode cX12_statusWith 6 = .ok (.aload_n 0, 1) := qd_o42 0 6 qd_g504 rfl
theorem dX12_statusWith_7 : decode cX12_statusWith 7 = .ok (.iconst 4, 1) := qd_o7 0 7 qd_g504 rfl
theorem dX12_statusWith_8 : decode cX12_statusWith 8 = .ok (.iconst 2, 1) := qd_o5 0 8 qd_g504 rfl
theorem dX12_statusWith_9 : decode cX12_statusWith 9 = .ok (.invokevirtual 275, 3) := qd_o182 0 9 qd_g504 rfl rfl
theorem dX12_statusWith_12 : decode cX12_statusWith 12 = .ok (.iadd, 1) := qd_o96 0 12 qd_g504 rfl
theorem dX12_statusWith_13 : decode cX12_statusWith 13 = .ok (.aload_n 0, 1) := qd_o42 0 13 qd_g504 rfl
theorem dX12_statusWith_14 : decode cX12_statusWith 14 = .ok (.iconst 3, 1) := qd_o6 0 14 qd_g504 rfl
theorem dX12_statusWith_15 : decode cX12_statusWith 15 = .ok (.iconst 4, 1) := qd_o7 0 15 qd_g504 rfl
theorem dX12_statusWith_16 : decode cX12_statusWith 16 = .ok (.invokevirtual 275, 3) := qd_o182 0 16 qd_g504 rfl rfl
theorem dX12_statusWith_19 : decode cX12_statusWith 19 = .ok (.iadd, 1) := qd_o96 0 19 qd_g504 rfl
theorem dX12_statusWith_20 : decode cX12_statusWith 20 = .ok (.aload_n 0, 1) := qd_o42 0 20 qd_g504 rfl
theorem dX12_statusWith_21 : decode cX12_statusWith 21 = .ok (.iconst 2, 1) := qd_o5 0 21 qd_g504 rfl
theorem dX12_statusWith_22 : decode cX12_statusWith 22 = .ok (.bipush 8, 2) := qd_o16 0 22 qd_g504 rfl rfl
theorem dX12_statusWith_24 : decode cX12_statusWith 24 = .ok (.invokevirtual 275, 3) := qd_o182 0 24 qd_g504 rfl rfl
theorem dX12_statusWith_27 : decode cX12_statusWith 27 = .ok (.iadd, 1) := qd_o96 0 27 qd_g504 rfl
theorem dX12_statusWith_28 : decode cX12_statusWith 28 = .ok (.iload_n 1, 1) := qd_o27 0 28 qd_g504 rfl
theorem dX12_statusWith_29 : decode cX12_statusWith 29 = .ok (.iadd, 1) := qd_o96 0 29 qd_g504 rfl
theorem dX12_statusWith_30 : decode cX12_statusWith 30 = .ok (.bipush 32, 2) := qd_o16 0 30 qd_g504 rfl rfl
theorem dX12_statusWith_32 : decode cX12_statusWith 32 = .ok (.iadd, 1) := qd_o96 0 32 qd_g504 rfl
theorem dX12_statusWith_33 : decode cX12_statusWith 33 = .ok (.aload_n 0, 1) := qd_o42 0 33 qd_g504 rfl
theorem dX12_statusWith_34 : decode cX12_statusWith 34 = .ok (.iconst 1, 1) := qd_o4 0 34 qd_g504 rfl
theorem dX12_statusWith_35 : decode cX12_statusWith 35 = .ok (.bipush 64, 2) := qd_o16 0 35 qd_g504 rfl rfl
theorem dX12_statusWith_37 : decode cX12_statusWith 37 = .ok (.invokevirtual 275, 3) := qd_o182 0 37 qd_g504 rfl rfl
theorem qd_g505 : qd_bs cX12_statusWith 40 [96, 42, 3, 17, 0, 128, 182, 1, 19, 96, 172] = true := by decide +kernel
theorem dX12_statusWith_40 : decode cX12_statusWith 40 = .ok (.iadd, 1) := qd_o96 40 0 qd_g505 rfl
theorem dX12_statusWith_41 : decode cX12_statusWith 41 = .ok (.aload_n 0, 1) := qd_o42 40 1 qd_g505 rfl
theorem dX12_statusWith_42 : decode cX12_statusWith 42 = .ok (.iconst 0, 1) := qd_o3 40 2 qd_g505 rfl
theorem dX12_statusWith_43 : decode cX12_statusWith 43 = .ok (.sipush 128, 3) := qd_o17 40 3 qd_g505 rfl rfl
theorem dX12_statusWith_46 : decode cX12_statusWith 46 = .ok (.invokevirtual 275, 3) := qd_o182 40 6 qd_g505 rfl rfl
theorem dX12_statusWith_49 : decode cX12_statusWith 49 = .ok (.iadd, 1) := qd_o96 40 9 qd_g505 rfl
theorem dX12_statusWith_50 : decode cX12_statusWith 50 = .ok (.ireturn, 1) := qd_o172 40 10 qd_g505 rfl
theorem qd_g506 : qd_bs cX12_becomesStatus 0 [42, 180, 0, 53, 8, 27, 3, 184, 0, 131, 84, 42, 180, 0, 53, 7, 27, 4, 184, 0, 131, 84, 42, 180, 0, 53, 6, 27, 5, 184, 0, 131, 84, 42, 180, 0, 53, 5, 27, 6] = true := by decide +kernel
theorem dX12_becomesStatus_0 : decode cX12_becomesStatus 0 = .ok (.aload_n 0, 1) := qd_o42 0 0 qd_g506 rfl
theorem dX12_becomesStatus_1 : decode cX12_becomesStatus 1 = .ok (.getfield 53, 3) := qd_o180 0 1 qd_g506 rfl rfl
theorem dX12_becomesStatus_4 : decode cX12_becomesStatus 4 = .ok (.iconst 5, 1) := qd_o8 0 4 qd_g506 rfl
theorem dX12_becomesStatus_5 : decode cX12_becomesStatus 5 = .ok (.iload_n 1, 1) := qd_o27 0 5 qd_g506 rfl
theorem dX12_becomesStatus_6 : decode cX12_becomesStatus 6 = .ok (.iconst 0, 1) := qd_o3 0 6 qd_g506 rfl
theorem dX12_becomesStatus_7 : decode cX12_becomesStatus 7 = .ok (.invokestatic 131, 3) := qd_o184 0 7 qd_g506 rfl rfl
theorem dX12_becomesStatus_10 : decode cX12_becomesStatus 10 = .ok (.bastore, 1) := qd_o84 0 10 qd_g506 rfl
theorem dX12_becomesStatus_11 : decode cX12_becomesStatus 11 = .ok (.aload_n 0, 1) := qd_o42 0 11 qd_g506 rfl
theorem dX12_becomesStatus_12 : decode cX12_becomesStatus 12 = .ok (.getfield 53, 3) := qd_o180 0 12 qd_g506 rfl rfl
theorem dX12_becomesStatus_15 : decode cX12_becomesStatus 15 = .ok (.iconst 4, 1) := qd_o7 0 15 qd_g506 rfl
theorem dX12_becomesStatus_16 : decode cX12_becomesStatus 16 = .ok (.iload_n 1, 1) := qd_o27 0 16 qd_g506 rfl
theorem dX12_becomesStatus_17 : decode cX12_becomesStatus 17 = .ok (.iconst 1, 1) := qd_o4 0 17 qd_g506 rfl
theorem dX12_becomesStatus_18 : decode cX12_becomesStatus 18 = .ok (.invokestatic 131, 3) := qd_o184 0 18 qd_g506 rfl rfl
theorem dX12_becomesStatus_21 : decode cX12_becomesStatus 21 = .ok (.bastore, 1) := qd_o84 0 21 qd_g506 rfl
theorem dX12_becomesStatus_22 : decode cX12_becomesStatus 22 = .ok (.aload_n 0, 1) := qd_o42 0 22 qd_g506 rfl
theorem dX12_becomesStatus_23 : decode cX12_becomesStatus 23 = .ok (.getfield 53, 3) := qd_o180 0 23 qd_g506 rfl rfl
theorem dX12_becomesStatus_26 : decode cX12_becomesStatus 26 = .ok (.iconst 3, 1) := qd_o6 0 26 qd_g506 rfl
theorem dX12_becomesStatus_27 : decode cX12_becomesStatus 27 = .ok (.iload_n 1, 1) := qd_o27 0 27 qd_g506 rfl
theorem dX12_becomesStatus_28 : decode cX12_becomesStatus 28 = .ok (.iconst 2, 1) := qd_o5 0 28 qd_g506 rfl
theorem dX12_becomesStatus_29 : decode cX12_becomesStatus 29 = .ok (.invokestatic 131, 3) := qd_o184 0 29 qd_g506 rfl rfl
theorem dX12_becomesStatus_32 : decode cX12_becomesStatus 32 = .ok (.bastore, 1) := qd_o84 0 32 qd_g506 rfl
theorem dX12_becomesStatus_33 : decode cX12_becomesStatus 33 = .ok (.aload_n 0, 1) := qd_o42 0 33 qd_g506 rfl
theorem dX12_becomesStatus_34 : decode cX12_becomesStatus 34 = .ok (.getfield 53, 3) := qd_o180 0 34 qd_g506 rfl rfl
theorem dX12_becomesStatus_37 : decode cX12_becomesStatus 37 = .ok (.iconst 2, 1) := qd_o5 0 37 qd_g506 rfl
theorem dX12_becomesStatus_38 : decode cX12_becomesStatus 38 = .ok (.iload_n 1, 1) := qd_o27 0 38 qd_g506 rfl
theorem dX12_becomesStatus_39 : decode cX12_becomesStatus 39 = .ok (.iconst 3, 1) := qd_o6 0 39 qd_g506 rfl
theorem qd_g507 : qd_bs cX12_becomesStatus 40 [184, 0, 131, 84, 42, 180, 0, 53, 4, 27, 16, 6, 184, 0, 131, 84, 42, 180, 0, 53, 3, 27, 16, 7, 184, 0, 131, 84, 177] = true := by decide +kernel
theorem dX12_becomesStatus_40 : decode cX12_becomesStatus 40 = .ok (.invokestatic 131, 3) := qd_o184 40 0 qd_g507 rfl rfl
theorem dX12_becomesStatus_43 : decode cX12_becomesStatus 43 = .ok (.bastore, 1) := qd_o84 40 3 qd_g507 rfl
theorem dX12_becomesStatus_44 : decode cX12_becomesStatus 44 = .ok (.aload_n 0, 1) := qd_o42 40 4 qd_g507 rfl
theorem dX12_becomesStatus_45 : decode cX12_becomesStatus 45 = .ok (.getfield 53, 3) := qd_o180 40 5 qd_g507 rfl rfl
theorem dX12_becomesStatus_48 : decode cX12_becomesStatus 48 = .ok (.iconst 1, 1) := qd_o4 40 8 qd_g507 rfl
theorem dX12_becomesStatus_49 : decode cX12_becomesStatus 49 = .ok (.iload_n 1, 1) := qd_o27 40 9 qd_g507 rfl
theorem dX12_becomesStatus_50 : decode cX12_becomesStatus 50 = .ok (.bipush 6, 2) := qd_o16 40 10 qd_g507 rfl rfl
theorem dX12_becomesStatus_52 : decode cX12_becomesStatus 52 = .ok (.invokestatic 131, 3) := qd_o184 40 12 qd_g507 rfl rfl
theorem dX12_becomesStatus_55 : decode cX12_becomesStatus 55 = .ok (.bastore, 1) := qd_o84 40 15 qd_g507 rfl
theorem dX12_becomesStatus_56 : decode cX12_becomesStatus 56 = .ok (.aload_n 0, 1) := qd_o42 40 16 qd_g507 rfl
theorem dX12_becomesStatus_57 : decode cX12_becomesStatus 57 = .ok (.getfield 53, 3) := qd_o180 40 17 qd_g507 rfl rfl
theorem dX12_becomesStatus_60 : decode cX12_becomesStatus 60 = .ok (.iconst 0, 1) := qd_o3 40 20 qd_g507 rfl
theorem dX12_becomesStatus_61 : decode cX12_becomesStatus 61 = .ok (.iload_n 1, 1) := qd_o27 40 21 qd_g507 rfl
theorem dX12_becomesStatus_62 : decode cX12_becomesStatus 62 = .ok (.bipush 7, 2) := qd_o16 40 22 qd_g507 rfl rfl
theorem dX12_becomesStatus_64 : decode cX12_becomesStatus 64 = .ok (.invokestatic 131, 3) := qd_o184 40 24 qd_g507 rfl rfl
theorem dX12_becomesStatus_67 : decode cX12_becomesStatus 67 = .ok (.bastore, 1) := qd_o84 40 27 qd_g507 rfl
theorem dX12_becomesStatus_68 : decode cX12_becomesStatus 68 = .ok (.return_, 1) := qd_o177 40 28 qd_g507 rfl
theorem qd_g508 : qd_bs cX12_interrupts 0 [42, 28, 17, 1, 0, 108, 182, 1, 22, 42, 28, 17, 1, 0, 112, 182, 1, 22, 42, 42, 29, 182, 1, 25, 182, 1, 22, 42, 180, 0, 53, 6, 4, 84, 42, 180, 0, 50, 7, 42] = true := by decide +kernel
theorem dX12_interrupts_0 : decode cX12_interrupts 0 = .ok (.aload_n 0, 1) := qd_o42 0 0 qd_g508 rfl
theorem dX12_interrupts_1 : decode cX12_interrupts 1 = .ok (.iload_n 2, 1) := qd_o28 0 1 qd_g508 rfl
theorem dX12_interrupts_2 : decode cX12_interrupts 2 = .ok (.sipush 256, 3) := qd_o17 0 2 qd_g508 rfl rfl
theorem dX12_interrupts_5 : decode cX12_interrupts 5 = .ok (.idiv, 1) := qd_o108 0 5 qd_g508 rfl
theorem dX12_interrupts_6 : decode cX12_interrupts 6 = .ok (.invokevirtual 278, 3) := qd_o182 0 6 qd_g508 rfl rfl
theorem dX12_interrupts_9 : decode cX12_interrupts 9 = .ok (.aload_n 0, 1) := qd_o42 0 9 qd_g508 rfl
theorem dX12_interrupts_10 : decode cX12_interrupts 10 = .ok (.iload_n 2, 1) := qd_o28 0 10 qd_g508 rfl
theorem dX12_interrupts_11 : decode cX12_interrupts 11 = .ok (.sipush 256, 3) := qd_o17 0 11 qd_g508 rfl rfl
theorem dX12_interrupts_14 : decode cX12_interrupts 14 = .ok (.irem, 1) := qd_o112 0 14 qd_g508 rfl
theorem dX12_interrupts_15 : decode cX12_interrupts 15 = .ok (.invokevirtual 278, 3) := qd_o182 0 15 qd_g508 rfl rfl
theorem dX12_interrupts_18 : decode cX12_interrupts 18 = .ok (.aload_n 0, 1) := qd_o42 0 18 qd_g508 rfl
theorem dX12_interrupts_19 : decode cX12_interrupts 19 = .ok (.aload_n 0, 1) := qd_o42 0 19 qd_g508 rfl
theorem dX12_interrupts_20 : decode cX12_interrupts 20 = .ok (.iload_n 3, 1) := qd_o29 0 20 qd_g508 rfl
theorem dX12_interrupts_21 : decode cX12_interrupts 21 = .ok (.invokevirtual 281, 3) := qd_o182 0 21 qd_g508 rfl rfl
theorem dX12_interrupts_24 : decode cX12_interrupts 24 = .ok (.invokevirtual 278, 3) := qd_o182 0 24 qd_g508 rfl rfl
theorem dX12_interrupts_27 : decode cX12_interrupts 27 = .ok (.aload_n 0, 1) := qd_o42 0 27 qd_g508 rfl
theorem dX12_interrupts_28 : decode cX12_interrupts 28 = .ok (.getfield 53, 3) := qd_o180 0 28 qd_g508 rfl rfl
theorem dX12_interrupts_31 : decode cX12_interrupts 31 = .ok (.iconst 3, 1) := qd_o6 0 31 qd_g508 rfl
theorem dX12_interrupts_32 : decode cX12_interrupts 32 = .ok (.iconst 1, 1) := qd_o4 0 32 qd_g508 rfl
theorem dX12_interrupts_33 : decode cX12_interrupts 33 = .ok (.bastore, 1) := qd_o84 0 33 qd_g508 rfl
theorem dX12_interrupts_34 : decode cX12_interrupts 34 = .ok (.aload_n 0, 1) := qd_o42 0 34 qd_g508 rfl
theorem dX12_interrupts_35 : decode cX12_interrupts 35 = .ok (.getfield 50, 3) := qd_o180 0 35 qd_g508 rfl rfl
theorem dX12_interrupts_38 : decode cX12_interrupts 38 = .ok (.iconst 4, 1) := qd_o7 0 38 qd_g508 rfl
theorem dX12_interrupts_39 : decode cX12_interrupts 39 = .ok (.aload_n 0, 1) := qd_o42 0 39 qd_g508 rfl
theorem qd_g509 : qd_bs cX12_interrupts 40 [27, 182, 0, 253, 79, 177] = true := by decide +kernel
theorem dX12_interrupts_40 : decode cX12_interrupts 40 = .ok (.iload_n 1, 1) := qd_o27 40 0 qd_g509 rfl
theorem dX12_interrupts_41 : decode cX12_interrupts 41 = .ok (.invokevirtual 253, 3) := qd_o182 40 1 qd_g509 rfl rfl
theorem dX12_interrupts_44 : decode cX12_interrupts 44 = .ok (.iastore, 1) := qd_o79 40 4 qd_g509 rfl
theorem dX12_interrupts_45 : decode cX12_interrupts 45 = .ok (.return_, 1) := qd_o177 40 5 qd_g509 rfl
theorem qd_g510 : qd_bs cX12_sets 0 [42, 180, 0, 53, 7, 27, 154, 0, 7, 4, 167, 0, 4, 3, 84, 42, 180, 0, 53, 3, 27, 16, 127, 164, 0, 7, 4, 167, 0, 4, 3, 84, 27, 172] = true := by decide +kernel
theorem dX12_sets_0 : decode cX12_sets 0 = .ok (.aload_n 0, 1) := qd_o42 0 0 qd_g510 rfl
theorem dX12_sets_1 : decode cX12_sets 1 = .ok (.getfield 53, 3) := qd_o180 0 1 qd_g510 rfl rfl
theorem dX12_sets_4 : decode cX12_sets 4 = .ok (.iconst 4, 1) := qd_o7 0 4 qd_g510 rfl
theorem dX12_sets_5 : decode cX12_sets 5 = .ok (.iload_n 1, 1) := qd_o27 0 5 qd_g510 rfl
theorem dX12_sets_6 : decode cX12_sets 6 = .ok (.ifCond .ne 7, 3) := qd_o154 0 6 qd_g510 rfl rfl
theorem dX12_sets_9 : decode cX12_sets 9 = .ok (.iconst 1, 1) := qd_o4 0 9 qd_g510 rfl
theorem dX12_sets_10 : decode cX12_sets 10 = .ok (.goto 4, 3) := qd_o167 0 10 qd_g510 rfl rfl
theorem dX12_sets_13 : decode cX12_sets 13 = .ok (.iconst 0, 1) := qd_o3 0 13 qd_g510 rfl
theorem dX12_sets_14 : decode cX12_sets 14 = .ok (.bastore, 1) := qd_o84 0 14 qd_g510 rfl
theorem dX12_sets_15 : decode cX12_sets 15 = .ok (.aload_n 0, 1) := qd_o42 0 15 qd_g510 rfl
theorem dX12_sets_16 : decode cX12_sets 16 = .ok (.getfield 53, 3) := qd_o180 0 16 qd_g510 rfl rfl
theorem dX12_sets_19 : decode cX12_sets 19 = .ok (.iconst 0, 1) := qd_o3 0 19 qd_g510 rfl
theorem dX12_sets_20 : decode cX12_sets 20 = .ok (.iload_n 1, 1) := qd_o27 0 20 qd_g510 rfl
theorem dX12_sets_21 : decode cX12_sets 21 = .ok (.bipush 127, 2) := qd_o16 0 21 qd_g510 rfl rfl
theorem dX12_sets_23 : decode cX12_sets 23 = .ok (.if_icmp .le 7, 3) := qd_o164 0 23 qd_g510 rfl rfl
theorem dX12_sets_26 : decode cX12_sets 26 = .ok (.iconst 1, 1) := qd_o4 0 26 qd_g510 rfl
theorem dX12_sets_27 : decode cX12_sets 27 = .ok (.goto 4, 3) := qd_o167 0 27 qd_g510 rfl rfl
theorem dX12_sets_30 : decode cX12_sets 30 = .ok (.iconst 0, 1) := qd_o3 0 30 qd_g510 rfl
theorem dX12_sets_31 : decode cX12_sets 31 = .ok (.bastore, 1) := qd_o84 0 31 qd_g510 rfl
theorem dX12_sets_32 : decode cX12_sets 32 = .ok (.iload_n 1, 1) := qd_o27 0 32 qd_g510 rfl
theorem dX12_sets_33 : decode cX12_sets 33 = .ok (.ireturn, 1) := qd_o172 0 33 qd_g510 rfl
theorem qd_g511 : qd_bs cX12_becomes 0 [42, 180, 0, 50, 27, 42, 28, 182, 1, 28, 79, 177] = true := by decide +kernel
theorem dX12_becomes_0 : decode cX12_becomes 0 = .ok (.aload_n 0, 1) := qd_o42 0 0 qd_g511 rfl
theorem dX12_becomes_1 : decode cX12_becomes 1 = .ok (.getfield 50, 3) := qd_o180 0 1 qd_g511 rfl rfl
theorem dX12_becomes_4 : decode cX12_becomes 4 = .ok (.iload_n 1, 1) := qd_o27 0 4 qd_g511 rfl
theorem dX12_becomes_5 : decode cX12_becomes 5 = .ok (.aload_n 0, 1) := qd_o42 0 5 qd_g511 rfl
theorem dX12_becomes_6 : decode cX12_becomes 6 = .ok (.iload_n 2, 1) := qd_o28 0 6 qd_g511 rfl
theorem dX12_becomes_7 : decode cX12_becomes 7 = .ok (.invokevirtual 284, 3) := qd_o182 0 7 qd_g511 rfl rfl
theorem dX12_becomes_10 : decode cX12_becomes 10 = .ok (.iastore, 1) := qd_o79 0 10 qd_g511 rfl
theorem dX12_becomes_11 : decode cX12_becomes 11 = .ok (.return_, 1) := qd_o177 0 11 qd_g511 rfl
theorem qd_g512 : qd_bs cX12_compares 0 [42, 180, 0, 53, 8, 42, 180, 0, 50, 27, 46, 28, 161, 0, 7, 4, 167, 0, 4, 3, 84, 42, 42, 180, 0, 50, 27, 46, 28, 100, 17, 0, 255, 126, 182, 1, 28, 87, 177] = true := by decide +kernel
theorem dX12_compares_0 : decode cX12_compares 0 = .ok (.aload_n 0, 1) := qd_o42 0 0 qd_g512 rfl
theorem dX12_compares_1 : decode cX12_compares 1 = .ok (.getfield 53, 3) := qd_o180 0 1 qd_g512 rfl rfl
theorem dX12_compares_4 : decode cX12_compares 4 = .ok (.iconst 5, 1) := qd_o8 0 4 qd_g512 rfl
theorem dX12_compares_5 : decode cX12_compares 5 = .ok (.aload_n 0, 1) := qd_o42 0 5 qd_g512 rfl
theorem dX12_compares_6 : decode cX12_compares 6 = .ok (.getfield 50, 3) := qd_o180 0 6 qd_g512 rfl rfl
theorem dX12_compares_9 : decode cX12_compares 9 = .ok (.iload_n 1, 1) := qd_o27 0 9 qd_g512 rfl
theorem dX12_compares_10 : decode cX12_compares 10 = .ok (.iaload, 1) := qd_o46 0 10 qd_g512 rfl
theorem dX12_compares_11 : decode cX12_compares 11 = .ok (.iload_n 2, 1) := qd_o28 0 11 qd_g512 rfl
theorem dX12_compares_12 : decode cX12_compares 12 = .ok (.if_icmp .lt 7, 3) := qd_o161 0 12 qd_g512 rfl rfl
theorem dX12_compares_15 : decode cX12_compares 15 = .ok (.iconst 1, 1) := qd_o4 0 15 qd_g512 rfl
theorem dX12_compares_16 : decode cX12_compares 16 = .ok (.goto 4, 3) := qd_o167 0 16 qd_g512 rfl rfl
theorem dX12_compares_19 : decode cX12_compares 19 = .ok (.iconst 0, 1) := qd_o3 0 19 qd_g512 rfl
theorem dX12_compares_20 : decode cX12_compares 20 = .ok (.bastore, 1) := qd_o84 0 20 qd_g512 rfl
theorem dX12_compares_21 : decode cX12_compares 21 = .ok (.aload_n 0, 1) := qd_o42 0 21 qd_g512 rfl
theorem dX12_compares_22 : decode cX12_compares 22 = .ok (.aload_n 0, 1) := qd_o42 0 22 qd_g512 rfl
theorem dX12_compares_23 : decode cX12_compares 23 = .ok (.getfield 50, 3) := qd_o180 0 23 qd_g512 rfl rfl
theorem dX12_compares_26 : decode cX12_compares 26 = .ok (.iload_n 1, 1) := qd_o27 0 26 qd_g512 rfl
theorem dX12_compares_27 : decode cX12_compares 27 = .ok (.iaload, 1) := qd_o46 0 27 qd_g512 rfl
theorem dX12_compares_28 : decode cX12_compares 28 = .ok (.iload_n 2, 1) := qd_o28 0 28 qd_g512 rfl
theorem dX12_compares_29 : decode cX12_compares 29 = .ok (.isub, 1) := qd_o100 0 29 qd_g512 rfl
theorem dX12_compares_30 : decode cX12_compares 30 = .ok (.sipush 255, 3) := qd_o17 0 30 qd_g512 rfl rfl
theorem dX12_compares_33 : decode cX12_compares 33 = .ok (.iand, 1) := qd_o126 0 33 qd_g512 rfl
theorem dX12_compares_34 : decode cX12_compares 34 = .ok (.invokevirtual 284, 3) := qd_o182 0 34 qd_g512 rfl rfl
theorem dX12_compares_37 : decode cX12_compares 37 = .ok (.pop, 1) := qd_o87 0 37 qd_g512 rfl
theorem dX12_compares_38 : decode cX12_compares 38 = .ok (.return_, 1) := qd_o177 0 38 qd_g512 rfl
theorem qd_g513 : qd_bs cX12_adds 0 [42, 180, 0, 50, 3, 46, 27, 96, 42, 8, 4, 182, 1, 19, 96, 61, 42, 180, 0, 53, 4, 42, 180, 0, 50, 3, 46, 28, 130, 27, 28, 130, 126, 17, 0, 128, 126, 153, 0, 7] = true := by decide +kernel
theorem dX12_adds_0 : decode cX12_adds 0 = .ok (.aload_n 0, 1) := qd_o42 0 0 qd_g513 rfl
theorem dX12_adds_1 : decode cX12_adds 1 = .ok (.getfield 50, 3) := qd_o180 0 1 qd_g513 rfl rfl
theorem dX12_adds_4 : decode cX12_adds 4 = .ok (.iconst 0, 1) := qd_o3 0 4 qd_g513 rfl
theorem dX12_adds_5 : decode cX12_adds 5 = .ok (.iaload, 1) := qd_o46 0 5 qd_g513 rfl
theorem dX12_adds_6 : decode cX12_adds 6 = .ok (.iload_n 1, 1) := qd_o27 0 6 qd_g513 rfl
theorem dX12_adds_7 : decode cX12_adds 7 = .ok (.iadd, 1) := qd_o96 0 7 qd_g513 rfl
theorem dX12_adds_8 : decode cX12_adds 8 = .ok (.aload_n 0, 1) := qd_o42 0 8 qd_g513 rfl
theorem dX12_adds_9 : decode cX12_adds 9 = .ok (.iconst 5, 1) := qd_o8 0 9 qd_g513 rfl
theorem dX12_adds_10 : decode cX12_adds 10 = .ok (.iconst 1, 1) := qd_o4 0 10 qd_g513 rfl
theorem dX12_adds_11 : decode cX12_adds 11 = .ok (.invokevirtual 275, 3) := qd_o182 0 11 qd_g513 rfl rfl
theorem dX12_adds_14 : decode cX12_adds 14 = .ok (.iadd, 1) := qd_o96 0 14 qd_g513 rfl
theorem dX12_adds_15 : decode cX12_adds 15 = .ok (.istore_n 2, 1) := qd_o61 0 15 qd_g513 rfl
theorem dX12_adds_16 : decode cX12_adds 16 = .ok (.aload_n 0, 1) := qd_o42 0 16 qd_g513 rfl
theorem dX12_adds_17 : decode cX12_adds 17 = .ok (.getfield 53, 3) := qd_o180 0 17 qd_g513 rfl rfl
theorem dX12_adds_20 : decode cX12_adds 20 = .ok (.iconst 1, 1) := qd_o4 0 20 qd_g513 rfl
theorem dX12_adds_21 : decode cX12_adds 21 = .ok (.aload_n 0, 1) := qd_o42 0 21 qd_g513 rfl
theorem dX12_adds_22 : decode cX12_adds 22 = .ok (.getfield 50, 3) := qd_o180 0 22 qd_g513 rfl rfl
theorem dX12_adds_25 : decode cX12_adds 25 = .ok (.iconst 0, 1) := qd_o3 0 25 qd_g513 rfl
theorem dX12_adds_26 : decode cX12_adds 26 = .ok (.iaload, 1) := qd_o46 0 26 qd_g513 rfl
theorem dX12_adds_27 : decode cX12_adds 27 = .ok (.iload_n 2, 1) := qd_o28 0 27 qd_g513 rfl
theorem dX12_adds_28 : decode cX12_adds 28 = .ok (.ixor, 1) := qd_o130 0 28 qd_g513 rfl
theorem dX12_adds_29 : decode cX12_adds 29 = .ok (.iload_n 1, 1) := qd_o27 0 29 qd_g513 rfl
theorem dX12_adds_30 : decode cX12_adds 30 = .ok (.iload_n 2, 1) := qd_o28 0 30 qd_g513 rfl
theorem dX12_adds_31 : decode cX12_adds 31 = .ok (.ixor, 1) := qd_o130 0 31 qd_g513 rfl
theorem dX12_adds_32 : decode cX12_adds 32 = .ok (.iand, 1) := qd_o126 0 32 qd_g513 rfl
theorem dX12_adds_33 : decode cX12_adds 33 = .ok (.sipush 128, 3) := qd_o17 0 33 qd_g513 rfl rfl
theorem dX12_adds_36 : decode cX12_adds 36 = .ok (.iand, 1) := qd_o126 0 36 qd_g513 rfl
theorem dX12_adds_37 : decode cX12_adds 37 = .ok (.ifCond .eq 7, 3) := qd_o153 0 37 qd_g513 rfl rfl
theorem qd_g514 : qd_bs cX12_adds 40 [4, 167, 0, 4, 3, 84, 42, 180, 0, 53, 8, 28, 17, 0, 255, 164, 0, 7, 4, 167, 0, 4, 3, 84, 42, 180, 0, 50, 3, 28, 17, 1, 0, 112, 79, 177] = true := by decide +kernel
theorem dX12_adds_40 : decode cX12_adds 40 = .ok (.iconst 1, 1) := qd_o4 40 0 qd_g514 rfl
theorem dX12_adds_41 : decode cX12_adds 41 = .ok (.goto 4, 3) := qd_o167 40 1 qd_g514 rfl rfl
theorem dX12_adds_44 : decode cX12_adds 44 = .ok (.iconst 0, 1) := qd_o3 40 4 qd_g514 rfl
theorem dX12_adds_45 : decode cX12_adds 45 = .ok (.bastore, 1) := qd_o84 40 5 qd_g514 rfl
theorem dX12_adds_46 : decode cX12_adds 46 = .ok (.aload_n 0, 1) := qd_o42 40 6 qd_g514 rfl
theorem dX12_adds_47 : decode cX12_adds 47 = .ok (.getfield 53, 3) := qd_o180 40 7 qd_g514 rfl rfl
theorem dX12_adds_50 : decode cX12_adds 50 = .ok (.iconst 5, 1) := qd_o8 40 10 qd_g514 rfl
theorem dX12_adds_51 : decode cX12_adds 51 = .ok (.iload_n 2, 1) := qd_o28 40 11 qd_g514 rfl
theorem dX12_adds_52 : decode cX12_adds 52 = .ok (.sipush 255, 3) := qd_o17 40 12 qd_g514 rfl rfl
theorem dX12_adds_55 : decode cX12_adds 55 = .ok (.if_icmp .le 7, 3) := qd_o164 40 15 qd_g514 rfl rfl
theorem dX12_adds_58 : decode cX12_adds 58 = .ok (.iconst 1, 1) := qd_o4 40 18 qd_g514 rfl
theorem dX12_adds_59 : decode cX12_adds 59 = .ok (.goto 4, 3) := qd_o167 40 19 qd_g514 rfl rfl
theorem dX12_adds_62 : decode cX12_adds 62 = .ok (.iconst 0, 1) := qd_o3 40 22 qd_g514 rfl
theorem dX12_adds_63 : decode cX12_adds 63 = .ok (.bastore, 1) := qd_o84 40 23 qd_g514 rfl
theorem dX12_adds_64 : decode cX12_adds 64 = .ok (.aload_n 0, 1) := qd_o42 40 24 qd_g514 rfl
theorem dX12_adds_65 : decode cX12_adds 65 = .ok (.getfield 50, 3) := qd_o180 40 25 qd_g514 rfl rfl
theorem dX12_adds_68 : decode cX12_adds 68 = .ok (.iconst 0, 1) := qd_o3 40 28 qd_g514 rfl
theorem dX12_adds_69 : decode cX12_adds 69 = .ok (.iload_n 2, 1) := qd_o28 40 29 qd_g514 rfl
theorem dX12_adds_70 : decode cX12_adds 70 = .ok (.sipush 256, 3) := qd_o17 40 30 qd_g514 rfl rfl
theorem dX12_adds_73 : decode cX12_adds 73 = .ok (.irem, 1) := qd_o112 40 33 qd_g514 rfl
theorem dX12_adds_74 : decode cX12_adds 74 = .ok (.iastore, 1) := qd_o79 40 34 qd_g514 rfl
theorem dX12_adds_75 : decode cX12_adds 75 = .ok (.return_, 1) := qd_o177 40 35 qd_g514 rfl
theorem qd_g515 : qd_bs cX12_addsDecimal 0 [27, 16, 16, 112, 28, 16, 16, 112, 96, 29, 96, 54, 4, 27, 16, 16, 108, 28, 16, 16, 108, 96, 21, 4, 16, 9, 164, 0, 7, 4, 167, 0, 4, 3, 96, 54, 5, 21, 4] = true := by decide +kernel
theorem dX12_addsDecimal_0 : decode cX12_addsDecimal 0 = .ok (.iload_n 1, 1) := qd_o27 0 0 qd_g515 rfl
theorem dX12_addsDecimal_1 : decode cX12_addsDecimal 1 = .ok (.bipush 16, 2) := qd_o16 0 1 qd_g515 rfl rfl
theorem dX12_addsDecimal_3 : decode cX12_addsDecimal 3 = .ok (.irem, 1) := qd_o112 0 3 qd_g515 rfl
theorem dX12_addsDecimal_4 : decode cX12_addsDecimal 4 = .ok (.iload_n 2, 1) := qd_o28 0 4 qd_g515 rfl
theorem dX12_addsDecimal_5 : decode cX12_addsDecimal 5 = .ok (.bipush 16, 2) := qd_o16 0 5 qd_g515 rfl rfl
theorem dX12_addsDecimal_7 : decode cX12_addsDecimal 7 = .ok (.irem, 1) := qd_o112 0 7 qd_g515 rfl
theorem dX12_addsDecimal_8 : decode cX12_addsDecimal 8 = .ok (.iadd, 1) := qd_o96 0 8 qd_g515 rfl
theorem dX12_addsDecimal_9 : decode cX12_addsDecimal 9 = .ok (.iload_n 3, 1) := qd_o29 0 9 qd_g515 rfl
theorem dX12_addsDecimal_10 : decode cX12_addsDecimal 10 = .ok (.iadd, 1) := qd_o96 0 10 qd_g515 rfl
theorem dX12_addsDecimal_11 : decode cX12_addsDecimal 11 = .ok (.istore 4, 2) := qd_o54 0 11 qd_g515 rfl rfl
theorem dX12_addsDecimal_13 : decode cX12_addsDecimal 13 = .ok (.iload_n 1, 1) := qd_o27 0 13 qd_g515 rfl
theorem dX12_addsDecimal_14 : decode cX12_addsDecimal 14 = .ok (.bipush 16, 2) := qd_o16 0 14 qd_g515 rfl rfl
theorem dX12_addsDecimal_16 : decode cX12_addsDecimal 16 = .ok (.idiv, 1) := qd_o108 0 16 qd_g515 rfl
theorem dX12_addsDecimal_17 : decode cX12_addsDecimal 17 = .ok (.iload_n 2, 1) := qd_o28 0 17 qd_g515 rfl
theorem dX12_addsDecimal_18 : decode cX12_addsDecimal 18 = .ok (.bipush 16, 2) := qd_o16 0 18 qd_g515 rfl rfl
theorem dX12_addsDecimal_20 : decode cX12_addsDecimal 20 = .ok (.idiv, 1) := qd_o108 0 20 qd_g515 rfl
theorem dX12_addsDecimal_21 : decode cX12_addsDecimal 21 = .ok (.iadd, 1) := qd_o96 0 21 qd_g515 rfl
theorem dX12_addsDecimal_22 : decode cX12_addsDecimal 22 = .ok (.iload 4, 2) := qd_o21 0 22 qd_g515 rfl rfl
theorem dX12_addsDecimal_24 : decode cX12_addsDecimal 24 = .ok (.bipush 9, 2) := qd_o16 0 24 qd_g515 rfl rfl
theorem dX12_addsDecimal_26 : decode cX12_addsDecimal 26 = .ok (.if_icmp .le 7, 3) := qd_o164 0 26 qd_g515 rfl rfl
theorem dX12_addsDecimal_29 : decode cX12_addsDecimal 29 = .ok (.iconst 1, 1) := qd_o4 0 29 qd_g515 rfl
theorem dX12_addsDecimal_30 : decode cX12_addsDecimal 30 = .ok (.goto 4, 3) := qd_o167 0 30 qd_g515 rfl rfl
theorem dX12_addsDecimal_33 : decode cX12_addsDecimal 33 = .ok (.iconst 0, 1) := qd_o3 0 33 qd_g515 rfl
theorem dX12_addsDecimal_34 : decode cX12_addsDecimal 34 = .ok (.iadd, 1) := qd_o96 0 34 qd_g515 rfl
theorem dX12_addsDecimal_35 : decode cX12_addsDecimal 35 = .ok (.istore 5, 2) := qd_o54 0 35 qd_g515 rfl rfl
theorem dX12_addsDecimal_37 : decode cX12_addsDecimal 37 = .ok (.iload 4, 2) := qd_o21 0 37 qd_g515 rfl rfl
theorem qd_g516 : qd_bs cX12_addsDecimal 39 [21, 4, 16, 9, 164, 0, 8, 16, 10, 167, 0, 4, 3, 100, 54, 4, 42, 180, 0, 53, 8, 21, 5, 16, 9, 164, 0, 7, 4, 167, 0, 4, 3, 84, 21, 5, 21, 5, 16, 9] = true := by decide +kernel
theorem dX12_addsDecimal_39 : decode cX12_addsDecimal 39 = .ok (.iload 4, 2) := qd_o21 39 0 qd_g516 rfl rfl
theorem dX12_addsDecimal_41 : decode cX12_addsDecimal 41 = .ok (.bipush 9, 2) := qd_o16 39 2 qd_g516 rfl rfl
theorem dX12_addsDecimal_43 : decode cX12_addsDecimal 43 = .ok (.if_icmp .le 8, 3) := qd_o164 39 4 qd_g516 rfl rfl
theorem dX12_addsDecimal_46 : decode cX12_addsDecimal 46 = .ok (.bipush 10, 2) := qd_o16 39 7 qd_g516 rfl rfl
theorem dX12_addsDecimal_48 : decode cX12_addsDecimal 48 = .ok (.goto 4, 3) := qd_o167 39 9 qd_g516 rfl rfl
theorem dX12_addsDecimal_51 : decode cX12_addsDecimal 51 = .ok (.iconst 0, 1) := qd_o3 39 12 qd_g516 rfl
theorem dX12_addsDecimal_52 : decode cX12_addsDecimal 52 = .ok (.isub, 1) := qd_o100 39 13 qd_g516 rfl
theorem dX12_addsDecimal_53 : decode cX12_addsDecimal 53 = .ok (.istore 4, 2) := qd_o54 39 14 qd_g516 rfl rfl
theorem dX12_addsDecimal_55 : decode cX12_addsDecimal 55 = .ok (.aload_n 0, 1) := qd_o42 39 16 qd_g516 rfl
theorem dX12_addsDecimal_56 : decode cX12_addsDecimal 56 = .ok (.getfield 53, 3) := qd_o180 39 17 qd_g516 rfl rfl
theorem dX12_addsDecimal_59 : decode cX12_addsDecimal 59 = .ok (.iconst 5, 1) := qd_o8 39 20 qd_g516 rfl
theorem dX12_addsDecimal_60 : decode cX12_addsDecimal 60 = .ok (.iload 5, 2) := qd_o21 39 21 qd_g516 rfl rfl
theorem dX12_addsDecimal_62 : decode cX12_addsDecimal 62 = .ok (.bipush 9, 2) := qd_o16 39 23 qd_g516 rfl rfl
theorem dX12_addsDecimal_64 : decode cX12_addsDecimal 64 = .ok (.if_icmp .le 7, 3) := qd_o164 39 25 qd_g516 rfl rfl
theorem dX12_addsDecimal_67 : decode cX12_addsDecimal 67 = .ok (.iconst 1, 1) := qd_o4 39 28 qd_g516 rfl
theorem dX12_addsDecimal_68 : decode cX12_addsDecimal 68 = .ok (.goto 4, 3) := qd_o167 39 29 qd_g516 rfl rfl
theorem dX12_addsDecimal_71 : decode cX12_addsDecimal 71 = .ok (.iconst 0, 1) := qd_o3 39 32 qd_g516 rfl
theorem dX12_addsDecimal_72 : decode cX12_addsDecimal 72 = .ok (.bastore, 1) := qd_o84 39 33 qd_g516 rfl
theorem dX12_addsDecimal_73 : decode cX12_addsDecimal 73 = .ok (.iload 5, 2) := qd_o21 39 34 qd_g516 rfl rfl
theorem dX12_addsDecimal_75 : decode cX12_addsDecimal 75 = .ok (.iload 5, 2) := qd_o21 39 36 qd_g516 rfl rfl
theorem dX12_addsDecimal_77 : decode cX12_addsDecimal 77 = .ok (.bipush 9, 2) := qd_o16 39 38 qd_g516 rfl rfl
theorem qd_g517 : qd_bs cX12_addsDecimal 79 [164, 0, 8, 16, 10, 167, 0, 4, 3, 100, 54, 5, 42, 180, 0, 50, 3, 16, 16, 21, 5, 104, 21, 4, 96, 17, 0, 255, 126, 79, 177] = true := by decide +kernel
theorem dX12_addsDecimal_79 : decode cX12_addsDecimal 79 = .ok (.if_icmp .le 8, 3) := qd_o164 79 0 qd_g517 rfl rfl
theorem dX12_addsDecimal_82 : decode cX12_addsDecimal 82 = .ok (.bipush 10, 2) := qd_o16 79 3 qd_g517 rfl rfl
theorem dX12_addsDecimal_84 : decode cX12_addsDecimal 84 = .ok (.goto 4, 3) := qd_o167 79 5 qd_g517 rfl rfl
theorem dX12_addsDecimal_87 : decode cX12_addsDecimal 87 = .ok (.iconst 0, 1) := qd_o3 79 8 qd_g517 rfl
theorem dX12_addsDecimal_88 : decode cX12_addsDecimal 88 = .ok (.isub, 1) := qd_o100 79 9 qd_g517 rfl
theorem dX12_addsDecimal_89 : decode cX12_addsDecimal 89 = .ok (.istore 5, 2) := qd_o54 79 10 qd_g517 rfl rfl
theorem dX12_addsDecimal_91 : decode cX12_addsDecimal 91 = .ok (.aload_n 0, 1) := qd_o42 79 12 qd_g517 rfl
theorem dX12_addsDecimal_92 : decode cX12_addsDecimal 92 = .ok (.getfield 50, 3) := qd_o180 79 13 qd_g517 rfl rfl
theorem dX12_addsDecimal_95 : decode cX12_addsDecimal 95 = .ok (.iconst 0, 1) := qd_o3 79 16 qd_g517 rfl
theorem dX12_addsDecimal_96 : decode cX12_addsDecimal 96 = .ok (.bipush 16, 2) := qd_o16 79 17 qd_g517 rfl rfl
theorem dX12_addsDecimal_98 : decode cX12_addsDecimal 98 = .ok (.iload 5, 2) := qd_o21 79 19 qd_g517 rfl rfl
theorem dX12_addsDecimal_100 : decode cX12_addsDecimal 100 = .ok (.imul, 1) := qd_o104 79 21 qd_g517 rfl
theorem dX12_addsDecimal_101 : decode cX12_addsDecimal 101 = .ok (.iload 4, 2) := qd_o21 79 22 qd_g517 rfl rfl
theorem dX12_addsDecimal_103 : decode cX12_addsDecimal 103 = .ok (.iadd, 1) := qd_o96 79 24 qd_g517 rfl
theorem dX12_addsDecimal_104 : decode cX12_addsDecimal 104 = .ok (.sipush 255, 3) := qd_o17 79 25 qd_g517 rfl rfl
theorem dX12_addsDecimal_107 : decode cX12_addsDecimal 107 = .ok (.iand, 1) := qd_o126 79 28 qd_g517 rfl
theorem dX12_addsDecimal_108 : decode cX12_addsDecimal 108 = .ok (.iastore, 1) := qd_o79 79 29 qd_g517 rfl
theorem dX12_addsDecimal_109 : decode cX12_addsDecimal 109 = .ok (.return_, 1) := qd_o177 79 30 qd_g517 rfl
theorem qd_g518 : qd_bs cX12_takesDecimal 0 [27, 16, 16, 112, 28, 16, 16, 112, 100, 4, 100, 29, 96, 54, 4, 27, 16, 16, 108, 28, 16, 16, 108, 100, 21, 4, 156, 0, 7, 4, 167, 0, 4, 3, 100, 54, 5, 21, 4] = true := by decide +kernel
theorem dX12_takesDecimal_0 : decode cX12_takesDecimal 0 = .ok (.iload_n 1, 1) := qd_o27 0 0 qd_g518 rfl
theorem dX12_takesDecimal_1 : decode cX12_takesDecimal 1 = .ok (.bipush 16, 2) := qd_o16 0 1 qd_g518 rfl rfl
theorem dX12_takesDecimal_3 : decode cX12_takesDecimal 3 = .ok (.irem, 1) := qd_o112 0 3 qd_g518 rfl
theorem dX12_takesDecimal_4 : decode cX12_takesDecimal 4 = .ok (.iload_n 2, 1) := qd_o28 0 4 qd_g518 rfl
theorem dX12_takesDecimal_5 : decode cX12_takesDecimal 5 = .ok (.bipush 16, 2) := qd_o16 0 5 qd_g518 rfl rfl
theorem dX12_takesDecimal_7 : decode cX12_takesDecimal 7 = .ok (.irem, 1) := qd_o112 0 7 qd_g518 rfl
theorem dX12_takesDecimal_8 : decode cX12_takesDecimal 8 = .ok (.isub, 1) := qd_o100 0 8 qd_g518 rfl
theorem dX12_takesDecimal_9 : decode cX12_takesDecimal 9 = .ok (.iconst 1, 1) := qd_o4 0 9 qd_g518 rfl
theorem dX12_takesDecimal_10 : decode cX12_takesDecimal 10 = .ok (.isub, 1) := qd_o100 0 10 qd_g518 rfl
theorem dX12_takesDecimal_11 : decode cX12_takesDecimal 11 = .ok (.iload_n 3, 1) := qd_o29 0 11 qd_g518 rfl
theorem dX12_takesDecimal_12 : decode cX12_takesDecimal 12 = .ok (.iadd, 1) := qd_o96 0 12 qd_g518 rfl
theorem dX12_takesDecimal_13 : decode cX12_takesDecimal 13 = .ok (.istore 4, 2) := qd_o54 0 13 qd_g518 rfl rfl
theorem dX12_takesDecimal_15 : decode cX12_takesDecimal 15 = .ok (.iload_n 1, 1) := qd_o27 0 15 qd_g518 rfl
theorem dX12_takesDecimal_16 : decode cX12_takesDecimal 16 = .ok (.bipush 16, 2) := qd_o16 0 16 qd_g518 rfl rfl
theorem dX12_takesDecimal_18 : decode cX12_takesDecimal 18 = .ok (.idiv, 1) := qd_o108 0 18 qd_g518 rfl
theorem dX12_takesDecimal_19 : decode cX12_takesDecimal 19 = .ok (.iload_n 2, 1) := qd_o28 0 19 qd_g518 rfl
theorem dX12_takesDecimal_20 : decode cX12_takesDecimal 20 = .ok (.bipush 16, 2) := qd_o16 0 20 qd_g518 rfl rfl
theorem dX12_takesDecimal_22 : decode cX12_takesDecimal 22 = .ok (.idiv, 1) := qd_o108 0 22 qd_g518 rfl
theorem dX12_takesDecimal_23 : decode cX12_takesDecimal 23 = .ok (.isub, 1) := qd_o100 0 23 qd_g518 rfl
theorem dX12_takesDecimal_24 : decode cX12_takesDecimal 24 = .ok (.iload 4, 2) := qd_o21 0 24 qd_g518 rfl rfl
theorem dX12_takesDecimal_26 : decode cX12_takesDecimal 26 = .ok (.ifCond .ge 7, 3) := qd_o156 0 26 qd_g518 rfl rfl
theorem dX12_takesDecimal_29 : decode cX12_takesDecimal 29 = .ok (.iconst 1, 1) := qd_o4 0 29 qd_g518 rfl
theorem dX12_takesDecimal_30 : decode cX12_takesDecimal 30 = .ok (.goto 4, 3) := qd_o167 0 30 qd_g518 rfl rfl
theorem dX12_takesDecimal_33 : decode cX12_takesDecimal 33 = .ok (.iconst 0, 1) := qd_o3 0 33 qd_g518 rfl
theorem dX12_takesDecimal_34 : decode cX12_takesDecimal 34 = .ok (.isub, 1) := qd_o100 0 34 qd_g518 rfl
theorem dX12_takesDecimal_35 : decode cX12_takesDecimal 35 = .ok (.istore 5, 2) := qd_o54 0 35 qd_g518 rfl rfl
theorem dX12_takesDecimal_37 : decode cX12_takesDecimal 37 = .ok (.iload 4, 2) := qd_o21 0 37 qd_g518 rfl rfl
theorem qd_g519 : qd_bs cX12_takesDecimal 39 [21, 4, 156, 0, 8, 16, 10, 167, 0, 4, 3, 96, 54, 4, 42, 180, 0, 53, 8, 21, 5, 155, 0, 7, 4, 167, 0, 4, 3, 84, 21, 5, 21, 5, 156, 0, 8, 16, 10] = true := by decide +kernel
theorem dX12_takesDecimal_39 : decode cX12_takesDecimal 39 = .ok (.iload 4, 2) := qd_o21 39 0 qd_g519 rfl rfl
theorem dX12_takesDecimal_41 : decode cX12_takesDecimal 41 = .ok (.ifCond .ge 8, 3) := qd_o156 39 2 qd_g519 rfl rfl
theorem dX12_takesDecimal_44 : decode cX12_takesDecimal 44 = .ok (.bipush 10, 2) := qd_o16 39 5 qd_g519 rfl rfl
theorem dX12_takesDecimal_46 : decode cX12_takesDecimal 46 = .ok (.goto 4, 3) := qd_o167 39 7 qd_g519 rfl rfl
theorem dX12_takesDecimal_49 : decode cX12_takesDecimal 49 = .ok (.iconst 0, 1) := qd_o3 39 10 qd_g519 rfl
theorem dX12_takesDecimal_50 : decode cX12_takesDecimal 50 = .ok (.iadd, 1) := qd_o96 39 11 qd_g519 rfl
theorem dX12_takesDecimal_51 : decode cX12_takesDecimal 51 = .ok (.istore 4, 2) := qd_o54 39 12 qd_g519 rfl rfl
theorem dX12_takesDecimal_53 : decode cX12_takesDecimal 53 = .ok (.aload_n 0, 1) := qd_o42 39 14 qd_g519 rfl
theorem dX12_takesDecimal_54 : decode cX12_takesDecimal 54 = .ok (.getfield 53, 3) := qd_o180 39 15 qd_g519 rfl rfl
theorem dX12_takesDecimal_57 : decode cX12_takesDecimal 57 = .ok (.iconst 5, 1) := qd_o8 39 18 qd_g519 rfl
theorem dX12_takesDecimal_58 : decode cX12_takesDecimal 58 = .ok (.iload 5, 2) := qd_o21 39 19 qd_g519 rfl rfl
theorem dX12_takesDecimal_60 : decode cX12_takesDecimal 60 = .ok (.ifCond .lt 7, 3) := qd_o155 39 21 qd_g519 rfl rfl
theorem dX12_takesDecimal_63 : decode cX12_takesDecimal 63 = .ok (.iconst 1, 1) := qd_o4 39 24 qd_g519 rfl
theorem dX12_takesDecimal_64 : decode cX12_takesDecimal 64 = .ok (.goto 4, 3) := qd_o167 39 25 qd_g519 rfl rfl
theorem dX12_takesDecimal_67 : decode cX12_takesDecimal 67 = .ok (.iconst 0, 1) := qd_o3 39 28 qd_g519 rfl
theorem dX12_takesDecimal_68 : decode cX12_takesDecimal 68 = .ok (.bastore, 1) := qd_o84 39 29 qd_g519 rfl
theorem dX12_takesDecimal_69 : decode cX12_takesDecimal 69 = .ok (.iload 5, 2) := qd_o21 39 30 qd_g519 rfl rfl
theorem dX12_takesDecimal_71 : decode cX12_takesDecimal 71 = .ok (.iload 5, 2) := qd_o21 39 32 qd_g519 rfl rfl
theorem dX12_takesDecimal_73 : decode cX12_takesDecimal 73 = .ok (.ifCond .ge 8, 3) := qd_o156 39 34 qd_g519 rfl rfl
theorem dX12_takesDecimal_76 : decode cX12_takesDecimal 76 = .ok (.bipush 10, 2) := qd_o16 39 37 qd_g519 rfl rfl
theorem qd_g520 : qd_bs cX12_takesDecimal 78 [167, 0, 4, 3, 96, 54, 5, 42, 180, 0, 50, 3, 16, 16, 21, 5, 104, 21, 4, 96, 17, 0, 255, 126, 79, 177] = true := by decide +kernel
theorem dX12_takesDecimal_78 : decode cX12_takesDecimal 78 = .ok (.goto 4, 3) := qd_o167 78 0 qd_g520 rfl rfl
theorem dX12_takesDecimal_81 : decode cX12_takesDecimal 81 = .ok (.iconst 0, 1) := qd_o3 78 3 qd_g520 rfl
theorem dX12_takesDecimal_82 : decode cX12_takesDecimal 82 = .ok (.iadd, 1) := qd_o96 78 4 qd_g520 rfl
theorem dX12_takesDecimal_83 : decode cX12_takesDecimal 83 = .ok (.istore 5, 2) := qd_o54 78 5 qd_g520 rfl rfl
theorem dX12_takesDecimal_85 : decode cX12_takesDecimal 85 = .ok (.aload_n 0, 1) := qd_o42 78 7 qd_g520 rfl
theorem dX12_takesDecimal_86 : decode cX12_takesDecimal 86 = .ok (.getfield 50, 3) := qd_o180 78 8 qd_g520 rfl rfl
theorem dX12_takesDecimal_89 : decode cX12_takesDecimal 89 = .ok (.iconst 0, 1) := qd_o3 78 11 qd_g520 rfl
theorem dX12_takesDecimal_90 : decode cX12_takesDecimal 90 = .ok (.bipush 16, 2) := qd_o16 78 12 qd_g520 rfl rfl
theorem dX12_takesDecimal_92 : decode cX12_takesDecimal 92 = .ok (.iload 5, 2) := qd_o21 78 14 qd_g520 rfl rfl
theorem dX12_takesDecimal_94 : decode cX12_takesDecimal 94 = .ok (.imul, 1) := qd_o104 78 16 qd_g520 rfl
theorem dX12_takesDecimal_95 : decode cX12_takesDecimal 95 = .ok (.iload 4, 2) := qd_o21 78 17 qd_g520 rfl rfl
theorem dX12_takesDecimal_97 : decode cX12_takesDecimal 97 = .ok (.iadd, 1) := qd_o96 78 19 qd_g520 rfl
theorem dX12_takesDecimal_98 : decode cX12_takesDecimal 98 = .ok (.sipush 255, 3) := qd_o17 78 20 qd_g520 rfl rfl
theorem dX12_takesDecimal_101 : decode cX12_takesDecimal 101 = .ok (.iand, 1) := qd_o126 78 23 qd_g520 rfl
theorem dX12_takesDecimal_102 : decode cX12_takesDecimal 102 = .ok (.iastore, 1) := qd_o79 78 24 qd_g520 rfl
theorem dX12_takesDecimal_103 : decode cX12_takesDecimal 103 = .ok (.return_, 1) := qd_o177 78 25 qd_g520 rfl
theorem qd_g521 : qd_bs cX12_calculates 0 [42, 180, 0, 50, 3, 46, 62, 42, 8, 4, 182, 1, 19, 54, 4, 42, 27, 153, 0, 7, 28, 167, 0, 8, 17, 0, 255, 28, 100, 182, 1, 31, 42, 180, 0, 53, 5, 51] = true := by decide +kernel
theorem dX12_calculates_0 : decode cX12_calculates 0 = .ok (.aload_n 0, 1) := qd_o42 0 0 qd_g521 rfl
theorem dX12_calculates_1 : decode cX12_calculates 1 = .ok (.getfield 50, 3) := qd_o180 0 1 qd_g521 rfl rfl
theorem dX12_calculates_4 : decode cX12_calculates 4 = .ok (.iconst 0, 1) := qd_o3 0 4 qd_g521 rfl
theorem dX12_calculates_5 : decode cX12_calculates 5 = .ok (.iaload, 1) := qd_o46 0 5 qd_g521 rfl
theorem dX12_calculates_6 : decode cX12_calculates 6 = .ok (.istore_n 3, 1) := qd_o62 0 6 qd_g521 rfl
theorem dX12_calculates_7 : decode cX12_calculates 7 = .ok (.aload_n 0, 1) := qd_o42 0 7 qd_g521 rfl
theorem dX12_calculates_8 : decode cX12_calculates 8 = .ok (.iconst 5, 1) := qd_o8 0 8 qd_g521 rfl
theorem dX12_calculates_9 : decode cX12_calculates 9 = .ok (.iconst 1, 1) := qd_o4 0 9 qd_g521 rfl
theorem dX12_calculates_10 : decode cX12_calculates 10 = .ok (.invokevirtual 275, 3) := qd_o182 0 10 qd_g521 rfl rfl
theorem dX12_calculates_13 : decode cX12_calculates 13 = .ok (.istore 4, 2) := qd_o54 0 13 qd_g521 rfl rfl
theorem dX12_calculates_15 : decode cX12_calculates 15 = .ok (.aload_n 0, 1) := qd_o42 0 15 qd_g521 rfl
theorem dX12_calculates_16 : decode cX12_calculates 16 = .ok (.iload_n 1, 1) := qd_o27 0 16 qd_g521 rfl
theorem dX12_calculates_17 : decode cX12_calculates 17 = .ok (.ifCond .eq 7, 3) := qd_o153 0 17 qd_g521 rfl rfl
theorem dX12_calculates_20 : decode cX12_calculates 20 = .ok (.iload_n 2, 1) := qd_o28 0 20 qd_g521 rfl
theorem dX12_calculates_21 : decode cX12_calculates 21 = .ok (.goto 8, 3) := qd_o167 0 21 qd_g521 rfl rfl
theorem dX12_calculates_24 : decode cX12_calculates 24 = .ok (.sipush 255, 3) := qd_o17 0 24 qd_g521 rfl rfl
theorem dX12_calculates_27 : decode cX12_calculates 27 = .ok (.iload_n 2, 1) := qd_o28 0 27 qd_g521 rfl
theorem dX12_calculates_28 : decode cX12_calculates 28 = .ok (.isub, 1) := qd_o100 0 28 qd_g521 rfl
theorem dX12_calculates_29 : decode cX12_calculates 29 = .ok (.invokevirtual 287, 3) := qd_o182 0 29 qd_g521 rfl rfl
theorem dX12_calculates_32 : decode cX12_calculates 32 = .ok (.aload_n 0, 1) := qd_o42 0 32 qd_g521 rfl
theorem dX12_calculates_33 : decode cX12_calculates 33 = .ok (.getfield 53, 3) := qd_o180 0 33 qd_g521 rfl rfl
theorem dX12_calculates_36 : decode cX12_calculates 36 = .ok (.iconst 2, 1) := qd_o5 0 36 qd_g521 rfl
theorem dX12_calculates_37 : decode cX12_calculates 37 = .ok (.baload, 1) := qd_o51 0 37 qd_g521 rfl
theorem qd_g522 : qd_bs cX12_calculates 38 [153, 0, 18, 27, 153, 0, 14, 42, 29, 28, 21, 4, 182, 1, 34, 167, 0, 20, 42, 180, 0, 53, 5, 51, 153, 0, 11, 42, 29, 28, 21, 4, 182, 1, 38, 42, 42, 180, 0, 50] = true := by decide +kernel
theorem dX12_calculates_38 : decode cX12_calculates 38 = .ok (.ifCond .eq 18, 3) := qd_o153 38 0 qd_g522 rfl rfl
theorem dX12_calculates_41 : decode cX12_calculates 41 = .ok (.iload_n 1, 1) := qd_o27 38 3 qd_g522 rfl
theorem dX12_calculates_42 : decode cX12_calculates 42 = .ok (.ifCond .eq 14, 3) := qd_o153 38 4 qd_g522 rfl rfl
theorem dX12_calculates_45 : decode cX12_calculates 45 = .ok (.aload_n 0, 1) := qd_o42 38 7 qd_g522 rfl
theorem dX12_calculates_46 : decode cX12_calculates 46 = .ok (.iload_n 3, 1) := qd_o29 38 8 qd_g522 rfl
theorem dX12_calculates_47 : decode cX12_calculates 47 = .ok (.iload_n 2, 1) := qd_o28 38 9 qd_g522 rfl
theorem dX12_calculates_48 : decode cX12_calculates 48 = .ok (.iload 4, 2) := qd_o21 38 10 qd_g522 rfl rfl
theorem dX12_calculates_50 : decode cX12_calculates 50 = .ok (.invokevirtual 290, 3) := qd_o182 38 12 qd_g522 rfl rfl
theorem dX12_calculates_53 : decode cX12_calculates 53 = .ok (.goto 20, 3) := qd_o167 38 15 qd_g522 rfl rfl
theorem dX12_calculates_56 : decode cX12_calculates 56 = .ok (.aload_n 0, 1) := qd_o42 38 18 qd_g522 rfl
theorem dX12_calculates_57 : decode cX12_calculates 57 = .ok (.getfield 53, 3) := qd_o180 38 19 qd_g522 rfl rfl
theorem dX12_calculates_60 : decode cX12_calculates 60 = .ok (.iconst 2, 1) := qd_o5 38 22 qd_g522 rfl
theorem dX12_calculates_61 : decode cX12_calculates 61 = .ok (.baload, 1) := qd_o51 38 23 qd_g522 rfl
theorem dX12_calculates_62 : decode cX12_calculates 62 = .ok (.ifCond .eq 11, 3) := qd_o153 38 24 qd_g522 rfl rfl
theorem dX12_calculates_65 : decode cX12_calculates 65 = .ok (.aload_n 0, 1) := qd_o42 38 27 qd_g522 rfl
theorem dX12_calculates_66 : decode cX12_calculates 66 = .ok (.iload_n 3, 1) := qd_o29 38 28 qd_g522 rfl
theorem dX12_calculates_67 : decode cX12_calculates 67 = .ok (.iload_n 2, 1) := qd_o28 38 29 qd_g522 rfl
theorem dX12_calculates_68 : decode cX12_calculates 68 = .ok (.iload 4, 2) := qd_o21 38 30 qd_g522 rfl rfl
theorem dX12_calculates_70 : decode cX12_calculates 70 = .ok (.invokevirtual 294, 3) := qd_o182 38 32 qd_g522 rfl rfl
theorem dX12_calculates_73 : decode cX12_calculates 73 = .ok (.aload_n 0, 1) := qd_o42 38 35 qd_g522 rfl
theorem dX12_calculates_74 : decode cX12_calculates 74 = .ok (.aload_n 0, 1) := qd_o42 38 36 qd_g522 rfl
theorem dX12_calculates_75 : decode cX12_calculates 75 = .ok (.getfield 50, 3) := qd_o180 38 37 qd_g522 rfl rfl
theorem qd_g523 : qd_bs cX12_calculates 78 [3, 46, 182, 1, 28, 87, 177] = true := by decide +kernel
theorem dX12_calculates_78 : decode cX12_calculates 78 = .ok (.iconst 0, 1) := qd_o3 78 0 qd_g523 rfl
theorem dX12_calculates_79 : decode cX12_calculates 79 = .ok (.iaload, 1) := qd_o46 78 1 qd_g523 rfl
theorem dX12_calculates_80 : decode cX12_calculates 80 = .ok (.invokevirtual 284, 3) := qd_o182 78 2 qd_g523 rfl rfl
theorem dX12_calculates_83 : decode cX12_calculates 83 = .ok (.pop, 1) := qd_o87 78 5 qd_g523 rfl
theorem dX12_calculates_84 : decode cX12_calculates 84 = .ok (.return_, 1) := qd_o177 78 6 qd_g523 rfl
theorem qd_g524 : qd_bs cX12_takes 0 [42, 27, 182, 0, 167, 61, 27, 17, 15, 29, 160, 0, 11, 42, 180, 0, 50, 16, 10, 3, 79, 27, 17, 15, 30, 160, 0, 11, 42, 180, 0, 50, 16, 11, 3, 79, 28, 172] = true := by decide +kernel
theorem dX12_takes_0 : decode cX12_takes 0 = .ok (.aload_n 0, 1) := qd_o42 0 0 qd_g524 rfl
theorem dX12_takes_1 : decode cX12_takes 1 = .ok (.iload_n 1, 1) := qd_o27 0 1 qd_g524 rfl
theorem dX12_takes_2 : decode cX12_takes 2 = .ok (.invokevirtual 167, 3) := qd_o182 0 2 qd_g524 rfl rfl
theorem dX12_takes_5 : decode cX12_takes 5 = .ok (.istore_n 2, 1) := qd_o61 0 5 qd_g524 rfl
theorem dX12_takes_6 : decode cX12_takes 6 = .ok (.iload_n 1, 1) := qd_o27 0 6 qd_g524 rfl
theorem dX12_takes_7 : decode cX12_takes 7 = .ok (.sipush 3869, 3) := qd_o17 0 7 qd_g524 rfl rfl
theorem dX12_takes_10 : decode cX12_takes 10 = .ok (.if_icmp .ne 11, 3) := qd_o160 0 10 qd_g524 rfl rfl
theorem dX12_takes_13 : decode cX12_takes 13 = .ok (.aload_n 0, 1) := qd_o42 0 13 qd_g524 rfl
theorem dX12_takes_14 : decode cX12_takes 14 = .ok (.getfield 50, 3) := qd_o180 0 14 qd_g524 rfl rfl
theorem dX12_takes_17 : decode cX12_takes 17 = .ok (.bipush 10, 2) := qd_o16 0 17 qd_g524 rfl rfl
theorem dX12_takes_19 : decode cX12_takes 19 = .ok (.iconst 0, 1) := qd_o3 0 19 qd_g524 rfl
theorem dX12_takes_20 : decode cX12_takes 20 = .ok (.iastore, 1) := qd_o79 0 20 qd_g524 rfl
theorem dX12_takes_21 : decode cX12_takes 21 = .ok (.iload_n 1, 1) := qd_o27 0 21 qd_g524 rfl
theorem dX12_takes_22 : decode cX12_takes 22 = .ok (.sipush 3870, 3) := qd_o17 0 22 qd_g524 rfl rfl
theorem dX12_takes_25 : decode cX12_takes 25 = .ok (.if_icmp .ne 11, 3) := qd_o160 0 25 qd_g524 rfl rfl
theorem dX12_takes_28 : decode cX12_takes 28 = .ok (.aload_n 0, 1) := qd_o42 0 28 qd_g524 rfl
theorem dX12_takes_29 : decode cX12_takes 29 = .ok (.getfield 50, 3) := qd_o180 0 29 qd_g524 rfl rfl
theorem dX12_takes_32 : decode cX12_takes 32 = .ok (.bipush 11, 2) := qd_o16 0 32 qd_g524 rfl rfl
theorem dX12_takes_34 : decode cX12_takes 34 = .ok (.iconst 0, 1) := qd_o3 0 34 qd_g524 rfl
theorem dX12_takes_35 : decode cX12_takes 35 = .ok (.iastore, 1) := qd_o79 0 35 qd_g524 rfl
theorem dX12_takes_36 : decode cX12_takes 36 = .ok (.iload_n 2, 1) := qd_o28 0 36 qd_g524 rfl
theorem dX12_takes_37 : decode cX12_takes 37 = .ok (.ireturn, 1) := qd_o172 0 37 qd_g524 rfl
theorem qd_g525 : qd_bs cX12_operates 0 [27] = true := by decide +kernel
theorem dX12_operates_0 : decode cX12_operates 0 = .ok (.iload_n 1, 1) := qd_o27 0 0 qd_g525 rfl
theorem dX12_operates_1 : decode cX12_operates 1 = .ok (.tableswitch 219 0 16 #[83, 92, 101, 219, 219, 219, 110, 119, 128, 144, 160, 176, 185, 194, 219, 219, 203], 83) := by decide +kernel
theorem qd_g526 : qd_bs cX12_operates 84 [42, 3, 28, 182, 1, 41, 167, 0, 176, 42, 4, 28, 182, 1, 41, 167, 0, 167, 42, 5, 28, 182, 1, 41, 167, 0, 158, 42, 4, 28, 182, 1, 44, 167, 0, 149, 42, 3, 28] = true := by decide +kernel
theorem dX12_operates_84 : decode cX12_operates 84 = .ok (.aload_n 0, 1) := qd_o42 84 0 qd_g526 rfl
theorem dX12_operates_85 : decode cX12_operates 85 = .ok (.iconst 0, 1) := qd_o3 84 1 qd_g526 rfl
theorem dX12_operates_86 : decode cX12_operates 86 = .ok (.iload_n 2, 1) := qd_o28 84 2 qd_g526 rfl
theorem dX12_operates_87 : decode cX12_operates 87 = .ok (.invokevirtual 297, 3) := qd_o182 84 3 qd_g526 rfl rfl
theorem dX12_operates_90 : decode cX12_operates 90 = .ok (.goto 176, 3) := qd_o167 84 6 qd_g526 rfl rfl
theorem dX12_operates_93 : decode cX12_operates 93 = .ok (.aload_n 0, 1) := qd_o42 84 9 qd_g526 rfl
theorem dX12_operates_94 : decode cX12_operates 94 = .ok (.iconst 1, 1) := qd_o4 84 10 qd_g526 rfl
theorem dX12_operates_95 : decode cX12_operates 95 = .ok (.iload_n 2, 1) := qd_o28 84 11 qd_g526 rfl
theorem dX12_operates_96 : decode cX12_operates 96 = .ok (.invokevirtual 297, 3) := qd_o182 84 12 qd_g526 rfl rfl
theorem dX12_operates_99 : decode cX12_operates 99 = .ok (.goto 167, 3) := qd_o167 84 15 qd_g526 rfl rfl
theorem dX12_operates_102 : decode cX12_operates 102 = .ok (.aload_n 0, 1) := qd_o42 84 18 qd_g526 rfl
theorem dX12_operates_103 : decode cX12_operates 103 = .ok (.iconst 2, 1) := qd_o5 84 19 qd_g526 rfl
theorem dX12_operates_104 : decode cX12_operates 104 = .ok (.iload_n 2, 1) := qd_o28 84 20 qd_g526 rfl
theorem dX12_operates_105 : decode cX12_operates 105 = .ok (.invokevirtual 297, 3) := qd_o182 84 21 qd_g526 rfl rfl
theorem dX12_operates_108 : decode cX12_operates 108 = .ok (.goto 158, 3) := qd_o167 84 24 qd_g526 rfl rfl
theorem dX12_operates_111 : decode cX12_operates 111 = .ok (.aload_n 0, 1) := qd_o42 84 27 qd_g526 rfl
theorem dX12_operates_112 : decode cX12_operates 112 = .ok (.iconst 1, 1) := qd_o4 84 28 qd_g526 rfl
theorem dX12_operates_113 : decode cX12_operates 113 = .ok (.iload_n 2, 1) := qd_o28 84 29 qd_g526 rfl
theorem dX12_operates_114 : decode cX12_operates 114 = .ok (.invokevirtual 300, 3) := qd_o182 84 30 qd_g526 rfl rfl
theorem dX12_operates_117 : decode cX12_operates 117 = .ok (.goto 149, 3) := qd_o167 84 33 qd_g526 rfl rfl
theorem dX12_operates_120 : decode cX12_operates 120 = .ok (.aload_n 0, 1) := qd_o42 84 36 qd_g526 rfl
theorem dX12_operates_121 : decode cX12_operates 121 = .ok (.iconst 0, 1) := qd_o3 84 37 qd_g526 rfl
theorem dX12_operates_122 : decode cX12_operates 122 = .ok (.iload_n 2, 1) := qd_o28 84 38 qd_g526 rfl
theorem qd_g527 : qd_bs cX12_operates 123 [182, 1, 44, 167, 0, 140, 42, 3, 42, 180, 0, 50, 3, 46, 28, 126, 182, 1, 41, 167, 0, 124, 42, 3, 42, 180, 0, 50, 3, 46, 28, 128, 182, 1, 41, 167, 0, 108, 42, 3] = true := by decide +kernel
theorem dX12_operates_123 : decode cX12_operates 123 = .ok (.invokevirtual 300, 3) := qd_o182 123 0 qd_g527 rfl rfl
theorem dX12_operates_126 : decode cX12_operates 126 = .ok (.goto 140, 3) := qd_o167 123 3 qd_g527 rfl rfl
theorem dX12_operates_129 : decode cX12_operates 129 = .ok (.aload_n 0, 1) := qd_o42 123 6 qd_g527 rfl
theorem dX12_operates_130 : decode cX12_operates 130 = .ok (.iconst 0, 1) := qd_o3 123 7 qd_g527 rfl
theorem dX12_operates_131 : decode cX12_operates 131 = .ok (.aload_n 0, 1) := qd_o42 123 8 qd_g527 rfl
theorem dX12_operates_132 : decode cX12_operates 132 = .ok (.getfield 50, 3) := qd_o180 123 9 qd_g527 rfl rfl
theorem dX12_operates_135 : decode cX12_operates 135 = .ok (.iconst 0, 1) := qd_o3 123 12 qd_g527 rfl
theorem dX12_operates_136 : decode cX12_operates 136 = .ok (.iaload, 1) := qd_o46 123 13 qd_g527 rfl
theorem dX12_operates_137 : decode cX12_operates 137 = .ok (.iload_n 2, 1) := qd_o28 123 14 qd_g527 rfl
theorem dX12_operates_138 : decode cX12_operates 138 = .ok (.iand, 1) := qd_o126 123 15 qd_g527 rfl
theorem dX12_operates_139 : decode cX12_operates 139 = .ok (.invokevirtual 297, 3) := qd_o182 123 16 qd_g527 rfl rfl
theorem dX12_operates_142 : decode cX12_operates 142 = .ok (.goto 124, 3) := qd_o167 123 19 qd_g527 rfl rfl
theorem dX12_operates_145 : decode cX12_operates 145 = .ok (.aload_n 0, 1) := qd_o42 123 22 qd_g527 rfl
theorem dX12_operates_146 : decode cX12_operates 146 = .ok (.iconst 0, 1) := qd_o3 123 23 qd_g527 rfl
theorem dX12_operates_147 : decode cX12_operates 147 = .ok (.aload_n 0, 1) := qd_o42 123 24 qd_g527 rfl
theorem dX12_operates_148 : decode cX12_operates 148 = .ok (.getfield 50, 3) := qd_o180 123 25 qd_g527 rfl rfl
theorem dX12_operates_151 : decode cX12_operates 151 = .ok (.iconst 0, 1) := qd_o3 123 28 qd_g527 rfl
theorem dX12_operates_152 : decode cX12_operates 152 = .ok (.iaload, 1) := qd_o46 123 29 qd_g527 rfl
theorem dX12_operates_153 : decode cX12_operates 153 = .ok (.iload_n 2, 1) := qd_o28 123 30 qd_g527 rfl
theorem dX12_operates_154 : decode cX12_operates 154 = .ok (.ior, 1) := qd_o128 123 31 qd_g527 rfl
theorem dX12_operates_155 : decode cX12_operates 155 = .ok (.invokevirtual 297, 3) := qd_o182 123 32 qd_g527 rfl rfl
theorem dX12_operates_158 : decode cX12_operates 158 = .ok (.goto 108, 3) := qd_o167 123 35 qd_g527 rfl rfl
theorem dX12_operates_161 : decode cX12_operates 161 = .ok (.aload_n 0, 1) := qd_o42 123 38 qd_g527 rfl
theorem dX12_operates_162 : decode cX12_operates 162 = .ok (.iconst 0, 1) := qd_o3 123 39 qd_g527 rfl
theorem qd_g528 : qd_bs cX12_operates 163 [42, 180, 0, 50, 3, 46, 28, 130, 182, 1, 41, 167, 0, 92, 42, 3, 28, 182, 1, 48, 167, 0, 83, 42, 4, 28, 182, 1, 48, 167, 0, 74, 42, 5, 28, 182, 1, 48] = true := by decide +kernel
theorem dX12_operates_163 : decode cX12_operates 163 = .ok (.aload_n 0, 1) := qd_o42 163 0 qd_g528 rfl
theorem dX12_operates_164 : decode cX12_operates 164 = .ok (.getfield 50, 3) := qd_o180 163 1 qd_g528 rfl rfl
theorem dX12_operates_167 : decode cX12_operates 167 = .ok (.iconst 0, 1) := qd_o3 163 4 qd_g528 rfl
theorem dX12_operates_168 : decode cX12_operates 168 = .ok (.iaload, 1) := qd_o46 163 5 qd_g528 rfl
theorem dX12_operates_169 : decode cX12_operates 169 = .ok (.iload_n 2, 1) := qd_o28 163 6 qd_g528 rfl
theorem dX12_operates_170 : decode cX12_operates 170 = .ok (.ixor, 1) := qd_o130 163 7 qd_g528 rfl
theorem dX12_operates_171 : decode cX12_operates 171 = .ok (.invokevirtual 297, 3) := qd_o182 163 8 qd_g528 rfl rfl
theorem dX12_operates_174 : decode cX12_operates 174 = .ok (.goto 92, 3) := qd_o167 163 11 qd_g528 rfl rfl
theorem dX12_operates_177 : decode cX12_operates 177 = .ok (.aload_n 0, 1) := qd_o42 163 14 qd_g528 rfl
theorem dX12_operates_178 : decode cX12_operates 178 = .ok (.iconst 0, 1) := qd_o3 163 15 qd_g528 rfl
theorem dX12_operates_179 : decode cX12_operates 179 = .ok (.iload_n 2, 1) := qd_o28 163 16 qd_g528 rfl
theorem dX12_operates_180 : decode cX12_operates 180 = .ok (.invokevirtual 304, 3) := qd_o182 163 17 qd_g528 rfl rfl
theorem dX12_operates_183 : decode cX12_operates 183 = .ok (.goto 83, 3) := qd_o167 163 20 qd_g528 rfl rfl
theorem dX12_operates_186 : decode cX12_operates 186 = .ok (.aload_n 0, 1) := qd_o42 163 23 qd_g528 rfl
theorem dX12_operates_187 : decode cX12_operates 187 = .ok (.iconst 1, 1) := qd_o4 163 24 qd_g528 rfl
theorem dX12_operates_188 : decode cX12_operates 188 = .ok (.iload_n 2, 1) := qd_o28 163 25 qd_g528 rfl
theorem dX12_operates_189 : decode cX12_operates 189 = .ok (.invokevirtual 304, 3) := qd_o182 163 26 qd_g528 rfl rfl
theorem dX12_operates_192 : decode cX12_operates 192 = .ok (.goto 74, 3) := qd_o167 163 29 qd_g528 rfl rfl
theorem dX12_operates_195 : decode cX12_operates 195 = .ok (.aload_n 0, 1) := qd_o42 163 32 qd_g528 rfl
theorem dX12_operates_196 : decode cX12_operates 196 = .ok (.iconst 2, 1) := qd_o5 163 33 qd_g528 rfl
theorem dX12_operates_197 : decode cX12_operates 197 = .ok (.iload_n 2, 1) := qd_o28 163 34 qd_g528 rfl
theorem dX12_operates_198 : decode cX12_operates 198 = .ok (.invokevirtual 304, 3) := qd_o182 163 35 qd_g528 rfl rfl
theorem qd_g529 : qd_bs cX12_operates 201 [167, 0, 65, 42, 3, 28, 182, 1, 41, 42, 180, 0, 50, 4, 28, 79, 167, 0, 49, 42, 180, 0, 53, 7, 42, 180, 0, 50, 3, 46, 28, 126, 154, 0, 7, 4, 167, 0, 4, 3] = true := by decide +kernel
theorem dX12_operates_201 : decode cX12_operates 201 = .ok (.goto 65, 3) := qd_o167 201 0 qd_g529 rfl rfl
theorem dX12_operates_204 : decode cX12_operates 204 = .ok (.aload_n 0, 1) := qd_o42 201 3 qd_g529 rfl
theorem dX12_operates_205 : decode cX12_operates 205 = .ok (.iconst 0, 1) := qd_o3 201 4 qd_g529 rfl
theorem dX12_operates_206 : decode cX12_operates 206 = .ok (.iload_n 2, 1) := qd_o28 201 5 qd_g529 rfl
theorem dX12_operates_207 : decode cX12_operates 207 = .ok (.invokevirtual 297, 3) := qd_o182 201 6 qd_g529 rfl rfl
theorem dX12_operates_210 : decode cX12_operates 210 = .ok (.aload_n 0, 1) := qd_o42 201 9 qd_g529 rfl
theorem dX12_operates_211 : decode cX12_operates 211 = .ok (.getfield 50, 3) := qd_o180 201 10 qd_g529 rfl rfl
theorem dX12_operates_214 : decode cX12_operates 214 = .ok (.iconst 1, 1) := qd_o4 201 13 qd_g529 rfl
theorem dX12_operates_215 : decode cX12_operates 215 = .ok (.iload_n 2, 1) := qd_o28 201 14 qd_g529 rfl
theorem dX12_operates_216 : decode cX12_operates 216 = .ok (.iastore, 1) := qd_o79 201 15 qd_g529 rfl
theorem dX12_operates_217 : decode cX12_operates 217 = .ok (.goto 49, 3) := qd_o167 201 16 qd_g529 rfl rfl
theorem dX12_operates_220 : decode cX12_operates 220 = .ok (.aload_n 0, 1) := qd_o42 201 19 qd_g529 rfl
theorem dX12_operates_221 : decode cX12_operates 221 = .ok (.getfield 53, 3) := qd_o180 201 20 qd_g529 rfl rfl
theorem dX12_operates_224 : decode cX12_operates 224 = .ok (.iconst 4, 1) := qd_o7 201 23 qd_g529 rfl
theorem dX12_operates_225 : decode cX12_operates 225 = .ok (.aload_n 0, 1) := qd_o42 201 24 qd_g529 rfl
theorem dX12_operates_226 : decode cX12_operates 226 = .ok (.getfield 50, 3) := qd_o180 201 25 qd_g529 rfl rfl
theorem dX12_operates_229 : decode cX12_operates 229 = .ok (.iconst 0, 1) := qd_o3 201 28 qd_g529 rfl
theorem dX12_operates_230 : decode cX12_operates 230 = .ok (.iaload, 1) := qd_o46 201 29 qd_g529 rfl
theorem dX12_operates_231 : decode cX12_operates 231 = .ok (.iload_n 2, 1) := qd_o28 201 30 qd_g529 rfl
theorem dX12_operates_232 : decode cX12_operates 232 = .ok (.iand, 1) := qd_o126 201 31 qd_g529 rfl
theorem dX12_operates_233 : decode cX12_operates 233 = .ok (.ifCond .ne 7, 3) := qd_o154 201 32 qd_g529 rfl rfl
theorem dX12_operates_236 : decode cX12_operates 236 = .ok (.iconst 1, 1) := qd_o4 201 35 qd_g529 rfl
theorem dX12_operates_237 : decode cX12_operates 237 = .ok (.goto 4, 3) := qd_o167 201 36 qd_g529 rfl rfl
theorem dX12_operates_240 : decode cX12_operates 240 = .ok (.iconst 0, 1) := qd_o3 201 39 qd_g529 rfl
theorem qd_g530 : qd_bs cX12_operates 241 [84, 42, 180, 0, 53, 3, 28, 16, 7, 184, 0, 131, 84, 42, 180, 0, 53, 4, 28, 16, 6, 184, 0, 131, 84, 177] = true := by decide +kernel
theorem dX12_operates_241 : decode cX12_operates 241 = .ok (.bastore, 1) := qd_o84 241 0 qd_g530 rfl
theorem dX12_operates_242 : decode cX12_operates 242 = .ok (.aload_n 0, 1) := qd_o42 241 1 qd_g530 rfl
theorem dX12_operates_243 : decode cX12_operates 243 = .ok (.getfield 53, 3) := qd_o180 241 2 qd_g530 rfl rfl
theorem dX12_operates_246 : decode cX12_operates 246 = .ok (.iconst 0, 1) := qd_o3 241 5 qd_g530 rfl
theorem dX12_operates_247 : decode cX12_operates 247 = .ok (.iload_n 2, 1) := qd_o28 241 6 qd_g530 rfl
theorem dX12_operates_248 : decode cX12_operates 248 = .ok (.bipush 7, 2) := qd_o16 241 7 qd_g530 rfl rfl
theorem dX12_operates_250 : decode cX12_operates 250 = .ok (.invokestatic 131, 3) := qd_o184 241 9 qd_g530 rfl rfl
theorem dX12_operates_253 : decode cX12_operates 253 = .ok (.bastore, 1) := qd_o84 241 12 qd_g530 rfl
theorem dX12_operates_254 : decode cX12_operates 254 = .ok (.aload_n 0, 1) := qd_o42 241 13 qd_g530 rfl
theorem dX12_operates_255 : decode cX12_operates 255 = .ok (.getfield 53, 3) := qd_o180 241 14 qd_g530 rfl rfl
theorem dX12_operates_258 : decode cX12_operates 258 = .ok (.iconst 1, 1) := qd_o4 241 17 qd_g530 rfl
theorem dX12_operates_259 : decode cX12_operates 259 = .ok (.iload_n 2, 1) := qd_o28 241 18 qd_g530 rfl
theorem dX12_operates_260 : decode cX12_operates 260 = .ok (.bipush 6, 2) := qd_o16 241 19 qd_g530 rfl rfl
theorem dX12_operates_262 : decode cX12_operates 262 = .ok (.invokestatic 131, 3) := qd_o184 241 21 qd_g530 rfl rfl
theorem dX12_operates_265 : decode cX12_operates 265 = .ok (.bastore, 1) := qd_o84 241 24 qd_g530 rfl
theorem dX12_operates_266 : decode cX12_operates 266 = .ok (.return_, 1) := qd_o177 241 25 qd_g530 rfl
theorem qd_g531 : qd_bs cX12_changes 0 [27, 16, 14, 162, 0, 7, 3, 167, 0, 18, 27, 16, 17, 160, 0, 7, 3, 167, 0, 8, 42, 28, 182, 1, 51, 62, 27, 16, 14, 159, 0, 9, 27, 16, 19, 160, 0, 13, 29, 4] = true := by decide +kernel
theorem dX12_changes_0 : decode cX12_changes 0 = .ok (.iload_n 1, 1) := qd_o27 0 0 qd_g531 rfl
theorem dX12_changes_1 : decode cX12_changes 1 = .ok (.bipush 14, 2) := qd_o16 0 1 qd_g531 rfl rfl
theorem dX12_changes_3 : decode cX12_changes 3 = .ok (.if_icmp .ge 7, 3) := qd_o162 0 3 qd_g531 rfl rfl
theorem dX12_changes_6 : decode cX12_changes 6 = .ok (.iconst 0, 1) := qd_o3 0 6 qd_g531 rfl
theorem dX12_changes_7 : decode cX12_changes 7 = .ok (.goto 18, 3) := qd_o167 0 7 qd_g531 rfl rfl
theorem dX12_changes_10 : decode cX12_changes 10 = .ok (.iload_n 1, 1) := qd_o27 0 10 qd_g531 rfl
theorem dX12_changes_11 : decode cX12_changes 11 = .ok (.bipush 17, 2) := qd_o16 0 11 qd_g531 rfl rfl
theorem dX12_changes_13 : decode cX12_changes 13 = .ok (.if_icmp .ne 7, 3) := qd_o160 0 13 qd_g531 rfl rfl
theorem dX12_changes_16 : decode cX12_changes 16 = .ok (.iconst 0, 1) := qd_o3 0 16 qd_g531 rfl
theorem dX12_changes_17 : decode cX12_changes 17 = .ok (.goto 8, 3) := qd_o167 0 17 qd_g531 rfl rfl
theorem dX12_changes_20 : decode cX12_changes 20 = .ok (.aload_n 0, 1) := qd_o42 0 20 qd_g531 rfl
theorem dX12_changes_21 : decode cX12_changes 21 = .ok (.iload_n 2, 1) := qd_o28 0 21 qd_g531 rfl
theorem dX12_changes_22 : decode cX12_changes 22 = .ok (.invokevirtual 307, 3) := qd_o182 0 22 qd_g531 rfl rfl
theorem dX12_changes_25 : decode cX12_changes 25 = .ok (.istore_n 3, 1) := qd_o62 0 25 qd_g531 rfl
theorem dX12_changes_26 : decode cX12_changes 26 = .ok (.iload_n 1, 1) := qd_o27 0 26 qd_g531 rfl
theorem dX12_changes_27 : decode cX12_changes 27 = .ok (.bipush 14, 2) := qd_o16 0 27 qd_g531 rfl rfl
theorem dX12_changes_29 : decode cX12_changes 29 = .ok (.if_icmp .eq 9, 3) := qd_o159 0 29 qd_g531 rfl rfl
theorem dX12_changes_32 : decode cX12_changes 32 = .ok (.iload_n 1, 1) := qd_o27 0 32 qd_g531 rfl
theorem dX12_changes_33 : decode cX12_changes 33 = .ok (.bipush 19, 2) := qd_o16 0 33 qd_g531 rfl rfl
theorem dX12_changes_35 : decode cX12_changes 35 = .ok (.if_icmp .ne 13, 3) := qd_o160 0 35 qd_g531 rfl rfl
theorem dX12_changes_38 : decode cX12_changes 38 = .ok (.iload_n 3, 1) := qd_o29 0 38 qd_g531 rfl
theorem dX12_changes_39 : decode cX12_changes 39 = .ok (.iconst 1, 1) := qd_o4 0 39 qd_g531 rfl
theorem qd_g532 : qd_bs cX12_changes 40 [96, 17, 0, 255, 126, 167, 0, 10, 29, 4, 100, 17, 0, 255, 126, 54, 4, 27] = true := by decide +kernel
theorem dX12_changes_40 : decode cX12_changes 40 = .ok (.iadd, 1) := qd_o96 40 0 qd_g532 rfl
theorem dX12_changes_41 : decode cX12_changes 41 = .ok (.sipush 255, 3) := qd_o17 40 1 qd_g532 rfl rfl
theorem dX12_changes_44 : decode cX12_changes 44 = .ok (.iand, 1) := qd_o126 40 4 qd_g532 rfl
theorem dX12_changes_45 : decode cX12_changes 45 = .ok (.goto 10, 3) := qd_o167 40 5 qd_g532 rfl rfl
theorem dX12_changes_48 : decode cX12_changes 48 = .ok (.iload_n 3, 1) := qd_o29 40 8 qd_g532 rfl
theorem dX12_changes_49 : decode cX12_changes 49 = .ok (.iconst 1, 1) := qd_o4 40 9 qd_g532 rfl
theorem dX12_changes_50 : decode cX12_changes 50 = .ok (.isub, 1) := qd_o100 40 10 qd_g532 rfl
theorem dX12_changes_51 : decode cX12_changes 51 = .ok (.sipush 255, 3) := qd_o17 40 11 qd_g532 rfl rfl
theorem dX12_changes_54 : decode cX12_changes 54 = .ok (.iand, 1) := qd_o126 40 14 qd_g532 rfl
theorem dX12_changes_55 : decode cX12_changes 55 = .ok (.istore 4, 2) := qd_o54 40 15 qd_g532 rfl rfl
theorem dX12_changes_57 : decode cX12_changes 57 = .ok (.iload_n 1, 1) := qd_o27 40 17 qd_g532 rfl
theorem dX12_changes_58 : decode cX12_changes 58 = .ok (.lookupswitch 105 #[(3, 42), (4, 56), (5, 70), (17, 84)], 42) := by decide +kernel
theorem qd_g533 : qd_bs cX12_changes 100 [42, 28, 42, 180, 0, 50, 3, 46, 182, 0, 170, 167, 0, 98, 42, 28, 42, 180, 0, 50, 4, 46, 182, 0, 170, 167, 0, 84, 42, 28, 42, 180, 0, 50, 5, 46, 182, 0, 170] = true := by decide +kernel
theorem dX12_changes_100 : decode cX12_changes 100 = .ok (.aload_n 0, 1) := qd_o42 100 0 qd_g533 rfl
theorem dX12_changes_101 : decode cX12_changes 101 = .ok (.iload_n 2, 1) := qd_o28 100 1 qd_g533 rfl
theorem dX12_changes_102 : decode cX12_changes 102 = .ok (.aload_n 0, 1) := qd_o42 100 2 qd_g533 rfl
theorem dX12_changes_103 : decode cX12_changes 103 = .ok (.getfield 50, 3) := qd_o180 100 3 qd_g533 rfl rfl
theorem dX12_changes_106 : decode cX12_changes 106 = .ok (.iconst 0, 1) := qd_o3 100 6 qd_g533 rfl
theorem dX12_changes_107 : decode cX12_changes 107 = .ok (.iaload, 1) := qd_o46 100 7 qd_g533 rfl
theorem dX12_changes_108 : decode cX12_changes 108 = .ok (.invokevirtual 170, 3) := qd_o182 100 8 qd_g533 rfl rfl
theorem dX12_changes_111 : decode cX12_changes 111 = .ok (.goto 98, 3) := qd_o167 100 11 qd_g533 rfl rfl
theorem dX12_changes_114 : decode cX12_changes 114 = .ok (.aload_n 0, 1) := qd_o42 100 14 qd_g533 rfl
theorem dX12_changes_115 : decode cX12_changes 115 = .ok (.iload_n 2, 1) := qd_o28 100 15 qd_g533 rfl
theorem dX12_changes_116 : decode cX12_changes 116 = .ok (.aload_n 0, 1) := qd_o42 100 16 qd_g533 rfl
theorem dX12_changes_117 : decode cX12_changes 117 = .ok (.getfield 50, 3) := qd_o180 100 17 qd_g533 rfl rfl
theorem dX12_changes_120 : decode cX12_changes 120 = .ok (.iconst 1, 1) := qd_o4 100 20 qd_g533 rfl
theorem dX12_changes_121 : decode cX12_changes 121 = .ok (.iaload, 1) := qd_o46 100 21 qd_g533 rfl
theorem dX12_changes_122 : decode cX12_changes 122 = .ok (.invokevirtual 170, 3) := qd_o182 100 22 qd_g533 rfl rfl
theorem dX12_changes_125 : decode cX12_changes 125 = .ok (.goto 84, 3) := qd_o167 100 25 qd_g533 rfl rfl
theorem dX12_changes_128 : decode cX12_changes 128 = .ok (.aload_n 0, 1) := qd_o42 100 28 qd_g533 rfl
theorem dX12_changes_129 : decode cX12_changes 129 = .ok (.iload_n 2, 1) := qd_o28 100 29 qd_g533 rfl
theorem dX12_changes_130 : decode cX12_changes 130 = .ok (.aload_n 0, 1) := qd_o42 100 30 qd_g533 rfl
theorem dX12_changes_131 : decode cX12_changes 131 = .ok (.getfield 50, 3) := qd_o180 100 31 qd_g533 rfl rfl
theorem dX12_changes_134 : decode cX12_changes 134 = .ok (.iconst 2, 1) := qd_o5 100 34 qd_g533 rfl
theorem dX12_changes_135 : decode cX12_changes 135 = .ok (.iaload, 1) := qd_o46 100 35 qd_g533 rfl
theorem dX12_changes_136 : decode cX12_changes 136 = .ok (.invokevirtual 170, 3) := qd_o182 100 36 qd_g533 rfl rfl
theorem qd_g534 : qd_bs cX12_changes 139 [167, 0, 70, 42, 28, 42, 180, 0, 50, 3, 46, 42, 180, 0, 50, 4, 46, 126, 182, 0, 170, 167, 0, 49, 42, 28, 21, 4, 182, 0, 170, 27, 16, 18, 160, 0, 13, 42, 3] = true := by decide +kernel
theorem dX12_changes_139 : decode cX12_changes 139 = .ok (.goto 70, 3) := qd_o167 139 0 qd_g534 rfl rfl
theorem dX12_changes_142 : decode cX12_changes 142 = .ok (.aload_n 0, 1) := qd_o42 139 3 qd_g534 rfl
theorem dX12_changes_143 : decode cX12_changes 143 = .ok (.iload_n 2, 1) := qd_o28 139 4 qd_g534 rfl
theorem dX12_changes_144 : decode cX12_changes 144 = .ok (.aload_n 0, 1) := qd_o42 139 5 qd_g534 rfl
theorem dX12_changes_145 : decode cX12_changes 145 = .ok (.getfield 50, 3) := qd_o180 139 6 qd_g534 rfl rfl
theorem dX12_changes_148 : decode cX12_changes 148 = .ok (.iconst 0, 1) := qd_o3 139 9 qd_g534 rfl
theorem dX12_changes_149 : decode cX12_changes 149 = .ok (.iaload, 1) := qd_o46 139 10 qd_g534 rfl
theorem dX12_changes_150 : decode cX12_changes 150 = .ok (.aload_n 0, 1) := qd_o42 139 11 qd_g534 rfl
theorem dX12_changes_151 : decode cX12_changes 151 = .ok (.getfield 50, 3) := qd_o180 139 12 qd_g534 rfl rfl
theorem dX12_changes_154 : decode cX12_changes 154 = .ok (.iconst 1, 1) := qd_o4 139 15 qd_g534 rfl
theorem dX12_changes_155 : decode cX12_changes 155 = .ok (.iaload, 1) := qd_o46 139 16 qd_g534 rfl
theorem dX12_changes_156 : decode cX12_changes 156 = .ok (.iand, 1) := qd_o126 139 17 qd_g534 rfl
theorem dX12_changes_157 : decode cX12_changes 157 = .ok (.invokevirtual 170, 3) := qd_o182 139 18 qd_g534 rfl rfl
theorem dX12_changes_160 : decode cX12_changes 160 = .ok (.goto 49, 3) := qd_o167 139 21 qd_g534 rfl rfl
theorem dX12_changes_163 : decode cX12_changes 163 = .ok (.aload_n 0, 1) := qd_o42 139 24 qd_g534 rfl
theorem dX12_changes_164 : decode cX12_changes 164 = .ok (.iload_n 2, 1) := qd_o28 139 25 qd_g534 rfl
theorem dX12_changes_165 : decode cX12_changes 165 = .ok (.iload 4, 2) := qd_o21 139 26 qd_g534 rfl rfl
theorem dX12_changes_167 : decode cX12_changes 167 = .ok (.invokevirtual 170, 3) := qd_o182 139 28 qd_g534 rfl rfl
theorem dX12_changes_170 : decode cX12_changes 170 = .ok (.iload_n 1, 1) := qd_o27 139 31 qd_g534 rfl
theorem dX12_changes_171 : decode cX12_changes 171 = .ok (.bipush 18, 2) := qd_o16 139 32 qd_g534 rfl rfl
theorem dX12_changes_173 : decode cX12_changes 173 = .ok (.if_icmp .ne 13, 3) := qd_o160 139 34 qd_g534 rfl rfl
theorem dX12_changes_176 : decode cX12_changes 176 = .ok (.aload_n 0, 1) := qd_o42 139 37 qd_g534 rfl
theorem dX12_changes_177 : decode cX12_changes 177 = .ok (.iconst 0, 1) := qd_o3 139 38 qd_g534 rfl
theorem qd_g535 : qd_bs cX12_changes 178 [21, 4, 182, 1, 48, 167, 0, 26, 27, 16, 19, 160, 0, 13, 42, 3, 21, 4, 182, 1, 44, 167, 0, 10, 42, 21, 4, 182, 1, 28, 87, 177] = true := by decide +kernel
theorem dX12_changes_178 : decode cX12_changes 178 = .ok (.iload 4, 2) := qd_o21 178 0 qd_g535 rfl rfl
theorem dX12_changes_180 : decode cX12_changes 180 = .ok (.invokevirtual 304, 3) := qd_o182 178 2 qd_g535 rfl rfl
theorem dX12_changes_183 : decode cX12_changes 183 = .ok (.goto 26, 3) := qd_o167 178 5 qd_g535 rfl rfl
theorem dX12_changes_186 : decode cX12_changes 186 = .ok (.iload_n 1, 1) := qd_o27 178 8 qd_g535 rfl
theorem dX12_changes_187 : decode cX12_changes 187 = .ok (.bipush 19, 2) := qd_o16 178 9 qd_g535 rfl rfl
theorem dX12_changes_189 : decode cX12_changes 189 = .ok (.if_icmp .ne 13, 3) := qd_o160 178 11 qd_g535 rfl rfl
theorem dX12_changes_192 : decode cX12_changes 192 = .ok (.aload_n 0, 1) := qd_o42 178 14 qd_g535 rfl
theorem dX12_changes_193 : decode cX12_changes 193 = .ok (.iconst 0, 1) := qd_o3 178 15 qd_g535 rfl
theorem dX12_changes_194 : decode cX12_changes 194 = .ok (.iload 4, 2) := qd_o21 178 16 qd_g535 rfl rfl
theorem dX12_changes_196 : decode cX12_changes 196 = .ok (.invokevirtual 300, 3) := qd_o182 178 18 qd_g535 rfl rfl
theorem dX12_changes_199 : decode cX12_changes 199 = .ok (.goto 10, 3) := qd_o167 178 21 qd_g535 rfl rfl
theorem dX12_changes_202 : decode cX12_changes 202 = .ok (.aload_n 0, 1) := qd_o42 178 24 qd_g535 rfl
theorem dX12_changes_203 : decode cX12_changes 203 = .ok (.iload 4, 2) := qd_o21 178 25 qd_g535 rfl rfl
theorem dX12_changes_205 : decode cX12_changes 205 = .ok (.invokevirtual 284, 3) := qd_o182 178 27 qd_g535 rfl rfl
theorem dX12_changes_208 : decode cX12_changes 208 = .ok (.pop, 1) := qd_o87 178 30 qd_g535 rfl
theorem dX12_changes_209 : decode cX12_changes 209 = .ok (.return_, 1) := qd_o177 178 31 qd_g535 rfl
theorem qd_g536 : qd_bs cX12_doesMode 0 [27, 184, 1, 6, 153, 0, 21, 28, 158, 0, 46, 42, 27, 42, 28, 29, 182, 1, 3, 182, 1, 54, 167, 0, 32, 42, 27, 28, 154, 0, 13, 42, 29, 4, 96, 182, 0, 250] = true := by decide +kernel
theorem dX12_doesMode_0 : decode cX12_doesMode 0 = .ok (.iload_n 1, 1) := qd_o27 0 0 qd_g536 rfl
theorem dX12_doesMode_1 : decode cX12_doesMode 1 = .ok (.invokestatic 262, 3) := qd_o184 0 1 qd_g536 rfl rfl
theorem dX12_doesMode_4 : decode cX12_doesMode 4 = .ok (.ifCond .eq 21, 3) := qd_o153 0 4 qd_g536 rfl rfl
theorem dX12_doesMode_7 : decode cX12_doesMode 7 = .ok (.iload_n 2, 1) := qd_o28 0 7 qd_g536 rfl
theorem dX12_doesMode_8 : decode cX12_doesMode 8 = .ok (.ifCond .le 46, 3) := qd_o158 0 8 qd_g536 rfl rfl
theorem dX12_doesMode_11 : decode cX12_doesMode 11 = .ok (.aload_n 0, 1) := qd_o42 0 11 qd_g536 rfl
theorem dX12_doesMode_12 : decode cX12_doesMode 12 = .ok (.iload_n 1, 1) := qd_o27 0 12 qd_g536 rfl
theorem dX12_doesMode_13 : decode cX12_doesMode 13 = .ok (.aload_n 0, 1) := qd_o42 0 13 qd_g536 rfl
theorem dX12_doesMode_14 : decode cX12_doesMode 14 = .ok (.iload_n 2, 1) := qd_o28 0 14 qd_g536 rfl
theorem dX12_doesMode_15 : decode cX12_doesMode 15 = .ok (.iload_n 3, 1) := qd_o29 0 15 qd_g536 rfl
theorem dX12_doesMode_16 : decode cX12_doesMode 16 = .ok (.invokevirtual 259, 3) := qd_o182 0 16 qd_g536 rfl rfl
theorem dX12_doesMode_19 : decode cX12_doesMode 19 = .ok (.invokevirtual 310, 3) := qd_o182 0 19 qd_g536 rfl rfl
theorem dX12_doesMode_22 : decode cX12_doesMode 22 = .ok (.goto 32, 3) := qd_o167 0 22 qd_g536 rfl rfl
theorem dX12_doesMode_25 : decode cX12_doesMode 25 = .ok (.aload_n 0, 1) := qd_o42 0 25 qd_g536 rfl
theorem dX12_doesMode_26 : decode cX12_doesMode 26 = .ok (.iload_n 1, 1) := qd_o27 0 26 qd_g536 rfl
theorem dX12_doesMode_27 : decode cX12_doesMode 27 = .ok (.iload_n 2, 1) := qd_o28 0 27 qd_g536 rfl
theorem dX12_doesMode_28 : decode cX12_doesMode 28 = .ok (.ifCond .ne 13, 3) := qd_o154 0 28 qd_g536 rfl rfl
theorem dX12_doesMode_31 : decode cX12_doesMode 31 = .ok (.aload_n 0, 1) := qd_o42 0 31 qd_g536 rfl
theorem dX12_doesMode_32 : decode cX12_doesMode 32 = .ok (.iload_n 3, 1) := qd_o29 0 32 qd_g536 rfl
theorem dX12_doesMode_33 : decode cX12_doesMode 33 = .ok (.iconst 1, 1) := qd_o4 0 33 qd_g536 rfl
theorem dX12_doesMode_34 : decode cX12_doesMode 34 = .ok (.iadd, 1) := qd_o96 0 34 qd_g536 rfl
theorem dX12_doesMode_35 : decode cX12_doesMode 35 = .ok (.invokevirtual 250, 3) := qd_o182 0 35 qd_g536 rfl rfl
theorem qd_g537 : qd_bs cX12_doesMode 38 [167, 0, 13, 42, 42, 28, 29, 182, 1, 3, 182, 1, 51, 182, 1, 57, 177] = true := by decide +kernel
theorem dX12_doesMode_38 : decode cX12_doesMode 38 = .ok (.goto 13, 3) := qd_o167 38 0 qd_g537 rfl rfl
theorem dX12_doesMode_41 : decode cX12_doesMode 41 = .ok (.aload_n 0, 1) := qd_o42 38 3 qd_g537 rfl
theorem dX12_doesMode_42 : decode cX12_doesMode 42 = .ok (.aload_n 0, 1) := qd_o42 38 4 qd_g537 rfl
theorem dX12_doesMode_43 : decode cX12_doesMode 43 = .ok (.iload_n 2, 1) := qd_o28 38 5 qd_g537 rfl
theorem dX12_doesMode_44 : decode cX12_doesMode 44 = .ok (.iload_n 3, 1) := qd_o29 38 6 qd_g537 rfl
theorem dX12_doesMode_45 : decode cX12_doesMode 45 = .ok (.invokevirtual 259, 3) := qd_o182 38 7 qd_g537 rfl rfl
theorem dX12_doesMode_48 : decode cX12_doesMode 48 = .ok (.invokevirtual 307, 3) := qd_o182 38 10 qd_g537 rfl rfl
theorem dX12_doesMode_51 : decode cX12_doesMode 51 = .ok (.invokevirtual 313, 3) := qd_o182 38 13 qd_g537 rfl rfl
theorem dX12_doesMode_54 : decode cX12_doesMode 54 = .ok (.return_, 1) := qd_o177 38 16 qd_g537 rfl
theorem qd_g538 : qd_bs cX12_shifts 0 [42, 180, 0, 50, 3, 46, 61, 42, 8, 4, 182, 1, 19, 62, 42, 180, 0, 53, 8, 28, 27, 5, 112, 154, 0, 8, 16, 7, 167, 0, 4, 3, 184, 0, 131, 84, 42, 3, 27] = true := by decide +kernel
theorem dX12_shifts_0 : decode cX12_shifts 0 = .ok (.aload_n 0, 1) := qd_o42 0 0 qd_g538 rfl
theorem dX12_shifts_1 : decode cX12_shifts 1 = .ok (.getfield 50, 3) := qd_o180 0 1 qd_g538 rfl rfl
theorem dX12_shifts_4 : decode cX12_shifts 4 = .ok (.iconst 0, 1) := qd_o3 0 4 qd_g538 rfl
theorem dX12_shifts_5 : decode cX12_shifts 5 = .ok (.iaload, 1) := qd_o46 0 5 qd_g538 rfl
theorem dX12_shifts_6 : decode cX12_shifts 6 = .ok (.istore_n 2, 1) := qd_o61 0 6 qd_g538 rfl
theorem dX12_shifts_7 : decode cX12_shifts 7 = .ok (.aload_n 0, 1) := qd_o42 0 7 qd_g538 rfl
theorem dX12_shifts_8 : decode cX12_shifts 8 = .ok (.iconst 5, 1) := qd_o8 0 8 qd_g538 rfl
theorem dX12_shifts_9 : decode cX12_shifts 9 = .ok (.iconst 1, 1) := qd_o4 0 9 qd_g538 rfl
theorem dX12_shifts_10 : decode cX12_shifts 10 = .ok (.invokevirtual 275, 3) := qd_o182 0 10 qd_g538 rfl rfl
theorem dX12_shifts_13 : decode cX12_shifts 13 = .ok (.istore_n 3, 1) := qd_o62 0 13 qd_g538 rfl
theorem dX12_shifts_14 : decode cX12_shifts 14 = .ok (.aload_n 0, 1) := qd_o42 0 14 qd_g538 rfl
theorem dX12_shifts_15 : decode cX12_shifts 15 = .ok (.getfield 53, 3) := qd_o180 0 15 qd_g538 rfl rfl
theorem dX12_shifts_18 : decode cX12_shifts 18 = .ok (.iconst 5, 1) := qd_o8 0 18 qd_g538 rfl
theorem dX12_shifts_19 : decode cX12_shifts 19 = .ok (.iload_n 2, 1) := qd_o28 0 19 qd_g538 rfl
theorem dX12_shifts_20 : decode cX12_shifts 20 = .ok (.iload_n 1, 1) := qd_o27 0 20 qd_g538 rfl
theorem dX12_shifts_21 : decode cX12_shifts 21 = .ok (.iconst 2, 1) := qd_o5 0 21 qd_g538 rfl
theorem dX12_shifts_22 : decode cX12_shifts 22 = .ok (.irem, 1) := qd_o112 0 22 qd_g538 rfl
theorem dX12_shifts_23 : decode cX12_shifts 23 = .ok (.ifCond .ne 8, 3) := qd_o154 0 23 qd_g538 rfl rfl
theorem dX12_shifts_26 : decode cX12_shifts 26 = .ok (.bipush 7, 2) := qd_o16 0 26 qd_g538 rfl rfl
theorem dX12_shifts_28 : decode cX12_shifts 28 = .ok (.goto 4, 3) := qd_o167 0 28 qd_g538 rfl rfl
theorem dX12_shifts_31 : decode cX12_shifts 31 = .ok (.iconst 0, 1) := qd_o3 0 31 qd_g538 rfl
theorem dX12_shifts_32 : decode cX12_shifts 32 = .ok (.invokestatic 131, 3) := qd_o184 0 32 qd_g538 rfl rfl
theorem dX12_shifts_35 : decode cX12_shifts 35 = .ok (.bastore, 1) := qd_o84 0 35 qd_g538 rfl
theorem dX12_shifts_36 : decode cX12_shifts 36 = .ok (.aload_n 0, 1) := qd_o42 0 36 qd_g538 rfl
theorem dX12_shifts_37 : decode cX12_shifts 37 = .ok (.iconst 0, 1) := qd_o3 0 37 qd_g538 rfl
theorem dX12_shifts_38 : decode cX12_shifts 38 = .ok (.iload_n 1, 1) := qd_o27 0 38 qd_g538 rfl
theorem qd_g539 : qd_bs cX12_shifts 39 [17, 0, 150, 160, 0, 13, 28, 5, 104, 17, 0, 255, 126, 167, 0, 44, 27, 17, 0, 151, 160, 0, 9, 28, 5, 108, 167, 0, 31, 27, 17, 0, 152, 160, 0, 15, 28, 5, 104, 29] = true := by decide +kernel
theorem dX12_shifts_39 : decode cX12_shifts 39 = .ok (.sipush 150, 3) := qd_o17 39 0 qd_g539 rfl rfl
theorem dX12_shifts_42 : decode cX12_shifts 42 = .ok (.if_icmp .ne 13, 3) := qd_o160 39 3 qd_g539 rfl rfl
theorem dX12_shifts_45 : decode cX12_shifts 45 = .ok (.iload_n 2, 1) := qd_o28 39 6 qd_g539 rfl
theorem dX12_shifts_46 : decode cX12_shifts 46 = .ok (.iconst 2, 1) := qd_o5 39 7 qd_g539 rfl
theorem dX12_shifts_47 : decode cX12_shifts 47 = .ok (.imul, 1) := qd_o104 39 8 qd_g539 rfl
theorem dX12_shifts_48 : decode cX12_shifts 48 = .ok (.sipush 255, 3) := qd_o17 39 9 qd_g539 rfl rfl
theorem dX12_shifts_51 : decode cX12_shifts 51 = .ok (.iand, 1) := qd_o126 39 12 qd_g539 rfl
theorem dX12_shifts_52 : decode cX12_shifts 52 = .ok (.goto 44, 3) := qd_o167 39 13 qd_g539 rfl rfl
theorem dX12_shifts_55 : decode cX12_shifts 55 = .ok (.iload_n 1, 1) := qd_o27 39 16 qd_g539 rfl
theorem dX12_shifts_56 : decode cX12_shifts 56 = .ok (.sipush 151, 3) := qd_o17 39 17 qd_g539 rfl rfl
theorem dX12_shifts_59 : decode cX12_shifts 59 = .ok (.if_icmp .ne 9, 3) := qd_o160 39 20 qd_g539 rfl rfl
theorem dX12_shifts_62 : decode cX12_shifts 62 = .ok (.iload_n 2, 1) := qd_o28 39 23 qd_g539 rfl
theorem dX12_shifts_63 : decode cX12_shifts 63 = .ok (.iconst 2, 1) := qd_o5 39 24 qd_g539 rfl
theorem dX12_shifts_64 : decode cX12_shifts 64 = .ok (.idiv, 1) := qd_o108 39 25 qd_g539 rfl
theorem dX12_shifts_65 : decode cX12_shifts 65 = .ok (.goto 31, 3) := qd_o167 39 26 qd_g539 rfl rfl
theorem dX12_shifts_68 : decode cX12_shifts 68 = .ok (.iload_n 1, 1) := qd_o27 39 29 qd_g539 rfl
theorem dX12_shifts_69 : decode cX12_shifts 69 = .ok (.sipush 152, 3) := qd_o17 39 30 qd_g539 rfl rfl
theorem dX12_shifts_72 : decode cX12_shifts 72 = .ok (.if_icmp .ne 15, 3) := qd_o160 39 33 qd_g539 rfl rfl
theorem dX12_shifts_75 : decode cX12_shifts 75 = .ok (.iload_n 2, 1) := qd_o28 39 36 qd_g539 rfl
theorem dX12_shifts_76 : decode cX12_shifts 76 = .ok (.iconst 2, 1) := qd_o5 39 37 qd_g539 rfl
theorem dX12_shifts_77 : decode cX12_shifts 77 = .ok (.imul, 1) := qd_o104 39 38 qd_g539 rfl
theorem dX12_shifts_78 : decode cX12_shifts 78 = .ok (.iload_n 3, 1) := qd_o29 39 39 qd_g539 rfl
theorem qd_g540 : qd_bs cX12_shifts 79 [96, 17, 0, 255, 126, 167, 0, 12, 28, 5, 108, 17, 0, 128, 29, 104, 96, 182, 1, 41, 177] = true := by decide +kernel
theorem dX12_shifts_79 : decode cX12_shifts 79 = .ok (.iadd, 1) := qd_o96 79 0 qd_g540 rfl
theorem dX12_shifts_80 : decode cX12_shifts 80 = .ok (.sipush 255, 3) := qd_o17 79 1 qd_g540 rfl rfl
theorem dX12_shifts_83 : decode cX12_shifts 83 = .ok (.iand, 1) := qd_o126 79 4 qd_g540 rfl
theorem dX12_shifts_84 : decode cX12_shifts 84 = .ok (.goto 12, 3) := qd_o167 79 5 qd_g540 rfl rfl
theorem dX12_shifts_87 : decode cX12_shifts 87 = .ok (.iload_n 2, 1) := qd_o28 79 8 qd_g540 rfl
theorem dX12_shifts_88 : decode cX12_shifts 88 = .ok (.iconst 2, 1) := qd_o5 79 9 qd_g540 rfl
theorem dX12_shifts_89 : decode cX12_shifts 89 = .ok (.idiv, 1) := qd_o108 79 10 qd_g540 rfl
theorem dX12_shifts_90 : decode cX12_shifts 90 = .ok (.sipush 128, 3) := qd_o17 79 11 qd_g540 rfl rfl
theorem dX12_shifts_93 : decode cX12_shifts 93 = .ok (.iload_n 3, 1) := qd_o29 79 14 qd_g540 rfl
theorem dX12_shifts_94 : decode cX12_shifts 94 = .ok (.imul, 1) := qd_o104 79 15 qd_g540 rfl
theorem dX12_shifts_95 : decode cX12_shifts 95 = .ok (.iadd, 1) := qd_o96 79 16 qd_g540 rfl
theorem dX12_shifts_96 : decode cX12_shifts 96 = .ok (.invokevirtual 297, 3) := qd_o182 79 17 qd_g540 rfl rfl
theorem dX12_shifts_99 : decode cX12_shifts 99 = .ok (.return_, 1) := qd_o177 79 20 qd_g540 rfl
theorem qd_g541 : qd_bs cX12_doesOther 0 [27] = true := by decide +kernel
theorem dX12_doesOther_0 : decode cX12_doesOther 0 = .ok (.iload_n 1, 1) := qd_o27 0 0 qd_g541 rfl
theorem dX12_doesOther_1 : decode cX12_doesOther 1 = .ok (.tableswitch 414 128 153 #[119, 139, 159, 179, 199, 213, 227, 241, 255, 269, 284, 297, 309, 322, 333, 343, 353, 363, 373, 383, 393, 403, 406, 406, 406, 406], 119) := by decide +kernel
theorem qd_g542 : qd_bs cX12_doesOther 120 [42, 4, 42, 180, 0, 50, 4, 46, 4, 96, 17, 0, 255, 126, 182, 1, 41, 167, 1, 30, 42, 4, 42, 180, 0, 50, 4, 46, 4, 100, 17, 0, 255, 126, 182, 1, 41, 167, 1, 10] = true := by decide +kernel
theorem dX12_doesOther_120 : decode cX12_doesOther 120 = .ok (.aload_n 0, 1) := qd_o42 120 0 qd_g542 rfl
theorem dX12_doesOther_121 : decode cX12_doesOther 121 = .ok (.iconst 1, 1) := qd_o4 120 1 qd_g542 rfl
theorem dX12_doesOther_122 : decode cX12_doesOther 122 = .ok (.aload_n 0, 1) := qd_o42 120 2 qd_g542 rfl
theorem dX12_doesOther_123 : decode cX12_doesOther 123 = .ok (.getfield 50, 3) := qd_o180 120 3 qd_g542 rfl rfl
theorem dX12_doesOther_126 : decode cX12_doesOther 126 = .ok (.iconst 1, 1) := qd_o4 120 6 qd_g542 rfl
theorem dX12_doesOther_127 : decode cX12_doesOther 127 = .ok (.iaload, 1) := qd_o46 120 7 qd_g542 rfl
theorem dX12_doesOther_128 : decode cX12_doesOther 128 = .ok (.iconst 1, 1) := qd_o4 120 8 qd_g542 rfl
theorem dX12_doesOther_129 : decode cX12_doesOther 129 = .ok (.iadd, 1) := qd_o96 120 9 qd_g542 rfl
theorem dX12_doesOther_130 : decode cX12_doesOther 130 = .ok (.sipush 255, 3) := qd_o17 120 10 qd_g542 rfl rfl
theorem dX12_doesOther_133 : decode cX12_doesOther 133 = .ok (.iand, 1) := qd_o126 120 13 qd_g542 rfl
theorem dX12_doesOther_134 : decode cX12_doesOther 134 = .ok (.invokevirtual 297, 3) := qd_o182 120 14 qd_g542 rfl rfl
theorem dX12_doesOther_137 : decode cX12_doesOther 137 = .ok (.goto 286, 3) := qd_o167 120 17 qd_g542 rfl rfl
theorem dX12_doesOther_140 : decode cX12_doesOther 140 = .ok (.aload_n 0, 1) := qd_o42 120 20 qd_g542 rfl
theorem dX12_doesOther_141 : decode cX12_doesOther 141 = .ok (.iconst 1, 1) := qd_o4 120 21 qd_g542 rfl
theorem dX12_doesOther_142 : decode cX12_doesOther 142 = .ok (.aload_n 0, 1) := qd_o42 120 22 qd_g542 rfl
theorem dX12_doesOther_143 : decode cX12_doesOther 143 = .ok (.getfield 50, 3) := qd_o180 120 23 qd_g542 rfl rfl
theorem dX12_doesOther_146 : decode cX12_doesOther 146 = .ok (.iconst 1, 1) := qd_o4 120 26 qd_g542 rfl
theorem dX12_doesOther_147 : decode cX12_doesOther 147 = .ok (.iaload, 1) := qd_o46 120 27 qd_g542 rfl
theorem dX12_doesOther_148 : decode cX12_doesOther 148 = .ok (.iconst 1, 1) := qd_o4 120 28 qd_g542 rfl
theorem dX12_doesOther_149 : decode cX12_doesOther 149 = .ok (.isub, 1) := qd_o100 120 29 qd_g542 rfl
theorem dX12_doesOther_150 : decode cX12_doesOther 150 = .ok (.sipush 255, 3) := qd_o17 120 30 qd_g542 rfl rfl
theorem dX12_doesOther_153 : decode cX12_doesOther 153 = .ok (.iand, 1) := qd_o126 120 33 qd_g542 rfl
theorem dX12_doesOther_154 : decode cX12_doesOther 154 = .ok (.invokevirtual 297, 3) := qd_o182 120 34 qd_g542 rfl rfl
theorem dX12_doesOther_157 : decode cX12_doesOther 157 = .ok (.goto 266, 3) := qd_o167 120 37 qd_g542 rfl rfl
theorem qd_g543 : qd_bs cX12_doesOther 160 [42, 5, 42, 180, 0, 50, 5, 46, 4, 96, 17, 0, 255, 126, 182, 1, 41, 167, 0, 246, 42, 5, 42, 180, 0, 50, 5, 46, 4, 100, 17, 0, 255, 126, 182, 1, 41, 167, 0, 226] = true := by decide +kernel
theorem dX12_doesOther_160 : decode cX12_doesOther 160 = .ok (.aload_n 0, 1) := qd_o42 160 0 qd_g543 rfl
theorem dX12_doesOther_161 : decode cX12_doesOther 161 = .ok (.iconst 2, 1) := qd_o5 160 1 qd_g543 rfl
theorem dX12_doesOther_162 : decode cX12_doesOther 162 = .ok (.aload_n 0, 1) := qd_o42 160 2 qd_g543 rfl
theorem dX12_doesOther_163 : decode cX12_doesOther 163 = .ok (.getfield 50, 3) := qd_o180 160 3 qd_g543 rfl rfl
theorem dX12_doesOther_166 : decode cX12_doesOther 166 = .ok (.iconst 2, 1) := qd_o5 160 6 qd_g543 rfl
theorem dX12_doesOther_167 : decode cX12_doesOther 167 = .ok (.iaload, 1) := qd_o46 160 7 qd_g543 rfl
theorem dX12_doesOther_168 : decode cX12_doesOther 168 = .ok (.iconst 1, 1) := qd_o4 160 8 qd_g543 rfl
theorem dX12_doesOther_169 : decode cX12_doesOther 169 = .ok (.iadd, 1) := qd_o96 160 9 qd_g543 rfl
theorem dX12_doesOther_170 : decode cX12_doesOther 170 = .ok (.sipush 255, 3) := qd_o17 160 10 qd_g543 rfl rfl
theorem dX12_doesOther_173 : decode cX12_doesOther 173 = .ok (.iand, 1) := qd_o126 160 13 qd_g543 rfl
theorem dX12_doesOther_174 : decode cX12_doesOther 174 = .ok (.invokevirtual 297, 3) := qd_o182 160 14 qd_g543 rfl rfl
theorem dX12_doesOther_177 : decode cX12_doesOther 177 = .ok (.goto 246, 3) := qd_o167 160 17 qd_g543 rfl rfl
theorem dX12_doesOther_180 : decode cX12_doesOther 180 = .ok (.aload_n 0, 1) := qd_o42 160 20 qd_g543 rfl
theorem dX12_doesOther_181 : decode cX12_doesOther 181 = .ok (.iconst 2, 1) := qd_o5 160 21 qd_g543 rfl
theorem dX12_doesOther_182 : decode cX12_doesOther 182 = .ok (.aload_n 0, 1) := qd_o42 160 22 qd_g543 rfl
theorem dX12_doesOther_183 : decode cX12_doesOther 183 = .ok (.getfield 50, 3) := qd_o180 160 23 qd_g543 rfl rfl
theorem dX12_doesOther_186 : decode cX12_doesOther 186 = .ok (.iconst 2, 1) := qd_o5 160 26 qd_g543 rfl
theorem dX12_doesOther_187 : decode cX12_doesOther 187 = .ok (.iaload, 1) := qd_o46 160 27 qd_g543 rfl
theorem dX12_doesOther_188 : decode cX12_doesOther 188 = .ok (.iconst 1, 1) := qd_o4 160 28 qd_g543 rfl
theorem dX12_doesOther_189 : decode cX12_doesOther 189 = .ok (.isub, 1) := qd_o100 160 29 qd_g543 rfl
theorem dX12_doesOther_190 : decode cX12_doesOther 190 = .ok (.sipush 255, 3) := qd_o17 160 30 qd_g543 rfl rfl
theorem dX12_doesOther_193 : decode cX12_doesOther 193 = .ok (.iand, 1) := qd_o126 160 33 qd_g543 rfl
theorem dX12_doesOther_194 : decode cX12_doesOther 194 = .ok (.invokevirtual 297, 3) := qd_o182 160 34 qd_g543 rfl rfl
theorem dX12_doesOther_197 : decode cX12_doesOther 197 = .ok (.goto 226, 3) := qd_o167 160 37 qd_g543 rfl rfl
theorem qd_g544 : qd_bs cX12_doesOther 200 [42, 4, 42, 180, 0, 50, 3, 46, 182, 1, 41, 167, 0, 212, 42, 3, 42, 180, 0, 50, 4, 46, 182, 1, 41, 167, 0, 198, 42, 5, 42, 180, 0, 50, 3, 46, 182, 1, 41] = true := by decide +kernel
theorem dX12_doesOther_200 : decode cX12_doesOther 200 = .ok (.aload_n 0, 1) := qd_o42 200 0 qd_g544 rfl
theorem dX12_doesOther_201 : decode cX12_doesOther 201 = .ok (.iconst 1, 1) := qd_o4 200 1 qd_g544 rfl
theorem dX12_doesOther_202 : decode cX12_doesOther 202 = .ok (.aload_n 0, 1) := qd_o42 200 2 qd_g544 rfl
theorem dX12_doesOther_203 : decode cX12_doesOther 203 = .ok (.getfield 50, 3) := qd_o180 200 3 qd_g544 rfl rfl
theorem dX12_doesOther_206 : decode cX12_doesOther 206 = .ok (.iconst 0, 1) := qd_o3 200 6 qd_g544 rfl
theorem dX12_doesOther_207 : decode cX12_doesOther 207 = .ok (.iaload, 1) := qd_o46 200 7 qd_g544 rfl
theorem dX12_doesOther_208 : decode cX12_doesOther 208 = .ok (.invokevirtual 297, 3) := qd_o182 200 8 qd_g544 rfl rfl
theorem dX12_doesOther_211 : decode cX12_doesOther 211 = .ok (.goto 212, 3) := qd_o167 200 11 qd_g544 rfl rfl
theorem dX12_doesOther_214 : decode cX12_doesOther 214 = .ok (.aload_n 0, 1) := qd_o42 200 14 qd_g544 rfl
theorem dX12_doesOther_215 : decode cX12_doesOther 215 = .ok (.iconst 0, 1) := qd_o3 200 15 qd_g544 rfl
theorem dX12_doesOther_216 : decode cX12_doesOther 216 = .ok (.aload_n 0, 1) := qd_o42 200 16 qd_g544 rfl
theorem dX12_doesOther_217 : decode cX12_doesOther 217 = .ok (.getfield 50, 3) := qd_o180 200 17 qd_g544 rfl rfl
theorem dX12_doesOther_220 : decode cX12_doesOther 220 = .ok (.iconst 1, 1) := qd_o4 200 20 qd_g544 rfl
theorem dX12_doesOther_221 : decode cX12_doesOther 221 = .ok (.iaload, 1) := qd_o46 200 21 qd_g544 rfl
theorem dX12_doesOther_222 : decode cX12_doesOther 222 = .ok (.invokevirtual 297, 3) := qd_o182 200 22 qd_g544 rfl rfl
theorem dX12_doesOther_225 : decode cX12_doesOther 225 = .ok (.goto 198, 3) := qd_o167 200 25 qd_g544 rfl rfl
theorem dX12_doesOther_228 : decode cX12_doesOther 228 = .ok (.aload_n 0, 1) := qd_o42 200 28 qd_g544 rfl
theorem dX12_doesOther_229 : decode cX12_doesOther 229 = .ok (.iconst 2, 1) := qd_o5 200 29 qd_g544 rfl
theorem dX12_doesOther_230 : decode cX12_doesOther 230 = .ok (.aload_n 0, 1) := qd_o42 200 30 qd_g544 rfl
theorem dX12_doesOther_231 : decode cX12_doesOther 231 = .ok (.getfield 50, 3) := qd_o180 200 31 qd_g544 rfl rfl
theorem dX12_doesOther_234 : decode cX12_doesOther 234 = .ok (.iconst 0, 1) := qd_o3 200 34 qd_g544 rfl
theorem dX12_doesOther_235 : decode cX12_doesOther 235 = .ok (.iaload, 1) := qd_o46 200 35 qd_g544 rfl
theorem dX12_doesOther_236 : decode cX12_doesOther 236 = .ok (.invokevirtual 297, 3) := qd_o182 200 36 qd_g544 rfl rfl
theorem qd_g545 : qd_bs cX12_doesOther 239 [167, 0, 184, 42, 3, 42, 180, 0, 50, 5, 46, 182, 1, 41, 167, 0, 170, 42, 4, 42, 180, 0, 50, 6, 46, 182, 1, 41, 167, 0, 156, 42, 180, 0, 50, 6, 42, 180, 0, 50] = true := by decide +kernel
theorem dX12_doesOther_239 : decode cX12_doesOther 239 = .ok (.goto 184, 3) := qd_o167 239 0 qd_g545 rfl rfl
theorem dX12_doesOther_242 : decode cX12_doesOther 242 = .ok (.aload_n 0, 1) := qd_o42 239 3 qd_g545 rfl
theorem dX12_doesOther_243 : decode cX12_doesOther 243 = .ok (.iconst 0, 1) := qd_o3 239 4 qd_g545 rfl
theorem dX12_doesOther_244 : decode cX12_doesOther 244 = .ok (.aload_n 0, 1) := qd_o42 239 5 qd_g545 rfl
theorem dX12_doesOther_245 : decode cX12_doesOther 245 = .ok (.getfield 50, 3) := qd_o180 239 6 qd_g545 rfl rfl
theorem dX12_doesOther_248 : decode cX12_doesOther 248 = .ok (.iconst 2, 1) := qd_o5 239 9 qd_g545 rfl
theorem dX12_doesOther_249 : decode cX12_doesOther 249 = .ok (.iaload, 1) := qd_o46 239 10 qd_g545 rfl
theorem dX12_doesOther_250 : decode cX12_doesOther 250 = .ok (.invokevirtual 297, 3) := qd_o182 239 11 qd_g545 rfl rfl
theorem dX12_doesOther_253 : decode cX12_doesOther 253 = .ok (.goto 170, 3) := qd_o167 239 14 qd_g545 rfl rfl
theorem dX12_doesOther_256 : decode cX12_doesOther 256 = .ok (.aload_n 0, 1) := qd_o42 239 17 qd_g545 rfl
theorem dX12_doesOther_257 : decode cX12_doesOther 257 = .ok (.iconst 1, 1) := qd_o4 239 18 qd_g545 rfl
theorem dX12_doesOther_258 : decode cX12_doesOther 258 = .ok (.aload_n 0, 1) := qd_o42 239 19 qd_g545 rfl
theorem dX12_doesOther_259 : decode cX12_doesOther 259 = .ok (.getfield 50, 3) := qd_o180 239 20 qd_g545 rfl rfl
theorem dX12_doesOther_262 : decode cX12_doesOther 262 = .ok (.iconst 3, 1) := qd_o6 239 23 qd_g545 rfl
theorem dX12_doesOther_263 : decode cX12_doesOther 263 = .ok (.iaload, 1) := qd_o46 239 24 qd_g545 rfl
theorem dX12_doesOther_264 : decode cX12_doesOther 264 = .ok (.invokevirtual 297, 3) := qd_o182 239 25 qd_g545 rfl rfl
theorem dX12_doesOther_267 : decode cX12_doesOther 267 = .ok (.goto 156, 3) := qd_o167 239 28 qd_g545 rfl rfl
theorem dX12_doesOther_270 : decode cX12_doesOther 270 = .ok (.aload_n 0, 1) := qd_o42 239 31 qd_g545 rfl
theorem dX12_doesOther_271 : decode cX12_doesOther 271 = .ok (.getfield 50, 3) := qd_o180 239 32 qd_g545 rfl rfl
theorem dX12_doesOther_274 : decode cX12_doesOther 274 = .ok (.iconst 3, 1) := qd_o6 239 35 qd_g545 rfl
theorem dX12_doesOther_275 : decode cX12_doesOther 275 = .ok (.aload_n 0, 1) := qd_o42 239 36 qd_g545 rfl
theorem dX12_doesOther_276 : decode cX12_doesOther 276 = .ok (.getfield 50, 3) := qd_o180 239 37 qd_g545 rfl rfl
theorem qd_g546 : qd_bs cX12_doesOther 279 [4, 46, 79, 167, 0, 141, 42, 42, 180, 0, 50, 3, 46, 182, 1, 22, 167, 0, 128, 42, 3, 42, 182, 1, 60, 182, 1, 41, 167, 0, 116, 42, 42, 16, 16, 182, 1, 25] = true := by decide +kernel
theorem dX12_doesOther_279 : decode cX12_doesOther 279 = .ok (.iconst 1, 1) := qd_o4 279 0 qd_g546 rfl
theorem dX12_doesOther_280 : decode cX12_doesOther 280 = .ok (.iaload, 1) := qd_o46 279 1 qd_g546 rfl
theorem dX12_doesOther_281 : decode cX12_doesOther 281 = .ok (.iastore, 1) := qd_o79 279 2 qd_g546 rfl
theorem dX12_doesOther_282 : decode cX12_doesOther 282 = .ok (.goto 141, 3) := qd_o167 279 3 qd_g546 rfl rfl
theorem dX12_doesOther_285 : decode cX12_doesOther 285 = .ok (.aload_n 0, 1) := qd_o42 279 6 qd_g546 rfl
theorem dX12_doesOther_286 : decode cX12_doesOther 286 = .ok (.aload_n 0, 1) := qd_o42 279 7 qd_g546 rfl
theorem dX12_doesOther_287 : decode cX12_doesOther 287 = .ok (.getfield 50, 3) := qd_o180 279 8 qd_g546 rfl rfl
theorem dX12_doesOther_290 : decode cX12_doesOther 290 = .ok (.iconst 0, 1) := qd_o3 279 11 qd_g546 rfl
theorem dX12_doesOther_291 : decode cX12_doesOther 291 = .ok (.iaload, 1) := qd_o46 279 12 qd_g546 rfl
theorem dX12_doesOther_292 : decode cX12_doesOther 292 = .ok (.invokevirtual 278, 3) := qd_o182 279 13 qd_g546 rfl rfl
theorem dX12_doesOther_295 : decode cX12_doesOther 295 = .ok (.goto 128, 3) := qd_o167 279 16 qd_g546 rfl rfl
theorem dX12_doesOther_298 : decode cX12_doesOther 298 = .ok (.aload_n 0, 1) := qd_o42 279 19 qd_g546 rfl
theorem dX12_doesOther_299 : decode cX12_doesOther 299 = .ok (.iconst 0, 1) := qd_o3 279 20 qd_g546 rfl
theorem dX12_doesOther_300 : decode cX12_doesOther 300 = .ok (.aload_n 0, 1) := qd_o42 279 21 qd_g546 rfl
theorem dX12_doesOther_301 : decode cX12_doesOther 301 = .ok (.invokevirtual 316, 3) := qd_o182 279 22 qd_g546 rfl rfl
theorem dX12_doesOther_304 : decode cX12_doesOther 304 = .ok (.invokevirtual 297, 3) := qd_o182 279 25 qd_g546 rfl rfl
theorem dX12_doesOther_307 : decode cX12_doesOther 307 = .ok (.goto 116, 3) := qd_o167 279 28 qd_g546 rfl rfl
theorem dX12_doesOther_310 : decode cX12_doesOther 310 = .ok (.aload_n 0, 1) := qd_o42 279 31 qd_g546 rfl
theorem dX12_doesOther_311 : decode cX12_doesOther 311 = .ok (.aload_n 0, 1) := qd_o42 279 32 qd_g546 rfl
theorem dX12_doesOther_312 : decode cX12_doesOther 312 = .ok (.bipush 16, 2) := qd_o16 279 33 qd_g546 rfl rfl
theorem dX12_doesOther_314 : decode cX12_doesOther 314 = .ok (.invokevirtual 281, 3) := qd_o182 279 35 qd_g546 rfl rfl
theorem qd_g547 : qd_bs cX12_doesOther 317 [182, 1, 22, 167, 0, 103, 42, 42, 182, 1, 60, 182, 1, 63, 167, 0, 92, 42, 180, 0, 53, 8, 4, 84, 167, 0, 82, 42, 180, 0, 53, 8, 3, 84, 167, 0, 72, 42] = true := by decide +kernel
theorem dX12_doesOther_317 : decode cX12_doesOther 317 = .ok (.invokevirtual 278, 3) := qd_o182 317 0 qd_g547 rfl rfl
theorem dX12_doesOther_320 : decode cX12_doesOther 320 = .ok (.goto 103, 3) := qd_o167 317 3 qd_g547 rfl rfl
theorem dX12_doesOther_323 : decode cX12_doesOther 323 = .ok (.aload_n 0, 1) := qd_o42 317 6 qd_g547 rfl
theorem dX12_doesOther_324 : decode cX12_doesOther 324 = .ok (.aload_n 0, 1) := qd_o42 317 7 qd_g547 rfl
theorem dX12_doesOther_325 : decode cX12_doesOther 325 = .ok (.invokevirtual 316, 3) := qd_o182 317 8 qd_g547 rfl rfl
theorem dX12_doesOther_328 : decode cX12_doesOther 328 = .ok (.invokevirtual 319, 3) := qd_o182 317 11 qd_g547 rfl rfl
theorem dX12_doesOther_331 : decode cX12_doesOther 331 = .ok (.goto 92, 3) := qd_o167 317 14 qd_g547 rfl rfl
theorem dX12_doesOther_334 : decode cX12_doesOther 334 = .ok (.aload_n 0, 1) := qd_o42 317 17 qd_g547 rfl
theorem dX12_doesOther_335 : decode cX12_doesOther 335 = .ok (.getfield 53, 3) := qd_o180 317 18 qd_g547 rfl rfl
theorem dX12_doesOther_338 : decode cX12_doesOther 338 = .ok (.iconst 5, 1) := qd_o8 317 21 qd_g547 rfl
theorem dX12_doesOther_339 : decode cX12_doesOther 339 = .ok (.iconst 1, 1) := qd_o4 317 22 qd_g547 rfl
theorem dX12_doesOther_340 : decode cX12_doesOther 340 = .ok (.bastore, 1) := qd_o84 317 23 qd_g547 rfl
theorem dX12_doesOther_341 : decode cX12_doesOther 341 = .ok (.goto 82, 3) := qd_o167 317 24 qd_g547 rfl rfl
theorem dX12_doesOther_344 : decode cX12_doesOther 344 = .ok (.aload_n 0, 1) := qd_o42 317 27 qd_g547 rfl
theorem dX12_doesOther_345 : decode cX12_doesOther 345 = .ok (.getfield 53, 3) := qd_o180 317 28 qd_g547 rfl rfl
theorem dX12_doesOther_348 : decode cX12_doesOther 348 = .ok (.iconst 5, 1) := qd_o8 317 31 qd_g547 rfl
theorem dX12_doesOther_349 : decode cX12_doesOther 349 = .ok (.iconst 0, 1) := qd_o3 317 32 qd_g547 rfl
theorem dX12_doesOther_350 : decode cX12_doesOther 350 = .ok (.bastore, 1) := qd_o84 317 33 qd_g547 rfl
theorem dX12_doesOther_351 : decode cX12_doesOther 351 = .ok (.goto 72, 3) := qd_o167 317 34 qd_g547 rfl rfl
theorem dX12_doesOther_354 : decode cX12_doesOther 354 = .ok (.aload_n 0, 1) := qd_o42 317 37 qd_g547 rfl
theorem qd_g548 : qd_bs cX12_doesOther 355 [180, 0, 53, 5, 4, 84, 167, 0, 62, 42, 180, 0, 53, 5, 3, 84, 167, 0, 52, 42, 180, 0, 53, 6, 4, 84, 167, 0, 42, 42, 180, 0, 53, 6, 3, 84, 167, 0, 32, 42] = true := by decide +kernel
theorem dX12_doesOther_355 : decode cX12_doesOther 355 = .ok (.getfield 53, 3) := qd_o180 355 0 qd_g548 rfl rfl
theorem dX12_doesOther_358 : decode cX12_doesOther 358 = .ok (.iconst 2, 1) := qd_o5 355 3 qd_g548 rfl
theorem dX12_doesOther_359 : decode cX12_doesOther 359 = .ok (.iconst 1, 1) := qd_o4 355 4 qd_g548 rfl
theorem dX12_doesOther_360 : decode cX12_doesOther 360 = .ok (.bastore, 1) := qd_o84 355 5 qd_g548 rfl
theorem dX12_doesOther_361 : decode cX12_doesOther 361 = .ok (.goto 62, 3) := qd_o167 355 6 qd_g548 rfl rfl
theorem dX12_doesOther_364 : decode cX12_doesOther 364 = .ok (.aload_n 0, 1) := qd_o42 355 9 qd_g548 rfl
theorem dX12_doesOther_365 : decode cX12_doesOther 365 = .ok (.getfield 53, 3) := qd_o180 355 10 qd_g548 rfl rfl
theorem dX12_doesOther_368 : decode cX12_doesOther 368 = .ok (.iconst 2, 1) := qd_o5 355 13 qd_g548 rfl
theorem dX12_doesOther_369 : decode cX12_doesOther 369 = .ok (.iconst 0, 1) := qd_o3 355 14 qd_g548 rfl
theorem dX12_doesOther_370 : decode cX12_doesOther 370 = .ok (.bastore, 1) := qd_o84 355 15 qd_g548 rfl
theorem dX12_doesOther_371 : decode cX12_doesOther 371 = .ok (.goto 52, 3) := qd_o167 355 16 qd_g548 rfl rfl
theorem dX12_doesOther_374 : decode cX12_doesOther 374 = .ok (.aload_n 0, 1) := qd_o42 355 19 qd_g548 rfl
theorem dX12_doesOther_375 : decode cX12_doesOther 375 = .ok (.getfield 53, 3) := qd_o180 355 20 qd_g548 rfl rfl
theorem dX12_doesOther_378 : decode cX12_doesOther 378 = .ok (.iconst 3, 1) := qd_o6 355 23 qd_g548 rfl
theorem dX12_doesOther_379 : decode cX12_doesOther 379 = .ok (.iconst 1, 1) := qd_o4 355 24 qd_g548 rfl
theorem dX12_doesOther_380 : decode cX12_doesOther 380 = .ok (.bastore, 1) := qd_o84 355 25 qd_g548 rfl
theorem dX12_doesOther_381 : decode cX12_doesOther 381 = .ok (.goto 42, 3) := qd_o167 355 26 qd_g548 rfl rfl
theorem dX12_doesOther_384 : decode cX12_doesOther 384 = .ok (.aload_n 0, 1) := qd_o42 355 29 qd_g548 rfl
theorem dX12_doesOther_385 : decode cX12_doesOther 385 = .ok (.getfield 53, 3) := qd_o180 355 30 qd_g548 rfl rfl
theorem dX12_doesOther_388 : decode cX12_doesOther 388 = .ok (.iconst 3, 1) := qd_o6 355 33 qd_g548 rfl
theorem dX12_doesOther_389 : decode cX12_doesOther 389 = .ok (.iconst 0, 1) := qd_o3 355 34 qd_g548 rfl
theorem dX12_doesOther_390 : decode cX12_doesOther 390 = .ok (.bastore, 1) := qd_o84 355 35 qd_g548 rfl
theorem dX12_doesOther_391 : decode cX12_doesOther 391 = .ok (.goto 32, 3) := qd_o167 355 36 qd_g548 rfl rfl
theorem dX12_doesOther_394 : decode cX12_doesOther 394 = .ok (.aload_n 0, 1) := qd_o42 355 39 qd_g548 rfl
theorem qd_g549 : qd_bs cX12_doesOther 395 [180, 0, 53, 4, 3, 84, 167, 0, 22, 167, 0, 19, 42, 27, 182, 1, 66, 167, 0, 11, 42, 180, 0, 53, 16, 7, 4, 84, 42, 180, 0, 50, 7, 28, 4, 96, 184, 0, 176, 79] = true := by decide +kernel
theorem dX12_doesOther_395 : decode cX12_doesOther 395 = .ok (.getfield 53, 3) := qd_o180 395 0 qd_g549 rfl rfl
theorem dX12_doesOther_398 : decode cX12_doesOther 398 = .ok (.iconst 1, 1) := qd_o4 395 3 qd_g549 rfl
theorem dX12_doesOther_399 : decode cX12_doesOther 399 = .ok (.iconst 0, 1) := qd_o3 395 4 qd_g549 rfl
theorem dX12_doesOther_400 : decode cX12_doesOther 400 = .ok (.bastore, 1) := qd_o84 395 5 qd_g549 rfl
theorem dX12_doesOther_401 : decode cX12_doesOther 401 = .ok (.goto 22, 3) := qd_o167 395 6 qd_g549 rfl rfl
theorem dX12_doesOther_404 : decode cX12_doesOther 404 = .ok (.goto 19, 3) := qd_o167 395 9 qd_g549 rfl rfl
theorem dX12_doesOther_407 : decode cX12_doesOther 407 = .ok (.aload_n 0, 1) := qd_o42 395 12 qd_g549 rfl
theorem dX12_doesOther_408 : decode cX12_doesOther 408 = .ok (.iload_n 1, 1) := qd_o27 395 13 qd_g549 rfl
theorem dX12_doesOther_409 : decode cX12_doesOther 409 = .ok (.invokevirtual 322, 3) := qd_o182 395 14 qd_g549 rfl rfl
theorem dX12_doesOther_412 : decode cX12_doesOther 412 = .ok (.goto 11, 3) := qd_o167 395 17 qd_g549 rfl rfl
theorem dX12_doesOther_415 : decode cX12_doesOther 415 = .ok (.aload_n 0, 1) := qd_o42 395 20 qd_g549 rfl
theorem dX12_doesOther_416 : decode cX12_doesOther 416 = .ok (.getfield 53, 3) := qd_o180 395 21 qd_g549 rfl rfl
theorem dX12_doesOther_419 : decode cX12_doesOther 419 = .ok (.bipush 7, 2) := qd_o16 395 24 qd_g549 rfl rfl
theorem dX12_doesOther_421 : decode cX12_doesOther 421 = .ok (.iconst 1, 1) := qd_o4 395 26 qd_g549 rfl
theorem dX12_doesOther_422 : decode cX12_doesOther 422 = .ok (.bastore, 1) := qd_o84 395 27 qd_g549 rfl
theorem dX12_doesOther_423 : decode cX12_doesOther 423 = .ok (.aload_n 0, 1) := qd_o42 395 28 qd_g549 rfl
theorem dX12_doesOther_424 : decode cX12_doesOther 424 = .ok (.getfield 50, 3) := qd_o180 395 29 qd_g549 rfl rfl
theorem dX12_doesOther_427 : decode cX12_doesOther 427 = .ok (.iconst 4, 1) := qd_o7 395 32 qd_g549 rfl
theorem dX12_doesOther_428 : decode cX12_doesOther 428 = .ok (.iload_n 2, 1) := qd_o28 395 33 qd_g549 rfl
theorem dX12_doesOther_429 : decode cX12_doesOther 429 = .ok (.iconst 1, 1) := qd_o4 395 34 qd_g549 rfl
theorem dX12_doesOther_430 : decode cX12_doesOther 430 = .ok (.iadd, 1) := qd_o96 395 35 qd_g549 rfl
theorem dX12_doesOther_431 : decode cX12_doesOther 431 = .ok (.invokestatic 176, 3) := qd_o184 395 36 qd_g549 rfl rfl
theorem dX12_doesOther_434 : decode cX12_doesOther 434 = .ok (.iastore, 1) := qd_o79 395 39 qd_g549 rfl
theorem qd_g550 : qd_bs cX12_doesOther 435 [177] = true := by decide +kernel
theorem dX12_doesOther_435 : decode cX12_doesOther 435 = .ok (.return_, 1) := qd_o177 435 0 qd_g550 rfl
theorem qd_g551 : qd_bs cX12_pulledAddress 0 [42, 182, 1, 60, 61, 28, 17, 1, 0, 42, 182, 1, 60, 104, 96, 27, 96, 184, 0, 176, 172] = true := by decide +kernel
theorem dX12_pulledAddress_0 : decode cX12_pulledAddress 0 = .ok (.aload_n 0, 1) := qd_o42 0 0 qd_g551 rfl
theorem dX12_pulledAddress_1 : decode cX12_pulledAddress 1 = .ok (.invokevirtual 316, 3) := qd_o182 0 1 qd_g551 rfl rfl
theorem dX12_pulledAddress_4 : decode cX12_pulledAddress 4 = .ok (.istore_n 2, 1) := qd_o61 0 4 qd_g551 rfl
theorem dX12_pulledAddress_5 : decode cX12_pulledAddress 5 = .ok (.iload_n 2, 1) := qd_o28 0 5 qd_g551 rfl
theorem dX12_pulledAddress_6 : decode cX12_pulledAddress 6 = .ok (.sipush 256, 3) := qd_o17 0 6 qd_g551 rfl rfl
theorem dX12_pulledAddress_9 : decode cX12_pulledAddress 9 = .ok (.aload_n 0, 1) := qd_o42 0 9 qd_g551 rfl
theorem dX12_pulledAddress_10 : decode cX12_pulledAddress 10 = .ok (.invokevirtual 316, 3) := qd_o182 0 10 qd_g551 rfl rfl
theorem dX12_pulledAddress_13 : decode cX12_pulledAddress 13 = .ok (.imul, 1) := qd_o104 0 13 qd_g551 rfl
theorem dX12_pulledAddress_14 : decode cX12_pulledAddress 14 = .ok (.iadd, 1) := qd_o96 0 14 qd_g551 rfl
theorem dX12_pulledAddress_15 : decode cX12_pulledAddress 15 = .ok (.iload_n 1, 1) := qd_o27 0 15 qd_g551 rfl
theorem dX12_pulledAddress_16 : decode cX12_pulledAddress 16 = .ok (.iadd, 1) := qd_o96 0 16 qd_g551 rfl
theorem dX12_pulledAddress_17 : decode cX12_pulledAddress 17 = .ok (.invokestatic 176, 3) := qd_o184 0 17 qd_g551 rfl rfl
theorem dX12_pulledAddress_20 : decode cX12_pulledAddress 20 = .ok (.ireturn, 1) := qd_o172 0 20 qd_g551 rfl
theorem qd_g552 : qd_bs cX12_jumps 0 [42, 28, 4, 96, 182, 0, 253, 62, 27, 17, 0, 158, 160, 0, 31, 28, 5, 96, 184, 0, 176, 54, 4, 42, 21, 4, 17, 1, 0, 108, 182, 1, 22, 42, 21, 4, 17, 1, 0, 112] = true := by decide +kernel
theorem dX12_jumps_0 : decode cX12_jumps 0 = .ok (.aload_n 0, 1) := qd_o42 0 0 qd_g552 rfl
theorem dX12_jumps_1 : decode cX12_jumps 1 = .ok (.iload_n 2, 1) := qd_o28 0 1 qd_g552 rfl
theorem dX12_jumps_2 : decode cX12_jumps 2 = .ok (.iconst 1, 1) := qd_o4 0 2 qd_g552 rfl
theorem dX12_jumps_3 : decode cX12_jumps 3 = .ok (.iadd, 1) := qd_o96 0 3 qd_g552 rfl
theorem dX12_jumps_4 : decode cX12_jumps 4 = .ok (.invokevirtual 253, 3) := qd_o182 0 4 qd_g552 rfl rfl
theorem dX12_jumps_7 : decode cX12_jumps 7 = .ok (.istore_n 3, 1) := qd_o62 0 7 qd_g552 rfl
theorem dX12_jumps_8 : decode cX12_jumps 8 = .ok (.iload_n 1, 1) := qd_o27 0 8 qd_g552 rfl
theorem dX12_jumps_9 : decode cX12_jumps 9 = .ok (.sipush 158, 3) := qd_o17 0 9 qd_g552 rfl rfl
theorem dX12_jumps_12 : decode cX12_jumps 12 = .ok (.if_icmp .ne 31, 3) := qd_o160 0 12 qd_g552 rfl rfl
theorem dX12_jumps_15 : decode cX12_jumps 15 = .ok (.iload_n 2, 1) := qd_o28 0 15 qd_g552 rfl
theorem dX12_jumps_16 : decode cX12_jumps 16 = .ok (.iconst 2, 1) := qd_o5 0 16 qd_g552 rfl
theorem dX12_jumps_17 : decode cX12_jumps 17 = .ok (.iadd, 1) := qd_o96 0 17 qd_g552 rfl
theorem dX12_jumps_18 : decode cX12_jumps 18 = .ok (.invokestatic 176, 3) := qd_o184 0 18 qd_g552 rfl rfl
theorem dX12_jumps_21 : decode cX12_jumps 21 = .ok (.istore 4, 2) := qd_o54 0 21 qd_g552 rfl rfl
theorem dX12_jumps_23 : decode cX12_jumps 23 = .ok (.aload_n 0, 1) := qd_o42 0 23 qd_g552 rfl
theorem dX12_jumps_24 : decode cX12_jumps 24 = .ok (.iload 4, 2) := qd_o21 0 24 qd_g552 rfl rfl
theorem dX12_jumps_26 : decode cX12_jumps 26 = .ok (.sipush 256, 3) := qd_o17 0 26 qd_g552 rfl rfl
theorem dX12_jumps_29 : decode cX12_jumps 29 = .ok (.idiv, 1) := qd_o108 0 29 qd_g552 rfl
theorem dX12_jumps_30 : decode cX12_jumps 30 = .ok (.invokevirtual 278, 3) := qd_o182 0 30 qd_g552 rfl rfl
theorem dX12_jumps_33 : decode cX12_jumps 33 = .ok (.aload_n 0, 1) := qd_o42 0 33 qd_g552 rfl
theorem dX12_jumps_34 : decode cX12_jumps 34 = .ok (.iload 4, 2) := qd_o21 0 34 qd_g552 rfl rfl
theorem dX12_jumps_36 : decode cX12_jumps 36 = .ok (.sipush 256, 3) := qd_o17 0 36 qd_g552 rfl rfl
theorem dX12_jumps_39 : decode cX12_jumps 39 = .ok (.irem, 1) := qd_o112 0 39 qd_g552 rfl
theorem qd_g553 : qd_bs cX12_jumps 40 [182, 1, 22, 42, 180, 0, 50, 7, 27, 17, 0, 159, 160, 0, 40, 42, 29, 182, 0, 250, 17, 1, 0, 42, 29, 17, 1, 0, 108, 17, 1, 0, 104, 29, 4, 96, 17, 1, 0, 112] = true := by decide +kernel
theorem dX12_jumps_40 : decode cX12_jumps 40 = .ok (.invokevirtual 278, 3) := qd_o182 40 0 qd_g553 rfl rfl
theorem dX12_jumps_43 : decode cX12_jumps 43 = .ok (.aload_n 0, 1) := qd_o42 40 3 qd_g553 rfl
theorem dX12_jumps_44 : decode cX12_jumps 44 = .ok (.getfield 50, 3) := qd_o180 40 4 qd_g553 rfl rfl
theorem dX12_jumps_47 : decode cX12_jumps 47 = .ok (.iconst 4, 1) := qd_o7 40 7 qd_g553 rfl
theorem dX12_jumps_48 : decode cX12_jumps 48 = .ok (.iload_n 1, 1) := qd_o27 40 8 qd_g553 rfl
theorem dX12_jumps_49 : decode cX12_jumps 49 = .ok (.sipush 159, 3) := qd_o17 40 9 qd_g553 rfl rfl
theorem dX12_jumps_52 : decode cX12_jumps 52 = .ok (.if_icmp .ne 40, 3) := qd_o160 40 12 qd_g553 rfl rfl
theorem dX12_jumps_55 : decode cX12_jumps 55 = .ok (.aload_n 0, 1) := qd_o42 40 15 qd_g553 rfl
theorem dX12_jumps_56 : decode cX12_jumps 56 = .ok (.iload_n 3, 1) := qd_o29 40 16 qd_g553 rfl
theorem dX12_jumps_57 : decode cX12_jumps 57 = .ok (.invokevirtual 250, 3) := qd_o182 40 17 qd_g553 rfl rfl
theorem dX12_jumps_60 : decode cX12_jumps 60 = .ok (.sipush 256, 3) := qd_o17 40 20 qd_g553 rfl rfl
theorem dX12_jumps_63 : decode cX12_jumps 63 = .ok (.aload_n 0, 1) := qd_o42 40 23 qd_g553 rfl
theorem dX12_jumps_64 : decode cX12_jumps 64 = .ok (.iload_n 3, 1) := qd_o29 40 24 qd_g553 rfl
theorem dX12_jumps_65 : decode cX12_jumps 65 = .ok (.sipush 256, 3) := qd_o17 40 25 qd_g553 rfl rfl
theorem dX12_jumps_68 : decode cX12_jumps 68 = .ok (.idiv, 1) := qd_o108 40 28 qd_g553 rfl
theorem dX12_jumps_69 : decode cX12_jumps 69 = .ok (.sipush 256, 3) := qd_o17 40 29 qd_g553 rfl rfl
theorem dX12_jumps_72 : decode cX12_jumps 72 = .ok (.imul, 1) := qd_o104 40 32 qd_g553 rfl
theorem dX12_jumps_73 : decode cX12_jumps 73 = .ok (.iload_n 3, 1) := qd_o29 40 33 qd_g553 rfl
theorem dX12_jumps_74 : decode cX12_jumps 74 = .ok (.iconst 1, 1) := qd_o4 40 34 qd_g553 rfl
theorem dX12_jumps_75 : decode cX12_jumps 75 = .ok (.iadd, 1) := qd_o96 40 35 qd_g553 rfl
theorem dX12_jumps_76 : decode cX12_jumps 76 = .ok (.sipush 256, 3) := qd_o17 40 36 qd_g553 rfl rfl
theorem dX12_jumps_79 : decode cX12_jumps 79 = .ok (.irem, 1) := qd_o112 40 39 qd_g553 rfl
theorem qd_g554 : qd_bs cX12_jumps 80 [96, 182, 0, 250, 104, 96, 184, 0, 176, 167, 0, 4, 29, 79, 177] = true := by decide +kernel
theorem dX12_jumps_80 : decode cX12_jumps 80 = .ok (.iadd, 1) := qd_o96 80 0 qd_g554 rfl
theorem dX12_jumps_81 : decode cX12_jumps 81 = .ok (.invokevirtual 250, 3) := qd_o182 80 1 qd_g554 rfl rfl
theorem dX12_jumps_84 : decode cX12_jumps 84 = .ok (.imul, 1) := qd_o104 80 4 qd_g554 rfl
theorem dX12_jumps_85 : decode cX12_jumps 85 = .ok (.iadd, 1) := qd_o96 80 5 qd_g554 rfl
theorem dX12_jumps_86 : decode cX12_jumps 86 = .ok (.invokestatic 176, 3) := qd_o184 80 6 qd_g554 rfl rfl
theorem dX12_jumps_89 : decode cX12_jumps 89 = .ok (.goto 4, 3) := qd_o167 80 9 qd_g554 rfl rfl
theorem dX12_jumps_92 : decode cX12_jumps 92 = .ok (.iload_n 3, 1) := qd_o29 80 12 qd_g554 rfl
theorem dX12_jumps_93 : decode cX12_jumps 93 = .ok (.iastore, 1) := qd_o79 80 13 qd_g554 rfl
theorem dX12_jumps_94 : decode cX12_jumps 94 = .ok (.return_, 1) := qd_o177 80 14 qd_g554 rfl
theorem qd_g555 : qd_bs cX12_does 0 [42, 27, 182, 0, 250, 61, 28, 184, 0, 247, 62, 29, 155, 0, 35, 28, 184, 1, 69, 54, 4, 42, 29, 28, 16, 8, 112, 27, 182, 1, 72, 42, 180, 0, 50, 7, 27, 21, 4, 96] = true := by decide +kernel
theorem dX12_does_0 : decode cX12_does 0 = .ok (.aload_n 0, 1) := qd_o42 0 0 qd_g555 rfl
theorem dX12_does_1 : decode cX12_does 1 = .ok (.iload_n 1, 1) := qd_o27 0 1 qd_g555 rfl
theorem dX12_does_2 : decode cX12_does 2 = .ok (.invokevirtual 250, 3) := qd_o182 0 2 qd_g555 rfl rfl
theorem dX12_does_5 : decode cX12_does 5 = .ok (.istore_n 2, 1) := qd_o61 0 5 qd_g555 rfl
theorem dX12_does_6 : decode cX12_does 6 = .ok (.iload_n 2, 1) := qd_o28 0 6 qd_g555 rfl
theorem dX12_does_7 : decode cX12_does 7 = .ok (.invokestatic 247, 3) := qd_o184 0 7 qd_g555 rfl rfl
theorem dX12_does_10 : decode cX12_does 10 = .ok (.istore_n 3, 1) := qd_o62 0 10 qd_g555 rfl
theorem dX12_does_11 : decode cX12_does 11 = .ok (.iload_n 3, 1) := qd_o29 0 11 qd_g555 rfl
theorem dX12_does_12 : decode cX12_does 12 = .ok (.ifCond .lt 35, 3) := qd_o155 0 12 qd_g555 rfl rfl
theorem dX12_does_15 : decode cX12_does 15 = .ok (.iload_n 2, 1) := qd_o28 0 15 qd_g555 rfl
theorem dX12_does_16 : decode cX12_does 16 = .ok (.invokestatic 325, 3) := qd_o184 0 16 qd_g555 rfl rfl
theorem dX12_does_19 : decode cX12_does 19 = .ok (.istore 4, 2) := qd_o54 0 19 qd_g555 rfl rfl
theorem dX12_does_21 : decode cX12_does 21 = .ok (.aload_n 0, 1) := qd_o42 0 21 qd_g555 rfl
theorem dX12_does_22 : decode cX12_does 22 = .ok (.iload_n 3, 1) := qd_o29 0 22 qd_g555 rfl
theorem dX12_does_23 : decode cX12_does 23 = .ok (.iload_n 2, 1) := qd_o28 0 23 qd_g555 rfl
theorem dX12_does_24 : decode cX12_does 24 = .ok (.bipush 8, 2) := qd_o16 0 24 qd_g555 rfl rfl
theorem dX12_does_26 : decode cX12_does 26 = .ok (.irem, 1) := qd_o112 0 26 qd_g555 rfl
theorem dX12_does_27 : decode cX12_does 27 = .ok (.iload_n 1, 1) := qd_o27 0 27 qd_g555 rfl
theorem dX12_does_28 : decode cX12_does 28 = .ok (.invokevirtual 328, 3) := qd_o182 0 28 qd_g555 rfl rfl
theorem dX12_does_31 : decode cX12_does 31 = .ok (.aload_n 0, 1) := qd_o42 0 31 qd_g555 rfl
theorem dX12_does_32 : decode cX12_does 32 = .ok (.getfield 50, 3) := qd_o180 0 32 qd_g555 rfl rfl
theorem dX12_does_35 : decode cX12_does 35 = .ok (.iconst 4, 1) := qd_o7 0 35 qd_g555 rfl
theorem dX12_does_36 : decode cX12_does 36 = .ok (.iload_n 1, 1) := qd_o27 0 36 qd_g555 rfl
theorem dX12_does_37 : decode cX12_does 37 = .ok (.iload 4, 2) := qd_o21 0 37 qd_g555 rfl rfl
theorem dX12_does_39 : decode cX12_does 39 = .ok (.iadd, 1) := qd_o96 0 39 qd_g555 rfl
theorem qd_g556 : qd_bs cX12_does 40 [184, 0, 176, 79, 167, 0, 150, 28, 17, 0, 154, 160, 0, 21, 42, 17, 14, 254, 27, 4, 96, 184, 0, 176, 16, 16, 182, 1, 75, 167, 0, 125, 28, 17, 0, 155, 160, 0, 25, 42] = true := by decide +kernel
theorem dX12_does_40 : decode cX12_does 40 = .ok (.invokestatic 176, 3) := qd_o184 40 0 qd_g556 rfl rfl
theorem dX12_does_43 : decode cX12_does 43 = .ok (.iastore, 1) := qd_o79 40 3 qd_g556 rfl
theorem dX12_does_44 : decode cX12_does 44 = .ok (.goto 150, 3) := qd_o167 40 4 qd_g556 rfl rfl
theorem dX12_does_47 : decode cX12_does 47 = .ok (.iload_n 2, 1) := qd_o28 40 7 qd_g556 rfl
theorem dX12_does_48 : decode cX12_does 48 = .ok (.sipush 154, 3) := qd_o17 40 8 qd_g556 rfl rfl
theorem dX12_does_51 : decode cX12_does 51 = .ok (.if_icmp .ne 21, 3) := qd_o160 40 11 qd_g556 rfl rfl
theorem dX12_does_54 : decode cX12_does 54 = .ok (.aload_n 0, 1) := qd_o42 40 14 qd_g556 rfl
theorem dX12_does_55 : decode cX12_does 55 = .ok (.sipush 3838, 3) := qd_o17 40 15 qd_g556 rfl rfl
theorem dX12_does_58 : decode cX12_does 58 = .ok (.iload_n 1, 1) := qd_o27 40 18 qd_g556 rfl
theorem dX12_does_59 : decode cX12_does 59 = .ok (.iconst 1, 1) := qd_o4 40 19 qd_g556 rfl
theorem dX12_does_60 : decode cX12_does 60 = .ok (.iadd, 1) := qd_o96 40 20 qd_g556 rfl
theorem dX12_does_61 : decode cX12_does 61 = .ok (.invokestatic 176, 3) := qd_o184 40 21 qd_g556 rfl rfl
theorem dX12_does_64 : decode cX12_does 64 = .ok (.bipush 16, 2) := qd_o16 40 24 qd_g556 rfl rfl
theorem dX12_does_66 : decode cX12_does 66 = .ok (.invokevirtual 331, 3) := qd_o182 40 26 qd_g556 rfl rfl
theorem dX12_does_69 : decode cX12_does 69 = .ok (.goto 125, 3) := qd_o167 40 29 qd_g556 rfl rfl
theorem dX12_does_72 : decode cX12_does 72 = .ok (.iload_n 2, 1) := qd_o28 40 32 qd_g556 rfl
theorem dX12_does_73 : decode cX12_does 73 = .ok (.sipush 155, 3) := qd_o17 40 33 qd_g556 rfl rfl
theorem dX12_does_76 : decode cX12_does 76 = .ok (.if_icmp .ne 25, 3) := qd_o160 40 36 qd_g556 rfl rfl
theorem dX12_does_79 : decode cX12_does 79 = .ok (.aload_n 0, 1) := qd_o42 40 39 qd_g556 rfl
theorem qd_g557 : qd_bs cX12_does 80 [42, 182, 1, 60, 182, 1, 63, 42, 180, 0, 50, 7, 42, 3, 182, 1, 78, 79, 167, 0, 96, 28, 17, 0, 156, 160, 0, 17, 42, 180, 0, 50, 7, 42, 4, 182, 1, 78, 79] = true := by decide +kernel
theorem dX12_does_80 : decode cX12_does 80 = .ok (.aload_n 0, 1) := qd_o42 80 0 qd_g557 rfl
theorem dX12_does_81 : decode cX12_does 81 = .ok (.invokevirtual 316, 3) := qd_o182 80 1 qd_g557 rfl rfl
theorem dX12_does_84 : decode cX12_does 84 = .ok (.invokevirtual 319, 3) := qd_o182 80 4 qd_g557 rfl rfl
theorem dX12_does_87 : decode cX12_does 87 = .ok (.aload_n 0, 1) := qd_o42 80 7 qd_g557 rfl
theorem dX12_does_88 : decode cX12_does 88 = .ok (.getfield 50, 3) := qd_o180 80 8 qd_g557 rfl rfl
theorem dX12_does_91 : decode cX12_does 91 = .ok (.iconst 4, 1) := qd_o7 80 11 qd_g557 rfl
theorem dX12_does_92 : decode cX12_does 92 = .ok (.aload_n 0, 1) := qd_o42 80 12 qd_g557 rfl
theorem dX12_does_93 : decode cX12_does 93 = .ok (.iconst 0, 1) := qd_o3 80 13 qd_g557 rfl
theorem dX12_does_94 : decode cX12_does 94 = .ok (.invokevirtual 334, 3) := qd_o182 80 14 qd_g557 rfl rfl
theorem dX12_does_97 : decode cX12_does 97 = .ok (.iastore, 1) := qd_o79 80 17 qd_g557 rfl
theorem dX12_does_98 : decode cX12_does 98 = .ok (.goto 96, 3) := qd_o167 80 18 qd_g557 rfl rfl
theorem dX12_does_101 : decode cX12_does 101 = .ok (.iload_n 2, 1) := qd_o28 80 21 qd_g557 rfl
theorem dX12_does_102 : decode cX12_does 102 = .ok (.sipush 156, 3) := qd_o17 80 22 qd_g557 rfl rfl
theorem dX12_does_105 : decode cX12_does 105 = .ok (.if_icmp .ne 17, 3) := qd_o160 80 25 qd_g557 rfl rfl
theorem dX12_does_108 : decode cX12_does 108 = .ok (.aload_n 0, 1) := qd_o42 80 28 qd_g557 rfl
theorem dX12_does_109 : decode cX12_does 109 = .ok (.getfield 50, 3) := qd_o180 80 29 qd_g557 rfl rfl
theorem dX12_does_112 : decode cX12_does 112 = .ok (.iconst 4, 1) := qd_o7 80 32 qd_g557 rfl
theorem dX12_does_113 : decode cX12_does 113 = .ok (.aload_n 0, 1) := qd_o42 80 33 qd_g557 rfl
theorem dX12_does_114 : decode cX12_does 114 = .ok (.iconst 1, 1) := qd_o4 80 34 qd_g557 rfl
theorem dX12_does_115 : decode cX12_does 115 = .ok (.invokevirtual 334, 3) := qd_o182 80 35 qd_g557 rfl rfl
theorem dX12_does_118 : decode cX12_does 118 = .ok (.iastore, 1) := qd_o79 80 38 qd_g557 rfl
theorem qd_g558 : qd_bs cX12_does 119 [167, 0, 75, 28, 17, 0, 157, 17, 0, 159, 184, 0, 119, 153, 0, 12, 42, 28, 27, 182, 1, 81, 167, 0, 53, 28, 17, 0, 160, 17, 0, 167, 184, 0, 119, 153, 0, 34, 42] = true := by decide +kernel
theorem dX12_does_119 : decode cX12_does 119 = .ok (.goto 75, 3) := qd_o167 119 0 qd_g558 rfl rfl
theorem dX12_does_122 : decode cX12_does 122 = .ok (.iload_n 2, 1) := qd_o28 119 3 qd_g558 rfl
theorem dX12_does_123 : decode cX12_does 123 = .ok (.sipush 157, 3) := qd_o17 119 4 qd_g558 rfl rfl
theorem dX12_does_126 : decode cX12_does 126 = .ok (.sipush 159, 3) := qd_o17 119 7 qd_g558 rfl rfl
theorem dX12_does_129 : decode cX12_does 129 = .ok (.invokestatic 119, 3) := qd_o184 119 10 qd_g558 rfl rfl
theorem dX12_does_132 : decode cX12_does 132 = .ok (.ifCond .eq 12, 3) := qd_o153 119 13 qd_g558 rfl rfl
theorem dX12_does_135 : decode cX12_does 135 = .ok (.aload_n 0, 1) := qd_o42 119 16 qd_g558 rfl
theorem dX12_does_136 : decode cX12_does 136 = .ok (.iload_n 2, 1) := qd_o28 119 17 qd_g558 rfl
theorem dX12_does_137 : decode cX12_does 137 = .ok (.iload_n 1, 1) := qd_o27 119 18 qd_g558 rfl
theorem dX12_does_138 : decode cX12_does 138 = .ok (.invokevirtual 337, 3) := qd_o182 119 19 qd_g558 rfl rfl
theorem dX12_does_141 : decode cX12_does 141 = .ok (.goto 53, 3) := qd_o167 119 22 qd_g558 rfl rfl
theorem dX12_does_144 : decode cX12_does 144 = .ok (.iload_n 2, 1) := qd_o28 119 25 qd_g558 rfl
theorem dX12_does_145 : decode cX12_does 145 = .ok (.sipush 160, 3) := qd_o17 119 26 qd_g558 rfl rfl
theorem dX12_does_148 : decode cX12_does 148 = .ok (.sipush 167, 3) := qd_o17 119 29 qd_g558 rfl rfl
theorem dX12_does_151 : decode cX12_does 151 = .ok (.invokestatic 119, 3) := qd_o184 119 32 qd_g558 rfl rfl
theorem dX12_does_154 : decode cX12_does 154 = .ok (.ifCond .eq 34, 3) := qd_o153 119 35 qd_g558 rfl rfl
theorem dX12_does_157 : decode cX12_does 157 = .ok (.aload_n 0, 1) := qd_o42 119 38 qd_g558 rfl
theorem qd_g559 : qd_bs cX12_does 158 [180, 0, 50, 7, 42, 28, 182, 1, 13, 153, 0, 11, 42, 27, 182, 1, 16, 167, 0, 9, 27, 5, 96, 184, 0, 176, 79, 167, 0, 9, 42, 28, 27, 182, 1, 84, 42, 180, 0, 35] = true := by decide +kernel
theorem dX12_does_158 : decode cX12_does 158 = .ok (.getfield 50, 3) := qd_o180 158 0 qd_g559 rfl rfl
theorem dX12_does_161 : decode cX12_does 161 = .ok (.iconst 4, 1) := qd_o7 158 3 qd_g559 rfl
theorem dX12_does_162 : decode cX12_does 162 = .ok (.aload_n 0, 1) := qd_o42 158 4 qd_g559 rfl
theorem dX12_does_163 : decode cX12_does 163 = .ok (.iload_n 2, 1) := qd_o28 158 5 qd_g559 rfl
theorem dX12_does_164 : decode cX12_does 164 = .ok (.invokevirtual 269, 3) := qd_o182 158 6 qd_g559 rfl rfl
theorem dX12_does_167 : decode cX12_does 167 = .ok (.ifCond .eq 11, 3) := qd_o153 158 9 qd_g559 rfl rfl
theorem dX12_does_170 : decode cX12_does 170 = .ok (.aload_n 0, 1) := qd_o42 158 12 qd_g559 rfl
theorem dX12_does_171 : decode cX12_does 171 = .ok (.iload_n 1, 1) := qd_o27 158 13 qd_g559 rfl
theorem dX12_does_172 : decode cX12_does 172 = .ok (.invokevirtual 272, 3) := qd_o182 158 14 qd_g559 rfl rfl
theorem dX12_does_175 : decode cX12_does 175 = .ok (.goto 9, 3) := qd_o167 158 17 qd_g559 rfl rfl
theorem dX12_does_178 : decode cX12_does 178 = .ok (.iload_n 1, 1) := qd_o27 158 20 qd_g559 rfl
theorem dX12_does_179 : decode cX12_does 179 = .ok (.iconst 2, 1) := qd_o5 158 21 qd_g559 rfl
theorem dX12_does_180 : decode cX12_does 180 = .ok (.iadd, 1) := qd_o96 158 22 qd_g559 rfl
theorem dX12_does_181 : decode cX12_does 181 = .ok (.invokestatic 176, 3) := qd_o184 158 23 qd_g559 rfl rfl
theorem dX12_does_184 : decode cX12_does 184 = .ok (.iastore, 1) := qd_o79 158 26 qd_g559 rfl
theorem dX12_does_185 : decode cX12_does 185 = .ok (.goto 9, 3) := qd_o167 158 27 qd_g559 rfl rfl
theorem dX12_does_188 : decode cX12_does 188 = .ok (.aload_n 0, 1) := qd_o42 158 30 qd_g559 rfl
theorem dX12_does_189 : decode cX12_does 189 = .ok (.iload_n 2, 1) := qd_o28 158 31 qd_g559 rfl
theorem dX12_does_190 : decode cX12_does 190 = .ok (.iload_n 1, 1) := qd_o27 158 32 qd_g559 rfl
theorem dX12_does_191 : decode cX12_does 191 = .ok (.invokevirtual 340, 3) := qd_o182 158 33 qd_g559 rfl rfl
theorem dX12_does_194 : decode cX12_does 194 = .ok (.aload_n 0, 1) := qd_o42 158 36 qd_g559 rfl
theorem dX12_does_195 : decode cX12_does 195 = .ok (.getfield 35, 3) := qd_o180 158 37 qd_g559 rfl rfl
theorem qd_g560 : qd_bs cX12_does 198 [42, 180, 0, 50, 16, 20, 46, 16, 16, 112, 27, 79, 42, 180, 0, 50, 16, 20, 92, 46, 4, 96, 79, 177] = true := by decide +kernel
theorem dX12_does_198 : decode cX12_does 198 = .ok (.aload_n 0, 1) := qd_o42 198 0 qd_g560 rfl
theorem dX12_does_199 : decode cX12_does 199 = .ok (.getfield 50, 3) := qd_o180 198 1 qd_g560 rfl rfl
theorem dX12_does_202 : decode cX12_does 202 = .ok (.bipush 20, 2) := qd_o16 198 4 qd_g560 rfl rfl
theorem dX12_does_204 : decode cX12_does 204 = .ok (.iaload, 1) := qd_o46 198 6 qd_g560 rfl
theorem dX12_does_205 : decode cX12_does 205 = .ok (.bipush 16, 2) := qd_o16 198 7 qd_g560 rfl rfl
theorem dX12_does_207 : decode cX12_does 207 = .ok (.irem, 1) := qd_o112 198 9 qd_g560 rfl
theorem dX12_does_208 : decode cX12_does 208 = .ok (.iload_n 1, 1) := qd_o27 198 10 qd_g560 rfl
theorem dX12_does_209 : decode cX12_does 209 = .ok (.iastore, 1) := qd_o79 198 11 qd_g560 rfl
theorem dX12_does_210 : decode cX12_does 210 = .ok (.aload_n 0, 1) := qd_o42 198 12 qd_g560 rfl
theorem dX12_does_211 : decode cX12_does 211 = .ok (.getfield 50, 3) := qd_o180 198 13 qd_g560 rfl rfl
theorem dX12_does_214 : decode cX12_does 214 = .ok (.bipush 20, 2) := qd_o16 198 16 qd_g560 rfl rfl
theorem dX12_does_216 : decode cX12_does 216 = .ok (.dup2, 1) := qd_o92 198 18 qd_g560 rfl
theorem dX12_does_217 : decode cX12_does 217 = .ok (.iaload, 1) := qd_o46 198 19 qd_g560 rfl
theorem dX12_does_218 : decode cX12_does 218 = .ok (.iconst 1, 1) := qd_o4 198 20 qd_g560 rfl
theorem dX12_does_219 : decode cX12_does 219 = .ok (.iadd, 1) := qd_o96 198 21 qd_g560 rfl
theorem dX12_does_220 : decode cX12_does 220 = .ok (.iastore, 1) := qd_o79 198 22 qd_g560 rfl
theorem dX12_does_221 : decode cX12_does 221 = .ok (.return_, 1) := qd_o177 198 23 qd_g560 rfl
theorem qd_g561 : qd_bs cX12_begins 0 [42, 180, 0, 50, 16, 18, 42, 180, 0, 53, 16, 6, 51, 153, 0, 9, 17, 14, 250, 167, 0, 37, 42, 180, 0, 50, 16, 9, 46, 42, 180, 0, 19, 16, 11, 46, 126, 153, 0, 18] = true := by decide +kernel
theorem dX12_begins_0 : decode cX12_begins 0 = .ok (.aload_n 0, 1) := qd_o42 0 0 qd_g561 rfl
theorem dX12_begins_1 : decode cX12_begins 1 = .ok (.getfield 50, 3) := qd_o180 0 1 qd_g561 rfl rfl
theorem dX12_begins_4 : decode cX12_begins 4 = .ok (.bipush 18, 2) := qd_o16 0 4 qd_g561 rfl rfl
theorem dX12_begins_6 : decode cX12_begins 6 = .ok (.aload_n 0, 1) := qd_o42 0 6 qd_g561 rfl
theorem dX12_begins_7 : decode cX12_begins 7 = .ok (.getfield 53, 3) := qd_o180 0 7 qd_g561 rfl rfl
theorem dX12_begins_10 : decode cX12_begins 10 = .ok (.bipush 6, 2) := qd_o16 0 10 qd_g561 rfl rfl
theorem dX12_begins_12 : decode cX12_begins 12 = .ok (.baload, 1) := qd_o51 0 12 qd_g561 rfl
theorem dX12_begins_13 : decode cX12_begins 13 = .ok (.ifCond .eq 9, 3) := qd_o153 0 13 qd_g561 rfl rfl
theorem dX12_begins_16 : decode cX12_begins 16 = .ok (.sipush 3834, 3) := qd_o17 0 16 qd_g561 rfl rfl
theorem dX12_begins_19 : decode cX12_begins 19 = .ok (.goto 37, 3) := qd_o167 0 19 qd_g561 rfl rfl
theorem dX12_begins_22 : decode cX12_begins 22 = .ok (.aload_n 0, 1) := qd_o42 0 22 qd_g561 rfl
theorem dX12_begins_23 : decode cX12_begins 23 = .ok (.getfield 50, 3) := qd_o180 0 23 qd_g561 rfl rfl
theorem dX12_begins_26 : decode cX12_begins 26 = .ok (.bipush 9, 2) := qd_o16 0 26 qd_g561 rfl rfl
theorem dX12_begins_28 : decode cX12_begins 28 = .ok (.iaload, 1) := qd_o46 0 28 qd_g561 rfl
theorem dX12_begins_29 : decode cX12_begins 29 = .ok (.aload_n 0, 1) := qd_o42 0 29 qd_g561 rfl
theorem dX12_begins_30 : decode cX12_begins 30 = .ok (.getfield 19, 3) := qd_o180 0 30 qd_g561 rfl rfl
theorem dX12_begins_33 : decode cX12_begins 33 = .ok (.bipush 11, 2) := qd_o16 0 33 qd_g561 rfl rfl
theorem dX12_begins_35 : decode cX12_begins 35 = .ok (.iaload, 1) := qd_o46 0 35 qd_g561 rfl
theorem dX12_begins_36 : decode cX12_begins 36 = .ok (.iand, 1) := qd_o126 0 36 qd_g561 rfl
theorem dX12_begins_37 : decode cX12_begins 37 = .ok (.ifCond .eq 18, 3) := qd_o153 0 37 qd_g561 rfl rfl
theorem qd_g562 : qd_bs cX12_begins 40 [42, 180, 0, 53, 6, 51, 154, 0, 9, 17, 14, 254, 167, 0, 4, 3, 79, 42, 180, 0, 53, 16, 6, 51, 153, 0, 11, 42, 180, 0, 53, 16, 6, 3, 84, 42, 180, 0, 50] = true := by decide +kernel
theorem dX12_begins_40 : decode cX12_begins 40 = .ok (.aload_n 0, 1) := qd_o42 40 0 qd_g562 rfl
theorem dX12_begins_41 : decode cX12_begins 41 = .ok (.getfield 53, 3) := qd_o180 40 1 qd_g562 rfl rfl
theorem dX12_begins_44 : decode cX12_begins 44 = .ok (.iconst 3, 1) := qd_o6 40 4 qd_g562 rfl
theorem dX12_begins_45 : decode cX12_begins 45 = .ok (.baload, 1) := qd_o51 40 5 qd_g562 rfl
theorem dX12_begins_46 : decode cX12_begins 46 = .ok (.ifCond .ne 9, 3) := qd_o154 40 6 qd_g562 rfl rfl
theorem dX12_begins_49 : decode cX12_begins 49 = .ok (.sipush 3838, 3) := qd_o17 40 9 qd_g562 rfl rfl
theorem dX12_begins_52 : decode cX12_begins 52 = .ok (.goto 4, 3) := qd_o167 40 12 qd_g562 rfl rfl
theorem dX12_begins_55 : decode cX12_begins 55 = .ok (.iconst 0, 1) := qd_o3 40 15 qd_g562 rfl
theorem dX12_begins_56 : decode cX12_begins 56 = .ok (.iastore, 1) := qd_o79 40 16 qd_g562 rfl
theorem dX12_begins_57 : decode cX12_begins 57 = .ok (.aload_n 0, 1) := qd_o42 40 17 qd_g562 rfl
theorem dX12_begins_58 : decode cX12_begins 58 = .ok (.getfield 53, 3) := qd_o180 40 18 qd_g562 rfl rfl
theorem dX12_begins_61 : decode cX12_begins 61 = .ok (.bipush 6, 2) := qd_o16 40 21 qd_g562 rfl rfl
theorem dX12_begins_63 : decode cX12_begins 63 = .ok (.baload, 1) := qd_o51 40 23 qd_g562 rfl
theorem dX12_begins_64 : decode cX12_begins 64 = .ok (.ifCond .eq 11, 3) := qd_o153 40 24 qd_g562 rfl rfl
theorem dX12_begins_67 : decode cX12_begins 67 = .ok (.aload_n 0, 1) := qd_o42 40 27 qd_g562 rfl
theorem dX12_begins_68 : decode cX12_begins 68 = .ok (.getfield 53, 3) := qd_o180 40 28 qd_g562 rfl rfl
theorem dX12_begins_71 : decode cX12_begins 71 = .ok (.bipush 6, 2) := qd_o16 40 31 qd_g562 rfl rfl
theorem dX12_begins_73 : decode cX12_begins 73 = .ok (.iconst 0, 1) := qd_o3 40 33 qd_g562 rfl
theorem dX12_begins_74 : decode cX12_begins 74 = .ok (.bastore, 1) := qd_o84 40 34 qd_g562 rfl
theorem dX12_begins_75 : decode cX12_begins 75 = .ok (.aload_n 0, 1) := qd_o42 40 35 qd_g562 rfl
theorem dX12_begins_76 : decode cX12_begins 76 = .ok (.getfield 50, 3) := qd_o180 40 36 qd_g562 rfl rfl
theorem qd_g563 : qd_bs cX12_begins 79 [16, 17, 42, 180, 0, 50, 16, 18, 46, 158, 0, 8, 16, 7, 167, 0, 13, 42, 42, 180, 0, 50, 7, 46, 182, 1, 87, 79, 177] = true := by decide +kernel
theorem dX12_begins_79 : decode cX12_begins 79 = .ok (.bipush 17, 2) := qd_o16 79 0 qd_g563 rfl rfl
theorem dX12_begins_81 : decode cX12_begins 81 = .ok (.aload_n 0, 1) := qd_o42 79 2 qd_g563 rfl
theorem dX12_begins_82 : decode cX12_begins 82 = .ok (.getfield 50, 3) := qd_o180 79 3 qd_g563 rfl rfl
theorem dX12_begins_85 : decode cX12_begins 85 = .ok (.bipush 18, 2) := qd_o16 79 6 qd_g563 rfl rfl
theorem dX12_begins_87 : decode cX12_begins 87 = .ok (.iaload, 1) := qd_o46 79 8 qd_g563 rfl
theorem dX12_begins_88 : decode cX12_begins 88 = .ok (.ifCond .le 8, 3) := qd_o158 79 9 qd_g563 rfl rfl
theorem dX12_begins_91 : decode cX12_begins 91 = .ok (.bipush 7, 2) := qd_o16 79 12 qd_g563 rfl rfl
theorem dX12_begins_93 : decode cX12_begins 93 = .ok (.goto 13, 3) := qd_o167 79 14 qd_g563 rfl rfl
theorem dX12_begins_96 : decode cX12_begins 96 = .ok (.aload_n 0, 1) := qd_o42 79 17 qd_g563 rfl
theorem dX12_begins_97 : decode cX12_begins 97 = .ok (.aload_n 0, 1) := qd_o42 79 18 qd_g563 rfl
theorem dX12_begins_98 : decode cX12_begins 98 = .ok (.getfield 50, 3) := qd_o180 79 19 qd_g563 rfl rfl
theorem dX12_begins_101 : decode cX12_begins 101 = .ok (.iconst 4, 1) := qd_o7 79 22 qd_g563 rfl
theorem dX12_begins_102 : decode cX12_begins 102 = .ok (.iaload, 1) := qd_o46 79 23 qd_g563 rfl
theorem dX12_begins_103 : decode cX12_begins 103 = .ok (.invokevirtual 343, 3) := qd_o182 79 24 qd_g563 rfl rfl
theorem dX12_begins_106 : decode cX12_begins 106 = .ok (.iastore, 1) := qd_o79 79 27 qd_g563 rfl
theorem dX12_begins_107 : decode cX12_begins 107 = .ok (.return_, 1) := qd_o177 79 28 qd_g563 rfl
theorem qd_g564 : qd_bs cX12_goesOn 0 [42, 180, 0, 53, 16, 7, 51, 153, 0, 4, 177, 42, 180, 0, 50, 16, 17, 46, 154, 0, 7, 42, 182, 1, 90, 42, 180, 0, 50, 16, 17, 92, 46, 4, 100, 79, 42, 180, 0, 50] = true := by decide +kernel
theorem dX12_goesOn_0 : decode cX12_goesOn 0 = .ok (.aload_n 0, 1) := qd_o42 0 0 qd_g564 rfl
theorem dX12_goesOn_1 : decode cX12_goesOn 1 = .ok (.getfield 53, 3) := qd_o180 0 1 qd_g564 rfl rfl
theorem dX12_goesOn_4 : decode cX12_goesOn 4 = .ok (.bipush 7, 2) := qd_o16 0 4 qd_g564 rfl rfl
theorem dX12_goesOn_6 : decode cX12_goesOn 6 = .ok (.baload, 1) := qd_o51 0 6 qd_g564 rfl
theorem dX12_goesOn_7 : decode cX12_goesOn 7 = .ok (.ifCond .eq 4, 3) := qd_o153 0 7 qd_g564 rfl rfl
theorem dX12_goesOn_10 : decode cX12_goesOn 10 = .ok (.return_, 1) := qd_o177 0 10 qd_g564 rfl
theorem dX12_goesOn_11 : decode cX12_goesOn 11 = .ok (.aload_n 0, 1) := qd_o42 0 11 qd_g564 rfl
theorem dX12_goesOn_12 : decode cX12_goesOn 12 = .ok (.getfield 50, 3) := qd_o180 0 12 qd_g564 rfl rfl
theorem dX12_goesOn_15 : decode cX12_goesOn 15 = .ok (.bipush 17, 2) := qd_o16 0 15 qd_g564 rfl rfl
theorem dX12_goesOn_17 : decode cX12_goesOn 17 = .ok (.iaload, 1) := qd_o46 0 17 qd_g564 rfl
theorem dX12_goesOn_18 : decode cX12_goesOn 18 = .ok (.ifCond .ne 7, 3) := qd_o154 0 18 qd_g564 rfl rfl
theorem dX12_goesOn_21 : decode cX12_goesOn 21 = .ok (.aload_n 0, 1) := qd_o42 0 21 qd_g564 rfl
theorem dX12_goesOn_22 : decode cX12_goesOn 22 = .ok (.invokevirtual 346, 3) := qd_o182 0 22 qd_g564 rfl rfl
theorem dX12_goesOn_25 : decode cX12_goesOn 25 = .ok (.aload_n 0, 1) := qd_o42 0 25 qd_g564 rfl
theorem dX12_goesOn_26 : decode cX12_goesOn 26 = .ok (.getfield 50, 3) := qd_o180 0 26 qd_g564 rfl rfl
theorem dX12_goesOn_29 : decode cX12_goesOn 29 = .ok (.bipush 17, 2) := qd_o16 0 29 qd_g564 rfl rfl
theorem dX12_goesOn_31 : decode cX12_goesOn 31 = .ok (.dup2, 1) := qd_o92 0 31 qd_g564 rfl
theorem dX12_goesOn_32 : decode cX12_goesOn 32 = .ok (.iaload, 1) := qd_o46 0 32 qd_g564 rfl
theorem dX12_goesOn_33 : decode cX12_goesOn 33 = .ok (.iconst 1, 1) := qd_o4 0 33 qd_g564 rfl
theorem dX12_goesOn_34 : decode cX12_goesOn 34 = .ok (.isub, 1) := qd_o100 0 34 qd_g564 rfl
theorem dX12_goesOn_35 : decode cX12_goesOn 35 = .ok (.iastore, 1) := qd_o79 0 35 qd_g564 rfl
theorem dX12_goesOn_36 : decode cX12_goesOn 36 = .ok (.aload_n 0, 1) := qd_o42 0 36 qd_g564 rfl
theorem dX12_goesOn_37 : decode cX12_goesOn 37 = .ok (.getfield 50, 3) := qd_o180 0 37 qd_g564 rfl rfl
theorem qd_g565 : qd_bs cX12_goesOn 40 [16, 17, 46, 158, 0, 4, 177, 42, 180, 0, 50, 16, 19, 92, 46, 4, 96, 79, 42, 180, 0, 50, 16, 18, 46, 158, 0, 24, 42, 42, 180, 0, 50, 16, 18, 46, 42, 180, 0, 50] = true := by decide +kernel
theorem dX12_goesOn_40 : decode cX12_goesOn 40 = .ok (.bipush 17, 2) := qd_o16 40 0 qd_g565 rfl rfl
theorem dX12_goesOn_42 : decode cX12_goesOn 42 = .ok (.iaload, 1) := qd_o46 40 2 qd_g565 rfl
theorem dX12_goesOn_43 : decode cX12_goesOn 43 = .ok (.ifCond .le 4, 3) := qd_o158 40 3 qd_g565 rfl rfl
theorem dX12_goesOn_46 : decode cX12_goesOn 46 = .ok (.return_, 1) := qd_o177 40 6 qd_g565 rfl
theorem dX12_goesOn_47 : decode cX12_goesOn 47 = .ok (.aload_n 0, 1) := qd_o42 40 7 qd_g565 rfl
theorem dX12_goesOn_48 : decode cX12_goesOn 48 = .ok (.getfield 50, 3) := qd_o180 40 8 qd_g565 rfl rfl
theorem dX12_goesOn_51 : decode cX12_goesOn 51 = .ok (.bipush 19, 2) := qd_o16 40 11 qd_g565 rfl rfl
theorem dX12_goesOn_53 : decode cX12_goesOn 53 = .ok (.dup2, 1) := qd_o92 40 13 qd_g565 rfl
theorem dX12_goesOn_54 : decode cX12_goesOn 54 = .ok (.iaload, 1) := qd_o46 40 14 qd_g565 rfl
theorem dX12_goesOn_55 : decode cX12_goesOn 55 = .ok (.iconst 1, 1) := qd_o4 40 15 qd_g565 rfl
theorem dX12_goesOn_56 : decode cX12_goesOn 56 = .ok (.iadd, 1) := qd_o96 40 16 qd_g565 rfl
theorem dX12_goesOn_57 : decode cX12_goesOn 57 = .ok (.iastore, 1) := qd_o79 40 17 qd_g565 rfl
theorem dX12_goesOn_58 : decode cX12_goesOn 58 = .ok (.aload_n 0, 1) := qd_o42 40 18 qd_g565 rfl
theorem dX12_goesOn_59 : decode cX12_goesOn 59 = .ok (.getfield 50, 3) := qd_o180 40 19 qd_g565 rfl rfl
theorem dX12_goesOn_62 : decode cX12_goesOn 62 = .ok (.bipush 18, 2) := qd_o16 40 22 qd_g565 rfl rfl
theorem dX12_goesOn_64 : decode cX12_goesOn 64 = .ok (.iaload, 1) := qd_o46 40 24 qd_g565 rfl
theorem dX12_goesOn_65 : decode cX12_goesOn 65 = .ok (.ifCond .le 24, 3) := qd_o158 40 25 qd_g565 rfl rfl
theorem dX12_goesOn_68 : decode cX12_goesOn 68 = .ok (.aload_n 0, 1) := qd_o42 40 28 qd_g565 rfl
theorem dX12_goesOn_69 : decode cX12_goesOn 69 = .ok (.aload_n 0, 1) := qd_o42 40 29 qd_g565 rfl
theorem dX12_goesOn_70 : decode cX12_goesOn 70 = .ok (.getfield 50, 3) := qd_o180 40 30 qd_g565 rfl rfl
theorem dX12_goesOn_73 : decode cX12_goesOn 73 = .ok (.bipush 18, 2) := qd_o16 40 33 qd_g565 rfl rfl
theorem dX12_goesOn_75 : decode cX12_goesOn 75 = .ok (.iaload, 1) := qd_o46 40 35 qd_g565 rfl
theorem dX12_goesOn_76 : decode cX12_goesOn 76 = .ok (.aload_n 0, 1) := qd_o42 40 36 qd_g565 rfl
theorem dX12_goesOn_77 : decode cX12_goesOn 77 = .ok (.getfield 50, 3) := qd_o180 40 37 qd_g565 rfl rfl
theorem qd_g566 : qd_bs cX12_goesOn 80 [7, 46, 3, 182, 1, 75, 167, 0, 13, 42, 42, 180, 0, 50, 7, 46, 182, 1, 93, 177] = true := by decide +kernel
theorem dX12_goesOn_80 : decode cX12_goesOn 80 = .ok (.iconst 4, 1) := qd_o7 80 0 qd_g566 rfl
theorem dX12_goesOn_81 : decode cX12_goesOn 81 = .ok (.iaload, 1) := qd_o46 80 1 qd_g566 rfl
theorem dX12_goesOn_82 : decode cX12_goesOn 82 = .ok (.iconst 0, 1) := qd_o3 80 2 qd_g566 rfl
theorem dX12_goesOn_83 : decode cX12_goesOn 83 = .ok (.invokevirtual 331, 3) := qd_o182 80 3 qd_g566 rfl rfl
theorem dX12_goesOn_86 : decode cX12_goesOn 86 = .ok (.goto 13, 3) := qd_o167 80 6 qd_g566 rfl rfl
theorem dX12_goesOn_89 : decode cX12_goesOn 89 = .ok (.aload_n 0, 1) := qd_o42 80 9 qd_g566 rfl
theorem dX12_goesOn_90 : decode cX12_goesOn 90 = .ok (.aload_n 0, 1) := qd_o42 80 10 qd_g566 rfl
theorem dX12_goesOn_91 : decode cX12_goesOn 91 = .ok (.getfield 50, 3) := qd_o180 80 11 qd_g566 rfl rfl
theorem dX12_goesOn_94 : decode cX12_goesOn 94 = .ok (.iconst 4, 1) := qd_o7 80 14 qd_g566 rfl
theorem dX12_goesOn_95 : decode cX12_goesOn 95 = .ok (.iaload, 1) := qd_o46 80 15 qd_g566 rfl
theorem dX12_goesOn_96 : decode cX12_goesOn 96 = .ok (.invokevirtual 349, 3) := qd_o182 80 16 qd_g566 rfl rfl
theorem dX12_goesOn_99 : decode cX12_goesOn 99 = .ok (.return_, 1) := qd_o177 80 19 qd_g566 rfl
theorem qd_g567 : qd_bs cX12_assemble 0 [42, 27, 184, 0, 157, 153, 0, 7, 4, 167, 0, 44, 28, 184, 0, 161, 154, 0, 32, 29, 3, 28, 17, 0, 255, 126, 184, 1, 69, 5, 160, 0, 9, 17, 0, 255, 167, 0, 6] = true := by decide +kernel
theorem dX12_assemble_0 : decode cX12_assemble 0 = .ok (.aload_n 0, 1) := qd_o42 0 0 qd_g567 rfl
theorem dX12_assemble_1 : decode cX12_assemble 1 = .ok (.iload_n 1, 1) := qd_o27 0 1 qd_g567 rfl
theorem dX12_assemble_2 : decode cX12_assemble 2 = .ok (.invokestatic 157, 3) := qd_o184 0 2 qd_g567 rfl rfl
theorem dX12_assemble_5 : decode cX12_assemble 5 = .ok (.ifCond .eq 7, 3) := qd_o153 0 5 qd_g567 rfl rfl
theorem dX12_assemble_8 : decode cX12_assemble 8 = .ok (.iconst 1, 1) := qd_o4 0 8 qd_g567 rfl
theorem dX12_assemble_9 : decode cX12_assemble 9 = .ok (.goto 44, 3) := qd_o167 0 9 qd_g567 rfl rfl
theorem dX12_assemble_12 : decode cX12_assemble 12 = .ok (.iload_n 2, 1) := qd_o28 0 12 qd_g567 rfl
theorem dX12_assemble_13 : decode cX12_assemble 13 = .ok (.invokestatic 161, 3) := qd_o184 0 13 qd_g567 rfl rfl
theorem dX12_assemble_16 : decode cX12_assemble 16 = .ok (.ifCond .ne 32, 3) := qd_o154 0 16 qd_g567 rfl rfl
theorem dX12_assemble_19 : decode cX12_assemble 19 = .ok (.iload_n 3, 1) := qd_o29 0 19 qd_g567 rfl
theorem dX12_assemble_20 : decode cX12_assemble 20 = .ok (.iconst 0, 1) := qd_o3 0 20 qd_g567 rfl
theorem dX12_assemble_21 : decode cX12_assemble 21 = .ok (.iload_n 2, 1) := qd_o28 0 21 qd_g567 rfl
theorem dX12_assemble_22 : decode cX12_assemble 22 = .ok (.sipush 255, 3) := qd_o17 0 22 qd_g567 rfl rfl
theorem dX12_assemble_25 : decode cX12_assemble 25 = .ok (.iand, 1) := qd_o126 0 25 qd_g567 rfl
theorem dX12_assemble_26 : decode cX12_assemble 26 = .ok (.invokestatic 325, 3) := qd_o184 0 26 qd_g567 rfl rfl
theorem dX12_assemble_29 : decode cX12_assemble 29 = .ok (.iconst 2, 1) := qd_o5 0 29 qd_g567 rfl
theorem dX12_assemble_30 : decode cX12_assemble 30 = .ok (.if_icmp .ne 9, 3) := qd_o160 0 30 qd_g567 rfl rfl
theorem dX12_assemble_33 : decode cX12_assemble 33 = .ok (.sipush 255, 3) := qd_o17 0 33 qd_g567 rfl rfl
theorem dX12_assemble_36 : decode cX12_assemble 36 = .ok (.goto 6, 3) := qd_o167 0 36 qd_g567 rfl rfl
theorem qd_g568 : qd_bs cX12_assemble 39 [17, 15, 255, 184, 0, 119, 154, 0, 7, 5, 167, 0, 4, 3, 182, 0, 164, 153, 0, 5, 3, 172, 42, 27, 28, 182, 0, 170, 28, 184, 1, 69, 4, 164, 0, 18, 42, 27, 4, 96] = true := by decide +kernel
theorem dX12_assemble_39 : decode cX12_assemble 39 = .ok (.sipush 4095, 3) := qd_o17 39 0 qd_g568 rfl rfl
theorem dX12_assemble_42 : decode cX12_assemble 42 = .ok (.invokestatic 119, 3) := qd_o184 39 3 qd_g568 rfl rfl
theorem dX12_assemble_45 : decode cX12_assemble 45 = .ok (.ifCond .ne 7, 3) := qd_o154 39 6 qd_g568 rfl rfl
theorem dX12_assemble_48 : decode cX12_assemble 48 = .ok (.iconst 2, 1) := qd_o5 39 9 qd_g568 rfl
theorem dX12_assemble_49 : decode cX12_assemble 49 = .ok (.goto 4, 3) := qd_o167 39 10 qd_g568 rfl rfl
theorem dX12_assemble_52 : decode cX12_assemble 52 = .ok (.iconst 0, 1) := qd_o3 39 13 qd_g568 rfl
theorem dX12_assemble_53 : decode cX12_assemble 53 = .ok (.invokevirtual 164, 3) := qd_o182 39 14 qd_g568 rfl rfl
theorem dX12_assemble_56 : decode cX12_assemble 56 = .ok (.ifCond .eq 5, 3) := qd_o153 39 17 qd_g568 rfl rfl
theorem dX12_assemble_59 : decode cX12_assemble 59 = .ok (.iconst 0, 1) := qd_o3 39 20 qd_g568 rfl
theorem dX12_assemble_60 : decode cX12_assemble 60 = .ok (.ireturn, 1) := qd_o172 39 21 qd_g568 rfl
theorem dX12_assemble_61 : decode cX12_assemble 61 = .ok (.aload_n 0, 1) := qd_o42 39 22 qd_g568 rfl
theorem dX12_assemble_62 : decode cX12_assemble 62 = .ok (.iload_n 1, 1) := qd_o27 39 23 qd_g568 rfl
theorem dX12_assemble_63 : decode cX12_assemble 63 = .ok (.iload_n 2, 1) := qd_o28 39 24 qd_g568 rfl
theorem dX12_assemble_64 : decode cX12_assemble 64 = .ok (.invokevirtual 170, 3) := qd_o182 39 25 qd_g568 rfl rfl
theorem dX12_assemble_67 : decode cX12_assemble 67 = .ok (.iload_n 2, 1) := qd_o28 39 28 qd_g568 rfl
theorem dX12_assemble_68 : decode cX12_assemble 68 = .ok (.invokestatic 325, 3) := qd_o184 39 29 qd_g568 rfl rfl
theorem dX12_assemble_71 : decode cX12_assemble 71 = .ok (.iconst 1, 1) := qd_o4 39 32 qd_g568 rfl
theorem dX12_assemble_72 : decode cX12_assemble 72 = .ok (.if_icmp .le 18, 3) := qd_o164 39 33 qd_g568 rfl rfl
theorem dX12_assemble_75 : decode cX12_assemble 75 = .ok (.aload_n 0, 1) := qd_o42 39 36 qd_g568 rfl
theorem dX12_assemble_76 : decode cX12_assemble 76 = .ok (.iload_n 1, 1) := qd_o27 39 37 qd_g568 rfl
theorem dX12_assemble_77 : decode cX12_assemble 77 = .ok (.iconst 1, 1) := qd_o4 39 38 qd_g568 rfl
theorem dX12_assemble_78 : decode cX12_assemble 78 = .ok (.iadd, 1) := qd_o96 39 39 qd_g568 rfl
theorem qd_g569 : qd_bs cX12_assemble 79 [184, 0, 176, 29, 17, 1, 0, 112, 182, 0, 170, 28, 184, 1, 69, 5, 164, 0, 18, 42, 27, 5, 96, 184, 0, 176, 29, 17, 1, 0, 108, 182, 0, 170, 42, 182, 0, 173, 27, 28] = true := by decide +kernel
theorem dX12_assemble_79 : decode cX12_assemble 79 = .ok (.invokestatic 176, 3) := qd_o184 79 0 qd_g569 rfl rfl
theorem dX12_assemble_82 : decode cX12_assemble 82 = .ok (.iload_n 3, 1) := qd_o29 79 3 qd_g569 rfl
theorem dX12_assemble_83 : decode cX12_assemble 83 = .ok (.sipush 256, 3) := qd_o17 79 4 qd_g569 rfl rfl
theorem dX12_assemble_86 : decode cX12_assemble 86 = .ok (.irem, 1) := qd_o112 79 7 qd_g569 rfl
theorem dX12_assemble_87 : decode cX12_assemble 87 = .ok (.invokevirtual 170, 3) := qd_o182 79 8 qd_g569 rfl rfl
theorem dX12_assemble_90 : decode cX12_assemble 90 = .ok (.iload_n 2, 1) := qd_o28 79 11 qd_g569 rfl
theorem dX12_assemble_91 : decode cX12_assemble 91 = .ok (.invokestatic 325, 3) := qd_o184 79 12 qd_g569 rfl rfl
theorem dX12_assemble_94 : decode cX12_assemble 94 = .ok (.iconst 2, 1) := qd_o5 79 15 qd_g569 rfl
theorem dX12_assemble_95 : decode cX12_assemble 95 = .ok (.if_icmp .le 18, 3) := qd_o164 79 16 qd_g569 rfl rfl
theorem dX12_assemble_98 : decode cX12_assemble 98 = .ok (.aload_n 0, 1) := qd_o42 79 19 qd_g569 rfl
theorem dX12_assemble_99 : decode cX12_assemble 99 = .ok (.iload_n 1, 1) := qd_o27 79 20 qd_g569 rfl
theorem dX12_assemble_100 : decode cX12_assemble 100 = .ok (.iconst 2, 1) := qd_o5 79 21 qd_g569 rfl
theorem dX12_assemble_101 : decode cX12_assemble 101 = .ok (.iadd, 1) := qd_o96 79 22 qd_g569 rfl
theorem dX12_assemble_102 : decode cX12_assemble 102 = .ok (.invokestatic 176, 3) := qd_o184 79 23 qd_g569 rfl rfl
theorem dX12_assemble_105 : decode cX12_assemble 105 = .ok (.iload_n 3, 1) := qd_o29 79 26 qd_g569 rfl
theorem dX12_assemble_106 : decode cX12_assemble 106 = .ok (.sipush 256, 3) := qd_o17 79 27 qd_g569 rfl rfl
theorem dX12_assemble_109 : decode cX12_assemble 109 = .ok (.idiv, 1) := qd_o108 79 30 qd_g569 rfl
theorem dX12_assemble_110 : decode cX12_assemble 110 = .ok (.invokevirtual 170, 3) := qd_o182 79 31 qd_g569 rfl rfl
theorem dX12_assemble_113 : decode cX12_assemble 113 = .ok (.aload_n 0, 1) := qd_o42 79 34 qd_g569 rfl
theorem dX12_assemble_114 : decode cX12_assemble 114 = .ok (.invokevirtual 173, 3) := qd_o182 79 35 qd_g569 rfl rfl
theorem dX12_assemble_117 : decode cX12_assemble 117 = .ok (.iload_n 1, 1) := qd_o27 79 38 qd_g569 rfl
theorem dX12_assemble_118 : decode cX12_assemble 118 = .ok (.iload_n 2, 1) := qd_o28 79 39 qd_g569 rfl
theorem qd_g570 : qd_bs cX12_assemble 119 [184, 1, 69, 96, 184, 0, 176, 172] = true := by decide +kernel
theorem dX12_assemble_119 : decode cX12_assemble 119 = .ok (.invokestatic 325, 3) := qd_o184 119 0 qd_g570 rfl rfl
theorem dX12_assemble_122 : decode cX12_assemble 122 = .ok (.iadd, 1) := qd_o96 119 3 qd_g570 rfl
theorem dX12_assemble_123 : decode cX12_assemble 123 = .ok (.invokestatic 176, 3) := qd_o184 119 4 qd_g570 rfl rfl
theorem dX12_assemble_126 : decode cX12_assemble 126 = .ok (.ireturn, 1) := qd_o172 119 7 qd_g570 rfl
theorem qd_g571 : qd_bs cX12_puts 0 [42, 180, 0, 109, 42, 180, 1, 96, 27, 85, 42, 89, 180, 1, 96, 4, 96, 181, 1, 96, 177] = true := by decide +kernel
theorem dX12_puts_0 : decode cX12_puts 0 = .ok (.aload_n 0, 1) := qd_o42 0 0 qd_g571 rfl
theorem dX12_puts_1 : decode cX12_puts 1 = .ok (.getfield 109, 3) := qd_o180 0 1 qd_g571 rfl rfl
theorem dX12_puts_4 : decode cX12_puts 4 = .ok (.aload_n 0, 1) := qd_o42 0 4 qd_g571 rfl
theorem dX12_puts_5 : decode cX12_puts 5 = .ok (.getfield 352, 3) := qd_o180 0 5 qd_g571 rfl rfl
theorem dX12_puts_8 : decode cX12_puts 8 = .ok (.iload_n 1, 1) := qd_o27 0 8 qd_g571 rfl
theorem dX12_puts_9 : decode cX12_puts 9 = .ok (.castore, 1) := qd_o85 0 9 qd_g571 rfl
theorem dX12_puts_10 : decode cX12_puts 10 = .ok (.aload_n 0, 1) := qd_o42 0 10 qd_g571 rfl
theorem dX12_puts_11 : decode cX12_puts 11 = .ok (.dup, 1) := qd_o89 0 11 qd_g571 rfl
theorem dX12_puts_12 : decode cX12_puts 12 = .ok (.getfield 352, 3) := qd_o180 0 12 qd_g571 rfl rfl
theorem dX12_puts_15 : decode cX12_puts 15 = .ok (.iconst 1, 1) := qd_o4 0 15 qd_g571 rfl
theorem dX12_puts_16 : decode cX12_puts 16 = .ok (.iadd, 1) := qd_o96 0 16 qd_g571 rfl
theorem dX12_puts_17 : decode cX12_puts 17 = .ok (.putfield 352, 3) := qd_o181 0 17 qd_g571 rfl rfl
theorem dX12_puts_20 : decode cX12_puts 20 = .ok (.return_, 1) := qd_o177 0 20 qd_g571 rfl
theorem qd_g572 : qd_bs cX12_putsNumber 0 [27, 16, 10, 161, 0, 11, 42, 27, 16, 10, 108, 182, 1, 99, 42, 16, 48, 27, 16, 10, 112, 96, 146, 182, 1, 102, 177] = true := by decide +kernel
theorem dX12_putsNumber_0 : decode cX12_putsNumber 0 = .ok (.iload_n 1, 1) := qd_o27 0 0 qd_g572 rfl
theorem dX12_putsNumber_1 : decode cX12_putsNumber 1 = .ok (.bipush 10, 2) := qd_o16 0 1 qd_g572 rfl rfl
theorem dX12_putsNumber_3 : decode cX12_putsNumber 3 = .ok (.if_icmp .lt 11, 3) := qd_o161 0 3 qd_g572 rfl rfl
theorem dX12_putsNumber_6 : decode cX12_putsNumber 6 = .ok (.aload_n 0, 1) := qd_o42 0 6 qd_g572 rfl
theorem dX12_putsNumber_7 : decode cX12_putsNumber 7 = .ok (.iload_n 1, 1) := qd_o27 0 7 qd_g572 rfl
theorem dX12_putsNumber_8 : decode cX12_putsNumber 8 = .ok (.bipush 10, 2) := qd_o16 0 8 qd_g572 rfl rfl
theorem dX12_putsNumber_10 : decode cX12_putsNumber 10 = .ok (.idiv, 1) := qd_o108 0 10 qd_g572 rfl
theorem dX12_putsNumber_11 : decode cX12_putsNumber 11 = .ok (.invokevirtual 355, 3) := qd_o182 0 11 qd_g572 rfl rfl
theorem dX12_putsNumber_14 : decode cX12_putsNumber 14 = .ok (.aload_n 0, 1) := qd_o42 0 14 qd_g572 rfl
theorem dX12_putsNumber_15 : decode cX12_putsNumber 15 = .ok (.bipush 48, 2) := qd_o16 0 15 qd_g572 rfl rfl
theorem dX12_putsNumber_17 : decode cX12_putsNumber 17 = .ok (.iload_n 1, 1) := qd_o27 0 17 qd_g572 rfl
theorem dX12_putsNumber_18 : decode cX12_putsNumber 18 = .ok (.bipush 10, 2) := qd_o16 0 18 qd_g572 rfl rfl
theorem dX12_putsNumber_20 : decode cX12_putsNumber 20 = .ok (.irem, 1) := qd_o112 0 20 qd_g572 rfl
theorem dX12_putsNumber_21 : decode cX12_putsNumber 21 = .ok (.iadd, 1) := qd_o96 0 21 qd_g572 rfl
theorem dX12_putsNumber_22 : decode cX12_putsNumber 22 = .ok (.i2c, 1) := qd_o146 0 22 qd_g572 rfl
theorem dX12_putsNumber_23 : decode cX12_putsNumber 23 = .ok (.invokevirtual 358, 3) := qd_o182 0 23 qd_g572 rfl rfl
theorem dX12_putsNumber_26 : decode cX12_putsNumber 26 = .ok (.return_, 1) := qd_o177 0 26 qd_g572 rfl
theorem qd_g573 : qd_bs cX12_putsName 0 [27, 184, 0, 247, 61, 3, 62, 29, 6, 162, 0, 42, 42, 28, 155, 0, 15, 178, 1, 106, 6, 28, 104, 29, 96, 52, 167, 0, 16, 178, 1, 109, 6, 27, 17, 0, 128, 100, 104, 29] = true := by decide +kernel
theorem dX12_putsName_0 : decode cX12_putsName 0 = .ok (.iload_n 1, 1) := qd_o27 0 0 qd_g573 rfl
theorem dX12_putsName_1 : decode cX12_putsName 1 = .ok (.invokestatic 247, 3) := qd_o184 0 1 qd_g573 rfl rfl
theorem dX12_putsName_4 : decode cX12_putsName 4 = .ok (.istore_n 2, 1) := qd_o61 0 4 qd_g573 rfl
theorem dX12_putsName_5 : decode cX12_putsName 5 = .ok (.iconst 0, 1) := qd_o3 0 5 qd_g573 rfl
theorem dX12_putsName_6 : decode cX12_putsName 6 = .ok (.istore_n 3, 1) := qd_o62 0 6 qd_g573 rfl
theorem dX12_putsName_7 : decode cX12_putsName 7 = .ok (.iload_n 3, 1) := qd_o29 0 7 qd_g573 rfl
theorem dX12_putsName_8 : decode cX12_putsName 8 = .ok (.iconst 3, 1) := qd_o6 0 8 qd_g573 rfl
theorem dX12_putsName_9 : decode cX12_putsName 9 = .ok (.if_icmp .ge 42, 3) := qd_o162 0 9 qd_g573 rfl rfl
theorem dX12_putsName_12 : decode cX12_putsName 12 = .ok (.aload_n 0, 1) := qd_o42 0 12 qd_g573 rfl
theorem dX12_putsName_13 : decode cX12_putsName 13 = .ok (.iload_n 2, 1) := qd_o28 0 13 qd_g573 rfl
theorem dX12_putsName_14 : decode cX12_putsName 14 = .ok (.ifCond .lt 15, 3) := qd_o155 0 14 qd_g573 rfl rfl
theorem dX12_putsName_17 : decode cX12_putsName 17 = .ok (.getstatic 362, 3) := qd_o178 0 17 qd_g573 rfl rfl
theorem dX12_putsName_20 : decode cX12_putsName 20 = .ok (.iconst 3, 1) := qd_o6 0 20 qd_g573 rfl
theorem dX12_putsName_21 : decode cX12_putsName 21 = .ok (.iload_n 2, 1) := qd_o28 0 21 qd_g573 rfl
theorem dX12_putsName_22 : decode cX12_putsName 22 = .ok (.imul, 1) := qd_o104 0 22 qd_g573 rfl
theorem dX12_putsName_23 : decode cX12_putsName 23 = .ok (.iload_n 3, 1) := qd_o29 0 23 qd_g573 rfl
theorem dX12_putsName_24 : decode cX12_putsName 24 = .ok (.iadd, 1) := qd_o96 0 24 qd_g573 rfl
theorem dX12_putsName_25 : decode cX12_putsName 25 = .ok (.caload, 1) := qd_o52 0 25 qd_g573 rfl
theorem dX12_putsName_26 : decode cX12_putsName 26 = .ok (.goto 16, 3) := qd_o167 0 26 qd_g573 rfl rfl
theorem dX12_putsName_29 : decode cX12_putsName 29 = .ok (.getstatic 365, 3) := qd_o178 0 29 qd_g573 rfl rfl
theorem dX12_putsName_32 : decode cX12_putsName 32 = .ok (.iconst 3, 1) := qd_o6 0 32 qd_g573 rfl
theorem dX12_putsName_33 : decode cX12_putsName 33 = .ok (.iload_n 1, 1) := qd_o27 0 33 qd_g573 rfl
theorem dX12_putsName_34 : decode cX12_putsName 34 = .ok (.sipush 128, 3) := qd_o17 0 34 qd_g573 rfl rfl
theorem dX12_putsName_37 : decode cX12_putsName 37 = .ok (.isub, 1) := qd_o100 0 37 qd_g573 rfl
theorem dX12_putsName_38 : decode cX12_putsName 38 = .ok (.imul, 1) := qd_o104 0 38 qd_g573 rfl
theorem dX12_putsName_39 : decode cX12_putsName 39 = .ok (.iload_n 3, 1) := qd_o29 0 39 qd_g573 rfl
theorem qd_g574 : qd_bs cX12_putsName 40 [96, 52, 182, 1, 102, 132, 3, 1, 167, 255, 215, 177] = true := by decide +kernel
theorem dX12_putsName_40 : decode cX12_putsName 40 = .ok (.iadd, 1) := qd_o96 40 0 qd_g574 rfl
theorem dX12_putsName_41 : decode cX12_putsName 41 = .ok (.caload, 1) := qd_o52 40 1 qd_g574 rfl
theorem dX12_putsName_42 : decode cX12_putsName 42 = .ok (.invokevirtual 358, 3) := qd_o182 40 2 qd_g574 rfl rfl
theorem dX12_putsName_45 : decode cX12_putsName 45 = .ok (.iinc 3 1, 3) := qd_o132 40 5 qd_g574 rfl rfl
theorem dX12_putsName_48 : decode cX12_putsName 48 = .ok (.goto (-41), 3) := qd_o167 40 8 qd_g574 rfl rfl
theorem dX12_putsName_51 : decode cX12_putsName 51 = .ok (.return_, 1) := qd_o177 40 11 qd_g574 rfl
theorem qd_g575 : qd_bs cX12_putsMode 0 [42, 16, 32, 182, 1, 102, 27, 154, 0, 9, 42, 16, 35, 182, 1, 102, 27, 8, 164, 0, 9, 42, 16, 40, 182, 1, 102, 42, 27, 6, 8, 184, 0, 119, 153, 0, 13, 42, 28, 4] = true := by decide +kernel
theorem dX12_putsMode_0 : decode cX12_putsMode 0 = .ok (.aload_n 0, 1) := qd_o42 0 0 qd_g575 rfl
theorem dX12_putsMode_1 : decode cX12_putsMode 1 = .ok (.bipush 32, 2) := qd_o16 0 1 qd_g575 rfl rfl
theorem dX12_putsMode_3 : decode cX12_putsMode 3 = .ok (.invokevirtual 358, 3) := qd_o182 0 3 qd_g575 rfl rfl
theorem dX12_putsMode_6 : decode cX12_putsMode 6 = .ok (.iload_n 1, 1) := qd_o27 0 6 qd_g575 rfl
theorem dX12_putsMode_7 : decode cX12_putsMode 7 = .ok (.ifCond .ne 9, 3) := qd_o154 0 7 qd_g575 rfl rfl
theorem dX12_putsMode_10 : decode cX12_putsMode 10 = .ok (.aload_n 0, 1) := qd_o42 0 10 qd_g575 rfl
theorem dX12_putsMode_11 : decode cX12_putsMode 11 = .ok (.bipush 35, 2) := qd_o16 0 11 qd_g575 rfl rfl
theorem dX12_putsMode_13 : decode cX12_putsMode 13 = .ok (.invokevirtual 358, 3) := qd_o182 0 13 qd_g575 rfl rfl
theorem dX12_putsMode_16 : decode cX12_putsMode 16 = .ok (.iload_n 1, 1) := qd_o27 0 16 qd_g575 rfl
theorem dX12_putsMode_17 : decode cX12_putsMode 17 = .ok (.iconst 5, 1) := qd_o8 0 17 qd_g575 rfl
theorem dX12_putsMode_18 : decode cX12_putsMode 18 = .ok (.if_icmp .le 9, 3) := qd_o164 0 18 qd_g575 rfl rfl
theorem dX12_putsMode_21 : decode cX12_putsMode 21 = .ok (.aload_n 0, 1) := qd_o42 0 21 qd_g575 rfl
theorem dX12_putsMode_22 : decode cX12_putsMode 22 = .ok (.bipush 40, 2) := qd_o16 0 22 qd_g575 rfl rfl
theorem dX12_putsMode_24 : decode cX12_putsMode 24 = .ok (.invokevirtual 358, 3) := qd_o182 0 24 qd_g575 rfl rfl
theorem dX12_putsMode_27 : decode cX12_putsMode 27 = .ok (.aload_n 0, 1) := qd_o42 0 27 qd_g575 rfl
theorem dX12_putsMode_28 : decode cX12_putsMode 28 = .ok (.iload_n 1, 1) := qd_o27 0 28 qd_g575 rfl
theorem dX12_putsMode_29 : decode cX12_putsMode 29 = .ok (.iconst 3, 1) := qd_o6 0 29 qd_g575 rfl
theorem dX12_putsMode_30 : decode cX12_putsMode 30 = .ok (.iconst 5, 1) := qd_o8 0 30 qd_g575 rfl
theorem dX12_putsMode_31 : decode cX12_putsMode 31 = .ok (.invokestatic 119, 3) := qd_o184 0 31 qd_g575 rfl rfl
theorem dX12_putsMode_34 : decode cX12_putsMode 34 = .ok (.ifCond .eq 13, 3) := qd_o153 0 34 qd_g575 rfl rfl
theorem dX12_putsMode_37 : decode cX12_putsMode 37 = .ok (.aload_n 0, 1) := qd_o42 0 37 qd_g575 rfl
theorem dX12_putsMode_38 : decode cX12_putsMode 38 = .ok (.iload_n 2, 1) := qd_o28 0 38 qd_g575 rfl
theorem dX12_putsMode_39 : decode cX12_putsMode 39 = .ok (.iconst 1, 1) := qd_o4 0 39 qd_g575 rfl
theorem qd_g576 : qd_bs cX12_putsMode 40 [96, 182, 0, 253, 167, 0, 10, 42, 28, 4, 96, 182, 0, 250, 182, 1, 99, 27, 16, 6, 160, 0, 9, 42, 16, 41, 182, 1, 102, 27, 5, 159, 0, 8, 27, 6, 164, 0, 9, 42] = true := by decide +kernel
theorem dX12_putsMode_40 : decode cX12_putsMode 40 = .ok (.iadd, 1) := qd_o96 40 0 qd_g576 rfl
theorem dX12_putsMode_41 : decode cX12_putsMode 41 = .ok (.invokevirtual 253, 3) := qd_o182 40 1 qd_g576 rfl rfl
theorem dX12_putsMode_44 : decode cX12_putsMode 44 = .ok (.goto 10, 3) := qd_o167 40 4 qd_g576 rfl rfl
theorem dX12_putsMode_47 : decode cX12_putsMode 47 = .ok (.aload_n 0, 1) := qd_o42 40 7 qd_g576 rfl
theorem dX12_putsMode_48 : decode cX12_putsMode 48 = .ok (.iload_n 2, 1) := qd_o28 40 8 qd_g576 rfl
theorem dX12_putsMode_49 : decode cX12_putsMode 49 = .ok (.iconst 1, 1) := qd_o4 40 9 qd_g576 rfl
theorem dX12_putsMode_50 : decode cX12_putsMode 50 = .ok (.iadd, 1) := qd_o96 40 10 qd_g576 rfl
theorem dX12_putsMode_51 : decode cX12_putsMode 51 = .ok (.invokevirtual 250, 3) := qd_o182 40 11 qd_g576 rfl rfl
theorem dX12_putsMode_54 : decode cX12_putsMode 54 = .ok (.invokevirtual 355, 3) := qd_o182 40 14 qd_g576 rfl rfl
theorem dX12_putsMode_57 : decode cX12_putsMode 57 = .ok (.iload_n 1, 1) := qd_o27 40 17 qd_g576 rfl
theorem dX12_putsMode_58 : decode cX12_putsMode 58 = .ok (.bipush 6, 2) := qd_o16 40 18 qd_g576 rfl rfl
theorem dX12_putsMode_60 : decode cX12_putsMode 60 = .ok (.if_icmp .ne 9, 3) := qd_o160 40 20 qd_g576 rfl rfl
theorem dX12_putsMode_63 : decode cX12_putsMode 63 = .ok (.aload_n 0, 1) := qd_o42 40 23 qd_g576 rfl
theorem dX12_putsMode_64 : decode cX12_putsMode 64 = .ok (.bipush 41, 2) := qd_o16 40 24 qd_g576 rfl rfl
theorem dX12_putsMode_66 : decode cX12_putsMode 66 = .ok (.invokevirtual 358, 3) := qd_o182 40 26 qd_g576 rfl rfl
theorem dX12_putsMode_69 : decode cX12_putsMode 69 = .ok (.iload_n 1, 1) := qd_o27 40 29 qd_g576 rfl
theorem dX12_putsMode_70 : decode cX12_putsMode 70 = .ok (.iconst 2, 1) := qd_o5 40 30 qd_g576 rfl
theorem dX12_putsMode_71 : decode cX12_putsMode 71 = .ok (.if_icmp .eq 8, 3) := qd_o159 40 31 qd_g576 rfl rfl
theorem dX12_putsMode_74 : decode cX12_putsMode 74 = .ok (.iload_n 1, 1) := qd_o27 40 34 qd_g576 rfl
theorem dX12_putsMode_75 : decode cX12_putsMode 75 = .ok (.iconst 3, 1) := qd_o6 40 35 qd_g576 rfl
theorem dX12_putsMode_76 : decode cX12_putsMode 76 = .ok (.if_icmp .le 9, 3) := qd_o164 40 36 qd_g576 rfl rfl
theorem dX12_putsMode_79 : decode cX12_putsMode 79 = .ok (.aload_n 0, 1) := qd_o42 40 39 qd_g576 rfl
theorem qd_g577 : qd_bs cX12_putsMode 80 [16, 44, 182, 1, 102, 27, 5, 159, 0, 14, 27, 7, 159, 0, 9, 27, 16, 7, 160, 0, 9, 42, 16, 120, 182, 1, 102, 27, 8, 159, 0, 9, 27, 16, 6, 160, 0, 9, 42] = true := by decide +kernel
theorem dX12_putsMode_80 : decode cX12_putsMode 80 = .ok (.bipush 44, 2) := qd_o16 80 0 qd_g577 rfl rfl
theorem dX12_putsMode_82 : decode cX12_putsMode 82 = .ok (.invokevirtual 358, 3) := qd_o182 80 2 qd_g577 rfl rfl
theorem dX12_putsMode_85 : decode cX12_putsMode 85 = .ok (.iload_n 1, 1) := qd_o27 80 5 qd_g577 rfl
theorem dX12_putsMode_86 : decode cX12_putsMode 86 = .ok (.iconst 2, 1) := qd_o5 80 6 qd_g577 rfl
theorem dX12_putsMode_87 : decode cX12_putsMode 87 = .ok (.if_icmp .eq 14, 3) := qd_o159 80 7 qd_g577 rfl rfl
theorem dX12_putsMode_90 : decode cX12_putsMode 90 = .ok (.iload_n 1, 1) := qd_o27 80 10 qd_g577 rfl
theorem dX12_putsMode_91 : decode cX12_putsMode 91 = .ok (.iconst 4, 1) := qd_o7 80 11 qd_g577 rfl
theorem dX12_putsMode_92 : decode cX12_putsMode 92 = .ok (.if_icmp .eq 9, 3) := qd_o159 80 12 qd_g577 rfl rfl
theorem dX12_putsMode_95 : decode cX12_putsMode 95 = .ok (.iload_n 1, 1) := qd_o27 80 15 qd_g577 rfl
theorem dX12_putsMode_96 : decode cX12_putsMode 96 = .ok (.bipush 7, 2) := qd_o16 80 16 qd_g577 rfl rfl
theorem dX12_putsMode_98 : decode cX12_putsMode 98 = .ok (.if_icmp .ne 9, 3) := qd_o160 80 18 qd_g577 rfl rfl
theorem dX12_putsMode_101 : decode cX12_putsMode 101 = .ok (.aload_n 0, 1) := qd_o42 80 21 qd_g577 rfl
theorem dX12_putsMode_102 : decode cX12_putsMode 102 = .ok (.bipush 120, 2) := qd_o16 80 22 qd_g577 rfl rfl
theorem dX12_putsMode_104 : decode cX12_putsMode 104 = .ok (.invokevirtual 358, 3) := qd_o182 80 24 qd_g577 rfl rfl
theorem dX12_putsMode_107 : decode cX12_putsMode 107 = .ok (.iload_n 1, 1) := qd_o27 80 27 qd_g577 rfl
theorem dX12_putsMode_108 : decode cX12_putsMode 108 = .ok (.iconst 5, 1) := qd_o8 80 28 qd_g577 rfl
theorem dX12_putsMode_109 : decode cX12_putsMode 109 = .ok (.if_icmp .eq 9, 3) := qd_o159 80 29 qd_g577 rfl rfl
theorem dX12_putsMode_112 : decode cX12_putsMode 112 = .ok (.iload_n 1, 1) := qd_o27 80 32 qd_g577 rfl
theorem dX12_putsMode_113 : decode cX12_putsMode 113 = .ok (.bipush 6, 2) := qd_o16 80 33 qd_g577 rfl rfl
theorem dX12_putsMode_115 : decode cX12_putsMode 115 = .ok (.if_icmp .ne 9, 3) := qd_o160 80 35 qd_g577 rfl rfl
theorem dX12_putsMode_118 : decode cX12_putsMode 118 = .ok (.aload_n 0, 1) := qd_o42 80 38 qd_g577 rfl
theorem qd_g578 : qd_bs cX12_putsMode 119 [16, 121, 182, 1, 102, 27, 16, 7, 160, 0, 9, 42, 16, 41, 182, 1, 102, 177] = true := by decide +kernel
theorem dX12_putsMode_119 : decode cX12_putsMode 119 = .ok (.bipush 121, 2) := qd_o16 119 0 qd_g578 rfl rfl
theorem dX12_putsMode_121 : decode cX12_putsMode 121 = .ok (.invokevirtual 358, 3) := qd_o182 119 2 qd_g578 rfl rfl
theorem dX12_putsMode_124 : decode cX12_putsMode 124 = .ok (.iload_n 1, 1) := qd_o27 119 5 qd_g578 rfl
theorem dX12_putsMode_125 : decode cX12_putsMode 125 = .ok (.bipush 7, 2) := qd_o16 119 6 qd_g578 rfl rfl
theorem dX12_putsMode_127 : decode cX12_putsMode 127 = .ok (.if_icmp .ne 9, 3) := qd_o160 119 8 qd_g578 rfl rfl
theorem dX12_putsMode_130 : decode cX12_putsMode 130 = .ok (.aload_n 0, 1) := qd_o42 119 11 qd_g578 rfl
theorem dX12_putsMode_131 : decode cX12_putsMode 131 = .ok (.bipush 41, 2) := qd_o16 119 12 qd_g578 rfl rfl
theorem dX12_putsMode_133 : decode cX12_putsMode 133 = .ok (.invokevirtual 358, 3) := qd_o182 119 14 qd_g578 rfl rfl
theorem dX12_putsMode_136 : decode cX12_putsMode 136 = .ok (.return_, 1) := qd_o177 119 17 qd_g578 rfl
theorem qd_g579 : qd_bs cX12_putsOther 0 [27, 184, 1, 69, 4, 160, 0, 4, 177, 42, 16, 32, 182, 1, 102, 27, 17, 0, 159, 160, 0, 9, 42, 16, 40, 182, 1, 102, 42, 27, 184, 1, 69, 5, 160, 0, 11, 42, 28] = true := by decide +kernel
theorem dX12_putsOther_0 : decode cX12_putsOther 0 = .ok (.iload_n 1, 1) := qd_o27 0 0 qd_g579 rfl
theorem dX12_putsOther_1 : decode cX12_putsOther 1 = .ok (.invokestatic 325, 3) := qd_o184 0 1 qd_g579 rfl rfl
theorem dX12_putsOther_4 : decode cX12_putsOther 4 = .ok (.iconst 1, 1) := qd_o4 0 4 qd_g579 rfl
theorem dX12_putsOther_5 : decode cX12_putsOther 5 = .ok (.if_icmp .ne 4, 3) := qd_o160 0 5 qd_g579 rfl rfl
theorem dX12_putsOther_8 : decode cX12_putsOther 8 = .ok (.return_, 1) := qd_o177 0 8 qd_g579 rfl
theorem dX12_putsOther_9 : decode cX12_putsOther 9 = .ok (.aload_n 0, 1) := qd_o42 0 9 qd_g579 rfl
theorem dX12_putsOther_10 : decode cX12_putsOther 10 = .ok (.bipush 32, 2) := qd_o16 0 10 qd_g579 rfl rfl
theorem dX12_putsOther_12 : decode cX12_putsOther 12 = .ok (.invokevirtual 358, 3) := qd_o182 0 12 qd_g579 rfl rfl
theorem dX12_putsOther_15 : decode cX12_putsOther 15 = .ok (.iload_n 1, 1) := qd_o27 0 15 qd_g579 rfl
theorem dX12_putsOther_16 : decode cX12_putsOther 16 = .ok (.sipush 159, 3) := qd_o17 0 16 qd_g579 rfl rfl
theorem dX12_putsOther_19 : decode cX12_putsOther 19 = .ok (.if_icmp .ne 9, 3) := qd_o160 0 19 qd_g579 rfl rfl
theorem dX12_putsOther_22 : decode cX12_putsOther 22 = .ok (.aload_n 0, 1) := qd_o42 0 22 qd_g579 rfl
theorem dX12_putsOther_23 : decode cX12_putsOther 23 = .ok (.bipush 40, 2) := qd_o16 0 23 qd_g579 rfl rfl
theorem dX12_putsOther_25 : decode cX12_putsOther 25 = .ok (.invokevirtual 358, 3) := qd_o182 0 25 qd_g579 rfl rfl
theorem dX12_putsOther_28 : decode cX12_putsOther 28 = .ok (.aload_n 0, 1) := qd_o42 0 28 qd_g579 rfl
theorem dX12_putsOther_29 : decode cX12_putsOther 29 = .ok (.iload_n 1, 1) := qd_o27 0 29 qd_g579 rfl
theorem dX12_putsOther_30 : decode cX12_putsOther 30 = .ok (.invokestatic 325, 3) := qd_o184 0 30 qd_g579 rfl rfl
theorem dX12_putsOther_33 : decode cX12_putsOther 33 = .ok (.iconst 2, 1) := qd_o5 0 33 qd_g579 rfl
theorem dX12_putsOther_34 : decode cX12_putsOther 34 = .ok (.if_icmp .ne 11, 3) := qd_o160 0 34 qd_g579 rfl rfl
theorem dX12_putsOther_37 : decode cX12_putsOther 37 = .ok (.aload_n 0, 1) := qd_o42 0 37 qd_g579 rfl
theorem dX12_putsOther_38 : decode cX12_putsOther 38 = .ok (.iload_n 2, 1) := qd_o28 0 38 qd_g579 rfl
theorem qd_g580 : qd_bs cX12_putsOther 39 [182, 1, 16, 167, 0, 10, 42, 28, 4, 96, 182, 0, 253, 182, 1, 99, 27, 17, 0, 159, 160, 0, 9, 42, 16, 41, 182, 1, 102, 177] = true := by decide +kernel
theorem dX12_putsOther_39 : decode cX12_putsOther 39 = .ok (.invokevirtual 272, 3) := qd_o182 39 0 qd_g580 rfl rfl
theorem dX12_putsOther_42 : decode cX12_putsOther 42 = .ok (.goto 10, 3) := qd_o167 39 3 qd_g580 rfl rfl
theorem dX12_putsOther_45 : decode cX12_putsOther 45 = .ok (.aload_n 0, 1) := qd_o42 39 6 qd_g580 rfl
theorem dX12_putsOther_46 : decode cX12_putsOther 46 = .ok (.iload_n 2, 1) := qd_o28 39 7 qd_g580 rfl
theorem dX12_putsOther_47 : decode cX12_putsOther 47 = .ok (.iconst 1, 1) := qd_o4 39 8 qd_g580 rfl
theorem dX12_putsOther_48 : decode cX12_putsOther 48 = .ok (.iadd, 1) := qd_o96 39 9 qd_g580 rfl
theorem dX12_putsOther_49 : decode cX12_putsOther 49 = .ok (.invokevirtual 253, 3) := qd_o182 39 10 qd_g580 rfl rfl
theorem dX12_putsOther_52 : decode cX12_putsOther 52 = .ok (.invokevirtual 355, 3) := qd_o182 39 13 qd_g580 rfl rfl
theorem dX12_putsOther_55 : decode cX12_putsOther 55 = .ok (.iload_n 1, 1) := qd_o27 39 16 qd_g580 rfl
theorem dX12_putsOther_56 : decode cX12_putsOther 56 = .ok (.sipush 159, 3) := qd_o17 39 17 qd_g580 rfl rfl
theorem dX12_putsOther_59 : decode cX12_putsOther 59 = .ok (.if_icmp .ne 9, 3) := qd_o160 39 20 qd_g580 rfl rfl
theorem dX12_putsOther_62 : decode cX12_putsOther 62 = .ok (.aload_n 0, 1) := qd_o42 39 23 qd_g580 rfl
theorem dX12_putsOther_63 : decode cX12_putsOther 63 = .ok (.bipush 41, 2) := qd_o16 39 24 qd_g580 rfl rfl
theorem dX12_putsOther_65 : decode cX12_putsOther 65 = .ok (.invokevirtual 358, 3) := qd_o182 39 26 qd_g580 rfl rfl
theorem dX12_putsOther_68 : decode cX12_putsOther 68 = .ok (.return_, 1) := qd_o177 39 29 qd_g580 rfl
theorem qd_g581 : qd_bs cX12_isJam 0 [26, 184, 0, 247, 156, 0, 20, 26, 17, 0, 128, 17, 0, 167, 184, 0, 119, 154, 0, 7, 4, 167, 0, 4, 3, 172] = true := by decide +kernel
theorem dX12_isJam_0 : decode cX12_isJam 0 = .ok (.iload_n 0, 1) := qd_o26 0 0 qd_g581 rfl
theorem dX12_isJam_1 : decode cX12_isJam 1 = .ok (.invokestatic 247, 3) := qd_o184 0 1 qd_g581 rfl rfl
theorem dX12_isJam_4 : decode cX12_isJam 4 = .ok (.ifCond .ge 20, 3) := qd_o156 0 4 qd_g581 rfl rfl
theorem dX12_isJam_7 : decode cX12_isJam 7 = .ok (.iload_n 0, 1) := qd_o26 0 7 qd_g581 rfl
theorem dX12_isJam_8 : decode cX12_isJam 8 = .ok (.sipush 128, 3) := qd_o17 0 8 qd_g581 rfl rfl
theorem dX12_isJam_11 : decode cX12_isJam 11 = .ok (.sipush 167, 3) := qd_o17 0 11 qd_g581 rfl rfl
theorem dX12_isJam_14 : decode cX12_isJam 14 = .ok (.invokestatic 119, 3) := qd_o184 0 14 qd_g581 rfl rfl
theorem dX12_isJam_17 : decode cX12_isJam 17 = .ok (.ifCond .ne 7, 3) := qd_o154 0 17 qd_g581 rfl rfl
theorem dX12_isJam_20 : decode cX12_isJam 20 = .ok (.iconst 1, 1) := qd_o4 0 20 qd_g581 rfl
theorem dX12_isJam_21 : decode cX12_isJam 21 = .ok (.goto 4, 3) := qd_o167 0 21 qd_g581 rfl rfl
theorem dX12_isJam_24 : decode cX12_isJam 24 = .ok (.iconst 0, 1) := qd_o3 0 24 qd_g581 rfl
theorem dX12_isJam_25 : decode cX12_isJam 25 = .ok (.ireturn, 1) := qd_o172 0 25 qd_g581 rfl
theorem qd_g582 : qd_bs cX12_writeLine 0 [42, 27, 184, 0, 157, 153, 0, 7, 4, 167, 0, 4, 3, 182, 0, 164, 153, 0, 5, 3, 172, 42, 27, 182, 0, 250, 61, 42, 3, 181, 1, 96, 42, 27, 182, 1, 99, 42, 16, 32] = true := by decide +kernel
theorem dX12_writeLine_0 : decode cX12_writeLine 0 = .ok (.aload_n 0, 1) := qd_o42 0 0 qd_g582 rfl
theorem dX12_writeLine_1 : decode cX12_writeLine 1 = .ok (.iload_n 1, 1) := qd_o27 0 1 qd_g582 rfl
theorem dX12_writeLine_2 : decode cX12_writeLine 2 = .ok (.invokestatic 157, 3) := qd_o184 0 2 qd_g582 rfl rfl
theorem dX12_writeLine_5 : decode cX12_writeLine 5 = .ok (.ifCond .eq 7, 3) := qd_o153 0 5 qd_g582 rfl rfl
theorem dX12_writeLine_8 : decode cX12_writeLine 8 = .ok (.iconst 1, 1) := qd_o4 0 8 qd_g582 rfl
theorem dX12_writeLine_9 : decode cX12_writeLine 9 = .ok (.goto 4, 3) := qd_o167 0 9 qd_g582 rfl rfl
theorem dX12_writeLine_12 : decode cX12_writeLine 12 = .ok (.iconst 0, 1) := qd_o3 0 12 qd_g582 rfl
theorem dX12_writeLine_13 : decode cX12_writeLine 13 = .ok (.invokevirtual 164, 3) := qd_o182 0 13 qd_g582 rfl rfl
theorem dX12_writeLine_16 : decode cX12_writeLine 16 = .ok (.ifCond .eq 5, 3) := qd_o153 0 16 qd_g582 rfl rfl
theorem dX12_writeLine_19 : decode cX12_writeLine 19 = .ok (.iconst 0, 1) := qd_o3 0 19 qd_g582 rfl
theorem dX12_writeLine_20 : decode cX12_writeLine 20 = .ok (.ireturn, 1) := qd_o172 0 20 qd_g582 rfl
theorem dX12_writeLine_21 : decode cX12_writeLine 21 = .ok (.aload_n 0, 1) := qd_o42 0 21 qd_g582 rfl
theorem dX12_writeLine_22 : decode cX12_writeLine 22 = .ok (.iload_n 1, 1) := qd_o27 0 22 qd_g582 rfl
theorem dX12_writeLine_23 : decode cX12_writeLine 23 = .ok (.invokevirtual 250, 3) := qd_o182 0 23 qd_g582 rfl rfl
theorem dX12_writeLine_26 : decode cX12_writeLine 26 = .ok (.istore_n 2, 1) := qd_o61 0 26 qd_g582 rfl
theorem dX12_writeLine_27 : decode cX12_writeLine 27 = .ok (.aload_n 0, 1) := qd_o42 0 27 qd_g582 rfl
theorem dX12_writeLine_28 : decode cX12_writeLine 28 = .ok (.iconst 0, 1) := qd_o3 0 28 qd_g582 rfl
theorem dX12_writeLine_29 : decode cX12_writeLine 29 = .ok (.putfield 352, 3) := qd_o181 0 29 qd_g582 rfl rfl
theorem dX12_writeLine_32 : decode cX12_writeLine 32 = .ok (.aload_n 0, 1) := qd_o42 0 32 qd_g582 rfl
theorem dX12_writeLine_33 : decode cX12_writeLine 33 = .ok (.iload_n 1, 1) := qd_o27 0 33 qd_g582 rfl
theorem dX12_writeLine_34 : decode cX12_writeLine 34 = .ok (.invokevirtual 355, 3) := qd_o182 0 34 qd_g582 rfl rfl
theorem dX12_writeLine_37 : decode cX12_writeLine 37 = .ok (.aload_n 0, 1) := qd_o42 0 37 qd_g582 rfl
theorem dX12_writeLine_38 : decode cX12_writeLine 38 = .ok (.bipush 32, 2) := qd_o16 0 38 qd_g582 rfl rfl
theorem qd_g583 : qd_bs cX12_writeLine 40 [182, 1, 102, 28, 184, 1, 112, 153, 0, 26, 42, 16, 106, 182, 1, 102, 42, 16, 97, 182, 1, 102, 42, 16, 109, 182, 1, 102, 42, 180, 1, 96, 172, 42, 28, 182, 1, 115, 28] = true := by decide +kernel
theorem dX12_writeLine_40 : decode cX12_writeLine 40 = .ok (.invokevirtual 358, 3) := qd_o182 40 0 qd_g583 rfl rfl
theorem dX12_writeLine_43 : decode cX12_writeLine 43 = .ok (.iload_n 2, 1) := qd_o28 40 3 qd_g583 rfl
theorem dX12_writeLine_44 : decode cX12_writeLine 44 = .ok (.invokestatic 368, 3) := qd_o184 40 4 qd_g583 rfl rfl
theorem dX12_writeLine_47 : decode cX12_writeLine 47 = .ok (.ifCond .eq 26, 3) := qd_o153 40 7 qd_g583 rfl rfl
theorem dX12_writeLine_50 : decode cX12_writeLine 50 = .ok (.aload_n 0, 1) := qd_o42 40 10 qd_g583 rfl
theorem dX12_writeLine_51 : decode cX12_writeLine 51 = .ok (.bipush 106, 2) := qd_o16 40 11 qd_g583 rfl rfl
theorem dX12_writeLine_53 : decode cX12_writeLine 53 = .ok (.invokevirtual 358, 3) := qd_o182 40 13 qd_g583 rfl rfl
theorem dX12_writeLine_56 : decode cX12_writeLine 56 = .ok (.aload_n 0, 1) := qd_o42 40 16 qd_g583 rfl
theorem dX12_writeLine_57 : decode cX12_writeLine 57 = .ok (.bipush 97, 2) := qd_o16 40 17 qd_g583 rfl rfl
theorem dX12_writeLine_59 : decode cX12_writeLine 59 = .ok (.invokevirtual 358, 3) := qd_o182 40 19 qd_g583 rfl rfl
theorem dX12_writeLine_62 : decode cX12_writeLine 62 = .ok (.aload_n 0, 1) := qd_o42 40 22 qd_g583 rfl
theorem dX12_writeLine_63 : decode cX12_writeLine 63 = .ok (.bipush 109, 2) := qd_o16 40 23 qd_g583 rfl rfl
theorem dX12_writeLine_65 : decode cX12_writeLine 65 = .ok (.invokevirtual 358, 3) := qd_o182 40 25 qd_g583 rfl rfl
theorem dX12_writeLine_68 : decode cX12_writeLine 68 = .ok (.aload_n 0, 1) := qd_o42 40 28 qd_g583 rfl
theorem dX12_writeLine_69 : decode cX12_writeLine 69 = .ok (.getfield 352, 3) := qd_o180 40 29 qd_g583 rfl rfl
theorem dX12_writeLine_72 : decode cX12_writeLine 72 = .ok (.ireturn, 1) := qd_o172 40 32 qd_g583 rfl
theorem dX12_writeLine_73 : decode cX12_writeLine 73 = .ok (.aload_n 0, 1) := qd_o42 40 33 qd_g583 rfl
theorem dX12_writeLine_74 : decode cX12_writeLine 74 = .ok (.iload_n 2, 1) := qd_o28 40 34 qd_g583 rfl
theorem dX12_writeLine_75 : decode cX12_writeLine 75 = .ok (.invokevirtual 371, 3) := qd_o182 40 35 qd_g583 rfl rfl
theorem dX12_writeLine_78 : decode cX12_writeLine 78 = .ok (.iload_n 2, 1) := qd_o28 40 38 qd_g583 rfl
theorem qd_g584 : qd_bs cX12_writeLine 79 [184, 0, 247, 155, 0, 15, 42, 28, 16, 8, 112, 27, 182, 1, 118, 167, 0, 9, 42, 28, 27, 182, 1, 121, 42, 180, 1, 96, 172] = true := by decide +kernel
theorem dX12_writeLine_79 : decode cX12_writeLine 79 = .ok (.invokestatic 247, 3) := qd_o184 79 0 qd_g584 rfl rfl
theorem dX12_writeLine_82 : decode cX12_writeLine 82 = .ok (.ifCond .lt 15, 3) := qd_o155 79 3 qd_g584 rfl rfl
theorem dX12_writeLine_85 : decode cX12_writeLine 85 = .ok (.aload_n 0, 1) := qd_o42 79 6 qd_g584 rfl
theorem dX12_writeLine_86 : decode cX12_writeLine 86 = .ok (.iload_n 2, 1) := qd_o28 79 7 qd_g584 rfl
theorem dX12_writeLine_87 : decode cX12_writeLine 87 = .ok (.bipush 8, 2) := qd_o16 79 8 qd_g584 rfl rfl
theorem dX12_writeLine_89 : decode cX12_writeLine 89 = .ok (.irem, 1) := qd_o112 79 10 qd_g584 rfl
theorem dX12_writeLine_90 : decode cX12_writeLine 90 = .ok (.iload_n 1, 1) := qd_o27 79 11 qd_g584 rfl
theorem dX12_writeLine_91 : decode cX12_writeLine 91 = .ok (.invokevirtual 374, 3) := qd_o182 79 12 qd_g584 rfl rfl
theorem dX12_writeLine_94 : decode cX12_writeLine 94 = .ok (.goto 9, 3) := qd_o167 79 15 qd_g584 rfl rfl
theorem dX12_writeLine_97 : decode cX12_writeLine 97 = .ok (.aload_n 0, 1) := qd_o42 79 18 qd_g584 rfl
theorem dX12_writeLine_98 : decode cX12_writeLine 98 = .ok (.iload_n 2, 1) := qd_o28 79 19 qd_g584 rfl
theorem dX12_writeLine_99 : decode cX12_writeLine 99 = .ok (.iload_n 1, 1) := qd_o27 79 20 qd_g584 rfl
theorem dX12_writeLine_100 : decode cX12_writeLine 100 = .ok (.invokevirtual 377, 3) := qd_o182 79 21 qd_g584 rfl rfl
theorem dX12_writeLine_103 : decode cX12_writeLine 103 = .ok (.aload_n 0, 1) := qd_o42 79 24 qd_g584 rfl
theorem dX12_writeLine_104 : decode cX12_writeLine 104 = .ok (.getfield 352, 3) := qd_o180 79 25 qd_g584 rfl rfl
theorem dX12_writeLine_107 : decode cX12_writeLine 107 = .ok (.ireturn, 1) := qd_o172 79 28 qd_g584 rfl
theorem qd_g585 : qd_bs cX12_lineAt 0 [42, 27, 3, 42, 180, 1, 96, 4, 100, 184, 0, 119, 153, 0, 7, 3, 167, 0, 4, 4, 182, 0, 164, 153, 0, 8, 16, 32, 167, 0, 9, 42, 180, 0, 109, 27, 52, 172] = true := by decide +kernel
theorem dX12_lineAt_0 : decode cX12_lineAt 0 = .ok (.aload_n 0, 1) := qd_o42 0 0 qd_g585 rfl
theorem dX12_lineAt_1 : decode cX12_lineAt 1 = .ok (.iload_n 1, 1) := qd_o27 0 1 qd_g585 rfl
theorem dX12_lineAt_2 : decode cX12_lineAt 2 = .ok (.iconst 0, 1) := qd_o3 0 2 qd_g585 rfl
theorem dX12_lineAt_3 : decode cX12_lineAt 3 = .ok (.aload_n 0, 1) := qd_o42 0 3 qd_g585 rfl
theorem dX12_lineAt_4 : decode cX12_lineAt 4 = .ok (.getfield 352, 3) := qd_o180 0 4 qd_g585 rfl rfl
theorem dX12_lineAt_7 : decode cX12_lineAt 7 = .ok (.iconst 1, 1) := qd_o4 0 7 qd_g585 rfl
theorem dX12_lineAt_8 : decode cX12_lineAt 8 = .ok (.isub, 1) := qd_o100 0 8 qd_g585 rfl
theorem dX12_lineAt_9 : decode cX12_lineAt 9 = .ok (.invokestatic 119, 3) := qd_o184 0 9 qd_g585 rfl rfl
theorem dX12_lineAt_12 : decode cX12_lineAt 12 = .ok (.ifCond .eq 7, 3) := qd_o153 0 12 qd_g585 rfl rfl
theorem dX12_lineAt_15 : decode cX12_lineAt 15 = .ok (.iconst 0, 1) := qd_o3 0 15 qd_g585 rfl
theorem dX12_lineAt_16 : decode cX12_lineAt 16 = .ok (.goto 4, 3) := qd_o167 0 16 qd_g585 rfl rfl
theorem dX12_lineAt_19 : decode cX12_lineAt 19 = .ok (.iconst 1, 1) := qd_o4 0 19 qd_g585 rfl
theorem dX12_lineAt_20 : decode cX12_lineAt 20 = .ok (.invokevirtual 164, 3) := qd_o182 0 20 qd_g585 rfl rfl
theorem dX12_lineAt_23 : decode cX12_lineAt 23 = .ok (.ifCond .eq 8, 3) := qd_o153 0 23 qd_g585 rfl rfl
theorem dX12_lineAt_26 : decode cX12_lineAt 26 = .ok (.bipush 32, 2) := qd_o16 0 26 qd_g585 rfl rfl
theorem dX12_lineAt_28 : decode cX12_lineAt 28 = .ok (.goto 9, 3) := qd_o167 0 28 qd_g585 rfl rfl
theorem dX12_lineAt_31 : decode cX12_lineAt 31 = .ok (.aload_n 0, 1) := qd_o42 0 31 qd_g585 rfl
theorem dX12_lineAt_32 : decode cX12_lineAt 32 = .ok (.getfield 109, 3) := qd_o180 0 32 qd_g585 rfl rfl
theorem dX12_lineAt_35 : decode cX12_lineAt 35 = .ok (.iload_n 1, 1) := qd_o27 0 35 qd_g585 rfl
theorem dX12_lineAt_36 : decode cX12_lineAt 36 = .ok (.caload, 1) := qd_o52 0 36 qd_g585 rfl
theorem dX12_lineAt_37 : decode cX12_lineAt 37 = .ok (.ireturn, 1) := qd_o172 0 37 qd_g585 rfl
theorem qd_g586 : qd_bs cX12_register 0 [42, 27, 3, 7, 184, 0, 119, 153, 0, 7, 3, 167, 0, 4, 4, 182, 0, 164, 153, 0, 7, 3, 167, 0, 9, 42, 180, 0, 50, 27, 46, 172] = true := by decide +kernel
theorem dX12_register_0 : decode cX12_register 0 = .ok (.aload_n 0, 1) := qd_o42 0 0 qd_g586 rfl
theorem dX12_register_1 : decode cX12_register 1 = .ok (.iload_n 1, 1) := qd_o27 0 1 qd_g586 rfl
theorem dX12_register_2 : decode cX12_register 2 = .ok (.iconst 0, 1) := qd_o3 0 2 qd_g586 rfl
theorem dX12_register_3 : decode cX12_register 3 = .ok (.iconst 4, 1) := qd_o7 0 3 qd_g586 rfl
theorem dX12_register_4 : decode cX12_register 4 = .ok (.invokestatic 119, 3) := qd_o184 0 4 qd_g586 rfl rfl
theorem dX12_register_7 : decode cX12_register 7 = .ok (.ifCond .eq 7, 3) := qd_o153 0 7 qd_g586 rfl rfl
theorem dX12_register_10 : decode cX12_register 10 = .ok (.iconst 0, 1) := qd_o3 0 10 qd_g586 rfl
theorem dX12_register_11 : decode cX12_register 11 = .ok (.goto 4, 3) := qd_o167 0 11 qd_g586 rfl rfl
theorem dX12_register_14 : decode cX12_register 14 = .ok (.iconst 1, 1) := qd_o4 0 14 qd_g586 rfl
theorem dX12_register_15 : decode cX12_register 15 = .ok (.invokevirtual 164, 3) := qd_o182 0 15 qd_g586 rfl rfl
theorem dX12_register_18 : decode cX12_register 18 = .ok (.ifCond .eq 7, 3) := qd_o153 0 18 qd_g586 rfl rfl
theorem dX12_register_21 : decode cX12_register 21 = .ok (.iconst 0, 1) := qd_o3 0 21 qd_g586 rfl
theorem dX12_register_22 : decode cX12_register 22 = .ok (.goto 9, 3) := qd_o167 0 22 qd_g586 rfl rfl
theorem dX12_register_25 : decode cX12_register 25 = .ok (.aload_n 0, 1) := qd_o42 0 25 qd_g586 rfl
theorem dX12_register_26 : decode cX12_register 26 = .ok (.getfield 50, 3) := qd_o180 0 26 qd_g586 rfl rfl
theorem dX12_register_29 : decode cX12_register 29 = .ok (.iload_n 1, 1) := qd_o27 0 29 qd_g586 rfl
theorem dX12_register_30 : decode cX12_register 30 = .ok (.iaload, 1) := qd_o46 0 30 qd_g586 rfl
theorem dX12_register_31 : decode cX12_register 31 = .ok (.ireturn, 1) := qd_o172 0 31 qd_g586 rfl
theorem qd_g587 : qd_bs cX12_setRegister 0 [42, 27, 3, 7, 184, 0, 119, 154, 0, 7, 4, 167, 0, 44, 28, 3, 27, 7, 160, 0, 9, 17, 15, 255, 167, 0, 6, 17, 0, 255, 184, 0, 119, 154, 0, 7, 5, 167, 0, 18] = true := by decide +kernel
theorem dX12_setRegister_0 : decode cX12_setRegister 0 = .ok (.aload_n 0, 1) := qd_o42 0 0 qd_g587 rfl
theorem dX12_setRegister_1 : decode cX12_setRegister 1 = .ok (.iload_n 1, 1) := qd_o27 0 1 qd_g587 rfl
theorem dX12_setRegister_2 : decode cX12_setRegister 2 = .ok (.iconst 0, 1) := qd_o3 0 2 qd_g587 rfl
theorem dX12_setRegister_3 : decode cX12_setRegister 3 = .ok (.iconst 4, 1) := qd_o7 0 3 qd_g587 rfl
theorem dX12_setRegister_4 : decode cX12_setRegister 4 = .ok (.invokestatic 119, 3) := qd_o184 0 4 qd_g587 rfl rfl
theorem dX12_setRegister_7 : decode cX12_setRegister 7 = .ok (.ifCond .ne 7, 3) := qd_o154 0 7 qd_g587 rfl rfl
theorem dX12_setRegister_10 : decode cX12_setRegister 10 = .ok (.iconst 1, 1) := qd_o4 0 10 qd_g587 rfl
theorem dX12_setRegister_11 : decode cX12_setRegister 11 = .ok (.goto 44, 3) := qd_o167 0 11 qd_g587 rfl rfl
theorem dX12_setRegister_14 : decode cX12_setRegister 14 = .ok (.iload_n 2, 1) := qd_o28 0 14 qd_g587 rfl
theorem dX12_setRegister_15 : decode cX12_setRegister 15 = .ok (.iconst 0, 1) := qd_o3 0 15 qd_g587 rfl
theorem dX12_setRegister_16 : decode cX12_setRegister 16 = .ok (.iload_n 1, 1) := qd_o27 0 16 qd_g587 rfl
theorem dX12_setRegister_17 : decode cX12_setRegister 17 = .ok (.iconst 4, 1) := qd_o7 0 17 qd_g587 rfl
theorem dX12_setRegister_18 : decode cX12_setRegister 18 = .ok (.if_icmp .ne 9, 3) := qd_o160 0 18 qd_g587 rfl rfl
theorem dX12_setRegister_21 : decode cX12_setRegister 21 = .ok (.sipush 4095, 3) := qd_o17 0 21 qd_g587 rfl rfl
theorem dX12_setRegister_24 : decode cX12_setRegister 24 = .ok (.goto 6, 3) := qd_o167 0 24 qd_g587 rfl rfl
theorem dX12_setRegister_27 : decode cX12_setRegister 27 = .ok (.sipush 255, 3) := qd_o17 0 27 qd_g587 rfl rfl
theorem dX12_setRegister_30 : decode cX12_setRegister 30 = .ok (.invokestatic 119, 3) := qd_o184 0 30 qd_g587 rfl rfl
theorem dX12_setRegister_33 : decode cX12_setRegister 33 = .ok (.ifCond .ne 7, 3) := qd_o154 0 33 qd_g587 rfl rfl
theorem dX12_setRegister_36 : decode cX12_setRegister 36 = .ok (.iconst 2, 1) := qd_o5 0 36 qd_g587 rfl
theorem dX12_setRegister_37 : decode cX12_setRegister 37 = .ok (.goto 18, 3) := qd_o167 0 37 qd_g587 rfl rfl
theorem qd_g588 : qd_bs cX12_setRegister 40 [42, 180, 0, 50, 16, 17, 46, 158, 0, 7, 6, 167, 0, 4, 3, 182, 0, 164, 153, 0, 5, 3, 172, 42, 180, 0, 50, 27, 46, 62, 42, 180, 0, 50, 27, 28, 79, 42] = true := by decide +kernel
theorem dX12_setRegister_40 : decode cX12_setRegister 40 = .ok (.aload_n 0, 1) := qd_o42 40 0 qd_g588 rfl
theorem dX12_setRegister_41 : decode cX12_setRegister 41 = .ok (.getfield 50, 3) := qd_o180 40 1 qd_g588 rfl rfl
theorem dX12_setRegister_44 : decode cX12_setRegister 44 = .ok (.bipush 17, 2) := qd_o16 40 4 qd_g588 rfl rfl
theorem dX12_setRegister_46 : decode cX12_setRegister 46 = .ok (.iaload, 1) := qd_o46 40 6 qd_g588 rfl
theorem dX12_setRegister_47 : decode cX12_setRegister 47 = .ok (.ifCond .le 7, 3) := qd_o158 40 7 qd_g588 rfl rfl
theorem dX12_setRegister_50 : decode cX12_setRegister 50 = .ok (.iconst 3, 1) := qd_o6 40 10 qd_g588 rfl
theorem dX12_setRegister_51 : decode cX12_setRegister 51 = .ok (.goto 4, 3) := qd_o167 40 11 qd_g588 rfl rfl
theorem dX12_setRegister_54 : decode cX12_setRegister 54 = .ok (.iconst 0, 1) := qd_o3 40 14 qd_g588 rfl
theorem dX12_setRegister_55 : decode cX12_setRegister 55 = .ok (.invokevirtual 164, 3) := qd_o182 40 15 qd_g588 rfl rfl
theorem dX12_setRegister_58 : decode cX12_setRegister 58 = .ok (.ifCond .eq 5, 3) := qd_o153 40 18 qd_g588 rfl rfl
theorem dX12_setRegister_61 : decode cX12_setRegister 61 = .ok (.iconst 0, 1) := qd_o3 40 21 qd_g588 rfl
theorem dX12_setRegister_62 : decode cX12_setRegister 62 = .ok (.ireturn, 1) := qd_o172 40 22 qd_g588 rfl
theorem dX12_setRegister_63 : decode cX12_setRegister 63 = .ok (.aload_n 0, 1) := qd_o42 40 23 qd_g588 rfl
theorem dX12_setRegister_64 : decode cX12_setRegister 64 = .ok (.getfield 50, 3) := qd_o180 40 24 qd_g588 rfl rfl
theorem dX12_setRegister_67 : decode cX12_setRegister 67 = .ok (.iload_n 1, 1) := qd_o27 40 27 qd_g588 rfl
theorem dX12_setRegister_68 : decode cX12_setRegister 68 = .ok (.iaload, 1) := qd_o46 40 28 qd_g588 rfl
theorem dX12_setRegister_69 : decode cX12_setRegister 69 = .ok (.istore_n 3, 1) := qd_o62 40 29 qd_g588 rfl
theorem dX12_setRegister_70 : decode cX12_setRegister 70 = .ok (.aload_n 0, 1) := qd_o42 40 30 qd_g588 rfl
theorem dX12_setRegister_71 : decode cX12_setRegister 71 = .ok (.getfield 50, 3) := qd_o180 40 31 qd_g588 rfl rfl
theorem dX12_setRegister_74 : decode cX12_setRegister 74 = .ok (.iload_n 1, 1) := qd_o27 40 34 qd_g588 rfl
theorem dX12_setRegister_75 : decode cX12_setRegister 75 = .ok (.iload_n 2, 1) := qd_o28 40 35 qd_g588 rfl
theorem dX12_setRegister_76 : decode cX12_setRegister 76 = .ok (.iastore, 1) := qd_o79 40 36 qd_g588 rfl
theorem dX12_setRegister_77 : decode cX12_setRegister 77 = .ok (.aload_n 0, 1) := qd_o42 40 37 qd_g588 rfl
theorem qd_g589 : qd_bs cX12_setRegister 78 [182, 0, 173, 29, 172] = true := by decide +kernel
theorem dX12_setRegister_78 : decode cX12_setRegister 78 = .ok (.invokevirtual 173, 3) := qd_o182 78 0 qd_g589 rfl rfl
theorem dX12_setRegister_81 : decode cX12_setRegister 81 = .ok (.iload_n 3, 1) := qd_o29 78 3 qd_g589 rfl
theorem dX12_setRegister_82 : decode cX12_setRegister 82 = .ok (.ireturn, 1) := qd_o172 78 4 qd_g589 rfl
theorem qd_g590 : qd_bs cX12_status 0 [42, 42, 16, 16, 182, 1, 25, 182, 0, 244, 172] = true := by decide +kernel
theorem dX12_status_0 : decode cX12_status 0 = .ok (.aload_n 0, 1) := qd_o42 0 0 qd_g590 rfl
theorem dX12_status_1 : decode cX12_status 1 = .ok (.aload_n 0, 1) := qd_o42 0 1 qd_g590 rfl
theorem dX12_status_2 : decode cX12_status 2 = .ok (.bipush 16, 2) := qd_o16 0 2 qd_g590 rfl rfl
theorem dX12_status_4 : decode cX12_status 4 = .ok (.invokevirtual 281, 3) := qd_o182 0 4 qd_g590 rfl rfl
theorem dX12_status_7 : decode cX12_status 7 = .ok (.invokevirtual 244, 3) := qd_o182 0 7 qd_g590 rfl rfl
theorem dX12_status_10 : decode cX12_status 10 = .ok (.ireturn, 1) := qd_o172 0 10 qd_g590 rfl
theorem qd_g591 : qd_bs cX12_reset 0 [42, 3, 181, 0, 116, 3, 60, 27, 16, 48, 162, 0, 16, 42, 180, 0, 19, 27, 3, 79, 132, 1, 1, 167, 255, 240, 3, 60, 27, 16, 12, 162, 0, 16, 42, 180, 0, 50, 27, 3] = true := by decide +kernel
theorem dX12_reset_0 : decode cX12_reset 0 = .ok (.aload_n 0, 1) := qd_o42 0 0 qd_g591 rfl
theorem dX12_reset_1 : decode cX12_reset 1 = .ok (.iconst 0, 1) := qd_o3 0 1 qd_g591 rfl
theorem dX12_reset_2 : decode cX12_reset 2 = .ok (.putfield 116, 3) := qd_o181 0 2 qd_g591 rfl rfl
theorem dX12_reset_5 : decode cX12_reset 5 = .ok (.iconst 0, 1) := qd_o3 0 5 qd_g591 rfl
theorem dX12_reset_6 : decode cX12_reset 6 = .ok (.istore_n 1, 1) := qd_o60 0 6 qd_g591 rfl
theorem dX12_reset_7 : decode cX12_reset 7 = .ok (.iload_n 1, 1) := qd_o27 0 7 qd_g591 rfl
theorem dX12_reset_8 : decode cX12_reset 8 = .ok (.bipush 48, 2) := qd_o16 0 8 qd_g591 rfl rfl
theorem dX12_reset_10 : decode cX12_reset 10 = .ok (.if_icmp .ge 16, 3) := qd_o162 0 10 qd_g591 rfl rfl
theorem dX12_reset_13 : decode cX12_reset 13 = .ok (.aload_n 0, 1) := qd_o42 0 13 qd_g591 rfl
theorem dX12_reset_14 : decode cX12_reset 14 = .ok (.getfield 19, 3) := qd_o180 0 14 qd_g591 rfl rfl
theorem dX12_reset_17 : decode cX12_reset 17 = .ok (.iload_n 1, 1) := qd_o27 0 17 qd_g591 rfl
theorem dX12_reset_18 : decode cX12_reset 18 = .ok (.iconst 0, 1) := qd_o3 0 18 qd_g591 rfl
theorem dX12_reset_19 : decode cX12_reset 19 = .ok (.iastore, 1) := qd_o79 0 19 qd_g591 rfl
theorem dX12_reset_20 : decode cX12_reset 20 = .ok (.iinc 1 1, 3) := qd_o132 0 20 qd_g591 rfl rfl
theorem dX12_reset_23 : decode cX12_reset 23 = .ok (.goto (-16), 3) := qd_o167 0 23 qd_g591 rfl rfl
theorem dX12_reset_26 : decode cX12_reset 26 = .ok (.iconst 0, 1) := qd_o3 0 26 qd_g591 rfl
theorem dX12_reset_27 : decode cX12_reset 27 = .ok (.istore_n 1, 1) := qd_o60 0 27 qd_g591 rfl
theorem dX12_reset_28 : decode cX12_reset 28 = .ok (.iload_n 1, 1) := qd_o27 0 28 qd_g591 rfl
theorem dX12_reset_29 : decode cX12_reset 29 = .ok (.bipush 12, 2) := qd_o16 0 29 qd_g591 rfl rfl
theorem dX12_reset_31 : decode cX12_reset 31 = .ok (.if_icmp .ge 16, 3) := qd_o162 0 31 qd_g591 rfl rfl
theorem dX12_reset_34 : decode cX12_reset 34 = .ok (.aload_n 0, 1) := qd_o42 0 34 qd_g591 rfl
theorem dX12_reset_35 : decode cX12_reset 35 = .ok (.getfield 50, 3) := qd_o180 0 35 qd_g591 rfl rfl
theorem dX12_reset_38 : decode cX12_reset 38 = .ok (.iload_n 1, 1) := qd_o27 0 38 qd_g591 rfl
theorem dX12_reset_39 : decode cX12_reset 39 = .ok (.iconst 0, 1) := qd_o3 0 39 qd_g591 rfl
theorem qd_g592 : qd_bs cX12_reset 40 [79, 132, 1, 1, 167, 255, 240, 42, 180, 0, 50, 6, 17, 0, 255, 79, 42, 180, 0, 50, 16, 17, 3, 79, 3, 60, 27, 16, 8, 162, 0, 25, 42, 180, 0, 53, 27, 27, 6] = true := by decide +kernel
theorem dX12_reset_40 : decode cX12_reset 40 = .ok (.iastore, 1) := qd_o79 40 0 qd_g592 rfl
theorem dX12_reset_41 : decode cX12_reset 41 = .ok (.iinc 1 1, 3) := qd_o132 40 1 qd_g592 rfl rfl
theorem dX12_reset_44 : decode cX12_reset 44 = .ok (.goto (-16), 3) := qd_o167 40 4 qd_g592 rfl rfl
theorem dX12_reset_47 : decode cX12_reset 47 = .ok (.aload_n 0, 1) := qd_o42 40 7 qd_g592 rfl
theorem dX12_reset_48 : decode cX12_reset 48 = .ok (.getfield 50, 3) := qd_o180 40 8 qd_g592 rfl rfl
theorem dX12_reset_51 : decode cX12_reset 51 = .ok (.iconst 3, 1) := qd_o6 40 11 qd_g592 rfl
theorem dX12_reset_52 : decode cX12_reset 52 = .ok (.sipush 255, 3) := qd_o17 40 12 qd_g592 rfl rfl
theorem dX12_reset_55 : decode cX12_reset 55 = .ok (.iastore, 1) := qd_o79 40 15 qd_g592 rfl
theorem dX12_reset_56 : decode cX12_reset 56 = .ok (.aload_n 0, 1) := qd_o42 40 16 qd_g592 rfl
theorem dX12_reset_57 : decode cX12_reset 57 = .ok (.getfield 50, 3) := qd_o180 40 17 qd_g592 rfl rfl
theorem dX12_reset_60 : decode cX12_reset 60 = .ok (.bipush 17, 2) := qd_o16 40 20 qd_g592 rfl rfl
theorem dX12_reset_62 : decode cX12_reset 62 = .ok (.iconst 0, 1) := qd_o3 40 22 qd_g592 rfl
theorem dX12_reset_63 : decode cX12_reset 63 = .ok (.iastore, 1) := qd_o79 40 23 qd_g592 rfl
theorem dX12_reset_64 : decode cX12_reset 64 = .ok (.iconst 0, 1) := qd_o3 40 24 qd_g592 rfl
theorem dX12_reset_65 : decode cX12_reset 65 = .ok (.istore_n 1, 1) := qd_o60 40 25 qd_g592 rfl
theorem dX12_reset_66 : decode cX12_reset 66 = .ok (.iload_n 1, 1) := qd_o27 40 26 qd_g592 rfl
theorem dX12_reset_67 : decode cX12_reset 67 = .ok (.bipush 8, 2) := qd_o16 40 27 qd_g592 rfl rfl
theorem dX12_reset_69 : decode cX12_reset 69 = .ok (.if_icmp .ge 25, 3) := qd_o162 40 29 qd_g592 rfl rfl
theorem dX12_reset_72 : decode cX12_reset 72 = .ok (.aload_n 0, 1) := qd_o42 40 32 qd_g592 rfl
theorem dX12_reset_73 : decode cX12_reset 73 = .ok (.getfield 53, 3) := qd_o180 40 33 qd_g592 rfl rfl
theorem dX12_reset_76 : decode cX12_reset 76 = .ok (.iload_n 1, 1) := qd_o27 40 36 qd_g592 rfl
theorem dX12_reset_77 : decode cX12_reset 77 = .ok (.iload_n 1, 1) := qd_o27 40 37 qd_g592 rfl
theorem dX12_reset_78 : decode cX12_reset 78 = .ok (.iconst 3, 1) := qd_o6 40 38 qd_g592 rfl
theorem qd_g593 : qd_bs cX12_reset 79 [160, 0, 7, 4, 167, 0, 4, 3, 84, 132, 1, 1, 167, 255, 231, 42, 180, 0, 50, 7, 42, 17, 14, 252, 182, 0, 253, 79, 42, 182, 0, 173, 42, 180, 0, 50, 7, 46, 172] = true := by decide +kernel
theorem dX12_reset_79 : decode cX12_reset 79 = .ok (.if_icmp .ne 7, 3) := qd_o160 79 0 qd_g593 rfl rfl
theorem dX12_reset_82 : decode cX12_reset 82 = .ok (.iconst 1, 1) := qd_o4 79 3 qd_g593 rfl
theorem dX12_reset_83 : decode cX12_reset 83 = .ok (.goto 4, 3) := qd_o167 79 4 qd_g593 rfl rfl
theorem dX12_reset_86 : decode cX12_reset 86 = .ok (.iconst 0, 1) := qd_o3 79 7 qd_g593 rfl
theorem dX12_reset_87 : decode cX12_reset 87 = .ok (.bastore, 1) := qd_o84 79 8 qd_g593 rfl
theorem dX12_reset_88 : decode cX12_reset 88 = .ok (.iinc 1 1, 3) := qd_o132 79 9 qd_g593 rfl rfl
theorem dX12_reset_91 : decode cX12_reset 91 = .ok (.goto (-25), 3) := qd_o167 79 12 qd_g593 rfl rfl
theorem dX12_reset_94 : decode cX12_reset 94 = .ok (.aload_n 0, 1) := qd_o42 79 15 qd_g593 rfl
theorem dX12_reset_95 : decode cX12_reset 95 = .ok (.getfield 50, 3) := qd_o180 79 16 qd_g593 rfl rfl
theorem dX12_reset_98 : decode cX12_reset 98 = .ok (.iconst 4, 1) := qd_o7 79 19 qd_g593 rfl
theorem dX12_reset_99 : decode cX12_reset 99 = .ok (.aload_n 0, 1) := qd_o42 79 20 qd_g593 rfl
theorem dX12_reset_100 : decode cX12_reset 100 = .ok (.sipush 3836, 3) := qd_o17 79 21 qd_g593 rfl rfl
theorem dX12_reset_103 : decode cX12_reset 103 = .ok (.invokevirtual 253, 3) := qd_o182 79 24 qd_g593 rfl rfl
theorem dX12_reset_106 : decode cX12_reset 106 = .ok (.iastore, 1) := qd_o79 79 27 qd_g593 rfl
theorem dX12_reset_107 : decode cX12_reset 107 = .ok (.aload_n 0, 1) := qd_o42 79 28 qd_g593 rfl
theorem dX12_reset_108 : decode cX12_reset 108 = .ok (.invokevirtual 173, 3) := qd_o182 79 29 qd_g593 rfl rfl
theorem dX12_reset_111 : decode cX12_reset 111 = .ok (.aload_n 0, 1) := qd_o42 79 32 qd_g593 rfl
theorem dX12_reset_112 : decode cX12_reset 112 = .ok (.getfield 50, 3) := qd_o180 79 33 qd_g593 rfl rfl
theorem dX12_reset_115 : decode cX12_reset 115 = .ok (.iconst 4, 1) := qd_o7 79 36 qd_g593 rfl
theorem dX12_reset_116 : decode cX12_reset 116 = .ok (.iaload, 1) := qd_o46 79 37 qd_g593 rfl
theorem dX12_reset_117 : decode cX12_reset 117 = .ok (.ireturn, 1) := qd_o172 79 38 qd_g593 rfl
theorem qd_g594 : qd_bs cX12_freeze 0 [42, 3, 181, 0, 116, 42, 180, 0, 19, 3, 46, 60, 42, 180, 0, 53, 16, 6, 4, 84, 42, 180, 0, 19, 3, 92, 46, 16, 14, 128, 79, 42, 182, 0, 173, 27, 172] = true := by decide +kernel
theorem dX12_freeze_0 : decode cX12_freeze 0 = .ok (.aload_n 0, 1) := qd_o42 0 0 qd_g594 rfl
theorem dX12_freeze_1 : decode cX12_freeze 1 = .ok (.iconst 0, 1) := qd_o3 0 1 qd_g594 rfl
theorem dX12_freeze_2 : decode cX12_freeze 2 = .ok (.putfield 116, 3) := qd_o181 0 2 qd_g594 rfl rfl
theorem dX12_freeze_5 : decode cX12_freeze 5 = .ok (.aload_n 0, 1) := qd_o42 0 5 qd_g594 rfl
theorem dX12_freeze_6 : decode cX12_freeze 6 = .ok (.getfield 19, 3) := qd_o180 0 6 qd_g594 rfl rfl
theorem dX12_freeze_9 : decode cX12_freeze 9 = .ok (.iconst 0, 1) := qd_o3 0 9 qd_g594 rfl
theorem dX12_freeze_10 : decode cX12_freeze 10 = .ok (.iaload, 1) := qd_o46 0 10 qd_g594 rfl
theorem dX12_freeze_11 : decode cX12_freeze 11 = .ok (.istore_n 1, 1) := qd_o60 0 11 qd_g594 rfl
theorem dX12_freeze_12 : decode cX12_freeze 12 = .ok (.aload_n 0, 1) := qd_o42 0 12 qd_g594 rfl
theorem dX12_freeze_13 : decode cX12_freeze 13 = .ok (.getfield 53, 3) := qd_o180 0 13 qd_g594 rfl rfl
theorem dX12_freeze_16 : decode cX12_freeze 16 = .ok (.bipush 6, 2) := qd_o16 0 16 qd_g594 rfl rfl
theorem dX12_freeze_18 : decode cX12_freeze 18 = .ok (.iconst 1, 1) := qd_o4 0 18 qd_g594 rfl
theorem dX12_freeze_19 : decode cX12_freeze 19 = .ok (.bastore, 1) := qd_o84 0 19 qd_g594 rfl
theorem dX12_freeze_20 : decode cX12_freeze 20 = .ok (.aload_n 0, 1) := qd_o42 0 20 qd_g594 rfl
theorem dX12_freeze_21 : decode cX12_freeze 21 = .ok (.getfield 19, 3) := qd_o180 0 21 qd_g594 rfl rfl
theorem dX12_freeze_24 : decode cX12_freeze 24 = .ok (.iconst 0, 1) := qd_o3 0 24 qd_g594 rfl
theorem dX12_freeze_25 : decode cX12_freeze 25 = .ok (.dup2, 1) := qd_o92 0 25 qd_g594 rfl
theorem dX12_freeze_26 : decode cX12_freeze 26 = .ok (.iaload, 1) := qd_o46 0 26 qd_g594 rfl
theorem dX12_freeze_27 : decode cX12_freeze 27 = .ok (.bipush 14, 2) := qd_o16 0 27 qd_g594 rfl rfl
theorem dX12_freeze_29 : decode cX12_freeze 29 = .ok (.ior, 1) := qd_o128 0 29 qd_g594 rfl
theorem dX12_freeze_30 : decode cX12_freeze 30 = .ok (.iastore, 1) := qd_o79 0 30 qd_g594 rfl
theorem dX12_freeze_31 : decode cX12_freeze 31 = .ok (.aload_n 0, 1) := qd_o42 0 31 qd_g594 rfl
theorem dX12_freeze_32 : decode cX12_freeze 32 = .ok (.invokevirtual 173, 3) := qd_o182 0 32 qd_g594 rfl rfl
theorem dX12_freeze_35 : decode cX12_freeze 35 = .ok (.iload_n 1, 1) := qd_o27 0 35 qd_g594 rfl
theorem dX12_freeze_36 : decode cX12_freeze 36 = .ok (.ireturn, 1) := qd_o172 0 36 qd_g594 rfl
theorem qd_g595 : qd_bs cX12_pixelAt 0 [42, 27, 3, 16, 31, 184, 0, 119, 153, 0, 17, 28, 3, 16, 31, 184, 0, 119, 153, 0, 7, 3, 167, 0, 4, 4, 182, 0, 164, 153, 0, 7, 3, 167, 0, 14, 42, 180, 0, 22] = true := by decide +kernel
theorem dX12_pixelAt_0 : decode cX12_pixelAt 0 = .ok (.aload_n 0, 1) := qd_o42 0 0 qd_g595 rfl
theorem dX12_pixelAt_1 : decode cX12_pixelAt 1 = .ok (.iload_n 1, 1) := qd_o27 0 1 qd_g595 rfl
theorem dX12_pixelAt_2 : decode cX12_pixelAt 2 = .ok (.iconst 0, 1) := qd_o3 0 2 qd_g595 rfl
theorem dX12_pixelAt_3 : decode cX12_pixelAt 3 = .ok (.bipush 31, 2) := qd_o16 0 3 qd_g595 rfl rfl
theorem dX12_pixelAt_5 : decode cX12_pixelAt 5 = .ok (.invokestatic 119, 3) := qd_o184 0 5 qd_g595 rfl rfl
theorem dX12_pixelAt_8 : decode cX12_pixelAt 8 = .ok (.ifCond .eq 17, 3) := qd_o153 0 8 qd_g595 rfl rfl
theorem dX12_pixelAt_11 : decode cX12_pixelAt 11 = .ok (.iload_n 2, 1) := qd_o28 0 11 qd_g595 rfl
theorem dX12_pixelAt_12 : decode cX12_pixelAt 12 = .ok (.iconst 0, 1) := qd_o3 0 12 qd_g595 rfl
theorem dX12_pixelAt_13 : decode cX12_pixelAt 13 = .ok (.bipush 31, 2) := qd_o16 0 13 qd_g595 rfl rfl
theorem dX12_pixelAt_15 : decode cX12_pixelAt 15 = .ok (.invokestatic 119, 3) := qd_o184 0 15 qd_g595 rfl rfl
theorem dX12_pixelAt_18 : decode cX12_pixelAt 18 = .ok (.ifCond .eq 7, 3) := qd_o153 0 18 qd_g595 rfl rfl
theorem dX12_pixelAt_21 : decode cX12_pixelAt 21 = .ok (.iconst 0, 1) := qd_o3 0 21 qd_g595 rfl
theorem dX12_pixelAt_22 : decode cX12_pixelAt 22 = .ok (.goto 4, 3) := qd_o167 0 22 qd_g595 rfl rfl
theorem dX12_pixelAt_25 : decode cX12_pixelAt 25 = .ok (.iconst 1, 1) := qd_o4 0 25 qd_g595 rfl
theorem dX12_pixelAt_26 : decode cX12_pixelAt 26 = .ok (.invokevirtual 164, 3) := qd_o182 0 26 qd_g595 rfl rfl
theorem dX12_pixelAt_29 : decode cX12_pixelAt 29 = .ok (.ifCond .eq 7, 3) := qd_o153 0 29 qd_g595 rfl rfl
theorem dX12_pixelAt_32 : decode cX12_pixelAt 32 = .ok (.iconst 0, 1) := qd_o3 0 32 qd_g595 rfl
theorem dX12_pixelAt_33 : decode cX12_pixelAt 33 = .ok (.goto 14, 3) := qd_o167 0 33 qd_g595 rfl rfl
theorem dX12_pixelAt_36 : decode cX12_pixelAt 36 = .ok (.aload_n 0, 1) := qd_o42 0 36 qd_g595 rfl
theorem dX12_pixelAt_37 : decode cX12_pixelAt 37 = .ok (.getfield 22, 3) := qd_o180 0 37 qd_g595 rfl rfl
theorem qd_g596 : qd_bs cX12_pixelAt 40 [16, 32, 28, 104, 27, 96, 46, 172] = true := by decide +kernel
theorem dX12_pixelAt_40 : decode cX12_pixelAt 40 = .ok (.bipush 32, 2) := qd_o16 40 0 qd_g596 rfl rfl
theorem dX12_pixelAt_42 : decode cX12_pixelAt 42 = .ok (.iload_n 2, 1) := qd_o28 40 2 qd_g596 rfl
theorem dX12_pixelAt_43 : decode cX12_pixelAt 43 = .ok (.imul, 1) := qd_o104 40 3 qd_g596 rfl
theorem dX12_pixelAt_44 : decode cX12_pixelAt 44 = .ok (.iload_n 1, 1) := qd_o27 40 4 qd_g596 rfl
theorem dX12_pixelAt_45 : decode cX12_pixelAt 45 = .ok (.iadd, 1) := qd_o96 40 5 qd_g596 rfl
theorem dX12_pixelAt_46 : decode cX12_pixelAt 46 = .ok (.iaload, 1) := qd_o46 40 6 qd_g596 rfl
theorem dX12_pixelAt_47 : decode cX12_pixelAt 47 = .ok (.ireturn, 1) := qd_o172 40 7 qd_g596 rfl
theorem qd_g597 : qd_bs cX12_pixel 0 [42, 27, 28, 182, 1, 124, 172] = true := by decide +kernel
theorem dX12_pixel_0 : decode cX12_pixel 0 = .ok (.aload_n 0, 1) := qd_o42 0 0 qd_g597 rfl
theorem dX12_pixel_1 : decode cX12_pixel 1 = .ok (.iload_n 1, 1) := qd_o27 0 1 qd_g597 rfl
theorem dX12_pixel_2 : decode cX12_pixel 2 = .ok (.iload_n 2, 1) := qd_o28 0 2 qd_g597 rfl
theorem dX12_pixel_3 : decode cX12_pixel 3 = .ok (.invokevirtual 380, 3) := qd_o182 0 3 qd_g597 rfl rfl
theorem dX12_pixel_6 : decode cX12_pixel 6 = .ok (.ireturn, 1) := qd_o172 0 6 qd_g597 rfl
theorem qd_g598 : qd_bs cX12_pixelAgain 0 [42, 27, 28, 182, 1, 124, 172] = true := by decide +kernel
theorem dX12_pixelAgain_0 : decode cX12_pixelAgain 0 = .ok (.aload_n 0, 1) := qd_o42 0 0 qd_g598 rfl
theorem dX12_pixelAgain_1 : decode cX12_pixelAgain 1 = .ok (.iload_n 1, 1) := qd_o27 0 1 qd_g598 rfl
theorem dX12_pixelAgain_2 : decode cX12_pixelAgain 2 = .ok (.iload_n 2, 1) := qd_o28 0 2 qd_g598 rfl
theorem dX12_pixelAgain_3 : decode cX12_pixelAgain 3 = .ok (.invokevirtual 380, 3) := qd_o182 0 3 qd_g598 rfl rfl
theorem dX12_pixelAgain_6 : decode cX12_pixelAgain 6 = .ok (.ireturn, 1) := qd_o172 0 6 qd_g598 rfl
theorem qd_g599 : qd_bs cX12_sample 0 [42, 27, 3, 16, 39, 184, 0, 119, 153, 0, 7, 3, 167, 0, 4, 4, 182, 0, 164, 153, 0, 7, 3, 167, 0, 9, 42, 180, 0, 25, 27, 46, 172] = true := by decide +kernel
theorem dX12_sample_0 : decode cX12_sample 0 = .ok (.aload_n 0, 1) := qd_o42 0 0 qd_g599 rfl
theorem dX12_sample_1 : decode cX12_sample 1 = .ok (.iload_n 1, 1) := qd_o27 0 1 qd_g599 rfl
theorem dX12_sample_2 : decode cX12_sample 2 = .ok (.iconst 0, 1) := qd_o3 0 2 qd_g599 rfl
theorem dX12_sample_3 : decode cX12_sample 3 = .ok (.bipush 39, 2) := qd_o16 0 3 qd_g599 rfl rfl
theorem dX12_sample_5 : decode cX12_sample 5 = .ok (.invokestatic 119, 3) := qd_o184 0 5 qd_g599 rfl rfl
theorem dX12_sample_8 : decode cX12_sample 8 = .ok (.ifCond .eq 7, 3) := qd_o153 0 8 qd_g599 rfl rfl
theorem dX12_sample_11 : decode cX12_sample 11 = .ok (.iconst 0, 1) := qd_o3 0 11 qd_g599 rfl
theorem dX12_sample_12 : decode cX12_sample 12 = .ok (.goto 4, 3) := qd_o167 0 12 qd_g599 rfl rfl
theorem dX12_sample_15 : decode cX12_sample 15 = .ok (.iconst 1, 1) := qd_o4 0 15 qd_g599 rfl
theorem dX12_sample_16 : decode cX12_sample 16 = .ok (.invokevirtual 164, 3) := qd_o182 0 16 qd_g599 rfl rfl
theorem dX12_sample_19 : decode cX12_sample 19 = .ok (.ifCond .eq 7, 3) := qd_o153 0 19 qd_g599 rfl rfl
theorem dX12_sample_22 : decode cX12_sample 22 = .ok (.iconst 0, 1) := qd_o3 0 22 qd_g599 rfl
theorem dX12_sample_23 : decode cX12_sample 23 = .ok (.goto 9, 3) := qd_o167 0 23 qd_g599 rfl rfl
theorem dX12_sample_26 : decode cX12_sample 26 = .ok (.aload_n 0, 1) := qd_o42 0 26 qd_g599 rfl
theorem dX12_sample_27 : decode cX12_sample 27 = .ok (.getfield 25, 3) := qd_o180 0 27 qd_g599 rfl rfl
theorem dX12_sample_30 : decode cX12_sample 30 = .ok (.iload_n 1, 1) := qd_o27 0 30 qd_g599 rfl
theorem dX12_sample_31 : decode cX12_sample 31 = .ok (.iaload, 1) := qd_o46 0 31 qd_g599 rfl
theorem dX12_sample_32 : decode cX12_sample 32 = .ok (.ireturn, 1) := qd_o172 0 32 qd_g599 rfl
theorem qd_g600 : qd_bs cX12_level 0 [42, 27, 3, 5, 184, 0, 119, 153, 0, 7, 3, 167, 0, 4, 4, 182, 0, 164, 153, 0, 7, 3, 167, 0, 9, 42, 180, 0, 41, 27, 46, 172] = true := by decide +kernel
theorem dX12_level_0 : decode cX12_level 0 = .ok (.aload_n 0, 1) := qd_o42 0 0 qd_g600 rfl
theorem dX12_level_1 : decode cX12_level 1 = .ok (.iload_n 1, 1) := qd_o27 0 1 qd_g600 rfl
theorem dX12_level_2 : decode cX12_level 2 = .ok (.iconst 0, 1) := qd_o3 0 2 qd_g600 rfl
theorem dX12_level_3 : decode cX12_level 3 = .ok (.iconst 2, 1) := qd_o5 0 3 qd_g600 rfl
theorem dX12_level_4 : decode cX12_level 4 = .ok (.invokestatic 119, 3) := qd_o184 0 4 qd_g600 rfl rfl
theorem dX12_level_7 : decode cX12_level 7 = .ok (.ifCond .eq 7, 3) := qd_o153 0 7 qd_g600 rfl rfl
theorem dX12_level_10 : decode cX12_level 10 = .ok (.iconst 0, 1) := qd_o3 0 10 qd_g600 rfl
theorem dX12_level_11 : decode cX12_level 11 = .ok (.goto 4, 3) := qd_o167 0 11 qd_g600 rfl rfl
theorem dX12_level_14 : decode cX12_level 14 = .ok (.iconst 1, 1) := qd_o4 0 14 qd_g600 rfl
theorem dX12_level_15 : decode cX12_level 15 = .ok (.invokevirtual 164, 3) := qd_o182 0 15 qd_g600 rfl rfl
theorem dX12_level_18 : decode cX12_level 18 = .ok (.ifCond .eq 7, 3) := qd_o153 0 18 qd_g600 rfl rfl
theorem dX12_level_21 : decode cX12_level 21 = .ok (.iconst 0, 1) := qd_o3 0 21 qd_g600 rfl
theorem dX12_level_22 : decode cX12_level 22 = .ok (.goto 9, 3) := qd_o167 0 22 qd_g600 rfl rfl
theorem dX12_level_25 : decode cX12_level 25 = .ok (.aload_n 0, 1) := qd_o42 0 25 qd_g600 rfl
theorem dX12_level_26 : decode cX12_level 26 = .ok (.getfield 41, 3) := qd_o180 0 26 qd_g600 rfl rfl
theorem dX12_level_29 : decode cX12_level 29 = .ok (.iload_n 1, 1) := qd_o27 0 29 qd_g600 rfl
theorem dX12_level_30 : decode cX12_level 30 = .ok (.iaload, 1) := qd_o46 0 30 qd_g600 rfl
theorem dX12_level_31 : decode cX12_level 31 = .ok (.ireturn, 1) := qd_o172 0 31 qd_g600 rfl
theorem qd_g601 : qd_bs cX12_key 0 [42, 27, 3, 6, 184, 0, 119, 153, 0, 16, 28, 3, 6, 184, 0, 119, 153, 0, 7, 3, 167, 0, 4, 4, 182, 0, 164, 153, 0, 5, 3, 172, 42, 180, 0, 28, 7, 27, 104, 28] = true := by decide +kernel
theorem dX12_key_0 : decode cX12_key 0 = .ok (.aload_n 0, 1) := qd_o42 0 0 qd_g601 rfl
theorem dX12_key_1 : decode cX12_key 1 = .ok (.iload_n 1, 1) := qd_o27 0 1 qd_g601 rfl
theorem dX12_key_2 : decode cX12_key 2 = .ok (.iconst 0, 1) := qd_o3 0 2 qd_g601 rfl
theorem dX12_key_3 : decode cX12_key 3 = .ok (.iconst 3, 1) := qd_o6 0 3 qd_g601 rfl
theorem dX12_key_4 : decode cX12_key 4 = .ok (.invokestatic 119, 3) := qd_o184 0 4 qd_g601 rfl rfl
theorem dX12_key_7 : decode cX12_key 7 = .ok (.ifCond .eq 16, 3) := qd_o153 0 7 qd_g601 rfl rfl
theorem dX12_key_10 : decode cX12_key 10 = .ok (.iload_n 2, 1) := qd_o28 0 10 qd_g601 rfl
theorem dX12_key_11 : decode cX12_key 11 = .ok (.iconst 0, 1) := qd_o3 0 11 qd_g601 rfl
theorem dX12_key_12 : decode cX12_key 12 = .ok (.iconst 3, 1) := qd_o6 0 12 qd_g601 rfl
theorem dX12_key_13 : decode cX12_key 13 = .ok (.invokestatic 119, 3) := qd_o184 0 13 qd_g601 rfl rfl
theorem dX12_key_16 : decode cX12_key 16 = .ok (.ifCond .eq 7, 3) := qd_o153 0 16 qd_g601 rfl rfl
theorem dX12_key_19 : decode cX12_key 19 = .ok (.iconst 0, 1) := qd_o3 0 19 qd_g601 rfl
theorem dX12_key_20 : decode cX12_key 20 = .ok (.goto 4, 3) := qd_o167 0 20 qd_g601 rfl rfl
theorem dX12_key_23 : decode cX12_key 23 = .ok (.iconst 1, 1) := qd_o4 0 23 qd_g601 rfl
theorem dX12_key_24 : decode cX12_key 24 = .ok (.invokevirtual 164, 3) := qd_o182 0 24 qd_g601 rfl rfl
theorem dX12_key_27 : decode cX12_key 27 = .ok (.ifCond .eq 5, 3) := qd_o153 0 27 qd_g601 rfl rfl
theorem dX12_key_30 : decode cX12_key 30 = .ok (.iconst 0, 1) := qd_o3 0 30 qd_g601 rfl
theorem dX12_key_31 : decode cX12_key 31 = .ok (.ireturn, 1) := qd_o172 0 31 qd_g601 rfl
theorem dX12_key_32 : decode cX12_key 32 = .ok (.aload_n 0, 1) := qd_o42 0 32 qd_g601 rfl
theorem dX12_key_33 : decode cX12_key 33 = .ok (.getfield 28, 3) := qd_o180 0 33 qd_g601 rfl rfl
theorem dX12_key_36 : decode cX12_key 36 = .ok (.iconst 4, 1) := qd_o7 0 36 qd_g601 rfl
theorem dX12_key_37 : decode cX12_key 37 = .ok (.iload_n 1, 1) := qd_o27 0 37 qd_g601 rfl
theorem dX12_key_38 : decode cX12_key 38 = .ok (.imul, 1) := qd_o104 0 38 qd_g601 rfl
theorem dX12_key_39 : decode cX12_key 39 = .ok (.iload_n 2, 1) := qd_o28 0 39 qd_g601 rfl
theorem qd_g602 : qd_bs cX12_key 40 [96, 51, 54, 4, 42, 180, 0, 28, 7, 27, 104, 28, 96, 29, 84, 42, 182, 0, 173, 21, 4, 172] = true := by decide +kernel
theorem dX12_key_40 : decode cX12_key 40 = .ok (.iadd, 1) := qd_o96 40 0 qd_g602 rfl
theorem dX12_key_41 : decode cX12_key 41 = .ok (.baload, 1) := qd_o51 40 1 qd_g602 rfl
theorem dX12_key_42 : decode cX12_key 42 = .ok (.istore 4, 2) := qd_o54 40 2 qd_g602 rfl rfl
theorem dX12_key_44 : decode cX12_key 44 = .ok (.aload_n 0, 1) := qd_o42 40 4 qd_g602 rfl
theorem dX12_key_45 : decode cX12_key 45 = .ok (.getfield 28, 3) := qd_o180 40 5 qd_g602 rfl rfl
theorem dX12_key_48 : decode cX12_key 48 = .ok (.iconst 4, 1) := qd_o7 40 8 qd_g602 rfl
theorem dX12_key_49 : decode cX12_key 49 = .ok (.iload_n 1, 1) := qd_o27 40 9 qd_g602 rfl
theorem dX12_key_50 : decode cX12_key 50 = .ok (.imul, 1) := qd_o104 40 10 qd_g602 rfl
theorem dX12_key_51 : decode cX12_key 51 = .ok (.iload_n 2, 1) := qd_o28 40 11 qd_g602 rfl
theorem dX12_key_52 : decode cX12_key 52 = .ok (.iadd, 1) := qd_o96 40 12 qd_g602 rfl
theorem dX12_key_53 : decode cX12_key 53 = .ok (.iload_n 3, 1) := qd_o29 40 13 qd_g602 rfl
theorem dX12_key_54 : decode cX12_key 54 = .ok (.bastore, 1) := qd_o84 40 14 qd_g602 rfl
theorem dX12_key_55 : decode cX12_key 55 = .ok (.aload_n 0, 1) := qd_o42 40 15 qd_g602 rfl
theorem dX12_key_56 : decode cX12_key 56 = .ok (.invokevirtual 173, 3) := qd_o182 40 16 qd_g602 rfl rfl
theorem dX12_key_59 : decode cX12_key 59 = .ok (.iload 4, 2) := qd_o21 40 19 qd_g602 rfl rfl
theorem dX12_key_61 : decode cX12_key 61 = .ok (.ireturn, 1) := qd_o172 40 21 qd_g602 rfl
theorem qd_g603 : qd_bs cX12_columns 0 [42, 27, 3, 16, 15, 184, 0, 119, 153, 0, 7, 3, 167, 0, 4, 4, 182, 0, 164, 153, 0, 7, 3, 167, 0, 8, 42, 27, 182, 0, 139, 172] = true := by decide +kernel
theorem dX12_columns_0 : decode cX12_columns 0 = .ok (.aload_n 0, 1) := qd_o42 0 0 qd_g603 rfl
theorem dX12_columns_1 : decode cX12_columns 1 = .ok (.iload_n 1, 1) := qd_o27 0 1 qd_g603 rfl
theorem dX12_columns_2 : decode cX12_columns 2 = .ok (.iconst 0, 1) := qd_o3 0 2 qd_g603 rfl
theorem dX12_columns_3 : decode cX12_columns 3 = .ok (.bipush 15, 2) := qd_o16 0 3 qd_g603 rfl rfl
theorem dX12_columns_5 : decode cX12_columns 5 = .ok (.invokestatic 119, 3) := qd_o184 0 5 qd_g603 rfl rfl
theorem dX12_columns_8 : decode cX12_columns 8 = .ok (.ifCond .eq 7, 3) := qd_o153 0 8 qd_g603 rfl rfl
theorem dX12_columns_11 : decode cX12_columns 11 = .ok (.iconst 0, 1) := qd_o3 0 11 qd_g603 rfl
theorem dX12_columns_12 : decode cX12_columns 12 = .ok (.goto 4, 3) := qd_o167 0 12 qd_g603 rfl rfl
theorem dX12_columns_15 : decode cX12_columns 15 = .ok (.iconst 1, 1) := qd_o4 0 15 qd_g603 rfl
theorem dX12_columns_16 : decode cX12_columns 16 = .ok (.invokevirtual 164, 3) := qd_o182 0 16 qd_g603 rfl rfl
theorem dX12_columns_19 : decode cX12_columns 19 = .ok (.ifCond .eq 7, 3) := qd_o153 0 19 qd_g603 rfl rfl
theorem dX12_columns_22 : decode cX12_columns 22 = .ok (.iconst 0, 1) := qd_o3 0 22 qd_g603 rfl
theorem dX12_columns_23 : decode cX12_columns 23 = .ok (.goto 8, 3) := qd_o167 0 23 qd_g603 rfl rfl
theorem dX12_columns_26 : decode cX12_columns 26 = .ok (.aload_n 0, 1) := qd_o42 0 26 qd_g603 rfl
theorem dX12_columns_27 : decode cX12_columns 27 = .ok (.iload_n 1, 1) := qd_o27 0 27 qd_g603 rfl
theorem dX12_columns_28 : decode cX12_columns 28 = .ok (.invokevirtual 139, 3) := qd_o182 0 28 qd_g603 rfl rfl
theorem dX12_columns_31 : decode cX12_columns 31 = .ok (.ireturn, 1) := qd_o172 0 31 qd_g603 rfl
theorem qd_g604 : qd_bs cX12_joystick 0 [42, 27, 3, 16, 15, 184, 0, 119, 153, 0, 7, 3, 167, 0, 4, 4, 182, 0, 164, 153, 0, 5, 3, 172, 42, 180, 0, 50, 16, 12, 46, 61, 42, 180, 0, 50, 16, 12, 27, 79] = true := by decide +kernel
theorem dX12_joystick_0 : decode cX12_joystick 0 = .ok (.aload_n 0, 1) := qd_o42 0 0 qd_g604 rfl
theorem dX12_joystick_1 : decode cX12_joystick 1 = .ok (.iload_n 1, 1) := qd_o27 0 1 qd_g604 rfl
theorem dX12_joystick_2 : decode cX12_joystick 2 = .ok (.iconst 0, 1) := qd_o3 0 2 qd_g604 rfl
theorem dX12_joystick_3 : decode cX12_joystick 3 = .ok (.bipush 15, 2) := qd_o16 0 3 qd_g604 rfl rfl
theorem dX12_joystick_5 : decode cX12_joystick 5 = .ok (.invokestatic 119, 3) := qd_o184 0 5 qd_g604 rfl rfl
theorem dX12_joystick_8 : decode cX12_joystick 8 = .ok (.ifCond .eq 7, 3) := qd_o153 0 8 qd_g604 rfl rfl
theorem dX12_joystick_11 : decode cX12_joystick 11 = .ok (.iconst 0, 1) := qd_o3 0 11 qd_g604 rfl
theorem dX12_joystick_12 : decode cX12_joystick 12 = .ok (.goto 4, 3) := qd_o167 0 12 qd_g604 rfl rfl
theorem dX12_joystick_15 : decode cX12_joystick 15 = .ok (.iconst 1, 1) := qd_o4 0 15 qd_g604 rfl
theorem dX12_joystick_16 : decode cX12_joystick 16 = .ok (.invokevirtual 164, 3) := qd_o182 0 16 qd_g604 rfl rfl
theorem dX12_joystick_19 : decode cX12_joystick 19 = .ok (.ifCond .eq 5, 3) := qd_o153 0 19 qd_g604 rfl rfl
theorem dX12_joystick_22 : decode cX12_joystick 22 = .ok (.iconst 0, 1) := qd_o3 0 22 qd_g604 rfl
theorem dX12_joystick_23 : decode cX12_joystick 23 = .ok (.ireturn, 1) := qd_o172 0 23 qd_g604 rfl
theorem dX12_joystick_24 : decode cX12_joystick 24 = .ok (.aload_n 0, 1) := qd_o42 0 24 qd_g604 rfl
theorem dX12_joystick_25 : decode cX12_joystick 25 = .ok (.getfield 50, 3) := qd_o180 0 25 qd_g604 rfl rfl
theorem dX12_joystick_28 : decode cX12_joystick 28 = .ok (.bipush 12, 2) := qd_o16 0 28 qd_g604 rfl rfl
theorem dX12_joystick_30 : decode cX12_joystick 30 = .ok (.iaload, 1) := qd_o46 0 30 qd_g604 rfl
theorem dX12_joystick_31 : decode cX12_joystick 31 = .ok (.istore_n 2, 1) := qd_o61 0 31 qd_g604 rfl
theorem dX12_joystick_32 : decode cX12_joystick 32 = .ok (.aload_n 0, 1) := qd_o42 0 32 qd_g604 rfl
theorem dX12_joystick_33 : decode cX12_joystick 33 = .ok (.getfield 50, 3) := qd_o180 0 33 qd_g604 rfl rfl
theorem dX12_joystick_36 : decode cX12_joystick 36 = .ok (.bipush 12, 2) := qd_o16 0 36 qd_g604 rfl rfl
theorem dX12_joystick_38 : decode cX12_joystick 38 = .ok (.iload_n 1, 1) := qd_o27 0 38 qd_g604 rfl
theorem dX12_joystick_39 : decode cX12_joystick 39 = .ok (.iastore, 1) := qd_o79 0 39 qd_g604 rfl
theorem qd_g605 : qd_bs cX12_joystick 40 [42, 182, 0, 173, 28, 172] = true := by decide +kernel
theorem dX12_joystick_40 : decode cX12_joystick 40 = .ok (.aload_n 0, 1) := qd_o42 40 0 qd_g605 rfl
theorem dX12_joystick_41 : decode cX12_joystick 41 = .ok (.invokevirtual 173, 3) := qd_o182 40 1 qd_g605 rfl rfl
theorem dX12_joystick_44 : decode cX12_joystick 44 = .ok (.iload_n 2, 1) := qd_o28 40 4 qd_g605 rfl
theorem dX12_joystick_45 : decode cX12_joystick 45 = .ok (.ireturn, 1) := qd_o172 40 5 qd_g605 rfl
theorem qd_g606 : qd_bs cX12_addPulse 0 [42, 27, 4, 17, 3, 231, 184, 0, 119, 154, 0, 7, 4, 167, 0, 20, 42, 180, 0, 50, 16, 13, 46, 16, 40, 160, 0, 7, 5, 167, 0, 4, 3, 182, 0, 164, 153, 0, 5, 3] = true := by decide +kernel
theorem dX12_addPulse_0 : decode cX12_addPulse 0 = .ok (.aload_n 0, 1) := qd_o42 0 0 qd_g606 rfl
theorem dX12_addPulse_1 : decode cX12_addPulse 1 = .ok (.iload_n 1, 1) := qd_o27 0 1 qd_g606 rfl
theorem dX12_addPulse_2 : decode cX12_addPulse 2 = .ok (.iconst 1, 1) := qd_o4 0 2 qd_g606 rfl
theorem dX12_addPulse_3 : decode cX12_addPulse 3 = .ok (.sipush 999, 3) := qd_o17 0 3 qd_g606 rfl rfl
theorem dX12_addPulse_6 : decode cX12_addPulse 6 = .ok (.invokestatic 119, 3) := qd_o184 0 6 qd_g606 rfl rfl
theorem dX12_addPulse_9 : decode cX12_addPulse 9 = .ok (.ifCond .ne 7, 3) := qd_o154 0 9 qd_g606 rfl rfl
theorem dX12_addPulse_12 : decode cX12_addPulse 12 = .ok (.iconst 1, 1) := qd_o4 0 12 qd_g606 rfl
theorem dX12_addPulse_13 : decode cX12_addPulse 13 = .ok (.goto 20, 3) := qd_o167 0 13 qd_g606 rfl rfl
theorem dX12_addPulse_16 : decode cX12_addPulse 16 = .ok (.aload_n 0, 1) := qd_o42 0 16 qd_g606 rfl
theorem dX12_addPulse_17 : decode cX12_addPulse 17 = .ok (.getfield 50, 3) := qd_o180 0 17 qd_g606 rfl rfl
theorem dX12_addPulse_20 : decode cX12_addPulse 20 = .ok (.bipush 13, 2) := qd_o16 0 20 qd_g606 rfl rfl
theorem dX12_addPulse_22 : decode cX12_addPulse 22 = .ok (.iaload, 1) := qd_o46 0 22 qd_g606 rfl
theorem dX12_addPulse_23 : decode cX12_addPulse 23 = .ok (.bipush 40, 2) := qd_o16 0 23 qd_g606 rfl rfl
theorem dX12_addPulse_25 : decode cX12_addPulse 25 = .ok (.if_icmp .ne 7, 3) := qd_o160 0 25 qd_g606 rfl rfl
theorem dX12_addPulse_28 : decode cX12_addPulse 28 = .ok (.iconst 2, 1) := qd_o5 0 28 qd_g606 rfl
theorem dX12_addPulse_29 : decode cX12_addPulse 29 = .ok (.goto 4, 3) := qd_o167 0 29 qd_g606 rfl rfl
theorem dX12_addPulse_32 : decode cX12_addPulse 32 = .ok (.iconst 0, 1) := qd_o3 0 32 qd_g606 rfl
theorem dX12_addPulse_33 : decode cX12_addPulse 33 = .ok (.invokevirtual 164, 3) := qd_o182 0 33 qd_g606 rfl rfl
theorem dX12_addPulse_36 : decode cX12_addPulse 36 = .ok (.ifCond .eq 5, 3) := qd_o153 0 36 qd_g606 rfl rfl
theorem dX12_addPulse_39 : decode cX12_addPulse 39 = .ok (.iconst 0, 1) := qd_o3 0 39 qd_g606 rfl
theorem qd_g607 : qd_bs cX12_addPulse 40 [172, 42, 182, 0, 143, 154, 0, 11, 42, 180, 0, 50, 16, 15, 27, 79, 42, 180, 0, 32, 42, 180, 0, 50, 16, 13, 46, 27, 79, 42, 180, 0, 50, 16, 13, 92, 46, 4, 96, 79] = true := by decide +kernel
theorem dX12_addPulse_40 : decode cX12_addPulse 40 = .ok (.ireturn, 1) := qd_o172 40 0 qd_g607 rfl
theorem dX12_addPulse_41 : decode cX12_addPulse 41 = .ok (.aload_n 0, 1) := qd_o42 40 1 qd_g607 rfl
theorem dX12_addPulse_42 : decode cX12_addPulse 42 = .ok (.invokevirtual 143, 3) := qd_o182 40 2 qd_g607 rfl rfl
theorem dX12_addPulse_45 : decode cX12_addPulse 45 = .ok (.ifCond .ne 11, 3) := qd_o154 40 5 qd_g607 rfl rfl
theorem dX12_addPulse_48 : decode cX12_addPulse 48 = .ok (.aload_n 0, 1) := qd_o42 40 8 qd_g607 rfl
theorem dX12_addPulse_49 : decode cX12_addPulse 49 = .ok (.getfield 50, 3) := qd_o180 40 9 qd_g607 rfl rfl
theorem dX12_addPulse_52 : decode cX12_addPulse 52 = .ok (.bipush 15, 2) := qd_o16 40 12 qd_g607 rfl rfl
theorem dX12_addPulse_54 : decode cX12_addPulse 54 = .ok (.iload_n 1, 1) := qd_o27 40 14 qd_g607 rfl
theorem dX12_addPulse_55 : decode cX12_addPulse 55 = .ok (.iastore, 1) := qd_o79 40 15 qd_g607 rfl
theorem dX12_addPulse_56 : decode cX12_addPulse 56 = .ok (.aload_n 0, 1) := qd_o42 40 16 qd_g607 rfl
theorem dX12_addPulse_57 : decode cX12_addPulse 57 = .ok (.getfield 32, 3) := qd_o180 40 17 qd_g607 rfl rfl
theorem dX12_addPulse_60 : decode cX12_addPulse 60 = .ok (.aload_n 0, 1) := qd_o42 40 20 qd_g607 rfl
theorem dX12_addPulse_61 : decode cX12_addPulse 61 = .ok (.getfield 50, 3) := qd_o180 40 21 qd_g607 rfl rfl
theorem dX12_addPulse_64 : decode cX12_addPulse 64 = .ok (.bipush 13, 2) := qd_o16 40 24 qd_g607 rfl rfl
theorem dX12_addPulse_66 : decode cX12_addPulse 66 = .ok (.iaload, 1) := qd_o46 40 26 qd_g607 rfl
theorem dX12_addPulse_67 : decode cX12_addPulse 67 = .ok (.iload_n 1, 1) := qd_o27 40 27 qd_g607 rfl
theorem dX12_addPulse_68 : decode cX12_addPulse 68 = .ok (.iastore, 1) := qd_o79 40 28 qd_g607 rfl
theorem dX12_addPulse_69 : decode cX12_addPulse 69 = .ok (.aload_n 0, 1) := qd_o42 40 29 qd_g607 rfl
theorem dX12_addPulse_70 : decode cX12_addPulse 70 = .ok (.getfield 50, 3) := qd_o180 40 30 qd_g607 rfl rfl
theorem dX12_addPulse_73 : decode cX12_addPulse 73 = .ok (.bipush 13, 2) := qd_o16 40 33 qd_g607 rfl rfl
theorem dX12_addPulse_75 : decode cX12_addPulse 75 = .ok (.dup2, 1) := qd_o92 40 35 qd_g607 rfl
theorem dX12_addPulse_76 : decode cX12_addPulse 76 = .ok (.iaload, 1) := qd_o46 40 36 qd_g607 rfl
theorem dX12_addPulse_77 : decode cX12_addPulse 77 = .ok (.iconst 1, 1) := qd_o4 40 37 qd_g607 rfl
theorem dX12_addPulse_78 : decode cX12_addPulse 78 = .ok (.iadd, 1) := qd_o96 40 38 qd_g607 rfl
theorem dX12_addPulse_79 : decode cX12_addPulse 79 = .ok (.iastore, 1) := qd_o79 40 39 qd_g607 rfl
theorem qd_g608 : qd_bs cX12_addPulse 80 [42, 182, 0, 173, 42, 180, 0, 50, 16, 13, 46, 172] = true := by decide +kernel
theorem dX12_addPulse_80 : decode cX12_addPulse 80 = .ok (.aload_n 0, 1) := qd_o42 80 0 qd_g608 rfl
theorem dX12_addPulse_81 : decode cX12_addPulse 81 = .ok (.invokevirtual 173, 3) := qd_o182 80 1 qd_g608 rfl rfl
theorem dX12_addPulse_84 : decode cX12_addPulse 84 = .ok (.aload_n 0, 1) := qd_o42 80 4 qd_g608 rfl
theorem dX12_addPulse_85 : decode cX12_addPulse 85 = .ok (.getfield 50, 3) := qd_o180 80 5 qd_g608 rfl rfl
theorem dX12_addPulse_88 : decode cX12_addPulse 88 = .ok (.bipush 13, 2) := qd_o16 80 8 qd_g608 rfl rfl
theorem dX12_addPulse_90 : decode cX12_addPulse 90 = .ok (.iaload, 1) := qd_o46 80 10 qd_g608 rfl
theorem dX12_addPulse_91 : decode cX12_addPulse 91 = .ok (.ireturn, 1) := qd_o172 80 11 qd_g608 rfl
theorem qd_g609 : qd_bs cX12_rewind 0 [42, 3, 181, 0, 116, 42, 180, 0, 50, 16, 14, 46, 60, 42, 180, 0, 50, 16, 14, 3, 79, 42, 180, 0, 50, 16, 15, 42, 182, 0, 143, 153, 0, 12, 42, 180, 0, 32, 3, 46] = true := by decide +kernel
theorem dX12_rewind_0 : decode cX12_rewind 0 = .ok (.aload_n 0, 1) := qd_o42 0 0 qd_g609 rfl
theorem dX12_rewind_1 : decode cX12_rewind 1 = .ok (.iconst 0, 1) := qd_o3 0 1 qd_g609 rfl
theorem dX12_rewind_2 : decode cX12_rewind 2 = .ok (.putfield 116, 3) := qd_o181 0 2 qd_g609 rfl rfl
theorem dX12_rewind_5 : decode cX12_rewind 5 = .ok (.aload_n 0, 1) := qd_o42 0 5 qd_g609 rfl
theorem dX12_rewind_6 : decode cX12_rewind 6 = .ok (.getfield 50, 3) := qd_o180 0 6 qd_g609 rfl rfl
theorem dX12_rewind_9 : decode cX12_rewind 9 = .ok (.bipush 14, 2) := qd_o16 0 9 qd_g609 rfl rfl
theorem dX12_rewind_11 : decode cX12_rewind 11 = .ok (.iaload, 1) := qd_o46 0 11 qd_g609 rfl
theorem dX12_rewind_12 : decode cX12_rewind 12 = .ok (.istore_n 1, 1) := qd_o60 0 12 qd_g609 rfl
theorem dX12_rewind_13 : decode cX12_rewind 13 = .ok (.aload_n 0, 1) := qd_o42 0 13 qd_g609 rfl
theorem dX12_rewind_14 : decode cX12_rewind 14 = .ok (.getfield 50, 3) := qd_o180 0 14 qd_g609 rfl rfl
theorem dX12_rewind_17 : decode cX12_rewind 17 = .ok (.bipush 14, 2) := qd_o16 0 17 qd_g609 rfl rfl
theorem dX12_rewind_19 : decode cX12_rewind 19 = .ok (.iconst 0, 1) := qd_o3 0 19 qd_g609 rfl
theorem dX12_rewind_20 : decode cX12_rewind 20 = .ok (.iastore, 1) := qd_o79 0 20 qd_g609 rfl
theorem dX12_rewind_21 : decode cX12_rewind 21 = .ok (.aload_n 0, 1) := qd_o42 0 21 qd_g609 rfl
theorem dX12_rewind_22 : decode cX12_rewind 22 = .ok (.getfield 50, 3) := qd_o180 0 22 qd_g609 rfl rfl
theorem dX12_rewind_25 : decode cX12_rewind 25 = .ok (.bipush 15, 2) := qd_o16 0 25 qd_g609 rfl rfl
theorem dX12_rewind_27 : decode cX12_rewind 27 = .ok (.aload_n 0, 1) := qd_o42 0 27 qd_g609 rfl
theorem dX12_rewind_28 : decode cX12_rewind 28 = .ok (.invokevirtual 143, 3) := qd_o182 0 28 qd_g609 rfl rfl
theorem dX12_rewind_31 : decode cX12_rewind 31 = .ok (.ifCond .eq 12, 3) := qd_o153 0 31 qd_g609 rfl rfl
theorem dX12_rewind_34 : decode cX12_rewind 34 = .ok (.aload_n 0, 1) := qd_o42 0 34 qd_g609 rfl
theorem dX12_rewind_35 : decode cX12_rewind 35 = .ok (.getfield 32, 3) := qd_o180 0 35 qd_g609 rfl rfl
theorem dX12_rewind_38 : decode cX12_rewind 38 = .ok (.iconst 0, 1) := qd_o3 0 38 qd_g609 rfl
theorem dX12_rewind_39 : decode cX12_rewind 39 = .ok (.iaload, 1) := qd_o46 0 39 qd_g609 rfl
theorem qd_g610 : qd_bs cX12_rewind 40 [167, 0, 4, 3, 79, 42, 182, 0, 173, 27, 172] = true := by decide +kernel
theorem dX12_rewind_40 : decode cX12_rewind 40 = .ok (.goto 4, 3) := qd_o167 40 0 qd_g610 rfl rfl
theorem dX12_rewind_43 : decode cX12_rewind 43 = .ok (.iconst 0, 1) := qd_o3 40 3 qd_g610 rfl
theorem dX12_rewind_44 : decode cX12_rewind 44 = .ok (.iastore, 1) := qd_o79 40 4 qd_g610 rfl
theorem dX12_rewind_45 : decode cX12_rewind 45 = .ok (.aload_n 0, 1) := qd_o42 40 5 qd_g610 rfl
theorem dX12_rewind_46 : decode cX12_rewind 46 = .ok (.invokevirtual 173, 3) := qd_o182 40 6 qd_g610 rfl rfl
theorem dX12_rewind_49 : decode cX12_rewind 49 = .ok (.iload_n 1, 1) := qd_o27 40 9 qd_g610 rfl
theorem dX12_rewind_50 : decode cX12_rewind 50 = .ok (.ireturn, 1) := qd_o172 40 10 qd_g610 rfl
theorem qd_g611 : qd_bs cX12_pulsesLeft 0 [42, 42, 180, 0, 50, 16, 13, 46, 42, 180, 0, 50, 16, 14, 46, 100, 182, 0, 244, 172] = true := by decide +kernel
theorem dX12_pulsesLeft_0 : decode cX12_pulsesLeft 0 = .ok (.aload_n 0, 1) := qd_o42 0 0 qd_g611 rfl
theorem dX12_pulsesLeft_1 : decode cX12_pulsesLeft 1 = .ok (.aload_n 0, 1) := qd_o42 0 1 qd_g611 rfl
theorem dX12_pulsesLeft_2 : decode cX12_pulsesLeft 2 = .ok (.getfield 50, 3) := qd_o180 0 2 qd_g611 rfl rfl
theorem dX12_pulsesLeft_5 : decode cX12_pulsesLeft 5 = .ok (.bipush 13, 2) := qd_o16 0 5 qd_g611 rfl rfl
theorem dX12_pulsesLeft_7 : decode cX12_pulsesLeft 7 = .ok (.iaload, 1) := qd_o46 0 7 qd_g611 rfl
theorem dX12_pulsesLeft_8 : decode cX12_pulsesLeft 8 = .ok (.aload_n 0, 1) := qd_o42 0 8 qd_g611 rfl
theorem dX12_pulsesLeft_9 : decode cX12_pulsesLeft 9 = .ok (.getfield 50, 3) := qd_o180 0 9 qd_g611 rfl rfl
theorem dX12_pulsesLeft_12 : decode cX12_pulsesLeft 12 = .ok (.bipush 14, 2) := qd_o16 0 12 qd_g611 rfl rfl
theorem dX12_pulsesLeft_14 : decode cX12_pulsesLeft 14 = .ok (.iaload, 1) := qd_o46 0 14 qd_g611 rfl
theorem dX12_pulsesLeft_15 : decode cX12_pulsesLeft 15 = .ok (.isub, 1) := qd_o100 0 15 qd_g611 rfl
theorem dX12_pulsesLeft_16 : decode cX12_pulsesLeft 16 = .ok (.invokevirtual 244, 3) := qd_o182 0 16 qd_g611 rfl rfl
theorem dX12_pulsesLeft_19 : decode cX12_pulsesLeft 19 = .ok (.ireturn, 1) := qd_o172 0 19 qd_g611 rfl
theorem qd_g612 : qd_bs cX12_lays 0 [3, 54, 5, 21, 5, 21, 4, 162, 0, 21, 44, 29, 21, 5, 96, 42, 27, 21, 5, 96, 46, 79, 132, 5, 1, 167, 255, 234, 177] = true := by decide +kernel
theorem dX12_lays_0 : decode cX12_lays 0 = .ok (.iconst 0, 1) := qd_o3 0 0 qd_g612 rfl
theorem dX12_lays_1 : decode cX12_lays 1 = .ok (.istore 5, 2) := qd_o54 0 1 qd_g612 rfl rfl
theorem dX12_lays_3 : decode cX12_lays 3 = .ok (.iload 5, 2) := qd_o21 0 3 qd_g612 rfl rfl
theorem dX12_lays_5 : decode cX12_lays 5 = .ok (.iload 4, 2) := qd_o21 0 5 qd_g612 rfl rfl
theorem dX12_lays_7 : decode cX12_lays 7 = .ok (.if_icmp .ge 21, 3) := qd_o162 0 7 qd_g612 rfl rfl
theorem dX12_lays_10 : decode cX12_lays 10 = .ok (.aload_n 2, 1) := qd_o44 0 10 qd_g612 rfl
theorem dX12_lays_11 : decode cX12_lays 11 = .ok (.iload_n 3, 1) := qd_o29 0 11 qd_g612 rfl
theorem dX12_lays_12 : decode cX12_lays 12 = .ok (.iload 5, 2) := qd_o21 0 12 qd_g612 rfl rfl
theorem dX12_lays_14 : decode cX12_lays 14 = .ok (.iadd, 1) := qd_o96 0 14 qd_g612 rfl
theorem dX12_lays_15 : decode cX12_lays 15 = .ok (.aload_n 0, 1) := qd_o42 0 15 qd_g612 rfl
theorem dX12_lays_16 : decode cX12_lays 16 = .ok (.iload_n 1, 1) := qd_o27 0 16 qd_g612 rfl
theorem dX12_lays_17 : decode cX12_lays 17 = .ok (.iload 5, 2) := qd_o21 0 17 qd_g612 rfl rfl
theorem dX12_lays_19 : decode cX12_lays 19 = .ok (.iadd, 1) := qd_o96 0 19 qd_g612 rfl
theorem dX12_lays_20 : decode cX12_lays 20 = .ok (.iaload, 1) := qd_o46 0 20 qd_g612 rfl
theorem dX12_lays_21 : decode cX12_lays 21 = .ok (.iastore, 1) := qd_o79 0 21 qd_g612 rfl
theorem dX12_lays_22 : decode cX12_lays 22 = .ok (.iinc 5 1, 3) := qd_o132 0 22 qd_g612 rfl rfl
theorem dX12_lays_25 : decode cX12_lays 25 = .ok (.goto (-22), 3) := qd_o167 0 25 qd_g612 rfl rfl
theorem dX12_lays_28 : decode cX12_lays 28 = .ok (.return_, 1) := qd_o177 0 28 qd_g612 rfl
theorem qd_g613 : qd_bs cX12_laysFlags 0 [3, 54, 5, 21, 5, 21, 4, 162, 0, 21, 44, 29, 21, 5, 96, 42, 27, 21, 5, 96, 51, 84, 132, 5, 1, 167, 255, 234, 177] = true := by decide +kernel
theorem dX12_laysFlags_0 : decode cX12_laysFlags 0 = .ok (.iconst 0, 1) := qd_o3 0 0 qd_g613 rfl
theorem dX12_laysFlags_1 : decode cX12_laysFlags 1 = .ok (.istore 5, 2) := qd_o54 0 1 qd_g613 rfl rfl
theorem dX12_laysFlags_3 : decode cX12_laysFlags 3 = .ok (.iload 5, 2) := qd_o21 0 3 qd_g613 rfl rfl
theorem dX12_laysFlags_5 : decode cX12_laysFlags 5 = .ok (.iload 4, 2) := qd_o21 0 5 qd_g613 rfl rfl
theorem dX12_laysFlags_7 : decode cX12_laysFlags 7 = .ok (.if_icmp .ge 21, 3) := qd_o162 0 7 qd_g613 rfl rfl
theorem dX12_laysFlags_10 : decode cX12_laysFlags 10 = .ok (.aload_n 2, 1) := qd_o44 0 10 qd_g613 rfl
theorem dX12_laysFlags_11 : decode cX12_laysFlags 11 = .ok (.iload_n 3, 1) := qd_o29 0 11 qd_g613 rfl
theorem dX12_laysFlags_12 : decode cX12_laysFlags 12 = .ok (.iload 5, 2) := qd_o21 0 12 qd_g613 rfl rfl
theorem dX12_laysFlags_14 : decode cX12_laysFlags 14 = .ok (.iadd, 1) := qd_o96 0 14 qd_g613 rfl
theorem dX12_laysFlags_15 : decode cX12_laysFlags 15 = .ok (.aload_n 0, 1) := qd_o42 0 15 qd_g613 rfl
theorem dX12_laysFlags_16 : decode cX12_laysFlags 16 = .ok (.iload_n 1, 1) := qd_o27 0 16 qd_g613 rfl
theorem dX12_laysFlags_17 : decode cX12_laysFlags 17 = .ok (.iload 5, 2) := qd_o21 0 17 qd_g613 rfl rfl
theorem dX12_laysFlags_19 : decode cX12_laysFlags 19 = .ok (.iadd, 1) := qd_o96 0 19 qd_g613 rfl
theorem dX12_laysFlags_20 : decode cX12_laysFlags 20 = .ok (.baload, 1) := qd_o51 0 20 qd_g613 rfl
theorem dX12_laysFlags_21 : decode cX12_laysFlags 21 = .ok (.bastore, 1) := qd_o84 0 21 qd_g613 rfl
theorem dX12_laysFlags_22 : decode cX12_laysFlags 22 = .ok (.iinc 5 1, 3) := qd_o132 0 22 qd_g613 rfl rfl
theorem dX12_laysFlags_25 : decode cX12_laysFlags 25 = .ok (.goto (-22), 3) := qd_o167 0 25 qd_g613 rfl rfl
theorem dX12_laysFlags_28 : decode cX12_laysFlags 28 = .ok (.return_, 1) := qd_o177 0 28 qd_g613 rfl
theorem qd_g614 : qd_bs cX12_save 0 [42, 42, 180, 1, 127, 6, 160, 0, 7, 4, 167, 0, 4, 3, 182, 0, 164, 153, 0, 5, 3, 172, 42, 180, 1, 127, 60, 42, 180, 0, 7, 3, 42, 180, 0, 56, 17, 16, 0, 27] = true := by decide +kernel
theorem dX12_save_0 : decode cX12_save 0 = .ok (.aload_n 0, 1) := qd_o42 0 0 qd_g614 rfl
theorem dX12_save_1 : decode cX12_save 1 = .ok (.aload_n 0, 1) := qd_o42 0 1 qd_g614 rfl
theorem dX12_save_2 : decode cX12_save 2 = .ok (.getfield 383, 3) := qd_o180 0 2 qd_g614 rfl rfl
theorem dX12_save_5 : decode cX12_save 5 = .ok (.iconst 3, 1) := qd_o6 0 5 qd_g614 rfl
theorem dX12_save_6 : decode cX12_save 6 = .ok (.if_icmp .ne 7, 3) := qd_o160 0 6 qd_g614 rfl rfl
theorem dX12_save_9 : decode cX12_save 9 = .ok (.iconst 1, 1) := qd_o4 0 9 qd_g614 rfl
theorem dX12_save_10 : decode cX12_save 10 = .ok (.goto 4, 3) := qd_o167 0 10 qd_g614 rfl rfl
theorem dX12_save_13 : decode cX12_save 13 = .ok (.iconst 0, 1) := qd_o3 0 13 qd_g614 rfl
theorem dX12_save_14 : decode cX12_save 14 = .ok (.invokevirtual 164, 3) := qd_o182 0 14 qd_g614 rfl rfl
theorem dX12_save_17 : decode cX12_save 17 = .ok (.ifCond .eq 5, 3) := qd_o153 0 17 qd_g614 rfl rfl
theorem dX12_save_20 : decode cX12_save 20 = .ok (.iconst 0, 1) := qd_o3 0 20 qd_g614 rfl
theorem dX12_save_21 : decode cX12_save 21 = .ok (.ireturn, 1) := qd_o172 0 21 qd_g614 rfl
theorem dX12_save_22 : decode cX12_save 22 = .ok (.aload_n 0, 1) := qd_o42 0 22 qd_g614 rfl
theorem dX12_save_23 : decode cX12_save 23 = .ok (.getfield 383, 3) := qd_o180 0 23 qd_g614 rfl rfl
theorem dX12_save_26 : decode cX12_save 26 = .ok (.istore_n 1, 1) := qd_o60 0 26 qd_g614 rfl
theorem dX12_save_27 : decode cX12_save 27 = .ok (.aload_n 0, 1) := qd_o42 0 27 qd_g614 rfl
theorem dX12_save_28 : decode cX12_save 28 = .ok (.getfield 7, 3) := qd_o180 0 28 qd_g614 rfl rfl
theorem dX12_save_31 : decode cX12_save 31 = .ok (.iconst 0, 1) := qd_o3 0 31 qd_g614 rfl
theorem dX12_save_32 : decode cX12_save 32 = .ok (.aload_n 0, 1) := qd_o42 0 32 qd_g614 rfl
theorem dX12_save_33 : decode cX12_save 33 = .ok (.getfield 56, 3) := qd_o180 0 33 qd_g614 rfl rfl
theorem dX12_save_36 : decode cX12_save 36 = .ok (.sipush 4096, 3) := qd_o17 0 36 qd_g614 rfl rfl
theorem dX12_save_39 : decode cX12_save 39 = .ok (.iload_n 1, 1) := qd_o27 0 39 qd_g614 rfl
theorem qd_g615 : qd_bs cX12_save 40 [104, 17, 16, 0, 184, 1, 130, 42, 180, 0, 13, 3, 42, 180, 0, 59, 17, 2, 0, 27, 104, 17, 2, 0, 184, 1, 130, 42, 180, 0, 16, 3, 42, 180, 0, 62, 17, 8, 0, 27] = true := by decide +kernel
theorem dX12_save_40 : decode cX12_save 40 = .ok (.imul, 1) := qd_o104 40 0 qd_g615 rfl
theorem dX12_save_41 : decode cX12_save 41 = .ok (.sipush 4096, 3) := qd_o17 40 1 qd_g615 rfl rfl
theorem dX12_save_44 : decode cX12_save 44 = .ok (.invokestatic 386, 3) := qd_o184 40 4 qd_g615 rfl rfl
theorem dX12_save_47 : decode cX12_save 47 = .ok (.aload_n 0, 1) := qd_o42 40 7 qd_g615 rfl
theorem dX12_save_48 : decode cX12_save 48 = .ok (.getfield 13, 3) := qd_o180 40 8 qd_g615 rfl rfl
theorem dX12_save_51 : decode cX12_save 51 = .ok (.iconst 0, 1) := qd_o3 40 11 qd_g615 rfl
theorem dX12_save_52 : decode cX12_save 52 = .ok (.aload_n 0, 1) := qd_o42 40 12 qd_g615 rfl
theorem dX12_save_53 : decode cX12_save 53 = .ok (.getfield 59, 3) := qd_o180 40 13 qd_g615 rfl rfl
theorem dX12_save_56 : decode cX12_save 56 = .ok (.sipush 512, 3) := qd_o17 40 16 qd_g615 rfl rfl
theorem dX12_save_59 : decode cX12_save 59 = .ok (.iload_n 1, 1) := qd_o27 40 19 qd_g615 rfl
theorem dX12_save_60 : decode cX12_save 60 = .ok (.imul, 1) := qd_o104 40 20 qd_g615 rfl
theorem dX12_save_61 : decode cX12_save 61 = .ok (.sipush 512, 3) := qd_o17 40 21 qd_g615 rfl rfl
theorem dX12_save_64 : decode cX12_save 64 = .ok (.invokestatic 386, 3) := qd_o184 40 24 qd_g615 rfl rfl
theorem dX12_save_67 : decode cX12_save 67 = .ok (.aload_n 0, 1) := qd_o42 40 27 qd_g615 rfl
theorem dX12_save_68 : decode cX12_save 68 = .ok (.getfield 16, 3) := qd_o180 40 28 qd_g615 rfl rfl
theorem dX12_save_71 : decode cX12_save 71 = .ok (.iconst 0, 1) := qd_o3 40 31 qd_g615 rfl
theorem dX12_save_72 : decode cX12_save 72 = .ok (.aload_n 0, 1) := qd_o42 40 32 qd_g615 rfl
theorem dX12_save_73 : decode cX12_save 73 = .ok (.getfield 62, 3) := qd_o180 40 33 qd_g615 rfl rfl
theorem dX12_save_76 : decode cX12_save 76 = .ok (.sipush 2048, 3) := qd_o17 40 36 qd_g615 rfl rfl
theorem dX12_save_79 : decode cX12_save 79 = .ok (.iload_n 1, 1) := qd_o27 40 39 qd_g615 rfl
theorem qd_g616 : qd_bs cX12_save 80 [104, 17, 8, 0, 184, 1, 130, 42, 180, 0, 19, 3, 42, 180, 0, 65, 16, 48, 27, 104, 16, 48, 184, 1, 130, 42, 180, 0, 22, 3, 42, 180, 0, 68, 17, 4, 0, 27, 104] = true := by decide +kernel
theorem dX12_save_80 : decode cX12_save 80 = .ok (.imul, 1) := qd_o104 80 0 qd_g616 rfl
theorem dX12_save_81 : decode cX12_save 81 = .ok (.sipush 2048, 3) := qd_o17 80 1 qd_g616 rfl rfl
theorem dX12_save_84 : decode cX12_save 84 = .ok (.invokestatic 386, 3) := qd_o184 80 4 qd_g616 rfl rfl
theorem dX12_save_87 : decode cX12_save 87 = .ok (.aload_n 0, 1) := qd_o42 80 7 qd_g616 rfl
theorem dX12_save_88 : decode cX12_save 88 = .ok (.getfield 19, 3) := qd_o180 80 8 qd_g616 rfl rfl
theorem dX12_save_91 : decode cX12_save 91 = .ok (.iconst 0, 1) := qd_o3 80 11 qd_g616 rfl
theorem dX12_save_92 : decode cX12_save 92 = .ok (.aload_n 0, 1) := qd_o42 80 12 qd_g616 rfl
theorem dX12_save_93 : decode cX12_save 93 = .ok (.getfield 65, 3) := qd_o180 80 13 qd_g616 rfl rfl
theorem dX12_save_96 : decode cX12_save 96 = .ok (.bipush 48, 2) := qd_o16 80 16 qd_g616 rfl rfl
theorem dX12_save_98 : decode cX12_save 98 = .ok (.iload_n 1, 1) := qd_o27 80 18 qd_g616 rfl
theorem dX12_save_99 : decode cX12_save 99 = .ok (.imul, 1) := qd_o104 80 19 qd_g616 rfl
theorem dX12_save_100 : decode cX12_save 100 = .ok (.bipush 48, 2) := qd_o16 80 20 qd_g616 rfl rfl
theorem dX12_save_102 : decode cX12_save 102 = .ok (.invokestatic 386, 3) := qd_o184 80 22 qd_g616 rfl rfl
theorem dX12_save_105 : decode cX12_save 105 = .ok (.aload_n 0, 1) := qd_o42 80 25 qd_g616 rfl
theorem dX12_save_106 : decode cX12_save 106 = .ok (.getfield 22, 3) := qd_o180 80 26 qd_g616 rfl rfl
theorem dX12_save_109 : decode cX12_save 109 = .ok (.iconst 0, 1) := qd_o3 80 29 qd_g616 rfl
theorem dX12_save_110 : decode cX12_save 110 = .ok (.aload_n 0, 1) := qd_o42 80 30 qd_g616 rfl
theorem dX12_save_111 : decode cX12_save 111 = .ok (.getfield 68, 3) := qd_o180 80 31 qd_g616 rfl rfl
theorem dX12_save_114 : decode cX12_save 114 = .ok (.sipush 1024, 3) := qd_o17 80 34 qd_g616 rfl rfl
theorem dX12_save_117 : decode cX12_save 117 = .ok (.iload_n 1, 1) := qd_o27 80 37 qd_g616 rfl
theorem dX12_save_118 : decode cX12_save 118 = .ok (.imul, 1) := qd_o104 80 38 qd_g616 rfl
theorem qd_g617 : qd_bs cX12_save 119 [17, 4, 0, 184, 1, 130, 42, 180, 0, 25, 3, 42, 180, 0, 71, 16, 40, 27, 104, 16, 40, 184, 1, 130, 42, 180, 0, 32, 3, 42, 180, 0, 77, 16, 40, 27, 104, 16, 40] = true := by decide +kernel
theorem dX12_save_119 : decode cX12_save 119 = .ok (.sipush 1024, 3) := qd_o17 119 0 qd_g617 rfl rfl
theorem dX12_save_122 : decode cX12_save 122 = .ok (.invokestatic 386, 3) := qd_o184 119 3 qd_g617 rfl rfl
theorem dX12_save_125 : decode cX12_save 125 = .ok (.aload_n 0, 1) := qd_o42 119 6 qd_g617 rfl
theorem dX12_save_126 : decode cX12_save 126 = .ok (.getfield 25, 3) := qd_o180 119 7 qd_g617 rfl rfl
theorem dX12_save_129 : decode cX12_save 129 = .ok (.iconst 0, 1) := qd_o3 119 10 qd_g617 rfl
theorem dX12_save_130 : decode cX12_save 130 = .ok (.aload_n 0, 1) := qd_o42 119 11 qd_g617 rfl
theorem dX12_save_131 : decode cX12_save 131 = .ok (.getfield 71, 3) := qd_o180 119 12 qd_g617 rfl rfl
theorem dX12_save_134 : decode cX12_save 134 = .ok (.bipush 40, 2) := qd_o16 119 15 qd_g617 rfl rfl
theorem dX12_save_136 : decode cX12_save 136 = .ok (.iload_n 1, 1) := qd_o27 119 17 qd_g617 rfl
theorem dX12_save_137 : decode cX12_save 137 = .ok (.imul, 1) := qd_o104 119 18 qd_g617 rfl
theorem dX12_save_138 : decode cX12_save 138 = .ok (.bipush 40, 2) := qd_o16 119 19 qd_g617 rfl rfl
theorem dX12_save_140 : decode cX12_save 140 = .ok (.invokestatic 386, 3) := qd_o184 119 21 qd_g617 rfl rfl
theorem dX12_save_143 : decode cX12_save 143 = .ok (.aload_n 0, 1) := qd_o42 119 24 qd_g617 rfl
theorem dX12_save_144 : decode cX12_save 144 = .ok (.getfield 32, 3) := qd_o180 119 25 qd_g617 rfl rfl
theorem dX12_save_147 : decode cX12_save 147 = .ok (.iconst 0, 1) := qd_o3 119 28 qd_g617 rfl
theorem dX12_save_148 : decode cX12_save 148 = .ok (.aload_n 0, 1) := qd_o42 119 29 qd_g617 rfl
theorem dX12_save_149 : decode cX12_save 149 = .ok (.getfield 77, 3) := qd_o180 119 30 qd_g617 rfl rfl
theorem dX12_save_152 : decode cX12_save 152 = .ok (.bipush 40, 2) := qd_o16 119 33 qd_g617 rfl rfl
theorem dX12_save_154 : decode cX12_save 154 = .ok (.iload_n 1, 1) := qd_o27 119 35 qd_g617 rfl
theorem dX12_save_155 : decode cX12_save 155 = .ok (.imul, 1) := qd_o104 119 36 qd_g617 rfl
theorem dX12_save_156 : decode cX12_save 156 = .ok (.bipush 40, 2) := qd_o16 119 37 qd_g617 rfl rfl
theorem qd_g618 : qd_bs cX12_save 158 [184, 1, 130, 42, 180, 0, 35, 3, 42, 180, 0, 80, 16, 16, 27, 104, 16, 16, 184, 1, 130, 42, 180, 0, 38, 3, 42, 180, 0, 83, 6, 27, 104, 6, 184, 1, 130, 42] = true := by decide +kernel
theorem dX12_save_158 : decode cX12_save 158 = .ok (.invokestatic 386, 3) := qd_o184 158 0 qd_g618 rfl rfl
theorem dX12_save_161 : decode cX12_save 161 = .ok (.aload_n 0, 1) := qd_o42 158 3 qd_g618 rfl
theorem dX12_save_162 : decode cX12_save 162 = .ok (.getfield 35, 3) := qd_o180 158 4 qd_g618 rfl rfl
theorem dX12_save_165 : decode cX12_save 165 = .ok (.iconst 0, 1) := qd_o3 158 7 qd_g618 rfl
theorem dX12_save_166 : decode cX12_save 166 = .ok (.aload_n 0, 1) := qd_o42 158 8 qd_g618 rfl
theorem dX12_save_167 : decode cX12_save 167 = .ok (.getfield 80, 3) := qd_o180 158 9 qd_g618 rfl rfl
theorem dX12_save_170 : decode cX12_save 170 = .ok (.bipush 16, 2) := qd_o16 158 12 qd_g618 rfl rfl
theorem dX12_save_172 : decode cX12_save 172 = .ok (.iload_n 1, 1) := qd_o27 158 14 qd_g618 rfl
theorem dX12_save_173 : decode cX12_save 173 = .ok (.imul, 1) := qd_o104 158 15 qd_g618 rfl
theorem dX12_save_174 : decode cX12_save 174 = .ok (.bipush 16, 2) := qd_o16 158 16 qd_g618 rfl rfl
theorem dX12_save_176 : decode cX12_save 176 = .ok (.invokestatic 386, 3) := qd_o184 158 18 qd_g618 rfl rfl
theorem dX12_save_179 : decode cX12_save 179 = .ok (.aload_n 0, 1) := qd_o42 158 21 qd_g618 rfl
theorem dX12_save_180 : decode cX12_save 180 = .ok (.getfield 38, 3) := qd_o180 158 22 qd_g618 rfl rfl
theorem dX12_save_183 : decode cX12_save 183 = .ok (.iconst 0, 1) := qd_o3 158 25 qd_g618 rfl
theorem dX12_save_184 : decode cX12_save 184 = .ok (.aload_n 0, 1) := qd_o42 158 26 qd_g618 rfl
theorem dX12_save_185 : decode cX12_save 185 = .ok (.getfield 83, 3) := qd_o180 158 27 qd_g618 rfl rfl
theorem dX12_save_188 : decode cX12_save 188 = .ok (.iconst 3, 1) := qd_o6 158 30 qd_g618 rfl
theorem dX12_save_189 : decode cX12_save 189 = .ok (.iload_n 1, 1) := qd_o27 158 31 qd_g618 rfl
theorem dX12_save_190 : decode cX12_save 190 = .ok (.imul, 1) := qd_o104 158 32 qd_g618 rfl
theorem dX12_save_191 : decode cX12_save 191 = .ok (.iconst 3, 1) := qd_o6 158 33 qd_g618 rfl
theorem dX12_save_192 : decode cX12_save 192 = .ok (.invokestatic 386, 3) := qd_o184 158 34 qd_g618 rfl rfl
theorem dX12_save_195 : decode cX12_save 195 = .ok (.aload_n 0, 1) := qd_o42 158 37 qd_g618 rfl
theorem qd_g619 : qd_bs cX12_save 196 [180, 0, 41, 3, 42, 180, 0, 86, 6, 27, 104, 6, 184, 1, 130, 42, 180, 0, 44, 3, 42, 180, 0, 89, 6, 27, 104, 6, 184, 1, 130, 42, 180, 0, 47, 3, 42, 180, 0, 92] = true := by decide +kernel
theorem dX12_save_196 : decode cX12_save 196 = .ok (.getfield 41, 3) := qd_o180 196 0 qd_g619 rfl rfl
theorem dX12_save_199 : decode cX12_save 199 = .ok (.iconst 0, 1) := qd_o3 196 3 qd_g619 rfl
theorem dX12_save_200 : decode cX12_save 200 = .ok (.aload_n 0, 1) := qd_o42 196 4 qd_g619 rfl
theorem dX12_save_201 : decode cX12_save 201 = .ok (.getfield 86, 3) := qd_o180 196 5 qd_g619 rfl rfl
theorem dX12_save_204 : decode cX12_save 204 = .ok (.iconst 3, 1) := qd_o6 196 8 qd_g619 rfl
theorem dX12_save_205 : decode cX12_save 205 = .ok (.iload_n 1, 1) := qd_o27 196 9 qd_g619 rfl
theorem dX12_save_206 : decode cX12_save 206 = .ok (.imul, 1) := qd_o104 196 10 qd_g619 rfl
theorem dX12_save_207 : decode cX12_save 207 = .ok (.iconst 3, 1) := qd_o6 196 11 qd_g619 rfl
theorem dX12_save_208 : decode cX12_save 208 = .ok (.invokestatic 386, 3) := qd_o184 196 12 qd_g619 rfl rfl
theorem dX12_save_211 : decode cX12_save 211 = .ok (.aload_n 0, 1) := qd_o42 196 15 qd_g619 rfl
theorem dX12_save_212 : decode cX12_save 212 = .ok (.getfield 44, 3) := qd_o180 196 16 qd_g619 rfl rfl
theorem dX12_save_215 : decode cX12_save 215 = .ok (.iconst 0, 1) := qd_o3 196 19 qd_g619 rfl
theorem dX12_save_216 : decode cX12_save 216 = .ok (.aload_n 0, 1) := qd_o42 196 20 qd_g619 rfl
theorem dX12_save_217 : decode cX12_save 217 = .ok (.getfield 89, 3) := qd_o180 196 21 qd_g619 rfl rfl
theorem dX12_save_220 : decode cX12_save 220 = .ok (.iconst 3, 1) := qd_o6 196 24 qd_g619 rfl
theorem dX12_save_221 : decode cX12_save 221 = .ok (.iload_n 1, 1) := qd_o27 196 25 qd_g619 rfl
theorem dX12_save_222 : decode cX12_save 222 = .ok (.imul, 1) := qd_o104 196 26 qd_g619 rfl
theorem dX12_save_223 : decode cX12_save 223 = .ok (.iconst 3, 1) := qd_o6 196 27 qd_g619 rfl
theorem dX12_save_224 : decode cX12_save 224 = .ok (.invokestatic 386, 3) := qd_o184 196 28 qd_g619 rfl rfl
theorem dX12_save_227 : decode cX12_save 227 = .ok (.aload_n 0, 1) := qd_o42 196 31 qd_g619 rfl
theorem dX12_save_228 : decode cX12_save 228 = .ok (.getfield 47, 3) := qd_o180 196 32 qd_g619 rfl rfl
theorem dX12_save_231 : decode cX12_save 231 = .ok (.iconst 0, 1) := qd_o3 196 35 qd_g619 rfl
theorem dX12_save_232 : decode cX12_save 232 = .ok (.aload_n 0, 1) := qd_o42 196 36 qd_g619 rfl
theorem dX12_save_233 : decode cX12_save 233 = .ok (.getfield 92, 3) := qd_o180 196 37 qd_g619 rfl rfl
theorem qd_g620 : qd_bs cX12_save 236 [6, 27, 104, 6, 184, 1, 130, 42, 180, 0, 50, 3, 42, 180, 0, 95, 16, 24, 27, 104, 16, 24, 184, 1, 130, 42, 180, 0, 28, 3, 42, 180, 0, 74, 16, 16, 27, 104, 16, 16] = true := by decide +kernel
theorem dX12_save_236 : decode cX12_save 236 = .ok (.iconst 3, 1) := qd_o6 236 0 qd_g620 rfl
theorem dX12_save_237 : decode cX12_save 237 = .ok (.iload_n 1, 1) := qd_o27 236 1 qd_g620 rfl
theorem dX12_save_238 : decode cX12_save 238 = .ok (.imul, 1) := qd_o104 236 2 qd_g620 rfl
theorem dX12_save_239 : decode cX12_save 239 = .ok (.iconst 3, 1) := qd_o6 236 3 qd_g620 rfl
theorem dX12_save_240 : decode cX12_save 240 = .ok (.invokestatic 386, 3) := qd_o184 236 4 qd_g620 rfl rfl
theorem dX12_save_243 : decode cX12_save 243 = .ok (.aload_n 0, 1) := qd_o42 236 7 qd_g620 rfl
theorem dX12_save_244 : decode cX12_save 244 = .ok (.getfield 50, 3) := qd_o180 236 8 qd_g620 rfl rfl
theorem dX12_save_247 : decode cX12_save 247 = .ok (.iconst 0, 1) := qd_o3 236 11 qd_g620 rfl
theorem dX12_save_248 : decode cX12_save 248 = .ok (.aload_n 0, 1) := qd_o42 236 12 qd_g620 rfl
theorem dX12_save_249 : decode cX12_save 249 = .ok (.getfield 95, 3) := qd_o180 236 13 qd_g620 rfl rfl
theorem dX12_save_252 : decode cX12_save 252 = .ok (.bipush 24, 2) := qd_o16 236 16 qd_g620 rfl rfl
theorem dX12_save_254 : decode cX12_save 254 = .ok (.iload_n 1, 1) := qd_o27 236 18 qd_g620 rfl
theorem dX12_save_255 : decode cX12_save 255 = .ok (.imul, 1) := qd_o104 236 19 qd_g620 rfl
theorem dX12_save_256 : decode cX12_save 256 = .ok (.bipush 24, 2) := qd_o16 236 20 qd_g620 rfl rfl
theorem dX12_save_258 : decode cX12_save 258 = .ok (.invokestatic 386, 3) := qd_o184 236 22 qd_g620 rfl rfl
theorem dX12_save_261 : decode cX12_save 261 = .ok (.aload_n 0, 1) := qd_o42 236 25 qd_g620 rfl
theorem dX12_save_262 : decode cX12_save 262 = .ok (.getfield 28, 3) := qd_o180 236 26 qd_g620 rfl rfl
theorem dX12_save_265 : decode cX12_save 265 = .ok (.iconst 0, 1) := qd_o3 236 29 qd_g620 rfl
theorem dX12_save_266 : decode cX12_save 266 = .ok (.aload_n 0, 1) := qd_o42 236 30 qd_g620 rfl
theorem dX12_save_267 : decode cX12_save 267 = .ok (.getfield 74, 3) := qd_o180 236 31 qd_g620 rfl rfl
theorem dX12_save_270 : decode cX12_save 270 = .ok (.bipush 16, 2) := qd_o16 236 34 qd_g620 rfl rfl
theorem dX12_save_272 : decode cX12_save 272 = .ok (.iload_n 1, 1) := qd_o27 236 36 qd_g620 rfl
theorem dX12_save_273 : decode cX12_save 273 = .ok (.imul, 1) := qd_o104 236 37 qd_g620 rfl
theorem dX12_save_274 : decode cX12_save 274 = .ok (.bipush 16, 2) := qd_o16 236 38 qd_g620 rfl rfl
theorem qd_g621 : qd_bs cX12_save 276 [184, 1, 134, 42, 180, 0, 53, 3, 42, 180, 0, 98, 16, 8, 27, 104, 16, 8, 184, 1, 134, 42, 180, 0, 101, 5, 27, 104, 42, 180, 0, 123, 80, 42, 180, 0, 101, 5, 27, 104] = true := by decide +kernel
theorem dX12_save_276 : decode cX12_save 276 = .ok (.invokestatic 390, 3) := qd_o184 276 0 qd_g621 rfl rfl
theorem dX12_save_279 : decode cX12_save 279 = .ok (.aload_n 0, 1) := qd_o42 276 3 qd_g621 rfl
theorem dX12_save_280 : decode cX12_save 280 = .ok (.getfield 53, 3) := qd_o180 276 4 qd_g621 rfl rfl
theorem dX12_save_283 : decode cX12_save 283 = .ok (.iconst 0, 1) := qd_o3 276 7 qd_g621 rfl
theorem dX12_save_284 : decode cX12_save 284 = .ok (.aload_n 0, 1) := qd_o42 276 8 qd_g621 rfl
theorem dX12_save_285 : decode cX12_save 285 = .ok (.getfield 98, 3) := qd_o180 276 9 qd_g621 rfl rfl
theorem dX12_save_288 : decode cX12_save 288 = .ok (.bipush 8, 2) := qd_o16 276 12 qd_g621 rfl rfl
theorem dX12_save_290 : decode cX12_save 290 = .ok (.iload_n 1, 1) := qd_o27 276 14 qd_g621 rfl
theorem dX12_save_291 : decode cX12_save 291 = .ok (.imul, 1) := qd_o104 276 15 qd_g621 rfl
theorem dX12_save_292 : decode cX12_save 292 = .ok (.bipush 8, 2) := qd_o16 276 16 qd_g621 rfl rfl
theorem dX12_save_294 : decode cX12_save 294 = .ok (.invokestatic 390, 3) := qd_o184 276 18 qd_g621 rfl rfl
theorem dX12_save_297 : decode cX12_save 297 = .ok (.aload_n 0, 1) := qd_o42 276 21 qd_g621 rfl
theorem dX12_save_298 : decode cX12_save 298 = .ok (.getfield 101, 3) := qd_o180 276 22 qd_g621 rfl rfl
theorem dX12_save_301 : decode cX12_save 301 = .ok (.iconst 2, 1) := qd_o5 276 25 qd_g621 rfl
theorem dX12_save_302 : decode cX12_save 302 = .ok (.iload_n 1, 1) := qd_o27 276 26 qd_g621 rfl
theorem dX12_save_303 : decode cX12_save 303 = .ok (.imul, 1) := qd_o104 276 27 qd_g621 rfl
theorem dX12_save_304 : decode cX12_save 304 = .ok (.aload_n 0, 1) := qd_o42 276 28 qd_g621 rfl
theorem dX12_save_305 : decode cX12_save 305 = .ok (.getfield 123, 3) := qd_o180 276 29 qd_g621 rfl rfl
theorem dX12_save_308 : decode cX12_save 308 = .ok (.lastore, 1) := qd_o80 276 32 qd_g621 rfl
theorem dX12_save_309 : decode cX12_save 309 = .ok (.aload_n 0, 1) := qd_o42 276 33 qd_g621 rfl
theorem dX12_save_310 : decode cX12_save 310 = .ok (.getfield 101, 3) := qd_o180 276 34 qd_g621 rfl rfl
theorem dX12_save_313 : decode cX12_save 313 = .ok (.iconst 2, 1) := qd_o5 276 37 qd_g621 rfl
theorem dX12_save_314 : decode cX12_save 314 = .ok (.iload_n 1, 1) := qd_o27 276 38 qd_g621 rfl
theorem dX12_save_315 : decode cX12_save 315 = .ok (.imul, 1) := qd_o104 276 39 qd_g621 rfl
theorem qd_g622 : qd_bs cX12_save 316 [4, 96, 42, 180, 0, 238, 80, 42, 89, 180, 1, 127, 4, 96, 181, 1, 127, 27, 172] = true := by decide +kernel
theorem dX12_save_316 : decode cX12_save 316 = .ok (.iconst 1, 1) := qd_o4 316 0 qd_g622 rfl
theorem dX12_save_317 : decode cX12_save 317 = .ok (.iadd, 1) := qd_o96 316 1 qd_g622 rfl
theorem dX12_save_318 : decode cX12_save 318 = .ok (.aload_n 0, 1) := qd_o42 316 2 qd_g622 rfl
theorem dX12_save_319 : decode cX12_save 319 = .ok (.getfield 238, 3) := qd_o180 316 3 qd_g622 rfl rfl
theorem dX12_save_322 : decode cX12_save 322 = .ok (.lastore, 1) := qd_o80 316 6 qd_g622 rfl
theorem dX12_save_323 : decode cX12_save 323 = .ok (.aload_n 0, 1) := qd_o42 316 7 qd_g622 rfl
theorem dX12_save_324 : decode cX12_save 324 = .ok (.dup, 1) := qd_o89 316 8 qd_g622 rfl
theorem dX12_save_325 : decode cX12_save 325 = .ok (.getfield 383, 3) := qd_o180 316 9 qd_g622 rfl rfl
theorem dX12_save_328 : decode cX12_save 328 = .ok (.iconst 1, 1) := qd_o4 316 12 qd_g622 rfl
theorem dX12_save_329 : decode cX12_save 329 = .ok (.iadd, 1) := qd_o96 316 13 qd_g622 rfl
theorem dX12_save_330 : decode cX12_save 330 = .ok (.putfield 383, 3) := qd_o181 316 14 qd_g622 rfl rfl
theorem dX12_save_333 : decode cX12_save 333 = .ok (.iload_n 1, 1) := qd_o27 316 17 qd_g622 rfl
theorem dX12_save_334 : decode cX12_save 334 = .ok (.ireturn, 1) := qd_o172 316 18 qd_g622 rfl
theorem qd_g623 : qd_bs cX12_unlike 0 [3, 61, 3, 62, 29, 17, 16, 0, 162, 0, 38, 28, 42, 180, 0, 7, 29, 46, 42, 180, 0, 56, 17, 16, 0, 27, 104, 29, 96, 46, 160, 0, 7, 3, 167, 0, 4, 4, 96, 61] = true := by decide +kernel
theorem dX12_unlike_0 : decode cX12_unlike 0 = .ok (.iconst 0, 1) := qd_o3 0 0 qd_g623 rfl
theorem dX12_unlike_1 : decode cX12_unlike 1 = .ok (.istore_n 2, 1) := qd_o61 0 1 qd_g623 rfl
theorem dX12_unlike_2 : decode cX12_unlike 2 = .ok (.iconst 0, 1) := qd_o3 0 2 qd_g623 rfl
theorem dX12_unlike_3 : decode cX12_unlike 3 = .ok (.istore_n 3, 1) := qd_o62 0 3 qd_g623 rfl
theorem dX12_unlike_4 : decode cX12_unlike 4 = .ok (.iload_n 3, 1) := qd_o29 0 4 qd_g623 rfl
theorem dX12_unlike_5 : decode cX12_unlike 5 = .ok (.sipush 4096, 3) := qd_o17 0 5 qd_g623 rfl rfl
theorem dX12_unlike_8 : decode cX12_unlike 8 = .ok (.if_icmp .ge 38, 3) := qd_o162 0 8 qd_g623 rfl rfl
theorem dX12_unlike_11 : decode cX12_unlike 11 = .ok (.iload_n 2, 1) := qd_o28 0 11 qd_g623 rfl
theorem dX12_unlike_12 : decode cX12_unlike 12 = .ok (.aload_n 0, 1) := qd_o42 0 12 qd_g623 rfl
theorem dX12_unlike_13 : decode cX12_unlike 13 = .ok (.getfield 7, 3) := qd_o180 0 13 qd_g623 rfl rfl
theorem dX12_unlike_16 : decode cX12_unlike 16 = .ok (.iload_n 3, 1) := qd_o29 0 16 qd_g623 rfl
theorem dX12_unlike_17 : decode cX12_unlike 17 = .ok (.iaload, 1) := qd_o46 0 17 qd_g623 rfl
theorem dX12_unlike_18 : decode cX12_unlike 18 = .ok (.aload_n 0, 1) := qd_o42 0 18 qd_g623 rfl
theorem dX12_unlike_19 : decode cX12_unlike 19 = .ok (.getfield 56, 3) := qd_o180 0 19 qd_g623 rfl rfl
theorem dX12_unlike_22 : decode cX12_unlike 22 = .ok (.sipush 4096, 3) := qd_o17 0 22 qd_g623 rfl rfl
theorem dX12_unlike_25 : decode cX12_unlike 25 = .ok (.iload_n 1, 1) := qd_o27 0 25 qd_g623 rfl
theorem dX12_unlike_26 : decode cX12_unlike 26 = .ok (.imul, 1) := qd_o104 0 26 qd_g623 rfl
theorem dX12_unlike_27 : decode cX12_unlike 27 = .ok (.iload_n 3, 1) := qd_o29 0 27 qd_g623 rfl
theorem dX12_unlike_28 : decode cX12_unlike 28 = .ok (.iadd, 1) := qd_o96 0 28 qd_g623 rfl
theorem dX12_unlike_29 : decode cX12_unlike 29 = .ok (.iaload, 1) := qd_o46 0 29 qd_g623 rfl
theorem dX12_unlike_30 : decode cX12_unlike 30 = .ok (.if_icmp .ne 7, 3) := qd_o160 0 30 qd_g623 rfl rfl
theorem dX12_unlike_33 : decode cX12_unlike 33 = .ok (.iconst 0, 1) := qd_o3 0 33 qd_g623 rfl
theorem dX12_unlike_34 : decode cX12_unlike 34 = .ok (.goto 4, 3) := qd_o167 0 34 qd_g623 rfl rfl
theorem dX12_unlike_37 : decode cX12_unlike 37 = .ok (.iconst 1, 1) := qd_o4 0 37 qd_g623 rfl
theorem dX12_unlike_38 : decode cX12_unlike 38 = .ok (.iadd, 1) := qd_o96 0 38 qd_g623 rfl
theorem dX12_unlike_39 : decode cX12_unlike 39 = .ok (.istore_n 2, 1) := qd_o61 0 39 qd_g623 rfl
theorem qd_g624 : qd_bs cX12_unlike 40 [132, 3, 1, 167, 255, 217, 28, 172] = true := by decide +kernel
theorem dX12_unlike_40 : decode cX12_unlike 40 = .ok (.iinc 3 1, 3) := qd_o132 40 0 qd_g624 rfl rfl
theorem dX12_unlike_43 : decode cX12_unlike 43 = .ok (.goto (-39), 3) := qd_o167 40 3 qd_g624 rfl rfl
theorem dX12_unlike_46 : decode cX12_unlike 46 = .ok (.iload_n 2, 1) := qd_o28 40 6 qd_g624 rfl
theorem dX12_unlike_47 : decode cX12_unlike 47 = .ok (.ireturn, 1) := qd_o172 40 7 qd_g624 rfl
theorem qd_g625 : qd_bs cX12_restore 0 [42, 27, 3, 42, 180, 1, 127, 4, 100, 184, 0, 119, 153, 0, 7, 3, 167, 0, 4, 4, 182, 0, 164, 153, 0, 5, 3, 172, 27, 61, 42, 28, 182, 1, 138, 62, 42, 180, 0, 56] = true := by decide +kernel
theorem dX12_restore_0 : decode cX12_restore 0 = .ok (.aload_n 0, 1) := qd_o42 0 0 qd_g625 rfl
theorem dX12_restore_1 : decode cX12_restore 1 = .ok (.iload_n 1, 1) := qd_o27 0 1 qd_g625 rfl
theorem dX12_restore_2 : decode cX12_restore 2 = .ok (.iconst 0, 1) := qd_o3 0 2 qd_g625 rfl
theorem dX12_restore_3 : decode cX12_restore 3 = .ok (.aload_n 0, 1) := qd_o42 0 3 qd_g625 rfl
theorem dX12_restore_4 : decode cX12_restore 4 = .ok (.getfield 383, 3) := qd_o180 0 4 qd_g625 rfl rfl
theorem dX12_restore_7 : decode cX12_restore 7 = .ok (.iconst 1, 1) := qd_o4 0 7 qd_g625 rfl
theorem dX12_restore_8 : decode cX12_restore 8 = .ok (.isub, 1) := qd_o100 0 8 qd_g625 rfl
theorem dX12_restore_9 : decode cX12_restore 9 = .ok (.invokestatic 119, 3) := qd_o184 0 9 qd_g625 rfl rfl
theorem dX12_restore_12 : decode cX12_restore 12 = .ok (.ifCond .eq 7, 3) := qd_o153 0 12 qd_g625 rfl rfl
theorem dX12_restore_15 : decode cX12_restore 15 = .ok (.iconst 0, 1) := qd_o3 0 15 qd_g625 rfl
theorem dX12_restore_16 : decode cX12_restore 16 = .ok (.goto 4, 3) := qd_o167 0 16 qd_g625 rfl rfl
theorem dX12_restore_19 : decode cX12_restore 19 = .ok (.iconst 1, 1) := qd_o4 0 19 qd_g625 rfl
theorem dX12_restore_20 : decode cX12_restore 20 = .ok (.invokevirtual 164, 3) := qd_o182 0 20 qd_g625 rfl rfl
theorem dX12_restore_23 : decode cX12_restore 23 = .ok (.ifCond .eq 5, 3) := qd_o153 0 23 qd_g625 rfl rfl
theorem dX12_restore_26 : decode cX12_restore 26 = .ok (.iconst 0, 1) := qd_o3 0 26 qd_g625 rfl
theorem dX12_restore_27 : decode cX12_restore 27 = .ok (.ireturn, 1) := qd_o172 0 27 qd_g625 rfl
theorem dX12_restore_28 : decode cX12_restore 28 = .ok (.iload_n 1, 1) := qd_o27 0 28 qd_g625 rfl
theorem dX12_restore_29 : decode cX12_restore 29 = .ok (.istore_n 2, 1) := qd_o61 0 29 qd_g625 rfl
theorem dX12_restore_30 : decode cX12_restore 30 = .ok (.aload_n 0, 1) := qd_o42 0 30 qd_g625 rfl
theorem dX12_restore_31 : decode cX12_restore 31 = .ok (.iload_n 2, 1) := qd_o28 0 31 qd_g625 rfl
theorem dX12_restore_32 : decode cX12_restore 32 = .ok (.invokevirtual 394, 3) := qd_o182 0 32 qd_g625 rfl rfl
theorem dX12_restore_35 : decode cX12_restore 35 = .ok (.istore_n 3, 1) := qd_o62 0 35 qd_g625 rfl
theorem dX12_restore_36 : decode cX12_restore 36 = .ok (.aload_n 0, 1) := qd_o42 0 36 qd_g625 rfl
theorem dX12_restore_37 : decode cX12_restore 37 = .ok (.getfield 56, 3) := qd_o180 0 37 qd_g625 rfl rfl
theorem qd_g626 : qd_bs cX12_restore 40 [17, 16, 0, 28, 104, 42, 180, 0, 7, 3, 17, 16, 0, 184, 1, 130, 42, 180, 0, 59, 17, 2, 0, 28, 104, 42, 180, 0, 13, 3, 17, 2, 0, 184, 1, 130, 42, 180, 0, 62] = true := by decide +kernel
theorem dX12_restore_40 : decode cX12_restore 40 = .ok (.sipush 4096, 3) := qd_o17 40 0 qd_g626 rfl rfl
theorem dX12_restore_43 : decode cX12_restore 43 = .ok (.iload_n 2, 1) := qd_o28 40 3 qd_g626 rfl
theorem dX12_restore_44 : decode cX12_restore 44 = .ok (.imul, 1) := qd_o104 40 4 qd_g626 rfl
theorem dX12_restore_45 : decode cX12_restore 45 = .ok (.aload_n 0, 1) := qd_o42 40 5 qd_g626 rfl
theorem dX12_restore_46 : decode cX12_restore 46 = .ok (.getfield 7, 3) := qd_o180 40 6 qd_g626 rfl rfl
theorem dX12_restore_49 : decode cX12_restore 49 = .ok (.iconst 0, 1) := qd_o3 40 9 qd_g626 rfl
theorem dX12_restore_50 : decode cX12_restore 50 = .ok (.sipush 4096, 3) := qd_o17 40 10 qd_g626 rfl rfl
theorem dX12_restore_53 : decode cX12_restore 53 = .ok (.invokestatic 386, 3) := qd_o184 40 13 qd_g626 rfl rfl
theorem dX12_restore_56 : decode cX12_restore 56 = .ok (.aload_n 0, 1) := qd_o42 40 16 qd_g626 rfl
theorem dX12_restore_57 : decode cX12_restore 57 = .ok (.getfield 59, 3) := qd_o180 40 17 qd_g626 rfl rfl
theorem dX12_restore_60 : decode cX12_restore 60 = .ok (.sipush 512, 3) := qd_o17 40 20 qd_g626 rfl rfl
theorem dX12_restore_63 : decode cX12_restore 63 = .ok (.iload_n 2, 1) := qd_o28 40 23 qd_g626 rfl
theorem dX12_restore_64 : decode cX12_restore 64 = .ok (.imul, 1) := qd_o104 40 24 qd_g626 rfl
theorem dX12_restore_65 : decode cX12_restore 65 = .ok (.aload_n 0, 1) := qd_o42 40 25 qd_g626 rfl
theorem dX12_restore_66 : decode cX12_restore 66 = .ok (.getfield 13, 3) := qd_o180 40 26 qd_g626 rfl rfl
theorem dX12_restore_69 : decode cX12_restore 69 = .ok (.iconst 0, 1) := qd_o3 40 29 qd_g626 rfl
theorem dX12_restore_70 : decode cX12_restore 70 = .ok (.sipush 512, 3) := qd_o17 40 30 qd_g626 rfl rfl
theorem dX12_restore_73 : decode cX12_restore 73 = .ok (.invokestatic 386, 3) := qd_o184 40 33 qd_g626 rfl rfl
theorem dX12_restore_76 : decode cX12_restore 76 = .ok (.aload_n 0, 1) := qd_o42 40 36 qd_g626 rfl
theorem dX12_restore_77 : decode cX12_restore 77 = .ok (.getfield 62, 3) := qd_o180 40 37 qd_g626 rfl rfl
theorem qd_g627 : qd_bs cX12_restore 80 [17, 8, 0, 28, 104, 42, 180, 0, 16, 3, 17, 8, 0, 184, 1, 130, 42, 180, 0, 65, 16, 48, 28, 104, 42, 180, 0, 19, 3, 16, 48, 184, 1, 130, 42, 180, 0, 68] = true := by decide +kernel
theorem dX12_restore_80 : decode cX12_restore 80 = .ok (.sipush 2048, 3) := qd_o17 80 0 qd_g627 rfl rfl
theorem dX12_restore_83 : decode cX12_restore 83 = .ok (.iload_n 2, 1) := qd_o28 80 3 qd_g627 rfl
theorem dX12_restore_84 : decode cX12_restore 84 = .ok (.imul, 1) := qd_o104 80 4 qd_g627 rfl
theorem dX12_restore_85 : decode cX12_restore 85 = .ok (.aload_n 0, 1) := qd_o42 80 5 qd_g627 rfl
theorem dX12_restore_86 : decode cX12_restore 86 = .ok (.getfield 16, 3) := qd_o180 80 6 qd_g627 rfl rfl
theorem dX12_restore_89 : decode cX12_restore 89 = .ok (.iconst 0, 1) := qd_o3 80 9 qd_g627 rfl
theorem dX12_restore_90 : decode cX12_restore 90 = .ok (.sipush 2048, 3) := qd_o17 80 10 qd_g627 rfl rfl
theorem dX12_restore_93 : decode cX12_restore 93 = .ok (.invokestatic 386, 3) := qd_o184 80 13 qd_g627 rfl rfl
theorem dX12_restore_96 : decode cX12_restore 96 = .ok (.aload_n 0, 1) := qd_o42 80 16 qd_g627 rfl
theorem dX12_restore_97 : decode cX12_restore 97 = .ok (.getfield 65, 3) := qd_o180 80 17 qd_g627 rfl rfl
theorem dX12_restore_100 : decode cX12_restore 100 = .ok (.bipush 48, 2) := qd_o16 80 20 qd_g627 rfl rfl
theorem dX12_restore_102 : decode cX12_restore 102 = .ok (.iload_n 2, 1) := qd_o28 80 22 qd_g627 rfl
theorem dX12_restore_103 : decode cX12_restore 103 = .ok (.imul, 1) := qd_o104 80 23 qd_g627 rfl
theorem dX12_restore_104 : decode cX12_restore 104 = .ok (.aload_n 0, 1) := qd_o42 80 24 qd_g627 rfl
theorem dX12_restore_105 : decode cX12_restore 105 = .ok (.getfield 19, 3) := qd_o180 80 25 qd_g627 rfl rfl
theorem dX12_restore_108 : decode cX12_restore 108 = .ok (.iconst 0, 1) := qd_o3 80 28 qd_g627 rfl
theorem dX12_restore_109 : decode cX12_restore 109 = .ok (.bipush 48, 2) := qd_o16 80 29 qd_g627 rfl rfl
theorem dX12_restore_111 : decode cX12_restore 111 = .ok (.invokestatic 386, 3) := qd_o184 80 31 qd_g627 rfl rfl
theorem dX12_restore_114 : decode cX12_restore 114 = .ok (.aload_n 0, 1) := qd_o42 80 34 qd_g627 rfl
theorem dX12_restore_115 : decode cX12_restore 115 = .ok (.getfield 68, 3) := qd_o180 80 35 qd_g627 rfl rfl
theorem qd_g628 : qd_bs cX12_restore 118 [17, 4, 0, 28, 104, 42, 180, 0, 22, 3, 17, 4, 0, 184, 1, 130, 42, 180, 0, 71, 16, 40, 28, 104, 42, 180, 0, 25, 3, 16, 40, 184, 1, 130, 42, 180, 0, 77, 16, 40] = true := by decide +kernel
theorem dX12_restore_118 : decode cX12_restore 118 = .ok (.sipush 1024, 3) := qd_o17 118 0 qd_g628 rfl rfl
theorem dX12_restore_121 : decode cX12_restore 121 = .ok (.iload_n 2, 1) := qd_o28 118 3 qd_g628 rfl
theorem dX12_restore_122 : decode cX12_restore 122 = .ok (.imul, 1) := qd_o104 118 4 qd_g628 rfl
theorem dX12_restore_123 : decode cX12_restore 123 = .ok (.aload_n 0, 1) := qd_o42 118 5 qd_g628 rfl
theorem dX12_restore_124 : decode cX12_restore 124 = .ok (.getfield 22, 3) := qd_o180 118 6 qd_g628 rfl rfl
theorem dX12_restore_127 : decode cX12_restore 127 = .ok (.iconst 0, 1) := qd_o3 118 9 qd_g628 rfl
theorem dX12_restore_128 : decode cX12_restore 128 = .ok (.sipush 1024, 3) := qd_o17 118 10 qd_g628 rfl rfl
theorem dX12_restore_131 : decode cX12_restore 131 = .ok (.invokestatic 386, 3) := qd_o184 118 13 qd_g628 rfl rfl
theorem dX12_restore_134 : decode cX12_restore 134 = .ok (.aload_n 0, 1) := qd_o42 118 16 qd_g628 rfl
theorem dX12_restore_135 : decode cX12_restore 135 = .ok (.getfield 71, 3) := qd_o180 118 17 qd_g628 rfl rfl
theorem dX12_restore_138 : decode cX12_restore 138 = .ok (.bipush 40, 2) := qd_o16 118 20 qd_g628 rfl rfl
theorem dX12_restore_140 : decode cX12_restore 140 = .ok (.iload_n 2, 1) := qd_o28 118 22 qd_g628 rfl
theorem dX12_restore_141 : decode cX12_restore 141 = .ok (.imul, 1) := qd_o104 118 23 qd_g628 rfl
theorem dX12_restore_142 : decode cX12_restore 142 = .ok (.aload_n 0, 1) := qd_o42 118 24 qd_g628 rfl
theorem dX12_restore_143 : decode cX12_restore 143 = .ok (.getfield 25, 3) := qd_o180 118 25 qd_g628 rfl rfl
theorem dX12_restore_146 : decode cX12_restore 146 = .ok (.iconst 0, 1) := qd_o3 118 28 qd_g628 rfl
theorem dX12_restore_147 : decode cX12_restore 147 = .ok (.bipush 40, 2) := qd_o16 118 29 qd_g628 rfl rfl
theorem dX12_restore_149 : decode cX12_restore 149 = .ok (.invokestatic 386, 3) := qd_o184 118 31 qd_g628 rfl rfl
theorem dX12_restore_152 : decode cX12_restore 152 = .ok (.aload_n 0, 1) := qd_o42 118 34 qd_g628 rfl
theorem dX12_restore_153 : decode cX12_restore 153 = .ok (.getfield 77, 3) := qd_o180 118 35 qd_g628 rfl rfl
theorem dX12_restore_156 : decode cX12_restore 156 = .ok (.bipush 40, 2) := qd_o16 118 38 qd_g628 rfl rfl
theorem qd_g629 : qd_bs cX12_restore 158 [28, 104, 42, 180, 0, 32, 3, 16, 40, 184, 1, 130, 42, 180, 0, 80, 16, 16, 28, 104, 42, 180, 0, 35, 3, 16, 16, 184, 1, 130, 42, 180, 0, 83, 6, 28, 104, 42] = true := by decide +kernel
theorem dX12_restore_158 : decode cX12_restore 158 = .ok (.iload_n 2, 1) := qd_o28 158 0 qd_g629 rfl
theorem dX12_restore_159 : decode cX12_restore 159 = .ok (.imul, 1) := qd_o104 158 1 qd_g629 rfl
theorem dX12_restore_160 : decode cX12_restore 160 = .ok (.aload_n 0, 1) := qd_o42 158 2 qd_g629 rfl
theorem dX12_restore_161 : decode cX12_restore 161 = .ok (.getfield 32, 3) := qd_o180 158 3 qd_g629 rfl rfl
theorem dX12_restore_164 : decode cX12_restore 164 = .ok (.iconst 0, 1) := qd_o3 158 6 qd_g629 rfl
theorem dX12_restore_165 : decode cX12_restore 165 = .ok (.bipush 40, 2) := qd_o16 158 7 qd_g629 rfl rfl
theorem dX12_restore_167 : decode cX12_restore 167 = .ok (.invokestatic 386, 3) := qd_o184 158 9 qd_g629 rfl rfl
theorem dX12_restore_170 : decode cX12_restore 170 = .ok (.aload_n 0, 1) := qd_o42 158 12 qd_g629 rfl
theorem dX12_restore_171 : decode cX12_restore 171 = .ok (.getfield 80, 3) := qd_o180 158 13 qd_g629 rfl rfl
theorem dX12_restore_174 : decode cX12_restore 174 = .ok (.bipush 16, 2) := qd_o16 158 16 qd_g629 rfl rfl
theorem dX12_restore_176 : decode cX12_restore 176 = .ok (.iload_n 2, 1) := qd_o28 158 18 qd_g629 rfl
theorem dX12_restore_177 : decode cX12_restore 177 = .ok (.imul, 1) := qd_o104 158 19 qd_g629 rfl
theorem dX12_restore_178 : decode cX12_restore 178 = .ok (.aload_n 0, 1) := qd_o42 158 20 qd_g629 rfl
theorem dX12_restore_179 : decode cX12_restore 179 = .ok (.getfield 35, 3) := qd_o180 158 21 qd_g629 rfl rfl
theorem dX12_restore_182 : decode cX12_restore 182 = .ok (.iconst 0, 1) := qd_o3 158 24 qd_g629 rfl
theorem dX12_restore_183 : decode cX12_restore 183 = .ok (.bipush 16, 2) := qd_o16 158 25 qd_g629 rfl rfl
theorem dX12_restore_185 : decode cX12_restore 185 = .ok (.invokestatic 386, 3) := qd_o184 158 27 qd_g629 rfl rfl
theorem dX12_restore_188 : decode cX12_restore 188 = .ok (.aload_n 0, 1) := qd_o42 158 30 qd_g629 rfl
theorem dX12_restore_189 : decode cX12_restore 189 = .ok (.getfield 83, 3) := qd_o180 158 31 qd_g629 rfl rfl
theorem dX12_restore_192 : decode cX12_restore 192 = .ok (.iconst 3, 1) := qd_o6 158 34 qd_g629 rfl
theorem dX12_restore_193 : decode cX12_restore 193 = .ok (.iload_n 2, 1) := qd_o28 158 35 qd_g629 rfl
theorem dX12_restore_194 : decode cX12_restore 194 = .ok (.imul, 1) := qd_o104 158 36 qd_g629 rfl
theorem dX12_restore_195 : decode cX12_restore 195 = .ok (.aload_n 0, 1) := qd_o42 158 37 qd_g629 rfl
theorem qd_g630 : qd_bs cX12_restore 196 [180, 0, 38, 3, 6, 184, 1, 130, 42, 180, 0, 86, 6, 28, 104, 42, 180, 0, 41, 3, 6, 184, 1, 130, 42, 180, 0, 89, 6, 28, 104, 42, 180, 0, 44, 3, 6, 184, 1, 130] = true := by decide +kernel
theorem dX12_restore_196 : decode cX12_restore 196 = .ok (.getfield 38, 3) := qd_o180 196 0 qd_g630 rfl rfl
theorem dX12_restore_199 : decode cX12_restore 199 = .ok (.iconst 0, 1) := qd_o3 196 3 qd_g630 rfl
theorem dX12_restore_200 : decode cX12_restore 200 = .ok (.iconst 3, 1) := qd_o6 196 4 qd_g630 rfl
theorem dX12_restore_201 : decode cX12_restore 201 = .ok (.invokestatic 386, 3) := qd_o184 196 5 qd_g630 rfl rfl
theorem dX12_restore_204 : decode cX12_restore 204 = .ok (.aload_n 0, 1) := qd_o42 196 8 qd_g630 rfl
theorem dX12_restore_205 : decode cX12_restore 205 = .ok (.getfield 86, 3) := qd_o180 196 9 qd_g630 rfl rfl
theorem dX12_restore_208 : decode cX12_restore 208 = .ok (.iconst 3, 1) := qd_o6 196 12 qd_g630 rfl
theorem dX12_restore_209 : decode cX12_restore 209 = .ok (.iload_n 2, 1) := qd_o28 196 13 qd_g630 rfl
theorem dX12_restore_210 : decode cX12_restore 210 = .ok (.imul, 1) := qd_o104 196 14 qd_g630 rfl
theorem dX12_restore_211 : decode cX12_restore 211 = .ok (.aload_n 0, 1) := qd_o42 196 15 qd_g630 rfl
theorem dX12_restore_212 : decode cX12_restore 212 = .ok (.getfield 41, 3) := qd_o180 196 16 qd_g630 rfl rfl
theorem dX12_restore_215 : decode cX12_restore 215 = .ok (.iconst 0, 1) := qd_o3 196 19 qd_g630 rfl
theorem dX12_restore_216 : decode cX12_restore 216 = .ok (.iconst 3, 1) := qd_o6 196 20 qd_g630 rfl
theorem dX12_restore_217 : decode cX12_restore 217 = .ok (.invokestatic 386, 3) := qd_o184 196 21 qd_g630 rfl rfl
theorem dX12_restore_220 : decode cX12_restore 220 = .ok (.aload_n 0, 1) := qd_o42 196 24 qd_g630 rfl
theorem dX12_restore_221 : decode cX12_restore 221 = .ok (.getfield 89, 3) := qd_o180 196 25 qd_g630 rfl rfl
theorem dX12_restore_224 : decode cX12_restore 224 = .ok (.iconst 3, 1) := qd_o6 196 28 qd_g630 rfl
theorem dX12_restore_225 : decode cX12_restore 225 = .ok (.iload_n 2, 1) := qd_o28 196 29 qd_g630 rfl
theorem dX12_restore_226 : decode cX12_restore 226 = .ok (.imul, 1) := qd_o104 196 30 qd_g630 rfl
theorem dX12_restore_227 : decode cX12_restore 227 = .ok (.aload_n 0, 1) := qd_o42 196 31 qd_g630 rfl
theorem dX12_restore_228 : decode cX12_restore 228 = .ok (.getfield 44, 3) := qd_o180 196 32 qd_g630 rfl rfl
theorem dX12_restore_231 : decode cX12_restore 231 = .ok (.iconst 0, 1) := qd_o3 196 35 qd_g630 rfl
theorem dX12_restore_232 : decode cX12_restore 232 = .ok (.iconst 3, 1) := qd_o6 196 36 qd_g630 rfl
theorem dX12_restore_233 : decode cX12_restore 233 = .ok (.invokestatic 386, 3) := qd_o184 196 37 qd_g630 rfl rfl
theorem qd_g631 : qd_bs cX12_restore 236 [42, 180, 0, 92, 6, 28, 104, 42, 180, 0, 47, 3, 6, 184, 1, 130, 42, 180, 0, 95, 16, 24, 28, 104, 42, 180, 0, 50, 3, 16, 24, 184, 1, 130, 42, 180, 0, 74, 16, 16] = true := by decide +kernel
theorem dX12_restore_236 : decode cX12_restore 236 = .ok (.aload_n 0, 1) := qd_o42 236 0 qd_g631 rfl
theorem dX12_restore_237 : decode cX12_restore 237 = .ok (.getfield 92, 3) := qd_o180 236 1 qd_g631 rfl rfl
theorem dX12_restore_240 : decode cX12_restore 240 = .ok (.iconst 3, 1) := qd_o6 236 4 qd_g631 rfl
theorem dX12_restore_241 : decode cX12_restore 241 = .ok (.iload_n 2, 1) := qd_o28 236 5 qd_g631 rfl
theorem dX12_restore_242 : decode cX12_restore 242 = .ok (.imul, 1) := qd_o104 236 6 qd_g631 rfl
theorem dX12_restore_243 : decode cX12_restore 243 = .ok (.aload_n 0, 1) := qd_o42 236 7 qd_g631 rfl
theorem dX12_restore_244 : decode cX12_restore 244 = .ok (.getfield 47, 3) := qd_o180 236 8 qd_g631 rfl rfl
theorem dX12_restore_247 : decode cX12_restore 247 = .ok (.iconst 0, 1) := qd_o3 236 11 qd_g631 rfl
theorem dX12_restore_248 : decode cX12_restore 248 = .ok (.iconst 3, 1) := qd_o6 236 12 qd_g631 rfl
theorem dX12_restore_249 : decode cX12_restore 249 = .ok (.invokestatic 386, 3) := qd_o184 236 13 qd_g631 rfl rfl
theorem dX12_restore_252 : decode cX12_restore 252 = .ok (.aload_n 0, 1) := qd_o42 236 16 qd_g631 rfl
theorem dX12_restore_253 : decode cX12_restore 253 = .ok (.getfield 95, 3) := qd_o180 236 17 qd_g631 rfl rfl
theorem dX12_restore_256 : decode cX12_restore 256 = .ok (.bipush 24, 2) := qd_o16 236 20 qd_g631 rfl rfl
theorem dX12_restore_258 : decode cX12_restore 258 = .ok (.iload_n 2, 1) := qd_o28 236 22 qd_g631 rfl
theorem dX12_restore_259 : decode cX12_restore 259 = .ok (.imul, 1) := qd_o104 236 23 qd_g631 rfl
theorem dX12_restore_260 : decode cX12_restore 260 = .ok (.aload_n 0, 1) := qd_o42 236 24 qd_g631 rfl
theorem dX12_restore_261 : decode cX12_restore 261 = .ok (.getfield 50, 3) := qd_o180 236 25 qd_g631 rfl rfl
theorem dX12_restore_264 : decode cX12_restore 264 = .ok (.iconst 0, 1) := qd_o3 236 28 qd_g631 rfl
theorem dX12_restore_265 : decode cX12_restore 265 = .ok (.bipush 24, 2) := qd_o16 236 29 qd_g631 rfl rfl
theorem dX12_restore_267 : decode cX12_restore 267 = .ok (.invokestatic 386, 3) := qd_o184 236 31 qd_g631 rfl rfl
theorem dX12_restore_270 : decode cX12_restore 270 = .ok (.aload_n 0, 1) := qd_o42 236 34 qd_g631 rfl
theorem dX12_restore_271 : decode cX12_restore 271 = .ok (.getfield 74, 3) := qd_o180 236 35 qd_g631 rfl rfl
theorem dX12_restore_274 : decode cX12_restore 274 = .ok (.bipush 16, 2) := qd_o16 236 38 qd_g631 rfl rfl
theorem qd_g632 : qd_bs cX12_restore 276 [28, 104, 42, 180, 0, 28, 3, 16, 16, 184, 1, 134, 42, 180, 0, 98, 16, 8, 28, 104, 42, 180, 0, 53, 3, 16, 8, 184, 1, 134, 42, 42, 180, 0, 101, 5, 28, 104, 47] = true := by decide +kernel
theorem dX12_restore_276 : decode cX12_restore 276 = .ok (.iload_n 2, 1) := qd_o28 276 0 qd_g632 rfl
theorem dX12_restore_277 : decode cX12_restore 277 = .ok (.imul, 1) := qd_o104 276 1 qd_g632 rfl
theorem dX12_restore_278 : decode cX12_restore 278 = .ok (.aload_n 0, 1) := qd_o42 276 2 qd_g632 rfl
theorem dX12_restore_279 : decode cX12_restore 279 = .ok (.getfield 28, 3) := qd_o180 276 3 qd_g632 rfl rfl
theorem dX12_restore_282 : decode cX12_restore 282 = .ok (.iconst 0, 1) := qd_o3 276 6 qd_g632 rfl
theorem dX12_restore_283 : decode cX12_restore 283 = .ok (.bipush 16, 2) := qd_o16 276 7 qd_g632 rfl rfl
theorem dX12_restore_285 : decode cX12_restore 285 = .ok (.invokestatic 390, 3) := qd_o184 276 9 qd_g632 rfl rfl
theorem dX12_restore_288 : decode cX12_restore 288 = .ok (.aload_n 0, 1) := qd_o42 276 12 qd_g632 rfl
theorem dX12_restore_289 : decode cX12_restore 289 = .ok (.getfield 98, 3) := qd_o180 276 13 qd_g632 rfl rfl
theorem dX12_restore_292 : decode cX12_restore 292 = .ok (.bipush 8, 2) := qd_o16 276 16 qd_g632 rfl rfl
theorem dX12_restore_294 : decode cX12_restore 294 = .ok (.iload_n 2, 1) := qd_o28 276 18 qd_g632 rfl
theorem dX12_restore_295 : decode cX12_restore 295 = .ok (.imul, 1) := qd_o104 276 19 qd_g632 rfl
theorem dX12_restore_296 : decode cX12_restore 296 = .ok (.aload_n 0, 1) := qd_o42 276 20 qd_g632 rfl
theorem dX12_restore_297 : decode cX12_restore 297 = .ok (.getfield 53, 3) := qd_o180 276 21 qd_g632 rfl rfl
theorem dX12_restore_300 : decode cX12_restore 300 = .ok (.iconst 0, 1) := qd_o3 276 24 qd_g632 rfl
theorem dX12_restore_301 : decode cX12_restore 301 = .ok (.bipush 8, 2) := qd_o16 276 25 qd_g632 rfl rfl
theorem dX12_restore_303 : decode cX12_restore 303 = .ok (.invokestatic 390, 3) := qd_o184 276 27 qd_g632 rfl rfl
theorem dX12_restore_306 : decode cX12_restore 306 = .ok (.aload_n 0, 1) := qd_o42 276 30 qd_g632 rfl
theorem dX12_restore_307 : decode cX12_restore 307 = .ok (.aload_n 0, 1) := qd_o42 276 31 qd_g632 rfl
theorem dX12_restore_308 : decode cX12_restore 308 = .ok (.getfield 101, 3) := qd_o180 276 32 qd_g632 rfl rfl
theorem dX12_restore_311 : decode cX12_restore 311 = .ok (.iconst 2, 1) := qd_o5 276 35 qd_g632 rfl
theorem dX12_restore_312 : decode cX12_restore 312 = .ok (.iload_n 2, 1) := qd_o28 276 36 qd_g632 rfl
theorem dX12_restore_313 : decode cX12_restore 313 = .ok (.imul, 1) := qd_o104 276 37 qd_g632 rfl
theorem dX12_restore_314 : decode cX12_restore 314 = .ok (.laload, 1) := qd_o47 276 38 qd_g632 rfl
theorem qd_g633 : qd_bs cX12_restore 315 [181, 0, 123, 42, 42, 180, 0, 101, 5, 28, 104, 4, 96, 47, 181, 0, 238, 42, 2, 181, 0, 105, 29, 172] = true := by decide +kernel
theorem dX12_restore_315 : decode cX12_restore 315 = .ok (.putfield 123, 3) := qd_o181 315 0 qd_g633 rfl rfl
theorem dX12_restore_318 : decode cX12_restore 318 = .ok (.aload_n 0, 1) := qd_o42 315 3 qd_g633 rfl
theorem dX12_restore_319 : decode cX12_restore 319 = .ok (.aload_n 0, 1) := qd_o42 315 4 qd_g633 rfl
theorem dX12_restore_320 : decode cX12_restore 320 = .ok (.getfield 101, 3) := qd_o180 315 5 qd_g633 rfl rfl
theorem dX12_restore_323 : decode cX12_restore 323 = .ok (.iconst 2, 1) := qd_o5 315 8 qd_g633 rfl
theorem dX12_restore_324 : decode cX12_restore 324 = .ok (.iload_n 2, 1) := qd_o28 315 9 qd_g633 rfl
theorem dX12_restore_325 : decode cX12_restore 325 = .ok (.imul, 1) := qd_o104 315 10 qd_g633 rfl
theorem dX12_restore_326 : decode cX12_restore 326 = .ok (.iconst 1, 1) := qd_o4 315 11 qd_g633 rfl
theorem dX12_restore_327 : decode cX12_restore 327 = .ok (.iadd, 1) := qd_o96 315 12 qd_g633 rfl
theorem dX12_restore_328 : decode cX12_restore 328 = .ok (.laload, 1) := qd_o47 315 13 qd_g633 rfl
theorem dX12_restore_329 : decode cX12_restore 329 = .ok (.putfield 238, 3) := qd_o181 315 14 qd_g633 rfl rfl
theorem dX12_restore_332 : decode cX12_restore 332 = .ok (.aload_n 0, 1) := qd_o42 315 17 qd_g633 rfl
theorem dX12_restore_333 : decode cX12_restore 333 = .ok (.iconst (-1), 1) := qd_o2 315 18 qd_g633 rfl
theorem dX12_restore_334 : decode cX12_restore 334 = .ok (.putfield 105, 3) := qd_o181 315 19 qd_g633 rfl rfl
theorem dX12_restore_337 : decode cX12_restore 337 = .ok (.iload_n 3, 1) := qd_o29 315 22 qd_g633 rfl
theorem dX12_restore_338 : decode cX12_restore 338 = .ok (.ireturn, 1) := qd_o172 315 23 qd_g633 rfl
theorem qd_g634 : qd_bs cX12_differences 0 [42, 27, 3, 42, 180, 1, 127, 4, 100, 184, 0, 119, 153, 0, 7, 3, 167, 0, 4, 4, 182, 0, 164, 153, 0, 7, 3, 167, 0, 8, 42, 27, 182, 1, 138, 172] = true := by decide +kernel
theorem dX12_differences_0 : decode cX12_differences 0 = .ok (.aload_n 0, 1) := qd_o42 0 0 qd_g634 rfl
theorem dX12_differences_1 : decode cX12_differences 1 = .ok (.iload_n 1, 1) := qd_o27 0 1 qd_g634 rfl
theorem dX12_differences_2 : decode cX12_differences 2 = .ok (.iconst 0, 1) := qd_o3 0 2 qd_g634 rfl
theorem dX12_differences_3 : decode cX12_differences 3 = .ok (.aload_n 0, 1) := qd_o42 0 3 qd_g634 rfl
theorem dX12_differences_4 : decode cX12_differences 4 = .ok (.getfield 383, 3) := qd_o180 0 4 qd_g634 rfl rfl
theorem dX12_differences_7 : decode cX12_differences 7 = .ok (.iconst 1, 1) := qd_o4 0 7 qd_g634 rfl
theorem dX12_differences_8 : decode cX12_differences 8 = .ok (.isub, 1) := qd_o100 0 8 qd_g634 rfl
theorem dX12_differences_9 : decode cX12_differences 9 = .ok (.invokestatic 119, 3) := qd_o184 0 9 qd_g634 rfl rfl
theorem dX12_differences_12 : decode cX12_differences 12 = .ok (.ifCond .eq 7, 3) := qd_o153 0 12 qd_g634 rfl rfl
theorem dX12_differences_15 : decode cX12_differences 15 = .ok (.iconst 0, 1) := qd_o3 0 15 qd_g634 rfl
theorem dX12_differences_16 : decode cX12_differences 16 = .ok (.goto 4, 3) := qd_o167 0 16 qd_g634 rfl rfl
theorem dX12_differences_19 : decode cX12_differences 19 = .ok (.iconst 1, 1) := qd_o4 0 19 qd_g634 rfl
theorem dX12_differences_20 : decode cX12_differences 20 = .ok (.invokevirtual 164, 3) := qd_o182 0 20 qd_g634 rfl rfl
theorem dX12_differences_23 : decode cX12_differences 23 = .ok (.ifCond .eq 7, 3) := qd_o153 0 23 qd_g634 rfl rfl
theorem dX12_differences_26 : decode cX12_differences 26 = .ok (.iconst 0, 1) := qd_o3 0 26 qd_g634 rfl
theorem dX12_differences_27 : decode cX12_differences 27 = .ok (.goto 8, 3) := qd_o167 0 27 qd_g634 rfl rfl
theorem dX12_differences_30 : decode cX12_differences 30 = .ok (.aload_n 0, 1) := qd_o42 0 30 qd_g634 rfl
theorem dX12_differences_31 : decode cX12_differences 31 = .ok (.iload_n 1, 1) := qd_o27 0 31 qd_g634 rfl
theorem dX12_differences_32 : decode cX12_differences 32 = .ok (.invokevirtual 394, 3) := qd_o182 0 32 qd_g634 rfl rfl
theorem dX12_differences_35 : decode cX12_differences 35 = .ok (.ireturn, 1) := qd_o172 0 35 qd_g634 rfl
theorem qd_g635 : qd_bs cX12_startRecord 0 [3, 42, 180, 0, 105, 184, 0, 209, 60, 42, 3, 181, 0, 105, 42, 27, 182, 0, 244, 172] = true := by decide +kernel
theorem dX12_startRecord_0 : decode cX12_startRecord 0 = .ok (.iconst 0, 1) := qd_o3 0 0 qd_g635 rfl
theorem dX12_startRecord_1 : decode cX12_startRecord 1 = .ok (.aload_n 0, 1) := qd_o42 0 1 qd_g635 rfl
theorem dX12_startRecord_2 : decode cX12_startRecord 2 = .ok (.getfield 105, 3) := qd_o180 0 2 qd_g635 rfl rfl
theorem dX12_startRecord_5 : decode cX12_startRecord 5 = .ok (.invokestatic 209, 3) := qd_o184 0 5 qd_g635 rfl rfl
theorem dX12_startRecord_8 : decode cX12_startRecord 8 = .ok (.istore_n 1, 1) := qd_o60 0 8 qd_g635 rfl
theorem dX12_startRecord_9 : decode cX12_startRecord 9 = .ok (.aload_n 0, 1) := qd_o42 0 9 qd_g635 rfl
theorem dX12_startRecord_10 : decode cX12_startRecord 10 = .ok (.iconst 0, 1) := qd_o3 0 10 qd_g635 rfl
theorem dX12_startRecord_11 : decode cX12_startRecord 11 = .ok (.putfield 105, 3) := qd_o181 0 11 qd_g635 rfl rfl
theorem dX12_startRecord_14 : decode cX12_startRecord 14 = .ok (.aload_n 0, 1) := qd_o42 0 14 qd_g635 rfl
theorem dX12_startRecord_15 : decode cX12_startRecord 15 = .ok (.iload_n 1, 1) := qd_o27 0 15 qd_g635 rfl
theorem dX12_startRecord_16 : decode cX12_startRecord 16 = .ok (.invokevirtual 244, 3) := qd_o182 0 16 qd_g635 rfl rfl
theorem dX12_startRecord_19 : decode cX12_startRecord 19 = .ok (.ireturn, 1) := qd_o172 0 19 qd_g635 rfl
theorem qd_g636 : qd_bs cX12_recorded 0 [42, 42, 180, 0, 105, 156, 0, 7, 4, 167, 0, 4, 3, 182, 0, 164, 153, 0, 7, 3, 167, 0, 7, 42, 180, 0, 105, 172] = true := by decide +kernel
theorem dX12_recorded_0 : decode cX12_recorded 0 = .ok (.aload_n 0, 1) := qd_o42 0 0 qd_g636 rfl
theorem dX12_recorded_1 : decode cX12_recorded 1 = .ok (.aload_n 0, 1) := qd_o42 0 1 qd_g636 rfl
theorem dX12_recorded_2 : decode cX12_recorded 2 = .ok (.getfield 105, 3) := qd_o180 0 2 qd_g636 rfl rfl
theorem dX12_recorded_5 : decode cX12_recorded 5 = .ok (.ifCond .ge 7, 3) := qd_o156 0 5 qd_g636 rfl rfl
theorem dX12_recorded_8 : decode cX12_recorded 8 = .ok (.iconst 1, 1) := qd_o4 0 8 qd_g636 rfl
theorem dX12_recorded_9 : decode cX12_recorded 9 = .ok (.goto 4, 3) := qd_o167 0 9 qd_g636 rfl rfl
theorem dX12_recorded_12 : decode cX12_recorded 12 = .ok (.iconst 0, 1) := qd_o3 0 12 qd_g636 rfl
theorem dX12_recorded_13 : decode cX12_recorded 13 = .ok (.invokevirtual 164, 3) := qd_o182 0 13 qd_g636 rfl rfl
theorem dX12_recorded_16 : decode cX12_recorded 16 = .ok (.ifCond .eq 7, 3) := qd_o153 0 16 qd_g636 rfl rfl
theorem dX12_recorded_19 : decode cX12_recorded 19 = .ok (.iconst 0, 1) := qd_o3 0 19 qd_g636 rfl
theorem dX12_recorded_20 : decode cX12_recorded 20 = .ok (.goto 7, 3) := qd_o167 0 20 qd_g636 rfl rfl
theorem dX12_recorded_23 : decode cX12_recorded 23 = .ok (.aload_n 0, 1) := qd_o42 0 23 qd_g636 rfl
theorem dX12_recorded_24 : decode cX12_recorded 24 = .ok (.getfield 105, 3) := qd_o180 0 24 qd_g636 rfl rfl
theorem dX12_recorded_27 : decode cX12_recorded 27 = .ok (.ireturn, 1) := qd_o172 0 27 qd_g636 rfl
theorem qd_g637 : qd_bs cX12_isSame 0 [42, 42, 180, 0, 105, 156, 0, 7, 4, 167, 0, 4, 3, 182, 0, 164, 154, 0, 7, 4, 167, 0, 4, 3, 172] = true := by decide +kernel
theorem dX12_isSame_0 : decode cX12_isSame 0 = .ok (.aload_n 0, 1) := qd_o42 0 0 qd_g637 rfl
theorem dX12_isSame_1 : decode cX12_isSame 1 = .ok (.aload_n 0, 1) := qd_o42 0 1 qd_g637 rfl
theorem dX12_isSame_2 : decode cX12_isSame 2 = .ok (.getfield 105, 3) := qd_o180 0 2 qd_g637 rfl rfl
theorem dX12_isSame_5 : decode cX12_isSame 5 = .ok (.ifCond .ge 7, 3) := qd_o156 0 5 qd_g637 rfl rfl
theorem dX12_isSame_8 : decode cX12_isSame 8 = .ok (.iconst 1, 1) := qd_o4 0 8 qd_g637 rfl
theorem dX12_isSame_9 : decode cX12_isSame 9 = .ok (.goto 4, 3) := qd_o167 0 9 qd_g637 rfl rfl
theorem dX12_isSame_12 : decode cX12_isSame 12 = .ok (.iconst 0, 1) := qd_o3 0 12 qd_g637 rfl
theorem dX12_isSame_13 : decode cX12_isSame 13 = .ok (.invokevirtual 164, 3) := qd_o182 0 13 qd_g637 rfl rfl
theorem dX12_isSame_16 : decode cX12_isSame 16 = .ok (.ifCond .ne 7, 3) := qd_o154 0 16 qd_g637 rfl rfl
theorem dX12_isSame_19 : decode cX12_isSame 19 = .ok (.iconst 1, 1) := qd_o4 0 19 qd_g637 rfl
theorem dX12_isSame_20 : decode cX12_isSame 20 = .ok (.goto 4, 3) := qd_o167 0 20 qd_g637 rfl rfl
theorem dX12_isSame_23 : decode cX12_isSame 23 = .ok (.iconst 0, 1) := qd_o3 0 23 qd_g637 rfl
theorem dX12_isSame_24 : decode cX12_isSame 24 = .ok (.ireturn, 1) := qd_o172 0 24 qd_g637 rfl
theorem qd_g638 : qd_bs cX12_sumOfPicture 0 [42, 3, 181, 0, 116, 3, 60, 3, 61, 28, 17, 4, 0, 162, 0, 21, 16, 31, 27, 104, 42, 180, 0, 22, 28, 46, 96, 60, 132, 2, 1, 167, 255, 234, 27, 172] = true := by decide +kernel
theorem dX12_sumOfPicture_0 : decode cX12_sumOfPicture 0 = .ok (.aload_n 0, 1) := qd_o42 0 0 qd_g638 rfl
theorem dX12_sumOfPicture_1 : decode cX12_sumOfPicture 1 = .ok (.iconst 0, 1) := qd_o3 0 1 qd_g638 rfl
theorem dX12_sumOfPicture_2 : decode cX12_sumOfPicture 2 = .ok (.putfield 116, 3) := qd_o181 0 2 qd_g638 rfl rfl
theorem dX12_sumOfPicture_5 : decode cX12_sumOfPicture 5 = .ok (.iconst 0, 1) := qd_o3 0 5 qd_g638 rfl
theorem dX12_sumOfPicture_6 : decode cX12_sumOfPicture 6 = .ok (.istore_n 1, 1) := qd_o60 0 6 qd_g638 rfl
theorem dX12_sumOfPicture_7 : decode cX12_sumOfPicture 7 = .ok (.iconst 0, 1) := qd_o3 0 7 qd_g638 rfl
theorem dX12_sumOfPicture_8 : decode cX12_sumOfPicture 8 = .ok (.istore_n 2, 1) := qd_o61 0 8 qd_g638 rfl
theorem dX12_sumOfPicture_9 : decode cX12_sumOfPicture 9 = .ok (.iload_n 2, 1) := qd_o28 0 9 qd_g638 rfl
theorem dX12_sumOfPicture_10 : decode cX12_sumOfPicture 10 = .ok (.sipush 1024, 3) := qd_o17 0 10 qd_g638 rfl rfl
theorem dX12_sumOfPicture_13 : decode cX12_sumOfPicture 13 = .ok (.if_icmp .ge 21, 3) := qd_o162 0 13 qd_g638 rfl rfl
theorem dX12_sumOfPicture_16 : decode cX12_sumOfPicture 16 = .ok (.bipush 31, 2) := qd_o16 0 16 qd_g638 rfl rfl
theorem dX12_sumOfPicture_18 : decode cX12_sumOfPicture 18 = .ok (.iload_n 1, 1) := qd_o27 0 18 qd_g638 rfl
theorem dX12_sumOfPicture_19 : decode cX12_sumOfPicture 19 = .ok (.imul, 1) := qd_o104 0 19 qd_g638 rfl
theorem dX12_sumOfPicture_20 : decode cX12_sumOfPicture 20 = .ok (.aload_n 0, 1) := qd_o42 0 20 qd_g638 rfl
theorem dX12_sumOfPicture_21 : decode cX12_sumOfPicture 21 = .ok (.getfield 22, 3) := qd_o180 0 21 qd_g638 rfl rfl
theorem dX12_sumOfPicture_24 : decode cX12_sumOfPicture 24 = .ok (.iload_n 2, 1) := qd_o28 0 24 qd_g638 rfl
theorem dX12_sumOfPicture_25 : decode cX12_sumOfPicture 25 = .ok (.iaload, 1) := qd_o46 0 25 qd_g638 rfl
theorem dX12_sumOfPicture_26 : decode cX12_sumOfPicture 26 = .ok (.iadd, 1) := qd_o96 0 26 qd_g638 rfl
theorem dX12_sumOfPicture_27 : decode cX12_sumOfPicture 27 = .ok (.istore_n 1, 1) := qd_o60 0 27 qd_g638 rfl
theorem dX12_sumOfPicture_28 : decode cX12_sumOfPicture 28 = .ok (.iinc 2 1, 3) := qd_o132 0 28 qd_g638 rfl rfl
theorem dX12_sumOfPicture_31 : decode cX12_sumOfPicture 31 = .ok (.goto (-22), 3) := qd_o167 0 31 qd_g638 rfl rfl
theorem dX12_sumOfPicture_34 : decode cX12_sumOfPicture 34 = .ok (.iload_n 1, 1) := qd_o27 0 34 qd_g638 rfl
theorem dX12_sumOfPicture_35 : decode cX12_sumOfPicture 35 = .ok (.ireturn, 1) := qd_o172 0 35 qd_g638 rfl
theorem qd_g639 : qd_bs cX12_pictures 0 [42, 3, 181, 0, 116, 42, 180, 0, 238, 173] = true := by decide +kernel
theorem dX12_pictures_0 : decode cX12_pictures 0 = .ok (.aload_n 0, 1) := qd_o42 0 0 qd_g639 rfl
theorem dX12_pictures_1 : decode cX12_pictures 1 = .ok (.iconst 0, 1) := qd_o3 0 1 qd_g639 rfl
theorem dX12_pictures_2 : decode cX12_pictures 2 = .ok (.putfield 116, 3) := qd_o181 0 2 qd_g639 rfl rfl
theorem dX12_pictures_5 : decode cX12_pictures 5 = .ok (.aload_n 0, 1) := qd_o42 0 5 qd_g639 rfl
theorem dX12_pictures_6 : decode cX12_pictures 6 = .ok (.getfield 238, 3) := qd_o180 0 6 qd_g639 rfl rfl
theorem dX12_pictures_9 : decode cX12_pictures 9 = .ok (.lreturn, 1) := qd_o173 0 9 qd_g639 rfl
theorem qd_g640 : qd_bs cX12_solidShare 0 [42, 3, 181, 0, 116, 3, 60, 3, 61, 28, 17, 4, 0, 162, 0, 32, 27, 42, 180, 0, 22, 28, 46, 42, 180, 0, 19, 6, 46, 160, 0, 7, 3, 167, 0, 4, 4, 96, 60] = true := by decide +kernel
theorem dX12_solidShare_0 : decode cX12_solidShare 0 = .ok (.aload_n 0, 1) := qd_o42 0 0 qd_g640 rfl
theorem dX12_solidShare_1 : decode cX12_solidShare 1 = .ok (.iconst 0, 1) := qd_o3 0 1 qd_g640 rfl
theorem dX12_solidShare_2 : decode cX12_solidShare 2 = .ok (.putfield 116, 3) := qd_o181 0 2 qd_g640 rfl rfl
theorem dX12_solidShare_5 : decode cX12_solidShare 5 = .ok (.iconst 0, 1) := qd_o3 0 5 qd_g640 rfl
theorem dX12_solidShare_6 : decode cX12_solidShare 6 = .ok (.istore_n 1, 1) := qd_o60 0 6 qd_g640 rfl
theorem dX12_solidShare_7 : decode cX12_solidShare 7 = .ok (.iconst 0, 1) := qd_o3 0 7 qd_g640 rfl
theorem dX12_solidShare_8 : decode cX12_solidShare 8 = .ok (.istore_n 2, 1) := qd_o61 0 8 qd_g640 rfl
theorem dX12_solidShare_9 : decode cX12_solidShare 9 = .ok (.iload_n 2, 1) := qd_o28 0 9 qd_g640 rfl
theorem dX12_solidShare_10 : decode cX12_solidShare 10 = .ok (.sipush 1024, 3) := qd_o17 0 10 qd_g640 rfl rfl
theorem dX12_solidShare_13 : decode cX12_solidShare 13 = .ok (.if_icmp .ge 32, 3) := qd_o162 0 13 qd_g640 rfl rfl
theorem dX12_solidShare_16 : decode cX12_solidShare 16 = .ok (.iload_n 1, 1) := qd_o27 0 16 qd_g640 rfl
theorem dX12_solidShare_17 : decode cX12_solidShare 17 = .ok (.aload_n 0, 1) := qd_o42 0 17 qd_g640 rfl
theorem dX12_solidShare_18 : decode cX12_solidShare 18 = .ok (.getfield 22, 3) := qd_o180 0 18 qd_g640 rfl rfl
theorem dX12_solidShare_21 : decode cX12_solidShare 21 = .ok (.iload_n 2, 1) := qd_o28 0 21 qd_g640 rfl
theorem dX12_solidShare_22 : decode cX12_solidShare 22 = .ok (.iaload, 1) := qd_o46 0 22 qd_g640 rfl
theorem dX12_solidShare_23 : decode cX12_solidShare 23 = .ok (.aload_n 0, 1) := qd_o42 0 23 qd_g640 rfl
theorem dX12_solidShare_24 : decode cX12_solidShare 24 = .ok (.getfield 19, 3) := qd_o180 0 24 qd_g640 rfl rfl
theorem dX12_solidShare_27 : decode cX12_solidShare 27 = .ok (.iconst 3, 1) := qd_o6 0 27 qd_g640 rfl
theorem dX12_solidShare_28 : decode cX12_solidShare 28 = .ok (.iaload, 1) := qd_o46 0 28 qd_g640 rfl
theorem dX12_solidShare_29 : decode cX12_solidShare 29 = .ok (.if_icmp .ne 7, 3) := qd_o160 0 29 qd_g640 rfl rfl
theorem dX12_solidShare_32 : decode cX12_solidShare 32 = .ok (.iconst 0, 1) := qd_o3 0 32 qd_g640 rfl
theorem dX12_solidShare_33 : decode cX12_solidShare 33 = .ok (.goto 4, 3) := qd_o167 0 33 qd_g640 rfl rfl
theorem dX12_solidShare_36 : decode cX12_solidShare 36 = .ok (.iconst 1, 1) := qd_o4 0 36 qd_g640 rfl
theorem dX12_solidShare_37 : decode cX12_solidShare 37 = .ok (.iadd, 1) := qd_o96 0 37 qd_g640 rfl
theorem dX12_solidShare_38 : decode cX12_solidShare 38 = .ok (.istore_n 1, 1) := qd_o60 0 38 qd_g640 rfl
theorem qd_g641 : qd_bs cX12_solidShare 39 [132, 2, 1, 167, 255, 223, 27, 134, 19, 1, 141, 110, 174] = true := by decide +kernel
theorem dX12_solidShare_39 : decode cX12_solidShare 39 = .ok (.iinc 2 1, 3) := qd_o132 39 0 qd_g641 rfl rfl
theorem dX12_solidShare_42 : decode cX12_solidShare 42 = .ok (.goto (-33), 3) := qd_o167 39 3 qd_g641 rfl rfl
theorem dX12_solidShare_45 : decode cX12_solidShare 45 = .ok (.iload_n 1, 1) := qd_o27 39 6 qd_g641 rfl
theorem dX12_solidShare_46 : decode cX12_solidShare 46 = .ok (.i2f, 1) := qd_o134 39 7 qd_g641 rfl
theorem dX12_solidShare_47 : decode cX12_solidShare 47 = .ok (.ldc_w 397, 3) := qd_o19 39 8 qd_g641 rfl rfl
theorem dX12_solidShare_50 : decode cX12_solidShare 50 = .ok (.fdiv, 1) := qd_o110 39 11 qd_g641 rfl
theorem dX12_solidShare_51 : decode cX12_solidShare 51 = .ok (.freturn, 1) := qd_o174 39 12 qd_g641 rfl
theorem qd_g642 : qd_bs cX12_meanSample 0 [42, 3, 181, 0, 116, 3, 60, 3, 61, 28, 16, 40, 162, 0, 18, 27, 42, 180, 0, 25, 28, 46, 96, 60, 132, 2, 1, 167, 255, 238, 27, 135, 20, 1, 142, 111, 175] = true := by decide +kernel
theorem dX12_meanSample_0 : decode cX12_meanSample 0 = .ok (.aload_n 0, 1) := qd_o42 0 0 qd_g642 rfl
theorem dX12_meanSample_1 : decode cX12_meanSample 1 = .ok (.iconst 0, 1) := qd_o3 0 1 qd_g642 rfl
theorem dX12_meanSample_2 : decode cX12_meanSample 2 = .ok (.putfield 116, 3) := qd_o181 0 2 qd_g642 rfl rfl
theorem dX12_meanSample_5 : decode cX12_meanSample 5 = .ok (.iconst 0, 1) := qd_o3 0 5 qd_g642 rfl
theorem dX12_meanSample_6 : decode cX12_meanSample 6 = .ok (.istore_n 1, 1) := qd_o60 0 6 qd_g642 rfl
theorem dX12_meanSample_7 : decode cX12_meanSample 7 = .ok (.iconst 0, 1) := qd_o3 0 7 qd_g642 rfl
theorem dX12_meanSample_8 : decode cX12_meanSample 8 = .ok (.istore_n 2, 1) := qd_o61 0 8 qd_g642 rfl
theorem dX12_meanSample_9 : decode cX12_meanSample 9 = .ok (.iload_n 2, 1) := qd_o28 0 9 qd_g642 rfl
theorem dX12_meanSample_10 : decode cX12_meanSample 10 = .ok (.bipush 40, 2) := qd_o16 0 10 qd_g642 rfl rfl
theorem dX12_meanSample_12 : decode cX12_meanSample 12 = .ok (.if_icmp .ge 18, 3) := qd_o162 0 12 qd_g642 rfl rfl
theorem dX12_meanSample_15 : decode cX12_meanSample 15 = .ok (.iload_n 1, 1) := qd_o27 0 15 qd_g642 rfl
theorem dX12_meanSample_16 : decode cX12_meanSample 16 = .ok (.aload_n 0, 1) := qd_o42 0 16 qd_g642 rfl
theorem dX12_meanSample_17 : decode cX12_meanSample 17 = .ok (.getfield 25, 3) := qd_o180 0 17 qd_g642 rfl rfl
theorem dX12_meanSample_20 : decode cX12_meanSample 20 = .ok (.iload_n 2, 1) := qd_o28 0 20 qd_g642 rfl
theorem dX12_meanSample_21 : decode cX12_meanSample 21 = .ok (.iaload, 1) := qd_o46 0 21 qd_g642 rfl
theorem dX12_meanSample_22 : decode cX12_meanSample 22 = .ok (.iadd, 1) := qd_o96 0 22 qd_g642 rfl
theorem dX12_meanSample_23 : decode cX12_meanSample 23 = .ok (.istore_n 1, 1) := qd_o60 0 23 qd_g642 rfl
theorem dX12_meanSample_24 : decode cX12_meanSample 24 = .ok (.iinc 2 1, 3) := qd_o132 0 24 qd_g642 rfl rfl
theorem dX12_meanSample_27 : decode cX12_meanSample 27 = .ok (.goto (-18), 3) := qd_o167 0 27 qd_g642 rfl rfl
theorem dX12_meanSample_30 : decode cX12_meanSample 30 = .ok (.iload_n 1, 1) := qd_o27 0 30 qd_g642 rfl
theorem dX12_meanSample_31 : decode cX12_meanSample 31 = .ok (.i2d, 1) := qd_o135 0 31 qd_g642 rfl
theorem dX12_meanSample_32 : decode cX12_meanSample 32 = .ok (.ldc2_w 398, 3) := qd_o20 0 32 qd_g642 rfl rfl
theorem dX12_meanSample_35 : decode cX12_meanSample 35 = .ok (.ddiv, 1) := qd_o111 0 35 qd_g642 rfl
theorem dX12_meanSample_36 : decode cX12_meanSample 36 = .ok (.dreturn, 1) := qd_o175 0 36 qd_g642 rfl
theorem qd_g643 : qd_bs cJ5_init_d00df 0 [42, 183, 0, 3, 178, 0, 18, 153, 0, 18, 42, 27] = true := by decide +kernel
theorem dJ5_init_d00df_0 : decode cJ5_init_d00df 0 = .ok (.aload_n 0, 1) := qd_o42 0 0 qd_g643 rfl
theorem dJ5_init_d00df_1 : decode cJ5_init_d00df 1 = .ok (.invokespecial 3, 3) := qd_o183 0 1 qd_g643 rfl rfl
theorem dJ5_init_d00df_4 : decode cJ5_init_d00df 4 = .ok (.getstatic 18, 3) := qd_o178 0 4 qd_g643 rfl rfl
theorem dJ5_init_d00df_7 : decode cJ5_init_d00df 7 = .ok (.ifCond .eq 18, 3) := qd_o153 0 7 qd_g643 rfl rfl
theorem dJ5_init_d00df_10 : decode cJ5_init_d00df 10 = .ok (.aload_n 0, 1) := qd_o42 0 10 qd_g643 rfl
theorem dJ5_init_d00df_11 : decode cJ5_init_d00df 11 = .ok (.iload_n 1, 1) := qd_o27 0 11 qd_g643 rfl
theorem dJ5_init_d00df_12 : decode cJ5_init_d00df 12 = .ok (.newarray .byte, 2) := by decide +kernel
theorem qd_g644 : qd_bs cJ5_init_d00df 14 [181, 0, 15, 42, 3, 181, 0, 22, 167, 0, 16, 42, 27, 184, 0, 26, 181, 0, 15, 42, 4, 181, 0, 22, 177] = true := by decide +kernel
theorem dJ5_init_d00df_14 : decode cJ5_init_d00df 14 = .ok (.putfield 15, 3) := qd_o181 14 0 qd_g644 rfl rfl
theorem dJ5_init_d00df_17 : decode cJ5_init_d00df 17 = .ok (.aload_n 0, 1) := qd_o42 14 3 qd_g644 rfl
theorem dJ5_init_d00df_18 : decode cJ5_init_d00df 18 = .ok (.iconst 0, 1) := qd_o3 14 4 qd_g644 rfl
theorem dJ5_init_d00df_19 : decode cJ5_init_d00df 19 = .ok (.putfield 22, 3) := qd_o181 14 5 qd_g644 rfl rfl
theorem dJ5_init_d00df_22 : decode cJ5_init_d00df 22 = .ok (.goto 16, 3) := qd_o167 14 8 qd_g644 rfl rfl
theorem dJ5_init_d00df_25 : decode cJ5_init_d00df 25 = .ok (.aload_n 0, 1) := qd_o42 14 11 qd_g644 rfl
theorem dJ5_init_d00df_26 : decode cJ5_init_d00df 26 = .ok (.iload_n 1, 1) := qd_o27 14 12 qd_g644 rfl
theorem dJ5_init_d00df_27 : decode cJ5_init_d00df 27 = .ok (.invokestatic 26, 3) := qd_o184 14 13 qd_g644 rfl rfl
theorem dJ5_init_d00df_30 : decode cJ5_init_d00df 30 = .ok (.putfield 15, 3) := qd_o181 14 16 qd_g644 rfl rfl
theorem dJ5_init_d00df_33 : decode cJ5_init_d00df 33 = .ok (.aload_n 0, 1) := qd_o42 14 19 qd_g644 rfl
theorem dJ5_init_d00df_34 : decode cJ5_init_d00df 34 = .ok (.iconst 1, 1) := qd_o4 14 20 qd_g644 rfl
theorem dJ5_init_d00df_35 : decode cJ5_init_d00df 35 = .ok (.putfield 22, 3) := qd_o181 14 21 qd_g644 rfl rfl
theorem dJ5_init_d00df_38 : decode cJ5_init_d00df 38 = .ok (.return_, 1) := qd_o177 14 24 qd_g644 rfl
theorem qd_g645 : qd_bs cJ5_length_8abf5 0 [42, 180, 0, 79, 172] = true := by decide +kernel
theorem dJ5_length_8abf5_0 : decode cJ5_length_8abf5 0 = .ok (.aload_n 0, 1) := qd_o42 0 0 qd_g645 rfl
theorem dJ5_length_8abf5_1 : decode cJ5_length_8abf5 1 = .ok (.getfield 79, 3) := qd_o180 0 1 qd_g645 rfl rfl
theorem dJ5_length_8abf5_4 : decode cJ5_length_8abf5 4 = .ok (.ireturn, 1) := qd_o172 0 4 qd_g645 rfl
theorem qd_g646 : qd_bs cJ5_ensureCapacityInternal_d00df 0 [42, 180, 0, 15, 190, 42, 180, 0, 22, 122, 61, 27, 28, 100, 158, 0, 24, 42, 42, 180, 0, 15, 42, 27, 182, 0, 104, 42, 180, 0, 22, 120, 184, 0, 108, 181, 0, 15, 177] = true := by decide +kernel
theorem dJ5_ensureCapacityInternal_d00df_0 : decode cJ5_ensureCapacityInternal_d00df 0 = .ok (.aload_n 0, 1) := qd_o42 0 0 qd_g646 rfl
theorem dJ5_ensureCapacityInternal_d00df_1 : decode cJ5_ensureCapacityInternal_d00df 1 = .ok (.getfield 15, 3) := qd_o180 0 1 qd_g646 rfl rfl
theorem dJ5_ensureCapacityInternal_d00df_4 : decode cJ5_ensureCapacityInternal_d00df 4 = .ok (.arraylength, 1) := qd_o190 0 4 qd_g646 rfl
theorem dJ5_ensureCapacityInternal_d00df_5 : decode cJ5_ensureCapacityInternal_d00df 5 = .ok (.aload_n 0, 1) := qd_o42 0 5 qd_g646 rfl
theorem dJ5_ensureCapacityInternal_d00df_6 : decode cJ5_ensureCapacityInternal_d00df 6 = .ok (.getfield 22, 3) := qd_o180 0 6 qd_g646 rfl rfl
theorem dJ5_ensureCapacityInternal_d00df_9 : decode cJ5_ensureCapacityInternal_d00df 9 = .ok (.ishr, 1) := qd_o122 0 9 qd_g646 rfl
theorem dJ5_ensureCapacityInternal_d00df_10 : decode cJ5_ensureCapacityInternal_d00df 10 = .ok (.istore_n 2, 1) := qd_o61 0 10 qd_g646 rfl
theorem dJ5_ensureCapacityInternal_d00df_11 : decode cJ5_ensureCapacityInternal_d00df 11 = .ok (.iload_n 1, 1) := qd_o27 0 11 qd_g646 rfl
theorem dJ5_ensureCapacityInternal_d00df_12 : decode cJ5_ensureCapacityInternal_d00df 12 = .ok (.iload_n 2, 1) := qd_o28 0 12 qd_g646 rfl
theorem dJ5_ensureCapacityInternal_d00df_13 : decode cJ5_ensureCapacityInternal_d00df 13 = .ok (.isub, 1) := qd_o100 0 13 qd_g646 rfl
theorem dJ5_ensureCapacityInternal_d00df_14 : decode cJ5_ensureCapacityInternal_d00df 14 = .ok (.ifCond .le 24, 3) := qd_o158 0 14 qd_g646 rfl rfl
theorem dJ5_ensureCapacityInternal_d00df_17 : decode cJ5_ensureCapacityInternal_d00df 17 = .ok (.aload_n 0, 1) := qd_o42 0 17 qd_g646 rfl
theorem dJ5_ensureCapacityInternal_d00df_18 : decode cJ5_ensureCapacityInternal_d00df 18 = .ok (.aload_n 0, 1) := qd_o42 0 18 qd_g646 rfl
theorem dJ5_ensureCapacityInternal_d00df_19 : decode cJ5_ensureCapacityInternal_d00df 19 = .ok (.getfield 15, 3) := qd_o180 0 19 qd_g646 rfl rfl
theorem dJ5_ensureCapacityInternal_d00df_22 : decode cJ5_ensureCapacityInternal_d00df 22 = .ok (.aload_n 0, 1) := qd_o42 0 22 qd_g646 rfl
theorem dJ5_ensureCapacityInternal_d00df_23 : decode cJ5_ensureCapacityInternal_d00df 23 = .ok (.iload_n 1, 1) := qd_o27 0 23 qd_g646 rfl
theorem dJ5_ensureCapacityInternal_d00df_24 : decode cJ5_ensureCapacityInternal_d00df 24 = .ok (.invokevirtual 104, 3) := qd_o182 0 24 qd_g646 rfl rfl
theorem dJ5_ensureCapacityInternal_d00df_27 : decode cJ5_ensureCapacityInternal_d00df 27 = .ok (.aload_n 0, 1) := qd_o42 0 27 qd_g646 rfl
theorem dJ5_ensureCapacityInternal_d00df_28 : decode cJ5_ensureCapacityInternal_d00df 28 = .ok (.getfield 22, 3) := qd_o180 0 28 qd_g646 rfl rfl
theorem dJ5_ensureCapacityInternal_d00df_31 : decode cJ5_ensureCapacityInternal_d00df 31 = .ok (.ishl, 1) := qd_o120 0 31 qd_g646 rfl
theorem dJ5_ensureCapacityInternal_d00df_32 : decode cJ5_ensureCapacityInternal_d00df 32 = .ok (.invokestatic 108, 3) := qd_o184 0 32 qd_g646 rfl rfl
theorem dJ5_ensureCapacityInternal_d00df_35 : decode cJ5_ensureCapacityInternal_d00df 35 = .ok (.putfield 15, 3) := qd_o181 0 35 qd_g646 rfl rfl
theorem dJ5_ensureCapacityInternal_d00df_38 : decode cJ5_ensureCapacityInternal_d00df 38 = .ok (.return_, 1) := qd_o177 0 38 qd_g646 rfl
theorem qd_g647 : qd_bs cJ5_newCapacity_0f7a4 0 [42, 180, 0, 15, 190, 61, 27, 42, 180, 0, 22, 120, 62, 29, 28, 100, 54, 4, 28, 21, 4, 28, 5, 42, 180, 0, 22, 120, 96, 184, 0, 114, 54, 5, 21, 5, 18, 39] = true := by decide +kernel
theorem dJ5_newCapacity_0f7a4_0 : decode cJ5_newCapacity_0f7a4 0 = .ok (.aload_n 0, 1) := qd_o42 0 0 qd_g647 rfl
theorem dJ5_newCapacity_0f7a4_1 : decode cJ5_newCapacity_0f7a4 1 = .ok (.getfield 15, 3) := qd_o180 0 1 qd_g647 rfl rfl
theorem dJ5_newCapacity_0f7a4_4 : decode cJ5_newCapacity_0f7a4 4 = .ok (.arraylength, 1) := qd_o190 0 4 qd_g647 rfl
theorem dJ5_newCapacity_0f7a4_5 : decode cJ5_newCapacity_0f7a4 5 = .ok (.istore_n 2, 1) := qd_o61 0 5 qd_g647 rfl
theorem dJ5_newCapacity_0f7a4_6 : decode cJ5_newCapacity_0f7a4 6 = .ok (.iload_n 1, 1) := qd_o27 0 6 qd_g647 rfl
theorem dJ5_newCapacity_0f7a4_7 : decode cJ5_newCapacity_0f7a4 7 = .ok (.aload_n 0, 1) := qd_o42 0 7 qd_g647 rfl
theorem dJ5_newCapacity_0f7a4_8 : decode cJ5_newCapacity_0f7a4 8 = .ok (.getfield 22, 3) := qd_o180 0 8 qd_g647 rfl rfl
theorem dJ5_newCapacity_0f7a4_11 : decode cJ5_newCapacity_0f7a4 11 = .ok (.ishl, 1) := qd_o120 0 11 qd_g647 rfl
theorem dJ5_newCapacity_0f7a4_12 : decode cJ5_newCapacity_0f7a4 12 = .ok (.istore_n 3, 1) := qd_o62 0 12 qd_g647 rfl
theorem dJ5_newCapacity_0f7a4_13 : decode cJ5_newCapacity_0f7a4 13 = .ok (.iload_n 3, 1) := qd_o29 0 13 qd_g647 rfl
theorem dJ5_newCapacity_0f7a4_14 : decode cJ5_newCapacity_0f7a4 14 = .ok (.iload_n 2, 1) := qd_o28 0 14 qd_g647 rfl
theorem dJ5_newCapacity_0f7a4_15 : decode cJ5_newCapacity_0f7a4 15 = .ok (.isub, 1) := qd_o100 0 15 qd_g647 rfl
theorem dJ5_newCapacity_0f7a4_16 : decode cJ5_newCapacity_0f7a4 16 = .ok (.istore 4, 2) := qd_o54 0 16 qd_g647 rfl rfl
theorem dJ5_newCapacity_0f7a4_18 : decode cJ5_newCapacity_0f7a4 18 = .ok (.iload_n 2, 1) := qd_o28 0 18 qd_g647 rfl
theorem dJ5_newCapacity_0f7a4_19 : decode cJ5_newCapacity_0f7a4 19 = .ok (.iload 4, 2) := qd_o21 0 19 qd_g647 rfl rfl
theorem dJ5_newCapacity_0f7a4_21 : decode cJ5_newCapacity_0f7a4 21 = .ok (.iload_n 2, 1) := qd_o28 0 21 qd_g647 rfl
theorem dJ5_newCapacity_0f7a4_22 : decode cJ5_newCapacity_0f7a4 22 = .ok (.iconst 2, 1) := qd_o5 0 22 qd_g647 rfl
theorem dJ5_newCapacity_0f7a4_23 : decode cJ5_newCapacity_0f7a4 23 = .ok (.aload_n 0, 1) := qd_o42 0 23 qd_g647 rfl
theorem dJ5_newCapacity_0f7a4_24 : decode cJ5_newCapacity_0f7a4 24 = .ok (.getfield 22, 3) := qd_o180 0 24 qd_g647 rfl rfl
theorem dJ5_newCapacity_0f7a4_27 : decode cJ5_newCapacity_0f7a4 27 = .ok (.ishl, 1) := qd_o120 0 27 qd_g647 rfl
theorem dJ5_newCapacity_0f7a4_28 : decode cJ5_newCapacity_0f7a4 28 = .ok (.iadd, 1) := qd_o96 0 28 qd_g647 rfl
theorem dJ5_newCapacity_0f7a4_29 : decode cJ5_newCapacity_0f7a4 29 = .ok (.invokestatic 114, 3) := qd_o184 0 29 qd_g647 rfl rfl
theorem dJ5_newCapacity_0f7a4_32 : decode cJ5_newCapacity_0f7a4 32 = .ok (.istore 5, 2) := qd_o54 0 32 qd_g647 rfl rfl
theorem dJ5_newCapacity_0f7a4_34 : decode cJ5_newCapacity_0f7a4 34 = .ok (.iload 5, 2) := qd_o21 0 34 qd_g647 rfl rfl
theorem dJ5_newCapacity_0f7a4_36 : decode cJ5_newCapacity_0f7a4 36 = .ok (.ldc 39, 2) := qd_o18 0 36 qd_g647 rfl rfl
theorem qd_g648 : qd_bs cJ5_newCapacity_0f7a4 38 [160, 0, 13, 187, 0, 120, 89, 18, 122, 183, 0, 124, 191, 21, 5, 42, 180, 0, 22, 122, 172] = true := by decide +kernel
theorem dJ5_newCapacity_0f7a4_38 : decode cJ5_newCapacity_0f7a4 38 = .ok (.if_icmp .ne 13, 3) := qd_o160 38 0 qd_g648 rfl rfl
theorem dJ5_newCapacity_0f7a4_41 : decode cJ5_newCapacity_0f7a4 41 = .ok (.new 120, 3) := qd_o187 38 3 qd_g648 rfl rfl
theorem dJ5_newCapacity_0f7a4_44 : decode cJ5_newCapacity_0f7a4 44 = .ok (.dup, 1) := qd_o89 38 6 qd_g648 rfl
theorem dJ5_newCapacity_0f7a4_45 : decode cJ5_newCapacity_0f7a4 45 = .ok (.ldc 122, 2) := qd_o18 38 7 qd_g648 rfl rfl
theorem dJ5_newCapacity_0f7a4_47 : decode cJ5_newCapacity_0f7a4 47 = .ok (.invokespecial 124, 3) := qd_o183 38 9 qd_g648 rfl rfl
theorem dJ5_newCapacity_0f7a4_50 : decode cJ5_newCapacity_0f7a4 50 = .ok (.athrow, 1) := qd_o191 38 12 qd_g648 rfl
theorem dJ5_newCapacity_0f7a4_51 : decode cJ5_newCapacity_0f7a4 51 = .ok (.iload 5, 2) := qd_o21 38 13 qd_g648 rfl rfl
theorem dJ5_newCapacity_0f7a4_53 : decode cJ5_newCapacity_0f7a4 53 = .ok (.aload_n 0, 1) := qd_o42 38 15 qd_g648 rfl
theorem dJ5_newCapacity_0f7a4_54 : decode cJ5_newCapacity_0f7a4 54 = .ok (.getfield 22, 3) := qd_o180 38 16 qd_g648 rfl rfl
theorem dJ5_newCapacity_0f7a4_57 : decode cJ5_newCapacity_0f7a4 57 = .ok (.ishr, 1) := qd_o122 38 19 qd_g648 rfl
theorem dJ5_newCapacity_0f7a4_58 : decode cJ5_newCapacity_0f7a4 58 = .ok (.ireturn, 1) := qd_o172 38 20 qd_g648 rfl
theorem qd_g649 : qd_bs cJ5_inflate_da8c8 0 [42, 182, 0, 83, 154, 0, 4, 177, 42, 180, 0, 15, 190, 184, 0, 26, 76, 42, 180, 0, 15, 3, 43, 3, 42, 180, 0, 79, 184, 0, 125, 42, 43, 181, 0, 15, 42, 4] = true := by decide +kernel
theorem dJ5_inflate_da8c8_0 : decode cJ5_inflate_da8c8 0 = .ok (.aload_n 0, 1) := qd_o42 0 0 qd_g649 rfl
theorem dJ5_inflate_da8c8_1 : decode cJ5_inflate_da8c8 1 = .ok (.invokevirtual 83, 3) := qd_o182 0 1 qd_g649 rfl rfl
theorem dJ5_inflate_da8c8_4 : decode cJ5_inflate_da8c8 4 = .ok (.ifCond .ne 4, 3) := qd_o154 0 4 qd_g649 rfl rfl
theorem dJ5_inflate_da8c8_7 : decode cJ5_inflate_da8c8 7 = .ok (.return_, 1) := qd_o177 0 7 qd_g649 rfl
theorem dJ5_inflate_da8c8_8 : decode cJ5_inflate_da8c8 8 = .ok (.aload_n 0, 1) := qd_o42 0 8 qd_g649 rfl
theorem dJ5_inflate_da8c8_9 : decode cJ5_inflate_da8c8 9 = .ok (.getfield 15, 3) := qd_o180 0 9 qd_g649 rfl rfl
theorem dJ5_inflate_da8c8_12 : decode cJ5_inflate_da8c8 12 = .ok (.arraylength, 1) := qd_o190 0 12 qd_g649 rfl
theorem dJ5_inflate_da8c8_13 : decode cJ5_inflate_da8c8 13 = .ok (.invokestatic 26, 3) := qd_o184 0 13 qd_g649 rfl rfl
theorem dJ5_inflate_da8c8_16 : decode cJ5_inflate_da8c8 16 = .ok (.astore_n 1, 1) := qd_o76 0 16 qd_g649 rfl
theorem dJ5_inflate_da8c8_17 : decode cJ5_inflate_da8c8 17 = .ok (.aload_n 0, 1) := qd_o42 0 17 qd_g649 rfl
theorem dJ5_inflate_da8c8_18 : decode cJ5_inflate_da8c8 18 = .ok (.getfield 15, 3) := qd_o180 0 18 qd_g649 rfl rfl
theorem dJ5_inflate_da8c8_21 : decode cJ5_inflate_da8c8 21 = .ok (.iconst 0, 1) := qd_o3 0 21 qd_g649 rfl
theorem dJ5_inflate_da8c8_22 : decode cJ5_inflate_da8c8 22 = .ok (.aload_n 1, 1) := qd_o43 0 22 qd_g649 rfl
theorem dJ5_inflate_da8c8_23 : decode cJ5_inflate_da8c8 23 = .ok (.iconst 0, 1) := qd_o3 0 23 qd_g649 rfl
theorem dJ5_inflate_da8c8_24 : decode cJ5_inflate_da8c8 24 = .ok (.aload_n 0, 1) := qd_o42 0 24 qd_g649 rfl
theorem dJ5_inflate_da8c8_25 : decode cJ5_inflate_da8c8 25 = .ok (.getfield 79, 3) := qd_o180 0 25 qd_g649 rfl rfl
theorem dJ5_inflate_da8c8_28 : decode cJ5_inflate_da8c8 28 = .ok (.invokestatic 125, 3) := qd_o184 0 28 qd_g649 rfl rfl
theorem dJ5_inflate_da8c8_31 : decode cJ5_inflate_da8c8 31 = .ok (.aload_n 0, 1) := qd_o42 0 31 qd_g649 rfl
theorem dJ5_inflate_da8c8_32 : decode cJ5_inflate_da8c8 32 = .ok (.aload_n 1, 1) := qd_o43 0 32 qd_g649 rfl
theorem dJ5_inflate_da8c8_33 : decode cJ5_inflate_da8c8 33 = .ok (.putfield 15, 3) := qd_o181 0 33 qd_g649 rfl rfl
theorem dJ5_inflate_da8c8_36 : decode cJ5_inflate_da8c8 36 = .ok (.aload_n 0, 1) := qd_o42 0 36 qd_g649 rfl
theorem dJ5_inflate_da8c8_37 : decode cJ5_inflate_da8c8 37 = .ok (.iconst 1, 1) := qd_o4 0 37 qd_g649 rfl
theorem qd_g650 : qd_bs cJ5_inflate_da8c8 38 [181, 0, 22, 177] = true := by decide +kernel
theorem dJ5_inflate_da8c8_38 : decode cJ5_inflate_da8c8 38 = .ok (.putfield 22, 3) := qd_o181 38 0 qd_g650 rfl rfl
theorem dJ5_inflate_da8c8_41 : decode cJ5_inflate_da8c8 41 = .ok (.return_, 1) := qd_o177 38 3 qd_g650 rfl
theorem qd_g651 : qd_bs cJ5_setLength_d00df 0 [27, 156, 0, 12, 187, 0, 129, 89, 27, 183, 0, 131, 191, 42, 27, 182, 0, 100, 42, 180, 0, 79, 27, 162, 0, 40, 42, 182, 0, 83, 153, 0, 18, 42, 180, 0, 15, 42] = true := by decide +kernel
theorem dJ5_setLength_d00df_0 : decode cJ5_setLength_d00df 0 = .ok (.iload_n 1, 1) := qd_o27 0 0 qd_g651 rfl
theorem dJ5_setLength_d00df_1 : decode cJ5_setLength_d00df 1 = .ok (.ifCond .ge 12, 3) := qd_o156 0 1 qd_g651 rfl rfl
theorem dJ5_setLength_d00df_4 : decode cJ5_setLength_d00df 4 = .ok (.new 129, 3) := qd_o187 0 4 qd_g651 rfl rfl
theorem dJ5_setLength_d00df_7 : decode cJ5_setLength_d00df 7 = .ok (.dup, 1) := qd_o89 0 7 qd_g651 rfl
theorem dJ5_setLength_d00df_8 : decode cJ5_setLength_d00df 8 = .ok (.iload_n 1, 1) := qd_o27 0 8 qd_g651 rfl
theorem dJ5_setLength_d00df_9 : decode cJ5_setLength_d00df 9 = .ok (.invokespecial 131, 3) := qd_o183 0 9 qd_g651 rfl rfl
theorem dJ5_setLength_d00df_12 : decode cJ5_setLength_d00df 12 = .ok (.athrow, 1) := qd_o191 0 12 qd_g651 rfl
theorem dJ5_setLength_d00df_13 : decode cJ5_setLength_d00df 13 = .ok (.aload_n 0, 1) := qd_o42 0 13 qd_g651 rfl
theorem dJ5_setLength_d00df_14 : decode cJ5_setLength_d00df 14 = .ok (.iload_n 1, 1) := qd_o27 0 14 qd_g651 rfl
theorem dJ5_setLength_d00df_15 : decode cJ5_setLength_d00df 15 = .ok (.invokevirtual 100, 3) := qd_o182 0 15 qd_g651 rfl rfl
theorem dJ5_setLength_d00df_18 : decode cJ5_setLength_d00df 18 = .ok (.aload_n 0, 1) := qd_o42 0 18 qd_g651 rfl
theorem dJ5_setLength_d00df_19 : decode cJ5_setLength_d00df 19 = .ok (.getfield 79, 3) := qd_o180 0 19 qd_g651 rfl rfl
theorem dJ5_setLength_d00df_22 : decode cJ5_setLength_d00df 22 = .ok (.iload_n 1, 1) := qd_o27 0 22 qd_g651 rfl
theorem dJ5_setLength_d00df_23 : decode cJ5_setLength_d00df 23 = .ok (.if_icmp .ge 40, 3) := qd_o162 0 23 qd_g651 rfl rfl
theorem dJ5_setLength_d00df_26 : decode cJ5_setLength_d00df 26 = .ok (.aload_n 0, 1) := qd_o42 0 26 qd_g651 rfl
theorem dJ5_setLength_d00df_27 : decode cJ5_setLength_d00df 27 = .ok (.invokevirtual 83, 3) := qd_o182 0 27 qd_g651 rfl rfl
theorem dJ5_setLength_d00df_30 : decode cJ5_setLength_d00df 30 = .ok (.ifCond .eq 18, 3) := qd_o153 0 30 qd_g651 rfl rfl
theorem dJ5_setLength_d00df_33 : decode cJ5_setLength_d00df 33 = .ok (.aload_n 0, 1) := qd_o42 0 33 qd_g651 rfl
theorem dJ5_setLength_d00df_34 : decode cJ5_setLength_d00df 34 = .ok (.getfield 15, 3) := qd_o180 0 34 qd_g651 rfl rfl
theorem dJ5_setLength_d00df_37 : decode cJ5_setLength_d00df 37 = .ok (.aload_n 0, 1) := qd_o42 0 37 qd_g651 rfl
theorem qd_g652 : qd_bs cJ5_setLength_d00df 38 [180, 0, 79, 27, 184, 0, 133, 167, 0, 31, 42, 180, 0, 15, 42, 180, 0, 79, 27, 184, 0, 137, 167, 0, 16, 42, 180, 0, 79, 27, 164, 0, 8, 42, 4, 181, 0, 73, 42, 27] = true := by decide +kernel
theorem dJ5_setLength_d00df_38 : decode cJ5_setLength_d00df 38 = .ok (.getfield 79, 3) := qd_o180 38 0 qd_g652 rfl rfl
theorem dJ5_setLength_d00df_41 : decode cJ5_setLength_d00df 41 = .ok (.iload_n 1, 1) := qd_o27 38 3 qd_g652 rfl
theorem dJ5_setLength_d00df_42 : decode cJ5_setLength_d00df 42 = .ok (.invokestatic 133, 3) := qd_o184 38 4 qd_g652 rfl rfl
theorem dJ5_setLength_d00df_45 : decode cJ5_setLength_d00df 45 = .ok (.goto 31, 3) := qd_o167 38 7 qd_g652 rfl rfl
theorem dJ5_setLength_d00df_48 : decode cJ5_setLength_d00df 48 = .ok (.aload_n 0, 1) := qd_o42 38 10 qd_g652 rfl
theorem dJ5_setLength_d00df_49 : decode cJ5_setLength_d00df 49 = .ok (.getfield 15, 3) := qd_o180 38 11 qd_g652 rfl rfl
theorem dJ5_setLength_d00df_52 : decode cJ5_setLength_d00df 52 = .ok (.aload_n 0, 1) := qd_o42 38 14 qd_g652 rfl
theorem dJ5_setLength_d00df_53 : decode cJ5_setLength_d00df 53 = .ok (.getfield 79, 3) := qd_o180 38 15 qd_g652 rfl rfl
theorem dJ5_setLength_d00df_56 : decode cJ5_setLength_d00df 56 = .ok (.iload_n 1, 1) := qd_o27 38 18 qd_g652 rfl
theorem dJ5_setLength_d00df_57 : decode cJ5_setLength_d00df 57 = .ok (.invokestatic 137, 3) := qd_o184 38 19 qd_g652 rfl rfl
theorem dJ5_setLength_d00df_60 : decode cJ5_setLength_d00df 60 = .ok (.goto 16, 3) := qd_o167 38 22 qd_g652 rfl rfl
theorem dJ5_setLength_d00df_63 : decode cJ5_setLength_d00df 63 = .ok (.aload_n 0, 1) := qd_o42 38 25 qd_g652 rfl
theorem dJ5_setLength_d00df_64 : decode cJ5_setLength_d00df 64 = .ok (.getfield 79, 3) := qd_o180 38 26 qd_g652 rfl rfl
theorem dJ5_setLength_d00df_67 : decode cJ5_setLength_d00df 67 = .ok (.iload_n 1, 1) := qd_o27 38 29 qd_g652 rfl
theorem dJ5_setLength_d00df_68 : decode cJ5_setLength_d00df 68 = .ok (.if_icmp .le 8, 3) := qd_o164 38 30 qd_g652 rfl rfl
theorem dJ5_setLength_d00df_71 : decode cJ5_setLength_d00df 71 = .ok (.aload_n 0, 1) := qd_o42 38 33 qd_g652 rfl
theorem dJ5_setLength_d00df_72 : decode cJ5_setLength_d00df 72 = .ok (.iconst 1, 1) := qd_o4 38 34 qd_g652 rfl
theorem dJ5_setLength_d00df_73 : decode cJ5_setLength_d00df 73 = .ok (.putfield 73, 3) := qd_o181 38 35 qd_g652 rfl rfl
theorem dJ5_setLength_d00df_76 : decode cJ5_setLength_d00df 76 = .ok (.aload_n 0, 1) := qd_o42 38 38 qd_g652 rfl
theorem dJ5_setLength_d00df_77 : decode cJ5_setLength_d00df 77 = .ok (.iload_n 1, 1) := qd_o27 38 39 qd_g652 rfl
theorem qd_g653 : qd_bs cJ5_setLength_d00df 78 [181, 0, 79, 177] = true := by decide +kernel
theorem dJ5_setLength_d00df_78 : decode cJ5_setLength_d00df 78 = .ok (.putfield 79, 3) := qd_o181 78 0 qd_g653 rfl rfl
theorem dJ5_setLength_d00df_81 : decode cJ5_setLength_d00df 81 = .ok (.return_, 1) := qd_o177 78 3 qd_g653 rfl
theorem qd_g654 : qd_bs cJ5_charAt_5068e 0 [42, 180, 0, 22, 61, 42, 180, 0, 15, 78, 42, 180, 0, 79, 45, 190, 28, 122, 184, 0, 138, 54, 4, 27, 21, 4, 184, 0, 144, 28, 154, 0, 12, 45, 27, 51, 17, 0, 255, 126] = true := by decide +kernel
theorem dJ5_charAt_5068e_0 : decode cJ5_charAt_5068e 0 = .ok (.aload_n 0, 1) := qd_o42 0 0 qd_g654 rfl
theorem dJ5_charAt_5068e_1 : decode cJ5_charAt_5068e 1 = .ok (.getfield 22, 3) := qd_o180 0 1 qd_g654 rfl rfl
theorem dJ5_charAt_5068e_4 : decode cJ5_charAt_5068e 4 = .ok (.istore_n 2, 1) := qd_o61 0 4 qd_g654 rfl
theorem dJ5_charAt_5068e_5 : decode cJ5_charAt_5068e 5 = .ok (.aload_n 0, 1) := qd_o42 0 5 qd_g654 rfl
theorem dJ5_charAt_5068e_6 : decode cJ5_charAt_5068e 6 = .ok (.getfield 15, 3) := qd_o180 0 6 qd_g654 rfl rfl
theorem dJ5_charAt_5068e_9 : decode cJ5_charAt_5068e 9 = .ok (.astore_n 3, 1) := qd_o78 0 9 qd_g654 rfl
theorem dJ5_charAt_5068e_10 : decode cJ5_charAt_5068e 10 = .ok (.aload_n 0, 1) := qd_o42 0 10 qd_g654 rfl
theorem dJ5_charAt_5068e_11 : decode cJ5_charAt_5068e 11 = .ok (.getfield 79, 3) := qd_o180 0 11 qd_g654 rfl rfl
theorem dJ5_charAt_5068e_14 : decode cJ5_charAt_5068e 14 = .ok (.aload_n 3, 1) := qd_o45 0 14 qd_g654 rfl
theorem dJ5_charAt_5068e_15 : decode cJ5_charAt_5068e 15 = .ok (.arraylength, 1) := qd_o190 0 15 qd_g654 rfl
theorem dJ5_charAt_5068e_16 : decode cJ5_charAt_5068e 16 = .ok (.iload_n 2, 1) := qd_o28 0 16 qd_g654 rfl
theorem dJ5_charAt_5068e_17 : decode cJ5_charAt_5068e 17 = .ok (.ishr, 1) := qd_o122 0 17 qd_g654 rfl
theorem dJ5_charAt_5068e_18 : decode cJ5_charAt_5068e 18 = .ok (.invokestatic 138, 3) := qd_o184 0 18 qd_g654 rfl rfl
theorem dJ5_charAt_5068e_21 : decode cJ5_charAt_5068e 21 = .ok (.istore 4, 2) := qd_o54 0 21 qd_g654 rfl rfl
theorem dJ5_charAt_5068e_23 : decode cJ5_charAt_5068e 23 = .ok (.iload_n 1, 1) := qd_o27 0 23 qd_g654 rfl
theorem dJ5_charAt_5068e_24 : decode cJ5_charAt_5068e 24 = .ok (.iload 4, 2) := qd_o21 0 24 qd_g654 rfl rfl
theorem dJ5_charAt_5068e_26 : decode cJ5_charAt_5068e 26 = .ok (.invokestatic 144, 3) := qd_o184 0 26 qd_g654 rfl rfl
theorem dJ5_charAt_5068e_29 : decode cJ5_charAt_5068e 29 = .ok (.iload_n 2, 1) := qd_o28 0 29 qd_g654 rfl
theorem dJ5_charAt_5068e_30 : decode cJ5_charAt_5068e 30 = .ok (.ifCond .ne 12, 3) := qd_o154 0 30 qd_g654 rfl rfl
theorem dJ5_charAt_5068e_33 : decode cJ5_charAt_5068e 33 = .ok (.aload_n 3, 1) := qd_o45 0 33 qd_g654 rfl
theorem dJ5_charAt_5068e_34 : decode cJ5_charAt_5068e 34 = .ok (.iload_n 1, 1) := qd_o27 0 34 qd_g654 rfl
theorem dJ5_charAt_5068e_35 : decode cJ5_charAt_5068e 35 = .ok (.baload, 1) := qd_o51 0 35 qd_g654 rfl
theorem dJ5_charAt_5068e_36 : decode cJ5_charAt_5068e 36 = .ok (.sipush 255, 3) := qd_o17 0 36 qd_g654 rfl rfl
theorem dJ5_charAt_5068e_39 : decode cJ5_charAt_5068e 39 = .ok (.iand, 1) := qd_o126 0 39 qd_g654 rfl
theorem qd_g655 : qd_bs cJ5_charAt_5068e 40 [146, 172, 45, 27, 184, 0, 148, 172] = true := by decide +kernel
theorem dJ5_charAt_5068e_40 : decode cJ5_charAt_5068e 40 = .ok (.i2c, 1) := qd_o146 40 0 qd_g655 rfl
theorem dJ5_charAt_5068e_41 : decode cJ5_charAt_5068e 41 = .ok (.ireturn, 1) := qd_o172 40 1 qd_g655 rfl
theorem dJ5_charAt_5068e_42 : decode cJ5_charAt_5068e 42 = .ok (.aload_n 3, 1) := qd_o45 40 2 qd_g655 rfl
theorem dJ5_charAt_5068e_43 : decode cJ5_charAt_5068e 43 = .ok (.iload_n 1, 1) := qd_o27 40 3 qd_g655 rfl
theorem dJ5_charAt_5068e_44 : decode cJ5_charAt_5068e 44 = .ok (.invokestatic 148, 3) := qd_o184 40 4 qd_g655 rfl rfl
theorem dJ5_charAt_5068e_47 : decode cJ5_charAt_5068e 47 = .ok (.ireturn, 1) := qd_o172 40 7 qd_g655 rfl
theorem qd_g656 : qd_bs cJ5_append_cf1ce 0 [43, 199, 0, 8, 42, 182, 0, 204, 176, 43, 182, 0, 32, 61, 42, 42, 180, 0, 79, 28, 96, 182, 0, 100, 42, 42, 180, 0, 79, 43, 182, 0, 208, 42, 89, 180, 0, 79, 28, 96] = true := by decide +kernel
theorem dJ5_append_cf1ce_0 : decode cJ5_append_cf1ce 0 = .ok (.aload_n 1, 1) := qd_o43 0 0 qd_g656 rfl
theorem dJ5_append_cf1ce_1 : decode cJ5_append_cf1ce 1 = .ok (.ifnonnull 8, 3) := qd_o199 0 1 qd_g656 rfl rfl
theorem dJ5_append_cf1ce_4 : decode cJ5_append_cf1ce 4 = .ok (.aload_n 0, 1) := qd_o42 0 4 qd_g656 rfl
theorem dJ5_append_cf1ce_5 : decode cJ5_append_cf1ce 5 = .ok (.invokevirtual 204, 3) := qd_o182 0 5 qd_g656 rfl rfl
theorem dJ5_append_cf1ce_8 : decode cJ5_append_cf1ce 8 = .ok (.areturn, 1) := qd_o176 0 8 qd_g656 rfl
theorem dJ5_append_cf1ce_9 : decode cJ5_append_cf1ce 9 = .ok (.aload_n 1, 1) := qd_o43 0 9 qd_g656 rfl
theorem dJ5_append_cf1ce_10 : decode cJ5_append_cf1ce 10 = .ok (.invokevirtual 32, 3) := qd_o182 0 10 qd_g656 rfl rfl
theorem dJ5_append_cf1ce_13 : decode cJ5_append_cf1ce 13 = .ok (.istore_n 2, 1) := qd_o61 0 13 qd_g656 rfl
theorem dJ5_append_cf1ce_14 : decode cJ5_append_cf1ce 14 = .ok (.aload_n 0, 1) := qd_o42 0 14 qd_g656 rfl
theorem dJ5_append_cf1ce_15 : decode cJ5_append_cf1ce 15 = .ok (.aload_n 0, 1) := qd_o42 0 15 qd_g656 rfl
theorem dJ5_append_cf1ce_16 : decode cJ5_append_cf1ce 16 = .ok (.getfield 79, 3) := qd_o180 0 16 qd_g656 rfl rfl
theorem dJ5_append_cf1ce_19 : decode cJ5_append_cf1ce 19 = .ok (.iload_n 2, 1) := qd_o28 0 19 qd_g656 rfl
theorem dJ5_append_cf1ce_20 : decode cJ5_append_cf1ce 20 = .ok (.iadd, 1) := qd_o96 0 20 qd_g656 rfl
theorem dJ5_append_cf1ce_21 : decode cJ5_append_cf1ce 21 = .ok (.invokevirtual 100, 3) := qd_o182 0 21 qd_g656 rfl rfl
theorem dJ5_append_cf1ce_24 : decode cJ5_append_cf1ce 24 = .ok (.aload_n 0, 1) := qd_o42 0 24 qd_g656 rfl
theorem dJ5_append_cf1ce_25 : decode cJ5_append_cf1ce 25 = .ok (.aload_n 0, 1) := qd_o42 0 25 qd_g656 rfl
theorem dJ5_append_cf1ce_26 : decode cJ5_append_cf1ce 26 = .ok (.getfield 79, 3) := qd_o180 0 26 qd_g656 rfl rfl
theorem dJ5_append_cf1ce_29 : decode cJ5_append_cf1ce 29 = .ok (.aload_n 1, 1) := qd_o43 0 29 qd_g656 rfl
theorem dJ5_append_cf1ce_30 : decode cJ5_append_cf1ce 30 = .ok (.invokevirtual 208, 3) := qd_o182 0 30 qd_g656 rfl rfl
theorem dJ5_append_cf1ce_33 : decode cJ5_append_cf1ce 33 = .ok (.aload_n 0, 1) := qd_o42 0 33 qd_g656 rfl
theorem dJ5_append_cf1ce_34 : decode cJ5_append_cf1ce 34 = .ok (.dup, 1) := qd_o89 0 34 qd_g656 rfl
theorem dJ5_append_cf1ce_35 : decode cJ5_append_cf1ce 35 = .ok (.getfield 79, 3) := qd_o180 0 35 qd_g656 rfl rfl
theorem dJ5_append_cf1ce_38 : decode cJ5_append_cf1ce 38 = .ok (.iload_n 2, 1) := qd_o28 0 38 qd_g656 rfl
theorem dJ5_append_cf1ce_39 : decode cJ5_append_cf1ce 39 = .ok (.iadd, 1) := qd_o96 0 39 qd_g656 rfl
theorem qd_g657 : qd_bs cJ5_append_cf1ce 40 [181, 0, 79, 42, 176] = true := by decide +kernel
theorem dJ5_append_cf1ce_40 : decode cJ5_append_cf1ce 40 = .ok (.putfield 79, 3) := qd_o181 40 0 qd_g657 rfl rfl
theorem dJ5_append_cf1ce_43 : decode cJ5_append_cf1ce 43 = .ok (.aload_n 0, 1) := qd_o42 40 3 qd_g657 rfl
theorem dJ5_append_cf1ce_44 : decode cJ5_append_cf1ce 44 = .ok (.areturn, 1) := qd_o176 40 4 qd_g657 rfl
theorem qd_g658 : qd_bs cJ5_appendNull_278bc 0 [42, 42, 180, 0, 79, 7, 96, 182, 0, 100, 42, 180, 0, 79, 60, 42, 180, 0, 15, 77, 42, 182, 0, 83, 153, 0, 38, 44, 27, 132, 1, 1, 16, 110, 84, 44, 27, 132, 1, 1] = true := by decide +kernel
theorem dJ5_appendNull_278bc_0 : decode cJ5_appendNull_278bc 0 = .ok (.aload_n 0, 1) := qd_o42 0 0 qd_g658 rfl
theorem dJ5_appendNull_278bc_1 : decode cJ5_appendNull_278bc 1 = .ok (.aload_n 0, 1) := qd_o42 0 1 qd_g658 rfl
theorem dJ5_appendNull_278bc_2 : decode cJ5_appendNull_278bc 2 = .ok (.getfield 79, 3) := qd_o180 0 2 qd_g658 rfl rfl
theorem dJ5_appendNull_278bc_5 : decode cJ5_appendNull_278bc 5 = .ok (.iconst 4, 1) := qd_o7 0 5 qd_g658 rfl
theorem dJ5_appendNull_278bc_6 : decode cJ5_appendNull_278bc 6 = .ok (.iadd, 1) := qd_o96 0 6 qd_g658 rfl
theorem dJ5_appendNull_278bc_7 : decode cJ5_appendNull_278bc 7 = .ok (.invokevirtual 100, 3) := qd_o182 0 7 qd_g658 rfl rfl
theorem dJ5_appendNull_278bc_10 : decode cJ5_appendNull_278bc 10 = .ok (.aload_n 0, 1) := qd_o42 0 10 qd_g658 rfl
theorem dJ5_appendNull_278bc_11 : decode cJ5_appendNull_278bc 11 = .ok (.getfield 79, 3) := qd_o180 0 11 qd_g658 rfl rfl
theorem dJ5_appendNull_278bc_14 : decode cJ5_appendNull_278bc 14 = .ok (.istore_n 1, 1) := qd_o60 0 14 qd_g658 rfl
theorem dJ5_appendNull_278bc_15 : decode cJ5_appendNull_278bc 15 = .ok (.aload_n 0, 1) := qd_o42 0 15 qd_g658 rfl
theorem dJ5_appendNull_278bc_16 : decode cJ5_appendNull_278bc 16 = .ok (.getfield 15, 3) := qd_o180 0 16 qd_g658 rfl rfl
theorem dJ5_appendNull_278bc_19 : decode cJ5_appendNull_278bc 19 = .ok (.astore_n 2, 1) := qd_o77 0 19 qd_g658 rfl
theorem dJ5_appendNull_278bc_20 : decode cJ5_appendNull_278bc 20 = .ok (.aload_n 0, 1) := qd_o42 0 20 qd_g658 rfl
theorem dJ5_appendNull_278bc_21 : decode cJ5_appendNull_278bc 21 = .ok (.invokevirtual 83, 3) := qd_o182 0 21 qd_g658 rfl rfl
theorem dJ5_appendNull_278bc_24 : decode cJ5_appendNull_278bc 24 = .ok (.ifCond .eq 38, 3) := qd_o153 0 24 qd_g658 rfl rfl
theorem dJ5_appendNull_278bc_27 : decode cJ5_appendNull_278bc 27 = .ok (.aload_n 2, 1) := qd_o44 0 27 qd_g658 rfl
theorem dJ5_appendNull_278bc_28 : decode cJ5_appendNull_278bc 28 = .ok (.iload_n 1, 1) := qd_o27 0 28 qd_g658 rfl
theorem dJ5_appendNull_278bc_29 : decode cJ5_appendNull_278bc 29 = .ok (.iinc 1 1, 3) := qd_o132 0 29 qd_g658 rfl rfl
theorem dJ5_appendNull_278bc_32 : decode cJ5_appendNull_278bc 32 = .ok (.bipush 110, 2) := qd_o16 0 32 qd_g658 rfl rfl
theorem dJ5_appendNull_278bc_34 : decode cJ5_appendNull_278bc 34 = .ok (.bastore, 1) := qd_o84 0 34 qd_g658 rfl
theorem dJ5_appendNull_278bc_35 : decode cJ5_appendNull_278bc 35 = .ok (.aload_n 2, 1) := qd_o44 0 35 qd_g658 rfl
theorem dJ5_appendNull_278bc_36 : decode cJ5_appendNull_278bc 36 = .ok (.iload_n 1, 1) := qd_o27 0 36 qd_g658 rfl
theorem dJ5_appendNull_278bc_37 : decode cJ5_appendNull_278bc 37 = .ok (.iinc 1 1, 3) := qd_o132 0 37 qd_g658 rfl rfl
theorem qd_g659 : qd_bs cJ5_appendNull_278bc 40 [16, 117, 84, 44, 27, 132, 1, 1, 16, 108, 84, 44, 27, 132, 1, 1, 16, 108, 84, 167, 0, 17, 44, 27, 16, 110, 16, 117, 16, 108, 16, 108, 184, 0, 226, 60, 42, 27] = true := by decide +kernel
theorem dJ5_appendNull_278bc_40 : decode cJ5_appendNull_278bc 40 = .ok (.bipush 117, 2) := qd_o16 40 0 qd_g659 rfl rfl
theorem dJ5_appendNull_278bc_42 : decode cJ5_appendNull_278bc 42 = .ok (.bastore, 1) := qd_o84 40 2 qd_g659 rfl
theorem dJ5_appendNull_278bc_43 : decode cJ5_appendNull_278bc 43 = .ok (.aload_n 2, 1) := qd_o44 40 3 qd_g659 rfl
theorem dJ5_appendNull_278bc_44 : decode cJ5_appendNull_278bc 44 = .ok (.iload_n 1, 1) := qd_o27 40 4 qd_g659 rfl
theorem dJ5_appendNull_278bc_45 : decode cJ5_appendNull_278bc 45 = .ok (.iinc 1 1, 3) := qd_o132 40 5 qd_g659 rfl rfl
theorem dJ5_appendNull_278bc_48 : decode cJ5_appendNull_278bc 48 = .ok (.bipush 108, 2) := qd_o16 40 8 qd_g659 rfl rfl
theorem dJ5_appendNull_278bc_50 : decode cJ5_appendNull_278bc 50 = .ok (.bastore, 1) := qd_o84 40 10 qd_g659 rfl
theorem dJ5_appendNull_278bc_51 : decode cJ5_appendNull_278bc 51 = .ok (.aload_n 2, 1) := qd_o44 40 11 qd_g659 rfl
theorem dJ5_appendNull_278bc_52 : decode cJ5_appendNull_278bc 52 = .ok (.iload_n 1, 1) := qd_o27 40 12 qd_g659 rfl
theorem dJ5_appendNull_278bc_53 : decode cJ5_appendNull_278bc 53 = .ok (.iinc 1 1, 3) := qd_o132 40 13 qd_g659 rfl rfl
theorem dJ5_appendNull_278bc_56 : decode cJ5_appendNull_278bc 56 = .ok (.bipush 108, 2) := qd_o16 40 16 qd_g659 rfl rfl
theorem dJ5_appendNull_278bc_58 : decode cJ5_appendNull_278bc 58 = .ok (.bastore, 1) := qd_o84 40 18 qd_g659 rfl
theorem dJ5_appendNull_278bc_59 : decode cJ5_appendNull_278bc 59 = .ok (.goto 17, 3) := qd_o167 40 19 qd_g659 rfl rfl
theorem dJ5_appendNull_278bc_62 : decode cJ5_appendNull_278bc 62 = .ok (.aload_n 2, 1) := qd_o44 40 22 qd_g659 rfl
theorem dJ5_appendNull_278bc_63 : decode cJ5_appendNull_278bc 63 = .ok (.iload_n 1, 1) := qd_o27 40 23 qd_g659 rfl
theorem dJ5_appendNull_278bc_64 : decode cJ5_appendNull_278bc 64 = .ok (.bipush 110, 2) := qd_o16 40 24 qd_g659 rfl rfl
theorem dJ5_appendNull_278bc_66 : decode cJ5_appendNull_278bc 66 = .ok (.bipush 117, 2) := qd_o16 40 26 qd_g659 rfl rfl
theorem dJ5_appendNull_278bc_68 : decode cJ5_appendNull_278bc 68 = .ok (.bipush 108, 2) := qd_o16 40 28 qd_g659 rfl rfl
theorem dJ5_appendNull_278bc_70 : decode cJ5_appendNull_278bc 70 = .ok (.bipush 108, 2) := qd_o16 40 30 qd_g659 rfl rfl
theorem dJ5_appendNull_278bc_72 : decode cJ5_appendNull_278bc 72 = .ok (.invokestatic 226, 3) := qd_o184 40 32 qd_g659 rfl rfl
theorem dJ5_appendNull_278bc_75 : decode cJ5_appendNull_278bc 75 = .ok (.istore_n 1, 1) := qd_o60 40 35 qd_g659 rfl
theorem dJ5_appendNull_278bc_76 : decode cJ5_appendNull_278bc 76 = .ok (.aload_n 0, 1) := qd_o42 40 36 qd_g659 rfl
theorem dJ5_appendNull_278bc_77 : decode cJ5_appendNull_278bc 77 = .ok (.iload_n 1, 1) := qd_o27 40 37 qd_g659 rfl
theorem qd_g660 : qd_bs cJ5_appendNull_278bc 78 [181, 0, 79, 42, 176] = true := by decide +kernel
theorem dJ5_appendNull_278bc_78 : decode cJ5_appendNull_278bc 78 = .ok (.putfield 79, 3) := qd_o181 78 0 qd_g660 rfl rfl
theorem dJ5_appendNull_278bc_81 : decode cJ5_appendNull_278bc 81 = .ok (.aload_n 0, 1) := qd_o42 78 3 qd_g660 rfl
theorem dJ5_appendNull_278bc_82 : decode cJ5_appendNull_278bc 82 = .ok (.areturn, 1) := qd_o176 78 4 qd_g660 rfl
theorem qd_g661 : qd_bs cJ5_append_3fe6f 0 [42, 42, 180, 0, 79, 4, 96, 182, 0, 100, 42, 182, 0, 83, 153, 0, 31, 27, 184, 0, 191, 153, 0, 24, 42, 180, 0, 15, 42, 89, 180, 0, 79, 90, 4, 96, 181, 0, 79, 27] = true := by decide +kernel
theorem dJ5_append_3fe6f_0 : decode cJ5_append_3fe6f 0 = .ok (.aload_n 0, 1) := qd_o42 0 0 qd_g661 rfl
theorem dJ5_append_3fe6f_1 : decode cJ5_append_3fe6f 1 = .ok (.aload_n 0, 1) := qd_o42 0 1 qd_g661 rfl
theorem dJ5_append_3fe6f_2 : decode cJ5_append_3fe6f 2 = .ok (.getfield 79, 3) := qd_o180 0 2 qd_g661 rfl rfl
theorem dJ5_append_3fe6f_5 : decode cJ5_append_3fe6f 5 = .ok (.iconst 1, 1) := qd_o4 0 5 qd_g661 rfl
theorem dJ5_append_3fe6f_6 : decode cJ5_append_3fe6f 6 = .ok (.iadd, 1) := qd_o96 0 6 qd_g661 rfl
theorem dJ5_append_3fe6f_7 : decode cJ5_append_3fe6f 7 = .ok (.invokevirtual 100, 3) := qd_o182 0 7 qd_g661 rfl rfl
theorem dJ5_append_3fe6f_10 : decode cJ5_append_3fe6f 10 = .ok (.aload_n 0, 1) := qd_o42 0 10 qd_g661 rfl
theorem dJ5_append_3fe6f_11 : decode cJ5_append_3fe6f 11 = .ok (.invokevirtual 83, 3) := qd_o182 0 11 qd_g661 rfl rfl
theorem dJ5_append_3fe6f_14 : decode cJ5_append_3fe6f 14 = .ok (.ifCond .eq 31, 3) := qd_o153 0 14 qd_g661 rfl rfl
theorem dJ5_append_3fe6f_17 : decode cJ5_append_3fe6f 17 = .ok (.iload_n 1, 1) := qd_o27 0 17 qd_g661 rfl
theorem dJ5_append_3fe6f_18 : decode cJ5_append_3fe6f 18 = .ok (.invokestatic 191, 3) := qd_o184 0 18 qd_g661 rfl rfl
theorem dJ5_append_3fe6f_21 : decode cJ5_append_3fe6f 21 = .ok (.ifCond .eq 24, 3) := qd_o153 0 21 qd_g661 rfl rfl
theorem dJ5_append_3fe6f_24 : decode cJ5_append_3fe6f 24 = .ok (.aload_n 0, 1) := qd_o42 0 24 qd_g661 rfl
theorem dJ5_append_3fe6f_25 : decode cJ5_append_3fe6f 25 = .ok (.getfield 15, 3) := qd_o180 0 25 qd_g661 rfl rfl
theorem dJ5_append_3fe6f_28 : decode cJ5_append_3fe6f 28 = .ok (.aload_n 0, 1) := qd_o42 0 28 qd_g661 rfl
theorem dJ5_append_3fe6f_29 : decode cJ5_append_3fe6f 29 = .ok (.dup, 1) := qd_o89 0 29 qd_g661 rfl
theorem dJ5_append_3fe6f_30 : decode cJ5_append_3fe6f 30 = .ok (.getfield 79, 3) := qd_o180 0 30 qd_g661 rfl rfl
theorem dJ5_append_3fe6f_33 : decode cJ5_append_3fe6f 33 = .ok (.dup_x1, 1) := qd_o90 0 33 qd_g661 rfl
theorem dJ5_append_3fe6f_34 : decode cJ5_append_3fe6f 34 = .ok (.iconst 1, 1) := qd_o4 0 34 qd_g661 rfl
theorem dJ5_append_3fe6f_35 : decode cJ5_append_3fe6f 35 = .ok (.iadd, 1) := qd_o96 0 35 qd_g661 rfl
theorem dJ5_append_3fe6f_36 : decode cJ5_append_3fe6f 36 = .ok (.putfield 79, 3) := qd_o181 0 36 qd_g661 rfl rfl
theorem dJ5_append_3fe6f_39 : decode cJ5_append_3fe6f 39 = .ok (.iload_n 1, 1) := qd_o27 0 39 qd_g661 rfl
theorem qd_g662 : qd_bs cJ5_append_3fe6f 40 [145, 84, 167, 0, 33, 42, 182, 0, 83, 153, 0, 7, 42, 182, 0, 195, 42, 180, 0, 15, 42, 89, 180, 0, 79, 90, 4, 96, 181, 0, 79, 27, 184, 0, 197, 42, 176] = true := by decide +kernel
theorem dJ5_append_3fe6f_40 : decode cJ5_append_3fe6f 40 = .ok (.i2b, 1) := qd_o145 40 0 qd_g662 rfl
theorem dJ5_append_3fe6f_41 : decode cJ5_append_3fe6f 41 = .ok (.bastore, 1) := qd_o84 40 1 qd_g662 rfl
theorem dJ5_append_3fe6f_42 : decode cJ5_append_3fe6f 42 = .ok (.goto 33, 3) := qd_o167 40 2 qd_g662 rfl rfl
theorem dJ5_append_3fe6f_45 : decode cJ5_append_3fe6f 45 = .ok (.aload_n 0, 1) := qd_o42 40 5 qd_g662 rfl
theorem dJ5_append_3fe6f_46 : decode cJ5_append_3fe6f 46 = .ok (.invokevirtual 83, 3) := qd_o182 40 6 qd_g662 rfl rfl
theorem dJ5_append_3fe6f_49 : decode cJ5_append_3fe6f 49 = .ok (.ifCond .eq 7, 3) := qd_o153 40 9 qd_g662 rfl rfl
theorem dJ5_append_3fe6f_52 : decode cJ5_append_3fe6f 52 = .ok (.aload_n 0, 1) := qd_o42 40 12 qd_g662 rfl
theorem dJ5_append_3fe6f_53 : decode cJ5_append_3fe6f 53 = .ok (.invokevirtual 195, 3) := qd_o182 40 13 qd_g662 rfl rfl
theorem dJ5_append_3fe6f_56 : decode cJ5_append_3fe6f 56 = .ok (.aload_n 0, 1) := qd_o42 40 16 qd_g662 rfl
theorem dJ5_append_3fe6f_57 : decode cJ5_append_3fe6f 57 = .ok (.getfield 15, 3) := qd_o180 40 17 qd_g662 rfl rfl
theorem dJ5_append_3fe6f_60 : decode cJ5_append_3fe6f 60 = .ok (.aload_n 0, 1) := qd_o42 40 20 qd_g662 rfl
theorem dJ5_append_3fe6f_61 : decode cJ5_append_3fe6f 61 = .ok (.dup, 1) := qd_o89 40 21 qd_g662 rfl
theorem dJ5_append_3fe6f_62 : decode cJ5_append_3fe6f 62 = .ok (.getfield 79, 3) := qd_o180 40 22 qd_g662 rfl rfl
theorem dJ5_append_3fe6f_65 : decode cJ5_append_3fe6f 65 = .ok (.dup_x1, 1) := qd_o90 40 25 qd_g662 rfl
theorem dJ5_append_3fe6f_66 : decode cJ5_append_3fe6f 66 = .ok (.iconst 1, 1) := qd_o4 40 26 qd_g662 rfl
theorem dJ5_append_3fe6f_67 : decode cJ5_append_3fe6f 67 = .ok (.iadd, 1) := qd_o96 40 27 qd_g662 rfl
theorem dJ5_append_3fe6f_68 : decode cJ5_append_3fe6f 68 = .ok (.putfield 79, 3) := qd_o181 40 28 qd_g662 rfl rfl
theorem dJ5_append_3fe6f_71 : decode cJ5_append_3fe6f 71 = .ok (.iload_n 1, 1) := qd_o27 40 31 qd_g662 rfl
theorem dJ5_append_3fe6f_72 : decode cJ5_append_3fe6f 72 = .ok (.invokestatic 197, 3) := qd_o184 40 32 qd_g662 rfl rfl
theorem dJ5_append_3fe6f_75 : decode cJ5_append_3fe6f 75 = .ok (.aload_n 0, 1) := qd_o42 40 35 qd_g662 rfl
theorem dJ5_append_3fe6f_76 : decode cJ5_append_3fe6f 76 = .ok (.areturn, 1) := qd_o176 40 36 qd_g662 rfl
theorem qd_g663 : qd_bs cJ5_append_c97b9 0 [42, 180, 0, 79, 61, 28, 27, 184, 0, 245, 96, 62, 42, 29, 182, 0, 100, 42, 182, 0, 83, 153, 0, 16, 27, 29, 42, 180, 0, 15, 184, 0, 248, 87, 167, 0, 14, 27, 28, 29] = true := by decide +kernel
theorem dJ5_append_c97b9_0 : decode cJ5_append_c97b9 0 = .ok (.aload_n 0, 1) := qd_o42 0 0 qd_g663 rfl
theorem dJ5_append_c97b9_1 : decode cJ5_append_c97b9 1 = .ok (.getfield 79, 3) := qd_o180 0 1 qd_g663 rfl rfl
theorem dJ5_append_c97b9_4 : decode cJ5_append_c97b9 4 = .ok (.istore_n 2, 1) := qd_o61 0 4 qd_g663 rfl
theorem dJ5_append_c97b9_5 : decode cJ5_append_c97b9 5 = .ok (.iload_n 2, 1) := qd_o28 0 5 qd_g663 rfl
theorem dJ5_append_c97b9_6 : decode cJ5_append_c97b9 6 = .ok (.iload_n 1, 1) := qd_o27 0 6 qd_g663 rfl
theorem dJ5_append_c97b9_7 : decode cJ5_append_c97b9 7 = .ok (.invokestatic 245, 3) := qd_o184 0 7 qd_g663 rfl rfl
theorem dJ5_append_c97b9_10 : decode cJ5_append_c97b9 10 = .ok (.iadd, 1) := qd_o96 0 10 qd_g663 rfl
theorem dJ5_append_c97b9_11 : decode cJ5_append_c97b9 11 = .ok (.istore_n 3, 1) := qd_o62 0 11 qd_g663 rfl
theorem dJ5_append_c97b9_12 : decode cJ5_append_c97b9 12 = .ok (.aload_n 0, 1) := qd_o42 0 12 qd_g663 rfl
theorem dJ5_append_c97b9_13 : decode cJ5_append_c97b9 13 = .ok (.iload_n 3, 1) := qd_o29 0 13 qd_g663 rfl
theorem dJ5_append_c97b9_14 : decode cJ5_append_c97b9 14 = .ok (.invokevirtual 100, 3) := qd_o182 0 14 qd_g663 rfl rfl
theorem dJ5_append_c97b9_17 : decode cJ5_append_c97b9 17 = .ok (.aload_n 0, 1) := qd_o42 0 17 qd_g663 rfl
theorem dJ5_append_c97b9_18 : decode cJ5_append_c97b9 18 = .ok (.invokevirtual 83, 3) := qd_o182 0 18 qd_g663 rfl rfl
theorem dJ5_append_c97b9_21 : decode cJ5_append_c97b9 21 = .ok (.ifCond .eq 16, 3) := qd_o153 0 21 qd_g663 rfl rfl
theorem dJ5_append_c97b9_24 : decode cJ5_append_c97b9 24 = .ok (.iload_n 1, 1) := qd_o27 0 24 qd_g663 rfl
theorem dJ5_append_c97b9_25 : decode cJ5_append_c97b9 25 = .ok (.iload_n 3, 1) := qd_o29 0 25 qd_g663 rfl
theorem dJ5_append_c97b9_26 : decode cJ5_append_c97b9 26 = .ok (.aload_n 0, 1) := qd_o42 0 26 qd_g663 rfl
theorem dJ5_append_c97b9_27 : decode cJ5_append_c97b9 27 = .ok (.getfield 15, 3) := qd_o180 0 27 qd_g663 rfl rfl
theorem dJ5_append_c97b9_30 : decode cJ5_append_c97b9 30 = .ok (.invokestatic 248, 3) := qd_o184 0 30 qd_g663 rfl rfl
theorem dJ5_append_c97b9_33 : decode cJ5_append_c97b9 33 = .ok (.pop, 1) := qd_o87 0 33 qd_g663 rfl
theorem dJ5_append_c97b9_34 : decode cJ5_append_c97b9 34 = .ok (.goto 14, 3) := qd_o167 0 34 qd_g663 rfl rfl
theorem dJ5_append_c97b9_37 : decode cJ5_append_c97b9 37 = .ok (.iload_n 1, 1) := qd_o27 0 37 qd_g663 rfl
theorem dJ5_append_c97b9_38 : decode cJ5_append_c97b9 38 = .ok (.iload_n 2, 1) := qd_o28 0 38 qd_g663 rfl
theorem dJ5_append_c97b9_39 : decode cJ5_append_c97b9 39 = .ok (.iload_n 3, 1) := qd_o29 0 39 qd_g663 rfl
theorem qd_g664 : qd_bs cJ5_append_c97b9 40 [42, 180, 0, 15, 184, 0, 251, 87, 42, 29, 181, 0, 79, 42, 176] = true := by decide +kernel
theorem dJ5_append_c97b9_40 : decode cJ5_append_c97b9 40 = .ok (.aload_n 0, 1) := qd_o42 40 0 qd_g664 rfl
theorem dJ5_append_c97b9_41 : decode cJ5_append_c97b9 41 = .ok (.getfield 15, 3) := qd_o180 40 1 qd_g664 rfl rfl
theorem dJ5_append_c97b9_44 : decode cJ5_append_c97b9 44 = .ok (.invokestatic 251, 3) := qd_o184 40 4 qd_g664 rfl rfl
theorem dJ5_append_c97b9_47 : decode cJ5_append_c97b9 47 = .ok (.pop, 1) := qd_o87 40 7 qd_g664 rfl
theorem dJ5_append_c97b9_48 : decode cJ5_append_c97b9 48 = .ok (.aload_n 0, 1) := qd_o42 40 8 qd_g664 rfl
theorem dJ5_append_c97b9_49 : decode cJ5_append_c97b9 49 = .ok (.iload_n 3, 1) := qd_o29 40 9 qd_g664 rfl
theorem dJ5_append_c97b9_50 : decode cJ5_append_c97b9 50 = .ok (.putfield 79, 3) := qd_o181 40 10 qd_g664 rfl rfl
theorem dJ5_append_c97b9_53 : decode cJ5_append_c97b9 53 = .ok (.aload_n 0, 1) := qd_o42 40 13 qd_g664 rfl
theorem dJ5_append_c97b9_54 : decode cJ5_append_c97b9 54 = .ok (.areturn, 1) := qd_o176 40 14 qd_g664 rfl
theorem qd_g665 : qd_bs cJ5_getValue_6d5f1 0 [42, 180, 0, 15, 176] = true := by decide +kernel
theorem dJ5_getValue_6d5f1_0 : decode cJ5_getValue_6d5f1 0 = .ok (.aload_n 0, 1) := qd_o42 0 0 qd_g665 rfl
theorem dJ5_getValue_6d5f1_1 : decode cJ5_getValue_6d5f1 1 = .ok (.getfield 15, 3) := qd_o180 0 1 qd_g665 rfl rfl
theorem dJ5_getValue_6d5f1_4 : decode cJ5_getValue_6d5f1 4 = .ok (.areturn, 1) := qd_o176 0 4 qd_g665 rfl
theorem qd_g666 : qd_bs cJ5_isLatin1_aae02 0 [178, 0, 18, 153, 0, 14, 42, 180, 0, 22, 154, 0, 7, 4, 167, 0, 4, 3, 172] = true := by decide +kernel
theorem dJ5_isLatin1_aae02_0 : decode cJ5_isLatin1_aae02 0 = .ok (.getstatic 18, 3) := qd_o178 0 0 qd_g666 rfl rfl
theorem dJ5_isLatin1_aae02_3 : decode cJ5_isLatin1_aae02 3 = .ok (.ifCond .eq 14, 3) := qd_o153 0 3 qd_g666 rfl rfl
theorem dJ5_isLatin1_aae02_6 : decode cJ5_isLatin1_aae02 6 = .ok (.aload_n 0, 1) := qd_o42 0 6 qd_g666 rfl
theorem dJ5_isLatin1_aae02_7 : decode cJ5_isLatin1_aae02 7 = .ok (.getfield 22, 3) := qd_o180 0 7 qd_g666 rfl rfl
theorem dJ5_isLatin1_aae02_10 : decode cJ5_isLatin1_aae02 10 = .ok (.ifCond .ne 7, 3) := qd_o154 0 10 qd_g666 rfl rfl
theorem dJ5_isLatin1_aae02_13 : decode cJ5_isLatin1_aae02 13 = .ok (.iconst 1, 1) := qd_o4 0 13 qd_g666 rfl
theorem dJ5_isLatin1_aae02_14 : decode cJ5_isLatin1_aae02 14 = .ok (.goto 4, 3) := qd_o167 0 14 qd_g666 rfl rfl
theorem dJ5_isLatin1_aae02_17 : decode cJ5_isLatin1_aae02 17 = .ok (.iconst 0, 1) := qd_o3 0 17 qd_g666 rfl
theorem dJ5_isLatin1_aae02_18 : decode cJ5_isLatin1_aae02 18 = .ok (.ireturn, 1) := qd_o172 0 18 qd_g666 rfl
theorem qd_g667 : qd_bs cJ5_inflateIfNeededFor_a7421 0 [178, 0, 18, 153, 0, 18, 42, 180, 0, 22, 43, 182, 0, 40, 159, 0, 7, 42, 182, 0, 195, 177] = true := by decide +kernel
theorem dJ5_inflateIfNeededFor_a7421_0 : decode cJ5_inflateIfNeededFor_a7421 0 = .ok (.getstatic 18, 3) := qd_o178 0 0 qd_g667 rfl rfl
theorem dJ5_inflateIfNeededFor_a7421_3 : decode cJ5_inflateIfNeededFor_a7421 3 = .ok (.ifCond .eq 18, 3) := qd_o153 0 3 qd_g667 rfl rfl
theorem dJ5_inflateIfNeededFor_a7421_6 : decode cJ5_inflateIfNeededFor_a7421 6 = .ok (.aload_n 0, 1) := qd_o42 0 6 qd_g667 rfl
theorem dJ5_inflateIfNeededFor_a7421_7 : decode cJ5_inflateIfNeededFor_a7421 7 = .ok (.getfield 22, 3) := qd_o180 0 7 qd_g667 rfl rfl
theorem dJ5_inflateIfNeededFor_a7421_10 : decode cJ5_inflateIfNeededFor_a7421 10 = .ok (.aload_n 1, 1) := qd_o43 0 10 qd_g667 rfl
theorem dJ5_inflateIfNeededFor_a7421_11 : decode cJ5_inflateIfNeededFor_a7421 11 = .ok (.invokevirtual 40, 3) := qd_o182 0 11 qd_g667 rfl rfl
theorem dJ5_inflateIfNeededFor_a7421_14 : decode cJ5_inflateIfNeededFor_a7421 14 = .ok (.if_icmp .eq 7, 3) := qd_o159 0 14 qd_g667 rfl rfl
theorem dJ5_inflateIfNeededFor_a7421_17 : decode cJ5_inflateIfNeededFor_a7421 17 = .ok (.aload_n 0, 1) := qd_o42 0 17 qd_g667 rfl
theorem dJ5_inflateIfNeededFor_a7421_18 : decode cJ5_inflateIfNeededFor_a7421 18 = .ok (.invokevirtual 195, 3) := qd_o182 0 18 qd_g667 rfl rfl
theorem dJ5_inflateIfNeededFor_a7421_21 : decode cJ5_inflateIfNeededFor_a7421 21 = .ok (.return_, 1) := qd_o177 0 21 qd_g667 rfl
theorem qd_g668 : qd_bs cJ5_putStringAt_47b60 0 [42, 44, 182, 1, 141, 44, 42, 180, 0, 15, 27, 42, 180, 0, 22, 182, 1, 143, 177] = true := by decide +kernel
theorem dJ5_putStringAt_47b60_0 : decode cJ5_putStringAt_47b60 0 = .ok (.aload_n 0, 1) := qd_o42 0 0 qd_g668 rfl
theorem dJ5_putStringAt_47b60_1 : decode cJ5_putStringAt_47b60 1 = .ok (.aload_n 2, 1) := qd_o44 0 1 qd_g668 rfl
theorem dJ5_putStringAt_47b60_2 : decode cJ5_putStringAt_47b60 2 = .ok (.invokevirtual 397, 3) := qd_o182 0 2 qd_g668 rfl rfl
theorem dJ5_putStringAt_47b60_5 : decode cJ5_putStringAt_47b60 5 = .ok (.aload_n 2, 1) := qd_o44 0 5 qd_g668 rfl
theorem dJ5_putStringAt_47b60_6 : decode cJ5_putStringAt_47b60 6 = .ok (.aload_n 0, 1) := qd_o42 0 6 qd_g668 rfl
theorem dJ5_putStringAt_47b60_7 : decode cJ5_putStringAt_47b60 7 = .ok (.getfield 15, 3) := qd_o180 0 7 qd_g668 rfl rfl
theorem dJ5_putStringAt_47b60_10 : decode cJ5_putStringAt_47b60 10 = .ok (.iload_n 1, 1) := qd_o27 0 10 qd_g668 rfl
theorem dJ5_putStringAt_47b60_11 : decode cJ5_putStringAt_47b60 11 = .ok (.aload_n 0, 1) := qd_o42 0 11 qd_g668 rfl
theorem dJ5_putStringAt_47b60_12 : decode cJ5_putStringAt_47b60 12 = .ok (.getfield 22, 3) := qd_o180 0 12 qd_g668 rfl rfl
theorem dJ5_putStringAt_47b60_15 : decode cJ5_putStringAt_47b60 15 = .ok (.invokevirtual 399, 3) := qd_o182 0 15 qd_g668 rfl rfl
theorem dJ5_putStringAt_47b60_18 : decode cJ5_putStringAt_47b60 18 = .ok (.return_, 1) := qd_o177 0 18 qd_g668 rfl
theorem qd_g669 : qd_bs cJx00060_init_d00df 0 [42, 187, 0, 10, 89, 183, 0, 12, 18, 13, 182, 0, 15, 27, 182, 0, 19, 182, 0, 22, 183, 0, 7, 177] = true := by decide +kernel
theorem dJx00060_init_d00df_0 : decode cJx00060_init_d00df 0 = .ok (.aload_n 0, 1) := qd_o42 0 0 qd_g669 rfl
theorem dJx00060_init_d00df_1 : decode cJx00060_init_d00df 1 = .ok (.new 10, 3) := qd_o187 0 1 qd_g669 rfl rfl
theorem dJx00060_init_d00df_4 : decode cJx00060_init_d00df 4 = .ok (.dup, 1) := qd_o89 0 4 qd_g669 rfl
theorem dJx00060_init_d00df_5 : decode cJx00060_init_d00df 5 = .ok (.invokespecial 12, 3) := qd_o183 0 5 qd_g669 rfl rfl
theorem dJx00060_init_d00df_8 : decode cJx00060_init_d00df 8 = .ok (.ldc 13, 2) := qd_o18 0 8 qd_g669 rfl rfl
theorem dJx00060_init_d00df_10 : decode cJx00060_init_d00df 10 = .ok (.invokevirtual 15, 3) := qd_o182 0 10 qd_g669 rfl rfl
theorem dJx00060_init_d00df_13 : decode cJx00060_init_d00df 13 = .ok (.iload_n 1, 1) := qd_o27 0 13 qd_g669 rfl
theorem dJx00060_init_d00df_14 : decode cJx00060_init_d00df 14 = .ok (.invokevirtual 19, 3) := qd_o182 0 14 qd_g669 rfl rfl
theorem dJx00060_init_d00df_17 : decode cJx00060_init_d00df 17 = .ok (.invokevirtual 22, 3) := qd_o182 0 17 qd_g669 rfl rfl
theorem dJx00060_init_d00df_20 : decode cJx00060_init_d00df 20 = .ok (.invokespecial 7, 3) := qd_o183 0 20 qd_g669 rfl rfl
theorem dJx00060_init_d00df_23 : decode cJx00060_init_d00df 23 = .ok (.return_, 1) := qd_o177 0 23 qd_g669 rfl
theorem qd_g670 : qd_bs cJ6_getChars_ba4f3 0 [27, 54, 5, 26, 156, 0, 7, 4, 167, 0, 4, 3, 54, 6, 21, 6, 154, 0, 6, 26, 116, 59, 26, 16, 156, 163, 0, 47, 26, 16, 100, 108, 62, 29, 16, 100, 104, 26, 100] = true := by decide +kernel
theorem dJ6_getChars_ba4f3_0 : decode cJ6_getChars_ba4f3 0 = .ok (.iload_n 1, 1) := qd_o27 0 0 qd_g670 rfl
theorem dJ6_getChars_ba4f3_1 : decode cJ6_getChars_ba4f3 1 = .ok (.istore 5, 2) := qd_o54 0 1 qd_g670 rfl rfl
theorem dJ6_getChars_ba4f3_3 : decode cJ6_getChars_ba4f3 3 = .ok (.iload_n 0, 1) := qd_o26 0 3 qd_g670 rfl
theorem dJ6_getChars_ba4f3_4 : decode cJ6_getChars_ba4f3 4 = .ok (.ifCond .ge 7, 3) := qd_o156 0 4 qd_g670 rfl rfl
theorem dJ6_getChars_ba4f3_7 : decode cJ6_getChars_ba4f3 7 = .ok (.iconst 1, 1) := qd_o4 0 7 qd_g670 rfl
theorem dJ6_getChars_ba4f3_8 : decode cJ6_getChars_ba4f3 8 = .ok (.goto 4, 3) := qd_o167 0 8 qd_g670 rfl rfl
theorem dJ6_getChars_ba4f3_11 : decode cJ6_getChars_ba4f3 11 = .ok (.iconst 0, 1) := qd_o3 0 11 qd_g670 rfl
theorem dJ6_getChars_ba4f3_12 : decode cJ6_getChars_ba4f3 12 = .ok (.istore 6, 2) := qd_o54 0 12 qd_g670 rfl rfl
theorem dJ6_getChars_ba4f3_14 : decode cJ6_getChars_ba4f3 14 = .ok (.iload 6, 2) := qd_o21 0 14 qd_g670 rfl rfl
theorem dJ6_getChars_ba4f3_16 : decode cJ6_getChars_ba4f3 16 = .ok (.ifCond .ne 6, 3) := qd_o154 0 16 qd_g670 rfl rfl
theorem dJ6_getChars_ba4f3_19 : decode cJ6_getChars_ba4f3 19 = .ok (.iload_n 0, 1) := qd_o26 0 19 qd_g670 rfl
theorem dJ6_getChars_ba4f3_20 : decode cJ6_getChars_ba4f3 20 = .ok (.ineg, 1) := qd_o116 0 20 qd_g670 rfl
theorem dJ6_getChars_ba4f3_21 : decode cJ6_getChars_ba4f3 21 = .ok (.istore_n 0, 1) := qd_o59 0 21 qd_g670 rfl
theorem dJ6_getChars_ba4f3_22 : decode cJ6_getChars_ba4f3 22 = .ok (.iload_n 0, 1) := qd_o26 0 22 qd_g670 rfl
theorem dJ6_getChars_ba4f3_23 : decode cJ6_getChars_ba4f3 23 = .ok (.bipush (-100), 2) := qd_o16 0 23 qd_g670 rfl rfl
theorem dJ6_getChars_ba4f3_25 : decode cJ6_getChars_ba4f3 25 = .ok (.if_icmp .gt 47, 3) := qd_o163 0 25 qd_g670 rfl rfl
theorem dJ6_getChars_ba4f3_28 : decode cJ6_getChars_ba4f3 28 = .ok (.iload_n 0, 1) := qd_o26 0 28 qd_g670 rfl
theorem dJ6_getChars_ba4f3_29 : decode cJ6_getChars_ba4f3 29 = .ok (.bipush 100, 2) := qd_o16 0 29 qd_g670 rfl rfl
theorem dJ6_getChars_ba4f3_31 : decode cJ6_getChars_ba4f3 31 = .ok (.idiv, 1) := qd_o108 0 31 qd_g670 rfl
theorem dJ6_getChars_ba4f3_32 : decode cJ6_getChars_ba4f3 32 = .ok (.istore_n 3, 1) := qd_o62 0 32 qd_g670 rfl
theorem dJ6_getChars_ba4f3_33 : decode cJ6_getChars_ba4f3 33 = .ok (.iload_n 3, 1) := qd_o29 0 33 qd_g670 rfl
theorem dJ6_getChars_ba4f3_34 : decode cJ6_getChars_ba4f3 34 = .ok (.bipush 100, 2) := qd_o16 0 34 qd_g670 rfl rfl
theorem dJ6_getChars_ba4f3_36 : decode cJ6_getChars_ba4f3 36 = .ok (.imul, 1) := qd_o104 0 36 qd_g670 rfl
theorem dJ6_getChars_ba4f3_37 : decode cJ6_getChars_ba4f3 37 = .ok (.iload_n 0, 1) := qd_o26 0 37 qd_g670 rfl
theorem dJ6_getChars_ba4f3_38 : decode cJ6_getChars_ba4f3 38 = .ok (.isub, 1) := qd_o100 0 38 qd_g670 rfl
theorem qd_g671 : qd_bs cJ6_getChars_ba4f3 39 [54, 4, 29, 59, 44, 132, 5, 255, 21, 5, 178, 0, 83, 21, 4, 51, 84, 44, 132, 5, 255, 21, 5, 178, 0, 87, 21, 4, 51, 84, 167, 255, 209, 44, 132, 5, 255, 21, 5] = true := by decide +kernel
theorem dJ6_getChars_ba4f3_39 : decode cJ6_getChars_ba4f3 39 = .ok (.istore 4, 2) := qd_o54 39 0 qd_g671 rfl rfl
theorem dJ6_getChars_ba4f3_41 : decode cJ6_getChars_ba4f3 41 = .ok (.iload_n 3, 1) := qd_o29 39 2 qd_g671 rfl
theorem dJ6_getChars_ba4f3_42 : decode cJ6_getChars_ba4f3 42 = .ok (.istore_n 0, 1) := qd_o59 39 3 qd_g671 rfl
theorem dJ6_getChars_ba4f3_43 : decode cJ6_getChars_ba4f3 43 = .ok (.aload_n 2, 1) := qd_o44 39 4 qd_g671 rfl
theorem dJ6_getChars_ba4f3_44 : decode cJ6_getChars_ba4f3 44 = .ok (.iinc 5 (-1), 3) := qd_o132 39 5 qd_g671 rfl rfl
theorem dJ6_getChars_ba4f3_47 : decode cJ6_getChars_ba4f3 47 = .ok (.iload 5, 2) := qd_o21 39 8 qd_g671 rfl rfl
theorem dJ6_getChars_ba4f3_49 : decode cJ6_getChars_ba4f3 49 = .ok (.getstatic 83, 3) := qd_o178 39 10 qd_g671 rfl rfl
theorem dJ6_getChars_ba4f3_52 : decode cJ6_getChars_ba4f3 52 = .ok (.iload 4, 2) := qd_o21 39 13 qd_g671 rfl rfl
theorem dJ6_getChars_ba4f3_54 : decode cJ6_getChars_ba4f3 54 = .ok (.baload, 1) := qd_o51 39 15 qd_g671 rfl
theorem dJ6_getChars_ba4f3_55 : decode cJ6_getChars_ba4f3 55 = .ok (.bastore, 1) := qd_o84 39 16 qd_g671 rfl
theorem dJ6_getChars_ba4f3_56 : decode cJ6_getChars_ba4f3 56 = .ok (.aload_n 2, 1) := qd_o44 39 17 qd_g671 rfl
theorem dJ6_getChars_ba4f3_57 : decode cJ6_getChars_ba4f3 57 = .ok (.iinc 5 (-1), 3) := qd_o132 39 18 qd_g671 rfl rfl
theorem dJ6_getChars_ba4f3_60 : decode cJ6_getChars_ba4f3 60 = .ok (.iload 5, 2) := qd_o21 39 21 qd_g671 rfl rfl
theorem dJ6_getChars_ba4f3_62 : decode cJ6_getChars_ba4f3 62 = .ok (.getstatic 87, 3) := qd_o178 39 23 qd_g671 rfl rfl
theorem dJ6_getChars_ba4f3_65 : decode cJ6_getChars_ba4f3 65 = .ok (.iload 4, 2) := qd_o21 39 26 qd_g671 rfl rfl
theorem dJ6_getChars_ba4f3_67 : decode cJ6_getChars_ba4f3 67 = .ok (.baload, 1) := qd_o51 39 28 qd_g671 rfl
theorem dJ6_getChars_ba4f3_68 : decode cJ6_getChars_ba4f3 68 = .ok (.bastore, 1) := qd_o84 39 29 qd_g671 rfl
theorem dJ6_getChars_ba4f3_69 : decode cJ6_getChars_ba4f3 69 = .ok (.goto (-47), 3) := qd_o167 39 30 qd_g671 rfl rfl
theorem dJ6_getChars_ba4f3_72 : decode cJ6_getChars_ba4f3 72 = .ok (.aload_n 2, 1) := qd_o44 39 33 qd_g671 rfl
theorem dJ6_getChars_ba4f3_73 : decode cJ6_getChars_ba4f3 73 = .ok (.iinc 5 (-1), 3) := qd_o132 39 34 qd_g671 rfl rfl
theorem dJ6_getChars_ba4f3_76 : decode cJ6_getChars_ba4f3 76 = .ok (.iload 5, 2) := qd_o21 39 37 qd_g671 rfl rfl
theorem qd_g672 : qd_bs cJ6_getChars_ba4f3 78 [178, 0, 83, 26, 116, 51, 84, 26, 16, 247, 162, 0, 16, 44, 132, 5, 255, 21, 5, 178, 0, 87, 26, 116, 51, 84, 21, 6, 153, 0, 12, 44, 132, 5, 255, 21, 5, 16, 45, 84] = true := by decide +kernel
theorem dJ6_getChars_ba4f3_78 : decode cJ6_getChars_ba4f3 78 = .ok (.getstatic 83, 3) := qd_o178 78 0 qd_g672 rfl rfl
theorem dJ6_getChars_ba4f3_81 : decode cJ6_getChars_ba4f3 81 = .ok (.iload_n 0, 1) := qd_o26 78 3 qd_g672 rfl
theorem dJ6_getChars_ba4f3_82 : decode cJ6_getChars_ba4f3 82 = .ok (.ineg, 1) := qd_o116 78 4 qd_g672 rfl
theorem dJ6_getChars_ba4f3_83 : decode cJ6_getChars_ba4f3 83 = .ok (.baload, 1) := qd_o51 78 5 qd_g672 rfl
theorem dJ6_getChars_ba4f3_84 : decode cJ6_getChars_ba4f3 84 = .ok (.bastore, 1) := qd_o84 78 6 qd_g672 rfl
theorem dJ6_getChars_ba4f3_85 : decode cJ6_getChars_ba4f3 85 = .ok (.iload_n 0, 1) := qd_o26 78 7 qd_g672 rfl
theorem dJ6_getChars_ba4f3_86 : decode cJ6_getChars_ba4f3 86 = .ok (.bipush (-9), 2) := qd_o16 78 8 qd_g672 rfl rfl
theorem dJ6_getChars_ba4f3_88 : decode cJ6_getChars_ba4f3 88 = .ok (.if_icmp .ge 16, 3) := qd_o162 78 10 qd_g672 rfl rfl
theorem dJ6_getChars_ba4f3_91 : decode cJ6_getChars_ba4f3 91 = .ok (.aload_n 2, 1) := qd_o44 78 13 qd_g672 rfl
theorem dJ6_getChars_ba4f3_92 : decode cJ6_getChars_ba4f3 92 = .ok (.iinc 5 (-1), 3) := qd_o132 78 14 qd_g672 rfl rfl
theorem dJ6_getChars_ba4f3_95 : decode cJ6_getChars_ba4f3 95 = .ok (.iload 5, 2) := qd_o21 78 17 qd_g672 rfl rfl
theorem dJ6_getChars_ba4f3_97 : decode cJ6_getChars_ba4f3 97 = .ok (.getstatic 87, 3) := qd_o178 78 19 qd_g672 rfl rfl
theorem dJ6_getChars_ba4f3_100 : decode cJ6_getChars_ba4f3 100 = .ok (.iload_n 0, 1) := qd_o26 78 22 qd_g672 rfl
theorem dJ6_getChars_ba4f3_101 : decode cJ6_getChars_ba4f3 101 = .ok (.ineg, 1) := qd_o116 78 23 qd_g672 rfl
theorem dJ6_getChars_ba4f3_102 : decode cJ6_getChars_ba4f3 102 = .ok (.baload, 1) := qd_o51 78 24 qd_g672 rfl
theorem dJ6_getChars_ba4f3_103 : decode cJ6_getChars_ba4f3 103 = .ok (.bastore, 1) := qd_o84 78 25 qd_g672 rfl
theorem dJ6_getChars_ba4f3_104 : decode cJ6_getChars_ba4f3 104 = .ok (.iload 6, 2) := qd_o21 78 26 qd_g672 rfl rfl
theorem dJ6_getChars_ba4f3_106 : decode cJ6_getChars_ba4f3 106 = .ok (.ifCond .eq 12, 3) := qd_o153 78 28 qd_g672 rfl rfl
theorem dJ6_getChars_ba4f3_109 : decode cJ6_getChars_ba4f3 109 = .ok (.aload_n 2, 1) := qd_o44 78 31 qd_g672 rfl
theorem dJ6_getChars_ba4f3_110 : decode cJ6_getChars_ba4f3 110 = .ok (.iinc 5 (-1), 3) := qd_o132 78 32 qd_g672 rfl rfl
theorem dJ6_getChars_ba4f3_113 : decode cJ6_getChars_ba4f3 113 = .ok (.iload 5, 2) := qd_o21 78 35 qd_g672 rfl rfl
theorem dJ6_getChars_ba4f3_115 : decode cJ6_getChars_ba4f3 115 = .ok (.bipush 45, 2) := qd_o16 78 37 qd_g672 rfl rfl
theorem dJ6_getChars_ba4f3_117 : decode cJ6_getChars_ba4f3 117 = .ok (.bastore, 1) := qd_o84 78 39 qd_g672 rfl
theorem qd_g673 : qd_bs cJ6_getChars_ba4f3 118 [21, 5, 172] = true := by decide +kernel
theorem dJ6_getChars_ba4f3_118 : decode cJ6_getChars_ba4f3 118 = .ok (.iload 5, 2) := qd_o21 118 0 qd_g673 rfl rfl
theorem dJ6_getChars_ba4f3_120 : decode cJ6_getChars_ba4f3 120 = .ok (.ireturn, 1) := qd_o172 118 2 qd_g673 rfl
theorem qd_g674 : qd_bs cJ6_stringSize_0f7a4 0 [4, 60, 26, 155, 0, 8, 3, 60, 26, 116, 59, 16, 246, 61, 4, 62, 29, 16, 10, 162, 0, 23, 26, 28, 164, 0, 7, 29, 27, 96, 172, 16, 10, 28, 104, 61, 132, 3, 1] = true := by decide +kernel
theorem dJ6_stringSize_0f7a4_0 : decode cJ6_stringSize_0f7a4 0 = .ok (.iconst 1, 1) := qd_o4 0 0 qd_g674 rfl
theorem dJ6_stringSize_0f7a4_1 : decode cJ6_stringSize_0f7a4 1 = .ok (.istore_n 1, 1) := qd_o60 0 1 qd_g674 rfl
theorem dJ6_stringSize_0f7a4_2 : decode cJ6_stringSize_0f7a4 2 = .ok (.iload_n 0, 1) := qd_o26 0 2 qd_g674 rfl
theorem dJ6_stringSize_0f7a4_3 : decode cJ6_stringSize_0f7a4 3 = .ok (.ifCond .lt 8, 3) := qd_o155 0 3 qd_g674 rfl rfl
theorem dJ6_stringSize_0f7a4_6 : decode cJ6_stringSize_0f7a4 6 = .ok (.iconst 0, 1) := qd_o3 0 6 qd_g674 rfl
theorem dJ6_stringSize_0f7a4_7 : decode cJ6_stringSize_0f7a4 7 = .ok (.istore_n 1, 1) := qd_o60 0 7 qd_g674 rfl
theorem dJ6_stringSize_0f7a4_8 : decode cJ6_stringSize_0f7a4 8 = .ok (.iload_n 0, 1) := qd_o26 0 8 qd_g674 rfl
theorem dJ6_stringSize_0f7a4_9 : decode cJ6_stringSize_0f7a4 9 = .ok (.ineg, 1) := qd_o116 0 9 qd_g674 rfl
theorem dJ6_stringSize_0f7a4_10 : decode cJ6_stringSize_0f7a4 10 = .ok (.istore_n 0, 1) := qd_o59 0 10 qd_g674 rfl
theorem dJ6_stringSize_0f7a4_11 : decode cJ6_stringSize_0f7a4 11 = .ok (.bipush (-10), 2) := qd_o16 0 11 qd_g674 rfl rfl
theorem dJ6_stringSize_0f7a4_13 : decode cJ6_stringSize_0f7a4 13 = .ok (.istore_n 2, 1) := qd_o61 0 13 qd_g674 rfl
theorem dJ6_stringSize_0f7a4_14 : decode cJ6_stringSize_0f7a4 14 = .ok (.iconst 1, 1) := qd_o4 0 14 qd_g674 rfl
theorem dJ6_stringSize_0f7a4_15 : decode cJ6_stringSize_0f7a4 15 = .ok (.istore_n 3, 1) := qd_o62 0 15 qd_g674 rfl
theorem dJ6_stringSize_0f7a4_16 : decode cJ6_stringSize_0f7a4 16 = .ok (.iload_n 3, 1) := qd_o29 0 16 qd_g674 rfl
theorem dJ6_stringSize_0f7a4_17 : decode cJ6_stringSize_0f7a4 17 = .ok (.bipush 10, 2) := qd_o16 0 17 qd_g674 rfl rfl
theorem dJ6_stringSize_0f7a4_19 : decode cJ6_stringSize_0f7a4 19 = .ok (.if_icmp .ge 23, 3) := qd_o162 0 19 qd_g674 rfl rfl
theorem dJ6_stringSize_0f7a4_22 : decode cJ6_stringSize_0f7a4 22 = .ok (.iload_n 0, 1) := qd_o26 0 22 qd_g674 rfl
theorem dJ6_stringSize_0f7a4_23 : decode cJ6_stringSize_0f7a4 23 = .ok (.iload_n 2, 1) := qd_o28 0 23 qd_g674 rfl
theorem dJ6_stringSize_0f7a4_24 : decode cJ6_stringSize_0f7a4 24 = .ok (.if_icmp .le 7, 3) := qd_o164 0 24 qd_g674 rfl rfl
theorem dJ6_stringSize_0f7a4_27 : decode cJ6_stringSize_0f7a4 27 = .ok (.iload_n 3, 1) := qd_o29 0 27 qd_g674 rfl
theorem dJ6_stringSize_0f7a4_28 : decode cJ6_stringSize_0f7a4 28 = .ok (.iload_n 1, 1) := qd_o27 0 28 qd_g674 rfl
theorem dJ6_stringSize_0f7a4_29 : decode cJ6_stringSize_0f7a4 29 = .ok (.iadd, 1) := qd_o96 0 29 qd_g674 rfl
theorem dJ6_stringSize_0f7a4_30 : decode cJ6_stringSize_0f7a4 30 = .ok (.ireturn, 1) := qd_o172 0 30 qd_g674 rfl
theorem dJ6_stringSize_0f7a4_31 : decode cJ6_stringSize_0f7a4 31 = .ok (.bipush 10, 2) := qd_o16 0 31 qd_g674 rfl rfl
theorem dJ6_stringSize_0f7a4_33 : decode cJ6_stringSize_0f7a4 33 = .ok (.iload_n 2, 1) := qd_o28 0 33 qd_g674 rfl
theorem dJ6_stringSize_0f7a4_34 : decode cJ6_stringSize_0f7a4 34 = .ok (.imul, 1) := qd_o104 0 34 qd_g674 rfl
theorem dJ6_stringSize_0f7a4_35 : decode cJ6_stringSize_0f7a4 35 = .ok (.istore_n 2, 1) := qd_o61 0 35 qd_g674 rfl
theorem dJ6_stringSize_0f7a4_36 : decode cJ6_stringSize_0f7a4 36 = .ok (.iinc 3 1, 3) := qd_o132 0 36 qd_g674 rfl rfl
theorem qd_g675 : qd_bs cJ6_stringSize_0f7a4 39 [167, 255, 233, 16, 10, 27, 96, 172] = true := by decide +kernel
theorem dJ6_stringSize_0f7a4_39 : decode cJ6_stringSize_0f7a4 39 = .ok (.goto (-23), 3) := qd_o167 39 0 qd_g675 rfl rfl
theorem dJ6_stringSize_0f7a4_42 : decode cJ6_stringSize_0f7a4 42 = .ok (.bipush 10, 2) := qd_o16 39 3 qd_g675 rfl rfl
theorem dJ6_stringSize_0f7a4_44 : decode cJ6_stringSize_0f7a4 44 = .ok (.iload_n 1, 1) := qd_o27 39 5 qd_g675 rfl
theorem dJ6_stringSize_0f7a4_45 : decode cJ6_stringSize_0f7a4 45 = .ok (.iadd, 1) := qd_o96 39 6 qd_g675 rfl
theorem dJ6_stringSize_0f7a4_46 : decode cJ6_stringSize_0f7a4 46 = .ok (.ireturn, 1) := qd_o172 39 7 qd_g675 rfl
theorem qd_g676 : qd_bs cJ6_bitCount_0f7a4 0 [26, 26, 4, 124, 19, 1, 9, 126, 100, 59, 26, 19, 1, 10, 126, 26, 5, 124, 19, 1, 10, 126, 96, 59, 26, 26, 7, 124, 96, 19, 1, 11, 126, 59, 26, 26, 16, 8, 124, 96] = true := by decide +kernel
theorem dJ6_bitCount_0f7a4_0 : decode cJ6_bitCount_0f7a4 0 = .ok (.iload_n 0, 1) := qd_o26 0 0 qd_g676 rfl
theorem dJ6_bitCount_0f7a4_1 : decode cJ6_bitCount_0f7a4 1 = .ok (.iload_n 0, 1) := qd_o26 0 1 qd_g676 rfl
theorem dJ6_bitCount_0f7a4_2 : decode cJ6_bitCount_0f7a4 2 = .ok (.iconst 1, 1) := qd_o4 0 2 qd_g676 rfl
theorem dJ6_bitCount_0f7a4_3 : decode cJ6_bitCount_0f7a4 3 = .ok (.iushr, 1) := qd_o124 0 3 qd_g676 rfl
theorem dJ6_bitCount_0f7a4_4 : decode cJ6_bitCount_0f7a4 4 = .ok (.ldc_w 265, 3) := qd_o19 0 4 qd_g676 rfl rfl
theorem dJ6_bitCount_0f7a4_7 : decode cJ6_bitCount_0f7a4 7 = .ok (.iand, 1) := qd_o126 0 7 qd_g676 rfl
theorem dJ6_bitCount_0f7a4_8 : decode cJ6_bitCount_0f7a4 8 = .ok (.isub, 1) := qd_o100 0 8 qd_g676 rfl
theorem dJ6_bitCount_0f7a4_9 : decode cJ6_bitCount_0f7a4 9 = .ok (.istore_n 0, 1) := qd_o59 0 9 qd_g676 rfl
theorem dJ6_bitCount_0f7a4_10 : decode cJ6_bitCount_0f7a4 10 = .ok (.iload_n 0, 1) := qd_o26 0 10 qd_g676 rfl
theorem dJ6_bitCount_0f7a4_11 : decode cJ6_bitCount_0f7a4 11 = .ok (.ldc_w 266, 3) := qd_o19 0 11 qd_g676 rfl rfl
theorem dJ6_bitCount_0f7a4_14 : decode cJ6_bitCount_0f7a4 14 = .ok (.iand, 1) := qd_o126 0 14 qd_g676 rfl
theorem dJ6_bitCount_0f7a4_15 : decode cJ6_bitCount_0f7a4 15 = .ok (.iload_n 0, 1) := qd_o26 0 15 qd_g676 rfl
theorem dJ6_bitCount_0f7a4_16 : decode cJ6_bitCount_0f7a4 16 = .ok (.iconst 2, 1) := qd_o5 0 16 qd_g676 rfl
theorem dJ6_bitCount_0f7a4_17 : decode cJ6_bitCount_0f7a4 17 = .ok (.iushr, 1) := qd_o124 0 17 qd_g676 rfl
theorem dJ6_bitCount_0f7a4_18 : decode cJ6_bitCount_0f7a4 18 = .ok (.ldc_w 266, 3) := qd_o19 0 18 qd_g676 rfl rfl
theorem dJ6_bitCount_0f7a4_21 : decode cJ6_bitCount_0f7a4 21 = .ok (.iand, 1) := qd_o126 0 21 qd_g676 rfl
theorem dJ6_bitCount_0f7a4_22 : decode cJ6_bitCount_0f7a4 22 = .ok (.iadd, 1) := qd_o96 0 22 qd_g676 rfl
theorem dJ6_bitCount_0f7a4_23 : decode cJ6_bitCount_0f7a4 23 = .ok (.istore_n 0, 1) := qd_o59 0 23 qd_g676 rfl
theorem dJ6_bitCount_0f7a4_24 : decode cJ6_bitCount_0f7a4 24 = .ok (.iload_n 0, 1) := qd_o26 0 24 qd_g676 rfl
theorem dJ6_bitCount_0f7a4_25 : decode cJ6_bitCount_0f7a4 25 = .ok (.iload_n 0, 1) := qd_o26 0 25 qd_g676 rfl
theorem dJ6_bitCount_0f7a4_26 : decode cJ6_bitCount_0f7a4 26 = .ok (.iconst 4, 1) := qd_o7 0 26 qd_g676 rfl
theorem dJ6_bitCount_0f7a4_27 : decode cJ6_bitCount_0f7a4 27 = .ok (.iushr, 1) := qd_o124 0 27 qd_g676 rfl
theorem dJ6_bitCount_0f7a4_28 : decode cJ6_bitCount_0f7a4 28 = .ok (.iadd, 1) := qd_o96 0 28 qd_g676 rfl
theorem dJ6_bitCount_0f7a4_29 : decode cJ6_bitCount_0f7a4 29 = .ok (.ldc_w 267, 3) := qd_o19 0 29 qd_g676 rfl rfl
theorem dJ6_bitCount_0f7a4_32 : decode cJ6_bitCount_0f7a4 32 = .ok (.iand, 1) := qd_o126 0 32 qd_g676 rfl
theorem dJ6_bitCount_0f7a4_33 : decode cJ6_bitCount_0f7a4 33 = .ok (.istore_n 0, 1) := qd_o59 0 33 qd_g676 rfl
theorem dJ6_bitCount_0f7a4_34 : decode cJ6_bitCount_0f7a4 34 = .ok (.iload_n 0, 1) := qd_o26 0 34 qd_g676 rfl
theorem dJ6_bitCount_0f7a4_35 : decode cJ6_bitCount_0f7a4 35 = .ok (.iload_n 0, 1) := qd_o26 0 35 qd_g676 rfl
theorem dJ6_bitCount_0f7a4_36 : decode cJ6_bitCount_0f7a4 36 = .ok (.bipush 8, 2) := qd_o16 0 36 qd_g676 rfl rfl
theorem dJ6_bitCount_0f7a4_38 : decode cJ6_bitCount_0f7a4 38 = .ok (.iushr, 1) := qd_o124 0 38 qd_g676 rfl
theorem dJ6_bitCount_0f7a4_39 : decode cJ6_bitCount_0f7a4 39 = .ok (.iadd, 1) := qd_o96 0 39 qd_g676 rfl
theorem qd_g677 : qd_bs cJ6_bitCount_0f7a4 40 [59, 26, 26, 16, 16, 124, 96, 59, 26, 16, 63, 126, 172] = true := by decide +kernel
theorem dJ6_bitCount_0f7a4_40 : decode cJ6_bitCount_0f7a4 40 = .ok (.istore_n 0, 1) := qd_o59 40 0 qd_g677 rfl
theorem dJ6_bitCount_0f7a4_41 : decode cJ6_bitCount_0f7a4 41 = .ok (.iload_n 0, 1) := qd_o26 40 1 qd_g677 rfl
theorem dJ6_bitCount_0f7a4_42 : decode cJ6_bitCount_0f7a4 42 = .ok (.iload_n 0, 1) := qd_o26 40 2 qd_g677 rfl
theorem dJ6_bitCount_0f7a4_43 : decode cJ6_bitCount_0f7a4 43 = .ok (.bipush 16, 2) := qd_o16 40 3 qd_g677 rfl rfl
theorem dJ6_bitCount_0f7a4_45 : decode cJ6_bitCount_0f7a4 45 = .ok (.iushr, 1) := qd_o124 40 5 qd_g677 rfl
theorem dJ6_bitCount_0f7a4_46 : decode cJ6_bitCount_0f7a4 46 = .ok (.iadd, 1) := qd_o96 40 6 qd_g677 rfl
theorem dJ6_bitCount_0f7a4_47 : decode cJ6_bitCount_0f7a4 47 = .ok (.istore_n 0, 1) := qd_o59 40 7 qd_g677 rfl
theorem dJ6_bitCount_0f7a4_48 : decode cJ6_bitCount_0f7a4 48 = .ok (.iload_n 0, 1) := qd_o26 40 8 qd_g677 rfl
theorem dJ6_bitCount_0f7a4_49 : decode cJ6_bitCount_0f7a4 49 = .ok (.bipush 63, 2) := qd_o16 40 9 qd_g677 rfl rfl
theorem dJ6_bitCount_0f7a4_51 : decode cJ6_bitCount_0f7a4 51 = .ok (.iand, 1) := qd_o126 40 11 qd_g677 rfl
theorem dJ6_bitCount_0f7a4_52 : decode cJ6_bitCount_0f7a4 52 = .ok (.ireturn, 1) := qd_o172 40 12 qd_g677 rfl
theorem qd_g678 : qd_bs cJ9_max_7cf53 0 [26, 27, 161, 0, 7, 26, 167, 0, 4, 27, 172] = true := by decide +kernel
theorem dJ9_max_7cf53_0 : decode cJ9_max_7cf53 0 = .ok (.iload_n 0, 1) := qd_o26 0 0 qd_g678 rfl
theorem dJ9_max_7cf53_1 : decode cJ9_max_7cf53 1 = .ok (.iload_n 1, 1) := qd_o27 0 1 qd_g678 rfl
theorem dJ9_max_7cf53_2 : decode cJ9_max_7cf53 2 = .ok (.if_icmp .lt 7, 3) := qd_o161 0 2 qd_g678 rfl rfl
theorem dJ9_max_7cf53_5 : decode cJ9_max_7cf53 5 = .ok (.iload_n 0, 1) := qd_o26 0 5 qd_g678 rfl
theorem dJ9_max_7cf53_6 : decode cJ9_max_7cf53 6 = .ok (.goto 4, 3) := qd_o167 0 6 qd_g678 rfl rfl
theorem dJ9_max_7cf53_9 : decode cJ9_max_7cf53 9 = .ok (.iload_n 1, 1) := qd_o27 0 9 qd_g678 rfl
theorem dJ9_max_7cf53_10 : decode cJ9_max_7cf53 10 = .ok (.ireturn, 1) := qd_o172 0 10 qd_g678 rfl
theorem qd_g679 : qd_bs cJ9_min_7cf53 0 [26, 27, 163, 0, 7, 26, 167, 0, 4, 27, 172] = true := by decide +kernel
theorem dJ9_min_7cf53_0 : decode cJ9_min_7cf53 0 = .ok (.iload_n 0, 1) := qd_o26 0 0 qd_g679 rfl
theorem dJ9_min_7cf53_1 : decode cJ9_min_7cf53 1 = .ok (.iload_n 1, 1) := qd_o27 0 1 qd_g679 rfl
theorem dJ9_min_7cf53_2 : decode cJ9_min_7cf53 2 = .ok (.if_icmp .gt 7, 3) := qd_o163 0 2 qd_g679 rfl rfl
theorem dJ9_min_7cf53_5 : decode cJ9_min_7cf53 5 = .ok (.iload_n 0, 1) := qd_o26 0 5 qd_g679 rfl
theorem dJ9_min_7cf53_6 : decode cJ9_min_7cf53 6 = .ok (.goto 4, 3) := qd_o167 0 6 qd_g679 rfl rfl
theorem dJ9_min_7cf53_9 : decode cJ9_min_7cf53 9 = .ok (.iload_n 1, 1) := qd_o27 0 9 qd_g679 rfl
theorem dJ9_min_7cf53_10 : decode cJ9_min_7cf53 10 = .ok (.ireturn, 1) := qd_o172 0 10 qd_g679 rfl
theorem qd_g680 : qd_bs cJ0_init_81219 0 [42, 43, 1, 183, 1, 233, 177] = true := by decide +kernel
theorem dJ0_init_81219_0 : decode cJ0_init_81219 0 = .ok (.aload_n 0, 1) := qd_o42 0 0 qd_g680 rfl
theorem dJ0_init_81219_1 : decode cJ0_init_81219 1 = .ok (.aload_n 1, 1) := qd_o43 0 1 qd_g680 rfl
theorem dJ0_init_81219_2 : decode cJ0_init_81219 2 = .ok (.aconst_null, 1) := qd_o1 0 2 qd_g680 rfl
theorem dJ0_init_81219_3 : decode cJ0_init_81219 3 = .ok (.invokespecial 489, 3) := qd_o183 0 3 qd_g680 rfl rfl
theorem dJ0_init_81219_6 : decode cJ0_init_81219 6 = .ok (.return_, 1) := qd_o177 0 6 qd_g680 rfl
theorem qd_g681 : qd_bs cJ0_length_8abf5 0 [42, 180, 0, 9, 190, 42, 182, 1, 79, 122, 172] = true := by decide +kernel
theorem dJ0_length_8abf5_0 : decode cJ0_length_8abf5 0 = .ok (.aload_n 0, 1) := qd_o42 0 0 qd_g681 rfl
theorem dJ0_length_8abf5_1 : decode cJ0_length_8abf5 1 = .ok (.getfield 9, 3) := qd_o180 0 1 qd_g681 rfl rfl
theorem dJ0_length_8abf5_4 : decode cJ0_length_8abf5 4 = .ok (.arraylength, 1) := qd_o190 0 4 qd_g681 rfl
theorem dJ0_length_8abf5_5 : decode cJ0_length_8abf5 5 = .ok (.aload_n 0, 1) := qd_o42 0 5 qd_g681 rfl
theorem dJ0_length_8abf5_6 : decode cJ0_length_8abf5 6 = .ok (.invokevirtual 335, 3) := qd_o182 0 6 qd_g681 rfl rfl
theorem dJ0_length_8abf5_9 : decode cJ0_length_8abf5 9 = .ok (.ishr, 1) := qd_o122 0 9 qd_g681 rfl
theorem dJ0_length_8abf5_10 : decode cJ0_length_8abf5 10 = .ok (.ireturn, 1) := qd_o172 0 10 qd_g681 rfl
theorem qd_g682 : qd_bs cJ0_charAt_5068e 0 [42, 182, 1, 236, 153, 0, 12, 42, 180, 0, 9, 27, 184, 1, 239, 172, 42, 180, 0, 9, 27, 184, 1, 242, 172] = true := by decide +kernel
theorem dJ0_charAt_5068e_0 : decode cJ0_charAt_5068e 0 = .ok (.aload_n 0, 1) := qd_o42 0 0 qd_g682 rfl
theorem dJ0_charAt_5068e_1 : decode cJ0_charAt_5068e 1 = .ok (.invokevirtual 492, 3) := qd_o182 0 1 qd_g682 rfl rfl
theorem dJ0_charAt_5068e_4 : decode cJ0_charAt_5068e 4 = .ok (.ifCond .eq 12, 3) := qd_o153 0 4 qd_g682 rfl rfl
theorem dJ0_charAt_5068e_7 : decode cJ0_charAt_5068e 7 = .ok (.aload_n 0, 1) := qd_o42 0 7 qd_g682 rfl
theorem dJ0_charAt_5068e_8 : decode cJ0_charAt_5068e 8 = .ok (.getfield 9, 3) := qd_o180 0 8 qd_g682 rfl rfl
theorem dJ0_charAt_5068e_11 : decode cJ0_charAt_5068e 11 = .ok (.iload_n 1, 1) := qd_o27 0 11 qd_g682 rfl
theorem dJ0_charAt_5068e_12 : decode cJ0_charAt_5068e 12 = .ok (.invokestatic 495, 3) := qd_o184 0 12 qd_g682 rfl rfl
theorem dJ0_charAt_5068e_15 : decode cJ0_charAt_5068e 15 = .ok (.ireturn, 1) := qd_o172 0 15 qd_g682 rfl
theorem dJ0_charAt_5068e_16 : decode cJ0_charAt_5068e 16 = .ok (.aload_n 0, 1) := qd_o42 0 16 qd_g682 rfl
theorem dJ0_charAt_5068e_17 : decode cJ0_charAt_5068e 17 = .ok (.getfield 9, 3) := qd_o180 0 17 qd_g682 rfl rfl
theorem dJ0_charAt_5068e_20 : decode cJ0_charAt_5068e 20 = .ok (.iload_n 1, 1) := qd_o27 0 20 qd_g682 rfl
theorem dJ0_charAt_5068e_21 : decode cJ0_charAt_5068e 21 = .ok (.invokestatic 498, 3) := qd_o184 0 21 qd_g682 rfl rfl
theorem dJ0_charAt_5068e_24 : decode cJ0_charAt_5068e 24 = .ok (.ireturn, 1) := qd_o172 0 24 qd_g682 rfl
theorem qd_g683 : qd_bs cJ0_getBytes_840e7 0 [42, 182, 1, 79, 29, 160, 0, 23, 42, 180, 0, 9, 3, 43, 28, 29, 120, 42, 180, 0, 9, 190, 184, 0, 212, 167, 0, 18, 42, 180, 0, 9, 3, 43, 28, 42, 180, 0, 9, 190] = true := by decide +kernel
theorem dJ0_getBytes_840e7_0 : decode cJ0_getBytes_840e7 0 = .ok (.aload_n 0, 1) := qd_o42 0 0 qd_g683 rfl
theorem dJ0_getBytes_840e7_1 : decode cJ0_getBytes_840e7 1 = .ok (.invokevirtual 335, 3) := qd_o182 0 1 qd_g683 rfl rfl
theorem dJ0_getBytes_840e7_4 : decode cJ0_getBytes_840e7 4 = .ok (.iload_n 3, 1) := qd_o29 0 4 qd_g683 rfl
theorem dJ0_getBytes_840e7_5 : decode cJ0_getBytes_840e7 5 = .ok (.if_icmp .ne 23, 3) := qd_o160 0 5 qd_g683 rfl rfl
theorem dJ0_getBytes_840e7_8 : decode cJ0_getBytes_840e7 8 = .ok (.aload_n 0, 1) := qd_o42 0 8 qd_g683 rfl
theorem dJ0_getBytes_840e7_9 : decode cJ0_getBytes_840e7 9 = .ok (.getfield 9, 3) := qd_o180 0 9 qd_g683 rfl rfl
theorem dJ0_getBytes_840e7_12 : decode cJ0_getBytes_840e7 12 = .ok (.iconst 0, 1) := qd_o3 0 12 qd_g683 rfl
theorem dJ0_getBytes_840e7_13 : decode cJ0_getBytes_840e7 13 = .ok (.aload_n 1, 1) := qd_o43 0 13 qd_g683 rfl
theorem dJ0_getBytes_840e7_14 : decode cJ0_getBytes_840e7 14 = .ok (.iload_n 2, 1) := qd_o28 0 14 qd_g683 rfl
theorem dJ0_getBytes_840e7_15 : decode cJ0_getBytes_840e7 15 = .ok (.iload_n 3, 1) := qd_o29 0 15 qd_g683 rfl
theorem dJ0_getBytes_840e7_16 : decode cJ0_getBytes_840e7 16 = .ok (.ishl, 1) := qd_o120 0 16 qd_g683 rfl
theorem dJ0_getBytes_840e7_17 : decode cJ0_getBytes_840e7 17 = .ok (.aload_n 0, 1) := qd_o42 0 17 qd_g683 rfl
theorem dJ0_getBytes_840e7_18 : decode cJ0_getBytes_840e7 18 = .ok (.getfield 9, 3) := qd_o180 0 18 qd_g683 rfl rfl
theorem dJ0_getBytes_840e7_21 : decode cJ0_getBytes_840e7 21 = .ok (.arraylength, 1) := qd_o190 0 21 qd_g683 rfl
theorem dJ0_getBytes_840e7_22 : decode cJ0_getBytes_840e7 22 = .ok (.invokestatic 212, 3) := qd_o184 0 22 qd_g683 rfl rfl
theorem dJ0_getBytes_840e7_25 : decode cJ0_getBytes_840e7 25 = .ok (.goto 18, 3) := qd_o167 0 25 qd_g683 rfl rfl
theorem dJ0_getBytes_840e7_28 : decode cJ0_getBytes_840e7 28 = .ok (.aload_n 0, 1) := qd_o42 0 28 qd_g683 rfl
theorem dJ0_getBytes_840e7_29 : decode cJ0_getBytes_840e7 29 = .ok (.getfield 9, 3) := qd_o180 0 29 qd_g683 rfl rfl
theorem dJ0_getBytes_840e7_32 : decode cJ0_getBytes_840e7 32 = .ok (.iconst 0, 1) := qd_o3 0 32 qd_g683 rfl
theorem dJ0_getBytes_840e7_33 : decode cJ0_getBytes_840e7 33 = .ok (.aload_n 1, 1) := qd_o43 0 33 qd_g683 rfl
theorem dJ0_getBytes_840e7_34 : decode cJ0_getBytes_840e7 34 = .ok (.iload_n 2, 1) := qd_o28 0 34 qd_g683 rfl
theorem dJ0_getBytes_840e7_35 : decode cJ0_getBytes_840e7 35 = .ok (.aload_n 0, 1) := qd_o42 0 35 qd_g683 rfl
theorem dJ0_getBytes_840e7_36 : decode cJ0_getBytes_840e7 36 = .ok (.getfield 9, 3) := qd_o180 0 36 qd_g683 rfl rfl
theorem dJ0_getBytes_840e7_39 : decode cJ0_getBytes_840e7 39 = .ok (.arraylength, 1) := qd_o190 0 39 qd_g683 rfl
theorem qd_g684 : qd_bs cJ0_getBytes_840e7 40 [184, 0, 106, 177] = true := by decide +kernel
theorem dJ0_getBytes_840e7_40 : decode cJ0_getBytes_840e7 40 = .ok (.invokestatic 106, 3) := qd_o184 40 0 qd_g684 rfl rfl
theorem dJ0_getBytes_840e7_43 : decode cJ0_getBytes_840e7 43 = .ok (.return_, 1) := qd_o177 40 3 qd_g684 rfl
theorem qd_g685 : qd_bs cJ0_init_db425 0 [42, 183, 0, 1, 43, 182, 2, 40, 78, 43, 182, 2, 37, 54, 4, 43, 182, 4, 23, 153, 0, 22, 42, 3, 181, 0, 15, 42, 45, 3, 21, 4, 184, 0, 54, 181, 0, 9] = true := by decide +kernel
theorem dJ0_init_db425_0 : decode cJ0_init_db425 0 = .ok (.aload_n 0, 1) := qd_o42 0 0 qd_g685 rfl
theorem dJ0_init_db425_1 : decode cJ0_init_db425 1 = .ok (.invokespecial 1, 3) := qd_o183 0 1 qd_g685 rfl rfl
theorem dJ0_init_db425_4 : decode cJ0_init_db425 4 = .ok (.aload_n 1, 1) := qd_o43 0 4 qd_g685 rfl
theorem dJ0_init_db425_5 : decode cJ0_init_db425 5 = .ok (.invokevirtual 552, 3) := qd_o182 0 5 qd_g685 rfl rfl
theorem dJ0_init_db425_8 : decode cJ0_init_db425 8 = .ok (.astore_n 3, 1) := qd_o78 0 8 qd_g685 rfl
theorem dJ0_init_db425_9 : decode cJ0_init_db425 9 = .ok (.aload_n 1, 1) := qd_o43 0 9 qd_g685 rfl
theorem dJ0_init_db425_10 : decode cJ0_init_db425 10 = .ok (.invokevirtual 549, 3) := qd_o182 0 10 qd_g685 rfl rfl
theorem dJ0_init_db425_13 : decode cJ0_init_db425 13 = .ok (.istore 4, 2) := qd_o54 0 13 qd_g685 rfl rfl
theorem dJ0_init_db425_15 : decode cJ0_init_db425 15 = .ok (.aload_n 1, 1) := qd_o43 0 15 qd_g685 rfl
theorem dJ0_init_db425_16 : decode cJ0_init_db425 16 = .ok (.invokevirtual 1047, 3) := qd_o182 0 16 qd_g685 rfl rfl
theorem dJ0_init_db425_19 : decode cJ0_init_db425 19 = .ok (.ifCond .eq 22, 3) := qd_o153 0 19 qd_g685 rfl rfl
theorem dJ0_init_db425_22 : decode cJ0_init_db425 22 = .ok (.aload_n 0, 1) := qd_o42 0 22 qd_g685 rfl
theorem dJ0_init_db425_23 : decode cJ0_init_db425 23 = .ok (.iconst 0, 1) := qd_o3 0 23 qd_g685 rfl
theorem dJ0_init_db425_24 : decode cJ0_init_db425 24 = .ok (.putfield 15, 3) := qd_o181 0 24 qd_g685 rfl rfl
theorem dJ0_init_db425_27 : decode cJ0_init_db425 27 = .ok (.aload_n 0, 1) := qd_o42 0 27 qd_g685 rfl
theorem dJ0_init_db425_28 : decode cJ0_init_db425 28 = .ok (.aload_n 3, 1) := qd_o45 0 28 qd_g685 rfl
theorem dJ0_init_db425_29 : decode cJ0_init_db425 29 = .ok (.iconst 0, 1) := qd_o3 0 29 qd_g685 rfl
theorem dJ0_init_db425_30 : decode cJ0_init_db425 30 = .ok (.iload 4, 2) := qd_o21 0 30 qd_g685 rfl rfl
theorem dJ0_init_db425_32 : decode cJ0_init_db425 32 = .ok (.invokestatic 54, 3) := qd_o184 0 32 qd_g685 rfl rfl
theorem dJ0_init_db425_35 : decode cJ0_init_db425 35 = .ok (.putfield 9, 3) := qd_o181 0 35 qd_g685 rfl rfl
theorem qd_g686 : qd_bs cJ0_init_db425 38 [167, 0, 59, 178, 0, 38, 153, 0, 35, 43, 180, 4, 24, 153, 0, 28, 42, 45, 3, 21, 4, 184, 4, 27, 181, 0, 9, 42, 42, 180, 0, 9, 21, 4, 184, 0, 47, 181, 0, 15] = true := by decide +kernel
theorem dJ0_init_db425_38 : decode cJ0_init_db425 38 = .ok (.goto 59, 3) := qd_o167 38 0 qd_g686 rfl rfl
theorem dJ0_init_db425_41 : decode cJ0_init_db425 41 = .ok (.getstatic 38, 3) := qd_o178 38 3 qd_g686 rfl rfl
theorem dJ0_init_db425_44 : decode cJ0_init_db425 44 = .ok (.ifCond .eq 35, 3) := qd_o153 38 6 qd_g686 rfl rfl
theorem dJ0_init_db425_47 : decode cJ0_init_db425 47 = .ok (.aload_n 1, 1) := qd_o43 38 9 qd_g686 rfl
theorem dJ0_init_db425_48 : decode cJ0_init_db425 48 = .ok (.getfield 1048, 3) := qd_o180 38 10 qd_g686 rfl rfl
theorem dJ0_init_db425_51 : decode cJ0_init_db425 51 = .ok (.ifCond .eq 28, 3) := qd_o153 38 13 qd_g686 rfl rfl
theorem dJ0_init_db425_54 : decode cJ0_init_db425 54 = .ok (.aload_n 0, 1) := qd_o42 38 16 qd_g686 rfl
theorem dJ0_init_db425_55 : decode cJ0_init_db425 55 = .ok (.aload_n 3, 1) := qd_o45 38 17 qd_g686 rfl
theorem dJ0_init_db425_56 : decode cJ0_init_db425 56 = .ok (.iconst 0, 1) := qd_o3 38 18 qd_g686 rfl
theorem dJ0_init_db425_57 : decode cJ0_init_db425 57 = .ok (.iload 4, 2) := qd_o21 38 19 qd_g686 rfl rfl
theorem dJ0_init_db425_59 : decode cJ0_init_db425 59 = .ok (.invokestatic 1051, 3) := qd_o184 38 21 qd_g686 rfl rfl
theorem dJ0_init_db425_62 : decode cJ0_init_db425 62 = .ok (.putfield 9, 3) := qd_o181 38 24 qd_g686 rfl rfl
theorem dJ0_init_db425_65 : decode cJ0_init_db425 65 = .ok (.aload_n 0, 1) := qd_o42 38 27 qd_g686 rfl
theorem dJ0_init_db425_66 : decode cJ0_init_db425 66 = .ok (.aload_n 0, 1) := qd_o42 38 28 qd_g686 rfl
theorem dJ0_init_db425_67 : decode cJ0_init_db425 67 = .ok (.getfield 9, 3) := qd_o180 38 29 qd_g686 rfl rfl
theorem dJ0_init_db425_70 : decode cJ0_init_db425 70 = .ok (.iload 4, 2) := qd_o21 38 32 qd_g686 rfl rfl
theorem dJ0_init_db425_72 : decode cJ0_init_db425 72 = .ok (.invokestatic 47, 3) := qd_o184 38 34 qd_g686 rfl rfl
theorem dJ0_init_db425_75 : decode cJ0_init_db425 75 = .ok (.putfield 15, 3) := qd_o181 38 37 qd_g686 rfl rfl
theorem qd_g687 : qd_bs cJ0_init_db425 78 [177, 42, 4, 181, 0, 15, 42, 45, 3, 21, 4, 4, 120, 184, 0, 54, 181, 0, 9, 177] = true := by decide +kernel
theorem dJ0_init_db425_78 : decode cJ0_init_db425 78 = .ok (.return_, 1) := qd_o177 78 0 qd_g687 rfl
theorem dJ0_init_db425_79 : decode cJ0_init_db425 79 = .ok (.aload_n 0, 1) := qd_o42 78 1 qd_g687 rfl
theorem dJ0_init_db425_80 : decode cJ0_init_db425 80 = .ok (.iconst 1, 1) := qd_o4 78 2 qd_g687 rfl
theorem dJ0_init_db425_81 : decode cJ0_init_db425 81 = .ok (.putfield 15, 3) := qd_o181 78 3 qd_g687 rfl rfl
theorem dJ0_init_db425_84 : decode cJ0_init_db425 84 = .ok (.aload_n 0, 1) := qd_o42 78 6 qd_g687 rfl
theorem dJ0_init_db425_85 : decode cJ0_init_db425 85 = .ok (.aload_n 3, 1) := qd_o45 78 7 qd_g687 rfl
theorem dJ0_init_db425_86 : decode cJ0_init_db425 86 = .ok (.iconst 0, 1) := qd_o3 78 8 qd_g687 rfl
theorem dJ0_init_db425_87 : decode cJ0_init_db425 87 = .ok (.iload 4, 2) := qd_o21 78 9 qd_g687 rfl rfl
theorem dJ0_init_db425_89 : decode cJ0_init_db425 89 = .ok (.iconst 1, 1) := qd_o4 78 11 qd_g687 rfl
theorem dJ0_init_db425_90 : decode cJ0_init_db425 90 = .ok (.ishl, 1) := qd_o120 78 12 qd_g687 rfl
theorem dJ0_init_db425_91 : decode cJ0_init_db425 91 = .ok (.invokestatic 54, 3) := qd_o184 78 13 qd_g687 rfl rfl
theorem dJ0_init_db425_94 : decode cJ0_init_db425 94 = .ok (.putfield 9, 3) := qd_o181 78 16 qd_g687 rfl rfl
theorem dJ0_init_db425_97 : decode cJ0_init_db425 97 = .ok (.return_, 1) := qd_o177 78 19 qd_g687 rfl
theorem qd_g688 : qd_bs cJ0_coder_7d493 0 [178, 0, 38, 153, 0, 10, 42, 180, 0, 15, 167, 0, 4, 4, 172] = true := by decide +kernel
theorem dJ0_coder_7d493_0 : decode cJ0_coder_7d493 0 = .ok (.getstatic 38, 3) := qd_o178 0 0 qd_g688 rfl rfl
theorem dJ0_coder_7d493_3 : decode cJ0_coder_7d493 3 = .ok (.ifCond .eq 10, 3) := qd_o153 0 3 qd_g688 rfl rfl
theorem dJ0_coder_7d493_6 : decode cJ0_coder_7d493 6 = .ok (.aload_n 0, 1) := qd_o42 0 6 qd_g688 rfl
theorem dJ0_coder_7d493_7 : decode cJ0_coder_7d493 7 = .ok (.getfield 15, 3) := qd_o180 0 7 qd_g688 rfl rfl
theorem dJ0_coder_7d493_10 : decode cJ0_coder_7d493 10 = .ok (.goto 4, 3) := qd_o167 0 10 qd_g688 rfl rfl
theorem dJ0_coder_7d493_13 : decode cJ0_coder_7d493 13 = .ok (.iconst 1, 1) := qd_o4 0 13 qd_g688 rfl
theorem dJ0_coder_7d493_14 : decode cJ0_coder_7d493 14 = .ok (.ireturn, 1) := qd_o172 0 14 qd_g688 rfl
theorem qd_g689 : qd_bs cJ0_isLatin1_aae02 0 [178, 0, 38, 153, 0, 14, 42, 180, 0, 15, 154, 0, 7, 4, 167, 0, 4, 3, 172] = true := by decide +kernel
theorem dJ0_isLatin1_aae02_0 : decode cJ0_isLatin1_aae02 0 = .ok (.getstatic 38, 3) := qd_o178 0 0 qd_g689 rfl rfl
theorem dJ0_isLatin1_aae02_3 : decode cJ0_isLatin1_aae02 3 = .ok (.ifCond .eq 14, 3) := qd_o153 0 3 qd_g689 rfl rfl
theorem dJ0_isLatin1_aae02_6 : decode cJ0_isLatin1_aae02 6 = .ok (.aload_n 0, 1) := qd_o42 0 6 qd_g689 rfl
theorem dJ0_isLatin1_aae02_7 : decode cJ0_isLatin1_aae02 7 = .ok (.getfield 15, 3) := qd_o180 0 7 qd_g689 rfl rfl
theorem dJ0_isLatin1_aae02_10 : decode cJ0_isLatin1_aae02 10 = .ok (.ifCond .ne 7, 3) := qd_o154 0 10 qd_g689 rfl rfl
theorem dJ0_isLatin1_aae02_13 : decode cJ0_isLatin1_aae02 13 = .ok (.iconst 1, 1) := qd_o4 0 13 qd_g689 rfl
theorem dJ0_isLatin1_aae02_14 : decode cJ0_isLatin1_aae02 14 = .ok (.goto 4, 3) := qd_o167 0 14 qd_g689 rfl rfl
theorem dJ0_isLatin1_aae02_17 : decode cJ0_isLatin1_aae02 17 = .ok (.iconst 0, 1) := qd_o3 0 17 qd_g689 rfl
theorem dJ0_isLatin1_aae02_18 : decode cJ0_isLatin1_aae02 18 = .ok (.ireturn, 1) := qd_o172 0 18 qd_g689 rfl
theorem qd_g690 : qd_bs cJ0_checkIndex_df160 0 [26, 27, 178, 4, 29, 184, 4, 35, 87, 177] = true := by decide +kernel
theorem dJ0_checkIndex_df160_0 : decode cJ0_checkIndex_df160 0 = .ok (.iload_n 0, 1) := qd_o26 0 0 qd_g690 rfl
theorem dJ0_checkIndex_df160_1 : decode cJ0_checkIndex_df160 1 = .ok (.iload_n 1, 1) := qd_o27 0 1 qd_g690 rfl
theorem dJ0_checkIndex_df160_2 : decode cJ0_checkIndex_df160 2 = .ok (.getstatic 1053, 3) := qd_o178 0 2 qd_g690 rfl rfl
theorem dJ0_checkIndex_df160_5 : decode cJ0_checkIndex_df160 5 = .ok (.invokestatic 1059, 3) := qd_o184 0 5 qd_g690 rfl rfl
theorem dJ0_checkIndex_df160_8 : decode cJ0_checkIndex_df160 8 = .ok (.pop, 1) := qd_o87 0 8 qd_g690 rfl
theorem dJ0_checkIndex_df160_9 : decode cJ0_checkIndex_df160 9 = .ok (.return_, 1) := qd_o177 0 9 qd_g690 rfl
theorem qd_g691 : qd_bs cJ0_checkBoundsOffCount_cabcc 0 [26, 27, 28, 178, 4, 29, 184, 4, 41, 172] = true := by decide +kernel
theorem dJ0_checkBoundsOffCount_cabcc_0 : decode cJ0_checkBoundsOffCount_cabcc 0 = .ok (.iload_n 0, 1) := qd_o26 0 0 qd_g691 rfl
theorem dJ0_checkBoundsOffCount_cabcc_1 : decode cJ0_checkBoundsOffCount_cabcc 1 = .ok (.iload_n 1, 1) := qd_o27 0 1 qd_g691 rfl
theorem dJ0_checkBoundsOffCount_cabcc_2 : decode cJ0_checkBoundsOffCount_cabcc 2 = .ok (.iload_n 2, 1) := qd_o28 0 2 qd_g691 rfl
theorem dJ0_checkBoundsOffCount_cabcc_3 : decode cJ0_checkBoundsOffCount_cabcc 3 = .ok (.getstatic 1053, 3) := qd_o178 0 3 qd_g691 rfl rfl
theorem dJ0_checkBoundsOffCount_cabcc_6 : decode cJ0_checkBoundsOffCount_cabcc 6 = .ok (.invokestatic 1065, 3) := qd_o184 0 6 qd_g691 rfl rfl
theorem dJ0_checkBoundsOffCount_cabcc_9 : decode cJ0_checkBoundsOffCount_cabcc 9 = .ok (.ireturn, 1) := qd_o172 0 9 qd_g691 rfl
theorem qd_g692 : qd_bs cJ0_checkBoundsBeginEnd_23922 0 [26, 27, 28, 178, 4, 29, 184, 4, 38, 87, 177] = true := by decide +kernel
theorem dJ0_checkBoundsBeginEnd_23922_0 : decode cJ0_checkBoundsBeginEnd_23922 0 = .ok (.iload_n 0, 1) := qd_o26 0 0 qd_g692 rfl
theorem dJ0_checkBoundsBeginEnd_23922_1 : decode cJ0_checkBoundsBeginEnd_23922 1 = .ok (.iload_n 1, 1) := qd_o27 0 1 qd_g692 rfl
theorem dJ0_checkBoundsBeginEnd_23922_2 : decode cJ0_checkBoundsBeginEnd_23922 2 = .ok (.iload_n 2, 1) := qd_o28 0 2 qd_g692 rfl
theorem dJ0_checkBoundsBeginEnd_23922_3 : decode cJ0_checkBoundsBeginEnd_23922 3 = .ok (.getstatic 1053, 3) := qd_o178 0 3 qd_g692 rfl rfl
theorem dJ0_checkBoundsBeginEnd_23922_6 : decode cJ0_checkBoundsBeginEnd_23922 6 = .ok (.invokestatic 1062, 3) := qd_o184 0 6 qd_g692 rfl rfl
theorem dJ0_checkBoundsBeginEnd_23922_9 : decode cJ0_checkBoundsBeginEnd_23922 9 = .ok (.pop, 1) := qd_o87 0 9 qd_g692 rfl
theorem dJ0_checkBoundsBeginEnd_23922_10 : decode cJ0_checkBoundsBeginEnd_23922 10 = .ok (.return_, 1) := qd_o177 0 10 qd_g692 rfl
theorem qd_g693 : qd_bs cJ4_init_da8c8 0 [42, 16, 16, 183, 0, 1, 177] = true := by decide +kernel
theorem dJ4_init_da8c8_0 : decode cJ4_init_da8c8 0 = .ok (.aload_n 0, 1) := qd_o42 0 0 qd_g693 rfl
theorem dJ4_init_da8c8_1 : decode cJ4_init_da8c8 1 = .ok (.bipush 16, 2) := qd_o16 0 1 qd_g693 rfl rfl
theorem dJ4_init_da8c8_3 : decode cJ4_init_da8c8 3 = .ok (.invokespecial 1, 3) := qd_o183 0 3 qd_g693 rfl rfl
theorem dJ4_init_da8c8_6 : decode cJ4_init_da8c8 6 = .ok (.return_, 1) := qd_o177 0 6 qd_g693 rfl
theorem qd_g694 : qd_bs cJ4_append_15ec4 0 [42, 43, 183, 0, 29, 87, 42, 176] = true := by decide +kernel
theorem dJ4_append_15ec4_0 : decode cJ4_append_15ec4 0 = .ok (.aload_n 0, 1) := qd_o42 0 0 qd_g694 rfl
theorem dJ4_append_15ec4_1 : decode cJ4_append_15ec4 1 = .ok (.aload_n 1, 1) := qd_o43 0 1 qd_g694 rfl
theorem dJ4_append_15ec4_2 : decode cJ4_append_15ec4 2 = .ok (.invokespecial 29, 3) := qd_o183 0 2 qd_g694 rfl rfl
theorem dJ4_append_15ec4_5 : decode cJ4_append_15ec4 5 = .ok (.pop, 1) := qd_o87 0 5 qd_g694 rfl
theorem dJ4_append_15ec4_6 : decode cJ4_append_15ec4 6 = .ok (.aload_n 0, 1) := qd_o42 0 6 qd_g694 rfl
theorem dJ4_append_15ec4_7 : decode cJ4_append_15ec4 7 = .ok (.areturn, 1) := qd_o176 0 7 qd_g694 rfl
theorem qd_g695 : qd_bs cJ4_append_cf468 0 [42, 27, 183, 0, 50, 87, 42, 176] = true := by decide +kernel
theorem dJ4_append_cf468_0 : decode cJ4_append_cf468 0 = .ok (.aload_n 0, 1) := qd_o42 0 0 qd_g695 rfl
theorem dJ4_append_cf468_1 : decode cJ4_append_cf468 1 = .ok (.iload_n 1, 1) := qd_o27 0 1 qd_g695 rfl
theorem dJ4_append_cf468_2 : decode cJ4_append_cf468 2 = .ok (.invokespecial 50, 3) := qd_o183 0 2 qd_g695 rfl rfl
theorem dJ4_append_cf468_5 : decode cJ4_append_cf468 5 = .ok (.pop, 1) := qd_o87 0 5 qd_g695 rfl
theorem dJ4_append_cf468_6 : decode cJ4_append_cf468 6 = .ok (.aload_n 0, 1) := qd_o42 0 6 qd_g695 rfl
theorem dJ4_append_cf468_7 : decode cJ4_append_cf468 7 = .ok (.areturn, 1) := qd_o176 0 7 qd_g695 rfl
theorem qd_g696 : qd_bs cJ4_append_bf812 0 [42, 27, 183, 0, 53, 87, 42, 176] = true := by decide +kernel
theorem dJ4_append_bf812_0 : decode cJ4_append_bf812 0 = .ok (.aload_n 0, 1) := qd_o42 0 0 qd_g696 rfl
theorem dJ4_append_bf812_1 : decode cJ4_append_bf812 1 = .ok (.iload_n 1, 1) := qd_o27 0 1 qd_g696 rfl
theorem dJ4_append_bf812_2 : decode cJ4_append_bf812 2 = .ok (.invokespecial 53, 3) := qd_o183 0 2 qd_g696 rfl rfl
theorem dJ4_append_bf812_5 : decode cJ4_append_bf812 5 = .ok (.pop, 1) := qd_o87 0 5 qd_g696 rfl
theorem dJ4_append_bf812_6 : decode cJ4_append_bf812 6 = .ok (.aload_n 0, 1) := qd_o42 0 6 qd_g696 rfl
theorem dJ4_append_bf812_7 : decode cJ4_append_bf812 7 = .ok (.areturn, 1) := qd_o176 0 7 qd_g696 rfl
theorem qd_g697 : qd_bs cJ4_toString_0e30d 0 [187, 0, 18, 89, 42, 183, 0, 137, 176] = true := by decide +kernel
theorem dJ4_toString_0e30d_0 : decode cJ4_toString_0e30d 0 = .ok (.new 18, 3) := qd_o187 0 0 qd_g697 rfl rfl
theorem dJ4_toString_0e30d_3 : decode cJ4_toString_0e30d 3 = .ok (.dup, 1) := qd_o89 0 3 qd_g697 rfl
theorem dJ4_toString_0e30d_4 : decode cJ4_toString_0e30d 4 = .ok (.aload_n 0, 1) := qd_o42 0 4 qd_g697 rfl
theorem dJ4_toString_0e30d_5 : decode cJ4_toString_0e30d 5 = .ok (.invokespecial 137, 3) := qd_o183 0 5 qd_g697 rfl rfl
theorem dJ4_toString_0e30d_8 : decode cJ4_toString_0e30d 8 = .ok (.areturn, 1) := qd_o176 0 8 qd_g697 rfl
theorem qd_g698 : qd_bs cJ4_charAt_5068e 0 [42, 27, 183, 1, 73, 172] = true := by decide +kernel
theorem dJ4_charAt_5068e_0 : decode cJ4_charAt_5068e 0 = .ok (.aload_n 0, 1) := qd_o42 0 0 qd_g698 rfl
theorem dJ4_charAt_5068e_1 : decode cJ4_charAt_5068e 1 = .ok (.iload_n 1, 1) := qd_o27 0 1 qd_g698 rfl
theorem dJ4_charAt_5068e_2 : decode cJ4_charAt_5068e 2 = .ok (.invokespecial 329, 3) := qd_o183 0 2 qd_g698 rfl rfl
theorem dJ4_charAt_5068e_5 : decode cJ4_charAt_5068e 5 = .ok (.ireturn, 1) := qd_o172 0 5 qd_g698 rfl
theorem qd_g699 : qd_bs cJ4_setLength_d00df 0 [42, 27, 183, 1, 77, 177] = true := by decide +kernel
theorem dJ4_setLength_d00df_0 : decode cJ4_setLength_d00df 0 = .ok (.aload_n 0, 1) := qd_o42 0 0 qd_g699 rfl
theorem dJ4_setLength_d00df_1 : decode cJ4_setLength_d00df 1 = .ok (.iload_n 1, 1) := qd_o27 0 1 qd_g699 rfl
theorem dJ4_setLength_d00df_2 : decode cJ4_setLength_d00df 2 = .ok (.invokespecial 333, 3) := qd_o183 0 2 qd_g699 rfl rfl
theorem dJ4_setLength_d00df_5 : decode cJ4_setLength_d00df 5 = .ok (.return_, 1) := qd_o177 0 5 qd_g699 rfl
theorem qd_g700 : qd_bs cJ4_length_8abf5 0 [42, 183, 1, 87, 172] = true := by decide +kernel
theorem dJ4_length_8abf5_0 : decode cJ4_length_8abf5 0 = .ok (.aload_n 0, 1) := qd_o42 0 0 qd_g700 rfl
theorem dJ4_length_8abf5_1 : decode cJ4_length_8abf5 1 = .ok (.invokespecial 343, 3) := qd_o183 0 1 qd_g700 rfl rfl
theorem dJ4_length_8abf5_4 : decode cJ4_length_8abf5 4 = .ok (.ireturn, 1) := qd_o172 0 4 qd_g700 rfl
theorem qd_g701 : qd_bs cJx7c733_init_d00df 0 [42, 187, 0, 10, 89, 183, 0, 12, 18, 13, 182, 0, 15, 27, 182, 0, 19, 182, 0, 22, 183, 0, 7, 177] = true := by decide +kernel
theorem dJx7c733_init_d00df_0 : decode cJx7c733_init_d00df 0 = .ok (.aload_n 0, 1) := qd_o42 0 0 qd_g701 rfl
theorem dJx7c733_init_d00df_1 : decode cJx7c733_init_d00df 1 = .ok (.new 10, 3) := qd_o187 0 1 qd_g701 rfl rfl
theorem dJx7c733_init_d00df_4 : decode cJx7c733_init_d00df 4 = .ok (.dup, 1) := qd_o89 0 4 qd_g701 rfl
theorem dJx7c733_init_d00df_5 : decode cJx7c733_init_d00df 5 = .ok (.invokespecial 12, 3) := qd_o183 0 5 qd_g701 rfl rfl
theorem dJx7c733_init_d00df_8 : decode cJx7c733_init_d00df 8 = .ok (.ldc 13, 2) := qd_o18 0 8 qd_g701 rfl rfl
theorem dJx7c733_init_d00df_10 : decode cJx7c733_init_d00df 10 = .ok (.invokevirtual 15, 3) := qd_o182 0 10 qd_g701 rfl rfl
theorem dJx7c733_init_d00df_13 : decode cJx7c733_init_d00df 13 = .ok (.iload_n 1, 1) := qd_o27 0 13 qd_g701 rfl
theorem dJx7c733_init_d00df_14 : decode cJx7c733_init_d00df 14 = .ok (.invokevirtual 19, 3) := qd_o182 0 14 qd_g701 rfl rfl
theorem dJx7c733_init_d00df_17 : decode cJx7c733_init_d00df 17 = .ok (.invokevirtual 22, 3) := qd_o182 0 17 qd_g701 rfl rfl
theorem dJx7c733_init_d00df_20 : decode cJx7c733_init_d00df 20 = .ok (.invokespecial 7, 3) := qd_o183 0 20 qd_g701 rfl rfl
theorem dJx7c733_init_d00df_23 : decode cJx7c733_init_d00df 23 = .ok (.return_, 1) := qd_o177 0 23 qd_g701 rfl
theorem qd_g702 : qd_bs cJ1_charAt_3b067 0 [27, 42, 190, 184, 0, 9, 42, 27, 51, 17, 0, 255, 126, 146, 172] = true := by decide +kernel
theorem dJ1_charAt_3b067_0 : decode cJ1_charAt_3b067 0 = .ok (.iload_n 1, 1) := qd_o27 0 0 qd_g702 rfl
theorem dJ1_charAt_3b067_1 : decode cJ1_charAt_3b067 1 = .ok (.aload_n 0, 1) := qd_o42 0 1 qd_g702 rfl
theorem dJ1_charAt_3b067_2 : decode cJ1_charAt_3b067 2 = .ok (.arraylength, 1) := qd_o190 0 2 qd_g702 rfl
theorem dJ1_charAt_3b067_3 : decode cJ1_charAt_3b067 3 = .ok (.invokestatic 9, 3) := qd_o184 0 3 qd_g702 rfl rfl
theorem dJ1_charAt_3b067_6 : decode cJ1_charAt_3b067 6 = .ok (.aload_n 0, 1) := qd_o42 0 6 qd_g702 rfl
theorem dJ1_charAt_3b067_7 : decode cJ1_charAt_3b067 7 = .ok (.iload_n 1, 1) := qd_o27 0 7 qd_g702 rfl
theorem dJ1_charAt_3b067_8 : decode cJ1_charAt_3b067 8 = .ok (.baload, 1) := qd_o51 0 8 qd_g702 rfl
theorem dJ1_charAt_3b067_9 : decode cJ1_charAt_3b067 9 = .ok (.sipush 255, 3) := qd_o17 0 9 qd_g702 rfl rfl
theorem dJ1_charAt_3b067_12 : decode cJ1_charAt_3b067 12 = .ok (.iand, 1) := qd_o126 0 12 qd_g702 rfl
theorem dJ1_charAt_3b067_13 : decode cJ1_charAt_3b067 13 = .ok (.i2c, 1) := qd_o146 0 13 qd_g702 rfl
theorem dJ1_charAt_3b067_14 : decode cJ1_charAt_3b067 14 = .ok (.ireturn, 1) := qd_o172 0 14 qd_g702 rfl
theorem qd_g703 : qd_bs cJ1_canEncode_fc78d 0 [26, 17, 0, 255, 163, 0, 7, 4, 167, 0, 4, 3, 172] = true := by decide +kernel
theorem dJ1_canEncode_fc78d_0 : decode cJ1_canEncode_fc78d 0 = .ok (.iload_n 0, 1) := qd_o26 0 0 qd_g703 rfl
theorem dJ1_canEncode_fc78d_1 : decode cJ1_canEncode_fc78d 1 = .ok (.sipush 255, 3) := qd_o17 0 1 qd_g703 rfl rfl
theorem dJ1_canEncode_fc78d_4 : decode cJ1_canEncode_fc78d 4 = .ok (.if_icmp .gt 7, 3) := qd_o163 0 4 qd_g703 rfl rfl
theorem dJ1_canEncode_fc78d_7 : decode cJ1_canEncode_fc78d 7 = .ok (.iconst 1, 1) := qd_o4 0 7 qd_g703 rfl
theorem dJ1_canEncode_fc78d_8 : decode cJ1_canEncode_fc78d 8 = .ok (.goto 4, 3) := qd_o167 0 8 qd_g703 rfl rfl
theorem dJ1_canEncode_fc78d_11 : decode cJ1_canEncode_fc78d 11 = .ok (.iconst 0, 1) := qd_o3 0 11 qd_g703 rfl
theorem dJ1_canEncode_fc78d_12 : decode cJ1_canEncode_fc78d 12 = .ok (.ireturn, 1) := qd_o172 0 12 qd_g703 rfl
theorem qd_g704 : qd_bs cJ1_fillNull_b72d1 0 [42, 27, 28, 3, 184, 0, 236, 177] = true := by decide +kernel
theorem dJ1_fillNull_b72d1_0 : decode cJ1_fillNull_b72d1 0 = .ok (.aload_n 0, 1) := qd_o42 0 0 qd_g704 rfl
theorem dJ1_fillNull_b72d1_1 : decode cJ1_fillNull_b72d1 1 = .ok (.iload_n 1, 1) := qd_o27 0 1 qd_g704 rfl
theorem dJ1_fillNull_b72d1_2 : decode cJ1_fillNull_b72d1 2 = .ok (.iload_n 2, 1) := qd_o28 0 2 qd_g704 rfl
theorem dJ1_fillNull_b72d1_3 : decode cJ1_fillNull_b72d1 3 = .ok (.iconst 0, 1) := qd_o3 0 3 qd_g704 rfl
theorem dJ1_fillNull_b72d1_4 : decode cJ1_fillNull_b72d1 4 = .ok (.invokestatic 236, 3) := qd_o184 0 4 qd_g704 rfl rfl
theorem dJ1_fillNull_b72d1_7 : decode cJ1_fillNull_b72d1 7 = .ok (.return_, 1) := qd_o177 0 7 qd_g704 rfl
theorem qd_g705 : qd_bs cJ1_inflate_0e8fd 0 [42, 27, 44, 29, 21, 4, 184, 0, 240, 177] = true := by decide +kernel
theorem dJ1_inflate_0e8fd_0 : decode cJ1_inflate_0e8fd 0 = .ok (.aload_n 0, 1) := qd_o42 0 0 qd_g705 rfl
theorem dJ1_inflate_0e8fd_1 : decode cJ1_inflate_0e8fd 1 = .ok (.iload_n 1, 1) := qd_o27 0 1 qd_g705 rfl
theorem dJ1_inflate_0e8fd_2 : decode cJ1_inflate_0e8fd 2 = .ok (.aload_n 2, 1) := qd_o44 0 2 qd_g705 rfl
theorem dJ1_inflate_0e8fd_3 : decode cJ1_inflate_0e8fd 3 = .ok (.iload_n 3, 1) := qd_o29 0 3 qd_g705 rfl
theorem dJ1_inflate_0e8fd_4 : decode cJ1_inflate_0e8fd 4 = .ok (.iload 4, 2) := qd_o21 0 4 qd_g705 rfl rfl
theorem dJ1_inflate_0e8fd_6 : decode cJ1_inflate_0e8fd 6 = .ok (.invokestatic 240, 3) := qd_o184 0 6 qd_g705 rfl rfl
theorem dJ1_inflate_0e8fd_9 : decode cJ1_inflate_0e8fd 9 = .ok (.return_, 1) := qd_o177 0 9 qd_g705 rfl
theorem qd_g706 : qd_bs cJ2_newBytesFor_77867 0 [26, 184, 0, 11] = true := by decide +kernel
theorem dJ2_newBytesFor_77867_0 : decode cJ2_newBytesFor_77867 0 = .ok (.iload_n 0, 1) := qd_o26 0 0 qd_g706 rfl
theorem dJ2_newBytesFor_77867_1 : decode cJ2_newBytesFor_77867 1 = .ok (.invokestatic 11, 3) := qd_o184 0 1 qd_g706 rfl rfl
theorem dJ2_newBytesFor_77867_4 : decode cJ2_newBytesFor_77867 4 = .ok (.newarray .byte, 2) := by decide +kernel
theorem qd_g707 : qd_bs cJ2_newBytesFor_77867 6 [176] = true := by decide +kernel
theorem dJ2_newBytesFor_77867_6 : decode cJ2_newBytesFor_77867 6 = .ok (.areturn, 1) := qd_o176 6 0 qd_g707 rfl
theorem qd_g708 : qd_bs cJ2_newBytesLength_0f7a4 0 [26, 156, 0, 11, 187, 0, 17, 89, 183, 0, 19, 191, 26, 18, 20, 161, 0, 40, 187, 0, 21, 89, 187, 0, 23, 89, 183, 0, 25, 18, 26, 182, 0, 28, 26, 182, 0, 32, 18, 35] = true := by decide +kernel
theorem dJ2_newBytesLength_0f7a4_0 : decode cJ2_newBytesLength_0f7a4 0 = .ok (.iload_n 0, 1) := qd_o26 0 0 qd_g708 rfl
theorem dJ2_newBytesLength_0f7a4_1 : decode cJ2_newBytesLength_0f7a4 1 = .ok (.ifCond .ge 11, 3) := qd_o156 0 1 qd_g708 rfl rfl
theorem dJ2_newBytesLength_0f7a4_4 : decode cJ2_newBytesLength_0f7a4 4 = .ok (.new 17, 3) := qd_o187 0 4 qd_g708 rfl rfl
theorem dJ2_newBytesLength_0f7a4_7 : decode cJ2_newBytesLength_0f7a4 7 = .ok (.dup, 1) := qd_o89 0 7 qd_g708 rfl
theorem dJ2_newBytesLength_0f7a4_8 : decode cJ2_newBytesLength_0f7a4 8 = .ok (.invokespecial 19, 3) := qd_o183 0 8 qd_g708 rfl rfl
theorem dJ2_newBytesLength_0f7a4_11 : decode cJ2_newBytesLength_0f7a4 11 = .ok (.athrow, 1) := qd_o191 0 11 qd_g708 rfl
theorem dJ2_newBytesLength_0f7a4_12 : decode cJ2_newBytesLength_0f7a4 12 = .ok (.iload_n 0, 1) := qd_o26 0 12 qd_g708 rfl
theorem dJ2_newBytesLength_0f7a4_13 : decode cJ2_newBytesLength_0f7a4 13 = .ok (.ldc 20, 2) := qd_o18 0 13 qd_g708 rfl rfl
theorem dJ2_newBytesLength_0f7a4_15 : decode cJ2_newBytesLength_0f7a4 15 = .ok (.if_icmp .lt 40, 3) := qd_o161 0 15 qd_g708 rfl rfl
theorem dJ2_newBytesLength_0f7a4_18 : decode cJ2_newBytesLength_0f7a4 18 = .ok (.new 21, 3) := qd_o187 0 18 qd_g708 rfl rfl
theorem dJ2_newBytesLength_0f7a4_21 : decode cJ2_newBytesLength_0f7a4 21 = .ok (.dup, 1) := qd_o89 0 21 qd_g708 rfl
theorem dJ2_newBytesLength_0f7a4_22 : decode cJ2_newBytesLength_0f7a4 22 = .ok (.new 23, 3) := qd_o187 0 22 qd_g708 rfl rfl
theorem dJ2_newBytesLength_0f7a4_25 : decode cJ2_newBytesLength_0f7a4 25 = .ok (.dup, 1) := qd_o89 0 25 qd_g708 rfl
theorem dJ2_newBytesLength_0f7a4_26 : decode cJ2_newBytesLength_0f7a4 26 = .ok (.invokespecial 25, 3) := qd_o183 0 26 qd_g708 rfl rfl
theorem dJ2_newBytesLength_0f7a4_29 : decode cJ2_newBytesLength_0f7a4 29 = .ok (.ldc 26, 2) := qd_o18 0 29 qd_g708 rfl rfl
theorem dJ2_newBytesLength_0f7a4_31 : decode cJ2_newBytesLength_0f7a4 31 = .ok (.invokevirtual 28, 3) := qd_o182 0 31 qd_g708 rfl rfl
theorem dJ2_newBytesLength_0f7a4_34 : decode cJ2_newBytesLength_0f7a4 34 = .ok (.iload_n 0, 1) := qd_o26 0 34 qd_g708 rfl
theorem dJ2_newBytesLength_0f7a4_35 : decode cJ2_newBytesLength_0f7a4 35 = .ok (.invokevirtual 32, 3) := qd_o182 0 35 qd_g708 rfl rfl
theorem dJ2_newBytesLength_0f7a4_38 : decode cJ2_newBytesLength_0f7a4 38 = .ok (.ldc 35, 2) := qd_o18 0 38 qd_g708 rfl rfl
theorem qd_g709 : qd_bs cJ2_newBytesLength_0f7a4 40 [182, 0, 28, 18, 20, 182, 0, 32, 182, 0, 37, 183, 0, 41, 191, 26, 4, 120, 172] = true := by decide +kernel
theorem dJ2_newBytesLength_0f7a4_40 : decode cJ2_newBytesLength_0f7a4 40 = .ok (.invokevirtual 28, 3) := qd_o182 40 0 qd_g709 rfl rfl
theorem dJ2_newBytesLength_0f7a4_43 : decode cJ2_newBytesLength_0f7a4 43 = .ok (.ldc 20, 2) := qd_o18 40 3 qd_g709 rfl rfl
theorem dJ2_newBytesLength_0f7a4_45 : decode cJ2_newBytesLength_0f7a4 45 = .ok (.invokevirtual 32, 3) := qd_o182 40 5 qd_g709 rfl rfl
theorem dJ2_newBytesLength_0f7a4_48 : decode cJ2_newBytesLength_0f7a4 48 = .ok (.invokevirtual 37, 3) := qd_o182 40 8 qd_g709 rfl rfl
theorem dJ2_newBytesLength_0f7a4_51 : decode cJ2_newBytesLength_0f7a4 51 = .ok (.invokespecial 41, 3) := qd_o183 40 11 qd_g709 rfl rfl
theorem dJ2_newBytesLength_0f7a4_54 : decode cJ2_newBytesLength_0f7a4 54 = .ok (.athrow, 1) := qd_o191 40 14 qd_g709 rfl
theorem dJ2_newBytesLength_0f7a4_55 : decode cJ2_newBytesLength_0f7a4 55 = .ok (.iload_n 0, 1) := qd_o26 40 15 qd_g709 rfl
theorem dJ2_newBytesLength_0f7a4_56 : decode cJ2_newBytesLength_0f7a4 56 = .ok (.iconst 1, 1) := qd_o4 40 16 qd_g709 rfl
theorem dJ2_newBytesLength_0f7a4_57 : decode cJ2_newBytesLength_0f7a4 57 = .ok (.ishl, 1) := qd_o120 40 17 qd_g709 rfl
theorem dJ2_newBytesLength_0f7a4_58 : decode cJ2_newBytesLength_0f7a4 58 = .ok (.ireturn, 1) := qd_o172 40 18 qd_g709 rfl
theorem qd_g710 : qd_bs cJ2_putChar_b72d1 0 [178, 0, 44, 154, 0, 25, 27, 155, 0, 11, 27, 42, 184, 0, 48, 161, 0, 13, 187, 0, 52, 89, 18, 54, 183, 0, 56, 191, 27, 4, 120, 60, 42, 27, 132, 1, 1, 28] = true := by decide +kernel
theorem dJ2_putChar_b72d1_0 : decode cJ2_putChar_b72d1 0 = .ok (.getstatic 44, 3) := qd_o178 0 0 qd_g710 rfl rfl
theorem dJ2_putChar_b72d1_3 : decode cJ2_putChar_b72d1 3 = .ok (.ifCond .ne 25, 3) := qd_o154 0 3 qd_g710 rfl rfl
theorem dJ2_putChar_b72d1_6 : decode cJ2_putChar_b72d1 6 = .ok (.iload_n 1, 1) := qd_o27 0 6 qd_g710 rfl
theorem dJ2_putChar_b72d1_7 : decode cJ2_putChar_b72d1 7 = .ok (.ifCond .lt 11, 3) := qd_o155 0 7 qd_g710 rfl rfl
theorem dJ2_putChar_b72d1_10 : decode cJ2_putChar_b72d1 10 = .ok (.iload_n 1, 1) := qd_o27 0 10 qd_g710 rfl
theorem dJ2_putChar_b72d1_11 : decode cJ2_putChar_b72d1 11 = .ok (.aload_n 0, 1) := qd_o42 0 11 qd_g710 rfl
theorem dJ2_putChar_b72d1_12 : decode cJ2_putChar_b72d1 12 = .ok (.invokestatic 48, 3) := qd_o184 0 12 qd_g710 rfl rfl
theorem dJ2_putChar_b72d1_15 : decode cJ2_putChar_b72d1 15 = .ok (.if_icmp .lt 13, 3) := qd_o161 0 15 qd_g710 rfl rfl
theorem dJ2_putChar_b72d1_18 : decode cJ2_putChar_b72d1 18 = .ok (.new 52, 3) := qd_o187 0 18 qd_g710 rfl rfl
theorem dJ2_putChar_b72d1_21 : decode cJ2_putChar_b72d1 21 = .ok (.dup, 1) := qd_o89 0 21 qd_g710 rfl
theorem dJ2_putChar_b72d1_22 : decode cJ2_putChar_b72d1 22 = .ok (.ldc 54, 2) := qd_o18 0 22 qd_g710 rfl rfl
theorem dJ2_putChar_b72d1_24 : decode cJ2_putChar_b72d1 24 = .ok (.invokespecial 56, 3) := qd_o183 0 24 qd_g710 rfl rfl
theorem dJ2_putChar_b72d1_27 : decode cJ2_putChar_b72d1 27 = .ok (.athrow, 1) := qd_o191 0 27 qd_g710 rfl
theorem dJ2_putChar_b72d1_28 : decode cJ2_putChar_b72d1 28 = .ok (.iload_n 1, 1) := qd_o27 0 28 qd_g710 rfl
theorem dJ2_putChar_b72d1_29 : decode cJ2_putChar_b72d1 29 = .ok (.iconst 1, 1) := qd_o4 0 29 qd_g710 rfl
theorem dJ2_putChar_b72d1_30 : decode cJ2_putChar_b72d1 30 = .ok (.ishl, 1) := qd_o120 0 30 qd_g710 rfl
theorem dJ2_putChar_b72d1_31 : decode cJ2_putChar_b72d1 31 = .ok (.istore_n 1, 1) := qd_o60 0 31 qd_g710 rfl
theorem dJ2_putChar_b72d1_32 : decode cJ2_putChar_b72d1 32 = .ok (.aload_n 0, 1) := qd_o42 0 32 qd_g710 rfl
theorem dJ2_putChar_b72d1_33 : decode cJ2_putChar_b72d1 33 = .ok (.iload_n 1, 1) := qd_o27 0 33 qd_g710 rfl
theorem dJ2_putChar_b72d1_34 : decode cJ2_putChar_b72d1 34 = .ok (.iinc 1 1, 3) := qd_o132 0 34 qd_g710 rfl rfl
theorem dJ2_putChar_b72d1_37 : decode cJ2_putChar_b72d1 37 = .ok (.iload_n 2, 1) := qd_o28 0 37 qd_g710 rfl
theorem qd_g711 : qd_bs cJ2_putChar_b72d1 38 [178, 0, 59, 122, 145, 84, 42, 27, 28, 178, 0, 63, 122, 145, 84, 177] = true := by decide +kernel
theorem dJ2_putChar_b72d1_38 : decode cJ2_putChar_b72d1 38 = .ok (.getstatic 59, 3) := qd_o178 38 0 qd_g711 rfl rfl
theorem dJ2_putChar_b72d1_41 : decode cJ2_putChar_b72d1 41 = .ok (.ishr, 1) := qd_o122 38 3 qd_g711 rfl
theorem dJ2_putChar_b72d1_42 : decode cJ2_putChar_b72d1 42 = .ok (.i2b, 1) := qd_o145 38 4 qd_g711 rfl
theorem dJ2_putChar_b72d1_43 : decode cJ2_putChar_b72d1 43 = .ok (.bastore, 1) := qd_o84 38 5 qd_g711 rfl
theorem dJ2_putChar_b72d1_44 : decode cJ2_putChar_b72d1 44 = .ok (.aload_n 0, 1) := qd_o42 38 6 qd_g711 rfl
theorem dJ2_putChar_b72d1_45 : decode cJ2_putChar_b72d1 45 = .ok (.iload_n 1, 1) := qd_o27 38 7 qd_g711 rfl
theorem dJ2_putChar_b72d1_46 : decode cJ2_putChar_b72d1 46 = .ok (.iload_n 2, 1) := qd_o28 38 8 qd_g711 rfl
theorem dJ2_putChar_b72d1_47 : decode cJ2_putChar_b72d1 47 = .ok (.getstatic 63, 3) := qd_o178 38 9 qd_g711 rfl rfl
theorem dJ2_putChar_b72d1_50 : decode cJ2_putChar_b72d1 50 = .ok (.ishr, 1) := qd_o122 38 12 qd_g711 rfl
theorem dJ2_putChar_b72d1_51 : decode cJ2_putChar_b72d1 51 = .ok (.i2b, 1) := qd_o145 38 13 qd_g711 rfl
theorem dJ2_putChar_b72d1_52 : decode cJ2_putChar_b72d1 52 = .ok (.bastore, 1) := qd_o84 38 14 qd_g711 rfl
theorem dJ2_putChar_b72d1_53 : decode cJ2_putChar_b72d1 53 = .ok (.return_, 1) := qd_o177 38 15 qd_g711 rfl
theorem qd_g712 : qd_bs cJ2_getChar_3b067 0 [178, 0, 44, 154, 0, 25, 27, 155, 0, 11, 27, 42, 184, 0, 48, 161, 0, 13, 187, 0, 52, 89, 18, 54, 183, 0, 56, 191, 27, 4, 120, 60, 42, 27, 132, 1, 1, 51] = true := by decide +kernel
theorem dJ2_getChar_3b067_0 : decode cJ2_getChar_3b067 0 = .ok (.getstatic 44, 3) := qd_o178 0 0 qd_g712 rfl rfl
theorem dJ2_getChar_3b067_3 : decode cJ2_getChar_3b067 3 = .ok (.ifCond .ne 25, 3) := qd_o154 0 3 qd_g712 rfl rfl
theorem dJ2_getChar_3b067_6 : decode cJ2_getChar_3b067 6 = .ok (.iload_n 1, 1) := qd_o27 0 6 qd_g712 rfl
theorem dJ2_getChar_3b067_7 : decode cJ2_getChar_3b067 7 = .ok (.ifCond .lt 11, 3) := qd_o155 0 7 qd_g712 rfl rfl
theorem dJ2_getChar_3b067_10 : decode cJ2_getChar_3b067 10 = .ok (.iload_n 1, 1) := qd_o27 0 10 qd_g712 rfl
theorem dJ2_getChar_3b067_11 : decode cJ2_getChar_3b067 11 = .ok (.aload_n 0, 1) := qd_o42 0 11 qd_g712 rfl
theorem dJ2_getChar_3b067_12 : decode cJ2_getChar_3b067 12 = .ok (.invokestatic 48, 3) := qd_o184 0 12 qd_g712 rfl rfl
theorem dJ2_getChar_3b067_15 : decode cJ2_getChar_3b067 15 = .ok (.if_icmp .lt 13, 3) := qd_o161 0 15 qd_g712 rfl rfl
theorem dJ2_getChar_3b067_18 : decode cJ2_getChar_3b067 18 = .ok (.new 52, 3) := qd_o187 0 18 qd_g712 rfl rfl
theorem dJ2_getChar_3b067_21 : decode cJ2_getChar_3b067 21 = .ok (.dup, 1) := qd_o89 0 21 qd_g712 rfl
theorem dJ2_getChar_3b067_22 : decode cJ2_getChar_3b067 22 = .ok (.ldc 54, 2) := qd_o18 0 22 qd_g712 rfl rfl
theorem dJ2_getChar_3b067_24 : decode cJ2_getChar_3b067 24 = .ok (.invokespecial 56, 3) := qd_o183 0 24 qd_g712 rfl rfl
theorem dJ2_getChar_3b067_27 : decode cJ2_getChar_3b067 27 = .ok (.athrow, 1) := qd_o191 0 27 qd_g712 rfl
theorem dJ2_getChar_3b067_28 : decode cJ2_getChar_3b067 28 = .ok (.iload_n 1, 1) := qd_o27 0 28 qd_g712 rfl
theorem dJ2_getChar_3b067_29 : decode cJ2_getChar_3b067 29 = .ok (.iconst 1, 1) := qd_o4 0 29 qd_g712 rfl
theorem dJ2_getChar_3b067_30 : decode cJ2_getChar_3b067 30 = .ok (.ishl, 1) := qd_o120 0 30 qd_g712 rfl
theorem dJ2_getChar_3b067_31 : decode cJ2_getChar_3b067 31 = .ok (.istore_n 1, 1) := qd_o60 0 31 qd_g712 rfl
theorem dJ2_getChar_3b067_32 : decode cJ2_getChar_3b067 32 = .ok (.aload_n 0, 1) := qd_o42 0 32 qd_g712 rfl
theorem dJ2_getChar_3b067_33 : decode cJ2_getChar_3b067 33 = .ok (.iload_n 1, 1) := qd_o27 0 33 qd_g712 rfl
theorem dJ2_getChar_3b067_34 : decode cJ2_getChar_3b067 34 = .ok (.iinc 1 1, 3) := qd_o132 0 34 qd_g712 rfl rfl
theorem dJ2_getChar_3b067_37 : decode cJ2_getChar_3b067 37 = .ok (.baload, 1) := qd_o51 0 37 qd_g712 rfl
theorem qd_g713 : qd_bs cJ2_getChar_3b067 38 [17, 0, 255, 126, 178, 0, 59, 120, 42, 27, 51, 17, 0, 255, 126, 178, 0, 63, 120, 128, 146, 172] = true := by decide +kernel
theorem dJ2_getChar_3b067_38 : decode cJ2_getChar_3b067 38 = .ok (.sipush 255, 3) := qd_o17 38 0 qd_g713 rfl rfl
theorem dJ2_getChar_3b067_41 : decode cJ2_getChar_3b067 41 = .ok (.iand, 1) := qd_o126 38 3 qd_g713 rfl
theorem dJ2_getChar_3b067_42 : decode cJ2_getChar_3b067 42 = .ok (.getstatic 59, 3) := qd_o178 38 4 qd_g713 rfl rfl
theorem dJ2_getChar_3b067_45 : decode cJ2_getChar_3b067 45 = .ok (.ishl, 1) := qd_o120 38 7 qd_g713 rfl
theorem dJ2_getChar_3b067_46 : decode cJ2_getChar_3b067 46 = .ok (.aload_n 0, 1) := qd_o42 38 8 qd_g713 rfl
theorem dJ2_getChar_3b067_47 : decode cJ2_getChar_3b067 47 = .ok (.iload_n 1, 1) := qd_o27 38 9 qd_g713 rfl
theorem dJ2_getChar_3b067_48 : decode cJ2_getChar_3b067 48 = .ok (.baload, 1) := qd_o51 38 10 qd_g713 rfl
theorem dJ2_getChar_3b067_49 : decode cJ2_getChar_3b067 49 = .ok (.sipush 255, 3) := qd_o17 38 11 qd_g713 rfl rfl
theorem dJ2_getChar_3b067_52 : decode cJ2_getChar_3b067 52 = .ok (.iand, 1) := qd_o126 38 14 qd_g713 rfl
theorem dJ2_getChar_3b067_53 : decode cJ2_getChar_3b067 53 = .ok (.getstatic 63, 3) := qd_o178 38 15 qd_g713 rfl rfl
theorem dJ2_getChar_3b067_56 : decode cJ2_getChar_3b067 56 = .ok (.ishl, 1) := qd_o120 38 18 qd_g713 rfl
theorem dJ2_getChar_3b067_57 : decode cJ2_getChar_3b067 57 = .ok (.ior, 1) := qd_o128 38 19 qd_g713 rfl
theorem dJ2_getChar_3b067_58 : decode cJ2_getChar_3b067 58 = .ok (.i2c, 1) := qd_o146 38 20 qd_g713 rfl
theorem dJ2_getChar_3b067_59 : decode cJ2_getChar_3b067 59 = .ok (.ireturn, 1) := qd_o172 38 21 qd_g713 rfl
theorem qd_g714 : qd_bs cJ2_length_9d52b 0 [42, 190, 4, 122, 172] = true := by decide +kernel
theorem dJ2_length_9d52b_0 : decode cJ2_length_9d52b 0 = .ok (.aload_n 0, 1) := qd_o42 0 0 qd_g714 rfl
theorem dJ2_length_9d52b_1 : decode cJ2_length_9d52b 1 = .ok (.arraylength, 1) := qd_o190 0 1 qd_g714 rfl
theorem dJ2_length_9d52b_2 : decode cJ2_length_9d52b 2 = .ok (.iconst 1, 1) := qd_o4 0 2 qd_g714 rfl
theorem dJ2_length_9d52b_3 : decode cJ2_length_9d52b 3 = .ok (.ishr, 1) := qd_o122 0 3 qd_g714 rfl
theorem dJ2_length_9d52b_4 : decode cJ2_length_9d52b 4 = .ok (.ireturn, 1) := qd_o172 0 4 qd_g714 rfl
theorem qd_g715 : qd_bs cJ2_coderFromArrayLen_85cad 0 [27, 42, 190, 100, 16, 31, 124, 145, 172] = true := by decide +kernel
theorem dJ2_coderFromArrayLen_85cad_0 : decode cJ2_coderFromArrayLen_85cad 0 = .ok (.iload_n 1, 1) := qd_o27 0 0 qd_g715 rfl
theorem dJ2_coderFromArrayLen_85cad_1 : decode cJ2_coderFromArrayLen_85cad 1 = .ok (.aload_n 0, 1) := qd_o42 0 1 qd_g715 rfl
theorem dJ2_coderFromArrayLen_85cad_2 : decode cJ2_coderFromArrayLen_85cad 2 = .ok (.arraylength, 1) := qd_o190 0 2 qd_g715 rfl
theorem dJ2_coderFromArrayLen_85cad_3 : decode cJ2_coderFromArrayLen_85cad 3 = .ok (.isub, 1) := qd_o100 0 3 qd_g715 rfl
theorem dJ2_coderFromArrayLen_85cad_4 : decode cJ2_coderFromArrayLen_85cad 4 = .ok (.bipush 31, 2) := qd_o16 0 4 qd_g715 rfl rfl
theorem dJ2_coderFromArrayLen_85cad_6 : decode cJ2_coderFromArrayLen_85cad 6 = .ok (.iushr, 1) := qd_o124 0 6 qd_g715 rfl
theorem dJ2_coderFromArrayLen_85cad_7 : decode cJ2_coderFromArrayLen_85cad 7 = .ok (.i2b, 1) := qd_o145 0 7 qd_g715 rfl
theorem dJ2_coderFromArrayLen_85cad_8 : decode cJ2_coderFromArrayLen_85cad 8 = .ok (.ireturn, 1) := qd_o172 0 8 qd_g715 rfl
theorem qd_g716 : qd_bs cJ2_compress_39247 0 [28] = true := by decide +kernel
theorem dJ2_compress_39247_0 : decode cJ2_compress_39247 0 = .ok (.iload_n 2, 1) := qd_o28 0 0 qd_g716 rfl
theorem dJ2_compress_39247_1 : decode cJ2_compress_39247 1 = .ok (.newarray .byte, 2) := by decide +kernel
theorem qd_g717 : qd_bs cJ2_compress_39247 3 [78, 42, 27, 45, 3, 28, 184, 0, 123, 54, 4, 21, 4, 28, 159, 0, 47, 42, 27, 4, 120, 27, 28, 96, 184, 0, 11, 184, 0, 126, 58, 5, 25, 5, 21, 4, 184, 0, 71] = true := by decide +kernel
theorem dJ2_compress_39247_3 : decode cJ2_compress_39247 3 = .ok (.astore_n 3, 1) := qd_o78 3 0 qd_g717 rfl
theorem dJ2_compress_39247_4 : decode cJ2_compress_39247 4 = .ok (.aload_n 0, 1) := qd_o42 3 1 qd_g717 rfl
theorem dJ2_compress_39247_5 : decode cJ2_compress_39247 5 = .ok (.iload_n 1, 1) := qd_o27 3 2 qd_g717 rfl
theorem dJ2_compress_39247_6 : decode cJ2_compress_39247 6 = .ok (.aload_n 3, 1) := qd_o45 3 3 qd_g717 rfl
theorem dJ2_compress_39247_7 : decode cJ2_compress_39247 7 = .ok (.iconst 0, 1) := qd_o3 3 4 qd_g717 rfl
theorem dJ2_compress_39247_8 : decode cJ2_compress_39247 8 = .ok (.iload_n 2, 1) := qd_o28 3 5 qd_g717 rfl
theorem dJ2_compress_39247_9 : decode cJ2_compress_39247 9 = .ok (.invokestatic 123, 3) := qd_o184 3 6 qd_g717 rfl rfl
theorem dJ2_compress_39247_12 : decode cJ2_compress_39247 12 = .ok (.istore 4, 2) := qd_o54 3 9 qd_g717 rfl rfl
theorem dJ2_compress_39247_14 : decode cJ2_compress_39247 14 = .ok (.iload 4, 2) := qd_o21 3 11 qd_g717 rfl rfl
theorem dJ2_compress_39247_16 : decode cJ2_compress_39247 16 = .ok (.iload_n 2, 1) := qd_o28 3 13 qd_g717 rfl
theorem dJ2_compress_39247_17 : decode cJ2_compress_39247 17 = .ok (.if_icmp .eq 47, 3) := qd_o159 3 14 qd_g717 rfl rfl
theorem dJ2_compress_39247_20 : decode cJ2_compress_39247 20 = .ok (.aload_n 0, 1) := qd_o42 3 17 qd_g717 rfl
theorem dJ2_compress_39247_21 : decode cJ2_compress_39247 21 = .ok (.iload_n 1, 1) := qd_o27 3 18 qd_g717 rfl
theorem dJ2_compress_39247_22 : decode cJ2_compress_39247 22 = .ok (.iconst 1, 1) := qd_o4 3 19 qd_g717 rfl
theorem dJ2_compress_39247_23 : decode cJ2_compress_39247 23 = .ok (.ishl, 1) := qd_o120 3 20 qd_g717 rfl
theorem dJ2_compress_39247_24 : decode cJ2_compress_39247 24 = .ok (.iload_n 1, 1) := qd_o27 3 21 qd_g717 rfl
theorem dJ2_compress_39247_25 : decode cJ2_compress_39247 25 = .ok (.iload_n 2, 1) := qd_o28 3 22 qd_g717 rfl
theorem dJ2_compress_39247_26 : decode cJ2_compress_39247 26 = .ok (.iadd, 1) := qd_o96 3 23 qd_g717 rfl
theorem dJ2_compress_39247_27 : decode cJ2_compress_39247 27 = .ok (.invokestatic 11, 3) := qd_o184 3 24 qd_g717 rfl rfl
theorem dJ2_compress_39247_30 : decode cJ2_compress_39247 30 = .ok (.invokestatic 126, 3) := qd_o184 3 27 qd_g717 rfl rfl
theorem dJ2_compress_39247_33 : decode cJ2_compress_39247 33 = .ok (.astore 5, 2) := qd_o58 3 30 qd_g717 rfl rfl
theorem dJ2_compress_39247_35 : decode cJ2_compress_39247 35 = .ok (.aload 5, 2) := qd_o25 3 32 qd_g717 rfl rfl
theorem dJ2_compress_39247_37 : decode cJ2_compress_39247 37 = .ok (.iload 4, 2) := qd_o21 3 34 qd_g717 rfl rfl
theorem dJ2_compress_39247_39 : decode cJ2_compress_39247 39 = .ok (.invokestatic 71, 3) := qd_o184 3 36 qd_g717 rfl rfl
theorem qd_g718 : qd_bs cJ2_compress_39247 42 [17, 0, 255, 163, 0, 16, 25, 5, 3, 45, 3, 28, 184, 0, 123, 28, 159, 0, 6, 25, 5, 176, 45, 176] = true := by decide +kernel
theorem dJ2_compress_39247_42 : decode cJ2_compress_39247 42 = .ok (.sipush 255, 3) := qd_o17 42 0 qd_g718 rfl rfl
theorem dJ2_compress_39247_45 : decode cJ2_compress_39247 45 = .ok (.if_icmp .gt 16, 3) := qd_o163 42 3 qd_g718 rfl rfl
theorem dJ2_compress_39247_48 : decode cJ2_compress_39247 48 = .ok (.aload 5, 2) := qd_o25 42 6 qd_g718 rfl rfl
theorem dJ2_compress_39247_50 : decode cJ2_compress_39247 50 = .ok (.iconst 0, 1) := qd_o3 42 8 qd_g718 rfl
theorem dJ2_compress_39247_51 : decode cJ2_compress_39247 51 = .ok (.aload_n 3, 1) := qd_o45 42 9 qd_g718 rfl
theorem dJ2_compress_39247_52 : decode cJ2_compress_39247 52 = .ok (.iconst 0, 1) := qd_o3 42 10 qd_g718 rfl
theorem dJ2_compress_39247_53 : decode cJ2_compress_39247 53 = .ok (.iload_n 2, 1) := qd_o28 42 11 qd_g718 rfl
theorem dJ2_compress_39247_54 : decode cJ2_compress_39247 54 = .ok (.invokestatic 123, 3) := qd_o184 42 12 qd_g718 rfl rfl
theorem dJ2_compress_39247_57 : decode cJ2_compress_39247 57 = .ok (.iload_n 2, 1) := qd_o28 42 15 qd_g718 rfl
theorem dJ2_compress_39247_58 : decode cJ2_compress_39247 58 = .ok (.if_icmp .eq 6, 3) := qd_o159 42 16 qd_g718 rfl rfl
theorem dJ2_compress_39247_61 : decode cJ2_compress_39247 61 = .ok (.aload 5, 2) := qd_o25 42 19 qd_g718 rfl rfl
theorem dJ2_compress_39247_63 : decode cJ2_compress_39247 63 = .ok (.areturn, 1) := qd_o176 42 21 qd_g718 rfl
theorem dJ2_compress_39247_64 : decode cJ2_compress_39247 64 = .ok (.aload_n 3, 1) := qd_o45 42 22 qd_g718 rfl
theorem dJ2_compress_39247_65 : decode cJ2_compress_39247 65 = .ok (.areturn, 1) := qd_o176 42 23 qd_g718 rfl
theorem qd_g719 : qd_bs cJ2_compress_5af95 0 [27, 21, 4, 42, 184, 0, 173, 3, 54, 5, 21, 5, 21, 4, 162, 0, 39, 42, 27, 184, 0, 71, 54, 6, 21, 6, 17, 0, 255, 164, 0, 6, 21, 5, 172, 44, 29, 21, 6, 145] = true := by decide +kernel
theorem dJ2_compress_5af95_0 : decode cJ2_compress_5af95 0 = .ok (.iload_n 1, 1) := qd_o27 0 0 qd_g719 rfl
theorem dJ2_compress_5af95_1 : decode cJ2_compress_5af95 1 = .ok (.iload 4, 2) := qd_o21 0 1 qd_g719 rfl rfl
theorem dJ2_compress_5af95_3 : decode cJ2_compress_5af95 3 = .ok (.aload_n 0, 1) := qd_o42 0 3 qd_g719 rfl
theorem dJ2_compress_5af95_4 : decode cJ2_compress_5af95 4 = .ok (.invokestatic 173, 3) := qd_o184 0 4 qd_g719 rfl rfl
theorem dJ2_compress_5af95_7 : decode cJ2_compress_5af95 7 = .ok (.iconst 0, 1) := qd_o3 0 7 qd_g719 rfl
theorem dJ2_compress_5af95_8 : decode cJ2_compress_5af95 8 = .ok (.istore 5, 2) := qd_o54 0 8 qd_g719 rfl rfl
theorem dJ2_compress_5af95_10 : decode cJ2_compress_5af95 10 = .ok (.iload 5, 2) := qd_o21 0 10 qd_g719 rfl rfl
theorem dJ2_compress_5af95_12 : decode cJ2_compress_5af95 12 = .ok (.iload 4, 2) := qd_o21 0 12 qd_g719 rfl rfl
theorem dJ2_compress_5af95_14 : decode cJ2_compress_5af95 14 = .ok (.if_icmp .ge 39, 3) := qd_o162 0 14 qd_g719 rfl rfl
theorem dJ2_compress_5af95_17 : decode cJ2_compress_5af95 17 = .ok (.aload_n 0, 1) := qd_o42 0 17 qd_g719 rfl
theorem dJ2_compress_5af95_18 : decode cJ2_compress_5af95 18 = .ok (.iload_n 1, 1) := qd_o27 0 18 qd_g719 rfl
theorem dJ2_compress_5af95_19 : decode cJ2_compress_5af95 19 = .ok (.invokestatic 71, 3) := qd_o184 0 19 qd_g719 rfl rfl
theorem dJ2_compress_5af95_22 : decode cJ2_compress_5af95 22 = .ok (.istore 6, 2) := qd_o54 0 22 qd_g719 rfl rfl
theorem dJ2_compress_5af95_24 : decode cJ2_compress_5af95 24 = .ok (.iload 6, 2) := qd_o21 0 24 qd_g719 rfl rfl
theorem dJ2_compress_5af95_26 : decode cJ2_compress_5af95 26 = .ok (.sipush 255, 3) := qd_o17 0 26 qd_g719 rfl rfl
theorem dJ2_compress_5af95_29 : decode cJ2_compress_5af95 29 = .ok (.if_icmp .le 6, 3) := qd_o164 0 29 qd_g719 rfl rfl
theorem dJ2_compress_5af95_32 : decode cJ2_compress_5af95 32 = .ok (.iload 5, 2) := qd_o21 0 32 qd_g719 rfl rfl
theorem dJ2_compress_5af95_34 : decode cJ2_compress_5af95 34 = .ok (.ireturn, 1) := qd_o172 0 34 qd_g719 rfl
theorem dJ2_compress_5af95_35 : decode cJ2_compress_5af95 35 = .ok (.aload_n 2, 1) := qd_o44 0 35 qd_g719 rfl
theorem dJ2_compress_5af95_36 : decode cJ2_compress_5af95 36 = .ok (.iload_n 3, 1) := qd_o29 0 36 qd_g719 rfl
theorem dJ2_compress_5af95_37 : decode cJ2_compress_5af95 37 = .ok (.iload 6, 2) := qd_o21 0 37 qd_g719 rfl rfl
theorem dJ2_compress_5af95_39 : decode cJ2_compress_5af95 39 = .ok (.i2b, 1) := qd_o145 0 39 qd_g719 rfl
theorem qd_g720 : qd_bs cJ2_compress_5af95 40 [84, 132, 1, 1, 132, 3, 1, 132, 5, 1, 167, 255, 216, 21, 4, 172] = true := by decide +kernel
theorem dJ2_compress_5af95_40 : decode cJ2_compress_5af95 40 = .ok (.bastore, 1) := qd_o84 40 0 qd_g720 rfl
theorem dJ2_compress_5af95_41 : decode cJ2_compress_5af95 41 = .ok (.iinc 1 1, 3) := qd_o132 40 1 qd_g720 rfl rfl
theorem dJ2_compress_5af95_44 : decode cJ2_compress_5af95 44 = .ok (.iinc 3 1, 3) := qd_o132 40 4 qd_g720 rfl rfl
theorem dJ2_compress_5af95_47 : decode cJ2_compress_5af95 47 = .ok (.iinc 5 1, 3) := qd_o132 40 7 qd_g720 rfl rfl
theorem dJ2_compress_5af95_50 : decode cJ2_compress_5af95 50 = .ok (.goto (-40), 3) := qd_o167 40 10 qd_g720 rfl rfl
theorem dJ2_compress_5af95_53 : decode cJ2_compress_5af95 53 = .ok (.iload 4, 2) := qd_o21 40 13 qd_g720 rfl rfl
theorem dJ2_compress_5af95_55 : decode cJ2_compress_5af95 55 = .ok (.ireturn, 1) := qd_o172 40 15 qd_g720 rfl
theorem qd_g721 : qd_bs cJ2_fillNull_b72d1 0 [42, 27, 4, 120, 28, 4, 120, 3, 184, 1, 124, 177] = true := by decide +kernel
theorem dJ2_fillNull_b72d1_0 : decode cJ2_fillNull_b72d1 0 = .ok (.aload_n 0, 1) := qd_o42 0 0 qd_g721 rfl
theorem dJ2_fillNull_b72d1_1 : decode cJ2_fillNull_b72d1 1 = .ok (.iload_n 1, 1) := qd_o27 0 1 qd_g721 rfl
theorem dJ2_fillNull_b72d1_2 : decode cJ2_fillNull_b72d1 2 = .ok (.iconst 1, 1) := qd_o4 0 2 qd_g721 rfl
theorem dJ2_fillNull_b72d1_3 : decode cJ2_fillNull_b72d1 3 = .ok (.ishl, 1) := qd_o120 0 3 qd_g721 rfl
theorem dJ2_fillNull_b72d1_4 : decode cJ2_fillNull_b72d1 4 = .ok (.iload_n 2, 1) := qd_o28 0 4 qd_g721 rfl
theorem dJ2_fillNull_b72d1_5 : decode cJ2_fillNull_b72d1 5 = .ok (.iconst 1, 1) := qd_o4 0 5 qd_g721 rfl
theorem dJ2_fillNull_b72d1_6 : decode cJ2_fillNull_b72d1 6 = .ok (.ishl, 1) := qd_o120 0 6 qd_g721 rfl
theorem dJ2_fillNull_b72d1_7 : decode cJ2_fillNull_b72d1 7 = .ok (.iconst 0, 1) := qd_o3 0 7 qd_g721 rfl
theorem dJ2_fillNull_b72d1_8 : decode cJ2_fillNull_b72d1 8 = .ok (.invokestatic 380, 3) := qd_o184 0 8 qd_g721 rfl rfl
theorem dJ2_fillNull_b72d1_11 : decode cJ2_fillNull_b72d1 11 = .ok (.return_, 1) := qd_o177 0 11 qd_g721 rfl
theorem qd_g722 : qd_bs cJ2_putCharSB_b72d1 0 [27, 42, 184, 0, 67, 42, 27, 28, 184, 0, 111, 177] = true := by decide +kernel
theorem dJ2_putCharSB_b72d1_0 : decode cJ2_putCharSB_b72d1 0 = .ok (.iload_n 1, 1) := qd_o27 0 0 qd_g722 rfl
theorem dJ2_putCharSB_b72d1_1 : decode cJ2_putCharSB_b72d1 1 = .ok (.aload_n 0, 1) := qd_o42 0 1 qd_g722 rfl
theorem dJ2_putCharSB_b72d1_2 : decode cJ2_putCharSB_b72d1 2 = .ok (.invokestatic 67, 3) := qd_o184 0 2 qd_g722 rfl rfl
theorem dJ2_putCharSB_b72d1_5 : decode cJ2_putCharSB_b72d1 5 = .ok (.aload_n 0, 1) := qd_o42 0 5 qd_g722 rfl
theorem dJ2_putCharSB_b72d1_6 : decode cJ2_putCharSB_b72d1 6 = .ok (.iload_n 1, 1) := qd_o27 0 6 qd_g722 rfl
theorem dJ2_putCharSB_b72d1_7 : decode cJ2_putCharSB_b72d1 7 = .ok (.iload_n 2, 1) := qd_o28 0 7 qd_g722 rfl
theorem dJ2_putCharSB_b72d1_8 : decode cJ2_putCharSB_b72d1 8 = .ok (.invokestatic 111, 3) := qd_o184 0 8 qd_g722 rfl rfl
theorem dJ2_putCharSB_b72d1_11 : decode cJ2_putCharSB_b72d1 11 = .ok (.return_, 1) := qd_o177 0 11 qd_g722 rfl
theorem qd_g723 : qd_bs cJ2_getChars_46870 0 [27, 28, 45, 184, 0, 96, 26, 28, 45, 184, 1, 137, 54, 4, 178, 0, 44, 154, 0, 17, 27, 21, 4, 159, 0, 11, 187, 0, 52, 89, 183, 0, 66, 191, 21, 4, 172] = true := by decide +kernel
theorem dJ2_getChars_46870_0 : decode cJ2_getChars_46870 0 = .ok (.iload_n 1, 1) := qd_o27 0 0 qd_g723 rfl
theorem dJ2_getChars_46870_1 : decode cJ2_getChars_46870 1 = .ok (.iload_n 2, 1) := qd_o28 0 1 qd_g723 rfl
theorem dJ2_getChars_46870_2 : decode cJ2_getChars_46870 2 = .ok (.aload_n 3, 1) := qd_o45 0 2 qd_g723 rfl
theorem dJ2_getChars_46870_3 : decode cJ2_getChars_46870 3 = .ok (.invokestatic 96, 3) := qd_o184 0 3 qd_g723 rfl rfl
theorem dJ2_getChars_46870_6 : decode cJ2_getChars_46870 6 = .ok (.iload_n 0, 1) := qd_o26 0 6 qd_g723 rfl
theorem dJ2_getChars_46870_7 : decode cJ2_getChars_46870 7 = .ok (.iload_n 2, 1) := qd_o28 0 7 qd_g723 rfl
theorem dJ2_getChars_46870_8 : decode cJ2_getChars_46870 8 = .ok (.aload_n 3, 1) := qd_o45 0 8 qd_g723 rfl
theorem dJ2_getChars_46870_9 : decode cJ2_getChars_46870 9 = .ok (.invokestatic 393, 3) := qd_o184 0 9 qd_g723 rfl rfl
theorem dJ2_getChars_46870_12 : decode cJ2_getChars_46870 12 = .ok (.istore 4, 2) := qd_o54 0 12 qd_g723 rfl rfl
theorem dJ2_getChars_46870_14 : decode cJ2_getChars_46870 14 = .ok (.getstatic 44, 3) := qd_o178 0 14 qd_g723 rfl rfl
theorem dJ2_getChars_46870_17 : decode cJ2_getChars_46870 17 = .ok (.ifCond .ne 17, 3) := qd_o154 0 17 qd_g723 rfl rfl
theorem dJ2_getChars_46870_20 : decode cJ2_getChars_46870 20 = .ok (.iload_n 1, 1) := qd_o27 0 20 qd_g723 rfl
theorem dJ2_getChars_46870_21 : decode cJ2_getChars_46870 21 = .ok (.iload 4, 2) := qd_o21 0 21 qd_g723 rfl rfl
theorem dJ2_getChars_46870_23 : decode cJ2_getChars_46870 23 = .ok (.if_icmp .eq 11, 3) := qd_o159 0 23 qd_g723 rfl rfl
theorem dJ2_getChars_46870_26 : decode cJ2_getChars_46870 26 = .ok (.new 52, 3) := qd_o187 0 26 qd_g723 rfl rfl
theorem dJ2_getChars_46870_29 : decode cJ2_getChars_46870 29 = .ok (.dup, 1) := qd_o89 0 29 qd_g723 rfl
theorem dJ2_getChars_46870_30 : decode cJ2_getChars_46870 30 = .ok (.invokespecial 66, 3) := qd_o183 0 30 qd_g723 rfl rfl
theorem dJ2_getChars_46870_33 : decode cJ2_getChars_46870 33 = .ok (.athrow, 1) := qd_o191 0 33 qd_g723 rfl
theorem dJ2_getChars_46870_34 : decode cJ2_getChars_46870 34 = .ok (.iload 4, 2) := qd_o21 0 34 qd_g723 rfl rfl
theorem dJ2_getChars_46870_36 : decode cJ2_getChars_46870 36 = .ok (.ireturn, 1) := qd_o172 0 36 qd_g723 rfl
theorem qd_g724 : qd_bs cJ2_putCharsAt_cd4e5 0 [27, 7, 96, 54, 6, 27, 21, 6, 42, 184, 0, 96, 42, 27, 132, 1, 1, 28, 184, 0, 111, 42, 27, 132, 1, 1, 29, 184, 0, 111, 42, 27, 132, 1, 1, 21, 4, 184, 0, 111] = true := by decide +kernel
theorem dJ2_putCharsAt_cd4e5_0 : decode cJ2_putCharsAt_cd4e5 0 = .ok (.iload_n 1, 1) := qd_o27 0 0 qd_g724 rfl
theorem dJ2_putCharsAt_cd4e5_1 : decode cJ2_putCharsAt_cd4e5 1 = .ok (.iconst 4, 1) := qd_o7 0 1 qd_g724 rfl
theorem dJ2_putCharsAt_cd4e5_2 : decode cJ2_putCharsAt_cd4e5 2 = .ok (.iadd, 1) := qd_o96 0 2 qd_g724 rfl
theorem dJ2_putCharsAt_cd4e5_3 : decode cJ2_putCharsAt_cd4e5 3 = .ok (.istore 6, 2) := qd_o54 0 3 qd_g724 rfl rfl
theorem dJ2_putCharsAt_cd4e5_5 : decode cJ2_putCharsAt_cd4e5 5 = .ok (.iload_n 1, 1) := qd_o27 0 5 qd_g724 rfl
theorem dJ2_putCharsAt_cd4e5_6 : decode cJ2_putCharsAt_cd4e5 6 = .ok (.iload 6, 2) := qd_o21 0 6 qd_g724 rfl rfl
theorem dJ2_putCharsAt_cd4e5_8 : decode cJ2_putCharsAt_cd4e5 8 = .ok (.aload_n 0, 1) := qd_o42 0 8 qd_g724 rfl
theorem dJ2_putCharsAt_cd4e5_9 : decode cJ2_putCharsAt_cd4e5 9 = .ok (.invokestatic 96, 3) := qd_o184 0 9 qd_g724 rfl rfl
theorem dJ2_putCharsAt_cd4e5_12 : decode cJ2_putCharsAt_cd4e5 12 = .ok (.aload_n 0, 1) := qd_o42 0 12 qd_g724 rfl
theorem dJ2_putCharsAt_cd4e5_13 : decode cJ2_putCharsAt_cd4e5 13 = .ok (.iload_n 1, 1) := qd_o27 0 13 qd_g724 rfl
theorem dJ2_putCharsAt_cd4e5_14 : decode cJ2_putCharsAt_cd4e5 14 = .ok (.iinc 1 1, 3) := qd_o132 0 14 qd_g724 rfl rfl
theorem dJ2_putCharsAt_cd4e5_17 : decode cJ2_putCharsAt_cd4e5 17 = .ok (.iload_n 2, 1) := qd_o28 0 17 qd_g724 rfl
theorem dJ2_putCharsAt_cd4e5_18 : decode cJ2_putCharsAt_cd4e5 18 = .ok (.invokestatic 111, 3) := qd_o184 0 18 qd_g724 rfl rfl
theorem dJ2_putCharsAt_cd4e5_21 : decode cJ2_putCharsAt_cd4e5 21 = .ok (.aload_n 0, 1) := qd_o42 0 21 qd_g724 rfl
theorem dJ2_putCharsAt_cd4e5_22 : decode cJ2_putCharsAt_cd4e5 22 = .ok (.iload_n 1, 1) := qd_o27 0 22 qd_g724 rfl
theorem dJ2_putCharsAt_cd4e5_23 : decode cJ2_putCharsAt_cd4e5 23 = .ok (.iinc 1 1, 3) := qd_o132 0 23 qd_g724 rfl rfl
theorem dJ2_putCharsAt_cd4e5_26 : decode cJ2_putCharsAt_cd4e5 26 = .ok (.iload_n 3, 1) := qd_o29 0 26 qd_g724 rfl
theorem dJ2_putCharsAt_cd4e5_27 : decode cJ2_putCharsAt_cd4e5 27 = .ok (.invokestatic 111, 3) := qd_o184 0 27 qd_g724 rfl rfl
theorem dJ2_putCharsAt_cd4e5_30 : decode cJ2_putCharsAt_cd4e5 30 = .ok (.aload_n 0, 1) := qd_o42 0 30 qd_g724 rfl
theorem dJ2_putCharsAt_cd4e5_31 : decode cJ2_putCharsAt_cd4e5 31 = .ok (.iload_n 1, 1) := qd_o27 0 31 qd_g724 rfl
theorem dJ2_putCharsAt_cd4e5_32 : decode cJ2_putCharsAt_cd4e5 32 = .ok (.iinc 1 1, 3) := qd_o132 0 32 qd_g724 rfl rfl
theorem dJ2_putCharsAt_cd4e5_35 : decode cJ2_putCharsAt_cd4e5 35 = .ok (.iload 4, 2) := qd_o21 0 35 qd_g724 rfl rfl
theorem dJ2_putCharsAt_cd4e5_37 : decode cJ2_putCharsAt_cd4e5 37 = .ok (.invokestatic 111, 3) := qd_o184 0 37 qd_g724 rfl rfl
theorem qd_g725 : qd_bs cJ2_putCharsAt_cd4e5 40 [42, 27, 132, 1, 1, 21, 5, 184, 0, 111, 178, 0, 44, 154, 0, 17, 27, 21, 6, 159, 0, 11, 187, 0, 52, 89, 183, 0, 66, 191, 21, 6, 172] = true := by decide +kernel
theorem dJ2_putCharsAt_cd4e5_40 : decode cJ2_putCharsAt_cd4e5 40 = .ok (.aload_n 0, 1) := qd_o42 40 0 qd_g725 rfl
theorem dJ2_putCharsAt_cd4e5_41 : decode cJ2_putCharsAt_cd4e5 41 = .ok (.iload_n 1, 1) := qd_o27 40 1 qd_g725 rfl
theorem dJ2_putCharsAt_cd4e5_42 : decode cJ2_putCharsAt_cd4e5 42 = .ok (.iinc 1 1, 3) := qd_o132 40 2 qd_g725 rfl rfl
theorem dJ2_putCharsAt_cd4e5_45 : decode cJ2_putCharsAt_cd4e5 45 = .ok (.iload 5, 2) := qd_o21 40 5 qd_g725 rfl rfl
theorem dJ2_putCharsAt_cd4e5_47 : decode cJ2_putCharsAt_cd4e5 47 = .ok (.invokestatic 111, 3) := qd_o184 40 7 qd_g725 rfl rfl
theorem dJ2_putCharsAt_cd4e5_50 : decode cJ2_putCharsAt_cd4e5 50 = .ok (.getstatic 44, 3) := qd_o178 40 10 qd_g725 rfl rfl
theorem dJ2_putCharsAt_cd4e5_53 : decode cJ2_putCharsAt_cd4e5 53 = .ok (.ifCond .ne 17, 3) := qd_o154 40 13 qd_g725 rfl rfl
theorem dJ2_putCharsAt_cd4e5_56 : decode cJ2_putCharsAt_cd4e5 56 = .ok (.iload_n 1, 1) := qd_o27 40 16 qd_g725 rfl
theorem dJ2_putCharsAt_cd4e5_57 : decode cJ2_putCharsAt_cd4e5 57 = .ok (.iload 6, 2) := qd_o21 40 17 qd_g725 rfl rfl
theorem dJ2_putCharsAt_cd4e5_59 : decode cJ2_putCharsAt_cd4e5 59 = .ok (.if_icmp .eq 11, 3) := qd_o159 40 19 qd_g725 rfl rfl
theorem dJ2_putCharsAt_cd4e5_62 : decode cJ2_putCharsAt_cd4e5 62 = .ok (.new 52, 3) := qd_o187 40 22 qd_g725 rfl rfl
theorem dJ2_putCharsAt_cd4e5_65 : decode cJ2_putCharsAt_cd4e5 65 = .ok (.dup, 1) := qd_o89 40 25 qd_g725 rfl
theorem dJ2_putCharsAt_cd4e5_66 : decode cJ2_putCharsAt_cd4e5 66 = .ok (.invokespecial 66, 3) := qd_o183 40 26 qd_g725 rfl rfl
theorem dJ2_putCharsAt_cd4e5_69 : decode cJ2_putCharsAt_cd4e5 69 = .ok (.athrow, 1) := qd_o191 40 29 qd_g725 rfl
theorem dJ2_putCharsAt_cd4e5_70 : decode cJ2_putCharsAt_cd4e5 70 = .ok (.iload 6, 2) := qd_o21 40 30 qd_g725 rfl rfl
theorem dJ2_putCharsAt_cd4e5_72 : decode cJ2_putCharsAt_cd4e5 72 = .ok (.ireturn, 1) := qd_o172 40 32 qd_g725 rfl
theorem qd_g726 : qd_bs cJ2_charAt_3b067 0 [27, 42, 184, 0, 67, 42, 27, 184, 0, 71, 172] = true := by decide +kernel
theorem dJ2_charAt_3b067_0 : decode cJ2_charAt_3b067 0 = .ok (.iload_n 1, 1) := qd_o27 0 0 qd_g726 rfl
theorem dJ2_charAt_3b067_1 : decode cJ2_charAt_3b067 1 = .ok (.aload_n 0, 1) := qd_o42 0 1 qd_g726 rfl
theorem dJ2_charAt_3b067_2 : decode cJ2_charAt_3b067 2 = .ok (.invokestatic 67, 3) := qd_o184 0 2 qd_g726 rfl rfl
theorem dJ2_charAt_3b067_5 : decode cJ2_charAt_3b067 5 = .ok (.aload_n 0, 1) := qd_o42 0 5 qd_g726 rfl
theorem dJ2_charAt_3b067_6 : decode cJ2_charAt_3b067 6 = .ok (.iload_n 1, 1) := qd_o27 0 6 qd_g726 rfl
theorem dJ2_charAt_3b067_7 : decode cJ2_charAt_3b067 7 = .ok (.invokestatic 71, 3) := qd_o184 0 7 qd_g726 rfl rfl
theorem dJ2_charAt_3b067_10 : decode cJ2_charAt_3b067 10 = .ok (.ireturn, 1) := qd_o172 0 10 qd_g726 rfl
theorem qd_g727 : qd_bs cJ2_inflate_0e8fd 0 [29, 21, 4, 44, 184, 0, 173, 3, 54, 5, 21, 5, 21, 4, 162, 0, 27, 44, 29, 132, 3, 1, 42, 27, 132, 1, 1, 51, 17, 0, 255, 126, 184, 0, 111, 132, 5, 1] = true := by decide +kernel
theorem dJ2_inflate_0e8fd_0 : decode cJ2_inflate_0e8fd 0 = .ok (.iload_n 3, 1) := qd_o29 0 0 qd_g727 rfl
theorem dJ2_inflate_0e8fd_1 : decode cJ2_inflate_0e8fd 1 = .ok (.iload 4, 2) := qd_o21 0 1 qd_g727 rfl rfl
theorem dJ2_inflate_0e8fd_3 : decode cJ2_inflate_0e8fd 3 = .ok (.aload_n 2, 1) := qd_o44 0 3 qd_g727 rfl
theorem dJ2_inflate_0e8fd_4 : decode cJ2_inflate_0e8fd 4 = .ok (.invokestatic 173, 3) := qd_o184 0 4 qd_g727 rfl rfl
theorem dJ2_inflate_0e8fd_7 : decode cJ2_inflate_0e8fd 7 = .ok (.iconst 0, 1) := qd_o3 0 7 qd_g727 rfl
theorem dJ2_inflate_0e8fd_8 : decode cJ2_inflate_0e8fd 8 = .ok (.istore 5, 2) := qd_o54 0 8 qd_g727 rfl rfl
theorem dJ2_inflate_0e8fd_10 : decode cJ2_inflate_0e8fd 10 = .ok (.iload 5, 2) := qd_o21 0 10 qd_g727 rfl rfl
theorem dJ2_inflate_0e8fd_12 : decode cJ2_inflate_0e8fd 12 = .ok (.iload 4, 2) := qd_o21 0 12 qd_g727 rfl rfl
theorem dJ2_inflate_0e8fd_14 : decode cJ2_inflate_0e8fd 14 = .ok (.if_icmp .ge 27, 3) := qd_o162 0 14 qd_g727 rfl rfl
theorem dJ2_inflate_0e8fd_17 : decode cJ2_inflate_0e8fd 17 = .ok (.aload_n 2, 1) := qd_o44 0 17 qd_g727 rfl
theorem dJ2_inflate_0e8fd_18 : decode cJ2_inflate_0e8fd 18 = .ok (.iload_n 3, 1) := qd_o29 0 18 qd_g727 rfl
theorem dJ2_inflate_0e8fd_19 : decode cJ2_inflate_0e8fd 19 = .ok (.iinc 3 1, 3) := qd_o132 0 19 qd_g727 rfl rfl
theorem dJ2_inflate_0e8fd_22 : decode cJ2_inflate_0e8fd 22 = .ok (.aload_n 0, 1) := qd_o42 0 22 qd_g727 rfl
theorem dJ2_inflate_0e8fd_23 : decode cJ2_inflate_0e8fd 23 = .ok (.iload_n 1, 1) := qd_o27 0 23 qd_g727 rfl
theorem dJ2_inflate_0e8fd_24 : decode cJ2_inflate_0e8fd 24 = .ok (.iinc 1 1, 3) := qd_o132 0 24 qd_g727 rfl rfl
theorem dJ2_inflate_0e8fd_27 : decode cJ2_inflate_0e8fd 27 = .ok (.baload, 1) := qd_o51 0 27 qd_g727 rfl
theorem dJ2_inflate_0e8fd_28 : decode cJ2_inflate_0e8fd 28 = .ok (.sipush 255, 3) := qd_o17 0 28 qd_g727 rfl rfl
theorem dJ2_inflate_0e8fd_31 : decode cJ2_inflate_0e8fd 31 = .ok (.iand, 1) := qd_o126 0 31 qd_g727 rfl
theorem dJ2_inflate_0e8fd_32 : decode cJ2_inflate_0e8fd 32 = .ok (.invokestatic 111, 3) := qd_o184 0 32 qd_g727 rfl rfl
theorem dJ2_inflate_0e8fd_35 : decode cJ2_inflate_0e8fd 35 = .ok (.iinc 5 1, 3) := qd_o132 0 35 qd_g727 rfl rfl
theorem qd_g728 : qd_bs cJ2_inflate_0e8fd 38 [167, 255, 228, 177] = true := by decide +kernel
theorem dJ2_inflate_0e8fd_38 : decode cJ2_inflate_0e8fd 38 = .ok (.goto (-28), 3) := qd_o167 38 0 qd_g728 rfl rfl
theorem dJ2_inflate_0e8fd_41 : decode cJ2_inflate_0e8fd 41 = .ok (.return_, 1) := qd_o177 38 3 qd_g728 rfl
theorem qd_g729 : qd_bs cJ2_getChars_ba4f3 0 [27, 54, 5, 26, 156, 0, 7, 4, 167, 0, 4, 3, 54, 6, 21, 6, 154, 0, 6, 26, 116, 59, 26, 16, 156, 163, 0, 51, 26, 16, 100, 108, 62, 29, 16, 100, 104, 26, 100] = true := by decide +kernel
theorem dJ2_getChars_ba4f3_0 : decode cJ2_getChars_ba4f3 0 = .ok (.iload_n 1, 1) := qd_o27 0 0 qd_g729 rfl
theorem dJ2_getChars_ba4f3_1 : decode cJ2_getChars_ba4f3 1 = .ok (.istore 5, 2) := qd_o54 0 1 qd_g729 rfl rfl
theorem dJ2_getChars_ba4f3_3 : decode cJ2_getChars_ba4f3 3 = .ok (.iload_n 0, 1) := qd_o26 0 3 qd_g729 rfl
theorem dJ2_getChars_ba4f3_4 : decode cJ2_getChars_ba4f3 4 = .ok (.ifCond .ge 7, 3) := qd_o156 0 4 qd_g729 rfl rfl
theorem dJ2_getChars_ba4f3_7 : decode cJ2_getChars_ba4f3 7 = .ok (.iconst 1, 1) := qd_o4 0 7 qd_g729 rfl
theorem dJ2_getChars_ba4f3_8 : decode cJ2_getChars_ba4f3 8 = .ok (.goto 4, 3) := qd_o167 0 8 qd_g729 rfl rfl
theorem dJ2_getChars_ba4f3_11 : decode cJ2_getChars_ba4f3 11 = .ok (.iconst 0, 1) := qd_o3 0 11 qd_g729 rfl
theorem dJ2_getChars_ba4f3_12 : decode cJ2_getChars_ba4f3 12 = .ok (.istore 6, 2) := qd_o54 0 12 qd_g729 rfl rfl
theorem dJ2_getChars_ba4f3_14 : decode cJ2_getChars_ba4f3 14 = .ok (.iload 6, 2) := qd_o21 0 14 qd_g729 rfl rfl
theorem dJ2_getChars_ba4f3_16 : decode cJ2_getChars_ba4f3 16 = .ok (.ifCond .ne 6, 3) := qd_o154 0 16 qd_g729 rfl rfl
theorem dJ2_getChars_ba4f3_19 : decode cJ2_getChars_ba4f3 19 = .ok (.iload_n 0, 1) := qd_o26 0 19 qd_g729 rfl
theorem dJ2_getChars_ba4f3_20 : decode cJ2_getChars_ba4f3 20 = .ok (.ineg, 1) := qd_o116 0 20 qd_g729 rfl
theorem dJ2_getChars_ba4f3_21 : decode cJ2_getChars_ba4f3 21 = .ok (.istore_n 0, 1) := qd_o59 0 21 qd_g729 rfl
theorem dJ2_getChars_ba4f3_22 : decode cJ2_getChars_ba4f3 22 = .ok (.iload_n 0, 1) := qd_o26 0 22 qd_g729 rfl
theorem dJ2_getChars_ba4f3_23 : decode cJ2_getChars_ba4f3 23 = .ok (.bipush (-100), 2) := qd_o16 0 23 qd_g729 rfl rfl
theorem dJ2_getChars_ba4f3_25 : decode cJ2_getChars_ba4f3 25 = .ok (.if_icmp .gt 51, 3) := qd_o163 0 25 qd_g729 rfl rfl
theorem dJ2_getChars_ba4f3_28 : decode cJ2_getChars_ba4f3 28 = .ok (.iload_n 0, 1) := qd_o26 0 28 qd_g729 rfl
theorem dJ2_getChars_ba4f3_29 : decode cJ2_getChars_ba4f3 29 = .ok (.bipush 100, 2) := qd_o16 0 29 qd_g729 rfl rfl
theorem dJ2_getChars_ba4f3_31 : decode cJ2_getChars_ba4f3 31 = .ok (.idiv, 1) := qd_o108 0 31 qd_g729 rfl
theorem dJ2_getChars_ba4f3_32 : decode cJ2_getChars_ba4f3 32 = .ok (.istore_n 3, 1) := qd_o62 0 32 qd_g729 rfl
theorem dJ2_getChars_ba4f3_33 : decode cJ2_getChars_ba4f3 33 = .ok (.iload_n 3, 1) := qd_o29 0 33 qd_g729 rfl
theorem dJ2_getChars_ba4f3_34 : decode cJ2_getChars_ba4f3 34 = .ok (.bipush 100, 2) := qd_o16 0 34 qd_g729 rfl rfl
theorem dJ2_getChars_ba4f3_36 : decode cJ2_getChars_ba4f3 36 = .ok (.imul, 1) := qd_o104 0 36 qd_g729 rfl
theorem dJ2_getChars_ba4f3_37 : decode cJ2_getChars_ba4f3 37 = .ok (.iload_n 0, 1) := qd_o26 0 37 qd_g729 rfl
theorem dJ2_getChars_ba4f3_38 : decode cJ2_getChars_ba4f3 38 = .ok (.isub, 1) := qd_o100 0 38 qd_g729 rfl
theorem qd_g730 : qd_bs cJ2_getChars_ba4f3 39 [54, 4, 29, 59, 44, 132, 5, 255, 21, 5, 178, 1, 147, 21, 4, 51, 184, 0, 111, 44, 132, 5, 255, 21, 5, 178, 1, 151, 21, 4, 51, 184, 0, 111, 167, 255, 205, 44] = true := by decide +kernel
theorem dJ2_getChars_ba4f3_39 : decode cJ2_getChars_ba4f3 39 = .ok (.istore 4, 2) := qd_o54 39 0 qd_g730 rfl rfl
theorem dJ2_getChars_ba4f3_41 : decode cJ2_getChars_ba4f3 41 = .ok (.iload_n 3, 1) := qd_o29 39 2 qd_g730 rfl
theorem dJ2_getChars_ba4f3_42 : decode cJ2_getChars_ba4f3 42 = .ok (.istore_n 0, 1) := qd_o59 39 3 qd_g730 rfl
theorem dJ2_getChars_ba4f3_43 : decode cJ2_getChars_ba4f3 43 = .ok (.aload_n 2, 1) := qd_o44 39 4 qd_g730 rfl
theorem dJ2_getChars_ba4f3_44 : decode cJ2_getChars_ba4f3 44 = .ok (.iinc 5 (-1), 3) := qd_o132 39 5 qd_g730 rfl rfl
theorem dJ2_getChars_ba4f3_47 : decode cJ2_getChars_ba4f3 47 = .ok (.iload 5, 2) := qd_o21 39 8 qd_g730 rfl rfl
theorem dJ2_getChars_ba4f3_49 : decode cJ2_getChars_ba4f3 49 = .ok (.getstatic 403, 3) := qd_o178 39 10 qd_g730 rfl rfl
theorem dJ2_getChars_ba4f3_52 : decode cJ2_getChars_ba4f3 52 = .ok (.iload 4, 2) := qd_o21 39 13 qd_g730 rfl rfl
theorem dJ2_getChars_ba4f3_54 : decode cJ2_getChars_ba4f3 54 = .ok (.baload, 1) := qd_o51 39 15 qd_g730 rfl
theorem dJ2_getChars_ba4f3_55 : decode cJ2_getChars_ba4f3 55 = .ok (.invokestatic 111, 3) := qd_o184 39 16 qd_g730 rfl rfl
theorem dJ2_getChars_ba4f3_58 : decode cJ2_getChars_ba4f3 58 = .ok (.aload_n 2, 1) := qd_o44 39 19 qd_g730 rfl
theorem dJ2_getChars_ba4f3_59 : decode cJ2_getChars_ba4f3 59 = .ok (.iinc 5 (-1), 3) := qd_o132 39 20 qd_g730 rfl rfl
theorem dJ2_getChars_ba4f3_62 : decode cJ2_getChars_ba4f3 62 = .ok (.iload 5, 2) := qd_o21 39 23 qd_g730 rfl rfl
theorem dJ2_getChars_ba4f3_64 : decode cJ2_getChars_ba4f3 64 = .ok (.getstatic 407, 3) := qd_o178 39 25 qd_g730 rfl rfl
theorem dJ2_getChars_ba4f3_67 : decode cJ2_getChars_ba4f3 67 = .ok (.iload 4, 2) := qd_o21 39 28 qd_g730 rfl rfl
theorem dJ2_getChars_ba4f3_69 : decode cJ2_getChars_ba4f3 69 = .ok (.baload, 1) := qd_o51 39 30 qd_g730 rfl
theorem dJ2_getChars_ba4f3_70 : decode cJ2_getChars_ba4f3 70 = .ok (.invokestatic 111, 3) := qd_o184 39 31 qd_g730 rfl rfl
theorem dJ2_getChars_ba4f3_73 : decode cJ2_getChars_ba4f3 73 = .ok (.goto (-51), 3) := qd_o167 39 34 qd_g730 rfl rfl
theorem dJ2_getChars_ba4f3_76 : decode cJ2_getChars_ba4f3 76 = .ok (.aload_n 2, 1) := qd_o44 39 37 qd_g730 rfl
theorem qd_g731 : qd_bs cJ2_getChars_ba4f3 77 [132, 5, 255, 21, 5, 178, 1, 147, 26, 116, 51, 184, 0, 111, 26, 16, 247, 162, 0, 18, 44, 132, 5, 255, 21, 5, 178, 1, 151, 26, 116, 51, 184, 0, 111, 21, 6, 153, 0, 14] = true := by decide +kernel
theorem dJ2_getChars_ba4f3_77 : decode cJ2_getChars_ba4f3 77 = .ok (.iinc 5 (-1), 3) := qd_o132 77 0 qd_g731 rfl rfl
theorem dJ2_getChars_ba4f3_80 : decode cJ2_getChars_ba4f3 80 = .ok (.iload 5, 2) := qd_o21 77 3 qd_g731 rfl rfl
theorem dJ2_getChars_ba4f3_82 : decode cJ2_getChars_ba4f3 82 = .ok (.getstatic 403, 3) := qd_o178 77 5 qd_g731 rfl rfl
theorem dJ2_getChars_ba4f3_85 : decode cJ2_getChars_ba4f3 85 = .ok (.iload_n 0, 1) := qd_o26 77 8 qd_g731 rfl
theorem dJ2_getChars_ba4f3_86 : decode cJ2_getChars_ba4f3 86 = .ok (.ineg, 1) := qd_o116 77 9 qd_g731 rfl
theorem dJ2_getChars_ba4f3_87 : decode cJ2_getChars_ba4f3 87 = .ok (.baload, 1) := qd_o51 77 10 qd_g731 rfl
theorem dJ2_getChars_ba4f3_88 : decode cJ2_getChars_ba4f3 88 = .ok (.invokestatic 111, 3) := qd_o184 77 11 qd_g731 rfl rfl
theorem dJ2_getChars_ba4f3_91 : decode cJ2_getChars_ba4f3 91 = .ok (.iload_n 0, 1) := qd_o26 77 14 qd_g731 rfl
theorem dJ2_getChars_ba4f3_92 : decode cJ2_getChars_ba4f3 92 = .ok (.bipush (-9), 2) := qd_o16 77 15 qd_g731 rfl rfl
theorem dJ2_getChars_ba4f3_94 : decode cJ2_getChars_ba4f3 94 = .ok (.if_icmp .ge 18, 3) := qd_o162 77 17 qd_g731 rfl rfl
theorem dJ2_getChars_ba4f3_97 : decode cJ2_getChars_ba4f3 97 = .ok (.aload_n 2, 1) := qd_o44 77 20 qd_g731 rfl
theorem dJ2_getChars_ba4f3_98 : decode cJ2_getChars_ba4f3 98 = .ok (.iinc 5 (-1), 3) := qd_o132 77 21 qd_g731 rfl rfl
theorem dJ2_getChars_ba4f3_101 : decode cJ2_getChars_ba4f3 101 = .ok (.iload 5, 2) := qd_o21 77 24 qd_g731 rfl rfl
theorem dJ2_getChars_ba4f3_103 : decode cJ2_getChars_ba4f3 103 = .ok (.getstatic 407, 3) := qd_o178 77 26 qd_g731 rfl rfl
theorem dJ2_getChars_ba4f3_106 : decode cJ2_getChars_ba4f3 106 = .ok (.iload_n 0, 1) := qd_o26 77 29 qd_g731 rfl
theorem dJ2_getChars_ba4f3_107 : decode cJ2_getChars_ba4f3 107 = .ok (.ineg, 1) := qd_o116 77 30 qd_g731 rfl
theorem dJ2_getChars_ba4f3_108 : decode cJ2_getChars_ba4f3 108 = .ok (.baload, 1) := qd_o51 77 31 qd_g731 rfl
theorem dJ2_getChars_ba4f3_109 : decode cJ2_getChars_ba4f3 109 = .ok (.invokestatic 111, 3) := qd_o184 77 32 qd_g731 rfl rfl
theorem dJ2_getChars_ba4f3_112 : decode cJ2_getChars_ba4f3 112 = .ok (.iload 6, 2) := qd_o21 77 35 qd_g731 rfl rfl
theorem dJ2_getChars_ba4f3_114 : decode cJ2_getChars_ba4f3 114 = .ok (.ifCond .eq 14, 3) := qd_o153 77 37 qd_g731 rfl rfl
theorem qd_g732 : qd_bs cJ2_getChars_ba4f3 117 [44, 132, 5, 255, 21, 5, 16, 45, 184, 0, 111, 21, 5, 172] = true := by decide +kernel
theorem dJ2_getChars_ba4f3_117 : decode cJ2_getChars_ba4f3 117 = .ok (.aload_n 2, 1) := qd_o44 117 0 qd_g732 rfl
theorem dJ2_getChars_ba4f3_118 : decode cJ2_getChars_ba4f3 118 = .ok (.iinc 5 (-1), 3) := qd_o132 117 1 qd_g732 rfl rfl
theorem dJ2_getChars_ba4f3_121 : decode cJ2_getChars_ba4f3 121 = .ok (.iload 5, 2) := qd_o21 117 4 qd_g732 rfl rfl
theorem dJ2_getChars_ba4f3_123 : decode cJ2_getChars_ba4f3 123 = .ok (.bipush 45, 2) := qd_o16 117 6 qd_g732 rfl rfl
theorem dJ2_getChars_ba4f3_125 : decode cJ2_getChars_ba4f3 125 = .ok (.invokestatic 111, 3) := qd_o184 117 8 qd_g732 rfl rfl
theorem dJ2_getChars_ba4f3_128 : decode cJ2_getChars_ba4f3 128 = .ok (.iload 5, 2) := qd_o21 117 11 qd_g732 rfl rfl
theorem dJ2_getChars_ba4f3_130 : decode cJ2_getChars_ba4f3 130 = .ok (.ireturn, 1) := qd_o172 117 13 qd_g732 rfl
theorem qd_g733 : qd_bs cJ2_checkIndex_2214a 0 [26, 43, 184, 0, 48, 184, 1, 158, 177] = true := by decide +kernel
theorem dJ2_checkIndex_2214a_0 : decode cJ2_checkIndex_2214a 0 = .ok (.iload_n 0, 1) := qd_o26 0 0 qd_g733 rfl
theorem dJ2_checkIndex_2214a_1 : decode cJ2_checkIndex_2214a 1 = .ok (.aload_n 1, 1) := qd_o43 0 1 qd_g733 rfl
theorem dJ2_checkIndex_2214a_2 : decode cJ2_checkIndex_2214a 2 = .ok (.invokestatic 48, 3) := qd_o184 0 2 qd_g733 rfl rfl
theorem dJ2_checkIndex_2214a_5 : decode cJ2_checkIndex_2214a 5 = .ok (.invokestatic 414, 3) := qd_o184 0 5 qd_g733 rfl rfl
theorem dJ2_checkIndex_2214a_8 : decode cJ2_checkIndex_2214a 8 = .ok (.return_, 1) := qd_o177 0 8 qd_g733 rfl
theorem qd_g734 : qd_bs cJ2_checkBoundsBeginEnd_d044e 0 [26, 27, 44, 184, 0, 48, 184, 0, 241, 177] = true := by decide +kernel
theorem dJ2_checkBoundsBeginEnd_d044e_0 : decode cJ2_checkBoundsBeginEnd_d044e 0 = .ok (.iload_n 0, 1) := qd_o26 0 0 qd_g734 rfl
theorem dJ2_checkBoundsBeginEnd_d044e_1 : decode cJ2_checkBoundsBeginEnd_d044e 1 = .ok (.iload_n 1, 1) := qd_o27 0 1 qd_g734 rfl
theorem dJ2_checkBoundsBeginEnd_d044e_2 : decode cJ2_checkBoundsBeginEnd_d044e 2 = .ok (.aload_n 2, 1) := qd_o44 0 2 qd_g734 rfl
theorem dJ2_checkBoundsBeginEnd_d044e_3 : decode cJ2_checkBoundsBeginEnd_d044e 3 = .ok (.invokestatic 48, 3) := qd_o184 0 3 qd_g734 rfl rfl
theorem dJ2_checkBoundsBeginEnd_d044e_6 : decode cJ2_checkBoundsBeginEnd_d044e 6 = .ok (.invokestatic 241, 3) := qd_o184 0 6 qd_g734 rfl rfl
theorem dJ2_checkBoundsBeginEnd_d044e_9 : decode cJ2_checkBoundsBeginEnd_d044e 9 = .ok (.return_, 1) := qd_o177 0 9 qd_g734 rfl
theorem qd_g735 : qd_bs cJ2_checkBoundsOffCount_d044e 0 [26, 27, 44, 184, 0, 48, 184, 1, 163, 87, 177] = true := by decide +kernel
theorem dJ2_checkBoundsOffCount_d044e_0 : decode cJ2_checkBoundsOffCount_d044e 0 = .ok (.iload_n 0, 1) := qd_o26 0 0 qd_g735 rfl
theorem dJ2_checkBoundsOffCount_d044e_1 : decode cJ2_checkBoundsOffCount_d044e 1 = .ok (.iload_n 1, 1) := qd_o27 0 1 qd_g735 rfl
theorem dJ2_checkBoundsOffCount_d044e_2 : decode cJ2_checkBoundsOffCount_d044e 2 = .ok (.aload_n 2, 1) := qd_o44 0 2 qd_g735 rfl
theorem dJ2_checkBoundsOffCount_d044e_3 : decode cJ2_checkBoundsOffCount_d044e 3 = .ok (.invokestatic 48, 3) := qd_o184 0 3 qd_g735 rfl rfl
theorem dJ2_checkBoundsOffCount_d044e_6 : decode cJ2_checkBoundsOffCount_d044e 6 = .ok (.invokestatic 419, 3) := qd_o184 0 6 qd_g735 rfl rfl
theorem dJ2_checkBoundsOffCount_d044e_9 : decode cJ2_checkBoundsOffCount_d044e 9 = .ok (.pop, 1) := qd_o87 0 9 qd_g735 rfl
theorem dJ2_checkBoundsOffCount_d044e_10 : decode cJ2_checkBoundsOffCount_d044e 10 = .ok (.return_, 1) := qd_o177 0 10 qd_g735 rfl
theorem qd_g736 : qd_bs cJ7_rangeCheck_23922 0 [27, 28, 164, 0, 44, 187, 0, 43, 89, 187, 0, 45, 89, 183, 0, 47, 18, 48, 182, 0, 50, 27, 182, 0, 54, 18, 57, 182, 0, 50, 28, 182, 0, 54, 18, 59, 182, 0, 50] = true := by decide +kernel
theorem dJ7_rangeCheck_23922_0 : decode cJ7_rangeCheck_23922 0 = .ok (.iload_n 1, 1) := qd_o27 0 0 qd_g736 rfl
theorem dJ7_rangeCheck_23922_1 : decode cJ7_rangeCheck_23922 1 = .ok (.iload_n 2, 1) := qd_o28 0 1 qd_g736 rfl
theorem dJ7_rangeCheck_23922_2 : decode cJ7_rangeCheck_23922 2 = .ok (.if_icmp .le 44, 3) := qd_o164 0 2 qd_g736 rfl rfl
theorem dJ7_rangeCheck_23922_5 : decode cJ7_rangeCheck_23922 5 = .ok (.new 43, 3) := qd_o187 0 5 qd_g736 rfl rfl
theorem dJ7_rangeCheck_23922_8 : decode cJ7_rangeCheck_23922 8 = .ok (.dup, 1) := qd_o89 0 8 qd_g736 rfl
theorem dJ7_rangeCheck_23922_9 : decode cJ7_rangeCheck_23922 9 = .ok (.new 45, 3) := qd_o187 0 9 qd_g736 rfl rfl
theorem dJ7_rangeCheck_23922_12 : decode cJ7_rangeCheck_23922 12 = .ok (.dup, 1) := qd_o89 0 12 qd_g736 rfl
theorem dJ7_rangeCheck_23922_13 : decode cJ7_rangeCheck_23922 13 = .ok (.invokespecial 47, 3) := qd_o183 0 13 qd_g736 rfl rfl
theorem dJ7_rangeCheck_23922_16 : decode cJ7_rangeCheck_23922 16 = .ok (.ldc 48, 2) := qd_o18 0 16 qd_g736 rfl rfl
theorem dJ7_rangeCheck_23922_18 : decode cJ7_rangeCheck_23922 18 = .ok (.invokevirtual 50, 3) := qd_o182 0 18 qd_g736 rfl rfl
theorem dJ7_rangeCheck_23922_21 : decode cJ7_rangeCheck_23922 21 = .ok (.iload_n 1, 1) := qd_o27 0 21 qd_g736 rfl
theorem dJ7_rangeCheck_23922_22 : decode cJ7_rangeCheck_23922 22 = .ok (.invokevirtual 54, 3) := qd_o182 0 22 qd_g736 rfl rfl
theorem dJ7_rangeCheck_23922_25 : decode cJ7_rangeCheck_23922 25 = .ok (.ldc 57, 2) := qd_o18 0 25 qd_g736 rfl rfl
theorem dJ7_rangeCheck_23922_27 : decode cJ7_rangeCheck_23922 27 = .ok (.invokevirtual 50, 3) := qd_o182 0 27 qd_g736 rfl rfl
theorem dJ7_rangeCheck_23922_30 : decode cJ7_rangeCheck_23922 30 = .ok (.iload_n 2, 1) := qd_o28 0 30 qd_g736 rfl
theorem dJ7_rangeCheck_23922_31 : decode cJ7_rangeCheck_23922 31 = .ok (.invokevirtual 54, 3) := qd_o182 0 31 qd_g736 rfl rfl
theorem dJ7_rangeCheck_23922_34 : decode cJ7_rangeCheck_23922 34 = .ok (.ldc 59, 2) := qd_o18 0 34 qd_g736 rfl rfl
theorem dJ7_rangeCheck_23922_36 : decode cJ7_rangeCheck_23922 36 = .ok (.invokevirtual 50, 3) := qd_o182 0 36 qd_g736 rfl rfl
theorem qd_g737 : qd_bs cJ7_rangeCheck_23922 39 [182, 0, 61, 183, 0, 65, 191, 27, 156, 0, 12, 187, 0, 68, 89, 27, 183, 0, 70, 191, 28, 26, 164, 0, 12, 187, 0, 68, 89, 28, 183, 0, 70, 191, 177] = true := by decide +kernel
theorem dJ7_rangeCheck_23922_39 : decode cJ7_rangeCheck_23922 39 = .ok (.invokevirtual 61, 3) := qd_o182 39 0 qd_g737 rfl rfl
theorem dJ7_rangeCheck_23922_42 : decode cJ7_rangeCheck_23922 42 = .ok (.invokespecial 65, 3) := qd_o183 39 3 qd_g737 rfl rfl
theorem dJ7_rangeCheck_23922_45 : decode cJ7_rangeCheck_23922 45 = .ok (.athrow, 1) := qd_o191 39 6 qd_g737 rfl
theorem dJ7_rangeCheck_23922_46 : decode cJ7_rangeCheck_23922 46 = .ok (.iload_n 1, 1) := qd_o27 39 7 qd_g737 rfl
theorem dJ7_rangeCheck_23922_47 : decode cJ7_rangeCheck_23922 47 = .ok (.ifCond .ge 12, 3) := qd_o156 39 8 qd_g737 rfl rfl
theorem dJ7_rangeCheck_23922_50 : decode cJ7_rangeCheck_23922 50 = .ok (.new 68, 3) := qd_o187 39 11 qd_g737 rfl rfl
theorem dJ7_rangeCheck_23922_53 : decode cJ7_rangeCheck_23922 53 = .ok (.dup, 1) := qd_o89 39 14 qd_g737 rfl
theorem dJ7_rangeCheck_23922_54 : decode cJ7_rangeCheck_23922 54 = .ok (.iload_n 1, 1) := qd_o27 39 15 qd_g737 rfl
theorem dJ7_rangeCheck_23922_55 : decode cJ7_rangeCheck_23922 55 = .ok (.invokespecial 70, 3) := qd_o183 39 16 qd_g737 rfl rfl
theorem dJ7_rangeCheck_23922_58 : decode cJ7_rangeCheck_23922 58 = .ok (.athrow, 1) := qd_o191 39 19 qd_g737 rfl
theorem dJ7_rangeCheck_23922_59 : decode cJ7_rangeCheck_23922 59 = .ok (.iload_n 2, 1) := qd_o28 39 20 qd_g737 rfl
theorem dJ7_rangeCheck_23922_60 : decode cJ7_rangeCheck_23922 60 = .ok (.iload_n 0, 1) := qd_o26 39 21 qd_g737 rfl
theorem dJ7_rangeCheck_23922_61 : decode cJ7_rangeCheck_23922 61 = .ok (.if_icmp .le 12, 3) := qd_o164 39 22 qd_g737 rfl rfl
theorem dJ7_rangeCheck_23922_64 : decode cJ7_rangeCheck_23922 64 = .ok (.new 68, 3) := qd_o187 39 25 qd_g737 rfl rfl
theorem dJ7_rangeCheck_23922_67 : decode cJ7_rangeCheck_23922 67 = .ok (.dup, 1) := qd_o89 39 28 qd_g737 rfl
theorem dJ7_rangeCheck_23922_68 : decode cJ7_rangeCheck_23922 68 = .ok (.iload_n 2, 1) := qd_o28 39 29 qd_g737 rfl
theorem dJ7_rangeCheck_23922_69 : decode cJ7_rangeCheck_23922 69 = .ok (.invokespecial 70, 3) := qd_o183 39 30 qd_g737 rfl rfl
theorem dJ7_rangeCheck_23922_72 : decode cJ7_rangeCheck_23922 72 = .ok (.athrow, 1) := qd_o191 39 33 qd_g737 rfl
theorem dJ7_rangeCheck_23922_73 : decode cJ7_rangeCheck_23922 73 = .ok (.return_, 1) := qd_o177 39 34 qd_g737 rfl
theorem qd_g738 : qd_bs cJ7_fill_53178 0 [3, 61, 42, 190, 62, 28, 29, 162, 0, 13, 42, 28, 27, 79, 132, 2, 1, 167, 255, 244, 177] = true := by decide +kernel
theorem dJ7_fill_53178_0 : decode cJ7_fill_53178 0 = .ok (.iconst 0, 1) := qd_o3 0 0 qd_g738 rfl
theorem dJ7_fill_53178_1 : decode cJ7_fill_53178 1 = .ok (.istore_n 2, 1) := qd_o61 0 1 qd_g738 rfl
theorem dJ7_fill_53178_2 : decode cJ7_fill_53178 2 = .ok (.aload_n 0, 1) := qd_o42 0 2 qd_g738 rfl
theorem dJ7_fill_53178_3 : decode cJ7_fill_53178 3 = .ok (.arraylength, 1) := qd_o190 0 3 qd_g738 rfl
theorem dJ7_fill_53178_4 : decode cJ7_fill_53178 4 = .ok (.istore_n 3, 1) := qd_o62 0 4 qd_g738 rfl
theorem dJ7_fill_53178_5 : decode cJ7_fill_53178 5 = .ok (.iload_n 2, 1) := qd_o28 0 5 qd_g738 rfl
theorem dJ7_fill_53178_6 : decode cJ7_fill_53178 6 = .ok (.iload_n 3, 1) := qd_o29 0 6 qd_g738 rfl
theorem dJ7_fill_53178_7 : decode cJ7_fill_53178 7 = .ok (.if_icmp .ge 13, 3) := qd_o162 0 7 qd_g738 rfl rfl
theorem dJ7_fill_53178_10 : decode cJ7_fill_53178 10 = .ok (.aload_n 0, 1) := qd_o42 0 10 qd_g738 rfl
theorem dJ7_fill_53178_11 : decode cJ7_fill_53178 11 = .ok (.iload_n 2, 1) := qd_o28 0 11 qd_g738 rfl
theorem dJ7_fill_53178_12 : decode cJ7_fill_53178 12 = .ok (.iload_n 1, 1) := qd_o27 0 12 qd_g738 rfl
theorem dJ7_fill_53178_13 : decode cJ7_fill_53178 13 = .ok (.iastore, 1) := qd_o79 0 13 qd_g738 rfl
theorem dJ7_fill_53178_14 : decode cJ7_fill_53178 14 = .ok (.iinc 2 1, 3) := qd_o132 0 14 qd_g738 rfl rfl
theorem dJ7_fill_53178_17 : decode cJ7_fill_53178 17 = .ok (.goto (-12), 3) := qd_o167 0 17 qd_g738 rfl rfl
theorem dJ7_fill_53178_20 : decode cJ7_fill_53178 20 = .ok (.return_, 1) := qd_o177 0 20 qd_g738 rfl
theorem qd_g739 : qd_bs cJ7_fill_eb02e 0 [42, 190, 27, 28, 184, 0, 13, 27, 54, 4, 21, 4, 28, 162, 0, 14, 42, 21, 4, 29, 84, 132, 4, 1, 167, 255, 242, 177] = true := by decide +kernel
theorem dJ7_fill_eb02e_0 : decode cJ7_fill_eb02e 0 = .ok (.aload_n 0, 1) := qd_o42 0 0 qd_g739 rfl
theorem dJ7_fill_eb02e_1 : decode cJ7_fill_eb02e 1 = .ok (.arraylength, 1) := qd_o190 0 1 qd_g739 rfl
theorem dJ7_fill_eb02e_2 : decode cJ7_fill_eb02e 2 = .ok (.iload_n 1, 1) := qd_o27 0 2 qd_g739 rfl
theorem dJ7_fill_eb02e_3 : decode cJ7_fill_eb02e 3 = .ok (.iload_n 2, 1) := qd_o28 0 3 qd_g739 rfl
theorem dJ7_fill_eb02e_4 : decode cJ7_fill_eb02e 4 = .ok (.invokestatic 13, 3) := qd_o184 0 4 qd_g739 rfl rfl
theorem dJ7_fill_eb02e_7 : decode cJ7_fill_eb02e 7 = .ok (.iload_n 1, 1) := qd_o27 0 7 qd_g739 rfl
theorem dJ7_fill_eb02e_8 : decode cJ7_fill_eb02e 8 = .ok (.istore 4, 2) := qd_o54 0 8 qd_g739 rfl rfl
theorem dJ7_fill_eb02e_10 : decode cJ7_fill_eb02e 10 = .ok (.iload 4, 2) := qd_o21 0 10 qd_g739 rfl rfl
theorem dJ7_fill_eb02e_12 : decode cJ7_fill_eb02e 12 = .ok (.iload_n 2, 1) := qd_o28 0 12 qd_g739 rfl
theorem dJ7_fill_eb02e_13 : decode cJ7_fill_eb02e 13 = .ok (.if_icmp .ge 14, 3) := qd_o162 0 13 qd_g739 rfl rfl
theorem dJ7_fill_eb02e_16 : decode cJ7_fill_eb02e 16 = .ok (.aload_n 0, 1) := qd_o42 0 16 qd_g739 rfl
theorem dJ7_fill_eb02e_17 : decode cJ7_fill_eb02e 17 = .ok (.iload 4, 2) := qd_o21 0 17 qd_g739 rfl rfl
theorem dJ7_fill_eb02e_19 : decode cJ7_fill_eb02e 19 = .ok (.iload_n 3, 1) := qd_o29 0 19 qd_g739 rfl
theorem dJ7_fill_eb02e_20 : decode cJ7_fill_eb02e 20 = .ok (.bastore, 1) := qd_o84 0 20 qd_g739 rfl
theorem dJ7_fill_eb02e_21 : decode cJ7_fill_eb02e 21 = .ok (.iinc 4 1, 3) := qd_o132 0 21 qd_g739 rfl rfl
theorem dJ7_fill_eb02e_24 : decode cJ7_fill_eb02e 24 = .ok (.goto (-14), 3) := qd_o167 0 24 qd_g739 rfl rfl
theorem dJ7_fill_eb02e_27 : decode cJ7_fill_eb02e 27 = .ok (.return_, 1) := qd_o177 0 27 qd_g739 rfl
theorem qd_g740 : qd_bs cJ7_copyOf_9075b 0 [27, 42, 190, 160, 0, 11, 42, 182, 1, 54, 192, 1, 55, 176, 27] = true := by decide +kernel
theorem dJ7_copyOf_9075b_0 : decode cJ7_copyOf_9075b 0 = .ok (.iload_n 1, 1) := qd_o27 0 0 qd_g740 rfl
theorem dJ7_copyOf_9075b_1 : decode cJ7_copyOf_9075b 1 = .ok (.aload_n 0, 1) := qd_o42 0 1 qd_g740 rfl
theorem dJ7_copyOf_9075b_2 : decode cJ7_copyOf_9075b 2 = .ok (.arraylength, 1) := qd_o190 0 2 qd_g740 rfl
theorem dJ7_copyOf_9075b_3 : decode cJ7_copyOf_9075b 3 = .ok (.if_icmp .ne 11, 3) := qd_o160 0 3 qd_g740 rfl rfl
theorem dJ7_copyOf_9075b_6 : decode cJ7_copyOf_9075b 6 = .ok (.aload_n 0, 1) := qd_o42 0 6 qd_g740 rfl
theorem dJ7_copyOf_9075b_7 : decode cJ7_copyOf_9075b 7 = .ok (.invokevirtual 310, 3) := qd_o182 0 7 qd_g740 rfl rfl
theorem dJ7_copyOf_9075b_10 : decode cJ7_copyOf_9075b 10 = .ok (.checkcast 311, 3) := qd_o192 0 10 qd_g740 rfl rfl
theorem dJ7_copyOf_9075b_13 : decode cJ7_copyOf_9075b 13 = .ok (.areturn, 1) := qd_o176 0 13 qd_g740 rfl
theorem dJ7_copyOf_9075b_14 : decode cJ7_copyOf_9075b 14 = .ok (.iload_n 1, 1) := qd_o27 0 14 qd_g740 rfl
theorem dJ7_copyOf_9075b_15 : decode cJ7_copyOf_9075b 15 = .ok (.newarray .byte, 2) := by decide +kernel
theorem qd_g741 : qd_bs cJ7_copyOf_9075b 17 [77, 42, 3, 44, 3, 42, 190, 27, 184, 1, 48, 184, 0, 150, 44, 176] = true := by decide +kernel
theorem dJ7_copyOf_9075b_17 : decode cJ7_copyOf_9075b 17 = .ok (.astore_n 2, 1) := qd_o77 17 0 qd_g741 rfl
theorem dJ7_copyOf_9075b_18 : decode cJ7_copyOf_9075b 18 = .ok (.aload_n 0, 1) := qd_o42 17 1 qd_g741 rfl
theorem dJ7_copyOf_9075b_19 : decode cJ7_copyOf_9075b 19 = .ok (.iconst 0, 1) := qd_o3 17 2 qd_g741 rfl
theorem dJ7_copyOf_9075b_20 : decode cJ7_copyOf_9075b 20 = .ok (.aload_n 2, 1) := qd_o44 17 3 qd_g741 rfl
theorem dJ7_copyOf_9075b_21 : decode cJ7_copyOf_9075b 21 = .ok (.iconst 0, 1) := qd_o3 17 4 qd_g741 rfl
theorem dJ7_copyOf_9075b_22 : decode cJ7_copyOf_9075b 22 = .ok (.aload_n 0, 1) := qd_o42 17 5 qd_g741 rfl
theorem dJ7_copyOf_9075b_23 : decode cJ7_copyOf_9075b 23 = .ok (.arraylength, 1) := qd_o190 17 6 qd_g741 rfl
theorem dJ7_copyOf_9075b_24 : decode cJ7_copyOf_9075b 24 = .ok (.iload_n 1, 1) := qd_o27 17 7 qd_g741 rfl
theorem dJ7_copyOf_9075b_25 : decode cJ7_copyOf_9075b 25 = .ok (.invokestatic 304, 3) := qd_o184 17 8 qd_g741 rfl rfl
theorem dJ7_copyOf_9075b_28 : decode cJ7_copyOf_9075b 28 = .ok (.invokestatic 150, 3) := qd_o184 17 11 qd_g741 rfl rfl
theorem dJ7_copyOf_9075b_31 : decode cJ7_copyOf_9075b 31 = .ok (.aload_n 2, 1) := qd_o44 17 14 qd_g741 rfl
theorem dJ7_copyOf_9075b_32 : decode cJ7_copyOf_9075b 32 = .ok (.areturn, 1) := qd_o176 17 15 qd_g741 rfl
theorem qd_g742 : qd_bs cJ7_checkLength_df160 0 [27, 26, 162, 0, 35, 187, 0, 43, 89, 187, 0, 45, 89, 183, 0, 47, 26, 182, 0, 54, 19, 1, 81, 182, 0, 50, 27, 182, 0, 54, 182, 0, 61, 183, 0, 65, 191, 177] = true := by decide +kernel
theorem dJ7_checkLength_df160_0 : decode cJ7_checkLength_df160 0 = .ok (.iload_n 1, 1) := qd_o27 0 0 qd_g742 rfl
theorem dJ7_checkLength_df160_1 : decode cJ7_checkLength_df160 1 = .ok (.iload_n 0, 1) := qd_o26 0 1 qd_g742 rfl
theorem dJ7_checkLength_df160_2 : decode cJ7_checkLength_df160 2 = .ok (.if_icmp .ge 35, 3) := qd_o162 0 2 qd_g742 rfl rfl
theorem dJ7_checkLength_df160_5 : decode cJ7_checkLength_df160 5 = .ok (.new 43, 3) := qd_o187 0 5 qd_g742 rfl rfl
theorem dJ7_checkLength_df160_8 : decode cJ7_checkLength_df160 8 = .ok (.dup, 1) := qd_o89 0 8 qd_g742 rfl
theorem dJ7_checkLength_df160_9 : decode cJ7_checkLength_df160 9 = .ok (.new 45, 3) := qd_o187 0 9 qd_g742 rfl rfl
theorem dJ7_checkLength_df160_12 : decode cJ7_checkLength_df160 12 = .ok (.dup, 1) := qd_o89 0 12 qd_g742 rfl
theorem dJ7_checkLength_df160_13 : decode cJ7_checkLength_df160 13 = .ok (.invokespecial 47, 3) := qd_o183 0 13 qd_g742 rfl rfl
theorem dJ7_checkLength_df160_16 : decode cJ7_checkLength_df160 16 = .ok (.iload_n 0, 1) := qd_o26 0 16 qd_g742 rfl
theorem dJ7_checkLength_df160_17 : decode cJ7_checkLength_df160 17 = .ok (.invokevirtual 54, 3) := qd_o182 0 17 qd_g742 rfl rfl
theorem dJ7_checkLength_df160_20 : decode cJ7_checkLength_df160 20 = .ok (.ldc_w 337, 3) := qd_o19 0 20 qd_g742 rfl rfl
theorem dJ7_checkLength_df160_23 : decode cJ7_checkLength_df160 23 = .ok (.invokevirtual 50, 3) := qd_o182 0 23 qd_g742 rfl rfl
theorem dJ7_checkLength_df160_26 : decode cJ7_checkLength_df160 26 = .ok (.iload_n 1, 1) := qd_o27 0 26 qd_g742 rfl
theorem dJ7_checkLength_df160_27 : decode cJ7_checkLength_df160 27 = .ok (.invokevirtual 54, 3) := qd_o182 0 27 qd_g742 rfl rfl
theorem dJ7_checkLength_df160_30 : decode cJ7_checkLength_df160 30 = .ok (.invokevirtual 61, 3) := qd_o182 0 30 qd_g742 rfl rfl
theorem dJ7_checkLength_df160_33 : decode cJ7_checkLength_df160 33 = .ok (.invokespecial 65, 3) := qd_o183 0 33 qd_g742 rfl rfl
theorem dJ7_checkLength_df160_36 : decode cJ7_checkLength_df160 36 = .ok (.athrow, 1) := qd_o191 0 36 qd_g742 rfl
theorem dJ7_checkLength_df160_37 : decode cJ7_checkLength_df160 37 = .ok (.return_, 1) := qd_o177 0 37 qd_g742 rfl
theorem qd_g743 : qd_bs cJ7_copyOfRange_39247 0 [27, 154, 0, 9, 28, 42, 190, 159, 0, 10, 42, 27, 28, 184, 1, 83, 176, 42, 182, 1, 54, 192, 1, 55, 176] = true := by decide +kernel
theorem dJ7_copyOfRange_39247_0 : decode cJ7_copyOfRange_39247 0 = .ok (.iload_n 1, 1) := qd_o27 0 0 qd_g743 rfl
theorem dJ7_copyOfRange_39247_1 : decode cJ7_copyOfRange_39247 1 = .ok (.ifCond .ne 9, 3) := qd_o154 0 1 qd_g743 rfl rfl
theorem dJ7_copyOfRange_39247_4 : decode cJ7_copyOfRange_39247 4 = .ok (.iload_n 2, 1) := qd_o28 0 4 qd_g743 rfl
theorem dJ7_copyOfRange_39247_5 : decode cJ7_copyOfRange_39247 5 = .ok (.aload_n 0, 1) := qd_o42 0 5 qd_g743 rfl
theorem dJ7_copyOfRange_39247_6 : decode cJ7_copyOfRange_39247 6 = .ok (.arraylength, 1) := qd_o190 0 6 qd_g743 rfl
theorem dJ7_copyOfRange_39247_7 : decode cJ7_copyOfRange_39247 7 = .ok (.if_icmp .eq 10, 3) := qd_o159 0 7 qd_g743 rfl rfl
theorem dJ7_copyOfRange_39247_10 : decode cJ7_copyOfRange_39247 10 = .ok (.aload_n 0, 1) := qd_o42 0 10 qd_g743 rfl
theorem dJ7_copyOfRange_39247_11 : decode cJ7_copyOfRange_39247 11 = .ok (.iload_n 1, 1) := qd_o27 0 11 qd_g743 rfl
theorem dJ7_copyOfRange_39247_12 : decode cJ7_copyOfRange_39247 12 = .ok (.iload_n 2, 1) := qd_o28 0 12 qd_g743 rfl
theorem dJ7_copyOfRange_39247_13 : decode cJ7_copyOfRange_39247 13 = .ok (.invokestatic 339, 3) := qd_o184 0 13 qd_g743 rfl rfl
theorem dJ7_copyOfRange_39247_16 : decode cJ7_copyOfRange_39247 16 = .ok (.areturn, 1) := qd_o176 0 16 qd_g743 rfl
theorem dJ7_copyOfRange_39247_17 : decode cJ7_copyOfRange_39247 17 = .ok (.aload_n 0, 1) := qd_o42 0 17 qd_g743 rfl
theorem dJ7_copyOfRange_39247_18 : decode cJ7_copyOfRange_39247 18 = .ok (.invokevirtual 310, 3) := qd_o182 0 18 qd_g743 rfl rfl
theorem dJ7_copyOfRange_39247_21 : decode cJ7_copyOfRange_39247 21 = .ok (.checkcast 311, 3) := qd_o192 0 21 qd_g743 rfl rfl
theorem dJ7_copyOfRange_39247_24 : decode cJ7_copyOfRange_39247 24 = .ok (.areturn, 1) := qd_o176 0 24 qd_g743 rfl
theorem qd_g744 : qd_bs cJ7_copyOfRangeByte_39247 0 [27, 28, 184, 1, 87, 28, 27, 100, 62, 29] = true := by decide +kernel
theorem dJ7_copyOfRangeByte_39247_0 : decode cJ7_copyOfRangeByte_39247 0 = .ok (.iload_n 1, 1) := qd_o27 0 0 qd_g744 rfl
theorem dJ7_copyOfRangeByte_39247_1 : decode cJ7_copyOfRangeByte_39247 1 = .ok (.iload_n 2, 1) := qd_o28 0 1 qd_g744 rfl
theorem dJ7_copyOfRangeByte_39247_2 : decode cJ7_copyOfRangeByte_39247 2 = .ok (.invokestatic 343, 3) := qd_o184 0 2 qd_g744 rfl rfl
theorem dJ7_copyOfRangeByte_39247_5 : decode cJ7_copyOfRangeByte_39247 5 = .ok (.iload_n 2, 1) := qd_o28 0 5 qd_g744 rfl
theorem dJ7_copyOfRangeByte_39247_6 : decode cJ7_copyOfRangeByte_39247 6 = .ok (.iload_n 1, 1) := qd_o27 0 6 qd_g744 rfl
theorem dJ7_copyOfRangeByte_39247_7 : decode cJ7_copyOfRangeByte_39247 7 = .ok (.isub, 1) := qd_o100 0 7 qd_g744 rfl
theorem dJ7_copyOfRangeByte_39247_8 : decode cJ7_copyOfRangeByte_39247 8 = .ok (.istore_n 3, 1) := qd_o62 0 8 qd_g744 rfl
theorem dJ7_copyOfRangeByte_39247_9 : decode cJ7_copyOfRangeByte_39247 9 = .ok (.iload_n 3, 1) := qd_o29 0 9 qd_g744 rfl
theorem dJ7_copyOfRangeByte_39247_10 : decode cJ7_copyOfRangeByte_39247 10 = .ok (.newarray .byte, 2) := by decide +kernel
theorem qd_g745 : qd_bs cJ7_copyOfRangeByte_39247 12 [58, 4, 42, 27, 25, 4, 3, 42, 190, 27, 100, 29, 184, 1, 48, 184, 0, 150, 25, 4, 176] = true := by decide +kernel
theorem dJ7_copyOfRangeByte_39247_12 : decode cJ7_copyOfRangeByte_39247 12 = .ok (.astore 4, 2) := qd_o58 12 0 qd_g745 rfl rfl
theorem dJ7_copyOfRangeByte_39247_14 : decode cJ7_copyOfRangeByte_39247 14 = .ok (.aload_n 0, 1) := qd_o42 12 2 qd_g745 rfl
theorem dJ7_copyOfRangeByte_39247_15 : decode cJ7_copyOfRangeByte_39247 15 = .ok (.iload_n 1, 1) := qd_o27 12 3 qd_g745 rfl
theorem dJ7_copyOfRangeByte_39247_16 : decode cJ7_copyOfRangeByte_39247 16 = .ok (.aload 4, 2) := qd_o25 12 4 qd_g745 rfl rfl
theorem dJ7_copyOfRangeByte_39247_18 : decode cJ7_copyOfRangeByte_39247 18 = .ok (.iconst 0, 1) := qd_o3 12 6 qd_g745 rfl
theorem dJ7_copyOfRangeByte_39247_19 : decode cJ7_copyOfRangeByte_39247 19 = .ok (.aload_n 0, 1) := qd_o42 12 7 qd_g745 rfl
theorem dJ7_copyOfRangeByte_39247_20 : decode cJ7_copyOfRangeByte_39247 20 = .ok (.arraylength, 1) := qd_o190 12 8 qd_g745 rfl
theorem dJ7_copyOfRangeByte_39247_21 : decode cJ7_copyOfRangeByte_39247 21 = .ok (.iload_n 1, 1) := qd_o27 12 9 qd_g745 rfl
theorem dJ7_copyOfRangeByte_39247_22 : decode cJ7_copyOfRangeByte_39247 22 = .ok (.isub, 1) := qd_o100 12 10 qd_g745 rfl
theorem dJ7_copyOfRangeByte_39247_23 : decode cJ7_copyOfRangeByte_39247 23 = .ok (.iload_n 3, 1) := qd_o29 12 11 qd_g745 rfl
theorem dJ7_copyOfRangeByte_39247_24 : decode cJ7_copyOfRangeByte_39247 24 = .ok (.invokestatic 304, 3) := qd_o184 12 12 qd_g745 rfl rfl
theorem dJ7_copyOfRangeByte_39247_27 : decode cJ7_copyOfRangeByte_39247 27 = .ok (.invokestatic 150, 3) := qd_o184 12 15 qd_g745 rfl rfl
theorem dJ7_copyOfRangeByte_39247_30 : decode cJ7_copyOfRangeByte_39247 30 = .ok (.aload 4, 2) := qd_o25 12 18 qd_g745 rfl rfl
theorem dJ7_copyOfRangeByte_39247_32 : decode cJ7_copyOfRangeByte_39247 32 = .ok (.areturn, 1) := qd_o176 12 20 qd_g745 rfl
theorem qd_g746 : qd_bs cJ8_newLength_cabcc 0 [26, 27, 28, 184, 0, 194, 96, 62, 3, 29, 162, 0, 11, 29, 18, 200, 163, 0, 5, 29, 172, 26, 27, 184, 0, 201, 172] = true := by decide +kernel
theorem dJ8_newLength_cabcc_0 : decode cJ8_newLength_cabcc 0 = .ok (.iload_n 0, 1) := qd_o26 0 0 qd_g746 rfl
theorem dJ8_newLength_cabcc_1 : decode cJ8_newLength_cabcc 1 = .ok (.iload_n 1, 1) := qd_o27 0 1 qd_g746 rfl
theorem dJ8_newLength_cabcc_2 : decode cJ8_newLength_cabcc 2 = .ok (.iload_n 2, 1) := qd_o28 0 2 qd_g746 rfl
theorem dJ8_newLength_cabcc_3 : decode cJ8_newLength_cabcc 3 = .ok (.invokestatic 194, 3) := qd_o184 0 3 qd_g746 rfl rfl
theorem dJ8_newLength_cabcc_6 : decode cJ8_newLength_cabcc 6 = .ok (.iadd, 1) := qd_o96 0 6 qd_g746 rfl
theorem dJ8_newLength_cabcc_7 : decode cJ8_newLength_cabcc 7 = .ok (.istore_n 3, 1) := qd_o62 0 7 qd_g746 rfl
theorem dJ8_newLength_cabcc_8 : decode cJ8_newLength_cabcc 8 = .ok (.iconst 0, 1) := qd_o3 0 8 qd_g746 rfl
theorem dJ8_newLength_cabcc_9 : decode cJ8_newLength_cabcc 9 = .ok (.iload_n 3, 1) := qd_o29 0 9 qd_g746 rfl
theorem dJ8_newLength_cabcc_10 : decode cJ8_newLength_cabcc 10 = .ok (.if_icmp .ge 11, 3) := qd_o162 0 10 qd_g746 rfl rfl
theorem dJ8_newLength_cabcc_13 : decode cJ8_newLength_cabcc 13 = .ok (.iload_n 3, 1) := qd_o29 0 13 qd_g746 rfl
theorem dJ8_newLength_cabcc_14 : decode cJ8_newLength_cabcc 14 = .ok (.ldc 200, 2) := qd_o18 0 14 qd_g746 rfl rfl
theorem dJ8_newLength_cabcc_16 : decode cJ8_newLength_cabcc 16 = .ok (.if_icmp .gt 5, 3) := qd_o163 0 16 qd_g746 rfl rfl
theorem dJ8_newLength_cabcc_19 : decode cJ8_newLength_cabcc 19 = .ok (.iload_n 3, 1) := qd_o29 0 19 qd_g746 rfl
theorem dJ8_newLength_cabcc_20 : decode cJ8_newLength_cabcc 20 = .ok (.ireturn, 1) := qd_o172 0 20 qd_g746 rfl
theorem dJ8_newLength_cabcc_21 : decode cJ8_newLength_cabcc 21 = .ok (.iload_n 0, 1) := qd_o26 0 21 qd_g746 rfl
theorem dJ8_newLength_cabcc_22 : decode cJ8_newLength_cabcc 22 = .ok (.iload_n 1, 1) := qd_o27 0 22 qd_g746 rfl
theorem dJ8_newLength_cabcc_23 : decode cJ8_newLength_cabcc 23 = .ok (.invokestatic 201, 3) := qd_o184 0 23 qd_g746 rfl rfl
theorem dJ8_newLength_cabcc_26 : decode cJ8_newLength_cabcc 26 = .ok (.ireturn, 1) := qd_o172 0 26 qd_g746 rfl
theorem qd_g747 : qd_bs cJ8_hugeLength_7cf53 0 [26, 27, 96, 61, 28, 156, 0, 44, 187, 0, 204, 89, 187, 0, 89, 89, 183, 0, 91, 18, 206, 182, 0, 94, 26, 182, 0, 98, 18, 208, 182, 0, 94, 27, 182, 0, 98, 18, 210] = true := by decide +kernel
theorem dJ8_hugeLength_7cf53_0 : decode cJ8_hugeLength_7cf53 0 = .ok (.iload_n 0, 1) := qd_o26 0 0 qd_g747 rfl
theorem dJ8_hugeLength_7cf53_1 : decode cJ8_hugeLength_7cf53 1 = .ok (.iload_n 1, 1) := qd_o27 0 1 qd_g747 rfl
theorem dJ8_hugeLength_7cf53_2 : decode cJ8_hugeLength_7cf53 2 = .ok (.iadd, 1) := qd_o96 0 2 qd_g747 rfl
theorem dJ8_hugeLength_7cf53_3 : decode cJ8_hugeLength_7cf53 3 = .ok (.istore_n 2, 1) := qd_o61 0 3 qd_g747 rfl
theorem dJ8_hugeLength_7cf53_4 : decode cJ8_hugeLength_7cf53 4 = .ok (.iload_n 2, 1) := qd_o28 0 4 qd_g747 rfl
theorem dJ8_hugeLength_7cf53_5 : decode cJ8_hugeLength_7cf53 5 = .ok (.ifCond .ge 44, 3) := qd_o156 0 5 qd_g747 rfl rfl
theorem dJ8_hugeLength_7cf53_8 : decode cJ8_hugeLength_7cf53 8 = .ok (.new 204, 3) := qd_o187 0 8 qd_g747 rfl rfl
theorem dJ8_hugeLength_7cf53_11 : decode cJ8_hugeLength_7cf53 11 = .ok (.dup, 1) := qd_o89 0 11 qd_g747 rfl
theorem dJ8_hugeLength_7cf53_12 : decode cJ8_hugeLength_7cf53 12 = .ok (.new 89, 3) := qd_o187 0 12 qd_g747 rfl rfl
theorem dJ8_hugeLength_7cf53_15 : decode cJ8_hugeLength_7cf53 15 = .ok (.dup, 1) := qd_o89 0 15 qd_g747 rfl
theorem dJ8_hugeLength_7cf53_16 : decode cJ8_hugeLength_7cf53 16 = .ok (.invokespecial 91, 3) := qd_o183 0 16 qd_g747 rfl rfl
theorem dJ8_hugeLength_7cf53_19 : decode cJ8_hugeLength_7cf53 19 = .ok (.ldc 206, 2) := qd_o18 0 19 qd_g747 rfl rfl
theorem dJ8_hugeLength_7cf53_21 : decode cJ8_hugeLength_7cf53 21 = .ok (.invokevirtual 94, 3) := qd_o182 0 21 qd_g747 rfl rfl
theorem dJ8_hugeLength_7cf53_24 : decode cJ8_hugeLength_7cf53 24 = .ok (.iload_n 0, 1) := qd_o26 0 24 qd_g747 rfl
theorem dJ8_hugeLength_7cf53_25 : decode cJ8_hugeLength_7cf53 25 = .ok (.invokevirtual 98, 3) := qd_o182 0 25 qd_g747 rfl rfl
theorem dJ8_hugeLength_7cf53_28 : decode cJ8_hugeLength_7cf53 28 = .ok (.ldc 208, 2) := qd_o18 0 28 qd_g747 rfl rfl
theorem dJ8_hugeLength_7cf53_30 : decode cJ8_hugeLength_7cf53 30 = .ok (.invokevirtual 94, 3) := qd_o182 0 30 qd_g747 rfl rfl
theorem dJ8_hugeLength_7cf53_33 : decode cJ8_hugeLength_7cf53 33 = .ok (.iload_n 1, 1) := qd_o27 0 33 qd_g747 rfl
theorem dJ8_hugeLength_7cf53_34 : decode cJ8_hugeLength_7cf53 34 = .ok (.invokevirtual 98, 3) := qd_o182 0 34 qd_g747 rfl rfl
theorem dJ8_hugeLength_7cf53_37 : decode cJ8_hugeLength_7cf53 37 = .ok (.ldc 210, 2) := qd_o18 0 37 qd_g747 rfl rfl
theorem qd_g748 : qd_bs cJ8_hugeLength_7cf53 39 [182, 0, 94, 182, 0, 101, 183, 0, 212, 191, 28, 18, 200, 163, 0, 6, 18, 200, 172, 28, 172] = true := by decide +kernel
theorem dJ8_hugeLength_7cf53_39 : decode cJ8_hugeLength_7cf53 39 = .ok (.invokevirtual 94, 3) := qd_o182 39 0 qd_g748 rfl rfl
theorem dJ8_hugeLength_7cf53_42 : decode cJ8_hugeLength_7cf53 42 = .ok (.invokevirtual 101, 3) := qd_o182 39 3 qd_g748 rfl rfl
theorem dJ8_hugeLength_7cf53_45 : decode cJ8_hugeLength_7cf53 45 = .ok (.invokespecial 212, 3) := qd_o183 39 6 qd_g748 rfl rfl
theorem dJ8_hugeLength_7cf53_48 : decode cJ8_hugeLength_7cf53 48 = .ok (.athrow, 1) := qd_o191 39 9 qd_g748 rfl
theorem dJ8_hugeLength_7cf53_49 : decode cJ8_hugeLength_7cf53 49 = .ok (.iload_n 2, 1) := qd_o28 39 10 qd_g748 rfl
theorem dJ8_hugeLength_7cf53_50 : decode cJ8_hugeLength_7cf53 50 = .ok (.ldc 200, 2) := qd_o18 39 11 qd_g748 rfl rfl
theorem dJ8_hugeLength_7cf53_52 : decode cJ8_hugeLength_7cf53 52 = .ok (.if_icmp .gt 6, 3) := qd_o163 39 13 qd_g748 rfl rfl
theorem dJ8_hugeLength_7cf53_55 : decode cJ8_hugeLength_7cf53 55 = .ok (.ldc 200, 2) := qd_o18 39 16 qd_g748 rfl rfl
theorem dJ8_hugeLength_7cf53_57 : decode cJ8_hugeLength_7cf53 57 = .ok (.ireturn, 1) := qd_o172 39 18 qd_g748 rfl
theorem dJ8_hugeLength_7cf53_58 : decode cJ8_hugeLength_7cf53 58 = .ok (.iload_n 2, 1) := qd_o28 39 19 qd_g748 rfl
theorem dJ8_hugeLength_7cf53_59 : decode cJ8_hugeLength_7cf53 59 = .ok (.ireturn, 1) := qd_o172 39 20 qd_g748 rfl
theorem qd_g749 : qd_bs cJ3_checkIndex_8e157 0 [26, 155, 0, 8, 26, 27, 161, 0, 10, 44, 26, 27, 184, 0, 95, 191, 26, 172] = true := by decide +kernel
theorem dJ3_checkIndex_8e157_0 : decode cJ3_checkIndex_8e157 0 = .ok (.iload_n 0, 1) := qd_o26 0 0 qd_g749 rfl
theorem dJ3_checkIndex_8e157_1 : decode cJ3_checkIndex_8e157 1 = .ok (.ifCond .lt 8, 3) := qd_o155 0 1 qd_g749 rfl rfl
theorem dJ3_checkIndex_8e157_4 : decode cJ3_checkIndex_8e157 4 = .ok (.iload_n 0, 1) := qd_o26 0 4 qd_g749 rfl
theorem dJ3_checkIndex_8e157_5 : decode cJ3_checkIndex_8e157 5 = .ok (.iload_n 1, 1) := qd_o27 0 5 qd_g749 rfl
theorem dJ3_checkIndex_8e157_6 : decode cJ3_checkIndex_8e157 6 = .ok (.if_icmp .lt 10, 3) := qd_o161 0 6 qd_g749 rfl rfl
theorem dJ3_checkIndex_8e157_9 : decode cJ3_checkIndex_8e157 9 = .ok (.aload_n 2, 1) := qd_o44 0 9 qd_g749 rfl
theorem dJ3_checkIndex_8e157_10 : decode cJ3_checkIndex_8e157 10 = .ok (.iload_n 0, 1) := qd_o26 0 10 qd_g749 rfl
theorem dJ3_checkIndex_8e157_11 : decode cJ3_checkIndex_8e157 11 = .ok (.iload_n 1, 1) := qd_o27 0 11 qd_g749 rfl
theorem dJ3_checkIndex_8e157_12 : decode cJ3_checkIndex_8e157 12 = .ok (.invokestatic 95, 3) := qd_o184 0 12 qd_g749 rfl rfl
theorem dJ3_checkIndex_8e157_15 : decode cJ3_checkIndex_8e157 15 = .ok (.athrow, 1) := qd_o191 0 15 qd_g749 rfl
theorem dJ3_checkIndex_8e157_16 : decode cJ3_checkIndex_8e157 16 = .ok (.iload_n 0, 1) := qd_o26 0 16 qd_g749 rfl
theorem dJ3_checkIndex_8e157_17 : decode cJ3_checkIndex_8e157 17 = .ok (.ireturn, 1) := qd_o172 0 17 qd_g749 rfl
theorem qd_g750 : qd_bs cJ3_checkFromToIndex_8c36e 0 [26, 155, 0, 13, 26, 27, 163, 0, 8, 27, 28, 164, 0, 11, 45, 26, 27, 28, 184, 0, 99, 191, 26, 172] = true := by decide +kernel
theorem dJ3_checkFromToIndex_8c36e_0 : decode cJ3_checkFromToIndex_8c36e 0 = .ok (.iload_n 0, 1) := qd_o26 0 0 qd_g750 rfl
theorem dJ3_checkFromToIndex_8c36e_1 : decode cJ3_checkFromToIndex_8c36e 1 = .ok (.ifCond .lt 13, 3) := qd_o155 0 1 qd_g750 rfl rfl
theorem dJ3_checkFromToIndex_8c36e_4 : decode cJ3_checkFromToIndex_8c36e 4 = .ok (.iload_n 0, 1) := qd_o26 0 4 qd_g750 rfl
theorem dJ3_checkFromToIndex_8c36e_5 : decode cJ3_checkFromToIndex_8c36e 5 = .ok (.iload_n 1, 1) := qd_o27 0 5 qd_g750 rfl
theorem dJ3_checkFromToIndex_8c36e_6 : decode cJ3_checkFromToIndex_8c36e 6 = .ok (.if_icmp .gt 8, 3) := qd_o163 0 6 qd_g750 rfl rfl
theorem dJ3_checkFromToIndex_8c36e_9 : decode cJ3_checkFromToIndex_8c36e 9 = .ok (.iload_n 1, 1) := qd_o27 0 9 qd_g750 rfl
theorem dJ3_checkFromToIndex_8c36e_10 : decode cJ3_checkFromToIndex_8c36e 10 = .ok (.iload_n 2, 1) := qd_o28 0 10 qd_g750 rfl
theorem dJ3_checkFromToIndex_8c36e_11 : decode cJ3_checkFromToIndex_8c36e 11 = .ok (.if_icmp .le 11, 3) := qd_o164 0 11 qd_g750 rfl rfl
theorem dJ3_checkFromToIndex_8c36e_14 : decode cJ3_checkFromToIndex_8c36e 14 = .ok (.aload_n 3, 1) := qd_o45 0 14 qd_g750 rfl
theorem dJ3_checkFromToIndex_8c36e_15 : decode cJ3_checkFromToIndex_8c36e 15 = .ok (.iload_n 0, 1) := qd_o26 0 15 qd_g750 rfl
theorem dJ3_checkFromToIndex_8c36e_16 : decode cJ3_checkFromToIndex_8c36e 16 = .ok (.iload_n 1, 1) := qd_o27 0 16 qd_g750 rfl
theorem dJ3_checkFromToIndex_8c36e_17 : decode cJ3_checkFromToIndex_8c36e 17 = .ok (.iload_n 2, 1) := qd_o28 0 17 qd_g750 rfl
theorem dJ3_checkFromToIndex_8c36e_18 : decode cJ3_checkFromToIndex_8c36e 18 = .ok (.invokestatic 99, 3) := qd_o184 0 18 qd_g750 rfl rfl
theorem dJ3_checkFromToIndex_8c36e_21 : decode cJ3_checkFromToIndex_8c36e 21 = .ok (.athrow, 1) := qd_o191 0 21 qd_g750 rfl
theorem dJ3_checkFromToIndex_8c36e_22 : decode cJ3_checkFromToIndex_8c36e 22 = .ok (.iload_n 0, 1) := qd_o26 0 22 qd_g750 rfl
theorem dJ3_checkFromToIndex_8c36e_23 : decode cJ3_checkFromToIndex_8c36e 23 = .ok (.ireturn, 1) := qd_o172 0 23 qd_g750 rfl
theorem qd_g751 : qd_bs cJ3_checkFromIndexSize_8c36e 0 [28, 26, 128, 27, 128, 155, 0, 10, 27, 28, 26, 100, 164, 0, 11, 45, 26, 27, 28, 184, 0, 103, 191, 26, 172] = true := by decide +kernel
theorem dJ3_checkFromIndexSize_8c36e_0 : decode cJ3_checkFromIndexSize_8c36e 0 = .ok (.iload_n 2, 1) := qd_o28 0 0 qd_g751 rfl
theorem dJ3_checkFromIndexSize_8c36e_1 : decode cJ3_checkFromIndexSize_8c36e 1 = .ok (.iload_n 0, 1) := qd_o26 0 1 qd_g751 rfl
theorem dJ3_checkFromIndexSize_8c36e_2 : decode cJ3_checkFromIndexSize_8c36e 2 = .ok (.ior, 1) := qd_o128 0 2 qd_g751 rfl
theorem dJ3_checkFromIndexSize_8c36e_3 : decode cJ3_checkFromIndexSize_8c36e 3 = .ok (.iload_n 1, 1) := qd_o27 0 3 qd_g751 rfl
theorem dJ3_checkFromIndexSize_8c36e_4 : decode cJ3_checkFromIndexSize_8c36e 4 = .ok (.ior, 1) := qd_o128 0 4 qd_g751 rfl
theorem dJ3_checkFromIndexSize_8c36e_5 : decode cJ3_checkFromIndexSize_8c36e 5 = .ok (.ifCond .lt 10, 3) := qd_o155 0 5 qd_g751 rfl rfl
theorem dJ3_checkFromIndexSize_8c36e_8 : decode cJ3_checkFromIndexSize_8c36e 8 = .ok (.iload_n 1, 1) := qd_o27 0 8 qd_g751 rfl
theorem dJ3_checkFromIndexSize_8c36e_9 : decode cJ3_checkFromIndexSize_8c36e 9 = .ok (.iload_n 2, 1) := qd_o28 0 9 qd_g751 rfl
theorem dJ3_checkFromIndexSize_8c36e_10 : decode cJ3_checkFromIndexSize_8c36e 10 = .ok (.iload_n 0, 1) := qd_o26 0 10 qd_g751 rfl
theorem dJ3_checkFromIndexSize_8c36e_11 : decode cJ3_checkFromIndexSize_8c36e 11 = .ok (.isub, 1) := qd_o100 0 11 qd_g751 rfl
theorem dJ3_checkFromIndexSize_8c36e_12 : decode cJ3_checkFromIndexSize_8c36e 12 = .ok (.if_icmp .le 11, 3) := qd_o164 0 12 qd_g751 rfl rfl
theorem dJ3_checkFromIndexSize_8c36e_15 : decode cJ3_checkFromIndexSize_8c36e 15 = .ok (.aload_n 3, 1) := qd_o45 0 15 qd_g751 rfl
theorem dJ3_checkFromIndexSize_8c36e_16 : decode cJ3_checkFromIndexSize_8c36e 16 = .ok (.iload_n 0, 1) := qd_o26 0 16 qd_g751 rfl
theorem dJ3_checkFromIndexSize_8c36e_17 : decode cJ3_checkFromIndexSize_8c36e 17 = .ok (.iload_n 1, 1) := qd_o27 0 17 qd_g751 rfl
theorem dJ3_checkFromIndexSize_8c36e_18 : decode cJ3_checkFromIndexSize_8c36e 18 = .ok (.iload_n 2, 1) := qd_o28 0 18 qd_g751 rfl
theorem dJ3_checkFromIndexSize_8c36e_19 : decode cJ3_checkFromIndexSize_8c36e 19 = .ok (.invokestatic 103, 3) := qd_o184 0 19 qd_g751 rfl rfl
theorem dJ3_checkFromIndexSize_8c36e_22 : decode cJ3_checkFromIndexSize_8c36e 22 = .ok (.athrow, 1) := qd_o191 0 22 qd_g751 rfl
theorem dJ3_checkFromIndexSize_8c36e_23 : decode cJ3_checkFromIndexSize_8c36e 23 = .ok (.iload_n 0, 1) := qd_o26 0 23 qd_g751 rfl
theorem dJ3_checkFromIndexSize_8c36e_24 : decode cJ3_checkFromIndexSize_8c36e 24 = .ok (.ireturn, 1) := qd_o172 0 24 qd_g751 rfl
theorem qd_g752 : qd_bs cL_poke 0 [45, 3, 42, 27, 28, 182, 0, 7, 133, 80, 167, 0, 11, 58, 4, 4, 172, 58, 4, 5, 172, 3, 172] = true := by decide +kernel
theorem dL_poke_0 : decode cL_poke 0 = .ok (.aload_n 3, 1) := qd_o45 0 0 qd_g752 rfl
theorem dL_poke_1 : decode cL_poke 1 = .ok (.iconst 0, 1) := qd_o3 0 1 qd_g752 rfl
theorem dL_poke_2 : decode cL_poke 2 = .ok (.aload_n 0, 1) := qd_o42 0 2 qd_g752 rfl
theorem dL_poke_3 : decode cL_poke 3 = .ok (.iload_n 1, 1) := qd_o27 0 3 qd_g752 rfl
theorem dL_poke_4 : decode cL_poke 4 = .ok (.iload_n 2, 1) := qd_o28 0 4 qd_g752 rfl
theorem dL_poke_5 : decode cL_poke 5 = .ok (.invokevirtual 7, 3) := qd_o182 0 5 qd_g752 rfl rfl
theorem dL_poke_8 : decode cL_poke 8 = .ok (.i2l, 1) := qd_o133 0 8 qd_g752 rfl
theorem dL_poke_9 : decode cL_poke 9 = .ok (.lastore, 1) := qd_o80 0 9 qd_g752 rfl
theorem dL_poke_10 : decode cL_poke 10 = .ok (.goto 11, 3) := qd_o167 0 10 qd_g752 rfl rfl
theorem dL_poke_13 : decode cL_poke 13 = .ok (.astore 4, 2) := qd_o58 0 13 qd_g752 rfl rfl
theorem dL_poke_15 : decode cL_poke 15 = .ok (.iconst 1, 1) := qd_o4 0 15 qd_g752 rfl
theorem dL_poke_16 : decode cL_poke 16 = .ok (.ireturn, 1) := qd_o172 0 16 qd_g752 rfl
theorem dL_poke_17 : decode cL_poke 17 = .ok (.astore 4, 2) := qd_o58 0 17 qd_g752 rfl rfl
theorem dL_poke_19 : decode cL_poke 19 = .ok (.iconst 2, 1) := qd_o5 0 19 qd_g752 rfl
theorem dL_poke_20 : decode cL_poke 20 = .ok (.ireturn, 1) := qd_o172 0 20 qd_g752 rfl
theorem dL_poke_21 : decode cL_poke 21 = .ok (.iconst 0, 1) := qd_o3 0 21 qd_g752 rfl
theorem dL_poke_22 : decode cL_poke 22 = .ok (.ireturn, 1) := qd_o172 0 22 qd_g752 rfl
theorem qd_g753 : qd_bs cL_pokeRom 0 [45, 3, 42, 27, 28, 182, 0, 17, 133, 80, 167, 0, 11, 58, 4, 4, 172, 58, 4, 5, 172, 3, 172] = true := by decide +kernel
theorem dL_pokeRom_0 : decode cL_pokeRom 0 = .ok (.aload_n 3, 1) := qd_o45 0 0 qd_g753 rfl
theorem dL_pokeRom_1 : decode cL_pokeRom 1 = .ok (.iconst 0, 1) := qd_o3 0 1 qd_g753 rfl
theorem dL_pokeRom_2 : decode cL_pokeRom 2 = .ok (.aload_n 0, 1) := qd_o42 0 2 qd_g753 rfl
theorem dL_pokeRom_3 : decode cL_pokeRom 3 = .ok (.iload_n 1, 1) := qd_o27 0 3 qd_g753 rfl
theorem dL_pokeRom_4 : decode cL_pokeRom 4 = .ok (.iload_n 2, 1) := qd_o28 0 4 qd_g753 rfl
theorem dL_pokeRom_5 : decode cL_pokeRom 5 = .ok (.invokevirtual 17, 3) := qd_o182 0 5 qd_g753 rfl rfl
theorem dL_pokeRom_8 : decode cL_pokeRom 8 = .ok (.i2l, 1) := qd_o133 0 8 qd_g753 rfl
theorem dL_pokeRom_9 : decode cL_pokeRom 9 = .ok (.lastore, 1) := qd_o80 0 9 qd_g753 rfl
theorem dL_pokeRom_10 : decode cL_pokeRom 10 = .ok (.goto 11, 3) := qd_o167 0 10 qd_g753 rfl rfl
theorem dL_pokeRom_13 : decode cL_pokeRom 13 = .ok (.astore 4, 2) := qd_o58 0 13 qd_g753 rfl rfl
theorem dL_pokeRom_15 : decode cL_pokeRom 15 = .ok (.iconst 1, 1) := qd_o4 0 15 qd_g753 rfl
theorem dL_pokeRom_16 : decode cL_pokeRom 16 = .ok (.ireturn, 1) := qd_o172 0 16 qd_g753 rfl
theorem dL_pokeRom_17 : decode cL_pokeRom 17 = .ok (.astore 4, 2) := qd_o58 0 17 qd_g753 rfl rfl
theorem dL_pokeRom_19 : decode cL_pokeRom 19 = .ok (.iconst 2, 1) := qd_o5 0 19 qd_g753 rfl
theorem dL_pokeRom_20 : decode cL_pokeRom 20 = .ok (.ireturn, 1) := qd_o172 0 20 qd_g753 rfl
theorem dL_pokeRom_21 : decode cL_pokeRom 21 = .ok (.iconst 0, 1) := qd_o3 0 21 qd_g753 rfl
theorem dL_pokeRom_22 : decode cL_pokeRom 22 = .ok (.ireturn, 1) := qd_o172 0 22 qd_g753 rfl
theorem qd_g754 : qd_bs cL_pokeCartridge 0 [25, 4, 3, 42, 27, 28, 29, 182, 0, 20, 133, 80, 167, 0, 11, 58, 5, 4, 172, 58, 5, 5, 172, 3, 172] = true := by decide +kernel
theorem dL_pokeCartridge_0 : decode cL_pokeCartridge 0 = .ok (.aload 4, 2) := qd_o25 0 0 qd_g754 rfl rfl
theorem dL_pokeCartridge_2 : decode cL_pokeCartridge 2 = .ok (.iconst 0, 1) := qd_o3 0 2 qd_g754 rfl
theorem dL_pokeCartridge_3 : decode cL_pokeCartridge 3 = .ok (.aload_n 0, 1) := qd_o42 0 3 qd_g754 rfl
theorem dL_pokeCartridge_4 : decode cL_pokeCartridge 4 = .ok (.iload_n 1, 1) := qd_o27 0 4 qd_g754 rfl
theorem dL_pokeCartridge_5 : decode cL_pokeCartridge 5 = .ok (.iload_n 2, 1) := qd_o28 0 5 qd_g754 rfl
theorem dL_pokeCartridge_6 : decode cL_pokeCartridge 6 = .ok (.iload_n 3, 1) := qd_o29 0 6 qd_g754 rfl
theorem dL_pokeCartridge_7 : decode cL_pokeCartridge 7 = .ok (.invokevirtual 20, 3) := qd_o182 0 7 qd_g754 rfl rfl
theorem dL_pokeCartridge_10 : decode cL_pokeCartridge 10 = .ok (.i2l, 1) := qd_o133 0 10 qd_g754 rfl
theorem dL_pokeCartridge_11 : decode cL_pokeCartridge 11 = .ok (.lastore, 1) := qd_o80 0 11 qd_g754 rfl
theorem dL_pokeCartridge_12 : decode cL_pokeCartridge 12 = .ok (.goto 11, 3) := qd_o167 0 12 qd_g754 rfl rfl
theorem dL_pokeCartridge_15 : decode cL_pokeCartridge 15 = .ok (.astore 5, 2) := qd_o58 0 15 qd_g754 rfl rfl
theorem dL_pokeCartridge_17 : decode cL_pokeCartridge 17 = .ok (.iconst 1, 1) := qd_o4 0 17 qd_g754 rfl
theorem dL_pokeCartridge_18 : decode cL_pokeCartridge 18 = .ok (.ireturn, 1) := qd_o172 0 18 qd_g754 rfl
theorem dL_pokeCartridge_19 : decode cL_pokeCartridge 19 = .ok (.astore 5, 2) := qd_o58 0 19 qd_g754 rfl rfl
theorem dL_pokeCartridge_21 : decode cL_pokeCartridge 21 = .ok (.iconst 2, 1) := qd_o5 0 21 qd_g754 rfl
theorem dL_pokeCartridge_22 : decode cL_pokeCartridge 22 = .ok (.ireturn, 1) := qd_o172 0 22 qd_g754 rfl
theorem dL_pokeCartridge_23 : decode cL_pokeCartridge 23 = .ok (.iconst 0, 1) := qd_o3 0 23 qd_g754 rfl
theorem dL_pokeCartridge_24 : decode cL_pokeCartridge 24 = .ok (.ireturn, 1) := qd_o172 0 24 qd_g754 rfl
theorem qd_g755 : qd_bs cL_peek 0 [44, 3, 42, 27, 182, 0, 24, 133, 80, 167, 0, 6, 78, 4, 172, 3, 172] = true := by decide +kernel
theorem dL_peek_0 : decode cL_peek 0 = .ok (.aload_n 2, 1) := qd_o44 0 0 qd_g755 rfl
theorem dL_peek_1 : decode cL_peek 1 = .ok (.iconst 0, 1) := qd_o3 0 1 qd_g755 rfl
theorem dL_peek_2 : decode cL_peek 2 = .ok (.aload_n 0, 1) := qd_o42 0 2 qd_g755 rfl
theorem dL_peek_3 : decode cL_peek 3 = .ok (.iload_n 1, 1) := qd_o27 0 3 qd_g755 rfl
theorem dL_peek_4 : decode cL_peek 4 = .ok (.invokevirtual 24, 3) := qd_o182 0 4 qd_g755 rfl rfl
theorem dL_peek_7 : decode cL_peek 7 = .ok (.i2l, 1) := qd_o133 0 7 qd_g755 rfl
theorem dL_peek_8 : decode cL_peek 8 = .ok (.lastore, 1) := qd_o80 0 8 qd_g755 rfl
theorem dL_peek_9 : decode cL_peek 9 = .ok (.goto 6, 3) := qd_o167 0 9 qd_g755 rfl rfl
theorem dL_peek_12 : decode cL_peek 12 = .ok (.astore_n 3, 1) := qd_o78 0 12 qd_g755 rfl
theorem dL_peek_13 : decode cL_peek 13 = .ok (.iconst 1, 1) := qd_o4 0 13 qd_g755 rfl
theorem dL_peek_14 : decode cL_peek 14 = .ok (.ireturn, 1) := qd_o172 0 14 qd_g755 rfl
theorem dL_peek_15 : decode cL_peek 15 = .ok (.iconst 0, 1) := qd_o3 0 15 qd_g755 rfl
theorem dL_peek_16 : decode cL_peek 16 = .ok (.ireturn, 1) := qd_o172 0 16 qd_g755 rfl
theorem qd_g756 : qd_bs cL_ram 0 [44, 3, 42, 27, 182, 0, 28, 133, 80, 167, 0, 6, 78, 4, 172, 3, 172] = true := by decide +kernel
theorem dL_ram_0 : decode cL_ram 0 = .ok (.aload_n 2, 1) := qd_o44 0 0 qd_g756 rfl
theorem dL_ram_1 : decode cL_ram 1 = .ok (.iconst 0, 1) := qd_o3 0 1 qd_g756 rfl
theorem dL_ram_2 : decode cL_ram 2 = .ok (.aload_n 0, 1) := qd_o42 0 2 qd_g756 rfl
theorem dL_ram_3 : decode cL_ram 3 = .ok (.iload_n 1, 1) := qd_o27 0 3 qd_g756 rfl
theorem dL_ram_4 : decode cL_ram 4 = .ok (.invokevirtual 28, 3) := qd_o182 0 4 qd_g756 rfl rfl
theorem dL_ram_7 : decode cL_ram 7 = .ok (.i2l, 1) := qd_o133 0 7 qd_g756 rfl
theorem dL_ram_8 : decode cL_ram 8 = .ok (.lastore, 1) := qd_o80 0 8 qd_g756 rfl
theorem dL_ram_9 : decode cL_ram 9 = .ok (.goto 6, 3) := qd_o167 0 9 qd_g756 rfl rfl
theorem dL_ram_12 : decode cL_ram 12 = .ok (.astore_n 3, 1) := qd_o78 0 12 qd_g756 rfl
theorem dL_ram_13 : decode cL_ram 13 = .ok (.iconst 1, 1) := qd_o4 0 13 qd_g756 rfl
theorem dL_ram_14 : decode cL_ram 14 = .ok (.ireturn, 1) := qd_o172 0 14 qd_g756 rfl
theorem dL_ram_15 : decode cL_ram 15 = .ok (.iconst 0, 1) := qd_o3 0 15 qd_g756 rfl
theorem dL_ram_16 : decode cL_ram 16 = .ok (.ireturn, 1) := qd_o172 0 16 qd_g756 rfl
theorem qd_g757 : qd_bs cL_assemble 0 [25, 4, 3, 42, 27, 28, 29, 182, 0, 31, 133, 80, 167, 0, 11, 58, 5, 4, 172, 58, 5, 5, 172, 3, 172] = true := by decide +kernel
theorem dL_assemble_0 : decode cL_assemble 0 = .ok (.aload 4, 2) := qd_o25 0 0 qd_g757 rfl rfl
theorem dL_assemble_2 : decode cL_assemble 2 = .ok (.iconst 0, 1) := qd_o3 0 2 qd_g757 rfl
theorem dL_assemble_3 : decode cL_assemble 3 = .ok (.aload_n 0, 1) := qd_o42 0 3 qd_g757 rfl
theorem dL_assemble_4 : decode cL_assemble 4 = .ok (.iload_n 1, 1) := qd_o27 0 4 qd_g757 rfl
theorem dL_assemble_5 : decode cL_assemble 5 = .ok (.iload_n 2, 1) := qd_o28 0 5 qd_g757 rfl
theorem dL_assemble_6 : decode cL_assemble 6 = .ok (.iload_n 3, 1) := qd_o29 0 6 qd_g757 rfl
theorem dL_assemble_7 : decode cL_assemble 7 = .ok (.invokevirtual 31, 3) := qd_o182 0 7 qd_g757 rfl rfl
theorem dL_assemble_10 : decode cL_assemble 10 = .ok (.i2l, 1) := qd_o133 0 10 qd_g757 rfl
theorem dL_assemble_11 : decode cL_assemble 11 = .ok (.lastore, 1) := qd_o80 0 11 qd_g757 rfl
theorem dL_assemble_12 : decode cL_assemble 12 = .ok (.goto 11, 3) := qd_o167 0 12 qd_g757 rfl rfl
theorem dL_assemble_15 : decode cL_assemble 15 = .ok (.astore 5, 2) := qd_o58 0 15 qd_g757 rfl rfl
theorem dL_assemble_17 : decode cL_assemble 17 = .ok (.iconst 1, 1) := qd_o4 0 17 qd_g757 rfl
theorem dL_assemble_18 : decode cL_assemble 18 = .ok (.ireturn, 1) := qd_o172 0 18 qd_g757 rfl
theorem dL_assemble_19 : decode cL_assemble 19 = .ok (.astore 5, 2) := qd_o58 0 19 qd_g757 rfl rfl
theorem dL_assemble_21 : decode cL_assemble 21 = .ok (.iconst 2, 1) := qd_o5 0 21 qd_g757 rfl
theorem dL_assemble_22 : decode cL_assemble 22 = .ok (.ireturn, 1) := qd_o172 0 22 qd_g757 rfl
theorem dL_assemble_23 : decode cL_assemble 23 = .ok (.iconst 0, 1) := qd_o3 0 23 qd_g757 rfl
theorem dL_assemble_24 : decode cL_assemble 24 = .ok (.ireturn, 1) := qd_o172 0 24 qd_g757 rfl
theorem qd_g758 : qd_bs cL_writeLine 0 [44, 3, 42, 27, 182, 0, 34, 133, 80, 167, 0, 6, 78, 4, 172, 3, 172] = true := by decide +kernel
theorem dL_writeLine_0 : decode cL_writeLine 0 = .ok (.aload_n 2, 1) := qd_o44 0 0 qd_g758 rfl
theorem dL_writeLine_1 : decode cL_writeLine 1 = .ok (.iconst 0, 1) := qd_o3 0 1 qd_g758 rfl
theorem dL_writeLine_2 : decode cL_writeLine 2 = .ok (.aload_n 0, 1) := qd_o42 0 2 qd_g758 rfl
theorem dL_writeLine_3 : decode cL_writeLine 3 = .ok (.iload_n 1, 1) := qd_o27 0 3 qd_g758 rfl
theorem dL_writeLine_4 : decode cL_writeLine 4 = .ok (.invokevirtual 34, 3) := qd_o182 0 4 qd_g758 rfl rfl
theorem dL_writeLine_7 : decode cL_writeLine 7 = .ok (.i2l, 1) := qd_o133 0 7 qd_g758 rfl
theorem dL_writeLine_8 : decode cL_writeLine 8 = .ok (.lastore, 1) := qd_o80 0 8 qd_g758 rfl
theorem dL_writeLine_9 : decode cL_writeLine 9 = .ok (.goto 6, 3) := qd_o167 0 9 qd_g758 rfl rfl
theorem dL_writeLine_12 : decode cL_writeLine 12 = .ok (.astore_n 3, 1) := qd_o78 0 12 qd_g758 rfl
theorem dL_writeLine_13 : decode cL_writeLine 13 = .ok (.iconst 1, 1) := qd_o4 0 13 qd_g758 rfl
theorem dL_writeLine_14 : decode cL_writeLine 14 = .ok (.ireturn, 1) := qd_o172 0 14 qd_g758 rfl
theorem dL_writeLine_15 : decode cL_writeLine 15 = .ok (.iconst 0, 1) := qd_o3 0 15 qd_g758 rfl
theorem dL_writeLine_16 : decode cL_writeLine 16 = .ok (.ireturn, 1) := qd_o172 0 16 qd_g758 rfl
theorem qd_g759 : qd_bs cL_lineAt 0 [44, 3, 42, 27, 182, 0, 37, 133, 80, 167, 0, 6, 78, 4, 172, 3, 172] = true := by decide +kernel
theorem dL_lineAt_0 : decode cL_lineAt 0 = .ok (.aload_n 2, 1) := qd_o44 0 0 qd_g759 rfl
theorem dL_lineAt_1 : decode cL_lineAt 1 = .ok (.iconst 0, 1) := qd_o3 0 1 qd_g759 rfl
theorem dL_lineAt_2 : decode cL_lineAt 2 = .ok (.aload_n 0, 1) := qd_o42 0 2 qd_g759 rfl
theorem dL_lineAt_3 : decode cL_lineAt 3 = .ok (.iload_n 1, 1) := qd_o27 0 3 qd_g759 rfl
theorem dL_lineAt_4 : decode cL_lineAt 4 = .ok (.invokevirtual 37, 3) := qd_o182 0 4 qd_g759 rfl rfl
theorem dL_lineAt_7 : decode cL_lineAt 7 = .ok (.i2l, 1) := qd_o133 0 7 qd_g759 rfl
theorem dL_lineAt_8 : decode cL_lineAt 8 = .ok (.lastore, 1) := qd_o80 0 8 qd_g759 rfl
theorem dL_lineAt_9 : decode cL_lineAt 9 = .ok (.goto 6, 3) := qd_o167 0 9 qd_g759 rfl rfl
theorem dL_lineAt_12 : decode cL_lineAt 12 = .ok (.astore_n 3, 1) := qd_o78 0 12 qd_g759 rfl
theorem dL_lineAt_13 : decode cL_lineAt 13 = .ok (.iconst 1, 1) := qd_o4 0 13 qd_g759 rfl
theorem dL_lineAt_14 : decode cL_lineAt 14 = .ok (.ireturn, 1) := qd_o172 0 14 qd_g759 rfl
theorem dL_lineAt_15 : decode cL_lineAt 15 = .ok (.iconst 0, 1) := qd_o3 0 15 qd_g759 rfl
theorem dL_lineAt_16 : decode cL_lineAt 16 = .ok (.ireturn, 1) := qd_o172 0 16 qd_g759 rfl
theorem qd_g760 : qd_bs cL_compare 0 [25, 4, 3, 42, 27, 28, 29, 182, 0, 41, 133, 80, 167, 0, 11, 58, 5, 4, 172, 58, 5, 5, 172, 3, 172] = true := by decide +kernel
theorem dL_compare_0 : decode cL_compare 0 = .ok (.aload 4, 2) := qd_o25 0 0 qd_g760 rfl rfl
theorem dL_compare_2 : decode cL_compare 2 = .ok (.iconst 0, 1) := qd_o3 0 2 qd_g760 rfl
theorem dL_compare_3 : decode cL_compare 3 = .ok (.aload_n 0, 1) := qd_o42 0 3 qd_g760 rfl
theorem dL_compare_4 : decode cL_compare 4 = .ok (.iload_n 1, 1) := qd_o27 0 4 qd_g760 rfl
theorem dL_compare_5 : decode cL_compare 5 = .ok (.iload_n 2, 1) := qd_o28 0 5 qd_g760 rfl
theorem dL_compare_6 : decode cL_compare 6 = .ok (.iload_n 3, 1) := qd_o29 0 6 qd_g760 rfl
theorem dL_compare_7 : decode cL_compare 7 = .ok (.invokevirtual 41, 3) := qd_o182 0 7 qd_g760 rfl rfl
theorem dL_compare_10 : decode cL_compare 10 = .ok (.i2l, 1) := qd_o133 0 10 qd_g760 rfl
theorem dL_compare_11 : decode cL_compare 11 = .ok (.lastore, 1) := qd_o80 0 11 qd_g760 rfl
theorem dL_compare_12 : decode cL_compare 12 = .ok (.goto 11, 3) := qd_o167 0 12 qd_g760 rfl rfl
theorem dL_compare_15 : decode cL_compare 15 = .ok (.astore 5, 2) := qd_o58 0 15 qd_g760 rfl rfl
theorem dL_compare_17 : decode cL_compare 17 = .ok (.iconst 1, 1) := qd_o4 0 17 qd_g760 rfl
theorem dL_compare_18 : decode cL_compare 18 = .ok (.ireturn, 1) := qd_o172 0 18 qd_g760 rfl
theorem dL_compare_19 : decode cL_compare 19 = .ok (.astore 5, 2) := qd_o58 0 19 qd_g760 rfl rfl
theorem dL_compare_21 : decode cL_compare 21 = .ok (.iconst 2, 1) := qd_o5 0 21 qd_g760 rfl
theorem dL_compare_22 : decode cL_compare 22 = .ok (.ireturn, 1) := qd_o172 0 22 qd_g760 rfl
theorem dL_compare_23 : decode cL_compare 23 = .ok (.iconst 0, 1) := qd_o3 0 23 qd_g760 rfl
theorem dL_compare_24 : decode cL_compare 24 = .ok (.ireturn, 1) := qd_o172 0 24 qd_g760 rfl
theorem qd_g761 : qd_bs cL_register 0 [44, 3, 42, 27, 182, 0, 44, 133, 80, 167, 0, 6, 78, 4, 172, 3, 172] = true := by decide +kernel
theorem dL_register_0 : decode cL_register 0 = .ok (.aload_n 2, 1) := qd_o44 0 0 qd_g761 rfl
theorem dL_register_1 : decode cL_register 1 = .ok (.iconst 0, 1) := qd_o3 0 1 qd_g761 rfl
theorem dL_register_2 : decode cL_register 2 = .ok (.aload_n 0, 1) := qd_o42 0 2 qd_g761 rfl
theorem dL_register_3 : decode cL_register 3 = .ok (.iload_n 1, 1) := qd_o27 0 3 qd_g761 rfl
theorem dL_register_4 : decode cL_register 4 = .ok (.invokevirtual 44, 3) := qd_o182 0 4 qd_g761 rfl rfl
theorem dL_register_7 : decode cL_register 7 = .ok (.i2l, 1) := qd_o133 0 7 qd_g761 rfl
theorem dL_register_8 : decode cL_register 8 = .ok (.lastore, 1) := qd_o80 0 8 qd_g761 rfl
theorem dL_register_9 : decode cL_register 9 = .ok (.goto 6, 3) := qd_o167 0 9 qd_g761 rfl rfl
theorem dL_register_12 : decode cL_register 12 = .ok (.astore_n 3, 1) := qd_o78 0 12 qd_g761 rfl
theorem dL_register_13 : decode cL_register 13 = .ok (.iconst 1, 1) := qd_o4 0 13 qd_g761 rfl
theorem dL_register_14 : decode cL_register 14 = .ok (.ireturn, 1) := qd_o172 0 14 qd_g761 rfl
theorem dL_register_15 : decode cL_register 15 = .ok (.iconst 0, 1) := qd_o3 0 15 qd_g761 rfl
theorem dL_register_16 : decode cL_register 16 = .ok (.ireturn, 1) := qd_o172 0 16 qd_g761 rfl
theorem qd_g762 : qd_bs cL_setRegister 0 [45, 3, 42, 27, 28, 182, 0, 47, 133, 80, 167, 0, 15, 58, 4, 4, 172, 58, 4, 5, 172, 58, 4, 6, 172, 3, 172] = true := by decide +kernel
theorem dL_setRegister_0 : decode cL_setRegister 0 = .ok (.aload_n 3, 1) := qd_o45 0 0 qd_g762 rfl
theorem dL_setRegister_1 : decode cL_setRegister 1 = .ok (.iconst 0, 1) := qd_o3 0 1 qd_g762 rfl
theorem dL_setRegister_2 : decode cL_setRegister 2 = .ok (.aload_n 0, 1) := qd_o42 0 2 qd_g762 rfl
theorem dL_setRegister_3 : decode cL_setRegister 3 = .ok (.iload_n 1, 1) := qd_o27 0 3 qd_g762 rfl
theorem dL_setRegister_4 : decode cL_setRegister 4 = .ok (.iload_n 2, 1) := qd_o28 0 4 qd_g762 rfl
theorem dL_setRegister_5 : decode cL_setRegister 5 = .ok (.invokevirtual 47, 3) := qd_o182 0 5 qd_g762 rfl rfl
theorem dL_setRegister_8 : decode cL_setRegister 8 = .ok (.i2l, 1) := qd_o133 0 8 qd_g762 rfl
theorem dL_setRegister_9 : decode cL_setRegister 9 = .ok (.lastore, 1) := qd_o80 0 9 qd_g762 rfl
theorem dL_setRegister_10 : decode cL_setRegister 10 = .ok (.goto 15, 3) := qd_o167 0 10 qd_g762 rfl rfl
theorem dL_setRegister_13 : decode cL_setRegister 13 = .ok (.astore 4, 2) := qd_o58 0 13 qd_g762 rfl rfl
theorem dL_setRegister_15 : decode cL_setRegister 15 = .ok (.iconst 1, 1) := qd_o4 0 15 qd_g762 rfl
theorem dL_setRegister_16 : decode cL_setRegister 16 = .ok (.ireturn, 1) := qd_o172 0 16 qd_g762 rfl
theorem dL_setRegister_17 : decode cL_setRegister 17 = .ok (.astore 4, 2) := qd_o58 0 17 qd_g762 rfl rfl
theorem dL_setRegister_19 : decode cL_setRegister 19 = .ok (.iconst 2, 1) := qd_o5 0 19 qd_g762 rfl
theorem dL_setRegister_20 : decode cL_setRegister 20 = .ok (.ireturn, 1) := qd_o172 0 20 qd_g762 rfl
theorem dL_setRegister_21 : decode cL_setRegister 21 = .ok (.astore 4, 2) := qd_o58 0 21 qd_g762 rfl rfl
theorem dL_setRegister_23 : decode cL_setRegister 23 = .ok (.iconst 3, 1) := qd_o6 0 23 qd_g762 rfl
theorem dL_setRegister_24 : decode cL_setRegister 24 = .ok (.ireturn, 1) := qd_o172 0 24 qd_g762 rfl
theorem dL_setRegister_25 : decode cL_setRegister 25 = .ok (.iconst 0, 1) := qd_o3 0 25 qd_g762 rfl
theorem dL_setRegister_26 : decode cL_setRegister 26 = .ok (.ireturn, 1) := qd_o172 0 26 qd_g762 rfl
theorem qd_g763 : qd_bs cL_run 0 [44, 3, 42, 27, 182, 0, 52, 133, 80, 167, 0, 6, 78, 4, 172, 3, 172] = true := by decide +kernel
theorem dL_run_0 : decode cL_run 0 = .ok (.aload_n 2, 1) := qd_o44 0 0 qd_g763 rfl
theorem dL_run_1 : decode cL_run 1 = .ok (.iconst 0, 1) := qd_o3 0 1 qd_g763 rfl
theorem dL_run_2 : decode cL_run 2 = .ok (.aload_n 0, 1) := qd_o42 0 2 qd_g763 rfl
theorem dL_run_3 : decode cL_run 3 = .ok (.iload_n 1, 1) := qd_o27 0 3 qd_g763 rfl
theorem dL_run_4 : decode cL_run 4 = .ok (.invokevirtual 52, 3) := qd_o182 0 4 qd_g763 rfl rfl
theorem dL_run_7 : decode cL_run 7 = .ok (.i2l, 1) := qd_o133 0 7 qd_g763 rfl
theorem dL_run_8 : decode cL_run 8 = .ok (.lastore, 1) := qd_o80 0 8 qd_g763 rfl
theorem dL_run_9 : decode cL_run 9 = .ok (.goto 6, 3) := qd_o167 0 9 qd_g763 rfl rfl
theorem dL_run_12 : decode cL_run 12 = .ok (.astore_n 3, 1) := qd_o78 0 12 qd_g763 rfl
theorem dL_run_13 : decode cL_run 13 = .ok (.iconst 1, 1) := qd_o4 0 13 qd_g763 rfl
theorem dL_run_14 : decode cL_run 14 = .ok (.ireturn, 1) := qd_o172 0 14 qd_g763 rfl
theorem dL_run_15 : decode cL_run 15 = .ok (.iconst 0, 1) := qd_o3 0 15 qd_g763 rfl
theorem dL_run_16 : decode cL_run 16 = .ok (.ireturn, 1) := qd_o172 0 16 qd_g763 rfl
theorem qd_g764 : qd_bs cL_step 0 [43, 3, 42, 182, 0, 55, 133, 80, 167, 0, 6, 77, 4, 172, 3, 172] = true := by decide +kernel
theorem dL_step_0 : decode cL_step 0 = .ok (.aload_n 1, 1) := qd_o43 0 0 qd_g764 rfl
theorem dL_step_1 : decode cL_step 1 = .ok (.iconst 0, 1) := qd_o3 0 1 qd_g764 rfl
theorem dL_step_2 : decode cL_step 2 = .ok (.aload_n 0, 1) := qd_o42 0 2 qd_g764 rfl
theorem dL_step_3 : decode cL_step 3 = .ok (.invokevirtual 55, 3) := qd_o182 0 3 qd_g764 rfl rfl
theorem dL_step_6 : decode cL_step 6 = .ok (.i2l, 1) := qd_o133 0 6 qd_g764 rfl
theorem dL_step_7 : decode cL_step 7 = .ok (.lastore, 1) := qd_o80 0 7 qd_g764 rfl
theorem dL_step_8 : decode cL_step 8 = .ok (.goto 6, 3) := qd_o167 0 8 qd_g764 rfl rfl
theorem dL_step_11 : decode cL_step 11 = .ok (.astore_n 2, 1) := qd_o77 0 11 qd_g764 rfl
theorem dL_step_12 : decode cL_step 12 = .ok (.iconst 1, 1) := qd_o4 0 12 qd_g764 rfl
theorem dL_step_13 : decode cL_step 13 = .ok (.ireturn, 1) := qd_o172 0 13 qd_g764 rfl
theorem dL_step_14 : decode cL_step 14 = .ok (.iconst 0, 1) := qd_o3 0 14 qd_g764 rfl
theorem dL_step_15 : decode cL_step 15 = .ok (.ireturn, 1) := qd_o172 0 15 qd_g764 rfl
theorem qd_g765 : qd_bs cL_traceAt 0 [44, 3, 42, 27, 182, 0, 59, 133, 80, 167, 0, 6, 78, 4, 172, 3, 172] = true := by decide +kernel
theorem dL_traceAt_0 : decode cL_traceAt 0 = .ok (.aload_n 2, 1) := qd_o44 0 0 qd_g765 rfl
theorem dL_traceAt_1 : decode cL_traceAt 1 = .ok (.iconst 0, 1) := qd_o3 0 1 qd_g765 rfl
theorem dL_traceAt_2 : decode cL_traceAt 2 = .ok (.aload_n 0, 1) := qd_o42 0 2 qd_g765 rfl
theorem dL_traceAt_3 : decode cL_traceAt 3 = .ok (.iload_n 1, 1) := qd_o27 0 3 qd_g765 rfl
theorem dL_traceAt_4 : decode cL_traceAt 4 = .ok (.invokevirtual 59, 3) := qd_o182 0 4 qd_g765 rfl rfl
theorem dL_traceAt_7 : decode cL_traceAt 7 = .ok (.i2l, 1) := qd_o133 0 7 qd_g765 rfl
theorem dL_traceAt_8 : decode cL_traceAt 8 = .ok (.lastore, 1) := qd_o80 0 8 qd_g765 rfl
theorem dL_traceAt_9 : decode cL_traceAt 9 = .ok (.goto 6, 3) := qd_o167 0 9 qd_g765 rfl rfl
theorem dL_traceAt_12 : decode cL_traceAt 12 = .ok (.astore_n 3, 1) := qd_o78 0 12 qd_g765 rfl
theorem dL_traceAt_13 : decode cL_traceAt 13 = .ok (.iconst 1, 1) := qd_o4 0 13 qd_g765 rfl
theorem dL_traceAt_14 : decode cL_traceAt 14 = .ok (.ireturn, 1) := qd_o172 0 14 qd_g765 rfl
theorem dL_traceAt_15 : decode cL_traceAt 15 = .ok (.iconst 0, 1) := qd_o3 0 15 qd_g765 rfl
theorem dL_traceAt_16 : decode cL_traceAt 16 = .ok (.ireturn, 1) := qd_o172 0 16 qd_g765 rfl
theorem qd_g766 : qd_bs cL_pixel 0 [45, 3, 42, 27, 28, 182, 0, 62, 133, 80, 167, 0, 7, 58, 4, 4, 172, 3, 172] = true := by decide +kernel
theorem dL_pixel_0 : decode cL_pixel 0 = .ok (.aload_n 3, 1) := qd_o45 0 0 qd_g766 rfl
theorem dL_pixel_1 : decode cL_pixel 1 = .ok (.iconst 0, 1) := qd_o3 0 1 qd_g766 rfl
theorem dL_pixel_2 : decode cL_pixel 2 = .ok (.aload_n 0, 1) := qd_o42 0 2 qd_g766 rfl
theorem dL_pixel_3 : decode cL_pixel 3 = .ok (.iload_n 1, 1) := qd_o27 0 3 qd_g766 rfl
theorem dL_pixel_4 : decode cL_pixel 4 = .ok (.iload_n 2, 1) := qd_o28 0 4 qd_g766 rfl
theorem dL_pixel_5 : decode cL_pixel 5 = .ok (.invokevirtual 62, 3) := qd_o182 0 5 qd_g766 rfl rfl
theorem dL_pixel_8 : decode cL_pixel 8 = .ok (.i2l, 1) := qd_o133 0 8 qd_g766 rfl
theorem dL_pixel_9 : decode cL_pixel 9 = .ok (.lastore, 1) := qd_o80 0 9 qd_g766 rfl
theorem dL_pixel_10 : decode cL_pixel 10 = .ok (.goto 7, 3) := qd_o167 0 10 qd_g766 rfl rfl
theorem dL_pixel_13 : decode cL_pixel 13 = .ok (.astore 4, 2) := qd_o58 0 13 qd_g766 rfl rfl
theorem dL_pixel_15 : decode cL_pixel 15 = .ok (.iconst 1, 1) := qd_o4 0 15 qd_g766 rfl
theorem dL_pixel_16 : decode cL_pixel 16 = .ok (.ireturn, 1) := qd_o172 0 16 qd_g766 rfl
theorem dL_pixel_17 : decode cL_pixel 17 = .ok (.iconst 0, 1) := qd_o3 0 17 qd_g766 rfl
theorem dL_pixel_18 : decode cL_pixel 18 = .ok (.ireturn, 1) := qd_o172 0 18 qd_g766 rfl
theorem qd_g767 : qd_bs cL_pixelAgain 0 [45, 3, 42, 27, 28, 182, 0, 65, 133, 80, 167, 0, 7, 58, 4, 4, 172, 3, 172] = true := by decide +kernel
theorem dL_pixelAgain_0 : decode cL_pixelAgain 0 = .ok (.aload_n 3, 1) := qd_o45 0 0 qd_g767 rfl
theorem dL_pixelAgain_1 : decode cL_pixelAgain 1 = .ok (.iconst 0, 1) := qd_o3 0 1 qd_g767 rfl
theorem dL_pixelAgain_2 : decode cL_pixelAgain 2 = .ok (.aload_n 0, 1) := qd_o42 0 2 qd_g767 rfl
theorem dL_pixelAgain_3 : decode cL_pixelAgain 3 = .ok (.iload_n 1, 1) := qd_o27 0 3 qd_g767 rfl
theorem dL_pixelAgain_4 : decode cL_pixelAgain 4 = .ok (.iload_n 2, 1) := qd_o28 0 4 qd_g767 rfl
theorem dL_pixelAgain_5 : decode cL_pixelAgain 5 = .ok (.invokevirtual 65, 3) := qd_o182 0 5 qd_g767 rfl rfl
theorem dL_pixelAgain_8 : decode cL_pixelAgain 8 = .ok (.i2l, 1) := qd_o133 0 8 qd_g767 rfl
theorem dL_pixelAgain_9 : decode cL_pixelAgain 9 = .ok (.lastore, 1) := qd_o80 0 9 qd_g767 rfl
theorem dL_pixelAgain_10 : decode cL_pixelAgain 10 = .ok (.goto 7, 3) := qd_o167 0 10 qd_g767 rfl rfl
theorem dL_pixelAgain_13 : decode cL_pixelAgain 13 = .ok (.astore 4, 2) := qd_o58 0 13 qd_g767 rfl rfl
theorem dL_pixelAgain_15 : decode cL_pixelAgain 15 = .ok (.iconst 1, 1) := qd_o4 0 15 qd_g767 rfl
theorem dL_pixelAgain_16 : decode cL_pixelAgain 16 = .ok (.ireturn, 1) := qd_o172 0 16 qd_g767 rfl
theorem dL_pixelAgain_17 : decode cL_pixelAgain 17 = .ok (.iconst 0, 1) := qd_o3 0 17 qd_g767 rfl
theorem dL_pixelAgain_18 : decode cL_pixelAgain 18 = .ok (.ireturn, 1) := qd_o172 0 18 qd_g767 rfl
theorem qd_g768 : qd_bs cL_sample 0 [44, 3, 42, 27, 182, 0, 68, 133, 80, 167, 0, 6, 78, 4, 172, 3, 172] = true := by decide +kernel
theorem dL_sample_0 : decode cL_sample 0 = .ok (.aload_n 2, 1) := qd_o44 0 0 qd_g768 rfl
theorem dL_sample_1 : decode cL_sample 1 = .ok (.iconst 0, 1) := qd_o3 0 1 qd_g768 rfl
theorem dL_sample_2 : decode cL_sample 2 = .ok (.aload_n 0, 1) := qd_o42 0 2 qd_g768 rfl
theorem dL_sample_3 : decode cL_sample 3 = .ok (.iload_n 1, 1) := qd_o27 0 3 qd_g768 rfl
theorem dL_sample_4 : decode cL_sample 4 = .ok (.invokevirtual 68, 3) := qd_o182 0 4 qd_g768 rfl rfl
theorem dL_sample_7 : decode cL_sample 7 = .ok (.i2l, 1) := qd_o133 0 7 qd_g768 rfl
theorem dL_sample_8 : decode cL_sample 8 = .ok (.lastore, 1) := qd_o80 0 8 qd_g768 rfl
theorem dL_sample_9 : decode cL_sample 9 = .ok (.goto 6, 3) := qd_o167 0 9 qd_g768 rfl rfl
theorem dL_sample_12 : decode cL_sample 12 = .ok (.astore_n 3, 1) := qd_o78 0 12 qd_g768 rfl
theorem dL_sample_13 : decode cL_sample 13 = .ok (.iconst 1, 1) := qd_o4 0 13 qd_g768 rfl
theorem dL_sample_14 : decode cL_sample 14 = .ok (.ireturn, 1) := qd_o172 0 14 qd_g768 rfl
theorem dL_sample_15 : decode cL_sample 15 = .ok (.iconst 0, 1) := qd_o3 0 15 qd_g768 rfl
theorem dL_sample_16 : decode cL_sample 16 = .ok (.ireturn, 1) := qd_o172 0 16 qd_g768 rfl
theorem qd_g769 : qd_bs cL_level 0 [44, 3, 42, 27, 182, 0, 71, 133, 80, 167, 0, 6, 78, 4, 172, 3, 172] = true := by decide +kernel
theorem dL_level_0 : decode cL_level 0 = .ok (.aload_n 2, 1) := qd_o44 0 0 qd_g769 rfl
theorem dL_level_1 : decode cL_level 1 = .ok (.iconst 0, 1) := qd_o3 0 1 qd_g769 rfl
theorem dL_level_2 : decode cL_level 2 = .ok (.aload_n 0, 1) := qd_o42 0 2 qd_g769 rfl
theorem dL_level_3 : decode cL_level 3 = .ok (.iload_n 1, 1) := qd_o27 0 3 qd_g769 rfl
theorem dL_level_4 : decode cL_level 4 = .ok (.invokevirtual 71, 3) := qd_o182 0 4 qd_g769 rfl rfl
theorem dL_level_7 : decode cL_level 7 = .ok (.i2l, 1) := qd_o133 0 7 qd_g769 rfl
theorem dL_level_8 : decode cL_level 8 = .ok (.lastore, 1) := qd_o80 0 8 qd_g769 rfl
theorem dL_level_9 : decode cL_level 9 = .ok (.goto 6, 3) := qd_o167 0 9 qd_g769 rfl rfl
theorem dL_level_12 : decode cL_level 12 = .ok (.astore_n 3, 1) := qd_o78 0 12 qd_g769 rfl
theorem dL_level_13 : decode cL_level 13 = .ok (.iconst 1, 1) := qd_o4 0 13 qd_g769 rfl
theorem dL_level_14 : decode cL_level 14 = .ok (.ireturn, 1) := qd_o172 0 14 qd_g769 rfl
theorem dL_level_15 : decode cL_level 15 = .ok (.iconst 0, 1) := qd_o3 0 15 qd_g769 rfl
theorem dL_level_16 : decode cL_level 16 = .ok (.ireturn, 1) := qd_o172 0 16 qd_g769 rfl
theorem qd_g770 : qd_bs cL_key 0 [25, 4, 3, 42, 27, 28, 29, 182, 0, 74, 153, 0, 7, 10, 167, 0, 4, 9, 80, 167, 0, 7, 58, 5, 4, 172, 3, 172] = true := by decide +kernel
theorem dL_key_0 : decode cL_key 0 = .ok (.aload 4, 2) := qd_o25 0 0 qd_g770 rfl rfl
theorem dL_key_2 : decode cL_key 2 = .ok (.iconst 0, 1) := qd_o3 0 2 qd_g770 rfl
theorem dL_key_3 : decode cL_key 3 = .ok (.aload_n 0, 1) := qd_o42 0 3 qd_g770 rfl
theorem dL_key_4 : decode cL_key 4 = .ok (.iload_n 1, 1) := qd_o27 0 4 qd_g770 rfl
theorem dL_key_5 : decode cL_key 5 = .ok (.iload_n 2, 1) := qd_o28 0 5 qd_g770 rfl
theorem dL_key_6 : decode cL_key 6 = .ok (.iload_n 3, 1) := qd_o29 0 6 qd_g770 rfl
theorem dL_key_7 : decode cL_key 7 = .ok (.invokevirtual 74, 3) := qd_o182 0 7 qd_g770 rfl rfl
theorem dL_key_10 : decode cL_key 10 = .ok (.ifCond .eq 7, 3) := qd_o153 0 10 qd_g770 rfl rfl
theorem dL_key_13 : decode cL_key 13 = .ok (.lconst 1, 1) := qd_o10 0 13 qd_g770 rfl
theorem dL_key_14 : decode cL_key 14 = .ok (.goto 4, 3) := qd_o167 0 14 qd_g770 rfl rfl
theorem dL_key_17 : decode cL_key 17 = .ok (.lconst 0, 1) := qd_o9 0 17 qd_g770 rfl
theorem dL_key_18 : decode cL_key 18 = .ok (.lastore, 1) := qd_o80 0 18 qd_g770 rfl
theorem dL_key_19 : decode cL_key 19 = .ok (.goto 7, 3) := qd_o167 0 19 qd_g770 rfl rfl
theorem dL_key_22 : decode cL_key 22 = .ok (.astore 5, 2) := qd_o58 0 22 qd_g770 rfl rfl
theorem dL_key_24 : decode cL_key 24 = .ok (.iconst 1, 1) := qd_o4 0 24 qd_g770 rfl
theorem dL_key_25 : decode cL_key 25 = .ok (.ireturn, 1) := qd_o172 0 25 qd_g770 rfl
theorem dL_key_26 : decode cL_key 26 = .ok (.iconst 0, 1) := qd_o3 0 26 qd_g770 rfl
theorem dL_key_27 : decode cL_key 27 = .ok (.ireturn, 1) := qd_o172 0 27 qd_g770 rfl
theorem qd_g771 : qd_bs cL_columns 0 [44, 3, 42, 27, 182, 0, 78, 133, 80, 167, 0, 6, 78, 4, 172, 3, 172] = true := by decide +kernel
theorem dL_columns_0 : decode cL_columns 0 = .ok (.aload_n 2, 1) := qd_o44 0 0 qd_g771 rfl
theorem dL_columns_1 : decode cL_columns 1 = .ok (.iconst 0, 1) := qd_o3 0 1 qd_g771 rfl
theorem dL_columns_2 : decode cL_columns 2 = .ok (.aload_n 0, 1) := qd_o42 0 2 qd_g771 rfl
theorem dL_columns_3 : decode cL_columns 3 = .ok (.iload_n 1, 1) := qd_o27 0 3 qd_g771 rfl
theorem dL_columns_4 : decode cL_columns 4 = .ok (.invokevirtual 78, 3) := qd_o182 0 4 qd_g771 rfl rfl
theorem dL_columns_7 : decode cL_columns 7 = .ok (.i2l, 1) := qd_o133 0 7 qd_g771 rfl
theorem dL_columns_8 : decode cL_columns 8 = .ok (.lastore, 1) := qd_o80 0 8 qd_g771 rfl
theorem dL_columns_9 : decode cL_columns 9 = .ok (.goto 6, 3) := qd_o167 0 9 qd_g771 rfl rfl
theorem dL_columns_12 : decode cL_columns 12 = .ok (.astore_n 3, 1) := qd_o78 0 12 qd_g771 rfl
theorem dL_columns_13 : decode cL_columns 13 = .ok (.iconst 1, 1) := qd_o4 0 13 qd_g771 rfl
theorem dL_columns_14 : decode cL_columns 14 = .ok (.ireturn, 1) := qd_o172 0 14 qd_g771 rfl
theorem dL_columns_15 : decode cL_columns 15 = .ok (.iconst 0, 1) := qd_o3 0 15 qd_g771 rfl
theorem dL_columns_16 : decode cL_columns 16 = .ok (.ireturn, 1) := qd_o172 0 16 qd_g771 rfl
theorem qd_g772 : qd_bs cL_joystick 0 [44, 3, 42, 27, 182, 0, 81, 133, 80, 167, 0, 6, 78, 4, 172, 3, 172] = true := by decide +kernel
theorem dL_joystick_0 : decode cL_joystick 0 = .ok (.aload_n 2, 1) := qd_o44 0 0 qd_g772 rfl
theorem dL_joystick_1 : decode cL_joystick 1 = .ok (.iconst 0, 1) := qd_o3 0 1 qd_g772 rfl
theorem dL_joystick_2 : decode cL_joystick 2 = .ok (.aload_n 0, 1) := qd_o42 0 2 qd_g772 rfl
theorem dL_joystick_3 : decode cL_joystick 3 = .ok (.iload_n 1, 1) := qd_o27 0 3 qd_g772 rfl
theorem dL_joystick_4 : decode cL_joystick 4 = .ok (.invokevirtual 81, 3) := qd_o182 0 4 qd_g772 rfl rfl
theorem dL_joystick_7 : decode cL_joystick 7 = .ok (.i2l, 1) := qd_o133 0 7 qd_g772 rfl
theorem dL_joystick_8 : decode cL_joystick 8 = .ok (.lastore, 1) := qd_o80 0 8 qd_g772 rfl
theorem dL_joystick_9 : decode cL_joystick 9 = .ok (.goto 6, 3) := qd_o167 0 9 qd_g772 rfl rfl
theorem dL_joystick_12 : decode cL_joystick 12 = .ok (.astore_n 3, 1) := qd_o78 0 12 qd_g772 rfl
theorem dL_joystick_13 : decode cL_joystick 13 = .ok (.iconst 1, 1) := qd_o4 0 13 qd_g772 rfl
theorem dL_joystick_14 : decode cL_joystick 14 = .ok (.ireturn, 1) := qd_o172 0 14 qd_g772 rfl
theorem dL_joystick_15 : decode cL_joystick 15 = .ok (.iconst 0, 1) := qd_o3 0 15 qd_g772 rfl
theorem dL_joystick_16 : decode cL_joystick 16 = .ok (.ireturn, 1) := qd_o172 0 16 qd_g772 rfl
theorem qd_g773 : qd_bs cL_addPulse 0 [44, 3, 42, 27, 182, 0, 84, 133, 80, 167, 0, 9, 78, 4, 172, 78, 5, 172, 3, 172] = true := by decide +kernel
theorem dL_addPulse_0 : decode cL_addPulse 0 = .ok (.aload_n 2, 1) := qd_o44 0 0 qd_g773 rfl
theorem dL_addPulse_1 : decode cL_addPulse 1 = .ok (.iconst 0, 1) := qd_o3 0 1 qd_g773 rfl
theorem dL_addPulse_2 : decode cL_addPulse 2 = .ok (.aload_n 0, 1) := qd_o42 0 2 qd_g773 rfl
theorem dL_addPulse_3 : decode cL_addPulse 3 = .ok (.iload_n 1, 1) := qd_o27 0 3 qd_g773 rfl
theorem dL_addPulse_4 : decode cL_addPulse 4 = .ok (.invokevirtual 84, 3) := qd_o182 0 4 qd_g773 rfl rfl
theorem dL_addPulse_7 : decode cL_addPulse 7 = .ok (.i2l, 1) := qd_o133 0 7 qd_g773 rfl
theorem dL_addPulse_8 : decode cL_addPulse 8 = .ok (.lastore, 1) := qd_o80 0 8 qd_g773 rfl
theorem dL_addPulse_9 : decode cL_addPulse 9 = .ok (.goto 9, 3) := qd_o167 0 9 qd_g773 rfl rfl
theorem dL_addPulse_12 : decode cL_addPulse 12 = .ok (.astore_n 3, 1) := qd_o78 0 12 qd_g773 rfl
theorem dL_addPulse_13 : decode cL_addPulse 13 = .ok (.iconst 1, 1) := qd_o4 0 13 qd_g773 rfl
theorem dL_addPulse_14 : decode cL_addPulse 14 = .ok (.ireturn, 1) := qd_o172 0 14 qd_g773 rfl
theorem dL_addPulse_15 : decode cL_addPulse 15 = .ok (.astore_n 3, 1) := qd_o78 0 15 qd_g773 rfl
theorem dL_addPulse_16 : decode cL_addPulse 16 = .ok (.iconst 2, 1) := qd_o5 0 16 qd_g773 rfl
theorem dL_addPulse_17 : decode cL_addPulse 17 = .ok (.ireturn, 1) := qd_o172 0 17 qd_g773 rfl
theorem dL_addPulse_18 : decode cL_addPulse 18 = .ok (.iconst 0, 1) := qd_o3 0 18 qd_g773 rfl
theorem dL_addPulse_19 : decode cL_addPulse 19 = .ok (.ireturn, 1) := qd_o172 0 19 qd_g773 rfl
theorem qd_g774 : qd_bs cL_save 0 [43, 3, 42, 182, 0, 87, 133, 80, 167, 0, 6, 77, 4, 172, 3, 172] = true := by decide +kernel
theorem dL_save_0 : decode cL_save 0 = .ok (.aload_n 1, 1) := qd_o43 0 0 qd_g774 rfl
theorem dL_save_1 : decode cL_save 1 = .ok (.iconst 0, 1) := qd_o3 0 1 qd_g774 rfl
theorem dL_save_2 : decode cL_save 2 = .ok (.aload_n 0, 1) := qd_o42 0 2 qd_g774 rfl
theorem dL_save_3 : decode cL_save 3 = .ok (.invokevirtual 87, 3) := qd_o182 0 3 qd_g774 rfl rfl
theorem dL_save_6 : decode cL_save 6 = .ok (.i2l, 1) := qd_o133 0 6 qd_g774 rfl
theorem dL_save_7 : decode cL_save 7 = .ok (.lastore, 1) := qd_o80 0 7 qd_g774 rfl
theorem dL_save_8 : decode cL_save 8 = .ok (.goto 6, 3) := qd_o167 0 8 qd_g774 rfl rfl
theorem dL_save_11 : decode cL_save 11 = .ok (.astore_n 2, 1) := qd_o77 0 11 qd_g774 rfl
theorem dL_save_12 : decode cL_save 12 = .ok (.iconst 1, 1) := qd_o4 0 12 qd_g774 rfl
theorem dL_save_13 : decode cL_save 13 = .ok (.ireturn, 1) := qd_o172 0 13 qd_g774 rfl
theorem dL_save_14 : decode cL_save 14 = .ok (.iconst 0, 1) := qd_o3 0 14 qd_g774 rfl
theorem dL_save_15 : decode cL_save 15 = .ok (.ireturn, 1) := qd_o172 0 15 qd_g774 rfl
theorem qd_g775 : qd_bs cL_restore 0 [44, 3, 42, 27, 182, 0, 90, 133, 80, 167, 0, 6, 78, 4, 172, 3, 172] = true := by decide +kernel
theorem dL_restore_0 : decode cL_restore 0 = .ok (.aload_n 2, 1) := qd_o44 0 0 qd_g775 rfl
theorem dL_restore_1 : decode cL_restore 1 = .ok (.iconst 0, 1) := qd_o3 0 1 qd_g775 rfl
theorem dL_restore_2 : decode cL_restore 2 = .ok (.aload_n 0, 1) := qd_o42 0 2 qd_g775 rfl
theorem dL_restore_3 : decode cL_restore 3 = .ok (.iload_n 1, 1) := qd_o27 0 3 qd_g775 rfl
theorem dL_restore_4 : decode cL_restore 4 = .ok (.invokevirtual 90, 3) := qd_o182 0 4 qd_g775 rfl rfl
theorem dL_restore_7 : decode cL_restore 7 = .ok (.i2l, 1) := qd_o133 0 7 qd_g775 rfl
theorem dL_restore_8 : decode cL_restore 8 = .ok (.lastore, 1) := qd_o80 0 8 qd_g775 rfl
theorem dL_restore_9 : decode cL_restore 9 = .ok (.goto 6, 3) := qd_o167 0 9 qd_g775 rfl rfl
theorem dL_restore_12 : decode cL_restore 12 = .ok (.astore_n 3, 1) := qd_o78 0 12 qd_g775 rfl
theorem dL_restore_13 : decode cL_restore 13 = .ok (.iconst 1, 1) := qd_o4 0 13 qd_g775 rfl
theorem dL_restore_14 : decode cL_restore 14 = .ok (.ireturn, 1) := qd_o172 0 14 qd_g775 rfl
theorem dL_restore_15 : decode cL_restore 15 = .ok (.iconst 0, 1) := qd_o3 0 15 qd_g775 rfl
theorem dL_restore_16 : decode cL_restore 16 = .ok (.ireturn, 1) := qd_o172 0 16 qd_g775 rfl
theorem qd_g776 : qd_bs cL_differences 0 [44, 3, 42, 27, 182, 0, 95, 133, 80, 167, 0, 6, 78, 4, 172, 3, 172] = true := by decide +kernel
theorem dL_differences_0 : decode cL_differences 0 = .ok (.aload_n 2, 1) := qd_o44 0 0 qd_g776 rfl
theorem dL_differences_1 : decode cL_differences 1 = .ok (.iconst 0, 1) := qd_o3 0 1 qd_g776 rfl
theorem dL_differences_2 : decode cL_differences 2 = .ok (.aload_n 0, 1) := qd_o42 0 2 qd_g776 rfl
theorem dL_differences_3 : decode cL_differences 3 = .ok (.iload_n 1, 1) := qd_o27 0 3 qd_g776 rfl
theorem dL_differences_4 : decode cL_differences 4 = .ok (.invokevirtual 95, 3) := qd_o182 0 4 qd_g776 rfl rfl
theorem dL_differences_7 : decode cL_differences 7 = .ok (.i2l, 1) := qd_o133 0 7 qd_g776 rfl
theorem dL_differences_8 : decode cL_differences 8 = .ok (.lastore, 1) := qd_o80 0 8 qd_g776 rfl
theorem dL_differences_9 : decode cL_differences 9 = .ok (.goto 6, 3) := qd_o167 0 9 qd_g776 rfl rfl
theorem dL_differences_12 : decode cL_differences 12 = .ok (.astore_n 3, 1) := qd_o78 0 12 qd_g776 rfl
theorem dL_differences_13 : decode cL_differences 13 = .ok (.iconst 1, 1) := qd_o4 0 13 qd_g776 rfl
theorem dL_differences_14 : decode cL_differences 14 = .ok (.ireturn, 1) := qd_o172 0 14 qd_g776 rfl
theorem dL_differences_15 : decode cL_differences 15 = .ok (.iconst 0, 1) := qd_o3 0 15 qd_g776 rfl
theorem dL_differences_16 : decode cL_differences 16 = .ok (.ireturn, 1) := qd_o172 0 16 qd_g776 rfl
theorem qd_g777 : qd_bs cL_recorded 0 [43, 3, 42, 182, 0, 98, 133, 80, 167, 0, 6, 77, 4, 172, 3, 172] = true := by decide +kernel
theorem dL_recorded_0 : decode cL_recorded 0 = .ok (.aload_n 1, 1) := qd_o43 0 0 qd_g777 rfl
theorem dL_recorded_1 : decode cL_recorded 1 = .ok (.iconst 0, 1) := qd_o3 0 1 qd_g777 rfl
theorem dL_recorded_2 : decode cL_recorded 2 = .ok (.aload_n 0, 1) := qd_o42 0 2 qd_g777 rfl
theorem dL_recorded_3 : decode cL_recorded 3 = .ok (.invokevirtual 98, 3) := qd_o182 0 3 qd_g777 rfl rfl
theorem dL_recorded_6 : decode cL_recorded 6 = .ok (.i2l, 1) := qd_o133 0 6 qd_g777 rfl
theorem dL_recorded_7 : decode cL_recorded 7 = .ok (.lastore, 1) := qd_o80 0 7 qd_g777 rfl
theorem dL_recorded_8 : decode cL_recorded 8 = .ok (.goto 6, 3) := qd_o167 0 8 qd_g777 rfl rfl
theorem dL_recorded_11 : decode cL_recorded 11 = .ok (.astore_n 2, 1) := qd_o77 0 11 qd_g777 rfl
theorem dL_recorded_12 : decode cL_recorded 12 = .ok (.iconst 1, 1) := qd_o4 0 12 qd_g777 rfl
theorem dL_recorded_13 : decode cL_recorded 13 = .ok (.ireturn, 1) := qd_o172 0 13 qd_g777 rfl
theorem dL_recorded_14 : decode cL_recorded 14 = .ok (.iconst 0, 1) := qd_o3 0 14 qd_g777 rfl
theorem dL_recorded_15 : decode cL_recorded 15 = .ok (.ireturn, 1) := qd_o172 0 15 qd_g777 rfl
theorem qd_g778 : qd_bs cL_isSame 0 [43, 3, 42, 182, 0, 101, 153, 0, 7, 10, 167, 0, 4, 9, 80, 167, 0, 6, 77, 4, 172, 3, 172] = true := by decide +kernel
theorem dL_isSame_0 : decode cL_isSame 0 = .ok (.aload_n 1, 1) := qd_o43 0 0 qd_g778 rfl
theorem dL_isSame_1 : decode cL_isSame 1 = .ok (.iconst 0, 1) := qd_o3 0 1 qd_g778 rfl
theorem dL_isSame_2 : decode cL_isSame 2 = .ok (.aload_n 0, 1) := qd_o42 0 2 qd_g778 rfl
theorem dL_isSame_3 : decode cL_isSame 3 = .ok (.invokevirtual 101, 3) := qd_o182 0 3 qd_g778 rfl rfl
theorem dL_isSame_6 : decode cL_isSame 6 = .ok (.ifCond .eq 7, 3) := qd_o153 0 6 qd_g778 rfl rfl
theorem dL_isSame_9 : decode cL_isSame 9 = .ok (.lconst 1, 1) := qd_o10 0 9 qd_g778 rfl
theorem dL_isSame_10 : decode cL_isSame 10 = .ok (.goto 4, 3) := qd_o167 0 10 qd_g778 rfl rfl
theorem dL_isSame_13 : decode cL_isSame 13 = .ok (.lconst 0, 1) := qd_o9 0 13 qd_g778 rfl
theorem dL_isSame_14 : decode cL_isSame 14 = .ok (.lastore, 1) := qd_o80 0 14 qd_g778 rfl
theorem dL_isSame_15 : decode cL_isSame 15 = .ok (.goto 6, 3) := qd_o167 0 15 qd_g778 rfl rfl
theorem dL_isSame_18 : decode cL_isSame 18 = .ok (.astore_n 2, 1) := qd_o77 0 18 qd_g778 rfl
theorem dL_isSame_19 : decode cL_isSame 19 = .ok (.iconst 1, 1) := qd_o4 0 19 qd_g778 rfl
theorem dL_isSame_20 : decode cL_isSame 20 = .ok (.ireturn, 1) := qd_o172 0 20 qd_g778 rfl
theorem dL_isSame_21 : decode cL_isSame 21 = .ok (.iconst 0, 1) := qd_o3 0 21 qd_g778 rfl
theorem dL_isSame_22 : decode cL_isSame 22 = .ok (.ireturn, 1) := qd_o172 0 22 qd_g778 rfl
theorem qd_g779 : qd_bs cL_law 0 [187, 0, 8, 89, 183, 0, 105, 76, 187, 0, 106, 89, 183, 0, 108, 77, 4] = true := by decide +kernel
theorem dL_law_0 : decode cL_law 0 = .ok (.new 8, 3) := qd_o187 0 0 qd_g779 rfl rfl
theorem dL_law_3 : decode cL_law 3 = .ok (.dup, 1) := qd_o89 0 3 qd_g779 rfl
theorem dL_law_4 : decode cL_law 4 = .ok (.invokespecial 105, 3) := qd_o183 0 4 qd_g779 rfl rfl
theorem dL_law_7 : decode cL_law 7 = .ok (.astore_n 1, 1) := qd_o76 0 7 qd_g779 rfl
theorem dL_law_8 : decode cL_law 8 = .ok (.new 106, 3) := qd_o187 0 8 qd_g779 rfl rfl
theorem dL_law_11 : decode cL_law 11 = .ok (.dup, 1) := qd_o89 0 11 qd_g779 rfl
theorem dL_law_12 : decode cL_law 12 = .ok (.invokespecial 108, 3) := qd_o183 0 12 qd_g779 rfl rfl
theorem dL_law_15 : decode cL_law 15 = .ok (.astore_n 2, 1) := qd_o77 0 15 qd_g779 rfl
theorem dL_law_16 : decode cL_law 16 = .ok (.iconst 1, 1) := qd_o4 0 16 qd_g779 rfl
theorem dL_law_17 : decode cL_law 17 = .ok (.newarray .long, 2) := by decide +kernel
theorem qd_g780 : qd_bs cL_law 19 [78, 3, 54, 4, 21, 4, 42, 190, 7, 100, 163, 5, 26, 42, 21, 4, 46, 16, 63, 126] = true := by decide +kernel
theorem dL_law_19 : decode cL_law 19 = .ok (.astore_n 3, 1) := qd_o78 19 0 qd_g780 rfl
theorem dL_law_20 : decode cL_law 20 = .ok (.iconst 0, 1) := qd_o3 19 1 qd_g780 rfl
theorem dL_law_21 : decode cL_law 21 = .ok (.istore 4, 2) := qd_o54 19 2 qd_g780 rfl rfl
theorem dL_law_23 : decode cL_law 23 = .ok (.iload 4, 2) := qd_o21 19 4 qd_g780 rfl rfl
theorem dL_law_25 : decode cL_law 25 = .ok (.aload_n 0, 1) := qd_o42 19 6 qd_g780 rfl
theorem dL_law_26 : decode cL_law 26 = .ok (.arraylength, 1) := qd_o190 19 7 qd_g780 rfl
theorem dL_law_27 : decode cL_law 27 = .ok (.iconst 4, 1) := qd_o7 19 8 qd_g780 rfl
theorem dL_law_28 : decode cL_law 28 = .ok (.isub, 1) := qd_o100 19 9 qd_g780 rfl
theorem dL_law_29 : decode cL_law 29 = .ok (.if_icmp .gt 1306, 3) := qd_o163 19 10 qd_g780 rfl rfl
theorem dL_law_32 : decode cL_law 32 = .ok (.aload_n 0, 1) := qd_o42 19 13 qd_g780 rfl
theorem dL_law_33 : decode cL_law 33 = .ok (.iload 4, 2) := qd_o21 19 14 qd_g780 rfl rfl
theorem dL_law_35 : decode cL_law 35 = .ok (.iaload, 1) := qd_o46 19 16 qd_g780 rfl
theorem dL_law_36 : decode cL_law 36 = .ok (.bipush 63, 2) := qd_o16 19 17 qd_g780 rfl rfl
theorem dL_law_38 : decode cL_law 38 = .ok (.iand, 1) := qd_o126 19 19 qd_g780 rfl
theorem dL_law_39 : decode cL_law 39 = .ok (.tableswitch 1290 0 41 #[181, 221, 261, 313, 369, 397, 449, 477, 505, 557, 585, 625, 638, 651, 664, 692, 708, 721, 734, 747, 760, 773, 801, 841, 881, 909, 937, 1005, 1033, 1061, 1089, 1102, 1115, 1131, 1159, 1187, 1200, 1216, 1232, 1245, 1258, 1275], 181) := by decide +kernel
theorem qd_g781 : qd_bs cL_law 220 [43, 42, 21, 4, 4, 96, 46, 42, 21, 4, 5, 96, 46, 45, 184, 0, 109, 54, 5, 44, 42, 21, 4, 4, 96, 46, 42, 21, 4, 5, 96, 46, 182, 0, 114, 54, 6, 167, 4, 48] = true := by decide +kernel
theorem dL_law_220 : decode cL_law 220 = .ok (.aload_n 1, 1) := qd_o43 220 0 qd_g781 rfl
theorem dL_law_221 : decode cL_law 221 = .ok (.aload_n 0, 1) := qd_o42 220 1 qd_g781 rfl
theorem dL_law_222 : decode cL_law 222 = .ok (.iload 4, 2) := qd_o21 220 2 qd_g781 rfl rfl
theorem dL_law_224 : decode cL_law 224 = .ok (.iconst 1, 1) := qd_o4 220 4 qd_g781 rfl
theorem dL_law_225 : decode cL_law 225 = .ok (.iadd, 1) := qd_o96 220 5 qd_g781 rfl
theorem dL_law_226 : decode cL_law 226 = .ok (.iaload, 1) := qd_o46 220 6 qd_g781 rfl
theorem dL_law_227 : decode cL_law 227 = .ok (.aload_n 0, 1) := qd_o42 220 7 qd_g781 rfl
theorem dL_law_228 : decode cL_law 228 = .ok (.iload 4, 2) := qd_o21 220 8 qd_g781 rfl rfl
theorem dL_law_230 : decode cL_law 230 = .ok (.iconst 2, 1) := qd_o5 220 10 qd_g781 rfl
theorem dL_law_231 : decode cL_law 231 = .ok (.iadd, 1) := qd_o96 220 11 qd_g781 rfl
theorem dL_law_232 : decode cL_law 232 = .ok (.iaload, 1) := qd_o46 220 12 qd_g781 rfl
theorem dL_law_233 : decode cL_law 233 = .ok (.aload_n 3, 1) := qd_o45 220 13 qd_g781 rfl
theorem dL_law_234 : decode cL_law 234 = .ok (.invokestatic 109, 3) := qd_o184 220 14 qd_g781 rfl rfl
theorem dL_law_237 : decode cL_law 237 = .ok (.istore 5, 2) := qd_o54 220 17 qd_g781 rfl rfl
theorem dL_law_239 : decode cL_law 239 = .ok (.aload_n 2, 1) := qd_o44 220 19 qd_g781 rfl
theorem dL_law_240 : decode cL_law 240 = .ok (.aload_n 0, 1) := qd_o42 220 20 qd_g781 rfl
theorem dL_law_241 : decode cL_law 241 = .ok (.iload 4, 2) := qd_o21 220 21 qd_g781 rfl rfl
theorem dL_law_243 : decode cL_law 243 = .ok (.iconst 1, 1) := qd_o4 220 23 qd_g781 rfl
theorem dL_law_244 : decode cL_law 244 = .ok (.iadd, 1) := qd_o96 220 24 qd_g781 rfl
theorem dL_law_245 : decode cL_law 245 = .ok (.iaload, 1) := qd_o46 220 25 qd_g781 rfl
theorem dL_law_246 : decode cL_law 246 = .ok (.aload_n 0, 1) := qd_o42 220 26 qd_g781 rfl
theorem dL_law_247 : decode cL_law 247 = .ok (.iload 4, 2) := qd_o21 220 27 qd_g781 rfl rfl
theorem dL_law_249 : decode cL_law 249 = .ok (.iconst 2, 1) := qd_o5 220 29 qd_g781 rfl
theorem dL_law_250 : decode cL_law 250 = .ok (.iadd, 1) := qd_o96 220 30 qd_g781 rfl
theorem dL_law_251 : decode cL_law 251 = .ok (.iaload, 1) := qd_o46 220 31 qd_g781 rfl
theorem dL_law_252 : decode cL_law 252 = .ok (.invokevirtual 114, 3) := qd_o182 220 32 qd_g781 rfl rfl
theorem dL_law_255 : decode cL_law 255 = .ok (.istore 6, 2) := qd_o54 220 35 qd_g781 rfl rfl
theorem dL_law_257 : decode cL_law 257 = .ok (.goto 1072, 3) := qd_o167 220 37 qd_g781 rfl rfl
theorem qd_g782 : qd_bs cL_law 260 [43, 42, 21, 4, 4, 96, 46, 42, 21, 4, 5, 96, 46, 45, 184, 0, 115, 54, 5, 44, 42, 21, 4, 4, 96, 46, 42, 21, 4, 5, 96, 46, 182, 0, 117, 54, 6, 167, 4, 8] = true := by decide +kernel
theorem dL_law_260 : decode cL_law 260 = .ok (.aload_n 1, 1) := qd_o43 260 0 qd_g782 rfl
theorem dL_law_261 : decode cL_law 261 = .ok (.aload_n 0, 1) := qd_o42 260 1 qd_g782 rfl
theorem dL_law_262 : decode cL_law 262 = .ok (.iload 4, 2) := qd_o21 260 2 qd_g782 rfl rfl
theorem dL_law_264 : decode cL_law 264 = .ok (.iconst 1, 1) := qd_o4 260 4 qd_g782 rfl
theorem dL_law_265 : decode cL_law 265 = .ok (.iadd, 1) := qd_o96 260 5 qd_g782 rfl
theorem dL_law_266 : decode cL_law 266 = .ok (.iaload, 1) := qd_o46 260 6 qd_g782 rfl
theorem dL_law_267 : decode cL_law 267 = .ok (.aload_n 0, 1) := qd_o42 260 7 qd_g782 rfl
theorem dL_law_268 : decode cL_law 268 = .ok (.iload 4, 2) := qd_o21 260 8 qd_g782 rfl rfl
theorem dL_law_270 : decode cL_law 270 = .ok (.iconst 2, 1) := qd_o5 260 10 qd_g782 rfl
theorem dL_law_271 : decode cL_law 271 = .ok (.iadd, 1) := qd_o96 260 11 qd_g782 rfl
theorem dL_law_272 : decode cL_law 272 = .ok (.iaload, 1) := qd_o46 260 12 qd_g782 rfl
theorem dL_law_273 : decode cL_law 273 = .ok (.aload_n 3, 1) := qd_o45 260 13 qd_g782 rfl
theorem dL_law_274 : decode cL_law 274 = .ok (.invokestatic 115, 3) := qd_o184 260 14 qd_g782 rfl rfl
theorem dL_law_277 : decode cL_law 277 = .ok (.istore 5, 2) := qd_o54 260 17 qd_g782 rfl rfl
theorem dL_law_279 : decode cL_law 279 = .ok (.aload_n 2, 1) := qd_o44 260 19 qd_g782 rfl
theorem dL_law_280 : decode cL_law 280 = .ok (.aload_n 0, 1) := qd_o42 260 20 qd_g782 rfl
theorem dL_law_281 : decode cL_law 281 = .ok (.iload 4, 2) := qd_o21 260 21 qd_g782 rfl rfl
theorem dL_law_283 : decode cL_law 283 = .ok (.iconst 1, 1) := qd_o4 260 23 qd_g782 rfl
theorem dL_law_284 : decode cL_law 284 = .ok (.iadd, 1) := qd_o96 260 24 qd_g782 rfl
theorem dL_law_285 : decode cL_law 285 = .ok (.iaload, 1) := qd_o46 260 25 qd_g782 rfl
theorem dL_law_286 : decode cL_law 286 = .ok (.aload_n 0, 1) := qd_o42 260 26 qd_g782 rfl
theorem dL_law_287 : decode cL_law 287 = .ok (.iload 4, 2) := qd_o21 260 27 qd_g782 rfl rfl
theorem dL_law_289 : decode cL_law 289 = .ok (.iconst 2, 1) := qd_o5 260 29 qd_g782 rfl
theorem dL_law_290 : decode cL_law 290 = .ok (.iadd, 1) := qd_o96 260 30 qd_g782 rfl
theorem dL_law_291 : decode cL_law 291 = .ok (.iaload, 1) := qd_o46 260 31 qd_g782 rfl
theorem dL_law_292 : decode cL_law 292 = .ok (.invokevirtual 117, 3) := qd_o182 260 32 qd_g782 rfl rfl
theorem dL_law_295 : decode cL_law 295 = .ok (.istore 6, 2) := qd_o54 260 35 qd_g782 rfl rfl
theorem dL_law_297 : decode cL_law 297 = .ok (.goto 1032, 3) := qd_o167 260 37 qd_g782 rfl rfl
theorem qd_g783 : qd_bs cL_law 300 [43, 42, 21, 4, 4, 96, 46, 42, 21, 4, 5, 96, 46, 42, 21, 4, 6, 96, 46, 45, 184, 0, 118, 54, 5, 44, 42, 21, 4, 4, 96, 46, 42, 21, 4, 5, 96, 46, 42] = true := by decide +kernel
theorem dL_law_300 : decode cL_law 300 = .ok (.aload_n 1, 1) := qd_o43 300 0 qd_g783 rfl
theorem dL_law_301 : decode cL_law 301 = .ok (.aload_n 0, 1) := qd_o42 300 1 qd_g783 rfl
theorem dL_law_302 : decode cL_law 302 = .ok (.iload 4, 2) := qd_o21 300 2 qd_g783 rfl rfl
theorem dL_law_304 : decode cL_law 304 = .ok (.iconst 1, 1) := qd_o4 300 4 qd_g783 rfl
theorem dL_law_305 : decode cL_law 305 = .ok (.iadd, 1) := qd_o96 300 5 qd_g783 rfl
theorem dL_law_306 : decode cL_law 306 = .ok (.iaload, 1) := qd_o46 300 6 qd_g783 rfl
theorem dL_law_307 : decode cL_law 307 = .ok (.aload_n 0, 1) := qd_o42 300 7 qd_g783 rfl
theorem dL_law_308 : decode cL_law 308 = .ok (.iload 4, 2) := qd_o21 300 8 qd_g783 rfl rfl
theorem dL_law_310 : decode cL_law 310 = .ok (.iconst 2, 1) := qd_o5 300 10 qd_g783 rfl
theorem dL_law_311 : decode cL_law 311 = .ok (.iadd, 1) := qd_o96 300 11 qd_g783 rfl
theorem dL_law_312 : decode cL_law 312 = .ok (.iaload, 1) := qd_o46 300 12 qd_g783 rfl
theorem dL_law_313 : decode cL_law 313 = .ok (.aload_n 0, 1) := qd_o42 300 13 qd_g783 rfl
theorem dL_law_314 : decode cL_law 314 = .ok (.iload 4, 2) := qd_o21 300 14 qd_g783 rfl rfl
theorem dL_law_316 : decode cL_law 316 = .ok (.iconst 3, 1) := qd_o6 300 16 qd_g783 rfl
theorem dL_law_317 : decode cL_law 317 = .ok (.iadd, 1) := qd_o96 300 17 qd_g783 rfl
theorem dL_law_318 : decode cL_law 318 = .ok (.iaload, 1) := qd_o46 300 18 qd_g783 rfl
theorem dL_law_319 : decode cL_law 319 = .ok (.aload_n 3, 1) := qd_o45 300 19 qd_g783 rfl
theorem dL_law_320 : decode cL_law 320 = .ok (.invokestatic 118, 3) := qd_o184 300 20 qd_g783 rfl rfl
theorem dL_law_323 : decode cL_law 323 = .ok (.istore 5, 2) := qd_o54 300 23 qd_g783 rfl rfl
theorem dL_law_325 : decode cL_law 325 = .ok (.aload_n 2, 1) := qd_o44 300 25 qd_g783 rfl
theorem dL_law_326 : decode cL_law 326 = .ok (.aload_n 0, 1) := qd_o42 300 26 qd_g783 rfl
theorem dL_law_327 : decode cL_law 327 = .ok (.iload 4, 2) := qd_o21 300 27 qd_g783 rfl rfl
theorem dL_law_329 : decode cL_law 329 = .ok (.iconst 1, 1) := qd_o4 300 29 qd_g783 rfl
theorem dL_law_330 : decode cL_law 330 = .ok (.iadd, 1) := qd_o96 300 30 qd_g783 rfl
theorem dL_law_331 : decode cL_law 331 = .ok (.iaload, 1) := qd_o46 300 31 qd_g783 rfl
theorem dL_law_332 : decode cL_law 332 = .ok (.aload_n 0, 1) := qd_o42 300 32 qd_g783 rfl
theorem dL_law_333 : decode cL_law 333 = .ok (.iload 4, 2) := qd_o21 300 33 qd_g783 rfl rfl
theorem dL_law_335 : decode cL_law 335 = .ok (.iconst 2, 1) := qd_o5 300 35 qd_g783 rfl
theorem dL_law_336 : decode cL_law 336 = .ok (.iadd, 1) := qd_o96 300 36 qd_g783 rfl
theorem dL_law_337 : decode cL_law 337 = .ok (.iaload, 1) := qd_o46 300 37 qd_g783 rfl
theorem dL_law_338 : decode cL_law 338 = .ok (.aload_n 0, 1) := qd_o42 300 38 qd_g783 rfl
theorem qd_g784 : qd_bs cL_law 339 [21, 4, 6, 96, 46, 182, 0, 121, 54, 6, 167, 3, 212, 43, 42, 21, 4, 4, 96, 46, 45, 184, 0, 122, 54, 5, 44, 42, 21, 4, 4, 96, 46, 182, 0, 125, 54, 6, 44] = true := by decide +kernel
theorem dL_law_339 : decode cL_law 339 = .ok (.iload 4, 2) := qd_o21 339 0 qd_g784 rfl rfl
theorem dL_law_341 : decode cL_law 341 = .ok (.iconst 3, 1) := qd_o6 339 2 qd_g784 rfl
theorem dL_law_342 : decode cL_law 342 = .ok (.iadd, 1) := qd_o96 339 3 qd_g784 rfl
theorem dL_law_343 : decode cL_law 343 = .ok (.iaload, 1) := qd_o46 339 4 qd_g784 rfl
theorem dL_law_344 : decode cL_law 344 = .ok (.invokevirtual 121, 3) := qd_o182 339 5 qd_g784 rfl rfl
theorem dL_law_347 : decode cL_law 347 = .ok (.istore 6, 2) := qd_o54 339 8 qd_g784 rfl rfl
theorem dL_law_349 : decode cL_law 349 = .ok (.goto 980, 3) := qd_o167 339 10 qd_g784 rfl rfl
theorem dL_law_352 : decode cL_law 352 = .ok (.aload_n 1, 1) := qd_o43 339 13 qd_g784 rfl
theorem dL_law_353 : decode cL_law 353 = .ok (.aload_n 0, 1) := qd_o42 339 14 qd_g784 rfl
theorem dL_law_354 : decode cL_law 354 = .ok (.iload 4, 2) := qd_o21 339 15 qd_g784 rfl rfl
theorem dL_law_356 : decode cL_law 356 = .ok (.iconst 1, 1) := qd_o4 339 17 qd_g784 rfl
theorem dL_law_357 : decode cL_law 357 = .ok (.iadd, 1) := qd_o96 339 18 qd_g784 rfl
theorem dL_law_358 : decode cL_law 358 = .ok (.iaload, 1) := qd_o46 339 19 qd_g784 rfl
theorem dL_law_359 : decode cL_law 359 = .ok (.aload_n 3, 1) := qd_o45 339 20 qd_g784 rfl
theorem dL_law_360 : decode cL_law 360 = .ok (.invokestatic 122, 3) := qd_o184 339 21 qd_g784 rfl rfl
theorem dL_law_363 : decode cL_law 363 = .ok (.istore 5, 2) := qd_o54 339 24 qd_g784 rfl rfl
theorem dL_law_365 : decode cL_law 365 = .ok (.aload_n 2, 1) := qd_o44 339 26 qd_g784 rfl
theorem dL_law_366 : decode cL_law 366 = .ok (.aload_n 0, 1) := qd_o42 339 27 qd_g784 rfl
theorem dL_law_367 : decode cL_law 367 = .ok (.iload 4, 2) := qd_o21 339 28 qd_g784 rfl rfl
theorem dL_law_369 : decode cL_law 369 = .ok (.iconst 1, 1) := qd_o4 339 30 qd_g784 rfl
theorem dL_law_370 : decode cL_law 370 = .ok (.iadd, 1) := qd_o96 339 31 qd_g784 rfl
theorem dL_law_371 : decode cL_law 371 = .ok (.iaload, 1) := qd_o46 339 32 qd_g784 rfl
theorem dL_law_372 : decode cL_law 372 = .ok (.invokevirtual 125, 3) := qd_o182 339 33 qd_g784 rfl rfl
theorem dL_law_375 : decode cL_law 375 = .ok (.istore 6, 2) := qd_o54 339 36 qd_g784 rfl rfl
theorem dL_law_377 : decode cL_law 377 = .ok (.aload_n 2, 1) := qd_o44 339 38 qd_g784 rfl
theorem qd_g785 : qd_bs cL_law 378 [182, 0, 126, 21, 5, 159, 0, 5, 3, 172, 21, 5, 154, 0, 15, 45, 3, 47, 21, 6, 133, 148, 153, 0, 5, 3, 172, 167, 3, 156, 43, 42, 21, 4, 4, 96, 46, 45] = true := by decide +kernel
theorem dL_law_378 : decode cL_law 378 = .ok (.invokevirtual 126, 3) := qd_o182 378 0 qd_g785 rfl rfl
theorem dL_law_381 : decode cL_law 381 = .ok (.iload 5, 2) := qd_o21 378 3 qd_g785 rfl rfl
theorem dL_law_383 : decode cL_law 383 = .ok (.if_icmp .eq 5, 3) := qd_o159 378 5 qd_g785 rfl rfl
theorem dL_law_386 : decode cL_law 386 = .ok (.iconst 0, 1) := qd_o3 378 8 qd_g785 rfl
theorem dL_law_387 : decode cL_law 387 = .ok (.ireturn, 1) := qd_o172 378 9 qd_g785 rfl
theorem dL_law_388 : decode cL_law 388 = .ok (.iload 5, 2) := qd_o21 378 10 qd_g785 rfl rfl
theorem dL_law_390 : decode cL_law 390 = .ok (.ifCond .ne 15, 3) := qd_o154 378 12 qd_g785 rfl rfl
theorem dL_law_393 : decode cL_law 393 = .ok (.aload_n 3, 1) := qd_o45 378 15 qd_g785 rfl
theorem dL_law_394 : decode cL_law 394 = .ok (.iconst 0, 1) := qd_o3 378 16 qd_g785 rfl
theorem dL_law_395 : decode cL_law 395 = .ok (.laload, 1) := qd_o47 378 17 qd_g785 rfl
theorem dL_law_396 : decode cL_law 396 = .ok (.iload 6, 2) := qd_o21 378 18 qd_g785 rfl rfl
theorem dL_law_398 : decode cL_law 398 = .ok (.i2l, 1) := qd_o133 378 20 qd_g785 rfl
theorem dL_law_399 : decode cL_law 399 = .ok (.lcmp, 1) := qd_o148 378 21 qd_g785 rfl
theorem dL_law_400 : decode cL_law 400 = .ok (.ifCond .eq 5, 3) := qd_o153 378 22 qd_g785 rfl rfl
theorem dL_law_403 : decode cL_law 403 = .ok (.iconst 0, 1) := qd_o3 378 25 qd_g785 rfl
theorem dL_law_404 : decode cL_law 404 = .ok (.ireturn, 1) := qd_o172 378 26 qd_g785 rfl
theorem dL_law_405 : decode cL_law 405 = .ok (.goto 924, 3) := qd_o167 378 27 qd_g785 rfl rfl
theorem dL_law_408 : decode cL_law 408 = .ok (.aload_n 1, 1) := qd_o43 378 30 qd_g785 rfl
theorem dL_law_409 : decode cL_law 409 = .ok (.aload_n 0, 1) := qd_o42 378 31 qd_g785 rfl
theorem dL_law_410 : decode cL_law 410 = .ok (.iload 4, 2) := qd_o21 378 32 qd_g785 rfl rfl
theorem dL_law_412 : decode cL_law 412 = .ok (.iconst 1, 1) := qd_o4 378 34 qd_g785 rfl
theorem dL_law_413 : decode cL_law 413 = .ok (.iadd, 1) := qd_o96 378 35 qd_g785 rfl
theorem dL_law_414 : decode cL_law 414 = .ok (.iaload, 1) := qd_o46 378 36 qd_g785 rfl
theorem dL_law_415 : decode cL_law 415 = .ok (.aload_n 3, 1) := qd_o45 378 37 qd_g785 rfl
theorem qd_g786 : qd_bs cL_law 416 [184, 0, 129, 54, 5, 44, 42, 21, 4, 4, 96, 46, 182, 0, 131, 54, 6, 167, 3, 128, 43, 42, 21, 4, 4, 96, 46, 42, 21, 4, 5, 96, 46, 42, 21, 4, 6, 96, 46, 45] = true := by decide +kernel
theorem dL_law_416 : decode cL_law 416 = .ok (.invokestatic 129, 3) := qd_o184 416 0 qd_g786 rfl rfl
theorem dL_law_419 : decode cL_law 419 = .ok (.istore 5, 2) := qd_o54 416 3 qd_g786 rfl rfl
theorem dL_law_421 : decode cL_law 421 = .ok (.aload_n 2, 1) := qd_o44 416 5 qd_g786 rfl
theorem dL_law_422 : decode cL_law 422 = .ok (.aload_n 0, 1) := qd_o42 416 6 qd_g786 rfl
theorem dL_law_423 : decode cL_law 423 = .ok (.iload 4, 2) := qd_o21 416 7 qd_g786 rfl rfl
theorem dL_law_425 : decode cL_law 425 = .ok (.iconst 1, 1) := qd_o4 416 9 qd_g786 rfl
theorem dL_law_426 : decode cL_law 426 = .ok (.iadd, 1) := qd_o96 416 10 qd_g786 rfl
theorem dL_law_427 : decode cL_law 427 = .ok (.iaload, 1) := qd_o46 416 11 qd_g786 rfl
theorem dL_law_428 : decode cL_law 428 = .ok (.invokevirtual 131, 3) := qd_o182 416 12 qd_g786 rfl rfl
theorem dL_law_431 : decode cL_law 431 = .ok (.istore 6, 2) := qd_o54 416 15 qd_g786 rfl rfl
theorem dL_law_433 : decode cL_law 433 = .ok (.goto 896, 3) := qd_o167 416 17 qd_g786 rfl rfl
theorem dL_law_436 : decode cL_law 436 = .ok (.aload_n 1, 1) := qd_o43 416 20 qd_g786 rfl
theorem dL_law_437 : decode cL_law 437 = .ok (.aload_n 0, 1) := qd_o42 416 21 qd_g786 rfl
theorem dL_law_438 : decode cL_law 438 = .ok (.iload 4, 2) := qd_o21 416 22 qd_g786 rfl rfl
theorem dL_law_440 : decode cL_law 440 = .ok (.iconst 1, 1) := qd_o4 416 24 qd_g786 rfl
theorem dL_law_441 : decode cL_law 441 = .ok (.iadd, 1) := qd_o96 416 25 qd_g786 rfl
theorem dL_law_442 : decode cL_law 442 = .ok (.iaload, 1) := qd_o46 416 26 qd_g786 rfl
theorem dL_law_443 : decode cL_law 443 = .ok (.aload_n 0, 1) := qd_o42 416 27 qd_g786 rfl
theorem dL_law_444 : decode cL_law 444 = .ok (.iload 4, 2) := qd_o21 416 28 qd_g786 rfl rfl
theorem dL_law_446 : decode cL_law 446 = .ok (.iconst 2, 1) := qd_o5 416 30 qd_g786 rfl
theorem dL_law_447 : decode cL_law 447 = .ok (.iadd, 1) := qd_o96 416 31 qd_g786 rfl
theorem dL_law_448 : decode cL_law 448 = .ok (.iaload, 1) := qd_o46 416 32 qd_g786 rfl
theorem dL_law_449 : decode cL_law 449 = .ok (.aload_n 0, 1) := qd_o42 416 33 qd_g786 rfl
theorem dL_law_450 : decode cL_law 450 = .ok (.iload 4, 2) := qd_o21 416 34 qd_g786 rfl rfl
theorem dL_law_452 : decode cL_law 452 = .ok (.iconst 3, 1) := qd_o6 416 36 qd_g786 rfl
theorem dL_law_453 : decode cL_law 453 = .ok (.iadd, 1) := qd_o96 416 37 qd_g786 rfl
theorem dL_law_454 : decode cL_law 454 = .ok (.iaload, 1) := qd_o46 416 38 qd_g786 rfl
theorem dL_law_455 : decode cL_law 455 = .ok (.aload_n 3, 1) := qd_o45 416 39 qd_g786 rfl
theorem qd_g787 : qd_bs cL_law 456 [184, 0, 132, 54, 5, 44, 42, 21, 4, 4, 96, 46, 42, 21, 4, 5, 96, 46, 42, 21, 4, 6, 96, 46, 182, 0, 134, 54, 6, 167, 3, 76, 43, 42, 21, 4, 4, 96, 46, 45] = true := by decide +kernel
theorem dL_law_456 : decode cL_law 456 = .ok (.invokestatic 132, 3) := qd_o184 456 0 qd_g787 rfl rfl
theorem dL_law_459 : decode cL_law 459 = .ok (.istore 5, 2) := qd_o54 456 3 qd_g787 rfl rfl
theorem dL_law_461 : decode cL_law 461 = .ok (.aload_n 2, 1) := qd_o44 456 5 qd_g787 rfl
theorem dL_law_462 : decode cL_law 462 = .ok (.aload_n 0, 1) := qd_o42 456 6 qd_g787 rfl
theorem dL_law_463 : decode cL_law 463 = .ok (.iload 4, 2) := qd_o21 456 7 qd_g787 rfl rfl
theorem dL_law_465 : decode cL_law 465 = .ok (.iconst 1, 1) := qd_o4 456 9 qd_g787 rfl
theorem dL_law_466 : decode cL_law 466 = .ok (.iadd, 1) := qd_o96 456 10 qd_g787 rfl
theorem dL_law_467 : decode cL_law 467 = .ok (.iaload, 1) := qd_o46 456 11 qd_g787 rfl
theorem dL_law_468 : decode cL_law 468 = .ok (.aload_n 0, 1) := qd_o42 456 12 qd_g787 rfl
theorem dL_law_469 : decode cL_law 469 = .ok (.iload 4, 2) := qd_o21 456 13 qd_g787 rfl rfl
theorem dL_law_471 : decode cL_law 471 = .ok (.iconst 2, 1) := qd_o5 456 15 qd_g787 rfl
theorem dL_law_472 : decode cL_law 472 = .ok (.iadd, 1) := qd_o96 456 16 qd_g787 rfl
theorem dL_law_473 : decode cL_law 473 = .ok (.iaload, 1) := qd_o46 456 17 qd_g787 rfl
theorem dL_law_474 : decode cL_law 474 = .ok (.aload_n 0, 1) := qd_o42 456 18 qd_g787 rfl
theorem dL_law_475 : decode cL_law 475 = .ok (.iload 4, 2) := qd_o21 456 19 qd_g787 rfl rfl
theorem dL_law_477 : decode cL_law 477 = .ok (.iconst 3, 1) := qd_o6 456 21 qd_g787 rfl
theorem dL_law_478 : decode cL_law 478 = .ok (.iadd, 1) := qd_o96 456 22 qd_g787 rfl
theorem dL_law_479 : decode cL_law 479 = .ok (.iaload, 1) := qd_o46 456 23 qd_g787 rfl
theorem dL_law_480 : decode cL_law 480 = .ok (.invokevirtual 134, 3) := qd_o182 456 24 qd_g787 rfl rfl
theorem dL_law_483 : decode cL_law 483 = .ok (.istore 6, 2) := qd_o54 456 27 qd_g787 rfl rfl
theorem dL_law_485 : decode cL_law 485 = .ok (.goto 844, 3) := qd_o167 456 29 qd_g787 rfl rfl
theorem dL_law_488 : decode cL_law 488 = .ok (.aload_n 1, 1) := qd_o43 456 32 qd_g787 rfl
theorem dL_law_489 : decode cL_law 489 = .ok (.aload_n 0, 1) := qd_o42 456 33 qd_g787 rfl
theorem dL_law_490 : decode cL_law 490 = .ok (.iload 4, 2) := qd_o21 456 34 qd_g787 rfl rfl
theorem dL_law_492 : decode cL_law 492 = .ok (.iconst 1, 1) := qd_o4 456 36 qd_g787 rfl
theorem dL_law_493 : decode cL_law 493 = .ok (.iadd, 1) := qd_o96 456 37 qd_g787 rfl
theorem dL_law_494 : decode cL_law 494 = .ok (.iaload, 1) := qd_o46 456 38 qd_g787 rfl
theorem dL_law_495 : decode cL_law 495 = .ok (.aload_n 3, 1) := qd_o45 456 39 qd_g787 rfl
theorem qd_g788 : qd_bs cL_law 496 [184, 0, 135, 54, 5, 44, 42, 21, 4, 4, 96, 46, 182, 0, 137, 54, 6, 167, 3, 48, 43, 42, 21, 4, 4, 96, 46, 45, 184, 0, 138, 54, 5, 44, 42, 21, 4, 4, 96, 46] = true := by decide +kernel
theorem dL_law_496 : decode cL_law 496 = .ok (.invokestatic 135, 3) := qd_o184 496 0 qd_g788 rfl rfl
theorem dL_law_499 : decode cL_law 499 = .ok (.istore 5, 2) := qd_o54 496 3 qd_g788 rfl rfl
theorem dL_law_501 : decode cL_law 501 = .ok (.aload_n 2, 1) := qd_o44 496 5 qd_g788 rfl
theorem dL_law_502 : decode cL_law 502 = .ok (.aload_n 0, 1) := qd_o42 496 6 qd_g788 rfl
theorem dL_law_503 : decode cL_law 503 = .ok (.iload 4, 2) := qd_o21 496 7 qd_g788 rfl rfl
theorem dL_law_505 : decode cL_law 505 = .ok (.iconst 1, 1) := qd_o4 496 9 qd_g788 rfl
theorem dL_law_506 : decode cL_law 506 = .ok (.iadd, 1) := qd_o96 496 10 qd_g788 rfl
theorem dL_law_507 : decode cL_law 507 = .ok (.iaload, 1) := qd_o46 496 11 qd_g788 rfl
theorem dL_law_508 : decode cL_law 508 = .ok (.invokevirtual 137, 3) := qd_o182 496 12 qd_g788 rfl rfl
theorem dL_law_511 : decode cL_law 511 = .ok (.istore 6, 2) := qd_o54 496 15 qd_g788 rfl rfl
theorem dL_law_513 : decode cL_law 513 = .ok (.goto 816, 3) := qd_o167 496 17 qd_g788 rfl rfl
theorem dL_law_516 : decode cL_law 516 = .ok (.aload_n 1, 1) := qd_o43 496 20 qd_g788 rfl
theorem dL_law_517 : decode cL_law 517 = .ok (.aload_n 0, 1) := qd_o42 496 21 qd_g788 rfl
theorem dL_law_518 : decode cL_law 518 = .ok (.iload 4, 2) := qd_o21 496 22 qd_g788 rfl rfl
theorem dL_law_520 : decode cL_law 520 = .ok (.iconst 1, 1) := qd_o4 496 24 qd_g788 rfl
theorem dL_law_521 : decode cL_law 521 = .ok (.iadd, 1) := qd_o96 496 25 qd_g788 rfl
theorem dL_law_522 : decode cL_law 522 = .ok (.iaload, 1) := qd_o46 496 26 qd_g788 rfl
theorem dL_law_523 : decode cL_law 523 = .ok (.aload_n 3, 1) := qd_o45 496 27 qd_g788 rfl
theorem dL_law_524 : decode cL_law 524 = .ok (.invokestatic 138, 3) := qd_o184 496 28 qd_g788 rfl rfl
theorem dL_law_527 : decode cL_law 527 = .ok (.istore 5, 2) := qd_o54 496 31 qd_g788 rfl rfl
theorem dL_law_529 : decode cL_law 529 = .ok (.aload_n 2, 1) := qd_o44 496 33 qd_g788 rfl
theorem dL_law_530 : decode cL_law 530 = .ok (.aload_n 0, 1) := qd_o42 496 34 qd_g788 rfl
theorem dL_law_531 : decode cL_law 531 = .ok (.iload 4, 2) := qd_o21 496 35 qd_g788 rfl rfl
theorem dL_law_533 : decode cL_law 533 = .ok (.iconst 1, 1) := qd_o4 496 37 qd_g788 rfl
theorem dL_law_534 : decode cL_law 534 = .ok (.iadd, 1) := qd_o96 496 38 qd_g788 rfl
theorem dL_law_535 : decode cL_law 535 = .ok (.iaload, 1) := qd_o46 496 39 qd_g788 rfl
theorem qd_g789 : qd_bs cL_law 536 [182, 0, 140, 54, 6, 167, 3, 20, 43, 42, 21, 4, 4, 96, 46, 42, 21, 4, 5, 96, 46, 42, 21, 4, 6, 96, 46, 45, 184, 0, 141, 54, 5, 44, 42, 21, 4, 4, 96, 46] = true := by decide +kernel
theorem dL_law_536 : decode cL_law 536 = .ok (.invokevirtual 140, 3) := qd_o182 536 0 qd_g789 rfl rfl
theorem dL_law_539 : decode cL_law 539 = .ok (.istore 6, 2) := qd_o54 536 3 qd_g789 rfl rfl
theorem dL_law_541 : decode cL_law 541 = .ok (.goto 788, 3) := qd_o167 536 5 qd_g789 rfl rfl
theorem dL_law_544 : decode cL_law 544 = .ok (.aload_n 1, 1) := qd_o43 536 8 qd_g789 rfl
theorem dL_law_545 : decode cL_law 545 = .ok (.aload_n 0, 1) := qd_o42 536 9 qd_g789 rfl
theorem dL_law_546 : decode cL_law 546 = .ok (.iload 4, 2) := qd_o21 536 10 qd_g789 rfl rfl
theorem dL_law_548 : decode cL_law 548 = .ok (.iconst 1, 1) := qd_o4 536 12 qd_g789 rfl
theorem dL_law_549 : decode cL_law 549 = .ok (.iadd, 1) := qd_o96 536 13 qd_g789 rfl
theorem dL_law_550 : decode cL_law 550 = .ok (.iaload, 1) := qd_o46 536 14 qd_g789 rfl
theorem dL_law_551 : decode cL_law 551 = .ok (.aload_n 0, 1) := qd_o42 536 15 qd_g789 rfl
theorem dL_law_552 : decode cL_law 552 = .ok (.iload 4, 2) := qd_o21 536 16 qd_g789 rfl rfl
theorem dL_law_554 : decode cL_law 554 = .ok (.iconst 2, 1) := qd_o5 536 18 qd_g789 rfl
theorem dL_law_555 : decode cL_law 555 = .ok (.iadd, 1) := qd_o96 536 19 qd_g789 rfl
theorem dL_law_556 : decode cL_law 556 = .ok (.iaload, 1) := qd_o46 536 20 qd_g789 rfl
theorem dL_law_557 : decode cL_law 557 = .ok (.aload_n 0, 1) := qd_o42 536 21 qd_g789 rfl
theorem dL_law_558 : decode cL_law 558 = .ok (.iload 4, 2) := qd_o21 536 22 qd_g789 rfl rfl
theorem dL_law_560 : decode cL_law 560 = .ok (.iconst 3, 1) := qd_o6 536 24 qd_g789 rfl
theorem dL_law_561 : decode cL_law 561 = .ok (.iadd, 1) := qd_o96 536 25 qd_g789 rfl
theorem dL_law_562 : decode cL_law 562 = .ok (.iaload, 1) := qd_o46 536 26 qd_g789 rfl
theorem dL_law_563 : decode cL_law 563 = .ok (.aload_n 3, 1) := qd_o45 536 27 qd_g789 rfl
theorem dL_law_564 : decode cL_law 564 = .ok (.invokestatic 141, 3) := qd_o184 536 28 qd_g789 rfl rfl
theorem dL_law_567 : decode cL_law 567 = .ok (.istore 5, 2) := qd_o54 536 31 qd_g789 rfl rfl
theorem dL_law_569 : decode cL_law 569 = .ok (.aload_n 2, 1) := qd_o44 536 33 qd_g789 rfl
theorem dL_law_570 : decode cL_law 570 = .ok (.aload_n 0, 1) := qd_o42 536 34 qd_g789 rfl
theorem dL_law_571 : decode cL_law 571 = .ok (.iload 4, 2) := qd_o21 536 35 qd_g789 rfl rfl
theorem dL_law_573 : decode cL_law 573 = .ok (.iconst 1, 1) := qd_o4 536 37 qd_g789 rfl
theorem dL_law_574 : decode cL_law 574 = .ok (.iadd, 1) := qd_o96 536 38 qd_g789 rfl
theorem dL_law_575 : decode cL_law 575 = .ok (.iaload, 1) := qd_o46 536 39 qd_g789 rfl
theorem qd_g790 : qd_bs cL_law 576 [42, 21, 4, 5, 96, 46, 42, 21, 4, 6, 96, 46, 182, 0, 143, 54, 6, 167, 2, 224, 43, 42, 21, 4, 4, 96, 46, 45, 184, 0, 144, 54, 5, 44, 42, 21, 4, 4, 96, 46] = true := by decide +kernel
theorem dL_law_576 : decode cL_law 576 = .ok (.aload_n 0, 1) := qd_o42 576 0 qd_g790 rfl
theorem dL_law_577 : decode cL_law 577 = .ok (.iload 4, 2) := qd_o21 576 1 qd_g790 rfl rfl
theorem dL_law_579 : decode cL_law 579 = .ok (.iconst 2, 1) := qd_o5 576 3 qd_g790 rfl
theorem dL_law_580 : decode cL_law 580 = .ok (.iadd, 1) := qd_o96 576 4 qd_g790 rfl
theorem dL_law_581 : decode cL_law 581 = .ok (.iaload, 1) := qd_o46 576 5 qd_g790 rfl
theorem dL_law_582 : decode cL_law 582 = .ok (.aload_n 0, 1) := qd_o42 576 6 qd_g790 rfl
theorem dL_law_583 : decode cL_law 583 = .ok (.iload 4, 2) := qd_o21 576 7 qd_g790 rfl rfl
theorem dL_law_585 : decode cL_law 585 = .ok (.iconst 3, 1) := qd_o6 576 9 qd_g790 rfl
theorem dL_law_586 : decode cL_law 586 = .ok (.iadd, 1) := qd_o96 576 10 qd_g790 rfl
theorem dL_law_587 : decode cL_law 587 = .ok (.iaload, 1) := qd_o46 576 11 qd_g790 rfl
theorem dL_law_588 : decode cL_law 588 = .ok (.invokevirtual 143, 3) := qd_o182 576 12 qd_g790 rfl rfl
theorem dL_law_591 : decode cL_law 591 = .ok (.istore 6, 2) := qd_o54 576 15 qd_g790 rfl rfl
theorem dL_law_593 : decode cL_law 593 = .ok (.goto 736, 3) := qd_o167 576 17 qd_g790 rfl rfl
theorem dL_law_596 : decode cL_law 596 = .ok (.aload_n 1, 1) := qd_o43 576 20 qd_g790 rfl
theorem dL_law_597 : decode cL_law 597 = .ok (.aload_n 0, 1) := qd_o42 576 21 qd_g790 rfl
theorem dL_law_598 : decode cL_law 598 = .ok (.iload 4, 2) := qd_o21 576 22 qd_g790 rfl rfl
theorem dL_law_600 : decode cL_law 600 = .ok (.iconst 1, 1) := qd_o4 576 24 qd_g790 rfl
theorem dL_law_601 : decode cL_law 601 = .ok (.iadd, 1) := qd_o96 576 25 qd_g790 rfl
theorem dL_law_602 : decode cL_law 602 = .ok (.iaload, 1) := qd_o46 576 26 qd_g790 rfl
theorem dL_law_603 : decode cL_law 603 = .ok (.aload_n 3, 1) := qd_o45 576 27 qd_g790 rfl
theorem dL_law_604 : decode cL_law 604 = .ok (.invokestatic 144, 3) := qd_o184 576 28 qd_g790 rfl rfl
theorem dL_law_607 : decode cL_law 607 = .ok (.istore 5, 2) := qd_o54 576 31 qd_g790 rfl rfl
theorem dL_law_609 : decode cL_law 609 = .ok (.aload_n 2, 1) := qd_o44 576 33 qd_g790 rfl
theorem dL_law_610 : decode cL_law 610 = .ok (.aload_n 0, 1) := qd_o42 576 34 qd_g790 rfl
theorem dL_law_611 : decode cL_law 611 = .ok (.iload 4, 2) := qd_o21 576 35 qd_g790 rfl rfl
theorem dL_law_613 : decode cL_law 613 = .ok (.iconst 1, 1) := qd_o4 576 37 qd_g790 rfl
theorem dL_law_614 : decode cL_law 614 = .ok (.iadd, 1) := qd_o96 576 38 qd_g790 rfl
theorem dL_law_615 : decode cL_law 615 = .ok (.iaload, 1) := qd_o46 576 39 qd_g790 rfl
theorem qd_g791 : qd_bs cL_law 616 [182, 0, 146, 54, 6, 167, 2, 196, 43, 42, 21, 4, 4, 96, 46, 42, 21, 4, 5, 96, 46, 45, 184, 0, 147, 54, 5, 44, 42, 21, 4, 4, 96, 46, 42, 21, 4, 5, 96, 46] = true := by decide +kernel
theorem dL_law_616 : decode cL_law 616 = .ok (.invokevirtual 146, 3) := qd_o182 616 0 qd_g791 rfl rfl
theorem dL_law_619 : decode cL_law 619 = .ok (.istore 6, 2) := qd_o54 616 3 qd_g791 rfl rfl
theorem dL_law_621 : decode cL_law 621 = .ok (.goto 708, 3) := qd_o167 616 5 qd_g791 rfl rfl
theorem dL_law_624 : decode cL_law 624 = .ok (.aload_n 1, 1) := qd_o43 616 8 qd_g791 rfl
theorem dL_law_625 : decode cL_law 625 = .ok (.aload_n 0, 1) := qd_o42 616 9 qd_g791 rfl
theorem dL_law_626 : decode cL_law 626 = .ok (.iload 4, 2) := qd_o21 616 10 qd_g791 rfl rfl
theorem dL_law_628 : decode cL_law 628 = .ok (.iconst 1, 1) := qd_o4 616 12 qd_g791 rfl
theorem dL_law_629 : decode cL_law 629 = .ok (.iadd, 1) := qd_o96 616 13 qd_g791 rfl
theorem dL_law_630 : decode cL_law 630 = .ok (.iaload, 1) := qd_o46 616 14 qd_g791 rfl
theorem dL_law_631 : decode cL_law 631 = .ok (.aload_n 0, 1) := qd_o42 616 15 qd_g791 rfl
theorem dL_law_632 : decode cL_law 632 = .ok (.iload 4, 2) := qd_o21 616 16 qd_g791 rfl rfl
theorem dL_law_634 : decode cL_law 634 = .ok (.iconst 2, 1) := qd_o5 616 18 qd_g791 rfl
theorem dL_law_635 : decode cL_law 635 = .ok (.iadd, 1) := qd_o96 616 19 qd_g791 rfl
theorem dL_law_636 : decode cL_law 636 = .ok (.iaload, 1) := qd_o46 616 20 qd_g791 rfl
theorem dL_law_637 : decode cL_law 637 = .ok (.aload_n 3, 1) := qd_o45 616 21 qd_g791 rfl
theorem dL_law_638 : decode cL_law 638 = .ok (.invokestatic 147, 3) := qd_o184 616 22 qd_g791 rfl rfl
theorem dL_law_641 : decode cL_law 641 = .ok (.istore 5, 2) := qd_o54 616 25 qd_g791 rfl rfl
theorem dL_law_643 : decode cL_law 643 = .ok (.aload_n 2, 1) := qd_o44 616 27 qd_g791 rfl
theorem dL_law_644 : decode cL_law 644 = .ok (.aload_n 0, 1) := qd_o42 616 28 qd_g791 rfl
theorem dL_law_645 : decode cL_law 645 = .ok (.iload 4, 2) := qd_o21 616 29 qd_g791 rfl rfl
theorem dL_law_647 : decode cL_law 647 = .ok (.iconst 1, 1) := qd_o4 616 31 qd_g791 rfl
theorem dL_law_648 : decode cL_law 648 = .ok (.iadd, 1) := qd_o96 616 32 qd_g791 rfl
theorem dL_law_649 : decode cL_law 649 = .ok (.iaload, 1) := qd_o46 616 33 qd_g791 rfl
theorem dL_law_650 : decode cL_law 650 = .ok (.aload_n 0, 1) := qd_o42 616 34 qd_g791 rfl
theorem dL_law_651 : decode cL_law 651 = .ok (.iload 4, 2) := qd_o21 616 35 qd_g791 rfl rfl
theorem dL_law_653 : decode cL_law 653 = .ok (.iconst 2, 1) := qd_o5 616 37 qd_g791 rfl
theorem dL_law_654 : decode cL_law 654 = .ok (.iadd, 1) := qd_o96 616 38 qd_g791 rfl
theorem dL_law_655 : decode cL_law 655 = .ok (.iaload, 1) := qd_o46 616 39 qd_g791 rfl
theorem qd_g792 : qd_bs cL_law 656 [182, 0, 149, 54, 6, 167, 2, 156, 43, 182, 0, 150, 87, 44, 182, 0, 153, 87, 167, 2, 143, 43, 182, 0, 154, 87, 44, 182, 0, 157, 87, 167, 2, 130, 43, 182, 0, 158, 87, 44] = true := by decide +kernel
theorem dL_law_656 : decode cL_law 656 = .ok (.invokevirtual 149, 3) := qd_o182 656 0 qd_g792 rfl rfl
theorem dL_law_659 : decode cL_law 659 = .ok (.istore 6, 2) := qd_o54 656 3 qd_g792 rfl rfl
theorem dL_law_661 : decode cL_law 661 = .ok (.goto 668, 3) := qd_o167 656 5 qd_g792 rfl rfl
theorem dL_law_664 : decode cL_law 664 = .ok (.aload_n 1, 1) := qd_o43 656 8 qd_g792 rfl
theorem dL_law_665 : decode cL_law 665 = .ok (.invokevirtual 150, 3) := qd_o182 656 9 qd_g792 rfl rfl
theorem dL_law_668 : decode cL_law 668 = .ok (.pop, 1) := qd_o87 656 12 qd_g792 rfl
theorem dL_law_669 : decode cL_law 669 = .ok (.aload_n 2, 1) := qd_o44 656 13 qd_g792 rfl
theorem dL_law_670 : decode cL_law 670 = .ok (.invokevirtual 153, 3) := qd_o182 656 14 qd_g792 rfl rfl
theorem dL_law_673 : decode cL_law 673 = .ok (.pop, 1) := qd_o87 656 17 qd_g792 rfl
theorem dL_law_674 : decode cL_law 674 = .ok (.goto 655, 3) := qd_o167 656 18 qd_g792 rfl rfl
theorem dL_law_677 : decode cL_law 677 = .ok (.aload_n 1, 1) := qd_o43 656 21 qd_g792 rfl
theorem dL_law_678 : decode cL_law 678 = .ok (.invokevirtual 154, 3) := qd_o182 656 22 qd_g792 rfl rfl
theorem dL_law_681 : decode cL_law 681 = .ok (.pop, 1) := qd_o87 656 25 qd_g792 rfl
theorem dL_law_682 : decode cL_law 682 = .ok (.aload_n 2, 1) := qd_o44 656 26 qd_g792 rfl
theorem dL_law_683 : decode cL_law 683 = .ok (.invokevirtual 157, 3) := qd_o182 656 27 qd_g792 rfl rfl
theorem dL_law_686 : decode cL_law 686 = .ok (.pop, 1) := qd_o87 656 30 qd_g792 rfl
theorem dL_law_687 : decode cL_law 687 = .ok (.goto 642, 3) := qd_o167 656 31 qd_g792 rfl rfl
theorem dL_law_690 : decode cL_law 690 = .ok (.aload_n 1, 1) := qd_o43 656 34 qd_g792 rfl
theorem dL_law_691 : decode cL_law 691 = .ok (.invokevirtual 158, 3) := qd_o182 656 35 qd_g792 rfl rfl
theorem dL_law_694 : decode cL_law 694 = .ok (.pop, 1) := qd_o87 656 38 qd_g792 rfl
theorem dL_law_695 : decode cL_law 695 = .ok (.aload_n 2, 1) := qd_o44 656 39 qd_g792 rfl
theorem qd_g793 : qd_bs cL_law 696 [182, 0, 161, 87, 167, 2, 117, 43, 42, 21, 4, 4, 96, 46, 45, 184, 0, 162, 54, 5, 44, 42, 21, 4, 4, 96, 46, 182, 0, 164, 54, 6, 167, 2, 89, 43, 45, 184, 0, 165] = true := by decide +kernel
theorem dL_law_696 : decode cL_law 696 = .ok (.invokevirtual 161, 3) := qd_o182 696 0 qd_g793 rfl rfl
theorem dL_law_699 : decode cL_law 699 = .ok (.pop, 1) := qd_o87 696 3 qd_g793 rfl
theorem dL_law_700 : decode cL_law 700 = .ok (.goto 629, 3) := qd_o167 696 4 qd_g793 rfl rfl
theorem dL_law_703 : decode cL_law 703 = .ok (.aload_n 1, 1) := qd_o43 696 7 qd_g793 rfl
theorem dL_law_704 : decode cL_law 704 = .ok (.aload_n 0, 1) := qd_o42 696 8 qd_g793 rfl
theorem dL_law_705 : decode cL_law 705 = .ok (.iload 4, 2) := qd_o21 696 9 qd_g793 rfl rfl
theorem dL_law_707 : decode cL_law 707 = .ok (.iconst 1, 1) := qd_o4 696 11 qd_g793 rfl
theorem dL_law_708 : decode cL_law 708 = .ok (.iadd, 1) := qd_o96 696 12 qd_g793 rfl
theorem dL_law_709 : decode cL_law 709 = .ok (.iaload, 1) := qd_o46 696 13 qd_g793 rfl
theorem dL_law_710 : decode cL_law 710 = .ok (.aload_n 3, 1) := qd_o45 696 14 qd_g793 rfl
theorem dL_law_711 : decode cL_law 711 = .ok (.invokestatic 162, 3) := qd_o184 696 15 qd_g793 rfl rfl
theorem dL_law_714 : decode cL_law 714 = .ok (.istore 5, 2) := qd_o54 696 18 qd_g793 rfl rfl
theorem dL_law_716 : decode cL_law 716 = .ok (.aload_n 2, 1) := qd_o44 696 20 qd_g793 rfl
theorem dL_law_717 : decode cL_law 717 = .ok (.aload_n 0, 1) := qd_o42 696 21 qd_g793 rfl
theorem dL_law_718 : decode cL_law 718 = .ok (.iload 4, 2) := qd_o21 696 22 qd_g793 rfl rfl
theorem dL_law_720 : decode cL_law 720 = .ok (.iconst 1, 1) := qd_o4 696 24 qd_g793 rfl
theorem dL_law_721 : decode cL_law 721 = .ok (.iadd, 1) := qd_o96 696 25 qd_g793 rfl
theorem dL_law_722 : decode cL_law 722 = .ok (.iaload, 1) := qd_o46 696 26 qd_g793 rfl
theorem dL_law_723 : decode cL_law 723 = .ok (.invokevirtual 164, 3) := qd_o182 696 27 qd_g793 rfl rfl
theorem dL_law_726 : decode cL_law 726 = .ok (.istore 6, 2) := qd_o54 696 30 qd_g793 rfl rfl
theorem dL_law_728 : decode cL_law 728 = .ok (.goto 601, 3) := qd_o167 696 32 qd_g793 rfl rfl
theorem dL_law_731 : decode cL_law 731 = .ok (.aload_n 1, 1) := qd_o43 696 35 qd_g793 rfl
theorem dL_law_732 : decode cL_law 732 = .ok (.aload_n 3, 1) := qd_o45 696 36 qd_g793 rfl
theorem dL_law_733 : decode cL_law 733 = .ok (.invokestatic 165, 3) := qd_o184 696 37 qd_g793 rfl rfl
theorem qd_g794 : qd_bs cL_law 736 [54, 5, 44, 182, 0, 168, 54, 6, 167, 2, 73, 43, 182, 0, 169, 88, 44, 182, 0, 173, 88, 167, 2, 60, 43, 182, 0, 174, 87, 44, 182, 0, 177, 87, 167, 2, 47, 43] = true := by decide +kernel
theorem dL_law_736 : decode cL_law 736 = .ok (.istore 5, 2) := qd_o54 736 0 qd_g794 rfl rfl
theorem dL_law_738 : decode cL_law 738 = .ok (.aload_n 2, 1) := qd_o44 736 2 qd_g794 rfl
theorem dL_law_739 : decode cL_law 739 = .ok (.invokevirtual 168, 3) := qd_o182 736 3 qd_g794 rfl rfl
theorem dL_law_742 : decode cL_law 742 = .ok (.istore 6, 2) := qd_o54 736 6 qd_g794 rfl rfl
theorem dL_law_744 : decode cL_law 744 = .ok (.goto 585, 3) := qd_o167 736 8 qd_g794 rfl rfl
theorem dL_law_747 : decode cL_law 747 = .ok (.aload_n 1, 1) := qd_o43 736 11 qd_g794 rfl
theorem dL_law_748 : decode cL_law 748 = .ok (.invokevirtual 169, 3) := qd_o182 736 12 qd_g794 rfl rfl
theorem dL_law_751 : decode cL_law 751 = .ok (.pop2, 1) := qd_o88 736 15 qd_g794 rfl
theorem dL_law_752 : decode cL_law 752 = .ok (.aload_n 2, 1) := qd_o44 736 16 qd_g794 rfl
theorem dL_law_753 : decode cL_law 753 = .ok (.invokevirtual 173, 3) := qd_o182 736 17 qd_g794 rfl rfl
theorem dL_law_756 : decode cL_law 756 = .ok (.pop2, 1) := qd_o88 736 20 qd_g794 rfl
theorem dL_law_757 : decode cL_law 757 = .ok (.goto 572, 3) := qd_o167 736 21 qd_g794 rfl rfl
theorem dL_law_760 : decode cL_law 760 = .ok (.aload_n 1, 1) := qd_o43 736 24 qd_g794 rfl
theorem dL_law_761 : decode cL_law 761 = .ok (.invokevirtual 174, 3) := qd_o182 736 25 qd_g794 rfl rfl
theorem dL_law_764 : decode cL_law 764 = .ok (.pop, 1) := qd_o87 736 28 qd_g794 rfl
theorem dL_law_765 : decode cL_law 765 = .ok (.aload_n 2, 1) := qd_o44 736 29 qd_g794 rfl
theorem dL_law_766 : decode cL_law 766 = .ok (.invokevirtual 177, 3) := qd_o182 736 30 qd_g794 rfl rfl
theorem dL_law_769 : decode cL_law 769 = .ok (.pop, 1) := qd_o87 736 33 qd_g794 rfl
theorem dL_law_770 : decode cL_law 770 = .ok (.goto 559, 3) := qd_o167 736 34 qd_g794 rfl rfl
theorem dL_law_773 : decode cL_law 773 = .ok (.aload_n 1, 1) := qd_o43 736 37 qd_g794 rfl
theorem qd_g795 : qd_bs cL_law 774 [182, 0, 178, 87, 44, 182, 0, 181, 87, 167, 2, 34, 43, 182, 0, 182, 87, 44, 182, 0, 185, 87, 167, 2, 21, 43, 182, 0, 186, 87, 44, 182, 0, 189, 87, 167, 2, 8, 43, 42] = true := by decide +kernel
theorem dL_law_774 : decode cL_law 774 = .ok (.invokevirtual 178, 3) := qd_o182 774 0 qd_g795 rfl rfl
theorem dL_law_777 : decode cL_law 777 = .ok (.pop, 1) := qd_o87 774 3 qd_g795 rfl
theorem dL_law_778 : decode cL_law 778 = .ok (.aload_n 2, 1) := qd_o44 774 4 qd_g795 rfl
theorem dL_law_779 : decode cL_law 779 = .ok (.invokevirtual 181, 3) := qd_o182 774 5 qd_g795 rfl rfl
theorem dL_law_782 : decode cL_law 782 = .ok (.pop, 1) := qd_o87 774 8 qd_g795 rfl
theorem dL_law_783 : decode cL_law 783 = .ok (.goto 546, 3) := qd_o167 774 9 qd_g795 rfl rfl
theorem dL_law_786 : decode cL_law 786 = .ok (.aload_n 1, 1) := qd_o43 774 12 qd_g795 rfl
theorem dL_law_787 : decode cL_law 787 = .ok (.invokevirtual 182, 3) := qd_o182 774 13 qd_g795 rfl rfl
theorem dL_law_790 : decode cL_law 790 = .ok (.pop, 1) := qd_o87 774 16 qd_g795 rfl
theorem dL_law_791 : decode cL_law 791 = .ok (.aload_n 2, 1) := qd_o44 774 17 qd_g795 rfl
theorem dL_law_792 : decode cL_law 792 = .ok (.invokevirtual 185, 3) := qd_o182 774 18 qd_g795 rfl rfl
theorem dL_law_795 : decode cL_law 795 = .ok (.pop, 1) := qd_o87 774 21 qd_g795 rfl
theorem dL_law_796 : decode cL_law 796 = .ok (.goto 533, 3) := qd_o167 774 22 qd_g795 rfl rfl
theorem dL_law_799 : decode cL_law 799 = .ok (.aload_n 1, 1) := qd_o43 774 25 qd_g795 rfl
theorem dL_law_800 : decode cL_law 800 = .ok (.invokevirtual 186, 3) := qd_o182 774 26 qd_g795 rfl rfl
theorem dL_law_803 : decode cL_law 803 = .ok (.pop, 1) := qd_o87 774 29 qd_g795 rfl
theorem dL_law_804 : decode cL_law 804 = .ok (.aload_n 2, 1) := qd_o44 774 30 qd_g795 rfl
theorem dL_law_805 : decode cL_law 805 = .ok (.invokevirtual 189, 3) := qd_o182 774 31 qd_g795 rfl rfl
theorem dL_law_808 : decode cL_law 808 = .ok (.pop, 1) := qd_o87 774 34 qd_g795 rfl
theorem dL_law_809 : decode cL_law 809 = .ok (.goto 520, 3) := qd_o167 774 35 qd_g795 rfl rfl
theorem dL_law_812 : decode cL_law 812 = .ok (.aload_n 1, 1) := qd_o43 774 38 qd_g795 rfl
theorem dL_law_813 : decode cL_law 813 = .ok (.aload_n 0, 1) := qd_o42 774 39 qd_g795 rfl
theorem qd_g796 : qd_bs cL_law 814 [21, 4, 4, 96, 46, 45, 184, 0, 190, 54, 5, 44, 42, 21, 4, 4, 96, 46, 182, 0, 192, 54, 6, 167, 1, 236, 43, 42, 21, 4, 4, 96, 46, 42, 21, 4, 5, 96, 46, 45] = true := by decide +kernel
theorem dL_law_814 : decode cL_law 814 = .ok (.iload 4, 2) := qd_o21 814 0 qd_g796 rfl rfl
theorem dL_law_816 : decode cL_law 816 = .ok (.iconst 1, 1) := qd_o4 814 2 qd_g796 rfl
theorem dL_law_817 : decode cL_law 817 = .ok (.iadd, 1) := qd_o96 814 3 qd_g796 rfl
theorem dL_law_818 : decode cL_law 818 = .ok (.iaload, 1) := qd_o46 814 4 qd_g796 rfl
theorem dL_law_819 : decode cL_law 819 = .ok (.aload_n 3, 1) := qd_o45 814 5 qd_g796 rfl
theorem dL_law_820 : decode cL_law 820 = .ok (.invokestatic 190, 3) := qd_o184 814 6 qd_g796 rfl rfl
theorem dL_law_823 : decode cL_law 823 = .ok (.istore 5, 2) := qd_o54 814 9 qd_g796 rfl rfl
theorem dL_law_825 : decode cL_law 825 = .ok (.aload_n 2, 1) := qd_o44 814 11 qd_g796 rfl
theorem dL_law_826 : decode cL_law 826 = .ok (.aload_n 0, 1) := qd_o42 814 12 qd_g796 rfl
theorem dL_law_827 : decode cL_law 827 = .ok (.iload 4, 2) := qd_o21 814 13 qd_g796 rfl rfl
theorem dL_law_829 : decode cL_law 829 = .ok (.iconst 1, 1) := qd_o4 814 15 qd_g796 rfl
theorem dL_law_830 : decode cL_law 830 = .ok (.iadd, 1) := qd_o96 814 16 qd_g796 rfl
theorem dL_law_831 : decode cL_law 831 = .ok (.iaload, 1) := qd_o46 814 17 qd_g796 rfl
theorem dL_law_832 : decode cL_law 832 = .ok (.invokevirtual 192, 3) := qd_o182 814 18 qd_g796 rfl rfl
theorem dL_law_835 : decode cL_law 835 = .ok (.istore 6, 2) := qd_o54 814 21 qd_g796 rfl rfl
theorem dL_law_837 : decode cL_law 837 = .ok (.goto 492, 3) := qd_o167 814 23 qd_g796 rfl rfl
theorem dL_law_840 : decode cL_law 840 = .ok (.aload_n 1, 1) := qd_o43 814 26 qd_g796 rfl
theorem dL_law_841 : decode cL_law 841 = .ok (.aload_n 0, 1) := qd_o42 814 27 qd_g796 rfl
theorem dL_law_842 : decode cL_law 842 = .ok (.iload 4, 2) := qd_o21 814 28 qd_g796 rfl rfl
theorem dL_law_844 : decode cL_law 844 = .ok (.iconst 1, 1) := qd_o4 814 30 qd_g796 rfl
theorem dL_law_845 : decode cL_law 845 = .ok (.iadd, 1) := qd_o96 814 31 qd_g796 rfl
theorem dL_law_846 : decode cL_law 846 = .ok (.iaload, 1) := qd_o46 814 32 qd_g796 rfl
theorem dL_law_847 : decode cL_law 847 = .ok (.aload_n 0, 1) := qd_o42 814 33 qd_g796 rfl
theorem dL_law_848 : decode cL_law 848 = .ok (.iload 4, 2) := qd_o21 814 34 qd_g796 rfl rfl
theorem dL_law_850 : decode cL_law 850 = .ok (.iconst 2, 1) := qd_o5 814 36 qd_g796 rfl
theorem dL_law_851 : decode cL_law 851 = .ok (.iadd, 1) := qd_o96 814 37 qd_g796 rfl
theorem dL_law_852 : decode cL_law 852 = .ok (.iaload, 1) := qd_o46 814 38 qd_g796 rfl
theorem dL_law_853 : decode cL_law 853 = .ok (.aload_n 3, 1) := qd_o45 814 39 qd_g796 rfl
theorem qd_g797 : qd_bs cL_law 854 [184, 0, 193, 54, 5, 44, 42, 21, 4, 4, 96, 46, 42, 21, 4, 5, 96, 46, 182, 0, 195, 54, 6, 167, 1, 196, 43, 42, 21, 4, 4, 96, 46, 42, 21, 4, 5, 96, 46, 45] = true := by decide +kernel
theorem dL_law_854 : decode cL_law 854 = .ok (.invokestatic 193, 3) := qd_o184 854 0 qd_g797 rfl rfl
theorem dL_law_857 : decode cL_law 857 = .ok (.istore 5, 2) := qd_o54 854 3 qd_g797 rfl rfl
theorem dL_law_859 : decode cL_law 859 = .ok (.aload_n 2, 1) := qd_o44 854 5 qd_g797 rfl
theorem dL_law_860 : decode cL_law 860 = .ok (.aload_n 0, 1) := qd_o42 854 6 qd_g797 rfl
theorem dL_law_861 : decode cL_law 861 = .ok (.iload 4, 2) := qd_o21 854 7 qd_g797 rfl rfl
theorem dL_law_863 : decode cL_law 863 = .ok (.iconst 1, 1) := qd_o4 854 9 qd_g797 rfl
theorem dL_law_864 : decode cL_law 864 = .ok (.iadd, 1) := qd_o96 854 10 qd_g797 rfl
theorem dL_law_865 : decode cL_law 865 = .ok (.iaload, 1) := qd_o46 854 11 qd_g797 rfl
theorem dL_law_866 : decode cL_law 866 = .ok (.aload_n 0, 1) := qd_o42 854 12 qd_g797 rfl
theorem dL_law_867 : decode cL_law 867 = .ok (.iload 4, 2) := qd_o21 854 13 qd_g797 rfl rfl
theorem dL_law_869 : decode cL_law 869 = .ok (.iconst 2, 1) := qd_o5 854 15 qd_g797 rfl
theorem dL_law_870 : decode cL_law 870 = .ok (.iadd, 1) := qd_o96 854 16 qd_g797 rfl
theorem dL_law_871 : decode cL_law 871 = .ok (.iaload, 1) := qd_o46 854 17 qd_g797 rfl
theorem dL_law_872 : decode cL_law 872 = .ok (.invokevirtual 195, 3) := qd_o182 854 18 qd_g797 rfl rfl
theorem dL_law_875 : decode cL_law 875 = .ok (.istore 6, 2) := qd_o54 854 21 qd_g797 rfl rfl
theorem dL_law_877 : decode cL_law 877 = .ok (.goto 452, 3) := qd_o167 854 23 qd_g797 rfl rfl
theorem dL_law_880 : decode cL_law 880 = .ok (.aload_n 1, 1) := qd_o43 854 26 qd_g797 rfl
theorem dL_law_881 : decode cL_law 881 = .ok (.aload_n 0, 1) := qd_o42 854 27 qd_g797 rfl
theorem dL_law_882 : decode cL_law 882 = .ok (.iload 4, 2) := qd_o21 854 28 qd_g797 rfl rfl
theorem dL_law_884 : decode cL_law 884 = .ok (.iconst 1, 1) := qd_o4 854 30 qd_g797 rfl
theorem dL_law_885 : decode cL_law 885 = .ok (.iadd, 1) := qd_o96 854 31 qd_g797 rfl
theorem dL_law_886 : decode cL_law 886 = .ok (.iaload, 1) := qd_o46 854 32 qd_g797 rfl
theorem dL_law_887 : decode cL_law 887 = .ok (.aload_n 0, 1) := qd_o42 854 33 qd_g797 rfl
theorem dL_law_888 : decode cL_law 888 = .ok (.iload 4, 2) := qd_o21 854 34 qd_g797 rfl rfl
theorem dL_law_890 : decode cL_law 890 = .ok (.iconst 2, 1) := qd_o5 854 36 qd_g797 rfl
theorem dL_law_891 : decode cL_law 891 = .ok (.iadd, 1) := qd_o96 854 37 qd_g797 rfl
theorem dL_law_892 : decode cL_law 892 = .ok (.iaload, 1) := qd_o46 854 38 qd_g797 rfl
theorem dL_law_893 : decode cL_law 893 = .ok (.aload_n 3, 1) := qd_o45 854 39 qd_g797 rfl
theorem qd_g798 : qd_bs cL_law 894 [184, 0, 196, 54, 5, 44, 42, 21, 4, 4, 96, 46, 42, 21, 4, 5, 96, 46, 182, 0, 198, 54, 6, 167, 1, 156, 43, 42, 21, 4, 4, 96, 46, 45, 184, 0, 199, 54, 5, 44] = true := by decide +kernel
theorem dL_law_894 : decode cL_law 894 = .ok (.invokestatic 196, 3) := qd_o184 894 0 qd_g798 rfl rfl
theorem dL_law_897 : decode cL_law 897 = .ok (.istore 5, 2) := qd_o54 894 3 qd_g798 rfl rfl
theorem dL_law_899 : decode cL_law 899 = .ok (.aload_n 2, 1) := qd_o44 894 5 qd_g798 rfl
theorem dL_law_900 : decode cL_law 900 = .ok (.aload_n 0, 1) := qd_o42 894 6 qd_g798 rfl
theorem dL_law_901 : decode cL_law 901 = .ok (.iload 4, 2) := qd_o21 894 7 qd_g798 rfl rfl
theorem dL_law_903 : decode cL_law 903 = .ok (.iconst 1, 1) := qd_o4 894 9 qd_g798 rfl
theorem dL_law_904 : decode cL_law 904 = .ok (.iadd, 1) := qd_o96 894 10 qd_g798 rfl
theorem dL_law_905 : decode cL_law 905 = .ok (.iaload, 1) := qd_o46 894 11 qd_g798 rfl
theorem dL_law_906 : decode cL_law 906 = .ok (.aload_n 0, 1) := qd_o42 894 12 qd_g798 rfl
theorem dL_law_907 : decode cL_law 907 = .ok (.iload 4, 2) := qd_o21 894 13 qd_g798 rfl rfl
theorem dL_law_909 : decode cL_law 909 = .ok (.iconst 2, 1) := qd_o5 894 15 qd_g798 rfl
theorem dL_law_910 : decode cL_law 910 = .ok (.iadd, 1) := qd_o96 894 16 qd_g798 rfl
theorem dL_law_911 : decode cL_law 911 = .ok (.iaload, 1) := qd_o46 894 17 qd_g798 rfl
theorem dL_law_912 : decode cL_law 912 = .ok (.invokevirtual 198, 3) := qd_o182 894 18 qd_g798 rfl rfl
theorem dL_law_915 : decode cL_law 915 = .ok (.istore 6, 2) := qd_o54 894 21 qd_g798 rfl rfl
theorem dL_law_917 : decode cL_law 917 = .ok (.goto 412, 3) := qd_o167 894 23 qd_g798 rfl rfl
theorem dL_law_920 : decode cL_law 920 = .ok (.aload_n 1, 1) := qd_o43 894 26 qd_g798 rfl
theorem dL_law_921 : decode cL_law 921 = .ok (.aload_n 0, 1) := qd_o42 894 27 qd_g798 rfl
theorem dL_law_922 : decode cL_law 922 = .ok (.iload 4, 2) := qd_o21 894 28 qd_g798 rfl rfl
theorem dL_law_924 : decode cL_law 924 = .ok (.iconst 1, 1) := qd_o4 894 30 qd_g798 rfl
theorem dL_law_925 : decode cL_law 925 = .ok (.iadd, 1) := qd_o96 894 31 qd_g798 rfl
theorem dL_law_926 : decode cL_law 926 = .ok (.iaload, 1) := qd_o46 894 32 qd_g798 rfl
theorem dL_law_927 : decode cL_law 927 = .ok (.aload_n 3, 1) := qd_o45 894 33 qd_g798 rfl
theorem dL_law_928 : decode cL_law 928 = .ok (.invokestatic 199, 3) := qd_o184 894 34 qd_g798 rfl rfl
theorem dL_law_931 : decode cL_law 931 = .ok (.istore 5, 2) := qd_o54 894 37 qd_g798 rfl rfl
theorem dL_law_933 : decode cL_law 933 = .ok (.aload_n 2, 1) := qd_o44 894 39 qd_g798 rfl
theorem qd_g799 : qd_bs cL_law 934 [42, 21, 4, 4, 96, 46, 182, 0, 201, 54, 6, 167, 1, 128, 43, 42, 21, 4, 4, 96, 46, 45, 184, 0, 202, 54, 5, 44, 42, 21, 4, 4, 96, 46, 182, 0, 204, 54, 6] = true := by decide +kernel
theorem dL_law_934 : decode cL_law 934 = .ok (.aload_n 0, 1) := qd_o42 934 0 qd_g799 rfl
theorem dL_law_935 : decode cL_law 935 = .ok (.iload 4, 2) := qd_o21 934 1 qd_g799 rfl rfl
theorem dL_law_937 : decode cL_law 937 = .ok (.iconst 1, 1) := qd_o4 934 3 qd_g799 rfl
theorem dL_law_938 : decode cL_law 938 = .ok (.iadd, 1) := qd_o96 934 4 qd_g799 rfl
theorem dL_law_939 : decode cL_law 939 = .ok (.iaload, 1) := qd_o46 934 5 qd_g799 rfl
theorem dL_law_940 : decode cL_law 940 = .ok (.invokevirtual 201, 3) := qd_o182 934 6 qd_g799 rfl rfl
theorem dL_law_943 : decode cL_law 943 = .ok (.istore 6, 2) := qd_o54 934 9 qd_g799 rfl rfl
theorem dL_law_945 : decode cL_law 945 = .ok (.goto 384, 3) := qd_o167 934 11 qd_g799 rfl rfl
theorem dL_law_948 : decode cL_law 948 = .ok (.aload_n 1, 1) := qd_o43 934 14 qd_g799 rfl
theorem dL_law_949 : decode cL_law 949 = .ok (.aload_n 0, 1) := qd_o42 934 15 qd_g799 rfl
theorem dL_law_950 : decode cL_law 950 = .ok (.iload 4, 2) := qd_o21 934 16 qd_g799 rfl rfl
theorem dL_law_952 : decode cL_law 952 = .ok (.iconst 1, 1) := qd_o4 934 18 qd_g799 rfl
theorem dL_law_953 : decode cL_law 953 = .ok (.iadd, 1) := qd_o96 934 19 qd_g799 rfl
theorem dL_law_954 : decode cL_law 954 = .ok (.iaload, 1) := qd_o46 934 20 qd_g799 rfl
theorem dL_law_955 : decode cL_law 955 = .ok (.aload_n 3, 1) := qd_o45 934 21 qd_g799 rfl
theorem dL_law_956 : decode cL_law 956 = .ok (.invokestatic 202, 3) := qd_o184 934 22 qd_g799 rfl rfl
theorem dL_law_959 : decode cL_law 959 = .ok (.istore 5, 2) := qd_o54 934 25 qd_g799 rfl rfl
theorem dL_law_961 : decode cL_law 961 = .ok (.aload_n 2, 1) := qd_o44 934 27 qd_g799 rfl
theorem dL_law_962 : decode cL_law 962 = .ok (.aload_n 0, 1) := qd_o42 934 28 qd_g799 rfl
theorem dL_law_963 : decode cL_law 963 = .ok (.iload 4, 2) := qd_o21 934 29 qd_g799 rfl rfl
theorem dL_law_965 : decode cL_law 965 = .ok (.iconst 1, 1) := qd_o4 934 31 qd_g799 rfl
theorem dL_law_966 : decode cL_law 966 = .ok (.iadd, 1) := qd_o96 934 32 qd_g799 rfl
theorem dL_law_967 : decode cL_law 967 = .ok (.iaload, 1) := qd_o46 934 33 qd_g799 rfl
theorem dL_law_968 : decode cL_law 968 = .ok (.invokevirtual 204, 3) := qd_o182 934 34 qd_g799 rfl rfl
theorem dL_law_971 : decode cL_law 971 = .ok (.istore 6, 2) := qd_o54 934 37 qd_g799 rfl rfl
theorem qd_g800 : qd_bs cL_law 973 [167, 1, 100, 43, 42, 21, 4, 4, 96, 46, 42, 21, 4, 5, 96, 46, 42, 21, 4, 6, 96, 46, 153, 0, 7, 4, 167, 0, 4, 3, 45, 184, 0, 205, 54, 5, 44, 42, 21, 4] = true := by decide +kernel
theorem dL_law_973 : decode cL_law 973 = .ok (.goto 356, 3) := qd_o167 973 0 qd_g800 rfl rfl
theorem dL_law_976 : decode cL_law 976 = .ok (.aload_n 1, 1) := qd_o43 973 3 qd_g800 rfl
theorem dL_law_977 : decode cL_law 977 = .ok (.aload_n 0, 1) := qd_o42 973 4 qd_g800 rfl
theorem dL_law_978 : decode cL_law 978 = .ok (.iload 4, 2) := qd_o21 973 5 qd_g800 rfl rfl
theorem dL_law_980 : decode cL_law 980 = .ok (.iconst 1, 1) := qd_o4 973 7 qd_g800 rfl
theorem dL_law_981 : decode cL_law 981 = .ok (.iadd, 1) := qd_o96 973 8 qd_g800 rfl
theorem dL_law_982 : decode cL_law 982 = .ok (.iaload, 1) := qd_o46 973 9 qd_g800 rfl
theorem dL_law_983 : decode cL_law 983 = .ok (.aload_n 0, 1) := qd_o42 973 10 qd_g800 rfl
theorem dL_law_984 : decode cL_law 984 = .ok (.iload 4, 2) := qd_o21 973 11 qd_g800 rfl rfl
theorem dL_law_986 : decode cL_law 986 = .ok (.iconst 2, 1) := qd_o5 973 13 qd_g800 rfl
theorem dL_law_987 : decode cL_law 987 = .ok (.iadd, 1) := qd_o96 973 14 qd_g800 rfl
theorem dL_law_988 : decode cL_law 988 = .ok (.iaload, 1) := qd_o46 973 15 qd_g800 rfl
theorem dL_law_989 : decode cL_law 989 = .ok (.aload_n 0, 1) := qd_o42 973 16 qd_g800 rfl
theorem dL_law_990 : decode cL_law 990 = .ok (.iload 4, 2) := qd_o21 973 17 qd_g800 rfl rfl
theorem dL_law_992 : decode cL_law 992 = .ok (.iconst 3, 1) := qd_o6 973 19 qd_g800 rfl
theorem dL_law_993 : decode cL_law 993 = .ok (.iadd, 1) := qd_o96 973 20 qd_g800 rfl
theorem dL_law_994 : decode cL_law 994 = .ok (.iaload, 1) := qd_o46 973 21 qd_g800 rfl
theorem dL_law_995 : decode cL_law 995 = .ok (.ifCond .eq 7, 3) := qd_o153 973 22 qd_g800 rfl rfl
theorem dL_law_998 : decode cL_law 998 = .ok (.iconst 1, 1) := qd_o4 973 25 qd_g800 rfl
theorem dL_law_999 : decode cL_law 999 = .ok (.goto 4, 3) := qd_o167 973 26 qd_g800 rfl rfl
theorem dL_law_1002 : decode cL_law 1002 = .ok (.iconst 0, 1) := qd_o3 973 29 qd_g800 rfl
theorem dL_law_1003 : decode cL_law 1003 = .ok (.aload_n 3, 1) := qd_o45 973 30 qd_g800 rfl
theorem dL_law_1004 : decode cL_law 1004 = .ok (.invokestatic 205, 3) := qd_o184 973 31 qd_g800 rfl rfl
theorem dL_law_1007 : decode cL_law 1007 = .ok (.istore 5, 2) := qd_o54 973 34 qd_g800 rfl rfl
theorem dL_law_1009 : decode cL_law 1009 = .ok (.aload_n 2, 1) := qd_o44 973 36 qd_g800 rfl
theorem dL_law_1010 : decode cL_law 1010 = .ok (.aload_n 0, 1) := qd_o42 973 37 qd_g800 rfl
theorem dL_law_1011 : decode cL_law 1011 = .ok (.iload 4, 2) := qd_o21 973 38 qd_g800 rfl rfl
theorem qd_g801 : qd_bs cL_law 1013 [4, 96, 46, 42, 21, 4, 5, 96, 46, 42, 21, 4, 6, 96, 46, 153, 0, 7, 4, 167, 0, 4, 3, 182, 0, 208, 54, 6, 167, 1, 32, 43, 42, 21, 4, 4, 96, 46, 45] = true := by decide +kernel
theorem dL_law_1013 : decode cL_law 1013 = .ok (.iconst 1, 1) := qd_o4 1013 0 qd_g801 rfl
theorem dL_law_1014 : decode cL_law 1014 = .ok (.iadd, 1) := qd_o96 1013 1 qd_g801 rfl
theorem dL_law_1015 : decode cL_law 1015 = .ok (.iaload, 1) := qd_o46 1013 2 qd_g801 rfl
theorem dL_law_1016 : decode cL_law 1016 = .ok (.aload_n 0, 1) := qd_o42 1013 3 qd_g801 rfl
theorem dL_law_1017 : decode cL_law 1017 = .ok (.iload 4, 2) := qd_o21 1013 4 qd_g801 rfl rfl
theorem dL_law_1019 : decode cL_law 1019 = .ok (.iconst 2, 1) := qd_o5 1013 6 qd_g801 rfl
theorem dL_law_1020 : decode cL_law 1020 = .ok (.iadd, 1) := qd_o96 1013 7 qd_g801 rfl
theorem dL_law_1021 : decode cL_law 1021 = .ok (.iaload, 1) := qd_o46 1013 8 qd_g801 rfl
theorem dL_law_1022 : decode cL_law 1022 = .ok (.aload_n 0, 1) := qd_o42 1013 9 qd_g801 rfl
theorem dL_law_1023 : decode cL_law 1023 = .ok (.iload 4, 2) := qd_o21 1013 10 qd_g801 rfl rfl
theorem dL_law_1025 : decode cL_law 1025 = .ok (.iconst 3, 1) := qd_o6 1013 12 qd_g801 rfl
theorem dL_law_1026 : decode cL_law 1026 = .ok (.iadd, 1) := qd_o96 1013 13 qd_g801 rfl
theorem dL_law_1027 : decode cL_law 1027 = .ok (.iaload, 1) := qd_o46 1013 14 qd_g801 rfl
theorem dL_law_1028 : decode cL_law 1028 = .ok (.ifCond .eq 7, 3) := qd_o153 1013 15 qd_g801 rfl rfl
theorem dL_law_1031 : decode cL_law 1031 = .ok (.iconst 1, 1) := qd_o4 1013 18 qd_g801 rfl
theorem dL_law_1032 : decode cL_law 1032 = .ok (.goto 4, 3) := qd_o167 1013 19 qd_g801 rfl rfl
theorem dL_law_1035 : decode cL_law 1035 = .ok (.iconst 0, 1) := qd_o3 1013 22 qd_g801 rfl
theorem dL_law_1036 : decode cL_law 1036 = .ok (.invokevirtual 208, 3) := qd_o182 1013 23 qd_g801 rfl rfl
theorem dL_law_1039 : decode cL_law 1039 = .ok (.istore 6, 2) := qd_o54 1013 26 qd_g801 rfl rfl
theorem dL_law_1041 : decode cL_law 1041 = .ok (.goto 288, 3) := qd_o167 1013 28 qd_g801 rfl rfl
theorem dL_law_1044 : decode cL_law 1044 = .ok (.aload_n 1, 1) := qd_o43 1013 31 qd_g801 rfl
theorem dL_law_1045 : decode cL_law 1045 = .ok (.aload_n 0, 1) := qd_o42 1013 32 qd_g801 rfl
theorem dL_law_1046 : decode cL_law 1046 = .ok (.iload 4, 2) := qd_o21 1013 33 qd_g801 rfl rfl
theorem dL_law_1048 : decode cL_law 1048 = .ok (.iconst 1, 1) := qd_o4 1013 35 qd_g801 rfl
theorem dL_law_1049 : decode cL_law 1049 = .ok (.iadd, 1) := qd_o96 1013 36 qd_g801 rfl
theorem dL_law_1050 : decode cL_law 1050 = .ok (.iaload, 1) := qd_o46 1013 37 qd_g801 rfl
theorem dL_law_1051 : decode cL_law 1051 = .ok (.aload_n 3, 1) := qd_o45 1013 38 qd_g801 rfl
theorem qd_g802 : qd_bs cL_law 1052 [184, 0, 209, 54, 5, 44, 42, 21, 4, 4, 96, 46, 182, 0, 211, 54, 6, 167, 1, 4, 43, 42, 21, 4, 4, 96, 46, 45, 184, 0, 212, 54, 5, 44, 42, 21, 4, 4, 96, 46] = true := by decide +kernel
theorem dL_law_1052 : decode cL_law 1052 = .ok (.invokestatic 209, 3) := qd_o184 1052 0 qd_g802 rfl rfl
theorem dL_law_1055 : decode cL_law 1055 = .ok (.istore 5, 2) := qd_o54 1052 3 qd_g802 rfl rfl
theorem dL_law_1057 : decode cL_law 1057 = .ok (.aload_n 2, 1) := qd_o44 1052 5 qd_g802 rfl
theorem dL_law_1058 : decode cL_law 1058 = .ok (.aload_n 0, 1) := qd_o42 1052 6 qd_g802 rfl
theorem dL_law_1059 : decode cL_law 1059 = .ok (.iload 4, 2) := qd_o21 1052 7 qd_g802 rfl rfl
theorem dL_law_1061 : decode cL_law 1061 = .ok (.iconst 1, 1) := qd_o4 1052 9 qd_g802 rfl
theorem dL_law_1062 : decode cL_law 1062 = .ok (.iadd, 1) := qd_o96 1052 10 qd_g802 rfl
theorem dL_law_1063 : decode cL_law 1063 = .ok (.iaload, 1) := qd_o46 1052 11 qd_g802 rfl
theorem dL_law_1064 : decode cL_law 1064 = .ok (.invokevirtual 211, 3) := qd_o182 1052 12 qd_g802 rfl rfl
theorem dL_law_1067 : decode cL_law 1067 = .ok (.istore 6, 2) := qd_o54 1052 15 qd_g802 rfl rfl
theorem dL_law_1069 : decode cL_law 1069 = .ok (.goto 260, 3) := qd_o167 1052 17 qd_g802 rfl rfl
theorem dL_law_1072 : decode cL_law 1072 = .ok (.aload_n 1, 1) := qd_o43 1052 20 qd_g802 rfl
theorem dL_law_1073 : decode cL_law 1073 = .ok (.aload_n 0, 1) := qd_o42 1052 21 qd_g802 rfl
theorem dL_law_1074 : decode cL_law 1074 = .ok (.iload 4, 2) := qd_o21 1052 22 qd_g802 rfl rfl
theorem dL_law_1076 : decode cL_law 1076 = .ok (.iconst 1, 1) := qd_o4 1052 24 qd_g802 rfl
theorem dL_law_1077 : decode cL_law 1077 = .ok (.iadd, 1) := qd_o96 1052 25 qd_g802 rfl
theorem dL_law_1078 : decode cL_law 1078 = .ok (.iaload, 1) := qd_o46 1052 26 qd_g802 rfl
theorem dL_law_1079 : decode cL_law 1079 = .ok (.aload_n 3, 1) := qd_o45 1052 27 qd_g802 rfl
theorem dL_law_1080 : decode cL_law 1080 = .ok (.invokestatic 212, 3) := qd_o184 1052 28 qd_g802 rfl rfl
theorem dL_law_1083 : decode cL_law 1083 = .ok (.istore 5, 2) := qd_o54 1052 31 qd_g802 rfl rfl
theorem dL_law_1085 : decode cL_law 1085 = .ok (.aload_n 2, 1) := qd_o44 1052 33 qd_g802 rfl
theorem dL_law_1086 : decode cL_law 1086 = .ok (.aload_n 0, 1) := qd_o42 1052 34 qd_g802 rfl
theorem dL_law_1087 : decode cL_law 1087 = .ok (.iload 4, 2) := qd_o21 1052 35 qd_g802 rfl rfl
theorem dL_law_1089 : decode cL_law 1089 = .ok (.iconst 1, 1) := qd_o4 1052 37 qd_g802 rfl
theorem dL_law_1090 : decode cL_law 1090 = .ok (.iadd, 1) := qd_o96 1052 38 qd_g802 rfl
theorem dL_law_1091 : decode cL_law 1091 = .ok (.iaload, 1) := qd_o46 1052 39 qd_g802 rfl
theorem qd_g803 : qd_bs cL_law 1092 [182, 0, 214, 54, 6, 167, 0, 232, 43, 42, 21, 4, 4, 96, 46, 45, 184, 0, 215, 54, 5, 44, 42, 21, 4, 4, 96, 46, 182, 0, 217, 54, 6, 167, 0, 204, 43, 182, 0, 218] = true := by decide +kernel
theorem dL_law_1092 : decode cL_law 1092 = .ok (.invokevirtual 214, 3) := qd_o182 1092 0 qd_g803 rfl rfl
theorem dL_law_1095 : decode cL_law 1095 = .ok (.istore 6, 2) := qd_o54 1092 3 qd_g803 rfl rfl
theorem dL_law_1097 : decode cL_law 1097 = .ok (.goto 232, 3) := qd_o167 1092 5 qd_g803 rfl rfl
theorem dL_law_1100 : decode cL_law 1100 = .ok (.aload_n 1, 1) := qd_o43 1092 8 qd_g803 rfl
theorem dL_law_1101 : decode cL_law 1101 = .ok (.aload_n 0, 1) := qd_o42 1092 9 qd_g803 rfl
theorem dL_law_1102 : decode cL_law 1102 = .ok (.iload 4, 2) := qd_o21 1092 10 qd_g803 rfl rfl
theorem dL_law_1104 : decode cL_law 1104 = .ok (.iconst 1, 1) := qd_o4 1092 12 qd_g803 rfl
theorem dL_law_1105 : decode cL_law 1105 = .ok (.iadd, 1) := qd_o96 1092 13 qd_g803 rfl
theorem dL_law_1106 : decode cL_law 1106 = .ok (.iaload, 1) := qd_o46 1092 14 qd_g803 rfl
theorem dL_law_1107 : decode cL_law 1107 = .ok (.aload_n 3, 1) := qd_o45 1092 15 qd_g803 rfl
theorem dL_law_1108 : decode cL_law 1108 = .ok (.invokestatic 215, 3) := qd_o184 1092 16 qd_g803 rfl rfl
theorem dL_law_1111 : decode cL_law 1111 = .ok (.istore 5, 2) := qd_o54 1092 19 qd_g803 rfl rfl
theorem dL_law_1113 : decode cL_law 1113 = .ok (.aload_n 2, 1) := qd_o44 1092 21 qd_g803 rfl
theorem dL_law_1114 : decode cL_law 1114 = .ok (.aload_n 0, 1) := qd_o42 1092 22 qd_g803 rfl
theorem dL_law_1115 : decode cL_law 1115 = .ok (.iload 4, 2) := qd_o21 1092 23 qd_g803 rfl rfl
theorem dL_law_1117 : decode cL_law 1117 = .ok (.iconst 1, 1) := qd_o4 1092 25 qd_g803 rfl
theorem dL_law_1118 : decode cL_law 1118 = .ok (.iadd, 1) := qd_o96 1092 26 qd_g803 rfl
theorem dL_law_1119 : decode cL_law 1119 = .ok (.iaload, 1) := qd_o46 1092 27 qd_g803 rfl
theorem dL_law_1120 : decode cL_law 1120 = .ok (.invokevirtual 217, 3) := qd_o182 1092 28 qd_g803 rfl rfl
theorem dL_law_1123 : decode cL_law 1123 = .ok (.istore 6, 2) := qd_o54 1092 31 qd_g803 rfl rfl
theorem dL_law_1125 : decode cL_law 1125 = .ok (.goto 204, 3) := qd_o167 1092 33 qd_g803 rfl rfl
theorem dL_law_1128 : decode cL_law 1128 = .ok (.aload_n 1, 1) := qd_o43 1092 36 qd_g803 rfl
theorem dL_law_1129 : decode cL_law 1129 = .ok (.invokevirtual 218, 3) := qd_o182 1092 37 qd_g803 rfl rfl
theorem qd_g804 : qd_bs cL_law 1132 [87, 44, 182, 0, 221, 87, 167, 0, 191, 43, 182, 0, 222, 87, 44, 182, 0, 225, 87, 167, 0, 178, 43, 45, 184, 0, 226, 54, 5, 44, 182, 0, 228, 54, 6, 167, 0, 162, 43, 42] = true := by decide +kernel
theorem dL_law_1132 : decode cL_law 1132 = .ok (.pop, 1) := qd_o87 1132 0 qd_g804 rfl
theorem dL_law_1133 : decode cL_law 1133 = .ok (.aload_n 2, 1) := qd_o44 1132 1 qd_g804 rfl
theorem dL_law_1134 : decode cL_law 1134 = .ok (.invokevirtual 221, 3) := qd_o182 1132 2 qd_g804 rfl rfl
theorem dL_law_1137 : decode cL_law 1137 = .ok (.pop, 1) := qd_o87 1132 5 qd_g804 rfl
theorem dL_law_1138 : decode cL_law 1138 = .ok (.goto 191, 3) := qd_o167 1132 6 qd_g804 rfl rfl
theorem dL_law_1141 : decode cL_law 1141 = .ok (.aload_n 1, 1) := qd_o43 1132 9 qd_g804 rfl
theorem dL_law_1142 : decode cL_law 1142 = .ok (.invokevirtual 222, 3) := qd_o182 1132 10 qd_g804 rfl rfl
theorem dL_law_1145 : decode cL_law 1145 = .ok (.pop, 1) := qd_o87 1132 13 qd_g804 rfl
theorem dL_law_1146 : decode cL_law 1146 = .ok (.aload_n 2, 1) := qd_o44 1132 14 qd_g804 rfl
theorem dL_law_1147 : decode cL_law 1147 = .ok (.invokevirtual 225, 3) := qd_o182 1132 15 qd_g804 rfl rfl
theorem dL_law_1150 : decode cL_law 1150 = .ok (.pop, 1) := qd_o87 1132 18 qd_g804 rfl
theorem dL_law_1151 : decode cL_law 1151 = .ok (.goto 178, 3) := qd_o167 1132 19 qd_g804 rfl rfl
theorem dL_law_1154 : decode cL_law 1154 = .ok (.aload_n 1, 1) := qd_o43 1132 22 qd_g804 rfl
theorem dL_law_1155 : decode cL_law 1155 = .ok (.aload_n 3, 1) := qd_o45 1132 23 qd_g804 rfl
theorem dL_law_1156 : decode cL_law 1156 = .ok (.invokestatic 226, 3) := qd_o184 1132 24 qd_g804 rfl rfl
theorem dL_law_1159 : decode cL_law 1159 = .ok (.istore 5, 2) := qd_o54 1132 27 qd_g804 rfl rfl
theorem dL_law_1161 : decode cL_law 1161 = .ok (.aload_n 2, 1) := qd_o44 1132 29 qd_g804 rfl
theorem dL_law_1162 : decode cL_law 1162 = .ok (.invokevirtual 228, 3) := qd_o182 1132 30 qd_g804 rfl rfl
theorem dL_law_1165 : decode cL_law 1165 = .ok (.istore 6, 2) := qd_o54 1132 33 qd_g804 rfl rfl
theorem dL_law_1167 : decode cL_law 1167 = .ok (.goto 162, 3) := qd_o167 1132 35 qd_g804 rfl rfl
theorem dL_law_1170 : decode cL_law 1170 = .ok (.aload_n 1, 1) := qd_o43 1132 38 qd_g804 rfl
theorem dL_law_1171 : decode cL_law 1171 = .ok (.aload_n 0, 1) := qd_o42 1132 39 qd_g804 rfl
theorem qd_g805 : qd_bs cL_law 1172 [21, 4, 4, 96, 46, 45, 184, 0, 229, 54, 5, 44, 42, 21, 4, 4, 96, 46, 182, 0, 231, 54, 6, 167, 0, 134, 43, 42, 21, 4, 4, 96, 46, 45, 184, 0, 232, 54, 5, 44] = true := by decide +kernel
theorem dL_law_1172 : decode cL_law 1172 = .ok (.iload 4, 2) := qd_o21 1172 0 qd_g805 rfl rfl
theorem dL_law_1174 : decode cL_law 1174 = .ok (.iconst 1, 1) := qd_o4 1172 2 qd_g805 rfl
theorem dL_law_1175 : decode cL_law 1175 = .ok (.iadd, 1) := qd_o96 1172 3 qd_g805 rfl
theorem dL_law_1176 : decode cL_law 1176 = .ok (.iaload, 1) := qd_o46 1172 4 qd_g805 rfl
theorem dL_law_1177 : decode cL_law 1177 = .ok (.aload_n 3, 1) := qd_o45 1172 5 qd_g805 rfl
theorem dL_law_1178 : decode cL_law 1178 = .ok (.invokestatic 229, 3) := qd_o184 1172 6 qd_g805 rfl rfl
theorem dL_law_1181 : decode cL_law 1181 = .ok (.istore 5, 2) := qd_o54 1172 9 qd_g805 rfl rfl
theorem dL_law_1183 : decode cL_law 1183 = .ok (.aload_n 2, 1) := qd_o44 1172 11 qd_g805 rfl
theorem dL_law_1184 : decode cL_law 1184 = .ok (.aload_n 0, 1) := qd_o42 1172 12 qd_g805 rfl
theorem dL_law_1185 : decode cL_law 1185 = .ok (.iload 4, 2) := qd_o21 1172 13 qd_g805 rfl rfl
theorem dL_law_1187 : decode cL_law 1187 = .ok (.iconst 1, 1) := qd_o4 1172 15 qd_g805 rfl
theorem dL_law_1188 : decode cL_law 1188 = .ok (.iadd, 1) := qd_o96 1172 16 qd_g805 rfl
theorem dL_law_1189 : decode cL_law 1189 = .ok (.iaload, 1) := qd_o46 1172 17 qd_g805 rfl
theorem dL_law_1190 : decode cL_law 1190 = .ok (.invokevirtual 231, 3) := qd_o182 1172 18 qd_g805 rfl rfl
theorem dL_law_1193 : decode cL_law 1193 = .ok (.istore 6, 2) := qd_o54 1172 21 qd_g805 rfl rfl
theorem dL_law_1195 : decode cL_law 1195 = .ok (.goto 134, 3) := qd_o167 1172 23 qd_g805 rfl rfl
theorem dL_law_1198 : decode cL_law 1198 = .ok (.aload_n 1, 1) := qd_o43 1172 26 qd_g805 rfl
theorem dL_law_1199 : decode cL_law 1199 = .ok (.aload_n 0, 1) := qd_o42 1172 27 qd_g805 rfl
theorem dL_law_1200 : decode cL_law 1200 = .ok (.iload 4, 2) := qd_o21 1172 28 qd_g805 rfl rfl
theorem dL_law_1202 : decode cL_law 1202 = .ok (.iconst 1, 1) := qd_o4 1172 30 qd_g805 rfl
theorem dL_law_1203 : decode cL_law 1203 = .ok (.iadd, 1) := qd_o96 1172 31 qd_g805 rfl
theorem dL_law_1204 : decode cL_law 1204 = .ok (.iaload, 1) := qd_o46 1172 32 qd_g805 rfl
theorem dL_law_1205 : decode cL_law 1205 = .ok (.aload_n 3, 1) := qd_o45 1172 33 qd_g805 rfl
theorem dL_law_1206 : decode cL_law 1206 = .ok (.invokestatic 232, 3) := qd_o184 1172 34 qd_g805 rfl rfl
theorem dL_law_1209 : decode cL_law 1209 = .ok (.istore 5, 2) := qd_o54 1172 37 qd_g805 rfl rfl
theorem dL_law_1211 : decode cL_law 1211 = .ok (.aload_n 2, 1) := qd_o44 1172 39 qd_g805 rfl
theorem qd_g806 : qd_bs cL_law 1212 [42, 21, 4, 4, 96, 46, 182, 0, 234, 54, 6, 167, 0, 106, 43, 182, 0, 235, 87, 44, 182, 0, 238, 87, 167, 0, 93, 43, 45, 184, 0, 239, 54, 5, 44, 182, 0, 241, 54, 6] = true := by decide +kernel
theorem dL_law_1212 : decode cL_law 1212 = .ok (.aload_n 0, 1) := qd_o42 1212 0 qd_g806 rfl
theorem dL_law_1213 : decode cL_law 1213 = .ok (.iload 4, 2) := qd_o21 1212 1 qd_g806 rfl rfl
theorem dL_law_1215 : decode cL_law 1215 = .ok (.iconst 1, 1) := qd_o4 1212 3 qd_g806 rfl
theorem dL_law_1216 : decode cL_law 1216 = .ok (.iadd, 1) := qd_o96 1212 4 qd_g806 rfl
theorem dL_law_1217 : decode cL_law 1217 = .ok (.iaload, 1) := qd_o46 1212 5 qd_g806 rfl
theorem dL_law_1218 : decode cL_law 1218 = .ok (.invokevirtual 234, 3) := qd_o182 1212 6 qd_g806 rfl rfl
theorem dL_law_1221 : decode cL_law 1221 = .ok (.istore 6, 2) := qd_o54 1212 9 qd_g806 rfl rfl
theorem dL_law_1223 : decode cL_law 1223 = .ok (.goto 106, 3) := qd_o167 1212 11 qd_g806 rfl rfl
theorem dL_law_1226 : decode cL_law 1226 = .ok (.aload_n 1, 1) := qd_o43 1212 14 qd_g806 rfl
theorem dL_law_1227 : decode cL_law 1227 = .ok (.invokevirtual 235, 3) := qd_o182 1212 15 qd_g806 rfl rfl
theorem dL_law_1230 : decode cL_law 1230 = .ok (.pop, 1) := qd_o87 1212 18 qd_g806 rfl
theorem dL_law_1231 : decode cL_law 1231 = .ok (.aload_n 2, 1) := qd_o44 1212 19 qd_g806 rfl
theorem dL_law_1232 : decode cL_law 1232 = .ok (.invokevirtual 238, 3) := qd_o182 1212 20 qd_g806 rfl rfl
theorem dL_law_1235 : decode cL_law 1235 = .ok (.pop, 1) := qd_o87 1212 23 qd_g806 rfl
theorem dL_law_1236 : decode cL_law 1236 = .ok (.goto 93, 3) := qd_o167 1212 24 qd_g806 rfl rfl
theorem dL_law_1239 : decode cL_law 1239 = .ok (.aload_n 1, 1) := qd_o43 1212 27 qd_g806 rfl
theorem dL_law_1240 : decode cL_law 1240 = .ok (.aload_n 3, 1) := qd_o45 1212 28 qd_g806 rfl
theorem dL_law_1241 : decode cL_law 1241 = .ok (.invokestatic 239, 3) := qd_o184 1212 29 qd_g806 rfl rfl
theorem dL_law_1244 : decode cL_law 1244 = .ok (.istore 5, 2) := qd_o54 1212 32 qd_g806 rfl rfl
theorem dL_law_1246 : decode cL_law 1246 = .ok (.aload_n 2, 1) := qd_o44 1212 34 qd_g806 rfl
theorem dL_law_1247 : decode cL_law 1247 = .ok (.invokevirtual 241, 3) := qd_o182 1212 35 qd_g806 rfl rfl
theorem dL_law_1250 : decode cL_law 1250 = .ok (.istore 6, 2) := qd_o54 1212 38 qd_g806 rfl rfl
theorem qd_g807 : qd_bs cL_law 1252 [167, 0, 77, 43, 45, 184, 0, 242, 54, 5, 44, 182, 0, 244, 54, 6, 167, 0, 61, 43, 182, 0, 245, 87, 44, 182, 0, 248, 87, 167, 0, 48, 43, 182, 0, 249, 88, 44] = true := by decide +kernel
theorem dL_law_1252 : decode cL_law 1252 = .ok (.goto 77, 3) := qd_o167 1252 0 qd_g807 rfl rfl
theorem dL_law_1255 : decode cL_law 1255 = .ok (.aload_n 1, 1) := qd_o43 1252 3 qd_g807 rfl
theorem dL_law_1256 : decode cL_law 1256 = .ok (.aload_n 3, 1) := qd_o45 1252 4 qd_g807 rfl
theorem dL_law_1257 : decode cL_law 1257 = .ok (.invokestatic 242, 3) := qd_o184 1252 5 qd_g807 rfl rfl
theorem dL_law_1260 : decode cL_law 1260 = .ok (.istore 5, 2) := qd_o54 1252 8 qd_g807 rfl rfl
theorem dL_law_1262 : decode cL_law 1262 = .ok (.aload_n 2, 1) := qd_o44 1252 10 qd_g807 rfl
theorem dL_law_1263 : decode cL_law 1263 = .ok (.invokevirtual 244, 3) := qd_o182 1252 11 qd_g807 rfl rfl
theorem dL_law_1266 : decode cL_law 1266 = .ok (.istore 6, 2) := qd_o54 1252 14 qd_g807 rfl rfl
theorem dL_law_1268 : decode cL_law 1268 = .ok (.goto 61, 3) := qd_o167 1252 16 qd_g807 rfl rfl
theorem dL_law_1271 : decode cL_law 1271 = .ok (.aload_n 1, 1) := qd_o43 1252 19 qd_g807 rfl
theorem dL_law_1272 : decode cL_law 1272 = .ok (.invokevirtual 245, 3) := qd_o182 1252 20 qd_g807 rfl rfl
theorem dL_law_1275 : decode cL_law 1275 = .ok (.pop, 1) := qd_o87 1252 23 qd_g807 rfl
theorem dL_law_1276 : decode cL_law 1276 = .ok (.aload_n 2, 1) := qd_o44 1252 24 qd_g807 rfl
theorem dL_law_1277 : decode cL_law 1277 = .ok (.invokevirtual 248, 3) := qd_o182 1252 25 qd_g807 rfl rfl
theorem dL_law_1280 : decode cL_law 1280 = .ok (.pop, 1) := qd_o87 1252 28 qd_g807 rfl
theorem dL_law_1281 : decode cL_law 1281 = .ok (.goto 48, 3) := qd_o167 1252 29 qd_g807 rfl rfl
theorem dL_law_1284 : decode cL_law 1284 = .ok (.aload_n 1, 1) := qd_o43 1252 32 qd_g807 rfl
theorem dL_law_1285 : decode cL_law 1285 = .ok (.invokevirtual 249, 3) := qd_o182 1252 33 qd_g807 rfl rfl
theorem dL_law_1288 : decode cL_law 1288 = .ok (.pop2, 1) := qd_o88 1252 36 qd_g807 rfl
theorem dL_law_1289 : decode cL_law 1289 = .ok (.aload_n 2, 1) := qd_o44 1252 37 qd_g807 rfl
theorem qd_g808 : qd_bs cL_law 1290 [182, 0, 252, 88, 167, 0, 35, 43, 182, 0, 253, 141, 57, 5, 44, 182, 1, 1, 141, 57, 7, 167, 0, 18, 43, 182, 1, 2, 57, 5, 44, 182, 1, 6, 57, 7, 167, 0, 3] = true := by decide +kernel
theorem dL_law_1290 : decode cL_law 1290 = .ok (.invokevirtual 252, 3) := qd_o182 1290 0 qd_g808 rfl rfl
theorem dL_law_1293 : decode cL_law 1293 = .ok (.pop2, 1) := qd_o88 1290 3 qd_g808 rfl
theorem dL_law_1294 : decode cL_law 1294 = .ok (.goto 35, 3) := qd_o167 1290 4 qd_g808 rfl rfl
theorem dL_law_1297 : decode cL_law 1297 = .ok (.aload_n 1, 1) := qd_o43 1290 7 qd_g808 rfl
theorem dL_law_1298 : decode cL_law 1298 = .ok (.invokevirtual 253, 3) := qd_o182 1290 8 qd_g808 rfl rfl
theorem dL_law_1301 : decode cL_law 1301 = .ok (.f2d, 1) := qd_o141 1290 11 qd_g808 rfl
theorem dL_law_1302 : decode cL_law 1302 = .ok (.dstore 5, 2) := qd_o57 1290 12 qd_g808 rfl rfl
theorem dL_law_1304 : decode cL_law 1304 = .ok (.aload_n 2, 1) := qd_o44 1290 14 qd_g808 rfl
theorem dL_law_1305 : decode cL_law 1305 = .ok (.invokevirtual 257, 3) := qd_o182 1290 15 qd_g808 rfl rfl
theorem dL_law_1308 : decode cL_law 1308 = .ok (.f2d, 1) := qd_o141 1290 18 qd_g808 rfl
theorem dL_law_1309 : decode cL_law 1309 = .ok (.dstore 7, 2) := qd_o57 1290 19 qd_g808 rfl rfl
theorem dL_law_1311 : decode cL_law 1311 = .ok (.goto 18, 3) := qd_o167 1290 21 qd_g808 rfl rfl
theorem dL_law_1314 : decode cL_law 1314 = .ok (.aload_n 1, 1) := qd_o43 1290 24 qd_g808 rfl
theorem dL_law_1315 : decode cL_law 1315 = .ok (.invokevirtual 258, 3) := qd_o182 1290 25 qd_g808 rfl rfl
theorem dL_law_1318 : decode cL_law 1318 = .ok (.dstore 5, 2) := qd_o57 1290 28 qd_g808 rfl rfl
theorem dL_law_1320 : decode cL_law 1320 = .ok (.aload_n 2, 1) := qd_o44 1290 30 qd_g808 rfl
theorem dL_law_1321 : decode cL_law 1321 = .ok (.invokevirtual 262, 3) := qd_o182 1290 31 qd_g808 rfl rfl
theorem dL_law_1324 : decode cL_law 1324 = .ok (.dstore 7, 2) := qd_o57 1290 34 qd_g808 rfl rfl
theorem dL_law_1326 : decode cL_law 1326 = .ok (.goto 3, 3) := qd_o167 1290 36 qd_g808 rfl rfl
theorem qd_g809 : qd_bs cL_law 1329 [132, 4, 4, 167, 250, 227, 4, 172] = true := by decide +kernel
theorem dL_law_1329 : decode cL_law 1329 = .ok (.iinc 4 4, 3) := qd_o132 1329 0 qd_g809 rfl rfl
theorem dL_law_1332 : decode cL_law 1332 = .ok (.goto (-1309), 3) := qd_o167 1329 3 qd_g809 rfl rfl
theorem dL_law_1335 : decode cL_law 1335 = .ok (.iconst 1, 1) := qd_o4 1329 6 qd_g809 rfl
theorem dL_law_1336 : decode cL_law 1336 = .ok (.ireturn, 1) := qd_o172 1329 7 qd_g809 rfl
