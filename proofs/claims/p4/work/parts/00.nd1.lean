theorem q_dg0 : ((((decode cX0_init 0 = .ok (.aload_n 0, 1)) ∧ ((decode cX0_init 1 = .ok (.invokespecial 3, 3)) ∧ (decode cX0_init 4 = .ok (.aload_n 0, 1)))) ∧ ((decode cX0_init 5 = .ok (.new 9, 3)) ∧ ((decode cX0_init 8 = .ok (.dup, 1)) ∧ (decode cX0_init 9 = .ok (.invokespecial 11, 3))))) ∧ (((decode cX0_init 12 = .ok (.putfield 12, 3)) ∧ ((decode cX0_init 15 = .ok (.aload_n 0, 1)) ∧ (decode cX0_init 16 = .ok (.sipush 512, 3)))) ∧ ((decode cX0_init 19 = .ok (.newarray .int, 2)) ∧ ((decode cX0_init 21 = .ok (.putfield 18, 3)) ∧ (decode cX0_init 24 = .ok (.aload_n 0, 1)))))) ∧ ((((decode cX0_init 25 = .ok (.sipush 2048, 3)) ∧ ((decode cX0_init 28 = .ok (.newarray .int, 2)) ∧ (decode cX0_init 30 = .ok (.putfield 22, 3)))) ∧ ((decode cX0_init 33 = .ok (.aload_n 0, 1)) ∧ ((decode cX0_init 34 = .ok (.iconst 2, 1)) ∧ (decode cX0_init 35 = .ok (.newarray .int, 2))))) ∧ (((decode cX0_init 37 = .ok (.putfield 25, 3)) ∧ ((decode cX0_init 40 = .ok (.aload_n 0, 1)) ∧ (decode cX0_init 41 = .ok (.new 28, 3)))) ∧ ((decode cX0_init 44 = .ok (.dup, 1)) ∧ ((decode cX0_init 45 = .ok (.invokespecial 30, 3)) ∧ (decode cX0_init 48 = .ok (.putfield 31, 3)))))) := by decide +kernel
theorem dX0_init_0 : decode cX0_init 0 = .ok (.aload_n 0, 1) := q_dg0.1.1.1.1
theorem dX0_init_1 : decode cX0_init 1 = .ok (.invokespecial 3, 3) := q_dg0.1.1.1.2.1
theorem dX0_init_4 : decode cX0_init 4 = .ok (.aload_n 0, 1) := q_dg0.1.1.1.2.2
theorem dX0_init_5 : decode cX0_init 5 = .ok (.new 9, 3) := q_dg0.1.1.2.1
theorem dX0_init_8 : decode cX0_init 8 = .ok (.dup, 1) := q_dg0.1.1.2.2.1
theorem dX0_init_9 : decode cX0_init 9 = .ok (.invokespecial 11, 3) := q_dg0.1.1.2.2.2
theorem dX0_init_12 : decode cX0_init 12 = .ok (.putfield 12, 3) := q_dg0.1.2.1.1
theorem dX0_init_15 : decode cX0_init 15 = .ok (.aload_n 0, 1) := q_dg0.1.2.1.2.1
theorem dX0_init_16 : decode cX0_init 16 = .ok (.sipush 512, 3) := q_dg0.1.2.1.2.2
theorem dX0_init_19 : decode cX0_init 19 = .ok (.newarray .int, 2) := q_dg0.1.2.2.1
theorem dX0_init_21 : decode cX0_init 21 = .ok (.putfield 18, 3) := q_dg0.1.2.2.2.1
theorem dX0_init_24 : decode cX0_init 24 = .ok (.aload_n 0, 1) := q_dg0.1.2.2.2.2
theorem dX0_init_25 : decode cX0_init 25 = .ok (.sipush 2048, 3) := q_dg0.2.1.1.1
theorem dX0_init_28 : decode cX0_init 28 = .ok (.newarray .int, 2) := q_dg0.2.1.1.2.1
theorem dX0_init_30 : decode cX0_init 30 = .ok (.putfield 22, 3) := q_dg0.2.1.1.2.2
theorem dX0_init_33 : decode cX0_init 33 = .ok (.aload_n 0, 1) := q_dg0.2.1.2.1
theorem dX0_init_34 : decode cX0_init 34 = .ok (.iconst 2, 1) := q_dg0.2.1.2.2.1
theorem dX0_init_35 : decode cX0_init 35 = .ok (.newarray .int, 2) := q_dg0.2.1.2.2.2
theorem dX0_init_37 : decode cX0_init 37 = .ok (.putfield 25, 3) := q_dg0.2.2.1.1
theorem dX0_init_40 : decode cX0_init 40 = .ok (.aload_n 0, 1) := q_dg0.2.2.1.2.1
theorem dX0_init_41 : decode cX0_init 41 = .ok (.new 28, 3) := q_dg0.2.2.1.2.2
theorem dX0_init_44 : decode cX0_init 44 = .ok (.dup, 1) := q_dg0.2.2.2.1
theorem dX0_init_45 : decode cX0_init 45 = .ok (.invokespecial 30, 3) := q_dg0.2.2.2.2.1
theorem dX0_init_48 : decode cX0_init 48 = .ok (.putfield 31, 3) := q_dg0.2.2.2.2.2
theorem q_dg1 : ((((decode cX0_init 51 = .ok (.aload_n 0, 1)) ∧ (decode cX0_init 52 = .ok (.new 35, 3))) ∧ ((decode cX0_init 55 = .ok (.dup, 1)) ∧ (decode cX0_init 56 = .ok (.invokespecial 37, 3)))) ∧ (((decode cX0_init 59 = .ok (.putfield 38, 3)) ∧ (decode cX0_init 62 = .ok (.aload_n 0, 1))) ∧ ((decode cX0_init 63 = .ok (.new 42, 3)) ∧ (decode cX0_init 66 = .ok (.dup, 1))))) ∧ ((((decode cX0_init 67 = .ok (.invokespecial 44, 3)) ∧ (decode cX0_init 70 = .ok (.putfield 45, 3))) ∧ ((decode cX0_init 73 = .ok (.aload_n 0, 1)) ∧ (decode cX0_init 74 = .ok (.new 42, 3)))) ∧ (((decode cX0_init 77 = .ok (.dup, 1)) ∧ (decode cX0_init 78 = .ok (.invokespecial 44, 3))) ∧ ((decode cX0_init 81 = .ok (.putfield 49, 3)) ∧ (decode cX0_init 84 = .ok (.return_, 1))))) := by decide +kernel
theorem dX0_init_51 : decode cX0_init 51 = .ok (.aload_n 0, 1) := q_dg1.1.1.1.1
theorem dX0_init_52 : decode cX0_init 52 = .ok (.new 35, 3) := q_dg1.1.1.1.2
theorem dX0_init_55 : decode cX0_init 55 = .ok (.dup, 1) := q_dg1.1.1.2.1
theorem dX0_init_56 : decode cX0_init 56 = .ok (.invokespecial 37, 3) := q_dg1.1.1.2.2
theorem dX0_init_59 : decode cX0_init 59 = .ok (.putfield 38, 3) := q_dg1.1.2.1.1
theorem dX0_init_62 : decode cX0_init 62 = .ok (.aload_n 0, 1) := q_dg1.1.2.1.2
theorem dX0_init_63 : decode cX0_init 63 = .ok (.new 42, 3) := q_dg1.1.2.2.1
theorem dX0_init_66 : decode cX0_init 66 = .ok (.dup, 1) := q_dg1.1.2.2.2
theorem dX0_init_67 : decode cX0_init 67 = .ok (.invokespecial 44, 3) := q_dg1.2.1.1.1
theorem dX0_init_70 : decode cX0_init 70 = .ok (.putfield 45, 3) := q_dg1.2.1.1.2
theorem dX0_init_73 : decode cX0_init 73 = .ok (.aload_n 0, 1) := q_dg1.2.1.2.1
theorem dX0_init_74 : decode cX0_init 74 = .ok (.new 42, 3) := q_dg1.2.1.2.2
theorem dX0_init_77 : decode cX0_init 77 = .ok (.dup, 1) := q_dg1.2.2.1.1
theorem dX0_init_78 : decode cX0_init 78 = .ok (.invokespecial 44, 3) := q_dg1.2.2.1.2
theorem dX0_init_81 : decode cX0_init 81 = .ok (.putfield 49, 3) := q_dg1.2.2.2.1
theorem dX0_init_84 : decode cX0_init 84 = .ok (.return_, 1) := q_dg1.2.2.2.2
theorem q_dg2 : ((((decode cX0_become 0 = .ok (.aload_n 0, 1)) ∧ ((decode cX0_become 1 = .ok (.getfield 12, 3)) ∧ (decode cX0_become 4 = .ok (.aload_n 1, 1)))) ∧ ((decode cX0_become 5 = .ok (.getfield 12, 3)) ∧ ((decode cX0_become 8 = .ok (.invokevirtual 52, 3)) ∧ (decode cX0_become 11 = .ok (.aload_n 1, 1))))) ∧ (((decode cX0_become 12 = .ok (.getfield 18, 3)) ∧ ((decode cX0_become 15 = .ok (.iconst 0, 1)) ∧ (decode cX0_become 16 = .ok (.aload_n 0, 1)))) ∧ ((decode cX0_become 17 = .ok (.getfield 18, 3)) ∧ ((decode cX0_become 20 = .ok (.iconst 0, 1)) ∧ (decode cX0_become 21 = .ok (.sipush 512, 3)))))) ∧ ((((decode cX0_become 24 = .ok (.invokestatic 56, 3)) ∧ ((decode cX0_become 27 = .ok (.aload_n 1, 1)) ∧ (decode cX0_become 28 = .ok (.getfield 22, 3)))) ∧ ((decode cX0_become 31 = .ok (.iconst 0, 1)) ∧ ((decode cX0_become 32 = .ok (.aload_n 0, 1)) ∧ (decode cX0_become 33 = .ok (.getfield 22, 3))))) ∧ (((decode cX0_become 36 = .ok (.iconst 0, 1)) ∧ ((decode cX0_become 37 = .ok (.sipush 2048, 3)) ∧ (decode cX0_become 40 = .ok (.invokestatic 56, 3)))) ∧ ((decode cX0_become 43 = .ok (.aload_n 1, 1)) ∧ ((decode cX0_become 44 = .ok (.getfield 25, 3)) ∧ (decode cX0_become 47 = .ok (.iconst 0, 1)))))) := by decide +kernel
theorem dX0_become_0 : decode cX0_become 0 = .ok (.aload_n 0, 1) := q_dg2.1.1.1.1
theorem dX0_become_1 : decode cX0_become 1 = .ok (.getfield 12, 3) := q_dg2.1.1.1.2.1
theorem dX0_become_4 : decode cX0_become 4 = .ok (.aload_n 1, 1) := q_dg2.1.1.1.2.2
theorem dX0_become_5 : decode cX0_become 5 = .ok (.getfield 12, 3) := q_dg2.1.1.2.1
theorem dX0_become_8 : decode cX0_become 8 = .ok (.invokevirtual 52, 3) := q_dg2.1.1.2.2.1
theorem dX0_become_11 : decode cX0_become 11 = .ok (.aload_n 1, 1) := q_dg2.1.1.2.2.2
theorem dX0_become_12 : decode cX0_become 12 = .ok (.getfield 18, 3) := q_dg2.1.2.1.1
theorem dX0_become_15 : decode cX0_become 15 = .ok (.iconst 0, 1) := q_dg2.1.2.1.2.1
theorem dX0_become_16 : decode cX0_become 16 = .ok (.aload_n 0, 1) := q_dg2.1.2.1.2.2
theorem dX0_become_17 : decode cX0_become 17 = .ok (.getfield 18, 3) := q_dg2.1.2.2.1
theorem dX0_become_20 : decode cX0_become 20 = .ok (.iconst 0, 1) := q_dg2.1.2.2.2.1
theorem dX0_become_21 : decode cX0_become 21 = .ok (.sipush 512, 3) := q_dg2.1.2.2.2.2
theorem dX0_become_24 : decode cX0_become 24 = .ok (.invokestatic 56, 3) := q_dg2.2.1.1.1
theorem dX0_become_27 : decode cX0_become 27 = .ok (.aload_n 1, 1) := q_dg2.2.1.1.2.1
theorem dX0_become_28 : decode cX0_become 28 = .ok (.getfield 22, 3) := q_dg2.2.1.1.2.2
theorem dX0_become_31 : decode cX0_become 31 = .ok (.iconst 0, 1) := q_dg2.2.1.2.1
theorem dX0_become_32 : decode cX0_become 32 = .ok (.aload_n 0, 1) := q_dg2.2.1.2.2.1
theorem dX0_become_33 : decode cX0_become 33 = .ok (.getfield 22, 3) := q_dg2.2.1.2.2.2
theorem dX0_become_36 : decode cX0_become 36 = .ok (.iconst 0, 1) := q_dg2.2.2.1.1
theorem dX0_become_37 : decode cX0_become 37 = .ok (.sipush 2048, 3) := q_dg2.2.2.1.2.1
theorem dX0_become_40 : decode cX0_become 40 = .ok (.invokestatic 56, 3) := q_dg2.2.2.1.2.2
theorem dX0_become_43 : decode cX0_become 43 = .ok (.aload_n 1, 1) := q_dg2.2.2.2.1
theorem dX0_become_44 : decode cX0_become 44 = .ok (.getfield 25, 3) := q_dg2.2.2.2.2.1
theorem dX0_become_47 : decode cX0_become 47 = .ok (.iconst 0, 1) := q_dg2.2.2.2.2.2
theorem q_dg3 : ((((decode cX0_become 48 = .ok (.aload_n 0, 1)) ∧ ((decode cX0_become 49 = .ok (.getfield 25, 3)) ∧ (decode cX0_become 52 = .ok (.iconst 0, 1)))) ∧ ((decode cX0_become 53 = .ok (.iconst 2, 1)) ∧ ((decode cX0_become 54 = .ok (.invokestatic 56, 3)) ∧ (decode cX0_become 57 = .ok (.aload_n 0, 1))))) ∧ (((decode cX0_become 58 = .ok (.getfield 31, 3)) ∧ ((decode cX0_become 61 = .ok (.aload_n 1, 1)) ∧ (decode cX0_become 62 = .ok (.getfield 31, 3)))) ∧ ((decode cX0_become 65 = .ok (.invokevirtual 62, 3)) ∧ ((decode cX0_become 68 = .ok (.aload_n 0, 1)) ∧ (decode cX0_become 69 = .ok (.getfield 38, 3)))))) ∧ ((((decode cX0_become 72 = .ok (.aload_n 1, 1)) ∧ ((decode cX0_become 73 = .ok (.getfield 38, 3)) ∧ (decode cX0_become 76 = .ok (.invokevirtual 65, 3)))) ∧ ((decode cX0_become 79 = .ok (.aload_n 0, 1)) ∧ ((decode cX0_become 80 = .ok (.getfield 45, 3)) ∧ (decode cX0_become 83 = .ok (.aload_n 1, 1))))) ∧ (((decode cX0_become 84 = .ok (.getfield 45, 3)) ∧ ((decode cX0_become 87 = .ok (.invokevirtual 68, 3)) ∧ (decode cX0_become 90 = .ok (.aload_n 0, 1)))) ∧ ((decode cX0_become 91 = .ok (.getfield 49, 3)) ∧ ((decode cX0_become 94 = .ok (.aload_n 1, 1)) ∧ (decode cX0_become 95 = .ok (.getfield 49, 3)))))) := by decide +kernel
theorem dX0_become_48 : decode cX0_become 48 = .ok (.aload_n 0, 1) := q_dg3.1.1.1.1
theorem dX0_become_49 : decode cX0_become 49 = .ok (.getfield 25, 3) := q_dg3.1.1.1.2.1
theorem dX0_become_52 : decode cX0_become 52 = .ok (.iconst 0, 1) := q_dg3.1.1.1.2.2
theorem dX0_become_53 : decode cX0_become 53 = .ok (.iconst 2, 1) := q_dg3.1.1.2.1
theorem dX0_become_54 : decode cX0_become 54 = .ok (.invokestatic 56, 3) := q_dg3.1.1.2.2.1
theorem dX0_become_57 : decode cX0_become 57 = .ok (.aload_n 0, 1) := q_dg3.1.1.2.2.2
theorem dX0_become_58 : decode cX0_become 58 = .ok (.getfield 31, 3) := q_dg3.1.2.1.1
theorem dX0_become_61 : decode cX0_become 61 = .ok (.aload_n 1, 1) := q_dg3.1.2.1.2.1
theorem dX0_become_62 : decode cX0_become 62 = .ok (.getfield 31, 3) := q_dg3.1.2.1.2.2
theorem dX0_become_65 : decode cX0_become 65 = .ok (.invokevirtual 62, 3) := q_dg3.1.2.2.1
theorem dX0_become_68 : decode cX0_become 68 = .ok (.aload_n 0, 1) := q_dg3.1.2.2.2.1
theorem dX0_become_69 : decode cX0_become 69 = .ok (.getfield 38, 3) := q_dg3.1.2.2.2.2
theorem dX0_become_72 : decode cX0_become 72 = .ok (.aload_n 1, 1) := q_dg3.2.1.1.1
theorem dX0_become_73 : decode cX0_become 73 = .ok (.getfield 38, 3) := q_dg3.2.1.1.2.1
theorem dX0_become_76 : decode cX0_become 76 = .ok (.invokevirtual 65, 3) := q_dg3.2.1.1.2.2
theorem dX0_become_79 : decode cX0_become 79 = .ok (.aload_n 0, 1) := q_dg3.2.1.2.1
theorem dX0_become_80 : decode cX0_become 80 = .ok (.getfield 45, 3) := q_dg3.2.1.2.2.1
theorem dX0_become_83 : decode cX0_become 83 = .ok (.aload_n 1, 1) := q_dg3.2.1.2.2.2
theorem dX0_become_84 : decode cX0_become 84 = .ok (.getfield 45, 3) := q_dg3.2.2.1.1
theorem dX0_become_87 : decode cX0_become 87 = .ok (.invokevirtual 68, 3) := q_dg3.2.2.1.2.1
theorem dX0_become_90 : decode cX0_become 90 = .ok (.aload_n 0, 1) := q_dg3.2.2.1.2.2
theorem dX0_become_91 : decode cX0_become 91 = .ok (.getfield 49, 3) := q_dg3.2.2.2.1
theorem dX0_become_94 : decode cX0_become 94 = .ok (.aload_n 1, 1) := q_dg3.2.2.2.2.1
theorem dX0_become_95 : decode cX0_become 95 = .ok (.getfield 49, 3) := q_dg3.2.2.2.2.2
theorem q_dg4 : ((decode cX0_become 98 = .ok (.invokevirtual 68, 3)) ∧ ((decode cX0_become 101 = .ok (.aload_n 0, 1)) ∧ (decode cX0_become 102 = .ok (.aload_n 1, 1)))) ∧ ((decode cX0_become 103 = .ok (.getfield 71, 3)) ∧ ((decode cX0_become 106 = .ok (.putfield 71, 3)) ∧ (decode cX0_become 109 = .ok (.return_, 1)))) := by decide +kernel
theorem dX0_become_98 : decode cX0_become 98 = .ok (.invokevirtual 68, 3) := q_dg4.1.1
theorem dX0_become_101 : decode cX0_become 101 = .ok (.aload_n 0, 1) := q_dg4.1.2.1
theorem dX0_become_102 : decode cX0_become 102 = .ok (.aload_n 1, 1) := q_dg4.1.2.2
theorem dX0_become_103 : decode cX0_become 103 = .ok (.getfield 71, 3) := q_dg4.2.1
theorem dX0_become_106 : decode cX0_become 106 = .ok (.putfield 71, 3) := q_dg4.2.2.1
theorem dX0_become_109 : decode cX0_become 109 = .ok (.return_, 1) := q_dg4.2.2.2
theorem q_dg5 : ((decode cX0_position 0 = .ok (.aload_n 0, 1)) ∧ ((decode cX0_position 1 = .ok (.getfield 71, 3)) ∧ (decode cX0_position 4 = .ok (.ldc2_w 75, 3)))) ∧ ((decode cX0_position 7 = .ok (.lrem, 1)) ∧ ((decode cX0_position 8 = .ok (.l2i, 1)) ∧ (decode cX0_position 9 = .ok (.ireturn, 1)))) := by decide +kernel
theorem dX0_position_0 : decode cX0_position 0 = .ok (.aload_n 0, 1) := q_dg5.1.1
theorem dX0_position_1 : decode cX0_position 1 = .ok (.getfield 71, 3) := q_dg5.1.2.1
theorem dX0_position_4 : decode cX0_position 4 = .ok (.ldc2_w 75, 3) := q_dg5.1.2.2
theorem dX0_position_7 : decode cX0_position 7 = .ok (.lrem, 1) := q_dg5.2.1
theorem dX0_position_8 : decode cX0_position 8 = .ok (.l2i, 1) := q_dg5.2.2.1
theorem dX0_position_9 : decode cX0_position 9 = .ok (.ireturn, 1) := q_dg5.2.2.2
theorem q_dg6 : ((decode cX0_column 0 = .ok (.aload_n 0, 1)) ∧ ((decode cX0_column 1 = .ok (.getfield 71, 3)) ∧ (decode cX0_column 4 = .ok (.ldc2_w 77, 3)))) ∧ ((decode cX0_column 7 = .ok (.lrem, 1)) ∧ ((decode cX0_column 8 = .ok (.l2i, 1)) ∧ (decode cX0_column 9 = .ok (.ireturn, 1)))) := by decide +kernel
theorem dX0_column_0 : decode cX0_column 0 = .ok (.aload_n 0, 1) := q_dg6.1.1
theorem dX0_column_1 : decode cX0_column 1 = .ok (.getfield 71, 3) := q_dg6.1.2.1
theorem dX0_column_4 : decode cX0_column 4 = .ok (.ldc2_w 77, 3) := q_dg6.1.2.2
theorem dX0_column_7 : decode cX0_column 7 = .ok (.lrem, 1) := q_dg6.2.1
theorem dX0_column_8 : decode cX0_column 8 = .ok (.l2i, 1) := q_dg6.2.2.1
theorem dX0_column_9 : decode cX0_column 9 = .ok (.ireturn, 1) := q_dg6.2.2.2
theorem q_dg7 : (((decode cX0_present 0 = .ok (.aload_n 0, 1)) ∧ ((decode cX0_present 1 = .ok (.getfield 71, 3)) ∧ (decode cX0_present 4 = .ok (.ldc2_w 75, 3)))) ∧ (((decode cX0_present 7 = .ok (.ldiv, 1)) ∧ (decode cX0_present 8 = .ok (.ldc2_w 79, 3))) ∧ ((decode cX0_present 11 = .ok (.lrem, 1)) ∧ (decode cX0_present 12 = .ok (.lconst 0, 1))))) ∧ ((((decode cX0_present 13 = .ok (.lcmp, 1)) ∧ (decode cX0_present 14 = .ok (.ifCond .ne 10, 3))) ∧ ((decode cX0_present 17 = .ok (.aload_n 0, 1)) ∧ (decode cX0_present 18 = .ok (.getfield 45, 3)))) ∧ (((decode cX0_present 21 = .ok (.goto 7, 3)) ∧ (decode cX0_present 24 = .ok (.aload_n 0, 1))) ∧ ((decode cX0_present 25 = .ok (.getfield 49, 3)) ∧ (decode cX0_present 28 = .ok (.areturn, 1))))) := by decide +kernel
theorem dX0_present_0 : decode cX0_present 0 = .ok (.aload_n 0, 1) := q_dg7.1.1.1
theorem dX0_present_1 : decode cX0_present 1 = .ok (.getfield 71, 3) := q_dg7.1.1.2.1
theorem dX0_present_4 : decode cX0_present 4 = .ok (.ldc2_w 75, 3) := q_dg7.1.1.2.2
theorem dX0_present_7 : decode cX0_present 7 = .ok (.ldiv, 1) := q_dg7.1.2.1.1
theorem dX0_present_8 : decode cX0_present 8 = .ok (.ldc2_w 79, 3) := q_dg7.1.2.1.2
theorem dX0_present_11 : decode cX0_present 11 = .ok (.lrem, 1) := q_dg7.1.2.2.1
theorem dX0_present_12 : decode cX0_present 12 = .ok (.lconst 0, 1) := q_dg7.1.2.2.2
theorem dX0_present_13 : decode cX0_present 13 = .ok (.lcmp, 1) := q_dg7.2.1.1.1
theorem dX0_present_14 : decode cX0_present 14 = .ok (.ifCond .ne 10, 3) := q_dg7.2.1.1.2
theorem dX0_present_17 : decode cX0_present 17 = .ok (.aload_n 0, 1) := q_dg7.2.1.2.1
theorem dX0_present_18 : decode cX0_present 18 = .ok (.getfield 45, 3) := q_dg7.2.1.2.2
theorem dX0_present_21 : decode cX0_present 21 = .ok (.goto 7, 3) := q_dg7.2.2.1.1
theorem dX0_present_24 : decode cX0_present 24 = .ok (.aload_n 0, 1) := q_dg7.2.2.1.2
theorem dX0_present_25 : decode cX0_present 25 = .ok (.getfield 49, 3) := q_dg7.2.2.2.1
theorem dX0_present_28 : decode cX0_present 28 = .ok (.areturn, 1) := q_dg7.2.2.2.2
theorem q_dg8 : (((decode cX0_last 0 = .ok (.aload_n 0, 1)) ∧ ((decode cX0_last 1 = .ok (.getfield 71, 3)) ∧ (decode cX0_last 4 = .ok (.ldc2_w 75, 3)))) ∧ (((decode cX0_last 7 = .ok (.ldiv, 1)) ∧ (decode cX0_last 8 = .ok (.ldc2_w 79, 3))) ∧ ((decode cX0_last 11 = .ok (.lrem, 1)) ∧ (decode cX0_last 12 = .ok (.lconst 0, 1))))) ∧ ((((decode cX0_last 13 = .ok (.lcmp, 1)) ∧ (decode cX0_last 14 = .ok (.ifCond .ne 10, 3))) ∧ ((decode cX0_last 17 = .ok (.aload_n 0, 1)) ∧ (decode cX0_last 18 = .ok (.getfield 49, 3)))) ∧ (((decode cX0_last 21 = .ok (.goto 7, 3)) ∧ (decode cX0_last 24 = .ok (.aload_n 0, 1))) ∧ ((decode cX0_last 25 = .ok (.getfield 45, 3)) ∧ (decode cX0_last 28 = .ok (.areturn, 1))))) := by decide +kernel
theorem dX0_last_0 : decode cX0_last 0 = .ok (.aload_n 0, 1) := q_dg8.1.1.1
theorem dX0_last_1 : decode cX0_last 1 = .ok (.getfield 71, 3) := q_dg8.1.1.2.1
theorem dX0_last_4 : decode cX0_last 4 = .ok (.ldc2_w 75, 3) := q_dg8.1.1.2.2
theorem dX0_last_7 : decode cX0_last 7 = .ok (.ldiv, 1) := q_dg8.1.2.1.1
theorem dX0_last_8 : decode cX0_last 8 = .ok (.ldc2_w 79, 3) := q_dg8.1.2.1.2
theorem dX0_last_11 : decode cX0_last 11 = .ok (.lrem, 1) := q_dg8.1.2.2.1
theorem dX0_last_12 : decode cX0_last 12 = .ok (.lconst 0, 1) := q_dg8.1.2.2.2
theorem dX0_last_13 : decode cX0_last 13 = .ok (.lcmp, 1) := q_dg8.2.1.1.1
theorem dX0_last_14 : decode cX0_last 14 = .ok (.ifCond .ne 10, 3) := q_dg8.2.1.1.2
theorem dX0_last_17 : decode cX0_last 17 = .ok (.aload_n 0, 1) := q_dg8.2.1.2.1
theorem dX0_last_18 : decode cX0_last 18 = .ok (.getfield 49, 3) := q_dg8.2.1.2.2
theorem dX0_last_21 : decode cX0_last 21 = .ok (.goto 7, 3) := q_dg8.2.2.1.1
theorem dX0_last_24 : decode cX0_last 24 = .ok (.aload_n 0, 1) := q_dg8.2.2.1.2
theorem dX0_last_25 : decode cX0_last 25 = .ok (.getfield 45, 3) := q_dg8.2.2.2.1
theorem dX0_last_28 : decode cX0_last 28 = .ok (.areturn, 1) := q_dg8.2.2.2.2
theorem q_dg9 : ((((decode cX0_read 0 = .ok (.iload_n 1, 1)) ∧ ((decode cX0_read 1 = .ok (.sipush 3840, 3)) ∧ (decode cX0_read 4 = .ok (.isub, 1)))) ∧ ((decode cX0_read 5 = .ok (.istore_n 2, 1)) ∧ ((decode cX0_read 6 = .ok (.iload_n 2, 1)) ∧ (decode cX0_read 7 = .ok (.ifCond .lt 24, 3))))) ∧ (((decode cX0_read 10 = .ok (.iload_n 2, 1)) ∧ ((decode cX0_read 11 = .ok (.bipush 48, 2)) ∧ (decode cX0_read 13 = .ok (.if_icmp .ge 18, 3)))) ∧ ((decode cX0_read 16 = .ok (.aload_n 0, 1)) ∧ ((decode cX0_read 17 = .ok (.iload_n 2, 1)) ∧ (decode cX0_read 18 = .ok (.aload_n 0, 1)))))) ∧ ((((decode cX0_read 19 = .ok (.getfield 12, 3)) ∧ ((decode cX0_read 22 = .ok (.getfield 81, 3)) ∧ (decode cX0_read 25 = .ok (.iload_n 2, 1)))) ∧ ((decode cX0_read 26 = .ok (.iaload, 1)) ∧ ((decode cX0_read 27 = .ok (.invokevirtual 84, 3)) ∧ (decode cX0_read 30 = .ok (.ireturn, 1))))) ∧ (((decode cX0_read 31 = .ok (.aload_n 0, 1)) ∧ ((decode cX0_read 32 = .ok (.getfield 12, 3)) ∧ (decode cX0_read 35 = .ok (.getfield 81, 3)))) ∧ ((decode cX0_read 38 = .ok (.iconst 0, 1)) ∧ ((decode cX0_read 39 = .ok (.iaload, 1)) ∧ (decode cX0_read 40 = .ok (.istore_n 3, 1)))))) := by decide +kernel
theorem dX0_read_0 : decode cX0_read 0 = .ok (.iload_n 1, 1) := q_dg9.1.1.1.1
theorem dX0_read_1 : decode cX0_read 1 = .ok (.sipush 3840, 3) := q_dg9.1.1.1.2.1
theorem dX0_read_4 : decode cX0_read 4 = .ok (.isub, 1) := q_dg9.1.1.1.2.2
theorem dX0_read_5 : decode cX0_read 5 = .ok (.istore_n 2, 1) := q_dg9.1.1.2.1
theorem dX0_read_6 : decode cX0_read 6 = .ok (.iload_n 2, 1) := q_dg9.1.1.2.2.1
theorem dX0_read_7 : decode cX0_read 7 = .ok (.ifCond .lt 24, 3) := q_dg9.1.1.2.2.2
theorem dX0_read_10 : decode cX0_read 10 = .ok (.iload_n 2, 1) := q_dg9.1.2.1.1
theorem dX0_read_11 : decode cX0_read 11 = .ok (.bipush 48, 2) := q_dg9.1.2.1.2.1
theorem dX0_read_13 : decode cX0_read 13 = .ok (.if_icmp .ge 18, 3) := q_dg9.1.2.1.2.2
theorem dX0_read_16 : decode cX0_read 16 = .ok (.aload_n 0, 1) := q_dg9.1.2.2.1
theorem dX0_read_17 : decode cX0_read 17 = .ok (.iload_n 2, 1) := q_dg9.1.2.2.2.1
theorem dX0_read_18 : decode cX0_read 18 = .ok (.aload_n 0, 1) := q_dg9.1.2.2.2.2
theorem dX0_read_19 : decode cX0_read 19 = .ok (.getfield 12, 3) := q_dg9.2.1.1.1
theorem dX0_read_22 : decode cX0_read 22 = .ok (.getfield 81, 3) := q_dg9.2.1.1.2.1
theorem dX0_read_25 : decode cX0_read 25 = .ok (.iload_n 2, 1) := q_dg9.2.1.1.2.2
theorem dX0_read_26 : decode cX0_read 26 = .ok (.iaload, 1) := q_dg9.2.1.2.1
theorem dX0_read_27 : decode cX0_read 27 = .ok (.invokevirtual 84, 3) := q_dg9.2.1.2.2.1
theorem dX0_read_30 : decode cX0_read 30 = .ok (.ireturn, 1) := q_dg9.2.1.2.2.2
theorem dX0_read_31 : decode cX0_read 31 = .ok (.aload_n 0, 1) := q_dg9.2.2.1.1
theorem dX0_read_32 : decode cX0_read 32 = .ok (.getfield 12, 3) := q_dg9.2.2.1.2.1
theorem dX0_read_35 : decode cX0_read 35 = .ok (.getfield 81, 3) := q_dg9.2.2.1.2.2
theorem dX0_read_38 : decode cX0_read 38 = .ok (.iconst 0, 1) := q_dg9.2.2.2.1
theorem dX0_read_39 : decode cX0_read 39 = .ok (.iaload, 1) := q_dg9.2.2.2.2.1
theorem dX0_read_40 : decode cX0_read 40 = .ok (.istore_n 3, 1) := q_dg9.2.2.2.2.2
theorem q_dg10 : ((((decode cX0_read 41 = .ok (.iload_n 3, 1)) ∧ ((decode cX0_read 42 = .ok (.iconst 1, 1)) ∧ (decode cX0_read 43 = .ok (.iand, 1)))) ∧ ((decode cX0_read 44 = .ok (.iconst 1, 1)) ∧ ((decode cX0_read 45 = .ok (.if_icmp .ne 28, 3)) ∧ (decode cX0_read 48 = .ok (.iload_n 1, 1))))) ∧ (((decode cX0_read 49 = .ok (.sipush 3072, 3)) ∧ ((decode cX0_read 52 = .ok (.if_icmp .lt 21, 3)) ∧ (decode cX0_read 55 = .ok (.iload_n 1, 1)))) ∧ ((decode cX0_read 56 = .ok (.sipush 3584, 3)) ∧ ((decode cX0_read 59 = .ok (.if_icmp .ge 14, 3)) ∧ (decode cX0_read 62 = .ok (.aload_n 0, 1)))))) ∧ ((((decode cX0_read 63 = .ok (.getfield 18, 3)) ∧ ((decode cX0_read 66 = .ok (.iload_n 1, 1)) ∧ (decode cX0_read 67 = .ok (.sipush 3072, 3)))) ∧ ((decode cX0_read 70 = .ok (.isub, 1)) ∧ ((decode cX0_read 71 = .ok (.iaload, 1)) ∧ (decode cX0_read 72 = .ok (.ireturn, 1))))) ∧ (((decode cX0_read 73 = .ok (.iload_n 3, 1)) ∧ ((decode cX0_read 74 = .ok (.iconst 2, 1)) ∧ (decode cX0_read 75 = .ok (.iand, 1)))) ∧ ((decode cX0_read 76 = .ok (.iconst 2, 1)) ∧ ((decode cX0_read 77 = .ok (.if_icmp .ne 38, 3)) ∧ (decode cX0_read 80 = .ok (.iload_n 1, 1)))))) := by decide +kernel
theorem dX0_read_41 : decode cX0_read 41 = .ok (.iload_n 3, 1) := q_dg10.1.1.1.1
theorem dX0_read_42 : decode cX0_read 42 = .ok (.iconst 1, 1) := q_dg10.1.1.1.2.1
theorem dX0_read_43 : decode cX0_read 43 = .ok (.iand, 1) := q_dg10.1.1.1.2.2
theorem dX0_read_44 : decode cX0_read 44 = .ok (.iconst 1, 1) := q_dg10.1.1.2.1
theorem dX0_read_45 : decode cX0_read 45 = .ok (.if_icmp .ne 28, 3) := q_dg10.1.1.2.2.1
theorem dX0_read_48 : decode cX0_read 48 = .ok (.iload_n 1, 1) := q_dg10.1.1.2.2.2
theorem dX0_read_49 : decode cX0_read 49 = .ok (.sipush 3072, 3) := q_dg10.1.2.1.1
theorem dX0_read_52 : decode cX0_read 52 = .ok (.if_icmp .lt 21, 3) := q_dg10.1.2.1.2.1
theorem dX0_read_55 : decode cX0_read 55 = .ok (.iload_n 1, 1) := q_dg10.1.2.1.2.2
theorem dX0_read_56 : decode cX0_read 56 = .ok (.sipush 3584, 3) := q_dg10.1.2.2.1
theorem dX0_read_59 : decode cX0_read 59 = .ok (.if_icmp .ge 14, 3) := q_dg10.1.2.2.2.1
theorem dX0_read_62 : decode cX0_read 62 = .ok (.aload_n 0, 1) := q_dg10.1.2.2.2.2
theorem dX0_read_63 : decode cX0_read 63 = .ok (.getfield 18, 3) := q_dg10.2.1.1.1
theorem dX0_read_66 : decode cX0_read 66 = .ok (.iload_n 1, 1) := q_dg10.2.1.1.2.1
theorem dX0_read_67 : decode cX0_read 67 = .ok (.sipush 3072, 3) := q_dg10.2.1.1.2.2
theorem dX0_read_70 : decode cX0_read 70 = .ok (.isub, 1) := q_dg10.2.1.2.1
theorem dX0_read_71 : decode cX0_read 71 = .ok (.iaload, 1) := q_dg10.2.1.2.2.1
theorem dX0_read_72 : decode cX0_read 72 = .ok (.ireturn, 1) := q_dg10.2.1.2.2.2
theorem dX0_read_73 : decode cX0_read 73 = .ok (.iload_n 3, 1) := q_dg10.2.2.1.1
theorem dX0_read_74 : decode cX0_read 74 = .ok (.iconst 2, 1) := q_dg10.2.2.1.2.1
theorem dX0_read_75 : decode cX0_read 75 = .ok (.iand, 1) := q_dg10.2.2.1.2.2
theorem dX0_read_76 : decode cX0_read 76 = .ok (.iconst 2, 1) := q_dg10.2.2.2.1
theorem dX0_read_77 : decode cX0_read 77 = .ok (.if_icmp .ne 38, 3) := q_dg10.2.2.2.2.1
theorem dX0_read_80 : decode cX0_read 80 = .ok (.iload_n 1, 1) := q_dg10.2.2.2.2.2
theorem q_dg11 : ((((decode cX0_read 81 = .ok (.sipush 2048, 3)) ∧ ((decode cX0_read 84 = .ok (.if_icmp .lt 31, 3)) ∧ (decode cX0_read 87 = .ok (.iload_n 1, 1)))) ∧ ((decode cX0_read 88 = .ok (.sipush 2560, 3)) ∧ ((decode cX0_read 91 = .ok (.if_icmp .ge 24, 3)) ∧ (decode cX0_read 94 = .ok (.aload_n 0, 1))))) ∧ (((decode cX0_read 95 = .ok (.getfield 22, 3)) ∧ ((decode cX0_read 98 = .ok (.sipush 512, 3)) ∧ (decode cX0_read 101 = .ok (.iload_n 3, 1)))) ∧ ((decode cX0_read 102 = .ok (.iconst 2, 1)) ∧ ((decode cX0_read 103 = .ok (.ishr, 1)) ∧ (decode cX0_read 104 = .ok (.iconst 3, 1)))))) ∧ ((((decode cX0_read 105 = .ok (.iand, 1)) ∧ ((decode cX0_read 106 = .ok (.imul, 1)) ∧ (decode cX0_read 107 = .ok (.iload_n 1, 1)))) ∧ ((decode cX0_read 108 = .ok (.iadd, 1)) ∧ ((decode cX0_read 109 = .ok (.sipush 2048, 3)) ∧ (decode cX0_read 112 = .ok (.isub, 1))))) ∧ (((decode cX0_read 113 = .ok (.iaload, 1)) ∧ ((decode cX0_read 114 = .ok (.ireturn, 1)) ∧ (decode cX0_read 115 = .ok (.aload_n 0, 1)))) ∧ ((decode cX0_read 116 = .ok (.getfield 12, 3)) ∧ ((decode cX0_read 119 = .ok (.getfield 88, 3)) ∧ (decode cX0_read 122 = .ok (.iload_n 1, 1)))))) := by decide +kernel
theorem dX0_read_81 : decode cX0_read 81 = .ok (.sipush 2048, 3) := q_dg11.1.1.1.1
theorem dX0_read_84 : decode cX0_read 84 = .ok (.if_icmp .lt 31, 3) := q_dg11.1.1.1.2.1
theorem dX0_read_87 : decode cX0_read 87 = .ok (.iload_n 1, 1) := q_dg11.1.1.1.2.2
theorem dX0_read_88 : decode cX0_read 88 = .ok (.sipush 2560, 3) := q_dg11.1.1.2.1
theorem dX0_read_91 : decode cX0_read 91 = .ok (.if_icmp .ge 24, 3) := q_dg11.1.1.2.2.1
theorem dX0_read_94 : decode cX0_read 94 = .ok (.aload_n 0, 1) := q_dg11.1.1.2.2.2
theorem dX0_read_95 : decode cX0_read 95 = .ok (.getfield 22, 3) := q_dg11.1.2.1.1
theorem dX0_read_98 : decode cX0_read 98 = .ok (.sipush 512, 3) := q_dg11.1.2.1.2.1
theorem dX0_read_101 : decode cX0_read 101 = .ok (.iload_n 3, 1) := q_dg11.1.2.1.2.2
theorem dX0_read_102 : decode cX0_read 102 = .ok (.iconst 2, 1) := q_dg11.1.2.2.1
theorem dX0_read_103 : decode cX0_read 103 = .ok (.ishr, 1) := q_dg11.1.2.2.2.1
theorem dX0_read_104 : decode cX0_read 104 = .ok (.iconst 3, 1) := q_dg11.1.2.2.2.2
theorem dX0_read_105 : decode cX0_read 105 = .ok (.iand, 1) := q_dg11.2.1.1.1
theorem dX0_read_106 : decode cX0_read 106 = .ok (.imul, 1) := q_dg11.2.1.1.2.1
theorem dX0_read_107 : decode cX0_read 107 = .ok (.iload_n 1, 1) := q_dg11.2.1.1.2.2
theorem dX0_read_108 : decode cX0_read 108 = .ok (.iadd, 1) := q_dg11.2.1.2.1
theorem dX0_read_109 : decode cX0_read 109 = .ok (.sipush 2048, 3) := q_dg11.2.1.2.2.1
theorem dX0_read_112 : decode cX0_read 112 = .ok (.isub, 1) := q_dg11.2.1.2.2.2
theorem dX0_read_113 : decode cX0_read 113 = .ok (.iaload, 1) := q_dg11.2.2.1.1
theorem dX0_read_114 : decode cX0_read 114 = .ok (.ireturn, 1) := q_dg11.2.2.1.2.1
theorem dX0_read_115 : decode cX0_read 115 = .ok (.aload_n 0, 1) := q_dg11.2.2.1.2.2
theorem dX0_read_116 : decode cX0_read 116 = .ok (.getfield 12, 3) := q_dg11.2.2.2.1
theorem dX0_read_119 : decode cX0_read 119 = .ok (.getfield 88, 3) := q_dg11.2.2.2.2.1
theorem dX0_read_122 : decode cX0_read 122 = .ok (.iload_n 1, 1) := q_dg11.2.2.2.2.2
theorem q_dg12 : ((decode cX0_read 123 = .ok (.sipush 4095, 3)) ∧ (decode cX0_read 126 = .ok (.iand, 1))) ∧ ((decode cX0_read 127 = .ok (.iaload, 1)) ∧ (decode cX0_read 128 = .ok (.ireturn, 1))) := by decide +kernel
theorem dX0_read_123 : decode cX0_read 123 = .ok (.sipush 4095, 3) := q_dg12.1.1
theorem dX0_read_126 : decode cX0_read 126 = .ok (.iand, 1) := q_dg12.1.2
theorem dX0_read_127 : decode cX0_read 127 = .ok (.iaload, 1) := q_dg12.2.1
theorem dX0_read_128 : decode cX0_read 128 = .ok (.ireturn, 1) := q_dg12.2.2
theorem q_dg13 : ((((decode cX0_readRegister 0 = .ok (.iload_n 1, 1)) ∧ ((decode cX0_readRegister 1 = .ok (.lookupswitch 181 #[(9, 67), (12, 80), (13, 91), (14, 101), (15, 112), (31, 122), (44, 146)], 67)) ∧ (decode cX0_readRegister 68 = .ok (.aload_n 0, 1)))) ∧ ((decode cX0_readRegister 69 = .ok (.getfield 71, 3)) ∧ ((decode cX0_readRegister 72 = .ok (.ldc2_w 75, 3)) ∧ (decode cX0_readRegister 75 = .ok (.lrem, 1))))) ∧ (((decode cX0_readRegister 76 = .ok (.l2i, 1)) ∧ ((decode cX0_readRegister 77 = .ok (.bipush 24, 2)) ∧ (decode cX0_readRegister 79 = .ok (.idiv, 1)))) ∧ ((decode cX0_readRegister 80 = .ok (.ireturn, 1)) ∧ ((decode cX0_readRegister 81 = .ok (.aload_n 0, 1)) ∧ (decode cX0_readRegister 82 = .ok (.getfield 25, 3)))))) ∧ ((((decode cX0_readRegister 85 = .ok (.iconst 0, 1)) ∧ ((decode cX0_readRegister 86 = .ok (.iaload, 1)) ∧ (decode cX0_readRegister 87 = .ok (.sipush 255, 3)))) ∧ ((decode cX0_readRegister 90 = .ok (.iand, 1)) ∧ ((decode cX0_readRegister 91 = .ok (.ireturn, 1)) ∧ (decode cX0_readRegister 92 = .ok (.aload_n 0, 1))))) ∧ (((decode cX0_readRegister 93 = .ok (.getfield 25, 3)) ∧ ((decode cX0_readRegister 96 = .ok (.iconst 0, 1)) ∧ (decode cX0_readRegister 97 = .ok (.iaload, 1)))) ∧ ((decode cX0_readRegister 98 = .ok (.bipush 8, 2)) ∧ ((decode cX0_readRegister 100 = .ok (.ishr, 1)) ∧ (decode cX0_readRegister 101 = .ok (.ireturn, 1)))))) := by decide +kernel
theorem dX0_readRegister_0 : decode cX0_readRegister 0 = .ok (.iload_n 1, 1) := q_dg13.1.1.1.1
theorem dX0_readRegister_1 : decode cX0_readRegister 1 = .ok (.lookupswitch 181 #[(9, 67), (12, 80), (13, 91), (14, 101), (15, 112), (31, 122), (44, 146)], 67) := q_dg13.1.1.1.2.1
theorem dX0_readRegister_68 : decode cX0_readRegister 68 = .ok (.aload_n 0, 1) := q_dg13.1.1.1.2.2
theorem dX0_readRegister_69 : decode cX0_readRegister 69 = .ok (.getfield 71, 3) := q_dg13.1.1.2.1
theorem dX0_readRegister_72 : decode cX0_readRegister 72 = .ok (.ldc2_w 75, 3) := q_dg13.1.1.2.2.1
theorem dX0_readRegister_75 : decode cX0_readRegister 75 = .ok (.lrem, 1) := q_dg13.1.1.2.2.2
theorem dX0_readRegister_76 : decode cX0_readRegister 76 = .ok (.l2i, 1) := q_dg13.1.2.1.1
theorem dX0_readRegister_77 : decode cX0_readRegister 77 = .ok (.bipush 24, 2) := q_dg13.1.2.1.2.1
theorem dX0_readRegister_79 : decode cX0_readRegister 79 = .ok (.idiv, 1) := q_dg13.1.2.1.2.2
theorem dX0_readRegister_80 : decode cX0_readRegister 80 = .ok (.ireturn, 1) := q_dg13.1.2.2.1
theorem dX0_readRegister_81 : decode cX0_readRegister 81 = .ok (.aload_n 0, 1) := q_dg13.1.2.2.2.1
theorem dX0_readRegister_82 : decode cX0_readRegister 82 = .ok (.getfield 25, 3) := q_dg13.1.2.2.2.2
theorem dX0_readRegister_85 : decode cX0_readRegister 85 = .ok (.iconst 0, 1) := q_dg13.2.1.1.1
theorem dX0_readRegister_86 : decode cX0_readRegister 86 = .ok (.iaload, 1) := q_dg13.2.1.1.2.1
theorem dX0_readRegister_87 : decode cX0_readRegister 87 = .ok (.sipush 255, 3) := q_dg13.2.1.1.2.2
theorem dX0_readRegister_90 : decode cX0_readRegister 90 = .ok (.iand, 1) := q_dg13.2.1.2.1
theorem dX0_readRegister_91 : decode cX0_readRegister 91 = .ok (.ireturn, 1) := q_dg13.2.1.2.2.1
theorem dX0_readRegister_92 : decode cX0_readRegister 92 = .ok (.aload_n 0, 1) := q_dg13.2.1.2.2.2
theorem dX0_readRegister_93 : decode cX0_readRegister 93 = .ok (.getfield 25, 3) := q_dg13.2.2.1.1
theorem dX0_readRegister_96 : decode cX0_readRegister 96 = .ok (.iconst 0, 1) := q_dg13.2.2.1.2.1
theorem dX0_readRegister_97 : decode cX0_readRegister 97 = .ok (.iaload, 1) := q_dg13.2.2.1.2.2
theorem dX0_readRegister_98 : decode cX0_readRegister 98 = .ok (.bipush 8, 2) := q_dg13.2.2.2.1
theorem dX0_readRegister_100 : decode cX0_readRegister 100 = .ok (.ishr, 1) := q_dg13.2.2.2.2.1
theorem dX0_readRegister_101 : decode cX0_readRegister 101 = .ok (.ireturn, 1) := q_dg13.2.2.2.2.2
theorem q_dg14 : ((((decode cX0_readRegister 102 = .ok (.aload_n 0, 1)) ∧ ((decode cX0_readRegister 103 = .ok (.getfield 25, 3)) ∧ (decode cX0_readRegister 106 = .ok (.iconst 1, 1)))) ∧ ((decode cX0_readRegister 107 = .ok (.iaload, 1)) ∧ ((decode cX0_readRegister 108 = .ok (.sipush 255, 3)) ∧ (decode cX0_readRegister 111 = .ok (.iand, 1))))) ∧ (((decode cX0_readRegister 112 = .ok (.ireturn, 1)) ∧ ((decode cX0_readRegister 113 = .ok (.aload_n 0, 1)) ∧ (decode cX0_readRegister 114 = .ok (.getfield 25, 3)))) ∧ ((decode cX0_readRegister 117 = .ok (.iconst 1, 1)) ∧ ((decode cX0_readRegister 118 = .ok (.iaload, 1)) ∧ (decode cX0_readRegister 119 = .ok (.bipush 8, 2)))))) ∧ ((((decode cX0_readRegister 121 = .ok (.ishr, 1)) ∧ ((decode cX0_readRegister 122 = .ok (.ireturn, 1)) ∧ (decode cX0_readRegister 123 = .ok (.aload_n 0, 1)))) ∧ ((decode cX0_readRegister 124 = .ok (.getfield 38, 3)) ∧ ((decode cX0_readRegister 127 = .ok (.getfield 91, 3)) ∧ (decode cX0_readRegister 130 = .ok (.iload_n 2, 1))))) ∧ (((decode cX0_readRegister 131 = .ok (.bipush 15, 2)) ∧ ((decode cX0_readRegister 133 = .ok (.iand, 1)) ∧ (decode cX0_readRegister 134 = .ok (.iaload, 1)))) ∧ ((decode cX0_readRegister 135 = .ok (.bipush 16, 2)) ∧ ((decode cX0_readRegister 137 = .ok (.aload_n 0, 1)) ∧ (decode cX0_readRegister 138 = .ok (.getfield 38, 3)))))) := by decide +kernel
theorem dX0_readRegister_102 : decode cX0_readRegister 102 = .ok (.aload_n 0, 1) := q_dg14.1.1.1.1
theorem dX0_readRegister_103 : decode cX0_readRegister 103 = .ok (.getfield 25, 3) := q_dg14.1.1.1.2.1
theorem dX0_readRegister_106 : decode cX0_readRegister 106 = .ok (.iconst 1, 1) := q_dg14.1.1.1.2.2
theorem dX0_readRegister_107 : decode cX0_readRegister 107 = .ok (.iaload, 1) := q_dg14.1.1.2.1
theorem dX0_readRegister_108 : decode cX0_readRegister 108 = .ok (.sipush 255, 3) := q_dg14.1.1.2.2.1
theorem dX0_readRegister_111 : decode cX0_readRegister 111 = .ok (.iand, 1) := q_dg14.1.1.2.2.2
theorem dX0_readRegister_112 : decode cX0_readRegister 112 = .ok (.ireturn, 1) := q_dg14.1.2.1.1
theorem dX0_readRegister_113 : decode cX0_readRegister 113 = .ok (.aload_n 0, 1) := q_dg14.1.2.1.2.1
theorem dX0_readRegister_114 : decode cX0_readRegister 114 = .ok (.getfield 25, 3) := q_dg14.1.2.1.2.2
theorem dX0_readRegister_117 : decode cX0_readRegister 117 = .ok (.iconst 1, 1) := q_dg14.1.2.2.1
theorem dX0_readRegister_118 : decode cX0_readRegister 118 = .ok (.iaload, 1) := q_dg14.1.2.2.2.1
theorem dX0_readRegister_119 : decode cX0_readRegister 119 = .ok (.bipush 8, 2) := q_dg14.1.2.2.2.2
theorem dX0_readRegister_121 : decode cX0_readRegister 121 = .ok (.ishr, 1) := q_dg14.2.1.1.1
theorem dX0_readRegister_122 : decode cX0_readRegister 122 = .ok (.ireturn, 1) := q_dg14.2.1.1.2.1
theorem dX0_readRegister_123 : decode cX0_readRegister 123 = .ok (.aload_n 0, 1) := q_dg14.2.1.1.2.2
theorem dX0_readRegister_124 : decode cX0_readRegister 124 = .ok (.getfield 38, 3) := q_dg14.2.1.2.1
theorem dX0_readRegister_127 : decode cX0_readRegister 127 = .ok (.getfield 91, 3) := q_dg14.2.1.2.2.1
theorem dX0_readRegister_130 : decode cX0_readRegister 130 = .ok (.iload_n 2, 1) := q_dg14.2.1.2.2.2
theorem dX0_readRegister_131 : decode cX0_readRegister 131 = .ok (.bipush 15, 2) := q_dg14.2.2.1.1
theorem dX0_readRegister_133 : decode cX0_readRegister 133 = .ok (.iand, 1) := q_dg14.2.2.1.2.1
theorem dX0_readRegister_134 : decode cX0_readRegister 134 = .ok (.iaload, 1) := q_dg14.2.2.1.2.2
theorem dX0_readRegister_135 : decode cX0_readRegister 135 = .ok (.bipush 16, 2) := q_dg14.2.2.2.1
theorem dX0_readRegister_137 : decode cX0_readRegister 137 = .ok (.aload_n 0, 1) := q_dg14.2.2.2.2.1
theorem dX0_readRegister_138 : decode cX0_readRegister 138 = .ok (.getfield 38, 3) := q_dg14.2.2.2.2.2
theorem q_dg15 : ((((decode cX0_readRegister 141 = .ok (.getfield 94, 3)) ∧ ((decode cX0_readRegister 144 = .ok (.imul, 1)) ∧ (decode cX0_readRegister 145 = .ok (.iadd, 1)))) ∧ ((decode cX0_readRegister 146 = .ok (.ireturn, 1)) ∧ ((decode cX0_readRegister 147 = .ok (.iload_n 2, 1)) ∧ (decode cX0_readRegister 148 = .ok (.iconst 2, 1))))) ∧ (((decode cX0_readRegister 149 = .ok (.aload_n 0, 1)) ∧ ((decode cX0_readRegister 150 = .ok (.getfield 31, 3)) ∧ (decode cX0_readRegister 153 = .ok (.getfield 98, 3)))) ∧ ((decode cX0_readRegister 156 = .ok (.imul, 1)) ∧ ((decode cX0_readRegister 157 = .ok (.iadd, 1)) ∧ (decode cX0_readRegister 158 = .ok (.aload_n 0, 1)))))) ∧ ((((decode cX0_readRegister 159 = .ok (.getfield 31, 3)) ∧ ((decode cX0_readRegister 162 = .ok (.getfield 101, 3)) ∧ (decode cX0_readRegister 165 = .ok (.aload_n 0, 1)))) ∧ ((decode cX0_readRegister 166 = .ok (.getfield 31, 3)) ∧ ((decode cX0_readRegister 169 = .ok (.getfield 104, 3)) ∧ (decode cX0_readRegister 172 = .ok (.if_icmp .ge 7, 3))))) ∧ (((decode cX0_readRegister 175 = .ok (.iconst 4, 1)) ∧ ((decode cX0_readRegister 176 = .ok (.goto 4, 3)) ∧ (decode cX0_readRegister 179 = .ok (.iconst 0, 1)))) ∧ ((decode cX0_readRegister 180 = .ok (.iadd, 1)) ∧ ((decode cX0_readRegister 181 = .ok (.ireturn, 1)) ∧ (decode cX0_readRegister 182 = .ok (.iload_n 2, 1)))))) := by decide +kernel
theorem dX0_readRegister_141 : decode cX0_readRegister 141 = .ok (.getfield 94, 3) := q_dg15.1.1.1.1
theorem dX0_readRegister_144 : decode cX0_readRegister 144 = .ok (.imul, 1) := q_dg15.1.1.1.2.1
theorem dX0_readRegister_145 : decode cX0_readRegister 145 = .ok (.iadd, 1) := q_dg15.1.1.1.2.2
theorem dX0_readRegister_146 : decode cX0_readRegister 146 = .ok (.ireturn, 1) := q_dg15.1.1.2.1
theorem dX0_readRegister_147 : decode cX0_readRegister 147 = .ok (.iload_n 2, 1) := q_dg15.1.1.2.2.1
theorem dX0_readRegister_148 : decode cX0_readRegister 148 = .ok (.iconst 2, 1) := q_dg15.1.1.2.2.2
theorem dX0_readRegister_149 : decode cX0_readRegister 149 = .ok (.aload_n 0, 1) := q_dg15.1.2.1.1
theorem dX0_readRegister_150 : decode cX0_readRegister 150 = .ok (.getfield 31, 3) := q_dg15.1.2.1.2.1
theorem dX0_readRegister_153 : decode cX0_readRegister 153 = .ok (.getfield 98, 3) := q_dg15.1.2.1.2.2
theorem dX0_readRegister_156 : decode cX0_readRegister 156 = .ok (.imul, 1) := q_dg15.1.2.2.1
theorem dX0_readRegister_157 : decode cX0_readRegister 157 = .ok (.iadd, 1) := q_dg15.1.2.2.2.1
theorem dX0_readRegister_158 : decode cX0_readRegister 158 = .ok (.aload_n 0, 1) := q_dg15.1.2.2.2.2
theorem dX0_readRegister_159 : decode cX0_readRegister 159 = .ok (.getfield 31, 3) := q_dg15.2.1.1.1
theorem dX0_readRegister_162 : decode cX0_readRegister 162 = .ok (.getfield 101, 3) := q_dg15.2.1.1.2.1
theorem dX0_readRegister_165 : decode cX0_readRegister 165 = .ok (.aload_n 0, 1) := q_dg15.2.1.1.2.2
theorem dX0_readRegister_166 : decode cX0_readRegister 166 = .ok (.getfield 31, 3) := q_dg15.2.1.2.1
theorem dX0_readRegister_169 : decode cX0_readRegister 169 = .ok (.getfield 104, 3) := q_dg15.2.1.2.2.1
theorem dX0_readRegister_172 : decode cX0_readRegister 172 = .ok (.if_icmp .ge 7, 3) := q_dg15.2.1.2.2.2
theorem dX0_readRegister_175 : decode cX0_readRegister 175 = .ok (.iconst 4, 1) := q_dg15.2.2.1.1
theorem dX0_readRegister_176 : decode cX0_readRegister 176 = .ok (.goto 4, 3) := q_dg15.2.2.1.2.1
theorem dX0_readRegister_179 : decode cX0_readRegister 179 = .ok (.iconst 0, 1) := q_dg15.2.2.1.2.2
theorem dX0_readRegister_180 : decode cX0_readRegister 180 = .ok (.iadd, 1) := q_dg15.2.2.2.1
theorem dX0_readRegister_181 : decode cX0_readRegister 181 = .ok (.ireturn, 1) := q_dg15.2.2.2.2.1
theorem dX0_readRegister_182 : decode cX0_readRegister 182 = .ok (.iload_n 2, 1) := q_dg15.2.2.2.2.2
theorem dX0_readRegister_183 : decode cX0_readRegister 183 = .ok (.ireturn, 1) := by decide +kernel
theorem q_dg16 : ((((decode cX0_readWord 0 = .ok (.aload_n 0, 1)) ∧ (decode cX0_readWord 1 = .ok (.iload_n 1, 1))) ∧ ((decode cX0_readWord 2 = .ok (.sipush 4095, 3)) ∧ ((decode cX0_readWord 5 = .ok (.iand, 1)) ∧ (decode cX0_readWord 6 = .ok (.invokevirtual 107, 3))))) ∧ (((decode cX0_readWord 9 = .ok (.istore_n 2, 1)) ∧ (decode cX0_readWord 10 = .ok (.iload_n 2, 1))) ∧ ((decode cX0_readWord 11 = .ok (.sipush 256, 3)) ∧ ((decode cX0_readWord 14 = .ok (.aload_n 0, 1)) ∧ (decode cX0_readWord 15 = .ok (.iload_n 1, 1)))))) ∧ ((((decode cX0_readWord 16 = .ok (.iconst 1, 1)) ∧ (decode cX0_readWord 17 = .ok (.iadd, 1))) ∧ ((decode cX0_readWord 18 = .ok (.sipush 4095, 3)) ∧ ((decode cX0_readWord 21 = .ok (.iand, 1)) ∧ (decode cX0_readWord 22 = .ok (.invokevirtual 107, 3))))) ∧ (((decode cX0_readWord 25 = .ok (.imul, 1)) ∧ (decode cX0_readWord 26 = .ok (.iadd, 1))) ∧ ((decode cX0_readWord 27 = .ok (.sipush 4095, 3)) ∧ ((decode cX0_readWord 30 = .ok (.iand, 1)) ∧ (decode cX0_readWord 31 = .ok (.ireturn, 1)))))) := by decide +kernel
theorem dX0_readWord_0 : decode cX0_readWord 0 = .ok (.aload_n 0, 1) := q_dg16.1.1.1.1
theorem dX0_readWord_1 : decode cX0_readWord 1 = .ok (.iload_n 1, 1) := q_dg16.1.1.1.2
theorem dX0_readWord_2 : decode cX0_readWord 2 = .ok (.sipush 4095, 3) := q_dg16.1.1.2.1
theorem dX0_readWord_5 : decode cX0_readWord 5 = .ok (.iand, 1) := q_dg16.1.1.2.2.1
theorem dX0_readWord_6 : decode cX0_readWord 6 = .ok (.invokevirtual 107, 3) := q_dg16.1.1.2.2.2
theorem dX0_readWord_9 : decode cX0_readWord 9 = .ok (.istore_n 2, 1) := q_dg16.1.2.1.1
theorem dX0_readWord_10 : decode cX0_readWord 10 = .ok (.iload_n 2, 1) := q_dg16.1.2.1.2
theorem dX0_readWord_11 : decode cX0_readWord 11 = .ok (.sipush 256, 3) := q_dg16.1.2.2.1
theorem dX0_readWord_14 : decode cX0_readWord 14 = .ok (.aload_n 0, 1) := q_dg16.1.2.2.2.1
theorem dX0_readWord_15 : decode cX0_readWord 15 = .ok (.iload_n 1, 1) := q_dg16.1.2.2.2.2
theorem dX0_readWord_16 : decode cX0_readWord 16 = .ok (.iconst 1, 1) := q_dg16.2.1.1.1
theorem dX0_readWord_17 : decode cX0_readWord 17 = .ok (.iadd, 1) := q_dg16.2.1.1.2
theorem dX0_readWord_18 : decode cX0_readWord 18 = .ok (.sipush 4095, 3) := q_dg16.2.1.2.1
theorem dX0_readWord_21 : decode cX0_readWord 21 = .ok (.iand, 1) := q_dg16.2.1.2.2.1
theorem dX0_readWord_22 : decode cX0_readWord 22 = .ok (.invokevirtual 107, 3) := q_dg16.2.1.2.2.2
theorem dX0_readWord_25 : decode cX0_readWord 25 = .ok (.imul, 1) := q_dg16.2.2.1.1
theorem dX0_readWord_26 : decode cX0_readWord 26 = .ok (.iadd, 1) := q_dg16.2.2.1.2
theorem dX0_readWord_27 : decode cX0_readWord 27 = .ok (.sipush 4095, 3) := q_dg16.2.2.2.1
theorem dX0_readWord_30 : decode cX0_readWord 30 = .ok (.iand, 1) := q_dg16.2.2.2.2.1
theorem dX0_readWord_31 : decode cX0_readWord 31 = .ok (.ireturn, 1) := q_dg16.2.2.2.2.2
theorem q_dg17 : ((((decode cX0_load 0 = .ok (.aload_n 0, 1)) ∧ ((decode cX0_load 1 = .ok (.iload_n 1, 1)) ∧ (decode cX0_load 2 = .ok (.invokevirtual 107, 3)))) ∧ ((decode cX0_load 5 = .ok (.istore_n 2, 1)) ∧ ((decode cX0_load 6 = .ok (.iload_n 1, 1)) ∧ (decode cX0_load 7 = .ok (.sipush 3869, 3))))) ∧ (((decode cX0_load 10 = .ok (.if_icmp .ne 17, 3)) ∧ ((decode cX0_load 13 = .ok (.aload_n 0, 1)) ∧ (decode cX0_load 14 = .ok (.getfield 12, 3)))) ∧ ((decode cX0_load 17 = .ok (.getfield 81, 3)) ∧ ((decode cX0_load 20 = .ok (.bipush 29, 2)) ∧ (decode cX0_load 22 = .ok (.iconst 0, 1)))))) ∧ ((((decode cX0_load 23 = .ok (.iastore, 1)) ∧ ((decode cX0_load 24 = .ok (.goto 21, 3)) ∧ (decode cX0_load 27 = .ok (.iload_n 1, 1)))) ∧ ((decode cX0_load 28 = .ok (.sipush 3870, 3)) ∧ ((decode cX0_load 31 = .ok (.if_icmp .ne 14, 3)) ∧ (decode cX0_load 34 = .ok (.aload_n 0, 1))))) ∧ (((decode cX0_load 35 = .ok (.getfield 12, 3)) ∧ ((decode cX0_load 38 = .ok (.getfield 81, 3)) ∧ (decode cX0_load 41 = .ok (.bipush 30, 2)))) ∧ ((decode cX0_load 43 = .ok (.iconst 0, 1)) ∧ ((decode cX0_load 44 = .ok (.iastore, 1)) ∧ (decode cX0_load 45 = .ok (.iload_n 2, 1)))))) := by decide +kernel
theorem dX0_load_0 : decode cX0_load 0 = .ok (.aload_n 0, 1) := q_dg17.1.1.1.1
theorem dX0_load_1 : decode cX0_load 1 = .ok (.iload_n 1, 1) := q_dg17.1.1.1.2.1
theorem dX0_load_2 : decode cX0_load 2 = .ok (.invokevirtual 107, 3) := q_dg17.1.1.1.2.2
theorem dX0_load_5 : decode cX0_load 5 = .ok (.istore_n 2, 1) := q_dg17.1.1.2.1
theorem dX0_load_6 : decode cX0_load 6 = .ok (.iload_n 1, 1) := q_dg17.1.1.2.2.1
theorem dX0_load_7 : decode cX0_load 7 = .ok (.sipush 3869, 3) := q_dg17.1.1.2.2.2
theorem dX0_load_10 : decode cX0_load 10 = .ok (.if_icmp .ne 17, 3) := q_dg17.1.2.1.1
theorem dX0_load_13 : decode cX0_load 13 = .ok (.aload_n 0, 1) := q_dg17.1.2.1.2.1
theorem dX0_load_14 : decode cX0_load 14 = .ok (.getfield 12, 3) := q_dg17.1.2.1.2.2
theorem dX0_load_17 : decode cX0_load 17 = .ok (.getfield 81, 3) := q_dg17.1.2.2.1
theorem dX0_load_20 : decode cX0_load 20 = .ok (.bipush 29, 2) := q_dg17.1.2.2.2.1
theorem dX0_load_22 : decode cX0_load 22 = .ok (.iconst 0, 1) := q_dg17.1.2.2.2.2
theorem dX0_load_23 : decode cX0_load 23 = .ok (.iastore, 1) := q_dg17.2.1.1.1
theorem dX0_load_24 : decode cX0_load 24 = .ok (.goto 21, 3) := q_dg17.2.1.1.2.1
theorem dX0_load_27 : decode cX0_load 27 = .ok (.iload_n 1, 1) := q_dg17.2.1.1.2.2
theorem dX0_load_28 : decode cX0_load 28 = .ok (.sipush 3870, 3) := q_dg17.2.1.2.1
theorem dX0_load_31 : decode cX0_load 31 = .ok (.if_icmp .ne 14, 3) := q_dg17.2.1.2.2.1
theorem dX0_load_34 : decode cX0_load 34 = .ok (.aload_n 0, 1) := q_dg17.2.1.2.2.2
theorem dX0_load_35 : decode cX0_load 35 = .ok (.getfield 12, 3) := q_dg17.2.2.1.1
theorem dX0_load_38 : decode cX0_load 38 = .ok (.getfield 81, 3) := q_dg17.2.2.1.2.1
theorem dX0_load_41 : decode cX0_load 41 = .ok (.bipush 30, 2) := q_dg17.2.2.1.2.2
theorem dX0_load_43 : decode cX0_load 43 = .ok (.iconst 0, 1) := q_dg17.2.2.2.1
theorem dX0_load_44 : decode cX0_load 44 = .ok (.iastore, 1) := q_dg17.2.2.2.2.1
theorem dX0_load_45 : decode cX0_load 45 = .ok (.iload_n 2, 1) := q_dg17.2.2.2.2.2
theorem dX0_load_46 : decode cX0_load 46 = .ok (.ireturn, 1) := by decide +kernel
theorem q_dg18 : ((((decode cX0_write 0 = .ok (.iload_n 1, 1)) ∧ ((decode cX0_write 1 = .ok (.sipush 3850, 3)) ∧ (decode cX0_write 4 = .ok (.if_icmp .ne 22, 3)))) ∧ ((decode cX0_write 7 = .ok (.aload_n 0, 1)) ∧ ((decode cX0_write 8 = .ok (.getfield 12, 3)) ∧ (decode cX0_write 11 = .ok (.getfield 81, 3))))) ∧ (((decode cX0_write 14 = .ok (.bipush 10, 2)) ∧ ((decode cX0_write 16 = .ok (.dup2, 1)) ∧ (decode cX0_write 17 = .ok (.iaload, 1)))) ∧ ((decode cX0_write 18 = .ok (.iload_n 2, 1)) ∧ ((decode cX0_write 19 = .ok (.iconst (-1), 1)) ∧ (decode cX0_write 20 = .ok (.ixor, 1)))))) ∧ ((((decode cX0_write 21 = .ok (.iand, 1)) ∧ ((decode cX0_write 22 = .ok (.iastore, 1)) ∧ (decode cX0_write 23 = .ok (.goto 28, 3)))) ∧ ((decode cX0_write 26 = .ok (.iload_n 1, 1)) ∧ ((decode cX0_write 27 = .ok (.sipush 3856, 3)) ∧ (decode cX0_write 30 = .ok (.if_icmp .ne 21, 3))))) ∧ (((decode cX0_write 33 = .ok (.aload_n 0, 1)) ∧ ((decode cX0_write 34 = .ok (.iload_n 2, 1)) ∧ (decode cX0_write 35 = .ok (.aload_n 0, 1)))) ∧ ((decode cX0_write 36 = .ok (.getfield 12, 3)) ∧ ((decode cX0_write 39 = .ok (.getfield 81, 3)) ∧ (decode cX0_write 42 = .ok (.bipush 16, 2)))))) := by decide +kernel
theorem dX0_write_0 : decode cX0_write 0 = .ok (.iload_n 1, 1) := q_dg18.1.1.1.1
theorem dX0_write_1 : decode cX0_write 1 = .ok (.sipush 3850, 3) := q_dg18.1.1.1.2.1
theorem dX0_write_4 : decode cX0_write 4 = .ok (.if_icmp .ne 22, 3) := q_dg18.1.1.1.2.2
theorem dX0_write_7 : decode cX0_write 7 = .ok (.aload_n 0, 1) := q_dg18.1.1.2.1
theorem dX0_write_8 : decode cX0_write 8 = .ok (.getfield 12, 3) := q_dg18.1.1.2.2.1
theorem dX0_write_11 : decode cX0_write 11 = .ok (.getfield 81, 3) := q_dg18.1.1.2.2.2
theorem dX0_write_14 : decode cX0_write 14 = .ok (.bipush 10, 2) := q_dg18.1.2.1.1
theorem dX0_write_16 : decode cX0_write 16 = .ok (.dup2, 1) := q_dg18.1.2.1.2.1
theorem dX0_write_17 : decode cX0_write 17 = .ok (.iaload, 1) := q_dg18.1.2.1.2.2
theorem dX0_write_18 : decode cX0_write 18 = .ok (.iload_n 2, 1) := q_dg18.1.2.2.1
theorem dX0_write_19 : decode cX0_write 19 = .ok (.iconst (-1), 1) := q_dg18.1.2.2.2.1
theorem dX0_write_20 : decode cX0_write 20 = .ok (.ixor, 1) := q_dg18.1.2.2.2.2
theorem dX0_write_21 : decode cX0_write 21 = .ok (.iand, 1) := q_dg18.2.1.1.1
theorem dX0_write_22 : decode cX0_write 22 = .ok (.iastore, 1) := q_dg18.2.1.1.2.1
theorem dX0_write_23 : decode cX0_write 23 = .ok (.goto 28, 3) := q_dg18.2.1.1.2.2
theorem dX0_write_26 : decode cX0_write 26 = .ok (.iload_n 1, 1) := q_dg18.2.1.2.1
theorem dX0_write_27 : decode cX0_write 27 = .ok (.sipush 3856, 3) := q_dg18.2.1.2.2.1
theorem dX0_write_30 : decode cX0_write 30 = .ok (.if_icmp .ne 21, 3) := q_dg18.2.1.2.2.2
theorem dX0_write_33 : decode cX0_write 33 = .ok (.aload_n 0, 1) := q_dg18.2.2.1.1
theorem dX0_write_34 : decode cX0_write 34 = .ok (.iload_n 2, 1) := q_dg18.2.2.1.2.1
theorem dX0_write_35 : decode cX0_write 35 = .ok (.aload_n 0, 1) := q_dg18.2.2.1.2.2
theorem dX0_write_36 : decode cX0_write 36 = .ok (.getfield 12, 3) := q_dg18.2.2.2.1
theorem dX0_write_39 : decode cX0_write 39 = .ok (.getfield 81, 3) := q_dg18.2.2.2.2.1
theorem dX0_write_42 : decode cX0_write 42 = .ok (.bipush 16, 2) := q_dg18.2.2.2.2.2
theorem q_dg19 : ((((decode cX0_write 44 = .ok (.iaload, 1)) ∧ (decode cX0_write 45 = .ok (.iconst (-1), 1))) ∧ ((decode cX0_write 46 = .ok (.ixor, 1)) ∧ (decode cX0_write 47 = .ok (.iand, 1)))) ∧ (((decode cX0_write 48 = .ok (.invokevirtual 111, 3)) ∧ (decode cX0_write 51 = .ok (.aload_n 0, 1))) ∧ ((decode cX0_write 52 = .ok (.getfield 12, 3)) ∧ (decode cX0_write 55 = .ok (.iload_n 1, 1))))) ∧ ((((decode cX0_write 56 = .ok (.iload_n 2, 1)) ∧ (decode cX0_write 57 = .ok (.invokevirtual 115, 3))) ∧ ((decode cX0_write 60 = .ok (.aload_n 0, 1)) ∧ (decode cX0_write 61 = .ok (.invokevirtual 119, 3)))) ∧ (((decode cX0_write 64 = .ok (.iload_n 1, 1)) ∧ (decode cX0_write 65 = .ok (.iload_n 2, 1))) ∧ ((decode cX0_write 66 = .ok (.invokevirtual 123, 3)) ∧ (decode cX0_write 69 = .ok (.return_, 1))))) := by decide +kernel
theorem dX0_write_44 : decode cX0_write 44 = .ok (.iaload, 1) := q_dg19.1.1.1.1
theorem dX0_write_45 : decode cX0_write 45 = .ok (.iconst (-1), 1) := q_dg19.1.1.1.2
theorem dX0_write_46 : decode cX0_write 46 = .ok (.ixor, 1) := q_dg19.1.1.2.1
theorem dX0_write_47 : decode cX0_write 47 = .ok (.iand, 1) := q_dg19.1.1.2.2
theorem dX0_write_48 : decode cX0_write 48 = .ok (.invokevirtual 111, 3) := q_dg19.1.2.1.1
theorem dX0_write_51 : decode cX0_write 51 = .ok (.aload_n 0, 1) := q_dg19.1.2.1.2
theorem dX0_write_52 : decode cX0_write 52 = .ok (.getfield 12, 3) := q_dg19.1.2.2.1
theorem dX0_write_55 : decode cX0_write 55 = .ok (.iload_n 1, 1) := q_dg19.1.2.2.2
theorem dX0_write_56 : decode cX0_write 56 = .ok (.iload_n 2, 1) := q_dg19.2.1.1.1
theorem dX0_write_57 : decode cX0_write 57 = .ok (.invokevirtual 115, 3) := q_dg19.2.1.1.2
theorem dX0_write_60 : decode cX0_write 60 = .ok (.aload_n 0, 1) := q_dg19.2.1.2.1
theorem dX0_write_61 : decode cX0_write 61 = .ok (.invokevirtual 119, 3) := q_dg19.2.1.2.2
theorem dX0_write_64 : decode cX0_write 64 = .ok (.iload_n 1, 1) := q_dg19.2.2.1.1
theorem dX0_write_65 : decode cX0_write 65 = .ok (.iload_n 2, 1) := q_dg19.2.2.1.2
theorem dX0_write_66 : decode cX0_write 66 = .ok (.invokevirtual 123, 3) := q_dg19.2.2.2.1
theorem dX0_write_69 : decode cX0_write 69 = .ok (.return_, 1) := q_dg19.2.2.2.2
theorem q_dg20 : ((((decode cX0_startTimers 0 = .ok (.iconst 0, 1)) ∧ ((decode cX0_startTimers 1 = .ok (.istore_n 2, 1)) ∧ (decode cX0_startTimers 2 = .ok (.iload_n 2, 1)))) ∧ ((decode cX0_startTimers 3 = .ok (.iconst 2, 1)) ∧ ((decode cX0_startTimers 4 = .ok (.if_icmp .ge 59, 3)) ∧ (decode cX0_startTimers 7 = .ok (.iload_n 1, 1))))) ∧ (((decode cX0_startTimers 8 = .ok (.iload_n 2, 1)) ∧ ((decode cX0_startTimers 9 = .ok (.ishr, 1)) ∧ (decode cX0_startTimers 10 = .ok (.iconst 1, 1)))) ∧ ((decode cX0_startTimers 11 = .ok (.iand, 1)) ∧ ((decode cX0_startTimers 12 = .ok (.iconst 1, 1)) ∧ (decode cX0_startTimers 13 = .ok (.if_icmp .ne 44, 3)))))) ∧ ((((decode cX0_startTimers 16 = .ok (.aload_n 0, 1)) ∧ ((decode cX0_startTimers 17 = .ok (.getfield 25, 3)) ∧ (decode cX0_startTimers 20 = .ok (.iload_n 2, 1)))) ∧ ((decode cX0_startTimers 21 = .ok (.aload_n 0, 1)) ∧ ((decode cX0_startTimers 22 = .ok (.getfield 12, 3)) ∧ (decode cX0_startTimers 25 = .ok (.getfield 81, 3))))) ∧ (((decode cX0_startTimers 28 = .ok (.bipush 12, 2)) ∧ ((decode cX0_startTimers 30 = .ok (.iconst 2, 1)) ∧ (decode cX0_startTimers 31 = .ok (.iload_n 2, 1)))) ∧ ((decode cX0_startTimers 32 = .ok (.imul, 1)) ∧ ((decode cX0_startTimers 33 = .ok (.iadd, 1)) ∧ (decode cX0_startTimers 34 = .ok (.iaload, 1)))))) := by decide +kernel
theorem dX0_startTimers_0 : decode cX0_startTimers 0 = .ok (.iconst 0, 1) := q_dg20.1.1.1.1
theorem dX0_startTimers_1 : decode cX0_startTimers 1 = .ok (.istore_n 2, 1) := q_dg20.1.1.1.2.1
theorem dX0_startTimers_2 : decode cX0_startTimers 2 = .ok (.iload_n 2, 1) := q_dg20.1.1.1.2.2
theorem dX0_startTimers_3 : decode cX0_startTimers 3 = .ok (.iconst 2, 1) := q_dg20.1.1.2.1
theorem dX0_startTimers_4 : decode cX0_startTimers 4 = .ok (.if_icmp .ge 59, 3) := q_dg20.1.1.2.2.1
theorem dX0_startTimers_7 : decode cX0_startTimers 7 = .ok (.iload_n 1, 1) := q_dg20.1.1.2.2.2
theorem dX0_startTimers_8 : decode cX0_startTimers 8 = .ok (.iload_n 2, 1) := q_dg20.1.2.1.1
theorem dX0_startTimers_9 : decode cX0_startTimers 9 = .ok (.ishr, 1) := q_dg20.1.2.1.2.1
theorem dX0_startTimers_10 : decode cX0_startTimers 10 = .ok (.iconst 1, 1) := q_dg20.1.2.1.2.2
theorem dX0_startTimers_11 : decode cX0_startTimers 11 = .ok (.iand, 1) := q_dg20.1.2.2.1
theorem dX0_startTimers_12 : decode cX0_startTimers 12 = .ok (.iconst 1, 1) := q_dg20.1.2.2.2.1
theorem dX0_startTimers_13 : decode cX0_startTimers 13 = .ok (.if_icmp .ne 44, 3) := q_dg20.1.2.2.2.2
theorem dX0_startTimers_16 : decode cX0_startTimers 16 = .ok (.aload_n 0, 1) := q_dg20.2.1.1.1
theorem dX0_startTimers_17 : decode cX0_startTimers 17 = .ok (.getfield 25, 3) := q_dg20.2.1.1.2.1
theorem dX0_startTimers_20 : decode cX0_startTimers 20 = .ok (.iload_n 2, 1) := q_dg20.2.1.1.2.2
theorem dX0_startTimers_21 : decode cX0_startTimers 21 = .ok (.aload_n 0, 1) := q_dg20.2.1.2.1
theorem dX0_startTimers_22 : decode cX0_startTimers 22 = .ok (.getfield 12, 3) := q_dg20.2.1.2.2.1
theorem dX0_startTimers_25 : decode cX0_startTimers 25 = .ok (.getfield 81, 3) := q_dg20.2.1.2.2.2
theorem dX0_startTimers_28 : decode cX0_startTimers 28 = .ok (.bipush 12, 2) := q_dg20.2.2.1.1
theorem dX0_startTimers_30 : decode cX0_startTimers 30 = .ok (.iconst 2, 1) := q_dg20.2.2.1.2.1
theorem dX0_startTimers_31 : decode cX0_startTimers 31 = .ok (.iload_n 2, 1) := q_dg20.2.2.1.2.2
theorem dX0_startTimers_32 : decode cX0_startTimers 32 = .ok (.imul, 1) := q_dg20.2.2.2.1
theorem dX0_startTimers_33 : decode cX0_startTimers 33 = .ok (.iadd, 1) := q_dg20.2.2.2.2.1
theorem dX0_startTimers_34 : decode cX0_startTimers 34 = .ok (.iaload, 1) := q_dg20.2.2.2.2.2
theorem q_dg21 : ((((decode cX0_startTimers 35 = .ok (.sipush 256, 3)) ∧ (decode cX0_startTimers 38 = .ok (.aload_n 0, 1))) ∧ ((decode cX0_startTimers 39 = .ok (.getfield 12, 3)) ∧ (decode cX0_startTimers 42 = .ok (.getfield 81, 3)))) ∧ (((decode cX0_startTimers 45 = .ok (.bipush 12, 2)) ∧ (decode cX0_startTimers 47 = .ok (.iconst 2, 1))) ∧ ((decode cX0_startTimers 48 = .ok (.iload_n 2, 1)) ∧ ((decode cX0_startTimers 49 = .ok (.imul, 1)) ∧ (decode cX0_startTimers 50 = .ok (.iadd, 1)))))) ∧ ((((decode cX0_startTimers 51 = .ok (.iconst 1, 1)) ∧ (decode cX0_startTimers 52 = .ok (.iadd, 1))) ∧ ((decode cX0_startTimers 53 = .ok (.iaload, 1)) ∧ (decode cX0_startTimers 54 = .ok (.imul, 1)))) ∧ (((decode cX0_startTimers 55 = .ok (.iadd, 1)) ∧ (decode cX0_startTimers 56 = .ok (.iastore, 1))) ∧ ((decode cX0_startTimers 57 = .ok (.iinc 2 1, 3)) ∧ ((decode cX0_startTimers 60 = .ok (.goto (-58), 3)) ∧ (decode cX0_startTimers 63 = .ok (.return_, 1)))))) := by decide +kernel
theorem dX0_startTimers_35 : decode cX0_startTimers 35 = .ok (.sipush 256, 3) := q_dg21.1.1.1.1
theorem dX0_startTimers_38 : decode cX0_startTimers 38 = .ok (.aload_n 0, 1) := q_dg21.1.1.1.2
theorem dX0_startTimers_39 : decode cX0_startTimers 39 = .ok (.getfield 12, 3) := q_dg21.1.1.2.1
theorem dX0_startTimers_42 : decode cX0_startTimers 42 = .ok (.getfield 81, 3) := q_dg21.1.1.2.2
theorem dX0_startTimers_45 : decode cX0_startTimers 45 = .ok (.bipush 12, 2) := q_dg21.1.2.1.1
theorem dX0_startTimers_47 : decode cX0_startTimers 47 = .ok (.iconst 2, 1) := q_dg21.1.2.1.2
theorem dX0_startTimers_48 : decode cX0_startTimers 48 = .ok (.iload_n 2, 1) := q_dg21.1.2.2.1
theorem dX0_startTimers_49 : decode cX0_startTimers 49 = .ok (.imul, 1) := q_dg21.1.2.2.2.1
theorem dX0_startTimers_50 : decode cX0_startTimers 50 = .ok (.iadd, 1) := q_dg21.1.2.2.2.2
theorem dX0_startTimers_51 : decode cX0_startTimers 51 = .ok (.iconst 1, 1) := q_dg21.2.1.1.1
theorem dX0_startTimers_52 : decode cX0_startTimers 52 = .ok (.iadd, 1) := q_dg21.2.1.1.2
theorem dX0_startTimers_53 : decode cX0_startTimers 53 = .ok (.iaload, 1) := q_dg21.2.1.2.1
theorem dX0_startTimers_54 : decode cX0_startTimers 54 = .ok (.imul, 1) := q_dg21.2.1.2.2
theorem dX0_startTimers_55 : decode cX0_startTimers 55 = .ok (.iadd, 1) := q_dg21.2.2.1.1
theorem dX0_startTimers_56 : decode cX0_startTimers 56 = .ok (.iastore, 1) := q_dg21.2.2.1.2
theorem dX0_startTimers_57 : decode cX0_startTimers 57 = .ok (.iinc 2 1, 3) := q_dg21.2.2.2.1
theorem dX0_startTimers_60 : decode cX0_startTimers 60 = .ok (.goto (-58), 3) := q_dg21.2.2.2.2.1
theorem dX0_startTimers_63 : decode cX0_startTimers 63 = .ok (.return_, 1) := q_dg21.2.2.2.2.2
theorem q_dg22 : (((decode cX0_clearRegisters 0 = .ok (.aload_n 0, 1)) ∧ ((decode cX0_clearRegisters 1 = .ok (.getfield 12, 3)) ∧ (decode cX0_clearRegisters 4 = .ok (.invokevirtual 126, 3)))) ∧ ((decode cX0_clearRegisters 7 = .ok (.aload_n 0, 1)) ∧ ((decode cX0_clearRegisters 8 = .ok (.invokevirtual 119, 3)) ∧ (decode cX0_clearRegisters 11 = .ok (.sipush 4096, 3))))) ∧ (((decode cX0_clearRegisters 14 = .ok (.iconst 0, 1)) ∧ ((decode cX0_clearRegisters 15 = .ok (.invokevirtual 123, 3)) ∧ (decode cX0_clearRegisters 18 = .ok (.aload_n 0, 1)))) ∧ (((decode cX0_clearRegisters 19 = .ok (.getfield 25, 3)) ∧ (decode cX0_clearRegisters 22 = .ok (.iconst 0, 1))) ∧ ((decode cX0_clearRegisters 23 = .ok (.invokestatic 129, 3)) ∧ (decode cX0_clearRegisters 26 = .ok (.return_, 1))))) := by decide +kernel
theorem dX0_clearRegisters_0 : decode cX0_clearRegisters 0 = .ok (.aload_n 0, 1) := q_dg22.1.1.1
theorem dX0_clearRegisters_1 : decode cX0_clearRegisters 1 = .ok (.getfield 12, 3) := q_dg22.1.1.2.1
theorem dX0_clearRegisters_4 : decode cX0_clearRegisters 4 = .ok (.invokevirtual 126, 3) := q_dg22.1.1.2.2
theorem dX0_clearRegisters_7 : decode cX0_clearRegisters 7 = .ok (.aload_n 0, 1) := q_dg22.1.2.1
theorem dX0_clearRegisters_8 : decode cX0_clearRegisters 8 = .ok (.invokevirtual 119, 3) := q_dg22.1.2.2.1
theorem dX0_clearRegisters_11 : decode cX0_clearRegisters 11 = .ok (.sipush 4096, 3) := q_dg22.1.2.2.2
theorem dX0_clearRegisters_14 : decode cX0_clearRegisters 14 = .ok (.iconst 0, 1) := q_dg22.2.1.1
theorem dX0_clearRegisters_15 : decode cX0_clearRegisters 15 = .ok (.invokevirtual 123, 3) := q_dg22.2.1.2.1
theorem dX0_clearRegisters_18 : decode cX0_clearRegisters 18 = .ok (.aload_n 0, 1) := q_dg22.2.1.2.2
theorem dX0_clearRegisters_19 : decode cX0_clearRegisters 19 = .ok (.getfield 25, 3) := q_dg22.2.2.1.1
theorem dX0_clearRegisters_22 : decode cX0_clearRegisters 22 = .ok (.iconst 0, 1) := q_dg22.2.2.1.2
theorem dX0_clearRegisters_23 : decode cX0_clearRegisters 23 = .ok (.invokestatic 129, 3) := q_dg22.2.2.2.1
theorem dX0_clearRegisters_26 : decode cX0_clearRegisters 26 = .ok (.return_, 1) := q_dg22.2.2.2.2
theorem q_dg23 : (((decode cX0_exchange 0 = .ok (.aload_n 0, 1)) ∧ (decode cX0_exchange 1 = .ok (.iload_n 1, 1))) ∧ ((decode cX0_exchange 2 = .ok (.invokevirtual 107, 3)) ∧ ((decode cX0_exchange 5 = .ok (.istore_n 3, 1)) ∧ (decode cX0_exchange 6 = .ok (.aload_n 0, 1))))) ∧ (((decode cX0_exchange 7 = .ok (.iload_n 1, 1)) ∧ (decode cX0_exchange 8 = .ok (.iload_n 2, 1))) ∧ ((decode cX0_exchange 9 = .ok (.invokevirtual 135, 3)) ∧ ((decode cX0_exchange 12 = .ok (.iload_n 3, 1)) ∧ (decode cX0_exchange 13 = .ok (.ireturn, 1))))) := by decide +kernel
theorem dX0_exchange_0 : decode cX0_exchange 0 = .ok (.aload_n 0, 1) := q_dg23.1.1.1
theorem dX0_exchange_1 : decode cX0_exchange 1 = .ok (.iload_n 1, 1) := q_dg23.1.1.2
theorem dX0_exchange_2 : decode cX0_exchange 2 = .ok (.invokevirtual 107, 3) := q_dg23.1.2.1
theorem dX0_exchange_5 : decode cX0_exchange 5 = .ok (.istore_n 3, 1) := q_dg23.1.2.2.1
theorem dX0_exchange_6 : decode cX0_exchange 6 = .ok (.aload_n 0, 1) := q_dg23.1.2.2.2
theorem dX0_exchange_7 : decode cX0_exchange 7 = .ok (.iload_n 1, 1) := q_dg23.2.1.1
theorem dX0_exchange_8 : decode cX0_exchange 8 = .ok (.iload_n 2, 1) := q_dg23.2.1.2
theorem dX0_exchange_9 : decode cX0_exchange 9 = .ok (.invokevirtual 135, 3) := q_dg23.2.2.1
theorem dX0_exchange_12 : decode cX0_exchange 12 = .ok (.iload_n 3, 1) := q_dg23.2.2.2.1
theorem dX0_exchange_13 : decode cX0_exchange 13 = .ok (.ireturn, 1) := q_dg23.2.2.2.2
theorem q_dg24 : ((((decode cX0_exchangeRom 0 = .ok (.iload_n 1, 1)) ∧ (decode cX0_exchangeRom 1 = .ok (.sipush 511, 3))) ∧ ((decode cX0_exchangeRom 4 = .ok (.iand, 1)) ∧ (decode cX0_exchangeRom 5 = .ok (.istore_n 3, 1)))) ∧ (((decode cX0_exchangeRom 6 = .ok (.aload_n 0, 1)) ∧ (decode cX0_exchangeRom 7 = .ok (.getfield 18, 3))) ∧ ((decode cX0_exchangeRom 10 = .ok (.iload_n 3, 1)) ∧ (decode cX0_exchangeRom 11 = .ok (.iaload, 1))))) ∧ ((((decode cX0_exchangeRom 12 = .ok (.istore 4, 2)) ∧ (decode cX0_exchangeRom 14 = .ok (.aload_n 0, 1))) ∧ ((decode cX0_exchangeRom 15 = .ok (.getfield 18, 3)) ∧ (decode cX0_exchangeRom 18 = .ok (.iload_n 3, 1)))) ∧ (((decode cX0_exchangeRom 19 = .ok (.iload_n 2, 1)) ∧ (decode cX0_exchangeRom 20 = .ok (.iastore, 1))) ∧ ((decode cX0_exchangeRom 21 = .ok (.iload 4, 2)) ∧ (decode cX0_exchangeRom 23 = .ok (.ireturn, 1))))) := by decide +kernel
theorem dX0_exchangeRom_0 : decode cX0_exchangeRom 0 = .ok (.iload_n 1, 1) := q_dg24.1.1.1.1
theorem dX0_exchangeRom_1 : decode cX0_exchangeRom 1 = .ok (.sipush 511, 3) := q_dg24.1.1.1.2
theorem dX0_exchangeRom_4 : decode cX0_exchangeRom 4 = .ok (.iand, 1) := q_dg24.1.1.2.1
theorem dX0_exchangeRom_5 : decode cX0_exchangeRom 5 = .ok (.istore_n 3, 1) := q_dg24.1.1.2.2
theorem dX0_exchangeRom_6 : decode cX0_exchangeRom 6 = .ok (.aload_n 0, 1) := q_dg24.1.2.1.1
theorem dX0_exchangeRom_7 : decode cX0_exchangeRom 7 = .ok (.getfield 18, 3) := q_dg24.1.2.1.2
theorem dX0_exchangeRom_10 : decode cX0_exchangeRom 10 = .ok (.iload_n 3, 1) := q_dg24.1.2.2.1
theorem dX0_exchangeRom_11 : decode cX0_exchangeRom 11 = .ok (.iaload, 1) := q_dg24.1.2.2.2
theorem dX0_exchangeRom_12 : decode cX0_exchangeRom 12 = .ok (.istore 4, 2) := q_dg24.2.1.1.1
theorem dX0_exchangeRom_14 : decode cX0_exchangeRom 14 = .ok (.aload_n 0, 1) := q_dg24.2.1.1.2
theorem dX0_exchangeRom_15 : decode cX0_exchangeRom 15 = .ok (.getfield 18, 3) := q_dg24.2.1.2.1
theorem dX0_exchangeRom_18 : decode cX0_exchangeRom 18 = .ok (.iload_n 3, 1) := q_dg24.2.1.2.2
theorem dX0_exchangeRom_19 : decode cX0_exchangeRom 19 = .ok (.iload_n 2, 1) := q_dg24.2.2.1.1
theorem dX0_exchangeRom_20 : decode cX0_exchangeRom 20 = .ok (.iastore, 1) := q_dg24.2.2.1.2
theorem dX0_exchangeRom_21 : decode cX0_exchangeRom 21 = .ok (.iload 4, 2) := q_dg24.2.2.2.1
theorem dX0_exchangeRom_23 : decode cX0_exchangeRom 23 = .ok (.ireturn, 1) := q_dg24.2.2.2.2
theorem q_dg25 : ((((decode cX0_exchangeCartridge 0 = .ok (.iload_n 1, 1)) ∧ (decode cX0_exchangeCartridge 1 = .ok (.sipush 2047, 3))) ∧ ((decode cX0_exchangeCartridge 4 = .ok (.iand, 1)) ∧ (decode cX0_exchangeCartridge 5 = .ok (.istore_n 3, 1)))) ∧ (((decode cX0_exchangeCartridge 6 = .ok (.aload_n 0, 1)) ∧ (decode cX0_exchangeCartridge 7 = .ok (.getfield 22, 3))) ∧ ((decode cX0_exchangeCartridge 10 = .ok (.iload_n 3, 1)) ∧ (decode cX0_exchangeCartridge 11 = .ok (.iaload, 1))))) ∧ ((((decode cX0_exchangeCartridge 12 = .ok (.istore 4, 2)) ∧ (decode cX0_exchangeCartridge 14 = .ok (.aload_n 0, 1))) ∧ ((decode cX0_exchangeCartridge 15 = .ok (.getfield 22, 3)) ∧ (decode cX0_exchangeCartridge 18 = .ok (.iload_n 3, 1)))) ∧ (((decode cX0_exchangeCartridge 19 = .ok (.iload_n 2, 1)) ∧ (decode cX0_exchangeCartridge 20 = .ok (.iastore, 1))) ∧ ((decode cX0_exchangeCartridge 21 = .ok (.iload 4, 2)) ∧ (decode cX0_exchangeCartridge 23 = .ok (.ireturn, 1))))) := by decide +kernel
theorem dX0_exchangeCartridge_0 : decode cX0_exchangeCartridge 0 = .ok (.iload_n 1, 1) := q_dg25.1.1.1.1
theorem dX0_exchangeCartridge_1 : decode cX0_exchangeCartridge 1 = .ok (.sipush 2047, 3) := q_dg25.1.1.1.2
theorem dX0_exchangeCartridge_4 : decode cX0_exchangeCartridge 4 = .ok (.iand, 1) := q_dg25.1.1.2.1
theorem dX0_exchangeCartridge_5 : decode cX0_exchangeCartridge 5 = .ok (.istore_n 3, 1) := q_dg25.1.1.2.2
theorem dX0_exchangeCartridge_6 : decode cX0_exchangeCartridge 6 = .ok (.aload_n 0, 1) := q_dg25.1.2.1.1
theorem dX0_exchangeCartridge_7 : decode cX0_exchangeCartridge 7 = .ok (.getfield 22, 3) := q_dg25.1.2.1.2
theorem dX0_exchangeCartridge_10 : decode cX0_exchangeCartridge 10 = .ok (.iload_n 3, 1) := q_dg25.1.2.2.1
theorem dX0_exchangeCartridge_11 : decode cX0_exchangeCartridge 11 = .ok (.iaload, 1) := q_dg25.1.2.2.2
theorem dX0_exchangeCartridge_12 : decode cX0_exchangeCartridge 12 = .ok (.istore 4, 2) := q_dg25.2.1.1.1
theorem dX0_exchangeCartridge_14 : decode cX0_exchangeCartridge 14 = .ok (.aload_n 0, 1) := q_dg25.2.1.1.2
theorem dX0_exchangeCartridge_15 : decode cX0_exchangeCartridge 15 = .ok (.getfield 22, 3) := q_dg25.2.1.2.1
theorem dX0_exchangeCartridge_18 : decode cX0_exchangeCartridge 18 = .ok (.iload_n 3, 1) := q_dg25.2.1.2.2
theorem dX0_exchangeCartridge_19 : decode cX0_exchangeCartridge 19 = .ok (.iload_n 2, 1) := q_dg25.2.2.1.1
theorem dX0_exchangeCartridge_20 : decode cX0_exchangeCartridge 20 = .ok (.iastore, 1) := q_dg25.2.2.1.2
theorem dX0_exchangeCartridge_21 : decode cX0_exchangeCartridge 21 = .ok (.iload 4, 2) := q_dg25.2.2.2.1
theorem dX0_exchangeCartridge_23 : decode cX0_exchangeCartridge 23 = .ok (.ireturn, 1) := q_dg25.2.2.2.2
theorem q_dg26 : ((((decode cX0_writeInstruction 0 = .ok (.iload_n 2, 1)) ∧ ((decode cX0_writeInstruction 1 = .ok (.invokestatic 138, 3)) ∧ (decode cX0_writeInstruction 4 = .ok (.istore 4, 2)))) ∧ ((decode cX0_writeInstruction 6 = .ok (.aload_n 0, 1)) ∧ ((decode cX0_writeInstruction 7 = .ok (.iload_n 1, 1)) ∧ (decode cX0_writeInstruction 8 = .ok (.iload_n 2, 1))))) ∧ (((decode cX0_writeInstruction 9 = .ok (.invokevirtual 135, 3)) ∧ ((decode cX0_writeInstruction 12 = .ok (.iload 4, 2)) ∧ (decode cX0_writeInstruction 14 = .ok (.iconst 1, 1)))) ∧ ((decode cX0_writeInstruction 15 = .ok (.if_icmp .le 19, 3)) ∧ ((decode cX0_writeInstruction 18 = .ok (.aload_n 0, 1)) ∧ (decode cX0_writeInstruction 19 = .ok (.iload_n 1, 1)))))) ∧ ((((decode cX0_writeInstruction 20 = .ok (.iconst 1, 1)) ∧ ((decode cX0_writeInstruction 21 = .ok (.iadd, 1)) ∧ (decode cX0_writeInstruction 22 = .ok (.sipush 4095, 3)))) ∧ ((decode cX0_writeInstruction 25 = .ok (.iand, 1)) ∧ ((decode cX0_writeInstruction 26 = .ok (.iload_n 3, 1)) ∧ (decode cX0_writeInstruction 27 = .ok (.sipush 255, 3))))) ∧ (((decode cX0_writeInstruction 30 = .ok (.iand, 1)) ∧ ((decode cX0_writeInstruction 31 = .ok (.invokevirtual 135, 3)) ∧ (decode cX0_writeInstruction 34 = .ok (.iload 4, 2)))) ∧ ((decode cX0_writeInstruction 36 = .ok (.iconst 2, 1)) ∧ ((decode cX0_writeInstruction 37 = .ok (.if_icmp .le 18, 3)) ∧ (decode cX0_writeInstruction 40 = .ok (.aload_n 0, 1)))))) := by decide +kernel
theorem dX0_writeInstruction_0 : decode cX0_writeInstruction 0 = .ok (.iload_n 2, 1) := q_dg26.1.1.1.1
theorem dX0_writeInstruction_1 : decode cX0_writeInstruction 1 = .ok (.invokestatic 138, 3) := q_dg26.1.1.1.2.1
theorem dX0_writeInstruction_4 : decode cX0_writeInstruction 4 = .ok (.istore 4, 2) := q_dg26.1.1.1.2.2
theorem dX0_writeInstruction_6 : decode cX0_writeInstruction 6 = .ok (.aload_n 0, 1) := q_dg26.1.1.2.1
theorem dX0_writeInstruction_7 : decode cX0_writeInstruction 7 = .ok (.iload_n 1, 1) := q_dg26.1.1.2.2.1
theorem dX0_writeInstruction_8 : decode cX0_writeInstruction 8 = .ok (.iload_n 2, 1) := q_dg26.1.1.2.2.2
theorem dX0_writeInstruction_9 : decode cX0_writeInstruction 9 = .ok (.invokevirtual 135, 3) := q_dg26.1.2.1.1
theorem dX0_writeInstruction_12 : decode cX0_writeInstruction 12 = .ok (.iload 4, 2) := q_dg26.1.2.1.2.1
theorem dX0_writeInstruction_14 : decode cX0_writeInstruction 14 = .ok (.iconst 1, 1) := q_dg26.1.2.1.2.2
theorem dX0_writeInstruction_15 : decode cX0_writeInstruction 15 = .ok (.if_icmp .le 19, 3) := q_dg26.1.2.2.1
theorem dX0_writeInstruction_18 : decode cX0_writeInstruction 18 = .ok (.aload_n 0, 1) := q_dg26.1.2.2.2.1
theorem dX0_writeInstruction_19 : decode cX0_writeInstruction 19 = .ok (.iload_n 1, 1) := q_dg26.1.2.2.2.2
theorem dX0_writeInstruction_20 : decode cX0_writeInstruction 20 = .ok (.iconst 1, 1) := q_dg26.2.1.1.1
theorem dX0_writeInstruction_21 : decode cX0_writeInstruction 21 = .ok (.iadd, 1) := q_dg26.2.1.1.2.1
theorem dX0_writeInstruction_22 : decode cX0_writeInstruction 22 = .ok (.sipush 4095, 3) := q_dg26.2.1.1.2.2
theorem dX0_writeInstruction_25 : decode cX0_writeInstruction 25 = .ok (.iand, 1) := q_dg26.2.1.2.1
theorem dX0_writeInstruction_26 : decode cX0_writeInstruction 26 = .ok (.iload_n 3, 1) := q_dg26.2.1.2.2.1
theorem dX0_writeInstruction_27 : decode cX0_writeInstruction 27 = .ok (.sipush 255, 3) := q_dg26.2.1.2.2.2
theorem dX0_writeInstruction_30 : decode cX0_writeInstruction 30 = .ok (.iand, 1) := q_dg26.2.2.1.1
theorem dX0_writeInstruction_31 : decode cX0_writeInstruction 31 = .ok (.invokevirtual 135, 3) := q_dg26.2.2.1.2.1
theorem dX0_writeInstruction_34 : decode cX0_writeInstruction 34 = .ok (.iload 4, 2) := q_dg26.2.2.1.2.2
theorem dX0_writeInstruction_36 : decode cX0_writeInstruction 36 = .ok (.iconst 2, 1) := q_dg26.2.2.2.1
theorem dX0_writeInstruction_37 : decode cX0_writeInstruction 37 = .ok (.if_icmp .le 18, 3) := q_dg26.2.2.2.2.1
theorem dX0_writeInstruction_40 : decode cX0_writeInstruction 40 = .ok (.aload_n 0, 1) := q_dg26.2.2.2.2.2
theorem q_dg27 : (((decode cX0_writeInstruction 41 = .ok (.iload_n 1, 1)) ∧ ((decode cX0_writeInstruction 42 = .ok (.iconst 2, 1)) ∧ (decode cX0_writeInstruction 43 = .ok (.iadd, 1)))) ∧ (((decode cX0_writeInstruction 44 = .ok (.sipush 4095, 3)) ∧ (decode cX0_writeInstruction 47 = .ok (.iand, 1))) ∧ ((decode cX0_writeInstruction 48 = .ok (.iload_n 3, 1)) ∧ (decode cX0_writeInstruction 49 = .ok (.bipush 8, 2))))) ∧ ((((decode cX0_writeInstruction 51 = .ok (.ishr, 1)) ∧ (decode cX0_writeInstruction 52 = .ok (.invokevirtual 135, 3))) ∧ ((decode cX0_writeInstruction 55 = .ok (.iload_n 1, 1)) ∧ (decode cX0_writeInstruction 56 = .ok (.iload 4, 2)))) ∧ (((decode cX0_writeInstruction 58 = .ok (.iadd, 1)) ∧ (decode cX0_writeInstruction 59 = .ok (.sipush 4095, 3))) ∧ ((decode cX0_writeInstruction 62 = .ok (.iand, 1)) ∧ (decode cX0_writeInstruction 63 = .ok (.ireturn, 1))))) := by decide +kernel
theorem dX0_writeInstruction_41 : decode cX0_writeInstruction 41 = .ok (.iload_n 1, 1) := q_dg27.1.1.1
theorem dX0_writeInstruction_42 : decode cX0_writeInstruction 42 = .ok (.iconst 2, 1) := q_dg27.1.1.2.1
theorem dX0_writeInstruction_43 : decode cX0_writeInstruction 43 = .ok (.iadd, 1) := q_dg27.1.1.2.2
theorem dX0_writeInstruction_44 : decode cX0_writeInstruction 44 = .ok (.sipush 4095, 3) := q_dg27.1.2.1.1
theorem dX0_writeInstruction_47 : decode cX0_writeInstruction 47 = .ok (.iand, 1) := q_dg27.1.2.1.2
theorem dX0_writeInstruction_48 : decode cX0_writeInstruction 48 = .ok (.iload_n 3, 1) := q_dg27.1.2.2.1
theorem dX0_writeInstruction_49 : decode cX0_writeInstruction 49 = .ok (.bipush 8, 2) := q_dg27.1.2.2.2
theorem dX0_writeInstruction_51 : decode cX0_writeInstruction 51 = .ok (.ishr, 1) := q_dg27.2.1.1.1
theorem dX0_writeInstruction_52 : decode cX0_writeInstruction 52 = .ok (.invokevirtual 135, 3) := q_dg27.2.1.1.2
theorem dX0_writeInstruction_55 : decode cX0_writeInstruction 55 = .ok (.iload_n 1, 1) := q_dg27.2.1.2.1
theorem dX0_writeInstruction_56 : decode cX0_writeInstruction 56 = .ok (.iload 4, 2) := q_dg27.2.1.2.2
theorem dX0_writeInstruction_58 : decode cX0_writeInstruction 58 = .ok (.iadd, 1) := q_dg27.2.2.1.1
theorem dX0_writeInstruction_59 : decode cX0_writeInstruction 59 = .ok (.sipush 4095, 3) := q_dg27.2.2.1.2
theorem dX0_writeInstruction_62 : decode cX0_writeInstruction 62 = .ok (.iand, 1) := q_dg27.2.2.2.1
theorem dX0_writeInstruction_63 : decode cX0_writeInstruction 63 = .ok (.ireturn, 1) := q_dg27.2.2.2.2
theorem q_dg28 : ((((decode cX0_meetLine 0 = .ok (.aload_n 0, 1)) ∧ (decode cX0_meetLine 1 = .ok (.invokevirtual 143, 3))) ∧ ((decode cX0_meetLine 4 = .ok (.ifCond .ne 37, 3)) ∧ ((decode cX0_meetLine 7 = .ok (.aload_n 0, 1)) ∧ (decode cX0_meetLine 8 = .ok (.invokevirtual 147, 3))))) ∧ (((decode cX0_meetLine 11 = .ok (.bipush 24, 2)) ∧ ((decode cX0_meetLine 13 = .ok (.idiv, 1)) ∧ (decode cX0_meetLine 14 = .ok (.aload_n 0, 1)))) ∧ ((decode cX0_meetLine 15 = .ok (.getfield 12, 3)) ∧ ((decode cX0_meetLine 18 = .ok (.getfield 81, 3)) ∧ (decode cX0_meetLine 21 = .ok (.bipush 9, 2)))))) ∧ ((((decode cX0_meetLine 23 = .ok (.iaload, 1)) ∧ ((decode cX0_meetLine 24 = .ok (.if_icmp .ne 17, 3)) ∧ (decode cX0_meetLine 27 = .ok (.aload_n 0, 1)))) ∧ ((decode cX0_meetLine 28 = .ok (.getfield 12, 3)) ∧ ((decode cX0_meetLine 31 = .ok (.getfield 81, 3)) ∧ (decode cX0_meetLine 34 = .ok (.bipush 10, 2))))) ∧ (((decode cX0_meetLine 36 = .ok (.dup2, 1)) ∧ ((decode cX0_meetLine 37 = .ok (.iaload, 1)) ∧ (decode cX0_meetLine 38 = .ok (.iconst 1, 1)))) ∧ ((decode cX0_meetLine 39 = .ok (.ior, 1)) ∧ ((decode cX0_meetLine 40 = .ok (.iastore, 1)) ∧ (decode cX0_meetLine 41 = .ok (.return_, 1)))))) := by decide +kernel
theorem dX0_meetLine_0 : decode cX0_meetLine 0 = .ok (.aload_n 0, 1) := q_dg28.1.1.1.1
theorem dX0_meetLine_1 : decode cX0_meetLine 1 = .ok (.invokevirtual 143, 3) := q_dg28.1.1.1.2
theorem dX0_meetLine_4 : decode cX0_meetLine 4 = .ok (.ifCond .ne 37, 3) := q_dg28.1.1.2.1
theorem dX0_meetLine_7 : decode cX0_meetLine 7 = .ok (.aload_n 0, 1) := q_dg28.1.1.2.2.1
theorem dX0_meetLine_8 : decode cX0_meetLine 8 = .ok (.invokevirtual 147, 3) := q_dg28.1.1.2.2.2
theorem dX0_meetLine_11 : decode cX0_meetLine 11 = .ok (.bipush 24, 2) := q_dg28.1.2.1.1
theorem dX0_meetLine_13 : decode cX0_meetLine 13 = .ok (.idiv, 1) := q_dg28.1.2.1.2.1
theorem dX0_meetLine_14 : decode cX0_meetLine 14 = .ok (.aload_n 0, 1) := q_dg28.1.2.1.2.2
theorem dX0_meetLine_15 : decode cX0_meetLine 15 = .ok (.getfield 12, 3) := q_dg28.1.2.2.1
theorem dX0_meetLine_18 : decode cX0_meetLine 18 = .ok (.getfield 81, 3) := q_dg28.1.2.2.2.1
theorem dX0_meetLine_21 : decode cX0_meetLine 21 = .ok (.bipush 9, 2) := q_dg28.1.2.2.2.2
theorem dX0_meetLine_23 : decode cX0_meetLine 23 = .ok (.iaload, 1) := q_dg28.2.1.1.1
theorem dX0_meetLine_24 : decode cX0_meetLine 24 = .ok (.if_icmp .ne 17, 3) := q_dg28.2.1.1.2.1
theorem dX0_meetLine_27 : decode cX0_meetLine 27 = .ok (.aload_n 0, 1) := q_dg28.2.1.1.2.2
theorem dX0_meetLine_28 : decode cX0_meetLine 28 = .ok (.getfield 12, 3) := q_dg28.2.1.2.1
theorem dX0_meetLine_31 : decode cX0_meetLine 31 = .ok (.getfield 81, 3) := q_dg28.2.1.2.2.1
theorem dX0_meetLine_34 : decode cX0_meetLine 34 = .ok (.bipush 10, 2) := q_dg28.2.1.2.2.2
theorem dX0_meetLine_36 : decode cX0_meetLine 36 = .ok (.dup2, 1) := q_dg28.2.2.1.1
theorem dX0_meetLine_37 : decode cX0_meetLine 37 = .ok (.iaload, 1) := q_dg28.2.2.1.2.1
theorem dX0_meetLine_38 : decode cX0_meetLine 38 = .ok (.iconst 1, 1) := q_dg28.2.2.1.2.2
theorem dX0_meetLine_39 : decode cX0_meetLine 39 = .ok (.ior, 1) := q_dg28.2.2.2.1
theorem dX0_meetLine_40 : decode cX0_meetLine 40 = .ok (.iastore, 1) := q_dg28.2.2.2.2.1
theorem dX0_meetLine_41 : decode cX0_meetLine 41 = .ok (.return_, 1) := q_dg28.2.2.2.2.2
theorem q_dg29 : (((decode cX0_isPictureNext 0 = .ok (.aload_n 0, 1)) ∧ ((decode cX0_isPictureNext 1 = .ok (.getfield 12, 3)) ∧ (decode cX0_isPictureNext 4 = .ok (.aload_n 0, 1)))) ∧ ((decode cX0_isPictureNext 5 = .ok (.invokevirtual 147, 3)) ∧ ((decode cX0_isPictureNext 8 = .ok (.bipush 24, 2)) ∧ (decode cX0_isPictureNext 10 = .ok (.idiv, 1))))) ∧ (((decode cX0_isPictureNext 11 = .ok (.iconst 4, 1)) ∧ ((decode cX0_isPictureNext 12 = .ok (.isub, 1)) ∧ (decode cX0_isPictureNext 13 = .ok (.aload_n 0, 1)))) ∧ ((decode cX0_isPictureNext 14 = .ok (.invokevirtual 143, 3)) ∧ ((decode cX0_isPictureNext 17 = .ok (.invokevirtual 150, 3)) ∧ (decode cX0_isPictureNext 20 = .ok (.ireturn, 1))))) := by decide +kernel
theorem dX0_isPictureNext_0 : decode cX0_isPictureNext 0 = .ok (.aload_n 0, 1) := q_dg29.1.1.1
theorem dX0_isPictureNext_1 : decode cX0_isPictureNext 1 = .ok (.getfield 12, 3) := q_dg29.1.1.2.1
theorem dX0_isPictureNext_4 : decode cX0_isPictureNext 4 = .ok (.aload_n 0, 1) := q_dg29.1.1.2.2
theorem dX0_isPictureNext_5 : decode cX0_isPictureNext 5 = .ok (.invokevirtual 147, 3) := q_dg29.1.2.1
theorem dX0_isPictureNext_8 : decode cX0_isPictureNext 8 = .ok (.bipush 24, 2) := q_dg29.1.2.2.1
theorem dX0_isPictureNext_10 : decode cX0_isPictureNext 10 = .ok (.idiv, 1) := q_dg29.1.2.2.2
theorem dX0_isPictureNext_11 : decode cX0_isPictureNext 11 = .ok (.iconst 4, 1) := q_dg29.2.1.1
theorem dX0_isPictureNext_12 : decode cX0_isPictureNext 12 = .ok (.isub, 1) := q_dg29.2.1.2.1
theorem dX0_isPictureNext_13 : decode cX0_isPictureNext 13 = .ok (.aload_n 0, 1) := q_dg29.2.1.2.2
theorem dX0_isPictureNext_14 : decode cX0_isPictureNext 14 = .ok (.invokevirtual 143, 3) := q_dg29.2.2.1
theorem dX0_isPictureNext_17 : decode cX0_isPictureNext 17 = .ok (.invokevirtual 150, 3) := q_dg29.2.2.2.1
theorem dX0_isPictureNext_20 : decode cX0_isPictureNext 20 = .ok (.ireturn, 1) := q_dg29.2.2.2.2
theorem q_dg30 : ((((decode cX0_draw 0 = .ok (.aload_n 0, 1)) ∧ ((decode cX0_draw 1 = .ok (.invokevirtual 147, 3)) ∧ (decode cX0_draw 4 = .ok (.bipush 24, 2)))) ∧ ((decode cX0_draw 6 = .ok (.idiv, 1)) ∧ ((decode cX0_draw 7 = .ok (.iconst 4, 1)) ∧ (decode cX0_draw 8 = .ok (.isub, 1))))) ∧ (((decode cX0_draw 9 = .ok (.istore_n 2, 1)) ∧ ((decode cX0_draw 10 = .ok (.aload_n 0, 1)) ∧ (decode cX0_draw 11 = .ok (.invokevirtual 143, 3)))) ∧ ((decode cX0_draw 14 = .ok (.istore_n 3, 1)) ∧ ((decode cX0_draw 15 = .ok (.iload_n 2, 1)) ∧ (decode cX0_draw 16 = .ok (.ifCond .lt 105, 3)))))) ∧ ((((decode cX0_draw 19 = .ok (.iload_n 2, 1)) ∧ ((decode cX0_draw 20 = .ok (.bipush 32, 2)) ∧ (decode cX0_draw 22 = .ok (.if_icmp .ge 99, 3)))) ∧ ((decode cX0_draw 25 = .ok (.iload_n 3, 1)) ∧ ((decode cX0_draw 26 = .ok (.iconst 4, 1)) ∧ (decode cX0_draw 27 = .ok (.if_icmp .lt 94, 3))))) ∧ (((decode cX0_draw 30 = .ok (.iload_n 3, 1)) ∧ ((decode cX0_draw 31 = .ok (.bipush 19, 2)) ∧ (decode cX0_draw 33 = .ok (.if_icmp .gt 88, 3)))) ∧ ((decode cX0_draw 36 = .ok (.iconst 2, 1)) ∧ ((decode cX0_draw 37 = .ok (.iload_n 3, 1)) ∧ (decode cX0_draw 38 = .ok (.iconst 4, 1)))))) := by decide +kernel
theorem dX0_draw_0 : decode cX0_draw 0 = .ok (.aload_n 0, 1) := q_dg30.1.1.1.1
theorem dX0_draw_1 : decode cX0_draw 1 = .ok (.invokevirtual 147, 3) := q_dg30.1.1.1.2.1
theorem dX0_draw_4 : decode cX0_draw 4 = .ok (.bipush 24, 2) := q_dg30.1.1.1.2.2
theorem dX0_draw_6 : decode cX0_draw 6 = .ok (.idiv, 1) := q_dg30.1.1.2.1
theorem dX0_draw_7 : decode cX0_draw 7 = .ok (.iconst 4, 1) := q_dg30.1.1.2.2.1
theorem dX0_draw_8 : decode cX0_draw 8 = .ok (.isub, 1) := q_dg30.1.1.2.2.2
theorem dX0_draw_9 : decode cX0_draw 9 = .ok (.istore_n 2, 1) := q_dg30.1.2.1.1
theorem dX0_draw_10 : decode cX0_draw 10 = .ok (.aload_n 0, 1) := q_dg30.1.2.1.2.1
theorem dX0_draw_11 : decode cX0_draw 11 = .ok (.invokevirtual 143, 3) := q_dg30.1.2.1.2.2
theorem dX0_draw_14 : decode cX0_draw 14 = .ok (.istore_n 3, 1) := q_dg30.1.2.2.1
theorem dX0_draw_15 : decode cX0_draw 15 = .ok (.iload_n 2, 1) := q_dg30.1.2.2.2.1
theorem dX0_draw_16 : decode cX0_draw 16 = .ok (.ifCond .lt 105, 3) := q_dg30.1.2.2.2.2
theorem dX0_draw_19 : decode cX0_draw 19 = .ok (.iload_n 2, 1) := q_dg30.2.1.1.1
theorem dX0_draw_20 : decode cX0_draw 20 = .ok (.bipush 32, 2) := q_dg30.2.1.1.2.1
theorem dX0_draw_22 : decode cX0_draw 22 = .ok (.if_icmp .ge 99, 3) := q_dg30.2.1.1.2.2
theorem dX0_draw_25 : decode cX0_draw 25 = .ok (.iload_n 3, 1) := q_dg30.2.1.2.1
theorem dX0_draw_26 : decode cX0_draw 26 = .ok (.iconst 4, 1) := q_dg30.2.1.2.2.1
theorem dX0_draw_27 : decode cX0_draw 27 = .ok (.if_icmp .lt 94, 3) := q_dg30.2.1.2.2.2
theorem dX0_draw_30 : decode cX0_draw 30 = .ok (.iload_n 3, 1) := q_dg30.2.2.1.1
theorem dX0_draw_31 : decode cX0_draw 31 = .ok (.bipush 19, 2) := q_dg30.2.2.1.2.1
theorem dX0_draw_33 : decode cX0_draw 33 = .ok (.if_icmp .gt 88, 3) := q_dg30.2.2.1.2.2
theorem dX0_draw_36 : decode cX0_draw 36 = .ok (.iconst 2, 1) := q_dg30.2.2.2.1
theorem dX0_draw_37 : decode cX0_draw 37 = .ok (.iload_n 3, 1) := q_dg30.2.2.2.2.1
theorem dX0_draw_38 : decode cX0_draw 38 = .ok (.iconst 4, 1) := q_dg30.2.2.2.2.2
theorem q_dg31 : ((((decode cX0_draw 39 = .ok (.isub, 1)) ∧ ((decode cX0_draw 40 = .ok (.imul, 1)) ∧ (decode cX0_draw 41 = .ok (.istore 4, 2)))) ∧ ((decode cX0_draw 43 = .ok (.iload 4, 2)) ∧ ((decode cX0_draw 45 = .ok (.istore 5, 2)) ∧ (decode cX0_draw 47 = .ok (.iload 5, 2))))) ∧ (((decode cX0_draw 49 = .ok (.iload 4, 2)) ∧ ((decode cX0_draw 51 = .ok (.iconst 1, 1)) ∧ (decode cX0_draw 52 = .ok (.iadd, 1)))) ∧ ((decode cX0_draw 53 = .ok (.if_icmp .gt 68, 3)) ∧ ((decode cX0_draw 56 = .ok (.aload_n 0, 1)) ∧ (decode cX0_draw 57 = .ok (.getfield 12, 3)))))) ∧ ((((decode cX0_draw 60 = .ok (.iload 5, 2)) ∧ ((decode cX0_draw 62 = .ok (.iload_n 2, 1)) ∧ (decode cX0_draw 63 = .ok (.invokevirtual 154, 3)))) ∧ ((decode cX0_draw 66 = .ok (.istore 6, 2)) ∧ ((decode cX0_draw 68 = .ok (.aload_n 0, 1)) ∧ (decode cX0_draw 69 = .ok (.getfield 12, 3))))) ∧ (((decode cX0_draw 72 = .ok (.iload 5, 2)) ∧ ((decode cX0_draw 74 = .ok (.iload_n 2, 1)) ∧ (decode cX0_draw 75 = .ok (.invokevirtual 157, 3)))) ∧ ((decode cX0_draw 78 = .ok (.istore 7, 2)) ∧ ((decode cX0_draw 80 = .ok (.aload_n 0, 1)) ∧ (decode cX0_draw 81 = .ok (.getfield 12, 3)))))) := by decide +kernel
theorem dX0_draw_39 : decode cX0_draw 39 = .ok (.isub, 1) := q_dg31.1.1.1.1
theorem dX0_draw_40 : decode cX0_draw 40 = .ok (.imul, 1) := q_dg31.1.1.1.2.1
theorem dX0_draw_41 : decode cX0_draw 41 = .ok (.istore 4, 2) := q_dg31.1.1.1.2.2
theorem dX0_draw_43 : decode cX0_draw 43 = .ok (.iload 4, 2) := q_dg31.1.1.2.1
theorem dX0_draw_45 : decode cX0_draw 45 = .ok (.istore 5, 2) := q_dg31.1.1.2.2.1
theorem dX0_draw_47 : decode cX0_draw 47 = .ok (.iload 5, 2) := q_dg31.1.1.2.2.2
theorem dX0_draw_49 : decode cX0_draw 49 = .ok (.iload 4, 2) := q_dg31.1.2.1.1
theorem dX0_draw_51 : decode cX0_draw 51 = .ok (.iconst 1, 1) := q_dg31.1.2.1.2.1
theorem dX0_draw_52 : decode cX0_draw 52 = .ok (.iadd, 1) := q_dg31.1.2.1.2.2
theorem dX0_draw_53 : decode cX0_draw 53 = .ok (.if_icmp .gt 68, 3) := q_dg31.1.2.2.1
theorem dX0_draw_56 : decode cX0_draw 56 = .ok (.aload_n 0, 1) := q_dg31.1.2.2.2.1
theorem dX0_draw_57 : decode cX0_draw 57 = .ok (.getfield 12, 3) := q_dg31.1.2.2.2.2
theorem dX0_draw_60 : decode cX0_draw 60 = .ok (.iload 5, 2) := q_dg31.2.1.1.1
theorem dX0_draw_62 : decode cX0_draw 62 = .ok (.iload_n 2, 1) := q_dg31.2.1.1.2.1
theorem dX0_draw_63 : decode cX0_draw 63 = .ok (.invokevirtual 154, 3) := q_dg31.2.1.1.2.2
theorem dX0_draw_66 : decode cX0_draw 66 = .ok (.istore 6, 2) := q_dg31.2.1.2.1
theorem dX0_draw_68 : decode cX0_draw 68 = .ok (.aload_n 0, 1) := q_dg31.2.1.2.2.1
theorem dX0_draw_69 : decode cX0_draw 69 = .ok (.getfield 12, 3) := q_dg31.2.1.2.2.2
theorem dX0_draw_72 : decode cX0_draw 72 = .ok (.iload 5, 2) := q_dg31.2.2.1.1
theorem dX0_draw_74 : decode cX0_draw 74 = .ok (.iload_n 2, 1) := q_dg31.2.2.1.2.1
theorem dX0_draw_75 : decode cX0_draw 75 = .ok (.invokevirtual 157, 3) := q_dg31.2.2.1.2.2
theorem dX0_draw_78 : decode cX0_draw 78 = .ok (.istore 7, 2) := q_dg31.2.2.2.1
theorem dX0_draw_80 : decode cX0_draw 80 = .ok (.aload_n 0, 1) := q_dg31.2.2.2.2.1
theorem dX0_draw_81 : decode cX0_draw 81 = .ok (.getfield 12, 3) := q_dg31.2.2.2.2.2
theorem q_dg32 : ((((decode cX0_draw 84 = .ok (.iload 6, 2)) ∧ ((decode cX0_draw 86 = .ok (.iload 7, 2)) ∧ (decode cX0_draw 88 = .ok (.invokevirtual 160, 3)))) ∧ ((decode cX0_draw 91 = .ok (.aload_n 1, 1)) ∧ ((decode cX0_draw 92 = .ok (.bipush 32, 2)) ∧ (decode cX0_draw 94 = .ok (.iload_n 2, 1))))) ∧ (((decode cX0_draw 95 = .ok (.imul, 1)) ∧ ((decode cX0_draw 96 = .ok (.iload 5, 2)) ∧ (decode cX0_draw 98 = .ok (.iadd, 1)))) ∧ ((decode cX0_draw 99 = .ok (.sipush 1023, 3)) ∧ ((decode cX0_draw 102 = .ok (.iand, 1)) ∧ (decode cX0_draw 103 = .ok (.aload_n 0, 1)))))) ∧ ((((decode cX0_draw 104 = .ok (.getfield 12, 3)) ∧ ((decode cX0_draw 107 = .ok (.iload 6, 2)) ∧ (decode cX0_draw 109 = .ok (.iload 7, 2)))) ∧ ((decode cX0_draw 111 = .ok (.invokevirtual 163, 3)) ∧ ((decode cX0_draw 114 = .ok (.iastore, 1)) ∧ (decode cX0_draw 115 = .ok (.iinc 5 1, 3))))) ∧ (((decode cX0_draw 118 = .ok (.goto (-71), 3)) ∧ ((decode cX0_draw 121 = .ok (.aload_n 0, 1)) ∧ (decode cX0_draw 122 = .ok (.invokevirtual 119, 3)))) ∧ ((decode cX0_draw 125 = .ok (.dup, 1)) ∧ ((decode cX0_draw 126 = .ok (.getfield 166, 3)) ∧ (decode cX0_draw 129 = .ok (.iconst 1, 1)))))) := by decide +kernel
theorem dX0_draw_84 : decode cX0_draw 84 = .ok (.iload 6, 2) := q_dg32.1.1.1.1
theorem dX0_draw_86 : decode cX0_draw 86 = .ok (.iload 7, 2) := q_dg32.1.1.1.2.1
theorem dX0_draw_88 : decode cX0_draw 88 = .ok (.invokevirtual 160, 3) := q_dg32.1.1.1.2.2
theorem dX0_draw_91 : decode cX0_draw 91 = .ok (.aload_n 1, 1) := q_dg32.1.1.2.1
theorem dX0_draw_92 : decode cX0_draw 92 = .ok (.bipush 32, 2) := q_dg32.1.1.2.2.1
theorem dX0_draw_94 : decode cX0_draw 94 = .ok (.iload_n 2, 1) := q_dg32.1.1.2.2.2
theorem dX0_draw_95 : decode cX0_draw 95 = .ok (.imul, 1) := q_dg32.1.2.1.1
theorem dX0_draw_96 : decode cX0_draw 96 = .ok (.iload 5, 2) := q_dg32.1.2.1.2.1
theorem dX0_draw_98 : decode cX0_draw 98 = .ok (.iadd, 1) := q_dg32.1.2.1.2.2
theorem dX0_draw_99 : decode cX0_draw 99 = .ok (.sipush 1023, 3) := q_dg32.1.2.2.1
theorem dX0_draw_102 : decode cX0_draw 102 = .ok (.iand, 1) := q_dg32.1.2.2.2.1
theorem dX0_draw_103 : decode cX0_draw 103 = .ok (.aload_n 0, 1) := q_dg32.1.2.2.2.2
theorem dX0_draw_104 : decode cX0_draw 104 = .ok (.getfield 12, 3) := q_dg32.2.1.1.1
theorem dX0_draw_107 : decode cX0_draw 107 = .ok (.iload 6, 2) := q_dg32.2.1.1.2.1
theorem dX0_draw_109 : decode cX0_draw 109 = .ok (.iload 7, 2) := q_dg32.2.1.1.2.2
theorem dX0_draw_111 : decode cX0_draw 111 = .ok (.invokevirtual 163, 3) := q_dg32.2.1.2.1
theorem dX0_draw_114 : decode cX0_draw 114 = .ok (.iastore, 1) := q_dg32.2.1.2.2.1
theorem dX0_draw_115 : decode cX0_draw 115 = .ok (.iinc 5 1, 3) := q_dg32.2.1.2.2.2
theorem dX0_draw_118 : decode cX0_draw 118 = .ok (.goto (-71), 3) := q_dg32.2.2.1.1
theorem dX0_draw_121 : decode cX0_draw 121 = .ok (.aload_n 0, 1) := q_dg32.2.2.1.2.1
theorem dX0_draw_122 : decode cX0_draw 122 = .ok (.invokevirtual 119, 3) := q_dg32.2.2.1.2.2
theorem dX0_draw_125 : decode cX0_draw 125 = .ok (.dup, 1) := q_dg32.2.2.2.1
theorem dX0_draw_126 : decode cX0_draw 126 = .ok (.getfield 166, 3) := q_dg32.2.2.2.2.1
theorem dX0_draw_129 : decode cX0_draw 129 = .ok (.iconst 1, 1) := q_dg32.2.2.2.2.2
theorem q_dg33 : (decode cX0_draw 130 = .ok (.iadd, 1)) ∧ ((decode cX0_draw 131 = .ok (.putfield 166, 3)) ∧ (decode cX0_draw 134 = .ok (.return_, 1))) := by decide +kernel
theorem dX0_draw_130 : decode cX0_draw 130 = .ok (.iadd, 1) := q_dg33.1
theorem dX0_draw_131 : decode cX0_draw 131 = .ok (.putfield 166, 3) := q_dg33.2.1
theorem dX0_draw_134 : decode cX0_draw 134 = .ok (.return_, 1) := q_dg33.2.2
theorem q_dg34 : ((((decode cX0_countTimers 0 = .ok (.aload_n 0, 1)) ∧ ((decode cX0_countTimers 1 = .ok (.getfield 12, 3)) ∧ (decode cX0_countTimers 4 = .ok (.getfield 81, 3)))) ∧ ((decode cX0_countTimers 7 = .ok (.bipush 16, 2)) ∧ ((decode cX0_countTimers 9 = .ok (.iaload, 1)) ∧ (decode cX0_countTimers 10 = .ok (.istore_n 1, 1))))) ∧ (((decode cX0_countTimers 11 = .ok (.iconst 0, 1)) ∧ ((decode cX0_countTimers 12 = .ok (.istore_n 2, 1)) ∧ (decode cX0_countTimers 13 = .ok (.iload_n 1, 1)))) ∧ ((decode cX0_countTimers 14 = .ok (.iconst 1, 1)) ∧ ((decode cX0_countTimers 15 = .ok (.iand, 1)) ∧ (decode cX0_countTimers 16 = .ok (.iconst 1, 1)))))) ∧ ((((decode cX0_countTimers 17 = .ok (.if_icmp .ne 9, 3)) ∧ ((decode cX0_countTimers 20 = .ok (.aload_n 0, 1)) ∧ (decode cX0_countTimers 21 = .ok (.iconst 0, 1)))) ∧ ((decode cX0_countTimers 22 = .ok (.invokevirtual 169, 3)) ∧ ((decode cX0_countTimers 25 = .ok (.istore_n 2, 1)) ∧ (decode cX0_countTimers 26 = .ok (.iload_n 1, 1))))) ∧ (((decode cX0_countTimers 27 = .ok (.iconst 2, 1)) ∧ ((decode cX0_countTimers 28 = .ok (.iand, 1)) ∧ (decode cX0_countTimers 29 = .ok (.iconst 2, 1)))) ∧ ((decode cX0_countTimers 30 = .ok (.if_icmp .ne 19, 3)) ∧ ((decode cX0_countTimers 33 = .ok (.iload_n 1, 1)) ∧ (decode cX0_countTimers 34 = .ok (.iconst 4, 1)))))) := by decide +kernel
theorem dX0_countTimers_0 : decode cX0_countTimers 0 = .ok (.aload_n 0, 1) := q_dg34.1.1.1.1
theorem dX0_countTimers_1 : decode cX0_countTimers 1 = .ok (.getfield 12, 3) := q_dg34.1.1.1.2.1
theorem dX0_countTimers_4 : decode cX0_countTimers 4 = .ok (.getfield 81, 3) := q_dg34.1.1.1.2.2
theorem dX0_countTimers_7 : decode cX0_countTimers 7 = .ok (.bipush 16, 2) := q_dg34.1.1.2.1
theorem dX0_countTimers_9 : decode cX0_countTimers 9 = .ok (.iaload, 1) := q_dg34.1.1.2.2.1
theorem dX0_countTimers_10 : decode cX0_countTimers 10 = .ok (.istore_n 1, 1) := q_dg34.1.1.2.2.2
theorem dX0_countTimers_11 : decode cX0_countTimers 11 = .ok (.iconst 0, 1) := q_dg34.1.2.1.1
theorem dX0_countTimers_12 : decode cX0_countTimers 12 = .ok (.istore_n 2, 1) := q_dg34.1.2.1.2.1
theorem dX0_countTimers_13 : decode cX0_countTimers 13 = .ok (.iload_n 1, 1) := q_dg34.1.2.1.2.2
theorem dX0_countTimers_14 : decode cX0_countTimers 14 = .ok (.iconst 1, 1) := q_dg34.1.2.2.1
theorem dX0_countTimers_15 : decode cX0_countTimers 15 = .ok (.iand, 1) := q_dg34.1.2.2.2.1
theorem dX0_countTimers_16 : decode cX0_countTimers 16 = .ok (.iconst 1, 1) := q_dg34.1.2.2.2.2
theorem dX0_countTimers_17 : decode cX0_countTimers 17 = .ok (.if_icmp .ne 9, 3) := q_dg34.2.1.1.1
theorem dX0_countTimers_20 : decode cX0_countTimers 20 = .ok (.aload_n 0, 1) := q_dg34.2.1.1.2.1
theorem dX0_countTimers_21 : decode cX0_countTimers 21 = .ok (.iconst 0, 1) := q_dg34.2.1.1.2.2
theorem dX0_countTimers_22 : decode cX0_countTimers 22 = .ok (.invokevirtual 169, 3) := q_dg34.2.1.2.1
theorem dX0_countTimers_25 : decode cX0_countTimers 25 = .ok (.istore_n 2, 1) := q_dg34.2.1.2.2.1
theorem dX0_countTimers_26 : decode cX0_countTimers 26 = .ok (.iload_n 1, 1) := q_dg34.2.1.2.2.2
theorem dX0_countTimers_27 : decode cX0_countTimers 27 = .ok (.iconst 2, 1) := q_dg34.2.2.1.1
theorem dX0_countTimers_28 : decode cX0_countTimers 28 = .ok (.iand, 1) := q_dg34.2.2.1.2.1
theorem dX0_countTimers_29 : decode cX0_countTimers 29 = .ok (.iconst 2, 1) := q_dg34.2.2.1.2.2
theorem dX0_countTimers_30 : decode cX0_countTimers 30 = .ok (.if_icmp .ne 19, 3) := q_dg34.2.2.2.1
theorem dX0_countTimers_33 : decode cX0_countTimers 33 = .ok (.iload_n 1, 1) := q_dg34.2.2.2.2.1
theorem dX0_countTimers_34 : decode cX0_countTimers 34 = .ok (.iconst 4, 1) := q_dg34.2.2.2.2.2
theorem q_dg35 : (((decode cX0_countTimers 35 = .ok (.iand, 1)) ∧ (decode cX0_countTimers 36 = .ok (.ifCond .eq 7, 3))) ∧ ((decode cX0_countTimers 39 = .ok (.iload_n 2, 1)) ∧ (decode cX0_countTimers 40 = .ok (.ifCond .eq 9, 3)))) ∧ (((decode cX0_countTimers 43 = .ok (.aload_n 0, 1)) ∧ (decode cX0_countTimers 44 = .ok (.iconst 1, 1))) ∧ ((decode cX0_countTimers 45 = .ok (.invokevirtual 169, 3)) ∧ ((decode cX0_countTimers 48 = .ok (.pop, 1)) ∧ (decode cX0_countTimers 49 = .ok (.return_, 1))))) := by decide +kernel
theorem dX0_countTimers_35 : decode cX0_countTimers 35 = .ok (.iand, 1) := q_dg35.1.1.1
theorem dX0_countTimers_36 : decode cX0_countTimers 36 = .ok (.ifCond .eq 7, 3) := q_dg35.1.1.2
theorem dX0_countTimers_39 : decode cX0_countTimers 39 = .ok (.iload_n 2, 1) := q_dg35.1.2.1
theorem dX0_countTimers_40 : decode cX0_countTimers 40 = .ok (.ifCond .eq 9, 3) := q_dg35.1.2.2
theorem dX0_countTimers_43 : decode cX0_countTimers 43 = .ok (.aload_n 0, 1) := q_dg35.2.1.1
theorem dX0_countTimers_44 : decode cX0_countTimers 44 = .ok (.iconst 1, 1) := q_dg35.2.1.2
theorem dX0_countTimers_45 : decode cX0_countTimers 45 = .ok (.invokevirtual 169, 3) := q_dg35.2.2.1
theorem dX0_countTimers_48 : decode cX0_countTimers 48 = .ok (.pop, 1) := q_dg35.2.2.2.1
theorem dX0_countTimers_49 : decode cX0_countTimers 49 = .ok (.return_, 1) := q_dg35.2.2.2.2
theorem q_dg36 : ((((decode cX0_countDown 0 = .ok (.iload_n 1, 1)) ∧ ((decode cX0_countDown 1 = .ok (.iconst 1, 1)) ∧ (decode cX0_countDown 2 = .ok (.iand, 1)))) ∧ ((decode cX0_countDown 3 = .ok (.istore_n 2, 1)) ∧ ((decode cX0_countDown 4 = .ok (.aload_n 0, 1)) ∧ (decode cX0_countDown 5 = .ok (.getfield 25, 3))))) ∧ (((decode cX0_countDown 8 = .ok (.iload_n 2, 1)) ∧ ((decode cX0_countDown 9 = .ok (.iaload, 1)) ∧ (decode cX0_countDown 10 = .ok (.ifCond .le 15, 3)))) ∧ ((decode cX0_countDown 13 = .ok (.aload_n 0, 1)) ∧ ((decode cX0_countDown 14 = .ok (.getfield 25, 3)) ∧ (decode cX0_countDown 17 = .ok (.iload_n 2, 1)))))) ∧ ((((decode cX0_countDown 18 = .ok (.dup2, 1)) ∧ ((decode cX0_countDown 19 = .ok (.iaload, 1)) ∧ (decode cX0_countDown 20 = .ok (.iconst 1, 1)))) ∧ ((decode cX0_countDown 21 = .ok (.isub, 1)) ∧ ((decode cX0_countDown 22 = .ok (.iastore, 1)) ∧ (decode cX0_countDown 23 = .ok (.iconst 0, 1))))) ∧ (((decode cX0_countDown 24 = .ok (.ireturn, 1)) ∧ ((decode cX0_countDown 25 = .ok (.aload_n 0, 1)) ∧ (decode cX0_countDown 26 = .ok (.iconst 1, 1)))) ∧ ((decode cX0_countDown 27 = .ok (.iload_n 2, 1)) ∧ ((decode cX0_countDown 28 = .ok (.ishl, 1)) ∧ (decode cX0_countDown 29 = .ok (.invokevirtual 111, 3)))))) := by decide +kernel
theorem dX0_countDown_0 : decode cX0_countDown 0 = .ok (.iload_n 1, 1) := q_dg36.1.1.1.1
theorem dX0_countDown_1 : decode cX0_countDown 1 = .ok (.iconst 1, 1) := q_dg36.1.1.1.2.1
theorem dX0_countDown_2 : decode cX0_countDown 2 = .ok (.iand, 1) := q_dg36.1.1.1.2.2
theorem dX0_countDown_3 : decode cX0_countDown 3 = .ok (.istore_n 2, 1) := q_dg36.1.1.2.1
theorem dX0_countDown_4 : decode cX0_countDown 4 = .ok (.aload_n 0, 1) := q_dg36.1.1.2.2.1
theorem dX0_countDown_5 : decode cX0_countDown 5 = .ok (.getfield 25, 3) := q_dg36.1.1.2.2.2
theorem dX0_countDown_8 : decode cX0_countDown 8 = .ok (.iload_n 2, 1) := q_dg36.1.2.1.1
theorem dX0_countDown_9 : decode cX0_countDown 9 = .ok (.iaload, 1) := q_dg36.1.2.1.2.1
theorem dX0_countDown_10 : decode cX0_countDown 10 = .ok (.ifCond .le 15, 3) := q_dg36.1.2.1.2.2
theorem dX0_countDown_13 : decode cX0_countDown 13 = .ok (.aload_n 0, 1) := q_dg36.1.2.2.1
theorem dX0_countDown_14 : decode cX0_countDown 14 = .ok (.getfield 25, 3) := q_dg36.1.2.2.2.1
theorem dX0_countDown_17 : decode cX0_countDown 17 = .ok (.iload_n 2, 1) := q_dg36.1.2.2.2.2
theorem dX0_countDown_18 : decode cX0_countDown 18 = .ok (.dup2, 1) := q_dg36.2.1.1.1
theorem dX0_countDown_19 : decode cX0_countDown 19 = .ok (.iaload, 1) := q_dg36.2.1.1.2.1
theorem dX0_countDown_20 : decode cX0_countDown 20 = .ok (.iconst 1, 1) := q_dg36.2.1.1.2.2
theorem dX0_countDown_21 : decode cX0_countDown 21 = .ok (.isub, 1) := q_dg36.2.1.2.1
theorem dX0_countDown_22 : decode cX0_countDown 22 = .ok (.iastore, 1) := q_dg36.2.1.2.2.1
theorem dX0_countDown_23 : decode cX0_countDown 23 = .ok (.iconst 0, 1) := q_dg36.2.1.2.2.2
theorem dX0_countDown_24 : decode cX0_countDown 24 = .ok (.ireturn, 1) := q_dg36.2.2.1.1
theorem dX0_countDown_25 : decode cX0_countDown 25 = .ok (.aload_n 0, 1) := q_dg36.2.2.1.2.1
theorem dX0_countDown_26 : decode cX0_countDown 26 = .ok (.iconst 1, 1) := q_dg36.2.2.1.2.2
theorem dX0_countDown_27 : decode cX0_countDown 27 = .ok (.iload_n 2, 1) := q_dg36.2.2.2.1
theorem dX0_countDown_28 : decode cX0_countDown 28 = .ok (.ishl, 1) := q_dg36.2.2.2.2.1
theorem dX0_countDown_29 : decode cX0_countDown 29 = .ok (.invokevirtual 111, 3) := q_dg36.2.2.2.2.2
theorem q_dg37 : (((decode cX0_countDown 32 = .ok (.aload_n 0, 1)) ∧ ((decode cX0_countDown 33 = .ok (.getfield 12, 3)) ∧ (decode cX0_countDown 36 = .ok (.getfield 81, 3)))) ∧ ((decode cX0_countDown 39 = .ok (.bipush 10, 2)) ∧ ((decode cX0_countDown 41 = .ok (.dup2, 1)) ∧ (decode cX0_countDown 42 = .ok (.iaload, 1))))) ∧ (((decode cX0_countDown 43 = .ok (.iconst 2, 1)) ∧ ((decode cX0_countDown 44 = .ok (.iload_n 2, 1)) ∧ (decode cX0_countDown 45 = .ok (.ishl, 1)))) ∧ (((decode cX0_countDown 46 = .ok (.ior, 1)) ∧ (decode cX0_countDown 47 = .ok (.iastore, 1))) ∧ ((decode cX0_countDown 48 = .ok (.iconst 1, 1)) ∧ (decode cX0_countDown 49 = .ok (.ireturn, 1))))) := by decide +kernel
theorem dX0_countDown_32 : decode cX0_countDown 32 = .ok (.aload_n 0, 1) := q_dg37.1.1.1
theorem dX0_countDown_33 : decode cX0_countDown 33 = .ok (.getfield 12, 3) := q_dg37.1.1.2.1
theorem dX0_countDown_36 : decode cX0_countDown 36 = .ok (.getfield 81, 3) := q_dg37.1.1.2.2
theorem dX0_countDown_39 : decode cX0_countDown 39 = .ok (.bipush 10, 2) := q_dg37.1.2.1
theorem dX0_countDown_41 : decode cX0_countDown 41 = .ok (.dup2, 1) := q_dg37.1.2.2.1
theorem dX0_countDown_42 : decode cX0_countDown 42 = .ok (.iaload, 1) := q_dg37.1.2.2.2
theorem dX0_countDown_43 : decode cX0_countDown 43 = .ok (.iconst 2, 1) := q_dg37.2.1.1
theorem dX0_countDown_44 : decode cX0_countDown 44 = .ok (.iload_n 2, 1) := q_dg37.2.1.2.1
theorem dX0_countDown_45 : decode cX0_countDown 45 = .ok (.ishl, 1) := q_dg37.2.1.2.2
theorem dX0_countDown_46 : decode cX0_countDown 46 = .ok (.ior, 1) := q_dg37.2.2.1.1
theorem dX0_countDown_47 : decode cX0_countDown 47 = .ok (.iastore, 1) := q_dg37.2.2.1.2
theorem dX0_countDown_48 : decode cX0_countDown 48 = .ok (.iconst 1, 1) := q_dg37.2.2.2.1
theorem dX0_countDown_49 : decode cX0_countDown 49 = .ok (.ireturn, 1) := q_dg37.2.2.2.2
theorem q_dg38 : ((((decode cX0_moveTape 0 = .ok (.aload_n 0, 1)) ∧ (decode cX0_moveTape 1 = .ok (.getfield 12, 3))) ∧ ((decode cX0_moveTape 4 = .ok (.getfield 81, 3)) ∧ ((decode cX0_moveTape 7 = .ok (.bipush 44, 2)) ∧ (decode cX0_moveTape 9 = .ok (.iaload, 1))))) ∧ (((decode cX0_moveTape 10 = .ok (.iconst 1, 1)) ∧ (decode cX0_moveTape 11 = .ok (.if_icmp .ne 28, 3))) ∧ ((decode cX0_moveTape 14 = .ok (.aload_n 0, 1)) ∧ ((decode cX0_moveTape 15 = .ok (.getfield 31, 3)) ∧ (decode cX0_moveTape 18 = .ok (.invokevirtual 173, 3)))))) ∧ ((((decode cX0_moveTape 21 = .ok (.ifCond .eq 18, 3)) ∧ (decode cX0_moveTape 24 = .ok (.aload_n 0, 1))) ∧ ((decode cX0_moveTape 25 = .ok (.getfield 12, 3)) ∧ ((decode cX0_moveTape 28 = .ok (.getfield 81, 3)) ∧ (decode cX0_moveTape 31 = .ok (.bipush 10, 2))))) ∧ (((decode cX0_moveTape 33 = .ok (.dup2, 1)) ∧ ((decode cX0_moveTape 34 = .ok (.iaload, 1)) ∧ (decode cX0_moveTape 35 = .ok (.bipush 8, 2)))) ∧ ((decode cX0_moveTape 37 = .ok (.ior, 1)) ∧ ((decode cX0_moveTape 38 = .ok (.iastore, 1)) ∧ (decode cX0_moveTape 39 = .ok (.return_, 1)))))) := by decide +kernel
theorem dX0_moveTape_0 : decode cX0_moveTape 0 = .ok (.aload_n 0, 1) := q_dg38.1.1.1.1
theorem dX0_moveTape_1 : decode cX0_moveTape 1 = .ok (.getfield 12, 3) := q_dg38.1.1.1.2
theorem dX0_moveTape_4 : decode cX0_moveTape 4 = .ok (.getfield 81, 3) := q_dg38.1.1.2.1
theorem dX0_moveTape_7 : decode cX0_moveTape 7 = .ok (.bipush 44, 2) := q_dg38.1.1.2.2.1
theorem dX0_moveTape_9 : decode cX0_moveTape 9 = .ok (.iaload, 1) := q_dg38.1.1.2.2.2
theorem dX0_moveTape_10 : decode cX0_moveTape 10 = .ok (.iconst 1, 1) := q_dg38.1.2.1.1
theorem dX0_moveTape_11 : decode cX0_moveTape 11 = .ok (.if_icmp .ne 28, 3) := q_dg38.1.2.1.2
theorem dX0_moveTape_14 : decode cX0_moveTape 14 = .ok (.aload_n 0, 1) := q_dg38.1.2.2.1
theorem dX0_moveTape_15 : decode cX0_moveTape 15 = .ok (.getfield 31, 3) := q_dg38.1.2.2.2.1
theorem dX0_moveTape_18 : decode cX0_moveTape 18 = .ok (.invokevirtual 173, 3) := q_dg38.1.2.2.2.2
theorem dX0_moveTape_21 : decode cX0_moveTape 21 = .ok (.ifCond .eq 18, 3) := q_dg38.2.1.1.1
theorem dX0_moveTape_24 : decode cX0_moveTape 24 = .ok (.aload_n 0, 1) := q_dg38.2.1.1.2
theorem dX0_moveTape_25 : decode cX0_moveTape 25 = .ok (.getfield 12, 3) := q_dg38.2.1.2.1
theorem dX0_moveTape_28 : decode cX0_moveTape 28 = .ok (.getfield 81, 3) := q_dg38.2.1.2.2.1
theorem dX0_moveTape_31 : decode cX0_moveTape 31 = .ok (.bipush 10, 2) := q_dg38.2.1.2.2.2
theorem dX0_moveTape_33 : decode cX0_moveTape 33 = .ok (.dup2, 1) := q_dg38.2.2.1.1
theorem dX0_moveTape_34 : decode cX0_moveTape 34 = .ok (.iaload, 1) := q_dg38.2.2.1.2.1
theorem dX0_moveTape_35 : decode cX0_moveTape 35 = .ok (.bipush 8, 2) := q_dg38.2.2.1.2.2
theorem dX0_moveTape_37 : decode cX0_moveTape 37 = .ok (.ior, 1) := q_dg38.2.2.2.1
theorem dX0_moveTape_38 : decode cX0_moveTape 38 = .ok (.iastore, 1) := q_dg38.2.2.2.2.1
theorem dX0_moveTape_39 : decode cX0_moveTape 39 = .ok (.return_, 1) := q_dg38.2.2.2.2.2
theorem q_dg39 : ((((decode cX0_endCycle 0 = .ok (.aload_n 0, 1)) ∧ (decode cX0_endCycle 1 = .ok (.dup, 1))) ∧ ((decode cX0_endCycle 2 = .ok (.getfield 71, 3)) ∧ (decode cX0_endCycle 5 = .ok (.lconst 1, 1)))) ∧ (((decode cX0_endCycle 6 = .ok (.ladd, 1)) ∧ (decode cX0_endCycle 7 = .ok (.putfield 71, 3))) ∧ ((decode cX0_endCycle 10 = .ok (.aload_n 0, 1)) ∧ ((decode cX0_endCycle 11 = .ok (.getfield 71, 3)) ∧ (decode cX0_endCycle 14 = .ok (.ldc2_w 75, 3)))))) ∧ ((((decode cX0_endCycle 17 = .ok (.lrem, 1)) ∧ (decode cX0_endCycle 18 = .ok (.lconst 0, 1))) ∧ ((decode cX0_endCycle 19 = .ok (.lcmp, 1)) ∧ ((decode cX0_endCycle 20 = .ok (.ifCond .ne 14, 3)) ∧ (decode cX0_endCycle 23 = .ok (.aload_n 0, 1))))) ∧ (((decode cX0_endCycle 24 = .ok (.invokevirtual 119, 3)) ∧ (decode cX0_endCycle 27 = .ok (.aload_n 0, 1))) ∧ ((decode cX0_endCycle 28 = .ok (.getfield 12, 3)) ∧ ((decode cX0_endCycle 31 = .ok (.invokevirtual 177, 3)) ∧ (decode cX0_endCycle 34 = .ok (.return_, 1)))))) := by decide +kernel
theorem dX0_endCycle_0 : decode cX0_endCycle 0 = .ok (.aload_n 0, 1) := q_dg39.1.1.1.1
theorem dX0_endCycle_1 : decode cX0_endCycle 1 = .ok (.dup, 1) := q_dg39.1.1.1.2
theorem dX0_endCycle_2 : decode cX0_endCycle 2 = .ok (.getfield 71, 3) := q_dg39.1.1.2.1
theorem dX0_endCycle_5 : decode cX0_endCycle 5 = .ok (.lconst 1, 1) := q_dg39.1.1.2.2
theorem dX0_endCycle_6 : decode cX0_endCycle 6 = .ok (.ladd, 1) := q_dg39.1.2.1.1
theorem dX0_endCycle_7 : decode cX0_endCycle 7 = .ok (.putfield 71, 3) := q_dg39.1.2.1.2
theorem dX0_endCycle_10 : decode cX0_endCycle 10 = .ok (.aload_n 0, 1) := q_dg39.1.2.2.1
theorem dX0_endCycle_11 : decode cX0_endCycle 11 = .ok (.getfield 71, 3) := q_dg39.1.2.2.2.1
theorem dX0_endCycle_14 : decode cX0_endCycle 14 = .ok (.ldc2_w 75, 3) := q_dg39.1.2.2.2.2
theorem dX0_endCycle_17 : decode cX0_endCycle 17 = .ok (.lrem, 1) := q_dg39.2.1.1.1
theorem dX0_endCycle_18 : decode cX0_endCycle 18 = .ok (.lconst 0, 1) := q_dg39.2.1.1.2
theorem dX0_endCycle_19 : decode cX0_endCycle 19 = .ok (.lcmp, 1) := q_dg39.2.1.2.1
theorem dX0_endCycle_20 : decode cX0_endCycle 20 = .ok (.ifCond .ne 14, 3) := q_dg39.2.1.2.2.1
theorem dX0_endCycle_23 : decode cX0_endCycle 23 = .ok (.aload_n 0, 1) := q_dg39.2.1.2.2.2
theorem dX0_endCycle_24 : decode cX0_endCycle 24 = .ok (.invokevirtual 119, 3) := q_dg39.2.2.1.1
theorem dX0_endCycle_27 : decode cX0_endCycle 27 = .ok (.aload_n 0, 1) := q_dg39.2.2.1.2
theorem dX0_endCycle_28 : decode cX0_endCycle 28 = .ok (.getfield 12, 3) := q_dg39.2.2.2.1
theorem dX0_endCycle_31 : decode cX0_endCycle 31 = .ok (.invokevirtual 177, 3) := q_dg39.2.2.2.2.1
theorem dX0_endCycle_34 : decode cX0_endCycle 34 = .ok (.return_, 1) := q_dg39.2.2.2.2.2
theorem q_dg40 : ((((decode cX0_drawnAgain 0 = .ok (.iload_n 1, 1)) ∧ ((decode cX0_drawnAgain 1 = .ok (.iconst 2, 1)) ∧ (decode cX0_drawnAgain 2 = .ok (.idiv, 1)))) ∧ ((decode cX0_drawnAgain 3 = .ok (.iconst 4, 1)) ∧ ((decode cX0_drawnAgain 4 = .ok (.iadd, 1)) ∧ (decode cX0_drawnAgain 5 = .ok (.istore 4, 2))))) ∧ (((decode cX0_drawnAgain 7 = .ok (.bipush 24, 2)) ∧ ((decode cX0_drawnAgain 9 = .ok (.iload_n 2, 1)) ∧ (decode cX0_drawnAgain 10 = .ok (.iconst 4, 1)))) ∧ ((decode cX0_drawnAgain 11 = .ok (.iadd, 1)) ∧ ((decode cX0_drawnAgain 12 = .ok (.imul, 1)) ∧ (decode cX0_drawnAgain 13 = .ok (.iload 4, 2)))))) ∧ ((((decode cX0_drawnAgain 15 = .ok (.iadd, 1)) ∧ ((decode cX0_drawnAgain 16 = .ok (.istore 5, 2)) ∧ (decode cX0_drawnAgain 18 = .ok (.iload 5, 2)))) ∧ ((decode cX0_drawnAgain 20 = .ok (.aload_n 0, 1)) ∧ ((decode cX0_drawnAgain 21 = .ok (.invokevirtual 119, 3)) ∧ (decode cX0_drawnAgain 24 = .ok (.getfield 166, 3))))) ∧ (((decode cX0_drawnAgain 27 = .ok (.if_icmp .ge 10, 3)) ∧ ((decode cX0_drawnAgain 30 = .ok (.aload_n 0, 1)) ∧ (decode cX0_drawnAgain 31 = .ok (.invokevirtual 119, 3)))) ∧ ((decode cX0_drawnAgain 34 = .ok (.goto 7, 3)) ∧ ((decode cX0_drawnAgain 37 = .ok (.aload_n 0, 1)) ∧ (decode cX0_drawnAgain 38 = .ok (.invokevirtual 180, 3)))))) := by decide +kernel
theorem dX0_drawnAgain_0 : decode cX0_drawnAgain 0 = .ok (.iload_n 1, 1) := q_dg40.1.1.1.1
theorem dX0_drawnAgain_1 : decode cX0_drawnAgain 1 = .ok (.iconst 2, 1) := q_dg40.1.1.1.2.1
theorem dX0_drawnAgain_2 : decode cX0_drawnAgain 2 = .ok (.idiv, 1) := q_dg40.1.1.1.2.2
theorem dX0_drawnAgain_3 : decode cX0_drawnAgain 3 = .ok (.iconst 4, 1) := q_dg40.1.1.2.1
theorem dX0_drawnAgain_4 : decode cX0_drawnAgain 4 = .ok (.iadd, 1) := q_dg40.1.1.2.2.1
theorem dX0_drawnAgain_5 : decode cX0_drawnAgain 5 = .ok (.istore 4, 2) := q_dg40.1.1.2.2.2
theorem dX0_drawnAgain_7 : decode cX0_drawnAgain 7 = .ok (.bipush 24, 2) := q_dg40.1.2.1.1
theorem dX0_drawnAgain_9 : decode cX0_drawnAgain 9 = .ok (.iload_n 2, 1) := q_dg40.1.2.1.2.1
theorem dX0_drawnAgain_10 : decode cX0_drawnAgain 10 = .ok (.iconst 4, 1) := q_dg40.1.2.1.2.2
theorem dX0_drawnAgain_11 : decode cX0_drawnAgain 11 = .ok (.iadd, 1) := q_dg40.1.2.2.1
theorem dX0_drawnAgain_12 : decode cX0_drawnAgain 12 = .ok (.imul, 1) := q_dg40.1.2.2.2.1
theorem dX0_drawnAgain_13 : decode cX0_drawnAgain 13 = .ok (.iload 4, 2) := q_dg40.1.2.2.2.2
theorem dX0_drawnAgain_15 : decode cX0_drawnAgain 15 = .ok (.iadd, 1) := q_dg40.2.1.1.1
theorem dX0_drawnAgain_16 : decode cX0_drawnAgain 16 = .ok (.istore 5, 2) := q_dg40.2.1.1.2.1
theorem dX0_drawnAgain_18 : decode cX0_drawnAgain 18 = .ok (.iload 5, 2) := q_dg40.2.1.1.2.2
theorem dX0_drawnAgain_20 : decode cX0_drawnAgain 20 = .ok (.aload_n 0, 1) := q_dg40.2.1.2.1
theorem dX0_drawnAgain_21 : decode cX0_drawnAgain 21 = .ok (.invokevirtual 119, 3) := q_dg40.2.1.2.2.1
theorem dX0_drawnAgain_24 : decode cX0_drawnAgain 24 = .ok (.getfield 166, 3) := q_dg40.2.1.2.2.2
theorem dX0_drawnAgain_27 : decode cX0_drawnAgain 27 = .ok (.if_icmp .ge 10, 3) := q_dg40.2.2.1.1
theorem dX0_drawnAgain_30 : decode cX0_drawnAgain 30 = .ok (.aload_n 0, 1) := q_dg40.2.2.1.2.1
theorem dX0_drawnAgain_31 : decode cX0_drawnAgain 31 = .ok (.invokevirtual 119, 3) := q_dg40.2.2.1.2.2
theorem dX0_drawnAgain_34 : decode cX0_drawnAgain 34 = .ok (.goto 7, 3) := q_dg40.2.2.2.1
theorem dX0_drawnAgain_37 : decode cX0_drawnAgain 37 = .ok (.aload_n 0, 1) := q_dg40.2.2.2.2.1
theorem dX0_drawnAgain_38 : decode cX0_drawnAgain 38 = .ok (.invokevirtual 180, 3) := q_dg40.2.2.2.2.2
theorem q_dg41 : ((((decode cX0_drawnAgain 41 = .ok (.astore 6, 2)) ∧ (decode cX0_drawnAgain 43 = .ok (.iload 5, 2))) ∧ ((decode cX0_drawnAgain 45 = .ok (.aload 6, 2)) ∧ ((decode cX0_drawnAgain 47 = .ok (.getfield 166, 3)) ∧ (decode cX0_drawnAgain 50 = .ok (.if_icmp .lt 5, 3))))) ∧ (((decode cX0_drawnAgain 53 = .ok (.iconst 0, 1)) ∧ ((decode cX0_drawnAgain 54 = .ok (.ireturn, 1)) ∧ (decode cX0_drawnAgain 55 = .ok (.aload 6, 2)))) ∧ ((decode cX0_drawnAgain 57 = .ok (.iload 5, 2)) ∧ ((decode cX0_drawnAgain 59 = .ok (.aload_n 3, 1)) ∧ (decode cX0_drawnAgain 60 = .ok (.invokevirtual 183, 3)))))) ∧ ((((decode cX0_drawnAgain 63 = .ok (.aload_n 3, 1)) ∧ (decode cX0_drawnAgain 64 = .ok (.aload_n 3, 1))) ∧ ((decode cX0_drawnAgain 65 = .ok (.iload_n 1, 1)) ∧ ((decode cX0_drawnAgain 66 = .ok (.iload_n 2, 1)) ∧ (decode cX0_drawnAgain 67 = .ok (.invokevirtual 154, 3))))) ∧ (((decode cX0_drawnAgain 70 = .ok (.aload_n 3, 1)) ∧ ((decode cX0_drawnAgain 71 = .ok (.iload_n 1, 1)) ∧ (decode cX0_drawnAgain 72 = .ok (.iload_n 2, 1)))) ∧ ((decode cX0_drawnAgain 73 = .ok (.invokevirtual 157, 3)) ∧ ((decode cX0_drawnAgain 76 = .ok (.invokevirtual 163, 3)) ∧ (decode cX0_drawnAgain 79 = .ok (.ireturn, 1)))))) := by decide +kernel
theorem dX0_drawnAgain_41 : decode cX0_drawnAgain 41 = .ok (.astore 6, 2) := q_dg41.1.1.1.1
theorem dX0_drawnAgain_43 : decode cX0_drawnAgain 43 = .ok (.iload 5, 2) := q_dg41.1.1.1.2
theorem dX0_drawnAgain_45 : decode cX0_drawnAgain 45 = .ok (.aload 6, 2) := q_dg41.1.1.2.1
theorem dX0_drawnAgain_47 : decode cX0_drawnAgain 47 = .ok (.getfield 166, 3) := q_dg41.1.1.2.2.1
theorem dX0_drawnAgain_50 : decode cX0_drawnAgain 50 = .ok (.if_icmp .lt 5, 3) := q_dg41.1.1.2.2.2
theorem dX0_drawnAgain_53 : decode cX0_drawnAgain 53 = .ok (.iconst 0, 1) := q_dg41.1.2.1.1
theorem dX0_drawnAgain_54 : decode cX0_drawnAgain 54 = .ok (.ireturn, 1) := q_dg41.1.2.1.2.1
theorem dX0_drawnAgain_55 : decode cX0_drawnAgain 55 = .ok (.aload 6, 2) := q_dg41.1.2.1.2.2
theorem dX0_drawnAgain_57 : decode cX0_drawnAgain 57 = .ok (.iload 5, 2) := q_dg41.1.2.2.1
theorem dX0_drawnAgain_59 : decode cX0_drawnAgain 59 = .ok (.aload_n 3, 1) := q_dg41.1.2.2.2.1
theorem dX0_drawnAgain_60 : decode cX0_drawnAgain 60 = .ok (.invokevirtual 183, 3) := q_dg41.1.2.2.2.2
theorem dX0_drawnAgain_63 : decode cX0_drawnAgain 63 = .ok (.aload_n 3, 1) := q_dg41.2.1.1.1
theorem dX0_drawnAgain_64 : decode cX0_drawnAgain 64 = .ok (.aload_n 3, 1) := q_dg41.2.1.1.2
theorem dX0_drawnAgain_65 : decode cX0_drawnAgain 65 = .ok (.iload_n 1, 1) := q_dg41.2.1.2.1
theorem dX0_drawnAgain_66 : decode cX0_drawnAgain 66 = .ok (.iload_n 2, 1) := q_dg41.2.1.2.2.1
theorem dX0_drawnAgain_67 : decode cX0_drawnAgain 67 = .ok (.invokevirtual 154, 3) := q_dg41.2.1.2.2.2
theorem dX0_drawnAgain_70 : decode cX0_drawnAgain 70 = .ok (.aload_n 3, 1) := q_dg41.2.2.1.1
theorem dX0_drawnAgain_71 : decode cX0_drawnAgain 71 = .ok (.iload_n 1, 1) := q_dg41.2.2.1.2.1
theorem dX0_drawnAgain_72 : decode cX0_drawnAgain 72 = .ok (.iload_n 2, 1) := q_dg41.2.2.1.2.2
theorem dX0_drawnAgain_73 : decode cX0_drawnAgain 73 = .ok (.invokevirtual 157, 3) := q_dg41.2.2.2.1
theorem dX0_drawnAgain_76 : decode cX0_drawnAgain 76 = .ok (.invokevirtual 163, 3) := q_dg41.2.2.2.2.1
theorem dX0_drawnAgain_79 : decode cX0_drawnAgain 79 = .ok (.ireturn, 1) := q_dg41.2.2.2.2.2
theorem q_dg42 : ((((decode cX1_operationOf 0 = .ok (.iload_n 0, 1)) ∧ (decode cX1_operationOf 1 = .ok (.sipush 128, 3))) ∧ ((decode cX1_operationOf 4 = .ok (.if_icmp .ge 8, 3)) ∧ ((decode cX1_operationOf 7 = .ok (.iload_n 0, 1)) ∧ (decode cX1_operationOf 8 = .ok (.bipush 8, 2))))) ∧ (((decode cX1_operationOf 10 = .ok (.idiv, 1)) ∧ (decode cX1_operationOf 11 = .ok (.ireturn, 1))) ∧ ((decode cX1_operationOf 12 = .ok (.iload_n 0, 1)) ∧ ((decode cX1_operationOf 13 = .ok (.sipush 192, 3)) ∧ (decode cX1_operationOf 16 = .ok (.if_icmp .lt 20, 3)))))) ∧ ((((decode cX1_operationOf 19 = .ok (.iload_n 0, 1)) ∧ (decode cX1_operationOf 20 = .ok (.sipush 231, 3))) ∧ ((decode cX1_operationOf 23 = .ok (.if_icmp .gt 13, 3)) ∧ ((decode cX1_operationOf 26 = .ok (.iload_n 0, 1)) ∧ (decode cX1_operationOf 27 = .ok (.bipush 8, 2))))) ∧ (((decode cX1_operationOf 29 = .ok (.idiv, 1)) ∧ ((decode cX1_operationOf 30 = .ok (.bipush 8, 2)) ∧ (decode cX1_operationOf 32 = .ok (.isub, 1)))) ∧ ((decode cX1_operationOf 33 = .ok (.goto 4, 3)) ∧ ((decode cX1_operationOf 36 = .ok (.iconst (-1), 1)) ∧ (decode cX1_operationOf 37 = .ok (.ireturn, 1)))))) := by decide +kernel
theorem dX1_operationOf_0 : decode cX1_operationOf 0 = .ok (.iload_n 0, 1) := q_dg42.1.1.1.1
theorem dX1_operationOf_1 : decode cX1_operationOf 1 = .ok (.sipush 128, 3) := q_dg42.1.1.1.2
theorem dX1_operationOf_4 : decode cX1_operationOf 4 = .ok (.if_icmp .ge 8, 3) := q_dg42.1.1.2.1
theorem dX1_operationOf_7 : decode cX1_operationOf 7 = .ok (.iload_n 0, 1) := q_dg42.1.1.2.2.1
theorem dX1_operationOf_8 : decode cX1_operationOf 8 = .ok (.bipush 8, 2) := q_dg42.1.1.2.2.2
theorem dX1_operationOf_10 : decode cX1_operationOf 10 = .ok (.idiv, 1) := q_dg42.1.2.1.1
theorem dX1_operationOf_11 : decode cX1_operationOf 11 = .ok (.ireturn, 1) := q_dg42.1.2.1.2
theorem dX1_operationOf_12 : decode cX1_operationOf 12 = .ok (.iload_n 0, 1) := q_dg42.1.2.2.1
theorem dX1_operationOf_13 : decode cX1_operationOf 13 = .ok (.sipush 192, 3) := q_dg42.1.2.2.2.1
theorem dX1_operationOf_16 : decode cX1_operationOf 16 = .ok (.if_icmp .lt 20, 3) := q_dg42.1.2.2.2.2
theorem dX1_operationOf_19 : decode cX1_operationOf 19 = .ok (.iload_n 0, 1) := q_dg42.2.1.1.1
theorem dX1_operationOf_20 : decode cX1_operationOf 20 = .ok (.sipush 231, 3) := q_dg42.2.1.1.2
theorem dX1_operationOf_23 : decode cX1_operationOf 23 = .ok (.if_icmp .gt 13, 3) := q_dg42.2.1.2.1
theorem dX1_operationOf_26 : decode cX1_operationOf 26 = .ok (.iload_n 0, 1) := q_dg42.2.1.2.2.1
theorem dX1_operationOf_27 : decode cX1_operationOf 27 = .ok (.bipush 8, 2) := q_dg42.2.1.2.2.2
theorem dX1_operationOf_29 : decode cX1_operationOf 29 = .ok (.idiv, 1) := q_dg42.2.2.1.1
theorem dX1_operationOf_30 : decode cX1_operationOf 30 = .ok (.bipush 8, 2) := q_dg42.2.2.1.2.1
theorem dX1_operationOf_32 : decode cX1_operationOf 32 = .ok (.isub, 1) := q_dg42.2.2.1.2.2
theorem dX1_operationOf_33 : decode cX1_operationOf 33 = .ok (.goto 4, 3) := q_dg42.2.2.2.1
theorem dX1_operationOf_36 : decode cX1_operationOf 36 = .ok (.iconst (-1), 1) := q_dg42.2.2.2.2.1
theorem dX1_operationOf_37 : decode cX1_operationOf 37 = .ok (.ireturn, 1) := q_dg42.2.2.2.2.2
theorem q_dg43 : (((decode cX1_isBranch 0 = .ok (.iload_n 0, 1)) ∧ (decode cX1_isBranch 1 = .ok (.sipush 160, 3))) ∧ ((decode cX1_isBranch 4 = .ok (.if_icmp .lt 14, 3)) ∧ ((decode cX1_isBranch 7 = .ok (.iload_n 0, 1)) ∧ (decode cX1_isBranch 8 = .ok (.sipush 167, 3))))) ∧ (((decode cX1_isBranch 11 = .ok (.if_icmp .gt 7, 3)) ∧ (decode cX1_isBranch 14 = .ok (.iconst 1, 1))) ∧ ((decode cX1_isBranch 15 = .ok (.goto 4, 3)) ∧ ((decode cX1_isBranch 18 = .ok (.iconst 0, 1)) ∧ (decode cX1_isBranch 19 = .ok (.ireturn, 1))))) := by decide +kernel
theorem dX1_isBranch_0 : decode cX1_isBranch 0 = .ok (.iload_n 0, 1) := q_dg43.1.1.1
theorem dX1_isBranch_1 : decode cX1_isBranch 1 = .ok (.sipush 160, 3) := q_dg43.1.1.2
theorem dX1_isBranch_4 : decode cX1_isBranch 4 = .ok (.if_icmp .lt 14, 3) := q_dg43.1.2.1
theorem dX1_isBranch_7 : decode cX1_isBranch 7 = .ok (.iload_n 0, 1) := q_dg43.1.2.2.1
theorem dX1_isBranch_8 : decode cX1_isBranch 8 = .ok (.sipush 167, 3) := q_dg43.1.2.2.2
theorem dX1_isBranch_11 : decode cX1_isBranch 11 = .ok (.if_icmp .gt 7, 3) := q_dg43.2.1.1
theorem dX1_isBranch_14 : decode cX1_isBranch 14 = .ok (.iconst 1, 1) := q_dg43.2.1.2
theorem dX1_isBranch_15 : decode cX1_isBranch 15 = .ok (.goto 4, 3) := q_dg43.2.2.1
theorem dX1_isBranch_18 : decode cX1_isBranch 18 = .ok (.iconst 0, 1) := q_dg43.2.2.2.1
theorem dX1_isBranch_19 : decode cX1_isBranch 19 = .ok (.ireturn, 1) := q_dg43.2.2.2.2
theorem q_dg44 : ((((decode cX1_isWriting 0 = .ok (.iload_n 0, 1)) ∧ (decode cX1_isWriting 1 = .ok (.iconst 3, 1))) ∧ ((decode cX1_isWriting 2 = .ok (.if_icmp .lt 8, 3)) ∧ (decode cX1_isWriting 5 = .ok (.iload_n 0, 1)))) ∧ (((decode cX1_isWriting 6 = .ok (.iconst 5, 1)) ∧ (decode cX1_isWriting 7 = .ok (.if_icmp .le 16, 3))) ∧ ((decode cX1_isWriting 10 = .ok (.iload_n 0, 1)) ∧ (decode cX1_isWriting 11 = .ok (.bipush 17, 2))))) ∧ ((((decode cX1_isWriting 13 = .ok (.if_icmp .eq 10, 3)) ∧ (decode cX1_isWriting 16 = .ok (.iload_n 0, 1))) ∧ ((decode cX1_isWriting 17 = .ok (.invokestatic 11, 3)) ∧ (decode cX1_isWriting 20 = .ok (.ifCond .eq 7, 3)))) ∧ (((decode cX1_isWriting 23 = .ok (.iconst 1, 1)) ∧ (decode cX1_isWriting 24 = .ok (.goto 4, 3))) ∧ ((decode cX1_isWriting 27 = .ok (.iconst 0, 1)) ∧ (decode cX1_isWriting 28 = .ok (.ireturn, 1))))) := by decide +kernel
theorem dX1_isWriting_0 : decode cX1_isWriting 0 = .ok (.iload_n 0, 1) := q_dg44.1.1.1.1
theorem dX1_isWriting_1 : decode cX1_isWriting 1 = .ok (.iconst 3, 1) := q_dg44.1.1.1.2
theorem dX1_isWriting_2 : decode cX1_isWriting 2 = .ok (.if_icmp .lt 8, 3) := q_dg44.1.1.2.1
theorem dX1_isWriting_5 : decode cX1_isWriting 5 = .ok (.iload_n 0, 1) := q_dg44.1.1.2.2
theorem dX1_isWriting_6 : decode cX1_isWriting 6 = .ok (.iconst 5, 1) := q_dg44.1.2.1.1
theorem dX1_isWriting_7 : decode cX1_isWriting 7 = .ok (.if_icmp .le 16, 3) := q_dg44.1.2.1.2
theorem dX1_isWriting_10 : decode cX1_isWriting 10 = .ok (.iload_n 0, 1) := q_dg44.1.2.2.1
theorem dX1_isWriting_11 : decode cX1_isWriting 11 = .ok (.bipush 17, 2) := q_dg44.1.2.2.2
theorem dX1_isWriting_13 : decode cX1_isWriting 13 = .ok (.if_icmp .eq 10, 3) := q_dg44.2.1.1.1
theorem dX1_isWriting_16 : decode cX1_isWriting 16 = .ok (.iload_n 0, 1) := q_dg44.2.1.1.2
theorem dX1_isWriting_17 : decode cX1_isWriting 17 = .ok (.invokestatic 11, 3) := q_dg44.2.1.2.1
theorem dX1_isWriting_20 : decode cX1_isWriting 20 = .ok (.ifCond .eq 7, 3) := q_dg44.2.1.2.2
theorem dX1_isWriting_23 : decode cX1_isWriting 23 = .ok (.iconst 1, 1) := q_dg44.2.2.1.1
theorem dX1_isWriting_24 : decode cX1_isWriting 24 = .ok (.goto 4, 3) := q_dg44.2.2.1.2
theorem dX1_isWriting_27 : decode cX1_isWriting 27 = .ok (.iconst 0, 1) := q_dg44.2.2.2.1
theorem dX1_isWriting_28 : decode cX1_isWriting 28 = .ok (.ireturn, 1) := q_dg44.2.2.2.2
theorem q_dg45 : ((((decode cX1_isChanging 0 = .ok (.iload_n 0, 1)) ∧ (decode cX1_isChanging 1 = .ok (.bipush 14, 2))) ∧ ((decode cX1_isChanging 3 = .ok (.if_icmp .eq 21, 3)) ∧ (decode cX1_isChanging 6 = .ok (.iload_n 0, 1)))) ∧ (((decode cX1_isChanging 7 = .ok (.bipush 15, 2)) ∧ (decode cX1_isChanging 9 = .ok (.if_icmp .eq 15, 3))) ∧ ((decode cX1_isChanging 12 = .ok (.iload_n 0, 1)) ∧ (decode cX1_isChanging 13 = .ok (.bipush 18, 2))))) ∧ ((((decode cX1_isChanging 15 = .ok (.if_icmp .eq 9, 3)) ∧ (decode cX1_isChanging 18 = .ok (.iload_n 0, 1))) ∧ ((decode cX1_isChanging 19 = .ok (.bipush 19, 2)) ∧ (decode cX1_isChanging 21 = .ok (.if_icmp .ne 7, 3)))) ∧ (((decode cX1_isChanging 24 = .ok (.iconst 1, 1)) ∧ (decode cX1_isChanging 25 = .ok (.goto 4, 3))) ∧ ((decode cX1_isChanging 28 = .ok (.iconst 0, 1)) ∧ (decode cX1_isChanging 29 = .ok (.ireturn, 1))))) := by decide +kernel
theorem dX1_isChanging_0 : decode cX1_isChanging 0 = .ok (.iload_n 0, 1) := q_dg45.1.1.1.1
theorem dX1_isChanging_1 : decode cX1_isChanging 1 = .ok (.bipush 14, 2) := q_dg45.1.1.1.2
theorem dX1_isChanging_3 : decode cX1_isChanging 3 = .ok (.if_icmp .eq 21, 3) := q_dg45.1.1.2.1
theorem dX1_isChanging_6 : decode cX1_isChanging 6 = .ok (.iload_n 0, 1) := q_dg45.1.1.2.2
theorem dX1_isChanging_7 : decode cX1_isChanging 7 = .ok (.bipush 15, 2) := q_dg45.1.2.1.1
theorem dX1_isChanging_9 : decode cX1_isChanging 9 = .ok (.if_icmp .eq 15, 3) := q_dg45.1.2.1.2
theorem dX1_isChanging_12 : decode cX1_isChanging 12 = .ok (.iload_n 0, 1) := q_dg45.1.2.2.1
theorem dX1_isChanging_13 : decode cX1_isChanging 13 = .ok (.bipush 18, 2) := q_dg45.1.2.2.2
theorem dX1_isChanging_15 : decode cX1_isChanging 15 = .ok (.if_icmp .eq 9, 3) := q_dg45.2.1.1.1
theorem dX1_isChanging_18 : decode cX1_isChanging 18 = .ok (.iload_n 0, 1) := q_dg45.2.1.1.2
theorem dX1_isChanging_19 : decode cX1_isChanging 19 = .ok (.bipush 19, 2) := q_dg45.2.1.2.1
theorem dX1_isChanging_21 : decode cX1_isChanging 21 = .ok (.if_icmp .ne 7, 3) := q_dg45.2.1.2.2
theorem dX1_isChanging_24 : decode cX1_isChanging 24 = .ok (.iconst 1, 1) := q_dg45.2.2.1.1
theorem dX1_isChanging_25 : decode cX1_isChanging 25 = .ok (.goto 4, 3) := q_dg45.2.2.1.2
theorem dX1_isChanging_28 : decode cX1_isChanging 28 = .ok (.iconst 0, 1) := q_dg45.2.2.2.1
theorem dX1_isChanging_29 : decode cX1_isChanging 29 = .ok (.ireturn, 1) := q_dg45.2.2.2.2
theorem q_dg46 : ((((decode cX1_lengthOf 0 = .ok (.iload_n 0, 1)) ∧ ((decode cX1_lengthOf 1 = .ok (.invokestatic 15, 3)) ∧ (decode cX1_lengthOf 4 = .ok (.ifCond .lt 24, 3)))) ∧ ((decode cX1_lengthOf 7 = .ok (.iload_n 0, 1)) ∧ ((decode cX1_lengthOf 8 = .ok (.bipush 7, 2)) ∧ (decode cX1_lengthOf 10 = .ok (.iand, 1))))) ∧ (((decode cX1_lengthOf 11 = .ok (.istore_n 1, 1)) ∧ ((decode cX1_lengthOf 12 = .ok (.iload_n 1, 1)) ∧ (decode cX1_lengthOf 13 = .ok (.iconst 3, 1)))) ∧ ((decode cX1_lengthOf 14 = .ok (.if_icmp .lt 12, 3)) ∧ ((decode cX1_lengthOf 17 = .ok (.iload_n 1, 1)) ∧ (decode cX1_lengthOf 18 = .ok (.iconst 5, 1)))))) ∧ ((((decode cX1_lengthOf 19 = .ok (.if_icmp .gt 7, 3)) ∧ ((decode cX1_lengthOf 22 = .ok (.iconst 3, 1)) ∧ (decode cX1_lengthOf 23 = .ok (.goto 4, 3)))) ∧ ((decode cX1_lengthOf 26 = .ok (.iconst 2, 1)) ∧ ((decode cX1_lengthOf 27 = .ok (.ireturn, 1)) ∧ (decode cX1_lengthOf 28 = .ok (.iload_n 0, 1))))) ∧ (((decode cX1_lengthOf 29 = .ok (.sipush 157, 3)) ∧ ((decode cX1_lengthOf 32 = .ok (.if_icmp .lt 10, 3)) ∧ (decode cX1_lengthOf 35 = .ok (.iload_n 0, 1)))) ∧ ((decode cX1_lengthOf 36 = .ok (.sipush 167, 3)) ∧ ((decode cX1_lengthOf 39 = .ok (.if_icmp .le 5, 3)) ∧ (decode cX1_lengthOf 42 = .ok (.iconst 1, 1)))))) := by decide +kernel
theorem dX1_lengthOf_0 : decode cX1_lengthOf 0 = .ok (.iload_n 0, 1) := q_dg46.1.1.1.1
theorem dX1_lengthOf_1 : decode cX1_lengthOf 1 = .ok (.invokestatic 15, 3) := q_dg46.1.1.1.2.1
theorem dX1_lengthOf_4 : decode cX1_lengthOf 4 = .ok (.ifCond .lt 24, 3) := q_dg46.1.1.1.2.2
theorem dX1_lengthOf_7 : decode cX1_lengthOf 7 = .ok (.iload_n 0, 1) := q_dg46.1.1.2.1
theorem dX1_lengthOf_8 : decode cX1_lengthOf 8 = .ok (.bipush 7, 2) := q_dg46.1.1.2.2.1
theorem dX1_lengthOf_10 : decode cX1_lengthOf 10 = .ok (.iand, 1) := q_dg46.1.1.2.2.2
theorem dX1_lengthOf_11 : decode cX1_lengthOf 11 = .ok (.istore_n 1, 1) := q_dg46.1.2.1.1
theorem dX1_lengthOf_12 : decode cX1_lengthOf 12 = .ok (.iload_n 1, 1) := q_dg46.1.2.1.2.1
theorem dX1_lengthOf_13 : decode cX1_lengthOf 13 = .ok (.iconst 3, 1) := q_dg46.1.2.1.2.2
theorem dX1_lengthOf_14 : decode cX1_lengthOf 14 = .ok (.if_icmp .lt 12, 3) := q_dg46.1.2.2.1
theorem dX1_lengthOf_17 : decode cX1_lengthOf 17 = .ok (.iload_n 1, 1) := q_dg46.1.2.2.2.1
theorem dX1_lengthOf_18 : decode cX1_lengthOf 18 = .ok (.iconst 5, 1) := q_dg46.1.2.2.2.2
theorem dX1_lengthOf_19 : decode cX1_lengthOf 19 = .ok (.if_icmp .gt 7, 3) := q_dg46.2.1.1.1
theorem dX1_lengthOf_22 : decode cX1_lengthOf 22 = .ok (.iconst 3, 1) := q_dg46.2.1.1.2.1
theorem dX1_lengthOf_23 : decode cX1_lengthOf 23 = .ok (.goto 4, 3) := q_dg46.2.1.1.2.2
theorem dX1_lengthOf_26 : decode cX1_lengthOf 26 = .ok (.iconst 2, 1) := q_dg46.2.1.2.1
theorem dX1_lengthOf_27 : decode cX1_lengthOf 27 = .ok (.ireturn, 1) := q_dg46.2.1.2.2.1
theorem dX1_lengthOf_28 : decode cX1_lengthOf 28 = .ok (.iload_n 0, 1) := q_dg46.2.1.2.2.2
theorem dX1_lengthOf_29 : decode cX1_lengthOf 29 = .ok (.sipush 157, 3) := q_dg46.2.2.1.1
theorem dX1_lengthOf_32 : decode cX1_lengthOf 32 = .ok (.if_icmp .lt 10, 3) := q_dg46.2.2.1.2.1
theorem dX1_lengthOf_35 : decode cX1_lengthOf 35 = .ok (.iload_n 0, 1) := q_dg46.2.2.1.2.2
theorem dX1_lengthOf_36 : decode cX1_lengthOf 36 = .ok (.sipush 167, 3) := q_dg46.2.2.2.1
theorem dX1_lengthOf_39 : decode cX1_lengthOf 39 = .ok (.if_icmp .le 5, 3) := q_dg46.2.2.2.2.1
theorem dX1_lengthOf_42 : decode cX1_lengthOf 42 = .ok (.iconst 1, 1) := q_dg46.2.2.2.2.2
theorem q_dg47 : (((decode cX1_lengthOf 43 = .ok (.ireturn, 1)) ∧ (decode cX1_lengthOf 44 = .ok (.iload_n 0, 1))) ∧ ((decode cX1_lengthOf 45 = .ok (.sipush 160, 3)) ∧ (decode cX1_lengthOf 48 = .ok (.if_icmp .ge 7, 3)))) ∧ (((decode cX1_lengthOf 51 = .ok (.iconst 3, 1)) ∧ (decode cX1_lengthOf 52 = .ok (.goto 4, 3))) ∧ ((decode cX1_lengthOf 55 = .ok (.iconst 2, 1)) ∧ (decode cX1_lengthOf 56 = .ok (.ireturn, 1)))) := by decide +kernel
theorem dX1_lengthOf_43 : decode cX1_lengthOf 43 = .ok (.ireturn, 1) := q_dg47.1.1.1
theorem dX1_lengthOf_44 : decode cX1_lengthOf 44 = .ok (.iload_n 0, 1) := q_dg47.1.1.2
theorem dX1_lengthOf_45 : decode cX1_lengthOf 45 = .ok (.sipush 160, 3) := q_dg47.1.2.1
theorem dX1_lengthOf_48 : decode cX1_lengthOf 48 = .ok (.if_icmp .ge 7, 3) := q_dg47.1.2.2
theorem dX1_lengthOf_51 : decode cX1_lengthOf 51 = .ok (.iconst 3, 1) := q_dg47.2.1.1
theorem dX1_lengthOf_52 : decode cX1_lengthOf 52 = .ok (.goto 4, 3) := q_dg47.2.1.2
theorem dX1_lengthOf_55 : decode cX1_lengthOf 55 = .ok (.iconst 2, 1) := q_dg47.2.2.1
theorem dX1_lengthOf_56 : decode cX1_lengthOf 56 = .ok (.ireturn, 1) := q_dg47.2.2.2
theorem q_dg48 : ((decode cX1_cyclesOfMode 0 = .ok (.getstatic 19, 3)) ∧ ((decode cX1_cyclesOfMode 3 = .ok (.iload_n 0, 1)) ∧ (decode cX1_cyclesOfMode 4 = .ok (.bipush 7, 2)))) ∧ ((decode cX1_cyclesOfMode 6 = .ok (.iand, 1)) ∧ ((decode cX1_cyclesOfMode 7 = .ok (.iaload, 1)) ∧ (decode cX1_cyclesOfMode 8 = .ok (.ireturn, 1)))) := by decide +kernel
theorem dX1_cyclesOfMode_0 : decode cX1_cyclesOfMode 0 = .ok (.getstatic 19, 3) := q_dg48.1.1
theorem dX1_cyclesOfMode_3 : decode cX1_cyclesOfMode 3 = .ok (.iload_n 0, 1) := q_dg48.1.2.1
theorem dX1_cyclesOfMode_4 : decode cX1_cyclesOfMode 4 = .ok (.bipush 7, 2) := q_dg48.1.2.2
theorem dX1_cyclesOfMode_6 : decode cX1_cyclesOfMode 6 = .ok (.iand, 1) := q_dg48.2.1
theorem dX1_cyclesOfMode_7 : decode cX1_cyclesOfMode 7 = .ok (.iaload, 1) := q_dg48.2.2.1
theorem dX1_cyclesOfMode_8 : decode cX1_cyclesOfMode 8 = .ok (.ireturn, 1) := q_dg48.2.2.2
theorem q_dg49 : ((((decode cX1_cyclesOf 0 = .ok (.iload_n 0, 1)) ∧ (decode cX1_cyclesOf 1 = .ok (.sipush 128, 3))) ∧ ((decode cX1_cyclesOf 4 = .ok (.isub, 1)) ∧ (decode cX1_cyclesOf 5 = .ok (.istore_n 1, 1)))) ∧ (((decode cX1_cyclesOf 6 = .ok (.iload_n 1, 1)) ∧ (decode cX1_cyclesOf 7 = .ok (.ifCond .lt 19, 3))) ∧ ((decode cX1_cyclesOf 10 = .ok (.iload_n 1, 1)) ∧ (decode cX1_cyclesOf 11 = .ok (.getstatic 23, 3))))) ∧ ((((decode cX1_cyclesOf 14 = .ok (.arraylength, 1)) ∧ (decode cX1_cyclesOf 15 = .ok (.if_icmp .ge 11, 3))) ∧ ((decode cX1_cyclesOf 18 = .ok (.getstatic 23, 3)) ∧ (decode cX1_cyclesOf 21 = .ok (.iload_n 1, 1)))) ∧ (((decode cX1_cyclesOf 22 = .ok (.iaload, 1)) ∧ (decode cX1_cyclesOf 23 = .ok (.goto 4, 3))) ∧ ((decode cX1_cyclesOf 26 = .ok (.iconst 2, 1)) ∧ (decode cX1_cyclesOf 27 = .ok (.ireturn, 1))))) := by decide +kernel
theorem dX1_cyclesOf_0 : decode cX1_cyclesOf 0 = .ok (.iload_n 0, 1) := q_dg49.1.1.1.1
theorem dX1_cyclesOf_1 : decode cX1_cyclesOf 1 = .ok (.sipush 128, 3) := q_dg49.1.1.1.2
theorem dX1_cyclesOf_4 : decode cX1_cyclesOf 4 = .ok (.isub, 1) := q_dg49.1.1.2.1
theorem dX1_cyclesOf_5 : decode cX1_cyclesOf 5 = .ok (.istore_n 1, 1) := q_dg49.1.1.2.2
theorem dX1_cyclesOf_6 : decode cX1_cyclesOf 6 = .ok (.iload_n 1, 1) := q_dg49.1.2.1.1
theorem dX1_cyclesOf_7 : decode cX1_cyclesOf 7 = .ok (.ifCond .lt 19, 3) := q_dg49.1.2.1.2
theorem dX1_cyclesOf_10 : decode cX1_cyclesOf 10 = .ok (.iload_n 1, 1) := q_dg49.1.2.2.1
theorem dX1_cyclesOf_11 : decode cX1_cyclesOf 11 = .ok (.getstatic 23, 3) := q_dg49.1.2.2.2
theorem dX1_cyclesOf_14 : decode cX1_cyclesOf 14 = .ok (.arraylength, 1) := q_dg49.2.1.1.1
theorem dX1_cyclesOf_15 : decode cX1_cyclesOf 15 = .ok (.if_icmp .ge 11, 3) := q_dg49.2.1.1.2
theorem dX1_cyclesOf_18 : decode cX1_cyclesOf 18 = .ok (.getstatic 23, 3) := q_dg49.2.1.2.1
theorem dX1_cyclesOf_21 : decode cX1_cyclesOf 21 = .ok (.iload_n 1, 1) := q_dg49.2.1.2.2
theorem dX1_cyclesOf_22 : decode cX1_cyclesOf 22 = .ok (.iaload, 1) := q_dg49.2.2.1.1
theorem dX1_cyclesOf_23 : decode cX1_cyclesOf 23 = .ok (.goto 4, 3) := q_dg49.2.2.1.2
theorem dX1_cyclesOf_26 : decode cX1_cyclesOf 26 = .ok (.iconst 2, 1) := q_dg49.2.2.2.1
theorem dX1_cyclesOf_27 : decode cX1_cyclesOf 27 = .ok (.ireturn, 1) := q_dg49.2.2.2.2
theorem q_dg50 : (((decode cX1_targetOf 0 = .ok (.iload_n 0, 1)) ∧ ((decode cX1_targetOf 1 = .ok (.iconst 2, 1)) ∧ (decode cX1_targetOf 2 = .ok (.iadd, 1)))) ∧ (((decode cX1_targetOf 3 = .ok (.iload_n 1, 1)) ∧ (decode cX1_targetOf 4 = .ok (.bipush 127, 2))) ∧ ((decode cX1_targetOf 6 = .ok (.if_icmp .le 11, 3)) ∧ (decode cX1_targetOf 9 = .ok (.iload_n 1, 1))))) ∧ ((((decode cX1_targetOf 10 = .ok (.sipush 256, 3)) ∧ (decode cX1_targetOf 13 = .ok (.isub, 1))) ∧ ((decode cX1_targetOf 14 = .ok (.goto 4, 3)) ∧ (decode cX1_targetOf 17 = .ok (.iload_n 1, 1)))) ∧ (((decode cX1_targetOf 18 = .ok (.iadd, 1)) ∧ (decode cX1_targetOf 19 = .ok (.sipush 4095, 3))) ∧ ((decode cX1_targetOf 22 = .ok (.iand, 1)) ∧ (decode cX1_targetOf 23 = .ok (.ireturn, 1))))) := by decide +kernel
theorem dX1_targetOf_0 : decode cX1_targetOf 0 = .ok (.iload_n 0, 1) := q_dg50.1.1.1
theorem dX1_targetOf_1 : decode cX1_targetOf 1 = .ok (.iconst 2, 1) := q_dg50.1.1.2.1
theorem dX1_targetOf_2 : decode cX1_targetOf 2 = .ok (.iadd, 1) := q_dg50.1.1.2.2
theorem dX1_targetOf_3 : decode cX1_targetOf 3 = .ok (.iload_n 1, 1) := q_dg50.1.2.1.1
theorem dX1_targetOf_4 : decode cX1_targetOf 4 = .ok (.bipush 127, 2) := q_dg50.1.2.1.2
theorem dX1_targetOf_6 : decode cX1_targetOf 6 = .ok (.if_icmp .le 11, 3) := q_dg50.1.2.2.1
theorem dX1_targetOf_9 : decode cX1_targetOf 9 = .ok (.iload_n 1, 1) := q_dg50.1.2.2.2
theorem dX1_targetOf_10 : decode cX1_targetOf 10 = .ok (.sipush 256, 3) := q_dg50.2.1.1.1
theorem dX1_targetOf_13 : decode cX1_targetOf 13 = .ok (.isub, 1) := q_dg50.2.1.1.2
theorem dX1_targetOf_14 : decode cX1_targetOf 14 = .ok (.goto 4, 3) := q_dg50.2.1.2.1
theorem dX1_targetOf_17 : decode cX1_targetOf 17 = .ok (.iload_n 1, 1) := q_dg50.2.1.2.2
theorem dX1_targetOf_18 : decode cX1_targetOf 18 = .ok (.iadd, 1) := q_dg50.2.2.1.1
theorem dX1_targetOf_19 : decode cX1_targetOf 19 = .ok (.sipush 4095, 3) := q_dg50.2.2.1.2
theorem dX1_targetOf_22 : decode cX1_targetOf 22 = .ok (.iand, 1) := q_dg50.2.2.2.1
theorem dX1_targetOf_23 : decode cX1_targetOf 23 = .ok (.ireturn, 1) := q_dg50.2.2.2.2
theorem q_dg51 : ((((decode cX1_appendName 0 = .ok (.iload_n 1, 1)) ∧ ((decode cX1_appendName 1 = .ok (.invokestatic 15, 3)) ∧ (decode cX1_appendName 4 = .ok (.istore_n 2, 1)))) ∧ ((decode cX1_appendName 5 = .ok (.iload_n 2, 1)) ∧ ((decode cX1_appendName 6 = .ok (.ifCond .lt 8, 3)) ∧ (decode cX1_appendName 9 = .ok (.ldc 26, 2))))) ∧ (((decode cX1_appendName 11 = .ok (.goto 5, 3)) ∧ ((decode cX1_appendName 14 = .ok (.ldc 28, 2)) ∧ (decode cX1_appendName 16 = .ok (.astore_n 3, 1)))) ∧ ((decode cX1_appendName 17 = .ok (.iconst 3, 1)) ∧ ((decode cX1_appendName 18 = .ok (.iload_n 2, 1)) ∧ (decode cX1_appendName 19 = .ok (.ifCond .lt 7, 3)))))) ∧ ((((decode cX1_appendName 22 = .ok (.iload_n 2, 1)) ∧ ((decode cX1_appendName 23 = .ok (.goto 8, 3)) ∧ (decode cX1_appendName 26 = .ok (.iload_n 1, 1)))) ∧ ((decode cX1_appendName 27 = .ok (.sipush 128, 3)) ∧ ((decode cX1_appendName 30 = .ok (.isub, 1)) ∧ (decode cX1_appendName 31 = .ok (.imul, 1))))) ∧ (((decode cX1_appendName 32 = .ok (.istore 4, 2)) ∧ ((decode cX1_appendName 34 = .ok (.iload 4, 2)) ∧ (decode cX1_appendName 36 = .ok (.ifCond .lt 14, 3)))) ∧ ((decode cX1_appendName 39 = .ok (.iload 4, 2)) ∧ ((decode cX1_appendName 41 = .ok (.iconst 2, 1)) ∧ (decode cX1_appendName 42 = .ok (.iadd, 1)))))) := by decide +kernel
theorem dX1_appendName_0 : decode cX1_appendName 0 = .ok (.iload_n 1, 1) := q_dg51.1.1.1.1
theorem dX1_appendName_1 : decode cX1_appendName 1 = .ok (.invokestatic 15, 3) := q_dg51.1.1.1.2.1
theorem dX1_appendName_4 : decode cX1_appendName 4 = .ok (.istore_n 2, 1) := q_dg51.1.1.1.2.2
theorem dX1_appendName_5 : decode cX1_appendName 5 = .ok (.iload_n 2, 1) := q_dg51.1.1.2.1
theorem dX1_appendName_6 : decode cX1_appendName 6 = .ok (.ifCond .lt 8, 3) := q_dg51.1.1.2.2.1
theorem dX1_appendName_9 : decode cX1_appendName 9 = .ok (.ldc 26, 2) := q_dg51.1.1.2.2.2
theorem dX1_appendName_11 : decode cX1_appendName 11 = .ok (.goto 5, 3) := q_dg51.1.2.1.1
theorem dX1_appendName_14 : decode cX1_appendName 14 = .ok (.ldc 28, 2) := q_dg51.1.2.1.2.1
theorem dX1_appendName_16 : decode cX1_appendName 16 = .ok (.astore_n 3, 1) := q_dg51.1.2.1.2.2
theorem dX1_appendName_17 : decode cX1_appendName 17 = .ok (.iconst 3, 1) := q_dg51.1.2.2.1
theorem dX1_appendName_18 : decode cX1_appendName 18 = .ok (.iload_n 2, 1) := q_dg51.1.2.2.2.1
theorem dX1_appendName_19 : decode cX1_appendName 19 = .ok (.ifCond .lt 7, 3) := q_dg51.1.2.2.2.2
theorem dX1_appendName_22 : decode cX1_appendName 22 = .ok (.iload_n 2, 1) := q_dg51.2.1.1.1
theorem dX1_appendName_23 : decode cX1_appendName 23 = .ok (.goto 8, 3) := q_dg51.2.1.1.2.1
theorem dX1_appendName_26 : decode cX1_appendName 26 = .ok (.iload_n 1, 1) := q_dg51.2.1.1.2.2
theorem dX1_appendName_27 : decode cX1_appendName 27 = .ok (.sipush 128, 3) := q_dg51.2.1.2.1
theorem dX1_appendName_30 : decode cX1_appendName 30 = .ok (.isub, 1) := q_dg51.2.1.2.2.1
theorem dX1_appendName_31 : decode cX1_appendName 31 = .ok (.imul, 1) := q_dg51.2.1.2.2.2
theorem dX1_appendName_32 : decode cX1_appendName 32 = .ok (.istore 4, 2) := q_dg51.2.2.1.1
theorem dX1_appendName_34 : decode cX1_appendName 34 = .ok (.iload 4, 2) := q_dg51.2.2.1.2.1
theorem dX1_appendName_36 : decode cX1_appendName 36 = .ok (.ifCond .lt 14, 3) := q_dg51.2.2.1.2.2
theorem dX1_appendName_39 : decode cX1_appendName 39 = .ok (.iload 4, 2) := q_dg51.2.2.2.1
theorem dX1_appendName_41 : decode cX1_appendName 41 = .ok (.iconst 2, 1) := q_dg51.2.2.2.2.1
theorem dX1_appendName_42 : decode cX1_appendName 42 = .ok (.iadd, 1) := q_dg51.2.2.2.2.2
theorem q_dg52 : ((((decode cX1_appendName 43 = .ok (.aload_n 3, 1)) ∧ ((decode cX1_appendName 44 = .ok (.invokevirtual 30, 3)) ∧ (decode cX1_appendName 47 = .ok (.if_icmp .lt 11, 3)))) ∧ ((decode cX1_appendName 50 = .ok (.aload_n 0, 1)) ∧ ((decode cX1_appendName 51 = .ok (.ldc 36, 2)) ∧ (decode cX1_appendName 53 = .ok (.invokevirtual 38, 3))))) ∧ (((decode cX1_appendName 56 = .ok (.pop, 1)) ∧ ((decode cX1_appendName 57 = .ok (.return_, 1)) ∧ (decode cX1_appendName 58 = .ok (.iload 4, 2)))) ∧ ((decode cX1_appendName 60 = .ok (.istore 5, 2)) ∧ ((decode cX1_appendName 62 = .ok (.iload 5, 2)) ∧ (decode cX1_appendName 64 = .ok (.iload 4, 2)))))) ∧ ((((decode cX1_appendName 66 = .ok (.iconst 2, 1)) ∧ ((decode cX1_appendName 67 = .ok (.iadd, 1)) ∧ (decode cX1_appendName 68 = .ok (.if_icmp .gt 20, 3)))) ∧ ((decode cX1_appendName 71 = .ok (.aload_n 0, 1)) ∧ ((decode cX1_appendName 72 = .ok (.aload_n 3, 1)) ∧ (decode cX1_appendName 73 = .ok (.iload 5, 2))))) ∧ (((decode cX1_appendName 75 = .ok (.invokevirtual 44, 3)) ∧ ((decode cX1_appendName 78 = .ok (.invokevirtual 48, 3)) ∧ (decode cX1_appendName 81 = .ok (.pop, 1)))) ∧ ((decode cX1_appendName 82 = .ok (.iinc 5 1, 3)) ∧ ((decode cX1_appendName 85 = .ok (.goto (-23), 3)) ∧ (decode cX1_appendName 88 = .ok (.return_, 1)))))) := by decide +kernel
theorem dX1_appendName_43 : decode cX1_appendName 43 = .ok (.aload_n 3, 1) := q_dg52.1.1.1.1
theorem dX1_appendName_44 : decode cX1_appendName 44 = .ok (.invokevirtual 30, 3) := q_dg52.1.1.1.2.1
theorem dX1_appendName_47 : decode cX1_appendName 47 = .ok (.if_icmp .lt 11, 3) := q_dg52.1.1.1.2.2
theorem dX1_appendName_50 : decode cX1_appendName 50 = .ok (.aload_n 0, 1) := q_dg52.1.1.2.1
theorem dX1_appendName_51 : decode cX1_appendName 51 = .ok (.ldc 36, 2) := q_dg52.1.1.2.2.1
theorem dX1_appendName_53 : decode cX1_appendName 53 = .ok (.invokevirtual 38, 3) := q_dg52.1.1.2.2.2
theorem dX1_appendName_56 : decode cX1_appendName 56 = .ok (.pop, 1) := q_dg52.1.2.1.1
theorem dX1_appendName_57 : decode cX1_appendName 57 = .ok (.return_, 1) := q_dg52.1.2.1.2.1
theorem dX1_appendName_58 : decode cX1_appendName 58 = .ok (.iload 4, 2) := q_dg52.1.2.1.2.2
theorem dX1_appendName_60 : decode cX1_appendName 60 = .ok (.istore 5, 2) := q_dg52.1.2.2.1
theorem dX1_appendName_62 : decode cX1_appendName 62 = .ok (.iload 5, 2) := q_dg52.1.2.2.2.1
theorem dX1_appendName_64 : decode cX1_appendName 64 = .ok (.iload 4, 2) := q_dg52.1.2.2.2.2
theorem dX1_appendName_66 : decode cX1_appendName 66 = .ok (.iconst 2, 1) := q_dg52.2.1.1.1
theorem dX1_appendName_67 : decode cX1_appendName 67 = .ok (.iadd, 1) := q_dg52.2.1.1.2.1
theorem dX1_appendName_68 : decode cX1_appendName 68 = .ok (.if_icmp .gt 20, 3) := q_dg52.2.1.1.2.2
theorem dX1_appendName_71 : decode cX1_appendName 71 = .ok (.aload_n 0, 1) := q_dg52.2.1.2.1
theorem dX1_appendName_72 : decode cX1_appendName 72 = .ok (.aload_n 3, 1) := q_dg52.2.1.2.2.1
theorem dX1_appendName_73 : decode cX1_appendName 73 = .ok (.iload 5, 2) := q_dg52.2.1.2.2.2
theorem dX1_appendName_75 : decode cX1_appendName 75 = .ok (.invokevirtual 44, 3) := q_dg52.2.2.1.1
theorem dX1_appendName_78 : decode cX1_appendName 78 = .ok (.invokevirtual 48, 3) := q_dg52.2.2.1.2.1
theorem dX1_appendName_81 : decode cX1_appendName 81 = .ok (.pop, 1) := q_dg52.2.2.1.2.2
theorem dX1_appendName_82 : decode cX1_appendName 82 = .ok (.iinc 5 1, 3) := q_dg52.2.2.2.1
theorem dX1_appendName_85 : decode cX1_appendName 85 = .ok (.goto (-23), 3) := q_dg52.2.2.2.2.1
theorem dX1_appendName_88 : decode cX1_appendName 88 = .ok (.return_, 1) := q_dg52.2.2.2.2.2
theorem q_dg53 : (((decode cX2_init 0 = .ok (.aload_n 0, 1)) ∧ ((decode cX2_init 1 = .ok (.invokespecial 3, 3)) ∧ (decode cX2_init 4 = .ok (.aload_n 0, 1)))) ∧ ((decode cX2_init 5 = .ok (.new 9, 3)) ∧ ((decode cX2_init 8 = .ok (.dup, 1)) ∧ (decode cX2_init 9 = .ok (.invokespecial 11, 3))))) ∧ (((decode cX2_init 12 = .ok (.putfield 12, 3)) ∧ ((decode cX2_init 15 = .ok (.aload_n 0, 1)) ∧ (decode cX2_init 16 = .ok (.sipush 3072, 3)))) ∧ ((decode cX2_init 19 = .ok (.newarray .int, 2)) ∧ ((decode cX2_init 21 = .ok (.putfield 18, 3)) ∧ (decode cX2_init 24 = .ok (.return_, 1))))) := by decide +kernel
theorem dX2_init_0 : decode cX2_init 0 = .ok (.aload_n 0, 1) := q_dg53.1.1.1
theorem dX2_init_1 : decode cX2_init 1 = .ok (.invokespecial 3, 3) := q_dg53.1.1.2.1
theorem dX2_init_4 : decode cX2_init 4 = .ok (.aload_n 0, 1) := q_dg53.1.1.2.2
theorem dX2_init_5 : decode cX2_init 5 = .ok (.new 9, 3) := q_dg53.1.2.1
theorem dX2_init_8 : decode cX2_init 8 = .ok (.dup, 1) := q_dg53.1.2.2.1
theorem dX2_init_9 : decode cX2_init 9 = .ok (.invokespecial 11, 3) := q_dg53.1.2.2.2
theorem dX2_init_12 : decode cX2_init 12 = .ok (.putfield 12, 3) := q_dg53.2.1.1
theorem dX2_init_15 : decode cX2_init 15 = .ok (.aload_n 0, 1) := q_dg53.2.1.2.1
theorem dX2_init_16 : decode cX2_init 16 = .ok (.sipush 3072, 3) := q_dg53.2.1.2.2
theorem dX2_init_19 : decode cX2_init 19 = .ok (.newarray .int, 2) := q_dg53.2.2.1
theorem dX2_init_21 : decode cX2_init 21 = .ok (.putfield 18, 3) := q_dg53.2.2.2.1
theorem dX2_init_24 : decode cX2_init 24 = .ok (.return_, 1) := q_dg53.2.2.2.2
theorem q_dg54 : ((((decode cX2_become 0 = .ok (.aload_n 0, 1)) ∧ (decode cX2_become 1 = .ok (.getfield 12, 3))) ∧ ((decode cX2_become 4 = .ok (.aload_n 1, 1)) ∧ ((decode cX2_become 5 = .ok (.getfield 12, 3)) ∧ (decode cX2_become 8 = .ok (.invokevirtual 22, 3))))) ∧ (((decode cX2_become 11 = .ok (.aload_n 1, 1)) ∧ ((decode cX2_become 12 = .ok (.getfield 18, 3)) ∧ (decode cX2_become 15 = .ok (.iconst 0, 1)))) ∧ ((decode cX2_become 16 = .ok (.aload_n 0, 1)) ∧ ((decode cX2_become 17 = .ok (.getfield 18, 3)) ∧ (decode cX2_become 20 = .ok (.iconst 0, 1)))))) ∧ ((((decode cX2_become 21 = .ok (.sipush 3072, 3)) ∧ (decode cX2_become 24 = .ok (.invokestatic 26, 3))) ∧ ((decode cX2_become 27 = .ok (.aload_n 0, 1)) ∧ ((decode cX2_become 28 = .ok (.aload_n 1, 1)) ∧ (decode cX2_become 29 = .ok (.getfield 32, 3))))) ∧ (((decode cX2_become 32 = .ok (.putfield 32, 3)) ∧ ((decode cX2_become 35 = .ok (.aload_n 0, 1)) ∧ (decode cX2_become 36 = .ok (.aload_n 1, 1)))) ∧ ((decode cX2_become 37 = .ok (.getfield 36, 3)) ∧ ((decode cX2_become 40 = .ok (.putfield 36, 3)) ∧ (decode cX2_become 43 = .ok (.return_, 1)))))) := by decide +kernel
theorem dX2_become_0 : decode cX2_become 0 = .ok (.aload_n 0, 1) := q_dg54.1.1.1.1
theorem dX2_become_1 : decode cX2_become 1 = .ok (.getfield 12, 3) := q_dg54.1.1.1.2
theorem dX2_become_4 : decode cX2_become 4 = .ok (.aload_n 1, 1) := q_dg54.1.1.2.1
theorem dX2_become_5 : decode cX2_become 5 = .ok (.getfield 12, 3) := q_dg54.1.1.2.2.1
theorem dX2_become_8 : decode cX2_become 8 = .ok (.invokevirtual 22, 3) := q_dg54.1.1.2.2.2
theorem dX2_become_11 : decode cX2_become 11 = .ok (.aload_n 1, 1) := q_dg54.1.2.1.1
theorem dX2_become_12 : decode cX2_become 12 = .ok (.getfield 18, 3) := q_dg54.1.2.1.2.1
theorem dX2_become_15 : decode cX2_become 15 = .ok (.iconst 0, 1) := q_dg54.1.2.1.2.2
theorem dX2_become_16 : decode cX2_become 16 = .ok (.aload_n 0, 1) := q_dg54.1.2.2.1
theorem dX2_become_17 : decode cX2_become 17 = .ok (.getfield 18, 3) := q_dg54.1.2.2.2.1
theorem dX2_become_20 : decode cX2_become 20 = .ok (.iconst 0, 1) := q_dg54.1.2.2.2.2
theorem dX2_become_21 : decode cX2_become 21 = .ok (.sipush 3072, 3) := q_dg54.2.1.1.1
theorem dX2_become_24 : decode cX2_become 24 = .ok (.invokestatic 26, 3) := q_dg54.2.1.1.2
theorem dX2_become_27 : decode cX2_become 27 = .ok (.aload_n 0, 1) := q_dg54.2.1.2.1
theorem dX2_become_28 : decode cX2_become 28 = .ok (.aload_n 1, 1) := q_dg54.2.1.2.2.1
theorem dX2_become_29 : decode cX2_become 29 = .ok (.getfield 32, 3) := q_dg54.2.1.2.2.2
theorem dX2_become_32 : decode cX2_become 32 = .ok (.putfield 32, 3) := q_dg54.2.2.1.1
theorem dX2_become_35 : decode cX2_become 35 = .ok (.aload_n 0, 1) := q_dg54.2.2.1.2.1
theorem dX2_become_36 : decode cX2_become 36 = .ok (.aload_n 1, 1) := q_dg54.2.2.1.2.2
theorem dX2_become_37 : decode cX2_become 37 = .ok (.getfield 36, 3) := q_dg54.2.2.2.1
theorem dX2_become_40 : decode cX2_become 40 = .ok (.putfield 36, 3) := q_dg54.2.2.2.2.1
theorem dX2_become_43 : decode cX2_become 43 = .ok (.return_, 1) := q_dg54.2.2.2.2.2
theorem q_dg55 : (((decode cX2_begin 0 = .ok (.aload_n 0, 1)) ∧ (decode cX2_begin 1 = .ok (.getfield 12, 3))) ∧ ((decode cX2_begin 4 = .ok (.aload_n 1, 1)) ∧ ((decode cX2_begin 5 = .ok (.invokevirtual 22, 3)) ∧ (decode cX2_begin 8 = .ok (.aload_n 0, 1))))) ∧ (((decode cX2_begin 9 = .ok (.iconst 0, 1)) ∧ ((decode cX2_begin 10 = .ok (.putfield 32, 3)) ∧ (decode cX2_begin 13 = .ok (.aload_n 0, 1)))) ∧ ((decode cX2_begin 14 = .ok (.iconst 0, 1)) ∧ ((decode cX2_begin 15 = .ok (.putfield 36, 3)) ∧ (decode cX2_begin 18 = .ok (.return_, 1))))) := by decide +kernel
theorem dX2_begin_0 : decode cX2_begin 0 = .ok (.aload_n 0, 1) := q_dg55.1.1.1
theorem dX2_begin_1 : decode cX2_begin 1 = .ok (.getfield 12, 3) := q_dg55.1.1.2
theorem dX2_begin_4 : decode cX2_begin 4 = .ok (.aload_n 1, 1) := q_dg55.1.2.1
theorem dX2_begin_5 : decode cX2_begin 5 = .ok (.invokevirtual 22, 3) := q_dg55.1.2.2.1
theorem dX2_begin_8 : decode cX2_begin 8 = .ok (.aload_n 0, 1) := q_dg55.1.2.2.2
theorem dX2_begin_9 : decode cX2_begin 9 = .ok (.iconst 0, 1) := q_dg55.2.1.1
theorem dX2_begin_10 : decode cX2_begin 10 = .ok (.putfield 32, 3) := q_dg55.2.1.2.1
theorem dX2_begin_13 : decode cX2_begin 13 = .ok (.aload_n 0, 1) := q_dg55.2.1.2.2
theorem dX2_begin_14 : decode cX2_begin 14 = .ok (.iconst 0, 1) := q_dg55.2.2.1
theorem dX2_begin_15 : decode cX2_begin 15 = .ok (.putfield 36, 3) := q_dg55.2.2.2.1
theorem dX2_begin_18 : decode cX2_begin 18 = .ok (.return_, 1) := q_dg55.2.2.2.2
theorem q_dg56 : ((((decode cX2_keep 0 = .ok (.aload_n 0, 1)) ∧ ((decode cX2_keep 1 = .ok (.getfield 32, 3)) ∧ (decode cX2_keep 4 = .ok (.ifCond .lt 46, 3)))) ∧ ((decode cX2_keep 7 = .ok (.aload_n 0, 1)) ∧ ((decode cX2_keep 8 = .ok (.getfield 32, 3)) ∧ (decode cX2_keep 11 = .ok (.sipush 3072, 3))))) ∧ (((decode cX2_keep 14 = .ok (.if_icmp .ge 36, 3)) ∧ ((decode cX2_keep 17 = .ok (.aload_n 0, 1)) ∧ (decode cX2_keep 18 = .ok (.getfield 18, 3)))) ∧ ((decode cX2_keep 21 = .ok (.aload_n 0, 1)) ∧ ((decode cX2_keep 22 = .ok (.getfield 32, 3)) ∧ (decode cX2_keep 25 = .ok (.aload_n 0, 1)))))) ∧ ((((decode cX2_keep 26 = .ok (.getfield 36, 3)) ∧ ((decode cX2_keep 29 = .ok (.bipush 21, 2)) ∧ (decode cX2_keep 31 = .ok (.ishl, 1)))) ∧ ((decode cX2_keep 32 = .ok (.iload_n 1, 1)) ∧ ((decode cX2_keep 33 = .ok (.bipush 8, 2)) ∧ (decode cX2_keep 35 = .ok (.ishl, 1))))) ∧ (((decode cX2_keep 36 = .ok (.iadd, 1)) ∧ ((decode cX2_keep 37 = .ok (.iload_n 2, 1)) ∧ (decode cX2_keep 38 = .ok (.iadd, 1)))) ∧ ((decode cX2_keep 39 = .ok (.iastore, 1)) ∧ ((decode cX2_keep 40 = .ok (.aload_n 0, 1)) ∧ (decode cX2_keep 41 = .ok (.dup, 1)))))) := by decide +kernel
theorem dX2_keep_0 : decode cX2_keep 0 = .ok (.aload_n 0, 1) := q_dg56.1.1.1.1
theorem dX2_keep_1 : decode cX2_keep 1 = .ok (.getfield 32, 3) := q_dg56.1.1.1.2.1
theorem dX2_keep_4 : decode cX2_keep 4 = .ok (.ifCond .lt 46, 3) := q_dg56.1.1.1.2.2
theorem dX2_keep_7 : decode cX2_keep 7 = .ok (.aload_n 0, 1) := q_dg56.1.1.2.1
theorem dX2_keep_8 : decode cX2_keep 8 = .ok (.getfield 32, 3) := q_dg56.1.1.2.2.1
theorem dX2_keep_11 : decode cX2_keep 11 = .ok (.sipush 3072, 3) := q_dg56.1.1.2.2.2
theorem dX2_keep_14 : decode cX2_keep 14 = .ok (.if_icmp .ge 36, 3) := q_dg56.1.2.1.1
theorem dX2_keep_17 : decode cX2_keep 17 = .ok (.aload_n 0, 1) := q_dg56.1.2.1.2.1
theorem dX2_keep_18 : decode cX2_keep 18 = .ok (.getfield 18, 3) := q_dg56.1.2.1.2.2
theorem dX2_keep_21 : decode cX2_keep 21 = .ok (.aload_n 0, 1) := q_dg56.1.2.2.1
theorem dX2_keep_22 : decode cX2_keep 22 = .ok (.getfield 32, 3) := q_dg56.1.2.2.2.1
theorem dX2_keep_25 : decode cX2_keep 25 = .ok (.aload_n 0, 1) := q_dg56.1.2.2.2.2
theorem dX2_keep_26 : decode cX2_keep 26 = .ok (.getfield 36, 3) := q_dg56.2.1.1.1
theorem dX2_keep_29 : decode cX2_keep 29 = .ok (.bipush 21, 2) := q_dg56.2.1.1.2.1
theorem dX2_keep_31 : decode cX2_keep 31 = .ok (.ishl, 1) := q_dg56.2.1.1.2.2
theorem dX2_keep_32 : decode cX2_keep 32 = .ok (.iload_n 1, 1) := q_dg56.2.1.2.1
theorem dX2_keep_33 : decode cX2_keep 33 = .ok (.bipush 8, 2) := q_dg56.2.1.2.2.1
theorem dX2_keep_35 : decode cX2_keep 35 = .ok (.ishl, 1) := q_dg56.2.1.2.2.2
theorem dX2_keep_36 : decode cX2_keep 36 = .ok (.iadd, 1) := q_dg56.2.2.1.1
theorem dX2_keep_37 : decode cX2_keep 37 = .ok (.iload_n 2, 1) := q_dg56.2.2.1.2.1
theorem dX2_keep_38 : decode cX2_keep 38 = .ok (.iadd, 1) := q_dg56.2.2.1.2.2
theorem dX2_keep_39 : decode cX2_keep 39 = .ok (.iastore, 1) := q_dg56.2.2.2.1
theorem dX2_keep_40 : decode cX2_keep 40 = .ok (.aload_n 0, 1) := q_dg56.2.2.2.2.1
theorem dX2_keep_41 : decode cX2_keep 41 = .ok (.dup, 1) := q_dg56.2.2.2.2.2
theorem q_dg57 : ((decode cX2_keep 42 = .ok (.getfield 32, 3)) ∧ (decode cX2_keep 45 = .ok (.iconst 1, 1))) ∧ ((decode cX2_keep 46 = .ok (.iadd, 1)) ∧ ((decode cX2_keep 47 = .ok (.putfield 32, 3)) ∧ (decode cX2_keep 50 = .ok (.return_, 1)))) := by decide +kernel
theorem dX2_keep_42 : decode cX2_keep 42 = .ok (.getfield 32, 3) := q_dg57.1.1
theorem dX2_keep_45 : decode cX2_keep 45 = .ok (.iconst 1, 1) := q_dg57.1.2
theorem dX2_keep_46 : decode cX2_keep 46 = .ok (.iadd, 1) := q_dg57.2.1
theorem dX2_keep_47 : decode cX2_keep 47 = .ok (.putfield 32, 3) := q_dg57.2.2.1
theorem dX2_keep_50 : decode cX2_keep 50 = .ok (.return_, 1) := q_dg57.2.2.2
theorem q_dg58 : ((((decode cX2_replay 0 = .ok (.aload_n 2, 1)) ∧ ((decode cX2_replay 1 = .ok (.aload_n 0, 1)) ∧ (decode cX2_replay 2 = .ok (.getfield 12, 3)))) ∧ ((decode cX2_replay 5 = .ok (.invokevirtual 22, 3)) ∧ ((decode cX2_replay 8 = .ok (.iconst 0, 1)) ∧ (decode cX2_replay 9 = .ok (.istore_n 3, 1))))) ∧ (((decode cX2_replay 10 = .ok (.iload_n 3, 1)) ∧ ((decode cX2_replay 11 = .ok (.aload_n 0, 1)) ∧ (decode cX2_replay 12 = .ok (.getfield 32, 3)))) ∧ ((decode cX2_replay 15 = .ok (.if_icmp .ge 76, 3)) ∧ ((decode cX2_replay 18 = .ok (.iload_n 3, 1)) ∧ (decode cX2_replay 19 = .ok (.sipush 3072, 3)))))) ∧ ((((decode cX2_replay 22 = .ok (.if_icmp .ge 69, 3)) ∧ ((decode cX2_replay 25 = .ok (.aload_n 0, 1)) ∧ (decode cX2_replay 26 = .ok (.getfield 18, 3)))) ∧ ((decode cX2_replay 29 = .ok (.iload_n 3, 1)) ∧ ((decode cX2_replay 30 = .ok (.iaload, 1)) ∧ (decode cX2_replay 31 = .ok (.bipush 21, 2))))) ∧ (((decode cX2_replay 33 = .ok (.ishr, 1)) ∧ ((decode cX2_replay 34 = .ok (.iload_n 1, 1)) ∧ (decode cX2_replay 35 = .ok (.if_icmp .le 4, 3)))) ∧ ((decode cX2_replay 38 = .ok (.return_, 1)) ∧ ((decode cX2_replay 39 = .ok (.aload_n 0, 1)) ∧ (decode cX2_replay 40 = .ok (.getfield 18, 3)))))) := by decide +kernel
theorem dX2_replay_0 : decode cX2_replay 0 = .ok (.aload_n 2, 1) := q_dg58.1.1.1.1
theorem dX2_replay_1 : decode cX2_replay 1 = .ok (.aload_n 0, 1) := q_dg58.1.1.1.2.1
theorem dX2_replay_2 : decode cX2_replay 2 = .ok (.getfield 12, 3) := q_dg58.1.1.1.2.2
theorem dX2_replay_5 : decode cX2_replay 5 = .ok (.invokevirtual 22, 3) := q_dg58.1.1.2.1
theorem dX2_replay_8 : decode cX2_replay 8 = .ok (.iconst 0, 1) := q_dg58.1.1.2.2.1
theorem dX2_replay_9 : decode cX2_replay 9 = .ok (.istore_n 3, 1) := q_dg58.1.1.2.2.2
theorem dX2_replay_10 : decode cX2_replay 10 = .ok (.iload_n 3, 1) := q_dg58.1.2.1.1
theorem dX2_replay_11 : decode cX2_replay 11 = .ok (.aload_n 0, 1) := q_dg58.1.2.1.2.1
theorem dX2_replay_12 : decode cX2_replay 12 = .ok (.getfield 32, 3) := q_dg58.1.2.1.2.2
theorem dX2_replay_15 : decode cX2_replay 15 = .ok (.if_icmp .ge 76, 3) := q_dg58.1.2.2.1
theorem dX2_replay_18 : decode cX2_replay 18 = .ok (.iload_n 3, 1) := q_dg58.1.2.2.2.1
theorem dX2_replay_19 : decode cX2_replay 19 = .ok (.sipush 3072, 3) := q_dg58.1.2.2.2.2
theorem dX2_replay_22 : decode cX2_replay 22 = .ok (.if_icmp .ge 69, 3) := q_dg58.2.1.1.1
theorem dX2_replay_25 : decode cX2_replay 25 = .ok (.aload_n 0, 1) := q_dg58.2.1.1.2.1
theorem dX2_replay_26 : decode cX2_replay 26 = .ok (.getfield 18, 3) := q_dg58.2.1.1.2.2
theorem dX2_replay_29 : decode cX2_replay 29 = .ok (.iload_n 3, 1) := q_dg58.2.1.2.1
theorem dX2_replay_30 : decode cX2_replay 30 = .ok (.iaload, 1) := q_dg58.2.1.2.2.1
theorem dX2_replay_31 : decode cX2_replay 31 = .ok (.bipush 21, 2) := q_dg58.2.1.2.2.2
theorem dX2_replay_33 : decode cX2_replay 33 = .ok (.ishr, 1) := q_dg58.2.2.1.1
theorem dX2_replay_34 : decode cX2_replay 34 = .ok (.iload_n 1, 1) := q_dg58.2.2.1.2.1
theorem dX2_replay_35 : decode cX2_replay 35 = .ok (.if_icmp .le 4, 3) := q_dg58.2.2.1.2.2
theorem dX2_replay_38 : decode cX2_replay 38 = .ok (.return_, 1) := q_dg58.2.2.2.1
theorem dX2_replay_39 : decode cX2_replay 39 = .ok (.aload_n 0, 1) := q_dg58.2.2.2.2.1
theorem dX2_replay_40 : decode cX2_replay 40 = .ok (.getfield 18, 3) := q_dg58.2.2.2.2.2
theorem q_dg59 : ((((decode cX2_replay 43 = .ok (.iload_n 3, 1)) ∧ ((decode cX2_replay 44 = .ok (.iaload, 1)) ∧ (decode cX2_replay 45 = .ok (.bipush 8, 2)))) ∧ ((decode cX2_replay 47 = .ok (.ishr, 1)) ∧ ((decode cX2_replay 48 = .ok (.sipush 8191, 3)) ∧ (decode cX2_replay 51 = .ok (.iand, 1))))) ∧ (((decode cX2_replay 52 = .ok (.istore 4, 2)) ∧ ((decode cX2_replay 54 = .ok (.iload 4, 2)) ∧ (decode cX2_replay 56 = .ok (.sipush 4096, 3)))) ∧ ((decode cX2_replay 59 = .ok (.if_icmp .ne 10, 3)) ∧ ((decode cX2_replay 62 = .ok (.aload_n 2, 1)) ∧ (decode cX2_replay 63 = .ok (.invokevirtual 39, 3)))))) ∧ ((((decode cX2_replay 66 = .ok (.goto 19, 3)) ∧ ((decode cX2_replay 69 = .ok (.aload_n 2, 1)) ∧ (decode cX2_replay 70 = .ok (.iload 4, 2)))) ∧ ((decode cX2_replay 72 = .ok (.aload_n 0, 1)) ∧ ((decode cX2_replay 73 = .ok (.getfield 18, 3)) ∧ (decode cX2_replay 76 = .ok (.iload_n 3, 1))))) ∧ (((decode cX2_replay 77 = .ok (.iaload, 1)) ∧ ((decode cX2_replay 78 = .ok (.sipush 255, 3)) ∧ (decode cX2_replay 81 = .ok (.iand, 1)))) ∧ ((decode cX2_replay 82 = .ok (.invokevirtual 42, 3)) ∧ ((decode cX2_replay 85 = .ok (.iinc 3 1, 3)) ∧ (decode cX2_replay 88 = .ok (.goto (-78), 3)))))) := by decide +kernel
theorem dX2_replay_43 : decode cX2_replay 43 = .ok (.iload_n 3, 1) := q_dg59.1.1.1.1
theorem dX2_replay_44 : decode cX2_replay 44 = .ok (.iaload, 1) := q_dg59.1.1.1.2.1
theorem dX2_replay_45 : decode cX2_replay 45 = .ok (.bipush 8, 2) := q_dg59.1.1.1.2.2
theorem dX2_replay_47 : decode cX2_replay 47 = .ok (.ishr, 1) := q_dg59.1.1.2.1
theorem dX2_replay_48 : decode cX2_replay 48 = .ok (.sipush 8191, 3) := q_dg59.1.1.2.2.1
theorem dX2_replay_51 : decode cX2_replay 51 = .ok (.iand, 1) := q_dg59.1.1.2.2.2
theorem dX2_replay_52 : decode cX2_replay 52 = .ok (.istore 4, 2) := q_dg59.1.2.1.1
theorem dX2_replay_54 : decode cX2_replay 54 = .ok (.iload 4, 2) := q_dg59.1.2.1.2.1
theorem dX2_replay_56 : decode cX2_replay 56 = .ok (.sipush 4096, 3) := q_dg59.1.2.1.2.2
theorem dX2_replay_59 : decode cX2_replay 59 = .ok (.if_icmp .ne 10, 3) := q_dg59.1.2.2.1
theorem dX2_replay_62 : decode cX2_replay 62 = .ok (.aload_n 2, 1) := q_dg59.1.2.2.2.1
theorem dX2_replay_63 : decode cX2_replay 63 = .ok (.invokevirtual 39, 3) := q_dg59.1.2.2.2.2
theorem dX2_replay_66 : decode cX2_replay 66 = .ok (.goto 19, 3) := q_dg59.2.1.1.1
theorem dX2_replay_69 : decode cX2_replay 69 = .ok (.aload_n 2, 1) := q_dg59.2.1.1.2.1
theorem dX2_replay_70 : decode cX2_replay 70 = .ok (.iload 4, 2) := q_dg59.2.1.1.2.2
theorem dX2_replay_72 : decode cX2_replay 72 = .ok (.aload_n 0, 1) := q_dg59.2.1.2.1
theorem dX2_replay_73 : decode cX2_replay 73 = .ok (.getfield 18, 3) := q_dg59.2.1.2.2.1
theorem dX2_replay_76 : decode cX2_replay 76 = .ok (.iload_n 3, 1) := q_dg59.2.1.2.2.2
theorem dX2_replay_77 : decode cX2_replay 77 = .ok (.iaload, 1) := q_dg59.2.2.1.1
theorem dX2_replay_78 : decode cX2_replay 78 = .ok (.sipush 255, 3) := q_dg59.2.2.1.2.1
theorem dX2_replay_81 : decode cX2_replay 81 = .ok (.iand, 1) := q_dg59.2.2.1.2.2
theorem dX2_replay_82 : decode cX2_replay 82 = .ok (.invokevirtual 42, 3) := q_dg59.2.2.2.1
theorem dX2_replay_85 : decode cX2_replay 85 = .ok (.iinc 3 1, 3) := q_dg59.2.2.2.2.1
theorem dX2_replay_88 : decode cX2_replay 88 = .ok (.goto (-78), 3) := q_dg59.2.2.2.2.2
theorem dX2_replay_91 : decode cX2_replay 91 = .ok (.return_, 1) := by decide +kernel
theorem q_dg60 : (((decode cX3_init 0 = .ok (.aload_n 0, 1)) ∧ (decode cX3_init 1 = .ok (.invokespecial 1, 3))) ∧ ((decode cX3_init 4 = .ok (.aload_n 0, 1)) ∧ ((decode cX3_init 5 = .ok (.iconst 4, 1)) ∧ (decode cX3_init 6 = .ok (.newarray .int, 2))))) ∧ (((decode cX3_init 8 = .ok (.putfield 9, 3)) ∧ ((decode cX3_init 11 = .ok (.aload_n 0, 1)) ∧ (decode cX3_init 12 = .ok (.bipush 16, 2)))) ∧ ((decode cX3_init 14 = .ok (.newarray .int, 2)) ∧ ((decode cX3_init 16 = .ok (.putfield 13, 3)) ∧ (decode cX3_init 19 = .ok (.return_, 1))))) := by decide +kernel
theorem dX3_init_0 : decode cX3_init 0 = .ok (.aload_n 0, 1) := q_dg60.1.1.1
theorem dX3_init_1 : decode cX3_init 1 = .ok (.invokespecial 1, 3) := q_dg60.1.1.2
theorem dX3_init_4 : decode cX3_init 4 = .ok (.aload_n 0, 1) := q_dg60.1.2.1
theorem dX3_init_5 : decode cX3_init 5 = .ok (.iconst 4, 1) := q_dg60.1.2.2.1
theorem dX3_init_6 : decode cX3_init 6 = .ok (.newarray .int, 2) := q_dg60.1.2.2.2
theorem dX3_init_8 : decode cX3_init 8 = .ok (.putfield 9, 3) := q_dg60.2.1.1
theorem dX3_init_11 : decode cX3_init 11 = .ok (.aload_n 0, 1) := q_dg60.2.1.2.1
theorem dX3_init_12 : decode cX3_init 12 = .ok (.bipush 16, 2) := q_dg60.2.1.2.2
theorem dX3_init_14 : decode cX3_init 14 = .ok (.newarray .int, 2) := q_dg60.2.2.1
theorem dX3_init_16 : decode cX3_init 16 = .ok (.putfield 13, 3) := q_dg60.2.2.2.1
theorem dX3_init_19 : decode cX3_init 19 = .ok (.return_, 1) := q_dg60.2.2.2.2
theorem q_dg61 : ((((decode cX3_become 0 = .ok (.aload_n 1, 1)) ∧ (decode cX3_become 1 = .ok (.getfield 9, 3))) ∧ ((decode cX3_become 4 = .ok (.iconst 0, 1)) ∧ ((decode cX3_become 5 = .ok (.aload_n 0, 1)) ∧ (decode cX3_become 6 = .ok (.getfield 9, 3))))) ∧ (((decode cX3_become 9 = .ok (.iconst 0, 1)) ∧ (decode cX3_become 10 = .ok (.iconst 4, 1))) ∧ ((decode cX3_become 11 = .ok (.invokestatic 16, 3)) ∧ ((decode cX3_become 14 = .ok (.aload_n 1, 1)) ∧ (decode cX3_become 15 = .ok (.getfield 13, 3)))))) ∧ ((((decode cX3_become 18 = .ok (.iconst 0, 1)) ∧ (decode cX3_become 19 = .ok (.aload_n 0, 1))) ∧ ((decode cX3_become 20 = .ok (.getfield 13, 3)) ∧ ((decode cX3_become 23 = .ok (.iconst 0, 1)) ∧ (decode cX3_become 24 = .ok (.bipush 16, 2))))) ∧ (((decode cX3_become 26 = .ok (.invokestatic 16, 3)) ∧ ((decode cX3_become 29 = .ok (.aload_n 0, 1)) ∧ (decode cX3_become 30 = .ok (.aload_n 1, 1)))) ∧ ((decode cX3_become 31 = .ok (.getfield 22, 3)) ∧ ((decode cX3_become 34 = .ok (.putfield 22, 3)) ∧ (decode cX3_become 37 = .ok (.return_, 1)))))) := by decide +kernel
theorem dX3_become_0 : decode cX3_become 0 = .ok (.aload_n 1, 1) := q_dg61.1.1.1.1
theorem dX3_become_1 : decode cX3_become 1 = .ok (.getfield 9, 3) := q_dg61.1.1.1.2
theorem dX3_become_4 : decode cX3_become 4 = .ok (.iconst 0, 1) := q_dg61.1.1.2.1
theorem dX3_become_5 : decode cX3_become 5 = .ok (.aload_n 0, 1) := q_dg61.1.1.2.2.1
theorem dX3_become_6 : decode cX3_become 6 = .ok (.getfield 9, 3) := q_dg61.1.1.2.2.2
theorem dX3_become_9 : decode cX3_become 9 = .ok (.iconst 0, 1) := q_dg61.1.2.1.1
theorem dX3_become_10 : decode cX3_become 10 = .ok (.iconst 4, 1) := q_dg61.1.2.1.2
theorem dX3_become_11 : decode cX3_become 11 = .ok (.invokestatic 16, 3) := q_dg61.1.2.2.1
theorem dX3_become_14 : decode cX3_become 14 = .ok (.aload_n 1, 1) := q_dg61.1.2.2.2.1
theorem dX3_become_15 : decode cX3_become 15 = .ok (.getfield 13, 3) := q_dg61.1.2.2.2.2
theorem dX3_become_18 : decode cX3_become 18 = .ok (.iconst 0, 1) := q_dg61.2.1.1.1
theorem dX3_become_19 : decode cX3_become 19 = .ok (.aload_n 0, 1) := q_dg61.2.1.1.2
theorem dX3_become_20 : decode cX3_become 20 = .ok (.getfield 13, 3) := q_dg61.2.1.2.1
theorem dX3_become_23 : decode cX3_become 23 = .ok (.iconst 0, 1) := q_dg61.2.1.2.2.1
theorem dX3_become_24 : decode cX3_become 24 = .ok (.bipush 16, 2) := q_dg61.2.1.2.2.2
theorem dX3_become_26 : decode cX3_become 26 = .ok (.invokestatic 16, 3) := q_dg61.2.2.1.1
theorem dX3_become_29 : decode cX3_become 29 = .ok (.aload_n 0, 1) := q_dg61.2.2.1.2.1
theorem dX3_become_30 : decode cX3_become 30 = .ok (.aload_n 1, 1) := q_dg61.2.2.1.2.2
theorem dX3_become_31 : decode cX3_become 31 = .ok (.getfield 22, 3) := q_dg61.2.2.2.1
theorem dX3_become_34 : decode cX3_become 34 = .ok (.putfield 22, 3) := q_dg61.2.2.2.2.1
theorem dX3_become_37 : decode cX3_become 37 = .ok (.return_, 1) := q_dg61.2.2.2.2.2
theorem q_dg62 : (((decode cX3_exchangeJoystick 0 = .ok (.aload_n 0, 1)) ∧ (decode cX3_exchangeJoystick 1 = .ok (.getfield 22, 3))) ∧ ((decode cX3_exchangeJoystick 4 = .ok (.istore_n 2, 1)) ∧ (decode cX3_exchangeJoystick 5 = .ok (.aload_n 0, 1)))) ∧ (((decode cX3_exchangeJoystick 6 = .ok (.iload_n 1, 1)) ∧ (decode cX3_exchangeJoystick 7 = .ok (.putfield 22, 3))) ∧ ((decode cX3_exchangeJoystick 10 = .ok (.iload_n 2, 1)) ∧ (decode cX3_exchangeJoystick 11 = .ok (.ireturn, 1)))) := by decide +kernel
theorem dX3_exchangeJoystick_0 : decode cX3_exchangeJoystick 0 = .ok (.aload_n 0, 1) := q_dg62.1.1.1
theorem dX3_exchangeJoystick_1 : decode cX3_exchangeJoystick 1 = .ok (.getfield 22, 3) := q_dg62.1.1.2
theorem dX3_exchangeJoystick_4 : decode cX3_exchangeJoystick 4 = .ok (.istore_n 2, 1) := q_dg62.1.2.1
theorem dX3_exchangeJoystick_5 : decode cX3_exchangeJoystick 5 = .ok (.aload_n 0, 1) := q_dg62.1.2.2
theorem dX3_exchangeJoystick_6 : decode cX3_exchangeJoystick 6 = .ok (.iload_n 1, 1) := q_dg62.2.1.1
theorem dX3_exchangeJoystick_7 : decode cX3_exchangeJoystick 7 = .ok (.putfield 22, 3) := q_dg62.2.1.2
theorem dX3_exchangeJoystick_10 : decode cX3_exchangeJoystick 10 = .ok (.iload_n 2, 1) := q_dg62.2.2.1
theorem dX3_exchangeJoystick_11 : decode cX3_exchangeJoystick 11 = .ok (.ireturn, 1) := q_dg62.2.2.2
theorem q_dg63 : ((((decode cX3_press 0 = .ok (.iload_n 1, 1)) ∧ ((decode cX3_press 1 = .ok (.iconst 3, 1)) ∧ (decode cX3_press 2 = .ok (.iand, 1)))) ∧ ((decode cX3_press 3 = .ok (.istore 4, 2)) ∧ ((decode cX3_press 5 = .ok (.aload_n 0, 1)) ∧ (decode cX3_press 6 = .ok (.getfield 9, 3))))) ∧ (((decode cX3_press 9 = .ok (.iload 4, 2)) ∧ ((decode cX3_press 11 = .ok (.iaload, 1)) ∧ (decode cX3_press 12 = .ok (.iload_n 2, 1)))) ∧ ((decode cX3_press 13 = .ok (.ishr, 1)) ∧ ((decode cX3_press 14 = .ok (.iconst 1, 1)) ∧ (decode cX3_press 15 = .ok (.iand, 1)))))) ∧ ((((decode cX3_press 16 = .ok (.istore 5, 2)) ∧ ((decode cX3_press 18 = .ok (.aload_n 0, 1)) ∧ (decode cX3_press 19 = .ok (.getfield 9, 3)))) ∧ ((decode cX3_press 22 = .ok (.iload 4, 2)) ∧ ((decode cX3_press 24 = .ok (.aload_n 0, 1)) ∧ (decode cX3_press 25 = .ok (.getfield 9, 3))))) ∧ (((decode cX3_press 28 = .ok (.iload 4, 2)) ∧ ((decode cX3_press 30 = .ok (.iaload, 1)) ∧ (decode cX3_press 31 = .ok (.iconst 1, 1)))) ∧ ((decode cX3_press 32 = .ok (.iload_n 2, 1)) ∧ ((decode cX3_press 33 = .ok (.ishl, 1)) ∧ (decode cX3_press 34 = .ok (.iconst (-1), 1)))))) := by decide +kernel
theorem dX3_press_0 : decode cX3_press 0 = .ok (.iload_n 1, 1) := q_dg63.1.1.1.1
theorem dX3_press_1 : decode cX3_press 1 = .ok (.iconst 3, 1) := q_dg63.1.1.1.2.1
theorem dX3_press_2 : decode cX3_press 2 = .ok (.iand, 1) := q_dg63.1.1.1.2.2
theorem dX3_press_3 : decode cX3_press 3 = .ok (.istore 4, 2) := q_dg63.1.1.2.1
theorem dX3_press_5 : decode cX3_press 5 = .ok (.aload_n 0, 1) := q_dg63.1.1.2.2.1
theorem dX3_press_6 : decode cX3_press 6 = .ok (.getfield 9, 3) := q_dg63.1.1.2.2.2
theorem dX3_press_9 : decode cX3_press 9 = .ok (.iload 4, 2) := q_dg63.1.2.1.1
theorem dX3_press_11 : decode cX3_press 11 = .ok (.iaload, 1) := q_dg63.1.2.1.2.1
theorem dX3_press_12 : decode cX3_press 12 = .ok (.iload_n 2, 1) := q_dg63.1.2.1.2.2
theorem dX3_press_13 : decode cX3_press 13 = .ok (.ishr, 1) := q_dg63.1.2.2.1
theorem dX3_press_14 : decode cX3_press 14 = .ok (.iconst 1, 1) := q_dg63.1.2.2.2.1
theorem dX3_press_15 : decode cX3_press 15 = .ok (.iand, 1) := q_dg63.1.2.2.2.2
theorem dX3_press_16 : decode cX3_press 16 = .ok (.istore 5, 2) := q_dg63.2.1.1.1
theorem dX3_press_18 : decode cX3_press 18 = .ok (.aload_n 0, 1) := q_dg63.2.1.1.2.1
theorem dX3_press_19 : decode cX3_press 19 = .ok (.getfield 9, 3) := q_dg63.2.1.1.2.2
theorem dX3_press_22 : decode cX3_press 22 = .ok (.iload 4, 2) := q_dg63.2.1.2.1
theorem dX3_press_24 : decode cX3_press 24 = .ok (.aload_n 0, 1) := q_dg63.2.1.2.2.1
theorem dX3_press_25 : decode cX3_press 25 = .ok (.getfield 9, 3) := q_dg63.2.1.2.2.2
theorem dX3_press_28 : decode cX3_press 28 = .ok (.iload 4, 2) := q_dg63.2.2.1.1
theorem dX3_press_30 : decode cX3_press 30 = .ok (.iaload, 1) := q_dg63.2.2.1.2.1
theorem dX3_press_31 : decode cX3_press 31 = .ok (.iconst 1, 1) := q_dg63.2.2.1.2.2
theorem dX3_press_32 : decode cX3_press 32 = .ok (.iload_n 2, 1) := q_dg63.2.2.2.1
theorem dX3_press_33 : decode cX3_press 33 = .ok (.ishl, 1) := q_dg63.2.2.2.2.1
theorem dX3_press_34 : decode cX3_press 34 = .ok (.iconst (-1), 1) := q_dg63.2.2.2.2.2
theorem q_dg64 : ((((decode cX3_press 35 = .ok (.ixor, 1)) ∧ (decode cX3_press 36 = .ok (.iand, 1))) ∧ ((decode cX3_press 37 = .ok (.iload_n 3, 1)) ∧ ((decode cX3_press 38 = .ok (.iload_n 2, 1)) ∧ (decode cX3_press 39 = .ok (.ishl, 1))))) ∧ (((decode cX3_press 40 = .ok (.ior, 1)) ∧ ((decode cX3_press 41 = .ok (.iastore, 1)) ∧ (decode cX3_press 42 = .ok (.iconst 0, 1)))) ∧ ((decode cX3_press 43 = .ok (.istore 6, 2)) ∧ ((decode cX3_press 45 = .ok (.iload 6, 2)) ∧ (decode cX3_press 47 = .ok (.bipush 15, 2)))))) ∧ ((((decode cX3_press 49 = .ok (.if_icmp .gt 22, 3)) ∧ ((decode cX3_press 52 = .ok (.aload_n 0, 1)) ∧ (decode cX3_press 53 = .ok (.getfield 13, 3)))) ∧ ((decode cX3_press 56 = .ok (.iload 6, 2)) ∧ ((decode cX3_press 58 = .ok (.aload_n 0, 1)) ∧ (decode cX3_press 59 = .ok (.iload 6, 2))))) ∧ (((decode cX3_press 61 = .ok (.invokevirtual 26, 3)) ∧ ((decode cX3_press 64 = .ok (.iastore, 1)) ∧ (decode cX3_press 65 = .ok (.iinc 6 1, 3)))) ∧ ((decode cX3_press 68 = .ok (.goto (-23), 3)) ∧ ((decode cX3_press 71 = .ok (.iload 5, 2)) ∧ (decode cX3_press 73 = .ok (.ireturn, 1)))))) := by decide +kernel
theorem dX3_press_35 : decode cX3_press 35 = .ok (.ixor, 1) := q_dg64.1.1.1.1
theorem dX3_press_36 : decode cX3_press 36 = .ok (.iand, 1) := q_dg64.1.1.1.2
theorem dX3_press_37 : decode cX3_press 37 = .ok (.iload_n 3, 1) := q_dg64.1.1.2.1
theorem dX3_press_38 : decode cX3_press 38 = .ok (.iload_n 2, 1) := q_dg64.1.1.2.2.1
theorem dX3_press_39 : decode cX3_press 39 = .ok (.ishl, 1) := q_dg64.1.1.2.2.2
theorem dX3_press_40 : decode cX3_press 40 = .ok (.ior, 1) := q_dg64.1.2.1.1
theorem dX3_press_41 : decode cX3_press 41 = .ok (.iastore, 1) := q_dg64.1.2.1.2.1
theorem dX3_press_42 : decode cX3_press 42 = .ok (.iconst 0, 1) := q_dg64.1.2.1.2.2
theorem dX3_press_43 : decode cX3_press 43 = .ok (.istore 6, 2) := q_dg64.1.2.2.1
theorem dX3_press_45 : decode cX3_press 45 = .ok (.iload 6, 2) := q_dg64.1.2.2.2.1
theorem dX3_press_47 : decode cX3_press 47 = .ok (.bipush 15, 2) := q_dg64.1.2.2.2.2
theorem dX3_press_49 : decode cX3_press 49 = .ok (.if_icmp .gt 22, 3) := q_dg64.2.1.1.1
theorem dX3_press_52 : decode cX3_press 52 = .ok (.aload_n 0, 1) := q_dg64.2.1.1.2.1
theorem dX3_press_53 : decode cX3_press 53 = .ok (.getfield 13, 3) := q_dg64.2.1.1.2.2
theorem dX3_press_56 : decode cX3_press 56 = .ok (.iload 6, 2) := q_dg64.2.1.2.1
theorem dX3_press_58 : decode cX3_press 58 = .ok (.aload_n 0, 1) := q_dg64.2.1.2.2.1
theorem dX3_press_59 : decode cX3_press 59 = .ok (.iload 6, 2) := q_dg64.2.1.2.2.2
theorem dX3_press_61 : decode cX3_press 61 = .ok (.invokevirtual 26, 3) := q_dg64.2.2.1.1
theorem dX3_press_64 : decode cX3_press 64 = .ok (.iastore, 1) := q_dg64.2.2.1.2.1
theorem dX3_press_65 : decode cX3_press 65 = .ok (.iinc 6 1, 3) := q_dg64.2.2.1.2.2
theorem dX3_press_68 : decode cX3_press 68 = .ok (.goto (-23), 3) := q_dg64.2.2.2.1
theorem dX3_press_71 : decode cX3_press 71 = .ok (.iload 5, 2) := q_dg64.2.2.2.2.1
theorem dX3_press_73 : decode cX3_press 73 = .ok (.ireturn, 1) := q_dg64.2.2.2.2.2
theorem q_dg65 : ((((decode cX3_columnsSeen 0 = .ok (.iload_n 1, 1)) ∧ ((decode cX3_columnsSeen 1 = .ok (.istore_n 2, 1)) ∧ (decode cX3_columnsSeen 2 = .ok (.iconst 0, 1)))) ∧ ((decode cX3_columnsSeen 3 = .ok (.istore_n 3, 1)) ∧ ((decode cX3_columnsSeen 4 = .ok (.iconst 0, 1)) ∧ (decode cX3_columnsSeen 5 = .ok (.istore 4, 2))))) ∧ (((decode cX3_columnsSeen 7 = .ok (.iload 4, 2)) ∧ ((decode cX3_columnsSeen 9 = .ok (.iconst 4, 1)) ∧ (decode cX3_columnsSeen 10 = .ok (.if_icmp .ge 78, 3)))) ∧ ((decode cX3_columnsSeen 13 = .ok (.iconst 0, 1)) ∧ ((decode cX3_columnsSeen 14 = .ok (.istore 5, 2)) ∧ (decode cX3_columnsSeen 16 = .ok (.iload 5, 2)))))) ∧ ((((decode cX3_columnsSeen 18 = .ok (.iconst 4, 1)) ∧ ((decode cX3_columnsSeen 19 = .ok (.if_icmp .ge 29, 3)) ∧ (decode cX3_columnsSeen 22 = .ok (.iload_n 2, 1)))) ∧ ((decode cX3_columnsSeen 23 = .ok (.iload 5, 2)) ∧ ((decode cX3_columnsSeen 25 = .ok (.ishr, 1)) ∧ (decode cX3_columnsSeen 26 = .ok (.iconst 1, 1))))) ∧ (((decode cX3_columnsSeen 27 = .ok (.iand, 1)) ∧ ((decode cX3_columnsSeen 28 = .ok (.iconst 1, 1)) ∧ (decode cX3_columnsSeen 29 = .ok (.if_icmp .ne 13, 3)))) ∧ ((decode cX3_columnsSeen 32 = .ok (.iload_n 3, 1)) ∧ ((decode cX3_columnsSeen 33 = .ok (.aload_n 0, 1)) ∧ (decode cX3_columnsSeen 34 = .ok (.getfield 9, 3)))))) := by decide +kernel
theorem dX3_columnsSeen_0 : decode cX3_columnsSeen 0 = .ok (.iload_n 1, 1) := q_dg65.1.1.1.1
theorem dX3_columnsSeen_1 : decode cX3_columnsSeen 1 = .ok (.istore_n 2, 1) := q_dg65.1.1.1.2.1
theorem dX3_columnsSeen_2 : decode cX3_columnsSeen 2 = .ok (.iconst 0, 1) := q_dg65.1.1.1.2.2
theorem dX3_columnsSeen_3 : decode cX3_columnsSeen 3 = .ok (.istore_n 3, 1) := q_dg65.1.1.2.1
theorem dX3_columnsSeen_4 : decode cX3_columnsSeen 4 = .ok (.iconst 0, 1) := q_dg65.1.1.2.2.1
theorem dX3_columnsSeen_5 : decode cX3_columnsSeen 5 = .ok (.istore 4, 2) := q_dg65.1.1.2.2.2
theorem dX3_columnsSeen_7 : decode cX3_columnsSeen 7 = .ok (.iload 4, 2) := q_dg65.1.2.1.1
theorem dX3_columnsSeen_9 : decode cX3_columnsSeen 9 = .ok (.iconst 4, 1) := q_dg65.1.2.1.2.1
theorem dX3_columnsSeen_10 : decode cX3_columnsSeen 10 = .ok (.if_icmp .ge 78, 3) := q_dg65.1.2.1.2.2
theorem dX3_columnsSeen_13 : decode cX3_columnsSeen 13 = .ok (.iconst 0, 1) := q_dg65.1.2.2.1
theorem dX3_columnsSeen_14 : decode cX3_columnsSeen 14 = .ok (.istore 5, 2) := q_dg65.1.2.2.2.1
theorem dX3_columnsSeen_16 : decode cX3_columnsSeen 16 = .ok (.iload 5, 2) := q_dg65.1.2.2.2.2
theorem dX3_columnsSeen_18 : decode cX3_columnsSeen 18 = .ok (.iconst 4, 1) := q_dg65.2.1.1.1
theorem dX3_columnsSeen_19 : decode cX3_columnsSeen 19 = .ok (.if_icmp .ge 29, 3) := q_dg65.2.1.1.2.1
theorem dX3_columnsSeen_22 : decode cX3_columnsSeen 22 = .ok (.iload_n 2, 1) := q_dg65.2.1.1.2.2
theorem dX3_columnsSeen_23 : decode cX3_columnsSeen 23 = .ok (.iload 5, 2) := q_dg65.2.1.2.1
theorem dX3_columnsSeen_25 : decode cX3_columnsSeen 25 = .ok (.ishr, 1) := q_dg65.2.1.2.2.1
theorem dX3_columnsSeen_26 : decode cX3_columnsSeen 26 = .ok (.iconst 1, 1) := q_dg65.2.1.2.2.2
theorem dX3_columnsSeen_27 : decode cX3_columnsSeen 27 = .ok (.iand, 1) := q_dg65.2.2.1.1
theorem dX3_columnsSeen_28 : decode cX3_columnsSeen 28 = .ok (.iconst 1, 1) := q_dg65.2.2.1.2.1
theorem dX3_columnsSeen_29 : decode cX3_columnsSeen 29 = .ok (.if_icmp .ne 13, 3) := q_dg65.2.2.1.2.2
theorem dX3_columnsSeen_32 : decode cX3_columnsSeen 32 = .ok (.iload_n 3, 1) := q_dg65.2.2.2.1
theorem dX3_columnsSeen_33 : decode cX3_columnsSeen 33 = .ok (.aload_n 0, 1) := q_dg65.2.2.2.2.1
theorem dX3_columnsSeen_34 : decode cX3_columnsSeen 34 = .ok (.getfield 9, 3) := q_dg65.2.2.2.2.2
theorem q_dg66 : ((((decode cX3_columnsSeen 37 = .ok (.iload 5, 2)) ∧ ((decode cX3_columnsSeen 39 = .ok (.iaload, 1)) ∧ (decode cX3_columnsSeen 40 = .ok (.ior, 1)))) ∧ ((decode cX3_columnsSeen 41 = .ok (.istore_n 3, 1)) ∧ ((decode cX3_columnsSeen 42 = .ok (.iinc 5 1, 3)) ∧ (decode cX3_columnsSeen 45 = .ok (.goto (-29), 3))))) ∧ (((decode cX3_columnsSeen 48 = .ok (.iconst 0, 1)) ∧ ((decode cX3_columnsSeen 49 = .ok (.istore 5, 2)) ∧ (decode cX3_columnsSeen 51 = .ok (.iload 5, 2)))) ∧ ((decode cX3_columnsSeen 53 = .ok (.iconst 4, 1)) ∧ ((decode cX3_columnsSeen 54 = .ok (.if_icmp .ge 28, 3)) ∧ (decode cX3_columnsSeen 57 = .ok (.aload_n 0, 1)))))) ∧ ((((decode cX3_columnsSeen 58 = .ok (.getfield 9, 3)) ∧ ((decode cX3_columnsSeen 61 = .ok (.iload 5, 2)) ∧ (decode cX3_columnsSeen 63 = .ok (.iaload, 1)))) ∧ ((decode cX3_columnsSeen 64 = .ok (.iload_n 3, 1)) ∧ ((decode cX3_columnsSeen 65 = .ok (.iand, 1)) ∧ (decode cX3_columnsSeen 66 = .ok (.ifCond .eq 10, 3))))) ∧ (((decode cX3_columnsSeen 69 = .ok (.iload_n 2, 1)) ∧ ((decode cX3_columnsSeen 70 = .ok (.iconst 1, 1)) ∧ (decode cX3_columnsSeen 71 = .ok (.iload 5, 2)))) ∧ ((decode cX3_columnsSeen 73 = .ok (.ishl, 1)) ∧ ((decode cX3_columnsSeen 74 = .ok (.ior, 1)) ∧ (decode cX3_columnsSeen 75 = .ok (.istore_n 2, 1)))))) := by decide +kernel
theorem dX3_columnsSeen_37 : decode cX3_columnsSeen 37 = .ok (.iload 5, 2) := q_dg66.1.1.1.1
theorem dX3_columnsSeen_39 : decode cX3_columnsSeen 39 = .ok (.iaload, 1) := q_dg66.1.1.1.2.1
theorem dX3_columnsSeen_40 : decode cX3_columnsSeen 40 = .ok (.ior, 1) := q_dg66.1.1.1.2.2
theorem dX3_columnsSeen_41 : decode cX3_columnsSeen 41 = .ok (.istore_n 3, 1) := q_dg66.1.1.2.1
theorem dX3_columnsSeen_42 : decode cX3_columnsSeen 42 = .ok (.iinc 5 1, 3) := q_dg66.1.1.2.2.1
theorem dX3_columnsSeen_45 : decode cX3_columnsSeen 45 = .ok (.goto (-29), 3) := q_dg66.1.1.2.2.2
theorem dX3_columnsSeen_48 : decode cX3_columnsSeen 48 = .ok (.iconst 0, 1) := q_dg66.1.2.1.1
theorem dX3_columnsSeen_49 : decode cX3_columnsSeen 49 = .ok (.istore 5, 2) := q_dg66.1.2.1.2.1
theorem dX3_columnsSeen_51 : decode cX3_columnsSeen 51 = .ok (.iload 5, 2) := q_dg66.1.2.1.2.2
theorem dX3_columnsSeen_53 : decode cX3_columnsSeen 53 = .ok (.iconst 4, 1) := q_dg66.1.2.2.1
theorem dX3_columnsSeen_54 : decode cX3_columnsSeen 54 = .ok (.if_icmp .ge 28, 3) := q_dg66.1.2.2.2.1
theorem dX3_columnsSeen_57 : decode cX3_columnsSeen 57 = .ok (.aload_n 0, 1) := q_dg66.1.2.2.2.2
theorem dX3_columnsSeen_58 : decode cX3_columnsSeen 58 = .ok (.getfield 9, 3) := q_dg66.2.1.1.1
theorem dX3_columnsSeen_61 : decode cX3_columnsSeen 61 = .ok (.iload 5, 2) := q_dg66.2.1.1.2.1
theorem dX3_columnsSeen_63 : decode cX3_columnsSeen 63 = .ok (.iaload, 1) := q_dg66.2.1.1.2.2
theorem dX3_columnsSeen_64 : decode cX3_columnsSeen 64 = .ok (.iload_n 3, 1) := q_dg66.2.1.2.1
theorem dX3_columnsSeen_65 : decode cX3_columnsSeen 65 = .ok (.iand, 1) := q_dg66.2.1.2.2.1
theorem dX3_columnsSeen_66 : decode cX3_columnsSeen 66 = .ok (.ifCond .eq 10, 3) := q_dg66.2.1.2.2.2
theorem dX3_columnsSeen_69 : decode cX3_columnsSeen 69 = .ok (.iload_n 2, 1) := q_dg66.2.2.1.1
theorem dX3_columnsSeen_70 : decode cX3_columnsSeen 70 = .ok (.iconst 1, 1) := q_dg66.2.2.1.2.1
theorem dX3_columnsSeen_71 : decode cX3_columnsSeen 71 = .ok (.iload 5, 2) := q_dg66.2.2.1.2.2
theorem dX3_columnsSeen_73 : decode cX3_columnsSeen 73 = .ok (.ishl, 1) := q_dg66.2.2.2.1
theorem dX3_columnsSeen_74 : decode cX3_columnsSeen 74 = .ok (.ior, 1) := q_dg66.2.2.2.2.1
theorem dX3_columnsSeen_75 : decode cX3_columnsSeen 75 = .ok (.istore_n 2, 1) := q_dg66.2.2.2.2.2
theorem q_dg67 : ((decode cX3_columnsSeen 76 = .ok (.iinc 5 1, 3)) ∧ ((decode cX3_columnsSeen 79 = .ok (.goto (-28), 3)) ∧ (decode cX3_columnsSeen 82 = .ok (.iinc 4 1, 3)))) ∧ ((decode cX3_columnsSeen 85 = .ok (.goto (-78), 3)) ∧ ((decode cX3_columnsSeen 88 = .ok (.iload_n 3, 1)) ∧ (decode cX3_columnsSeen 89 = .ok (.ireturn, 1)))) := by decide +kernel
theorem dX3_columnsSeen_76 : decode cX3_columnsSeen 76 = .ok (.iinc 5 1, 3) := q_dg67.1.1
theorem dX3_columnsSeen_79 : decode cX3_columnsSeen 79 = .ok (.goto (-28), 3) := q_dg67.1.2.1
theorem dX3_columnsSeen_82 : decode cX3_columnsSeen 82 = .ok (.iinc 4 1, 3) := q_dg67.1.2.2
theorem dX3_columnsSeen_85 : decode cX3_columnsSeen 85 = .ok (.goto (-78), 3) := q_dg67.2.1
theorem dX3_columnsSeen_88 : decode cX3_columnsSeen 88 = .ok (.iload_n 3, 1) := q_dg67.2.2.1
theorem dX3_columnsSeen_89 : decode cX3_columnsSeen 89 = .ok (.ireturn, 1) := q_dg67.2.2.2
theorem q_dg68 : ((((decode cX4_init 0 = .ok (.aload_n 0, 1)) ∧ (decode cX4_init 1 = .ok (.invokespecial 3, 3))) ∧ ((decode cX4_init 4 = .ok (.aload_n 0, 1)) ∧ ((decode cX4_init 5 = .ok (.new 9, 3)) ∧ (decode cX4_init 8 = .ok (.dup, 1))))) ∧ (((decode cX4_init 9 = .ok (.invokespecial 11, 3)) ∧ ((decode cX4_init 12 = .ok (.putfield 12, 3)) ∧ (decode cX4_init 15 = .ok (.aload_n 0, 1)))) ∧ ((decode cX4_init 16 = .ok (.new 18, 3)) ∧ ((decode cX4_init 19 = .ok (.dup, 1)) ∧ (decode cX4_init 20 = .ok (.invokespecial 20, 3)))))) ∧ ((((decode cX4_init 23 = .ok (.putfield 21, 3)) ∧ (decode cX4_init 26 = .ok (.aload_n 0, 1))) ∧ ((decode cX4_init 27 = .ok (.new 25, 3)) ∧ ((decode cX4_init 30 = .ok (.dup, 1)) ∧ (decode cX4_init 31 = .ok (.invokespecial 27, 3))))) ∧ (((decode cX4_init 34 = .ok (.putfield 28, 3)) ∧ ((decode cX4_init 37 = .ok (.aload_n 0, 1)) ∧ (decode cX4_init 38 = .ok (.sipush 1024, 3)))) ∧ ((decode cX4_init 41 = .ok (.newarray .int, 2)) ∧ ((decode cX4_init 43 = .ok (.putfield 32, 3)) ∧ (decode cX4_init 46 = .ok (.return_, 1)))))) := by decide +kernel
theorem dX4_init_0 : decode cX4_init 0 = .ok (.aload_n 0, 1) := q_dg68.1.1.1.1
theorem dX4_init_1 : decode cX4_init 1 = .ok (.invokespecial 3, 3) := q_dg68.1.1.1.2
theorem dX4_init_4 : decode cX4_init 4 = .ok (.aload_n 0, 1) := q_dg68.1.1.2.1
theorem dX4_init_5 : decode cX4_init 5 = .ok (.new 9, 3) := q_dg68.1.1.2.2.1
theorem dX4_init_8 : decode cX4_init 8 = .ok (.dup, 1) := q_dg68.1.1.2.2.2
theorem dX4_init_9 : decode cX4_init 9 = .ok (.invokespecial 11, 3) := q_dg68.1.2.1.1
theorem dX4_init_12 : decode cX4_init 12 = .ok (.putfield 12, 3) := q_dg68.1.2.1.2.1
theorem dX4_init_15 : decode cX4_init 15 = .ok (.aload_n 0, 1) := q_dg68.1.2.1.2.2
theorem dX4_init_16 : decode cX4_init 16 = .ok (.new 18, 3) := q_dg68.1.2.2.1
theorem dX4_init_19 : decode cX4_init 19 = .ok (.dup, 1) := q_dg68.1.2.2.2.1
theorem dX4_init_20 : decode cX4_init 20 = .ok (.invokespecial 20, 3) := q_dg68.1.2.2.2.2
theorem dX4_init_23 : decode cX4_init 23 = .ok (.putfield 21, 3) := q_dg68.2.1.1.1
theorem dX4_init_26 : decode cX4_init 26 = .ok (.aload_n 0, 1) := q_dg68.2.1.1.2
theorem dX4_init_27 : decode cX4_init 27 = .ok (.new 25, 3) := q_dg68.2.1.2.1
theorem dX4_init_30 : decode cX4_init 30 = .ok (.dup, 1) := q_dg68.2.1.2.2.1
theorem dX4_init_31 : decode cX4_init 31 = .ok (.invokespecial 27, 3) := q_dg68.2.1.2.2.2
theorem dX4_init_34 : decode cX4_init 34 = .ok (.putfield 28, 3) := q_dg68.2.2.1.1
theorem dX4_init_37 : decode cX4_init 37 = .ok (.aload_n 0, 1) := q_dg68.2.2.1.2.1
theorem dX4_init_38 : decode cX4_init 38 = .ok (.sipush 1024, 3) := q_dg68.2.2.1.2.2
theorem dX4_init_41 : decode cX4_init 41 = .ok (.newarray .int, 2) := q_dg68.2.2.2.1
theorem dX4_init_43 : decode cX4_init 43 = .ok (.putfield 32, 3) := q_dg68.2.2.2.2.1
theorem dX4_init_46 : decode cX4_init 46 = .ok (.return_, 1) := q_dg68.2.2.2.2.2
theorem q_dg69 : ((((decode cX4_become 0 = .ok (.aload_n 0, 1)) ∧ ((decode cX4_become 1 = .ok (.getfield 12, 3)) ∧ (decode cX4_become 4 = .ok (.aload_n 1, 1)))) ∧ ((decode cX4_become 5 = .ok (.getfield 12, 3)) ∧ ((decode cX4_become 8 = .ok (.invokevirtual 36, 3)) ∧ (decode cX4_become 11 = .ok (.aload_n 0, 1))))) ∧ (((decode cX4_become 12 = .ok (.getfield 21, 3)) ∧ ((decode cX4_become 15 = .ok (.aload_n 1, 1)) ∧ (decode cX4_become 16 = .ok (.getfield 21, 3)))) ∧ ((decode cX4_become 19 = .ok (.invokevirtual 40, 3)) ∧ ((decode cX4_become 22 = .ok (.aload_n 0, 1)) ∧ (decode cX4_become 23 = .ok (.getfield 28, 3)))))) ∧ ((((decode cX4_become 26 = .ok (.aload_n 1, 1)) ∧ ((decode cX4_become 27 = .ok (.getfield 28, 3)) ∧ (decode cX4_become 30 = .ok (.invokevirtual 43, 3)))) ∧ ((decode cX4_become 33 = .ok (.aload_n 1, 1)) ∧ ((decode cX4_become 34 = .ok (.getfield 32, 3)) ∧ (decode cX4_become 37 = .ok (.iconst 0, 1))))) ∧ (((decode cX4_become 38 = .ok (.aload_n 0, 1)) ∧ ((decode cX4_become 39 = .ok (.getfield 32, 3)) ∧ (decode cX4_become 42 = .ok (.iconst 0, 1)))) ∧ ((decode cX4_become 43 = .ok (.sipush 1024, 3)) ∧ ((decode cX4_become 46 = .ok (.invokestatic 46, 3)) ∧ (decode cX4_become 49 = .ok (.aload_n 0, 1)))))) := by decide +kernel
theorem dX4_become_0 : decode cX4_become 0 = .ok (.aload_n 0, 1) := q_dg69.1.1.1.1
theorem dX4_become_1 : decode cX4_become 1 = .ok (.getfield 12, 3) := q_dg69.1.1.1.2.1
theorem dX4_become_4 : decode cX4_become 4 = .ok (.aload_n 1, 1) := q_dg69.1.1.1.2.2
theorem dX4_become_5 : decode cX4_become 5 = .ok (.getfield 12, 3) := q_dg69.1.1.2.1
theorem dX4_become_8 : decode cX4_become 8 = .ok (.invokevirtual 36, 3) := q_dg69.1.1.2.2.1
theorem dX4_become_11 : decode cX4_become 11 = .ok (.aload_n 0, 1) := q_dg69.1.1.2.2.2
theorem dX4_become_12 : decode cX4_become 12 = .ok (.getfield 21, 3) := q_dg69.1.2.1.1
theorem dX4_become_15 : decode cX4_become 15 = .ok (.aload_n 1, 1) := q_dg69.1.2.1.2.1
theorem dX4_become_16 : decode cX4_become 16 = .ok (.getfield 21, 3) := q_dg69.1.2.1.2.2
theorem dX4_become_19 : decode cX4_become 19 = .ok (.invokevirtual 40, 3) := q_dg69.1.2.2.1
theorem dX4_become_22 : decode cX4_become 22 = .ok (.aload_n 0, 1) := q_dg69.1.2.2.2.1
theorem dX4_become_23 : decode cX4_become 23 = .ok (.getfield 28, 3) := q_dg69.1.2.2.2.2
theorem dX4_become_26 : decode cX4_become 26 = .ok (.aload_n 1, 1) := q_dg69.2.1.1.1
theorem dX4_become_27 : decode cX4_become 27 = .ok (.getfield 28, 3) := q_dg69.2.1.1.2.1
theorem dX4_become_30 : decode cX4_become 30 = .ok (.invokevirtual 43, 3) := q_dg69.2.1.1.2.2
theorem dX4_become_33 : decode cX4_become 33 = .ok (.aload_n 1, 1) := q_dg69.2.1.2.1
theorem dX4_become_34 : decode cX4_become 34 = .ok (.getfield 32, 3) := q_dg69.2.1.2.2.1
theorem dX4_become_37 : decode cX4_become 37 = .ok (.iconst 0, 1) := q_dg69.2.1.2.2.2
theorem dX4_become_38 : decode cX4_become 38 = .ok (.aload_n 0, 1) := q_dg69.2.2.1.1
theorem dX4_become_39 : decode cX4_become 39 = .ok (.getfield 32, 3) := q_dg69.2.2.1.2.1
theorem dX4_become_42 : decode cX4_become 42 = .ok (.iconst 0, 1) := q_dg69.2.2.1.2.2
theorem dX4_become_43 : decode cX4_become 43 = .ok (.sipush 1024, 3) := q_dg69.2.2.2.1
theorem dX4_become_46 : decode cX4_become 46 = .ok (.invokestatic 46, 3) := q_dg69.2.2.2.2.1
theorem dX4_become_49 : decode cX4_become 49 = .ok (.aload_n 0, 1) := q_dg69.2.2.2.2.2
theorem q_dg70 : ((decode cX4_become 50 = .ok (.aload_n 1, 1)) ∧ (decode cX4_become 51 = .ok (.getfield 52, 3))) ∧ ((decode cX4_become 54 = .ok (.putfield 52, 3)) ∧ (decode cX4_become 57 = .ok (.return_, 1))) := by decide +kernel
theorem dX4_become_50 : decode cX4_become 50 = .ok (.aload_n 1, 1) := q_dg70.1.1
theorem dX4_become_51 : decode cX4_become 51 = .ok (.getfield 52, 3) := q_dg70.1.2
theorem dX4_become_54 : decode cX4_become 54 = .ok (.putfield 52, 3) := q_dg70.2.1
theorem dX4_become_57 : decode cX4_become 57 = .ok (.return_, 1) := q_dg70.2.2
theorem q_dg71 : ((((decode cX4_isLike 0 = .ok (.iconst 0, 1)) ∧ ((decode cX4_isLike 1 = .ok (.istore_n 2, 1)) ∧ (decode cX4_isLike 2 = .ok (.iload_n 2, 1)))) ∧ ((decode cX4_isLike 3 = .ok (.bipush 48, 2)) ∧ ((decode cX4_isLike 5 = .ok (.if_icmp .ge 38, 3)) ∧ (decode cX4_isLike 8 = .ok (.aload_n 0, 1))))) ∧ (((decode cX4_isLike 9 = .ok (.getfield 12, 3)) ∧ ((decode cX4_isLike 12 = .ok (.sipush 3840, 3)) ∧ (decode cX4_isLike 15 = .ok (.iload_n 2, 1)))) ∧ ((decode cX4_isLike 16 = .ok (.iadd, 1)) ∧ ((decode cX4_isLike 17 = .ok (.invokevirtual 56, 3)) ∧ (decode cX4_isLike 20 = .ok (.aload_n 1, 1)))))) ∧ ((((decode cX4_isLike 21 = .ok (.getfield 12, 3)) ∧ ((decode cX4_isLike 24 = .ok (.sipush 3840, 3)) ∧ (decode cX4_isLike 27 = .ok (.iload_n 2, 1)))) ∧ ((decode cX4_isLike 28 = .ok (.iadd, 1)) ∧ ((decode cX4_isLike 29 = .ok (.invokevirtual 56, 3)) ∧ (decode cX4_isLike 32 = .ok (.if_icmp .eq 5, 3))))) ∧ (((decode cX4_isLike 35 = .ok (.iconst 0, 1)) ∧ ((decode cX4_isLike 36 = .ok (.ireturn, 1)) ∧ (decode cX4_isLike 37 = .ok (.iinc 2 1, 3)))) ∧ ((decode cX4_isLike 40 = .ok (.goto (-38), 3)) ∧ ((decode cX4_isLike 43 = .ok (.iconst 0, 1)) ∧ (decode cX4_isLike 44 = .ok (.istore_n 2, 1)))))) := by decide +kernel
theorem dX4_isLike_0 : decode cX4_isLike 0 = .ok (.iconst 0, 1) := q_dg71.1.1.1.1
theorem dX4_isLike_1 : decode cX4_isLike 1 = .ok (.istore_n 2, 1) := q_dg71.1.1.1.2.1
theorem dX4_isLike_2 : decode cX4_isLike 2 = .ok (.iload_n 2, 1) := q_dg71.1.1.1.2.2
theorem dX4_isLike_3 : decode cX4_isLike 3 = .ok (.bipush 48, 2) := q_dg71.1.1.2.1
theorem dX4_isLike_5 : decode cX4_isLike 5 = .ok (.if_icmp .ge 38, 3) := q_dg71.1.1.2.2.1
theorem dX4_isLike_8 : decode cX4_isLike 8 = .ok (.aload_n 0, 1) := q_dg71.1.1.2.2.2
theorem dX4_isLike_9 : decode cX4_isLike 9 = .ok (.getfield 12, 3) := q_dg71.1.2.1.1
theorem dX4_isLike_12 : decode cX4_isLike 12 = .ok (.sipush 3840, 3) := q_dg71.1.2.1.2.1
theorem dX4_isLike_15 : decode cX4_isLike 15 = .ok (.iload_n 2, 1) := q_dg71.1.2.1.2.2
theorem dX4_isLike_16 : decode cX4_isLike 16 = .ok (.iadd, 1) := q_dg71.1.2.2.1
theorem dX4_isLike_17 : decode cX4_isLike 17 = .ok (.invokevirtual 56, 3) := q_dg71.1.2.2.2.1
theorem dX4_isLike_20 : decode cX4_isLike 20 = .ok (.aload_n 1, 1) := q_dg71.1.2.2.2.2
theorem dX4_isLike_21 : decode cX4_isLike 21 = .ok (.getfield 12, 3) := q_dg71.2.1.1.1
theorem dX4_isLike_24 : decode cX4_isLike 24 = .ok (.sipush 3840, 3) := q_dg71.2.1.1.2.1
theorem dX4_isLike_27 : decode cX4_isLike 27 = .ok (.iload_n 2, 1) := q_dg71.2.1.1.2.2
theorem dX4_isLike_28 : decode cX4_isLike 28 = .ok (.iadd, 1) := q_dg71.2.1.2.1
theorem dX4_isLike_29 : decode cX4_isLike 29 = .ok (.invokevirtual 56, 3) := q_dg71.2.1.2.2.1
theorem dX4_isLike_32 : decode cX4_isLike 32 = .ok (.if_icmp .eq 5, 3) := q_dg71.2.1.2.2.2
theorem dX4_isLike_35 : decode cX4_isLike 35 = .ok (.iconst 0, 1) := q_dg71.2.2.1.1
theorem dX4_isLike_36 : decode cX4_isLike 36 = .ok (.ireturn, 1) := q_dg71.2.2.1.2.1
theorem dX4_isLike_37 : decode cX4_isLike 37 = .ok (.iinc 2 1, 3) := q_dg71.2.2.1.2.2
theorem dX4_isLike_40 : decode cX4_isLike 40 = .ok (.goto (-38), 3) := q_dg71.2.2.2.1
theorem dX4_isLike_43 : decode cX4_isLike 43 = .ok (.iconst 0, 1) := q_dg71.2.2.2.2.1
theorem dX4_isLike_44 : decode cX4_isLike 44 = .ok (.istore_n 2, 1) := q_dg71.2.2.2.2.2
theorem q_dg72 : ((((decode cX4_isLike 45 = .ok (.iload_n 2, 1)) ∧ ((decode cX4_isLike 46 = .ok (.sipush 1024, 3)) ∧ (decode cX4_isLike 49 = .ok (.if_icmp .ge 26, 3)))) ∧ ((decode cX4_isLike 52 = .ok (.aload_n 0, 1)) ∧ ((decode cX4_isLike 53 = .ok (.getfield 32, 3)) ∧ (decode cX4_isLike 56 = .ok (.iload_n 2, 1))))) ∧ (((decode cX4_isLike 57 = .ok (.iaload, 1)) ∧ ((decode cX4_isLike 58 = .ok (.aload_n 1, 1)) ∧ (decode cX4_isLike 59 = .ok (.getfield 32, 3)))) ∧ ((decode cX4_isLike 62 = .ok (.iload_n 2, 1)) ∧ ((decode cX4_isLike 63 = .ok (.iaload, 1)) ∧ (decode cX4_isLike 64 = .ok (.if_icmp .eq 5, 3)))))) ∧ ((((decode cX4_isLike 67 = .ok (.iconst 0, 1)) ∧ ((decode cX4_isLike 68 = .ok (.ireturn, 1)) ∧ (decode cX4_isLike 69 = .ok (.iinc 2 1, 3)))) ∧ ((decode cX4_isLike 72 = .ok (.goto (-27), 3)) ∧ ((decode cX4_isLike 75 = .ok (.aload_n 0, 1)) ∧ (decode cX4_isLike 76 = .ok (.getfield 12, 3))))) ∧ (((decode cX4_isLike 79 = .ok (.getfield 60, 3)) ∧ ((decode cX4_isLike 82 = .ok (.aload_n 1, 1)) ∧ (decode cX4_isLike 83 = .ok (.getfield 12, 3)))) ∧ ((decode cX4_isLike 86 = .ok (.getfield 60, 3)) ∧ ((decode cX4_isLike 89 = .ok (.invokevirtual 64, 3)) ∧ (decode cX4_isLike 92 = .ok (.ifCond .ne 35, 3)))))) := by decide +kernel
theorem dX4_isLike_45 : decode cX4_isLike 45 = .ok (.iload_n 2, 1) := q_dg72.1.1.1.1
theorem dX4_isLike_46 : decode cX4_isLike 46 = .ok (.sipush 1024, 3) := q_dg72.1.1.1.2.1
theorem dX4_isLike_49 : decode cX4_isLike 49 = .ok (.if_icmp .ge 26, 3) := q_dg72.1.1.1.2.2
theorem dX4_isLike_52 : decode cX4_isLike 52 = .ok (.aload_n 0, 1) := q_dg72.1.1.2.1
theorem dX4_isLike_53 : decode cX4_isLike 53 = .ok (.getfield 32, 3) := q_dg72.1.1.2.2.1
theorem dX4_isLike_56 : decode cX4_isLike 56 = .ok (.iload_n 2, 1) := q_dg72.1.1.2.2.2
theorem dX4_isLike_57 : decode cX4_isLike 57 = .ok (.iaload, 1) := q_dg72.1.2.1.1
theorem dX4_isLike_58 : decode cX4_isLike 58 = .ok (.aload_n 1, 1) := q_dg72.1.2.1.2.1
theorem dX4_isLike_59 : decode cX4_isLike 59 = .ok (.getfield 32, 3) := q_dg72.1.2.1.2.2
theorem dX4_isLike_62 : decode cX4_isLike 62 = .ok (.iload_n 2, 1) := q_dg72.1.2.2.1
theorem dX4_isLike_63 : decode cX4_isLike 63 = .ok (.iaload, 1) := q_dg72.1.2.2.2.1
theorem dX4_isLike_64 : decode cX4_isLike 64 = .ok (.if_icmp .eq 5, 3) := q_dg72.1.2.2.2.2
theorem dX4_isLike_67 : decode cX4_isLike 67 = .ok (.iconst 0, 1) := q_dg72.2.1.1.1
theorem dX4_isLike_68 : decode cX4_isLike 68 = .ok (.ireturn, 1) := q_dg72.2.1.1.2.1
theorem dX4_isLike_69 : decode cX4_isLike 69 = .ok (.iinc 2 1, 3) := q_dg72.2.1.1.2.2
theorem dX4_isLike_72 : decode cX4_isLike 72 = .ok (.goto (-27), 3) := q_dg72.2.1.2.1
theorem dX4_isLike_75 : decode cX4_isLike 75 = .ok (.aload_n 0, 1) := q_dg72.2.1.2.2.1
theorem dX4_isLike_76 : decode cX4_isLike 76 = .ok (.getfield 12, 3) := q_dg72.2.1.2.2.2
theorem dX4_isLike_79 : decode cX4_isLike 79 = .ok (.getfield 60, 3) := q_dg72.2.2.1.1
theorem dX4_isLike_82 : decode cX4_isLike 82 = .ok (.aload_n 1, 1) := q_dg72.2.2.1.2.1
theorem dX4_isLike_83 : decode cX4_isLike 83 = .ok (.getfield 12, 3) := q_dg72.2.2.1.2.2
theorem dX4_isLike_86 : decode cX4_isLike 86 = .ok (.getfield 60, 3) := q_dg72.2.2.2.1
theorem dX4_isLike_89 : decode cX4_isLike 89 = .ok (.invokevirtual 64, 3) := q_dg72.2.2.2.2.1
theorem dX4_isLike_92 : decode cX4_isLike 92 = .ok (.ifCond .ne 35, 3) := q_dg72.2.2.2.2.2
theorem q_dg73 : ((((decode cX4_isLike 95 = .ok (.aload_n 0, 1)) ∧ (decode cX4_isLike 96 = .ok (.getfield 21, 3))) ∧ ((decode cX4_isLike 99 = .ok (.aload_n 1, 1)) ∧ (decode cX4_isLike 100 = .ok (.getfield 21, 3)))) ∧ (((decode cX4_isLike 103 = .ok (.invokevirtual 70, 3)) ∧ (decode cX4_isLike 106 = .ok (.ifCond .eq 21, 3))) ∧ ((decode cX4_isLike 109 = .ok (.aload_n 0, 1)) ∧ (decode cX4_isLike 110 = .ok (.getfield 28, 3))))) ∧ ((((decode cX4_isLike 113 = .ok (.aload_n 1, 1)) ∧ (decode cX4_isLike 114 = .ok (.getfield 28, 3))) ∧ ((decode cX4_isLike 117 = .ok (.invokevirtual 74, 3)) ∧ (decode cX4_isLike 120 = .ok (.ifCond .eq 7, 3)))) ∧ (((decode cX4_isLike 123 = .ok (.iconst 1, 1)) ∧ (decode cX4_isLike 124 = .ok (.goto 4, 3))) ∧ ((decode cX4_isLike 127 = .ok (.iconst 0, 1)) ∧ (decode cX4_isLike 128 = .ok (.ireturn, 1))))) := by decide +kernel
theorem dX4_isLike_95 : decode cX4_isLike 95 = .ok (.aload_n 0, 1) := q_dg73.1.1.1.1
theorem dX4_isLike_96 : decode cX4_isLike 96 = .ok (.getfield 21, 3) := q_dg73.1.1.1.2
theorem dX4_isLike_99 : decode cX4_isLike 99 = .ok (.aload_n 1, 1) := q_dg73.1.1.2.1
theorem dX4_isLike_100 : decode cX4_isLike 100 = .ok (.getfield 21, 3) := q_dg73.1.1.2.2
theorem dX4_isLike_103 : decode cX4_isLike 103 = .ok (.invokevirtual 70, 3) := q_dg73.1.2.1.1
theorem dX4_isLike_106 : decode cX4_isLike 106 = .ok (.ifCond .eq 21, 3) := q_dg73.1.2.1.2
theorem dX4_isLike_109 : decode cX4_isLike 109 = .ok (.aload_n 0, 1) := q_dg73.1.2.2.1
theorem dX4_isLike_110 : decode cX4_isLike 110 = .ok (.getfield 28, 3) := q_dg73.1.2.2.2
theorem dX4_isLike_113 : decode cX4_isLike 113 = .ok (.aload_n 1, 1) := q_dg73.2.1.1.1
theorem dX4_isLike_114 : decode cX4_isLike 114 = .ok (.getfield 28, 3) := q_dg73.2.1.1.2
theorem dX4_isLike_117 : decode cX4_isLike 117 = .ok (.invokevirtual 74, 3) := q_dg73.2.1.2.1
theorem dX4_isLike_120 : decode cX4_isLike 120 = .ok (.ifCond .eq 7, 3) := q_dg73.2.1.2.2
theorem dX4_isLike_123 : decode cX4_isLike 123 = .ok (.iconst 1, 1) := q_dg73.2.2.1.1
theorem dX4_isLike_124 : decode cX4_isLike 124 = .ok (.goto 4, 3) := q_dg73.2.2.1.2
theorem dX4_isLike_127 : decode cX4_isLike 127 = .ok (.iconst 0, 1) := q_dg73.2.2.2.1
theorem dX4_isLike_128 : decode cX4_isLike 128 = .ok (.ireturn, 1) := q_dg73.2.2.2.2
theorem q_dg74 : ((((decode cX4_perform 0 = .ok (.iload_n 1, 1)) ∧ ((decode cX4_perform 1 = .ok (.tableswitch 202 0 12 #[67, 77, 87, 104, 116, 126, 131, 136, 143, 152, 167, 179, 191], 67)) ∧ (decode cX4_perform 68 = .ok (.aload_n 0, 1)))) ∧ ((decode cX4_perform 69 = .ok (.getfield 12, 3)) ∧ ((decode cX4_perform 72 = .ok (.iload_n 2, 1)) ∧ (decode cX4_perform 73 = .ok (.iload_n 3, 1))))) ∧ (((decode cX4_perform 74 = .ok (.invokevirtual 77, 3)) ∧ ((decode cX4_perform 77 = .ok (.ireturn, 1)) ∧ (decode cX4_perform 78 = .ok (.aload_n 0, 1)))) ∧ ((decode cX4_perform 79 = .ok (.getfield 12, 3)) ∧ ((decode cX4_perform 82 = .ok (.iload_n 2, 1)) ∧ (decode cX4_perform 83 = .ok (.iload_n 3, 1)))))) ∧ ((((decode cX4_perform 84 = .ok (.invokevirtual 81, 3)) ∧ ((decode cX4_perform 87 = .ok (.ireturn, 1)) ∧ (decode cX4_perform 88 = .ok (.aload_n 0, 1)))) ∧ ((decode cX4_perform 89 = .ok (.getfield 12, 3)) ∧ ((decode cX4_perform 92 = .ok (.sipush 512, 3)) ∧ (decode cX4_perform 95 = .ok (.iload_n 2, 1))))) ∧ (((decode cX4_perform 96 = .ok (.imul, 1)) ∧ ((decode cX4_perform 97 = .ok (.iload_n 3, 1)) ∧ (decode cX4_perform 98 = .ok (.iadd, 1)))) ∧ ((decode cX4_perform 99 = .ok (.iload 4, 2)) ∧ ((decode cX4_perform 101 = .ok (.invokevirtual 84, 3)) ∧ (decode cX4_perform 104 = .ok (.ireturn, 1)))))) := by decide +kernel
theorem dX4_perform_0 : decode cX4_perform 0 = .ok (.iload_n 1, 1) := q_dg74.1.1.1.1
theorem dX4_perform_1 : decode cX4_perform 1 = .ok (.tableswitch 202 0 12 #[67, 77, 87, 104, 116, 126, 131, 136, 143, 152, 167, 179, 191], 67) := q_dg74.1.1.1.2.1
theorem dX4_perform_68 : decode cX4_perform 68 = .ok (.aload_n 0, 1) := q_dg74.1.1.1.2.2
theorem dX4_perform_69 : decode cX4_perform 69 = .ok (.getfield 12, 3) := q_dg74.1.1.2.1
theorem dX4_perform_72 : decode cX4_perform 72 = .ok (.iload_n 2, 1) := q_dg74.1.1.2.2.1
theorem dX4_perform_73 : decode cX4_perform 73 = .ok (.iload_n 3, 1) := q_dg74.1.1.2.2.2
theorem dX4_perform_74 : decode cX4_perform 74 = .ok (.invokevirtual 77, 3) := q_dg74.1.2.1.1
theorem dX4_perform_77 : decode cX4_perform 77 = .ok (.ireturn, 1) := q_dg74.1.2.1.2.1
theorem dX4_perform_78 : decode cX4_perform 78 = .ok (.aload_n 0, 1) := q_dg74.1.2.1.2.2
theorem dX4_perform_79 : decode cX4_perform 79 = .ok (.getfield 12, 3) := q_dg74.1.2.2.1
theorem dX4_perform_82 : decode cX4_perform 82 = .ok (.iload_n 2, 1) := q_dg74.1.2.2.2.1
theorem dX4_perform_83 : decode cX4_perform 83 = .ok (.iload_n 3, 1) := q_dg74.1.2.2.2.2
theorem dX4_perform_84 : decode cX4_perform 84 = .ok (.invokevirtual 81, 3) := q_dg74.2.1.1.1
theorem dX4_perform_87 : decode cX4_perform 87 = .ok (.ireturn, 1) := q_dg74.2.1.1.2.1
theorem dX4_perform_88 : decode cX4_perform 88 = .ok (.aload_n 0, 1) := q_dg74.2.1.1.2.2
theorem dX4_perform_89 : decode cX4_perform 89 = .ok (.getfield 12, 3) := q_dg74.2.1.2.1
theorem dX4_perform_92 : decode cX4_perform 92 = .ok (.sipush 512, 3) := q_dg74.2.1.2.2.1
theorem dX4_perform_95 : decode cX4_perform 95 = .ok (.iload_n 2, 1) := q_dg74.2.1.2.2.2
theorem dX4_perform_96 : decode cX4_perform 96 = .ok (.imul, 1) := q_dg74.2.2.1.1
theorem dX4_perform_97 : decode cX4_perform 97 = .ok (.iload_n 3, 1) := q_dg74.2.2.1.2.1
theorem dX4_perform_98 : decode cX4_perform 98 = .ok (.iadd, 1) := q_dg74.2.2.1.2.2
theorem dX4_perform_99 : decode cX4_perform 99 = .ok (.iload 4, 2) := q_dg74.2.2.2.1
theorem dX4_perform_101 : decode cX4_perform 101 = .ok (.invokevirtual 84, 3) := q_dg74.2.2.2.2.1
theorem dX4_perform_104 : decode cX4_perform 104 = .ok (.ireturn, 1) := q_dg74.2.2.2.2.2
theorem q_dg75 : ((((decode cX4_perform 105 = .ok (.aload_n 0, 1)) ∧ ((decode cX4_perform 106 = .ok (.getfield 12, 3)) ∧ (decode cX4_perform 109 = .ok (.iload_n 2, 1)))) ∧ ((decode cX4_perform 110 = .ok (.iload_n 3, 1)) ∧ ((decode cX4_perform 111 = .ok (.iload 4, 2)) ∧ (decode cX4_perform 113 = .ok (.invokevirtual 87, 3))))) ∧ (((decode cX4_perform 116 = .ok (.ireturn, 1)) ∧ ((decode cX4_perform 117 = .ok (.aload_n 0, 1)) ∧ (decode cX4_perform 118 = .ok (.getfield 21, 3)))) ∧ ((decode cX4_perform 121 = .ok (.iload_n 2, 1)) ∧ ((decode cX4_perform 122 = .ok (.iload_n 3, 1)) ∧ (decode cX4_perform 123 = .ok (.invokevirtual 91, 3)))))) ∧ ((((decode cX4_perform 126 = .ok (.ireturn, 1)) ∧ ((decode cX4_perform 127 = .ok (.aload_n 0, 1)) ∧ (decode cX4_perform 128 = .ok (.invokevirtual 92, 3)))) ∧ ((decode cX4_perform 131 = .ok (.ireturn, 1)) ∧ ((decode cX4_perform 132 = .ok (.aload_n 0, 1)) ∧ (decode cX4_perform 133 = .ok (.invokevirtual 96, 3))))) ∧ (((decode cX4_perform 136 = .ok (.ireturn, 1)) ∧ ((decode cX4_perform 137 = .ok (.aload_n 0, 1)) ∧ (decode cX4_perform 138 = .ok (.iload_n 2, 1)))) ∧ ((decode cX4_perform 139 = .ok (.iconst 0, 1)) ∧ ((decode cX4_perform 140 = .ok (.invokevirtual 99, 3)) ∧ (decode cX4_perform 143 = .ok (.ireturn, 1)))))) := by decide +kernel
theorem dX4_perform_105 : decode cX4_perform 105 = .ok (.aload_n 0, 1) := q_dg75.1.1.1.1
theorem dX4_perform_106 : decode cX4_perform 106 = .ok (.getfield 12, 3) := q_dg75.1.1.1.2.1
theorem dX4_perform_109 : decode cX4_perform 109 = .ok (.iload_n 2, 1) := q_dg75.1.1.1.2.2
theorem dX4_perform_110 : decode cX4_perform 110 = .ok (.iload_n 3, 1) := q_dg75.1.1.2.1
theorem dX4_perform_111 : decode cX4_perform 111 = .ok (.iload 4, 2) := q_dg75.1.1.2.2.1
theorem dX4_perform_113 : decode cX4_perform 113 = .ok (.invokevirtual 87, 3) := q_dg75.1.1.2.2.2
theorem dX4_perform_116 : decode cX4_perform 116 = .ok (.ireturn, 1) := q_dg75.1.2.1.1
theorem dX4_perform_117 : decode cX4_perform 117 = .ok (.aload_n 0, 1) := q_dg75.1.2.1.2.1
theorem dX4_perform_118 : decode cX4_perform 118 = .ok (.getfield 21, 3) := q_dg75.1.2.1.2.2
theorem dX4_perform_121 : decode cX4_perform 121 = .ok (.iload_n 2, 1) := q_dg75.1.2.2.1
theorem dX4_perform_122 : decode cX4_perform 122 = .ok (.iload_n 3, 1) := q_dg75.1.2.2.2.1
theorem dX4_perform_123 : decode cX4_perform 123 = .ok (.invokevirtual 91, 3) := q_dg75.1.2.2.2.2
theorem dX4_perform_126 : decode cX4_perform 126 = .ok (.ireturn, 1) := q_dg75.2.1.1.1
theorem dX4_perform_127 : decode cX4_perform 127 = .ok (.aload_n 0, 1) := q_dg75.2.1.1.2.1
theorem dX4_perform_128 : decode cX4_perform 128 = .ok (.invokevirtual 92, 3) := q_dg75.2.1.1.2.2
theorem dX4_perform_131 : decode cX4_perform 131 = .ok (.ireturn, 1) := q_dg75.2.1.2.1
theorem dX4_perform_132 : decode cX4_perform 132 = .ok (.aload_n 0, 1) := q_dg75.2.1.2.2.1
theorem dX4_perform_133 : decode cX4_perform 133 = .ok (.invokevirtual 96, 3) := q_dg75.2.1.2.2.2
theorem dX4_perform_136 : decode cX4_perform 136 = .ok (.ireturn, 1) := q_dg75.2.2.1.1
theorem dX4_perform_137 : decode cX4_perform 137 = .ok (.aload_n 0, 1) := q_dg75.2.2.1.2.1
theorem dX4_perform_138 : decode cX4_perform 138 = .ok (.iload_n 2, 1) := q_dg75.2.2.1.2.2
theorem dX4_perform_139 : decode cX4_perform 139 = .ok (.iconst 0, 1) := q_dg75.2.2.2.1
theorem dX4_perform_140 : decode cX4_perform 140 = .ok (.invokevirtual 99, 3) := q_dg75.2.2.2.2.1
theorem dX4_perform_143 : decode cX4_perform 143 = .ok (.ireturn, 1) := q_dg75.2.2.2.2.2
theorem q_dg76 : ((((decode cX4_perform 144 = .ok (.aload_n 0, 1)) ∧ ((decode cX4_perform 145 = .ok (.sipush 200, 3)) ∧ (decode cX4_perform 148 = .ok (.iconst 1, 1)))) ∧ ((decode cX4_perform 149 = .ok (.invokevirtual 99, 3)) ∧ ((decode cX4_perform 152 = .ok (.ireturn, 1)) ∧ (decode cX4_perform 153 = .ok (.aload_n 0, 1))))) ∧ (((decode cX4_perform 154 = .ok (.getfield 12, 3)) ∧ ((decode cX4_perform 157 = .ok (.getfield 103, 3)) ∧ (decode cX4_perform 160 = .ok (.iload_n 2, 1)))) ∧ ((decode cX4_perform 161 = .ok (.iload_n 3, 1)) ∧ ((decode cX4_perform 162 = .ok (.iload 4, 2)) ∧ (decode cX4_perform 164 = .ok (.invokevirtual 107, 3)))))) ∧ ((((decode cX4_perform 167 = .ok (.ireturn, 1)) ∧ ((decode cX4_perform 168 = .ok (.aload_n 0, 1)) ∧ (decode cX4_perform 169 = .ok (.getfield 12, 3)))) ∧ ((decode cX4_perform 172 = .ok (.getfield 103, 3)) ∧ ((decode cX4_perform 175 = .ok (.iload_n 2, 1)) ∧ (decode cX4_perform 176 = .ok (.invokevirtual 112, 3))))) ∧ (((decode cX4_perform 179 = .ok (.ireturn, 1)) ∧ ((decode cX4_perform 180 = .ok (.aload_n 0, 1)) ∧ (decode cX4_perform 181 = .ok (.getfield 12, 3)))) ∧ ((decode cX4_perform 184 = .ok (.getfield 115, 3)) ∧ ((decode cX4_perform 187 = .ok (.iload_n 2, 1)) ∧ (decode cX4_perform 188 = .ok (.invokevirtual 119, 3)))))) := by decide +kernel
theorem dX4_perform_144 : decode cX4_perform 144 = .ok (.aload_n 0, 1) := q_dg76.1.1.1.1
theorem dX4_perform_145 : decode cX4_perform 145 = .ok (.sipush 200, 3) := q_dg76.1.1.1.2.1
theorem dX4_perform_148 : decode cX4_perform 148 = .ok (.iconst 1, 1) := q_dg76.1.1.1.2.2
theorem dX4_perform_149 : decode cX4_perform 149 = .ok (.invokevirtual 99, 3) := q_dg76.1.1.2.1
theorem dX4_perform_152 : decode cX4_perform 152 = .ok (.ireturn, 1) := q_dg76.1.1.2.2.1
theorem dX4_perform_153 : decode cX4_perform 153 = .ok (.aload_n 0, 1) := q_dg76.1.1.2.2.2
theorem dX4_perform_154 : decode cX4_perform 154 = .ok (.getfield 12, 3) := q_dg76.1.2.1.1
theorem dX4_perform_157 : decode cX4_perform 157 = .ok (.getfield 103, 3) := q_dg76.1.2.1.2.1
theorem dX4_perform_160 : decode cX4_perform 160 = .ok (.iload_n 2, 1) := q_dg76.1.2.1.2.2
theorem dX4_perform_161 : decode cX4_perform 161 = .ok (.iload_n 3, 1) := q_dg76.1.2.2.1
theorem dX4_perform_162 : decode cX4_perform 162 = .ok (.iload 4, 2) := q_dg76.1.2.2.2.1
theorem dX4_perform_164 : decode cX4_perform 164 = .ok (.invokevirtual 107, 3) := q_dg76.1.2.2.2.2
theorem dX4_perform_167 : decode cX4_perform 167 = .ok (.ireturn, 1) := q_dg76.2.1.1.1
theorem dX4_perform_168 : decode cX4_perform 168 = .ok (.aload_n 0, 1) := q_dg76.2.1.1.2.1
theorem dX4_perform_169 : decode cX4_perform 169 = .ok (.getfield 12, 3) := q_dg76.2.1.1.2.2
theorem dX4_perform_172 : decode cX4_perform 172 = .ok (.getfield 103, 3) := q_dg76.2.1.2.1
theorem dX4_perform_175 : decode cX4_perform 175 = .ok (.iload_n 2, 1) := q_dg76.2.1.2.2.1
theorem dX4_perform_176 : decode cX4_perform 176 = .ok (.invokevirtual 112, 3) := q_dg76.2.1.2.2.2
theorem dX4_perform_179 : decode cX4_perform 179 = .ok (.ireturn, 1) := q_dg76.2.2.1.1
theorem dX4_perform_180 : decode cX4_perform 180 = .ok (.aload_n 0, 1) := q_dg76.2.2.1.2.1
theorem dX4_perform_181 : decode cX4_perform 181 = .ok (.getfield 12, 3) := q_dg76.2.2.1.2.2
theorem dX4_perform_184 : decode cX4_perform 184 = .ok (.getfield 115, 3) := q_dg76.2.2.2.1
theorem dX4_perform_187 : decode cX4_perform 187 = .ok (.iload_n 2, 1) := q_dg76.2.2.2.2.1
theorem dX4_perform_188 : decode cX4_perform 188 = .ok (.invokevirtual 119, 3) := q_dg76.2.2.2.2.2
theorem q_dg77 : (((decode cX4_perform 191 = .ok (.ireturn, 1)) ∧ (decode cX4_perform 192 = .ok (.aload_n 0, 1))) ∧ ((decode cX4_perform 193 = .ok (.getfield 12, 3)) ∧ (decode cX4_perform 196 = .ok (.getfield 115, 3)))) ∧ (((decode cX4_perform 199 = .ok (.invokevirtual 124, 3)) ∧ (decode cX4_perform 202 = .ok (.ireturn, 1))) ∧ ((decode cX4_perform 203 = .ok (.iconst 0, 1)) ∧ (decode cX4_perform 204 = .ok (.ireturn, 1)))) := by decide +kernel
theorem dX4_perform_191 : decode cX4_perform 191 = .ok (.ireturn, 1) := q_dg77.1.1.1
theorem dX4_perform_192 : decode cX4_perform 192 = .ok (.aload_n 0, 1) := q_dg77.1.1.2
theorem dX4_perform_193 : decode cX4_perform 193 = .ok (.getfield 12, 3) := q_dg77.1.2.1
theorem dX4_perform_196 : decode cX4_perform 196 = .ok (.getfield 115, 3) := q_dg77.1.2.2
theorem dX4_perform_199 : decode cX4_perform 199 = .ok (.invokevirtual 124, 3) := q_dg77.2.1.1
theorem dX4_perform_202 : decode cX4_perform 202 = .ok (.ireturn, 1) := q_dg77.2.1.2
theorem dX4_perform_203 : decode cX4_perform 203 = .ok (.iconst 0, 1) := q_dg77.2.2.1
theorem dX4_perform_204 : decode cX4_perform 204 = .ok (.ireturn, 1) := q_dg77.2.2.2
theorem q_dg78 : (((decode cX4_startAnew 0 = .ok (.aload_n 0, 1)) ∧ ((decode cX4_startAnew 1 = .ok (.getfield 12, 3)) ∧ (decode cX4_startAnew 4 = .ok (.invokevirtual 127, 3)))) ∧ ((decode cX4_startAnew 7 = .ok (.aload_n 0, 1)) ∧ ((decode cX4_startAnew 8 = .ok (.getfield 21, 3)) ∧ (decode cX4_startAnew 11 = .ok (.aload_n 0, 1))))) ∧ (((decode cX4_startAnew 12 = .ok (.getfield 12, 3)) ∧ ((decode cX4_startAnew 15 = .ok (.invokevirtual 130, 3)) ∧ (decode cX4_startAnew 18 = .ok (.aload_n 0, 1)))) ∧ ((decode cX4_startAnew 19 = .ok (.getfield 21, 3)) ∧ ((decode cX4_startAnew 22 = .ok (.getfield 132, 3)) ∧ (decode cX4_startAnew 25 = .ok (.ireturn, 1))))) := by decide +kernel
theorem dX4_startAnew_0 : decode cX4_startAnew 0 = .ok (.aload_n 0, 1) := q_dg78.1.1.1
theorem dX4_startAnew_1 : decode cX4_startAnew 1 = .ok (.getfield 12, 3) := q_dg78.1.1.2.1
theorem dX4_startAnew_4 : decode cX4_startAnew 4 = .ok (.invokevirtual 127, 3) := q_dg78.1.1.2.2
theorem dX4_startAnew_7 : decode cX4_startAnew 7 = .ok (.aload_n 0, 1) := q_dg78.1.2.1
theorem dX4_startAnew_8 : decode cX4_startAnew 8 = .ok (.getfield 21, 3) := q_dg78.1.2.2.1
theorem dX4_startAnew_11 : decode cX4_startAnew 11 = .ok (.aload_n 0, 1) := q_dg78.1.2.2.2
theorem dX4_startAnew_12 : decode cX4_startAnew 12 = .ok (.getfield 12, 3) := q_dg78.2.1.1
theorem dX4_startAnew_15 : decode cX4_startAnew 15 = .ok (.invokevirtual 130, 3) := q_dg78.2.1.2.1
theorem dX4_startAnew_18 : decode cX4_startAnew 18 = .ok (.aload_n 0, 1) := q_dg78.2.1.2.2
theorem dX4_startAnew_19 : decode cX4_startAnew 19 = .ok (.getfield 21, 3) := q_dg78.2.2.1
theorem dX4_startAnew_22 : decode cX4_startAnew 22 = .ok (.getfield 132, 3) := q_dg78.2.2.2.1
theorem dX4_startAnew_25 : decode cX4_startAnew 25 = .ok (.ireturn, 1) := q_dg78.2.2.2.2
theorem q_dg79 : ((((decode cX4_pressFreeze 0 = .ok (.aload_n 0, 1)) ∧ (decode cX4_pressFreeze 1 = .ok (.getfield 12, 3))) ∧ ((decode cX4_pressFreeze 4 = .ok (.getfield 60, 3)) ∧ ((decode cX4_pressFreeze 7 = .ok (.getfield 136, 3)) ∧ (decode cX4_pressFreeze 10 = .ok (.iconst 0, 1))))) ∧ (((decode cX4_pressFreeze 11 = .ok (.iaload, 1)) ∧ (decode cX4_pressFreeze 12 = .ok (.istore_n 1, 1))) ∧ ((decode cX4_pressFreeze 13 = .ok (.aload_n 0, 1)) ∧ ((decode cX4_pressFreeze 14 = .ok (.getfield 12, 3)) ∧ (decode cX4_pressFreeze 17 = .ok (.sipush 3840, 3)))))) ∧ ((((decode cX4_pressFreeze 20 = .ok (.iload_n 1, 1)) ∧ (decode cX4_pressFreeze 21 = .ok (.bipush 14, 2))) ∧ ((decode cX4_pressFreeze 23 = .ok (.ior, 1)) ∧ ((decode cX4_pressFreeze 24 = .ok (.invokevirtual 139, 3)) ∧ (decode cX4_pressFreeze 27 = .ok (.aload_n 0, 1))))) ∧ (((decode cX4_pressFreeze 28 = .ok (.getfield 21, 3)) ∧ (decode cX4_pressFreeze 31 = .ok (.iconst 1, 1))) ∧ ((decode cX4_pressFreeze 32 = .ok (.putfield 143, 3)) ∧ ((decode cX4_pressFreeze 35 = .ok (.iload_n 1, 1)) ∧ (decode cX4_pressFreeze 36 = .ok (.ireturn, 1)))))) := by decide +kernel
theorem dX4_pressFreeze_0 : decode cX4_pressFreeze 0 = .ok (.aload_n 0, 1) := q_dg79.1.1.1.1
theorem dX4_pressFreeze_1 : decode cX4_pressFreeze 1 = .ok (.getfield 12, 3) := q_dg79.1.1.1.2
theorem dX4_pressFreeze_4 : decode cX4_pressFreeze 4 = .ok (.getfield 60, 3) := q_dg79.1.1.2.1
theorem dX4_pressFreeze_7 : decode cX4_pressFreeze 7 = .ok (.getfield 136, 3) := q_dg79.1.1.2.2.1
theorem dX4_pressFreeze_10 : decode cX4_pressFreeze 10 = .ok (.iconst 0, 1) := q_dg79.1.1.2.2.2
theorem dX4_pressFreeze_11 : decode cX4_pressFreeze 11 = .ok (.iaload, 1) := q_dg79.1.2.1.1
theorem dX4_pressFreeze_12 : decode cX4_pressFreeze 12 = .ok (.istore_n 1, 1) := q_dg79.1.2.1.2
theorem dX4_pressFreeze_13 : decode cX4_pressFreeze 13 = .ok (.aload_n 0, 1) := q_dg79.1.2.2.1
theorem dX4_pressFreeze_14 : decode cX4_pressFreeze 14 = .ok (.getfield 12, 3) := q_dg79.1.2.2.2.1
theorem dX4_pressFreeze_17 : decode cX4_pressFreeze 17 = .ok (.sipush 3840, 3) := q_dg79.1.2.2.2.2
theorem dX4_pressFreeze_20 : decode cX4_pressFreeze 20 = .ok (.iload_n 1, 1) := q_dg79.2.1.1.1
theorem dX4_pressFreeze_21 : decode cX4_pressFreeze 21 = .ok (.bipush 14, 2) := q_dg79.2.1.1.2
theorem dX4_pressFreeze_23 : decode cX4_pressFreeze 23 = .ok (.ior, 1) := q_dg79.2.1.2.1
theorem dX4_pressFreeze_24 : decode cX4_pressFreeze 24 = .ok (.invokevirtual 139, 3) := q_dg79.2.1.2.2.1
theorem dX4_pressFreeze_27 : decode cX4_pressFreeze 27 = .ok (.aload_n 0, 1) := q_dg79.2.1.2.2.2
theorem dX4_pressFreeze_28 : decode cX4_pressFreeze 28 = .ok (.getfield 21, 3) := q_dg79.2.2.1.1
theorem dX4_pressFreeze_31 : decode cX4_pressFreeze 31 = .ok (.iconst 1, 1) := q_dg79.2.2.1.2
theorem dX4_pressFreeze_32 : decode cX4_pressFreeze 32 = .ok (.putfield 143, 3) := q_dg79.2.2.2.1
theorem dX4_pressFreeze_35 : decode cX4_pressFreeze 35 = .ok (.iload_n 1, 1) := q_dg79.2.2.2.2.1
theorem dX4_pressFreeze_36 : decode cX4_pressFreeze 36 = .ok (.ireturn, 1) := q_dg79.2.2.2.2.2
theorem q_dg80 : ((((decode cX4_letPass 0 = .ok (.aload_n 0, 1)) ∧ ((decode cX4_letPass 1 = .ok (.getfield 21, 3)) ∧ (decode cX4_letPass 4 = .ok (.getfield 147, 3)))) ∧ ((decode cX4_letPass 7 = .ok (.istore_n 3, 1)) ∧ ((decode cX4_letPass 8 = .ok (.iconst 0, 1)) ∧ (decode cX4_letPass 9 = .ok (.istore 4, 2))))) ∧ (((decode cX4_letPass 11 = .ok (.iconst 0, 1)) ∧ ((decode cX4_letPass 12 = .ok (.istore 5, 2)) ∧ (decode cX4_letPass 14 = .ok (.iload 4, 2)))) ∧ ((decode cX4_letPass 16 = .ok (.iload_n 1, 1)) ∧ ((decode cX4_letPass 17 = .ok (.if_icmp .ge 86, 3)) ∧ (decode cX4_letPass 20 = .ok (.iload_n 2, 1)))))) ∧ ((((decode cX4_letPass 21 = .ok (.ifCond .eq 14, 3)) ∧ ((decode cX4_letPass 24 = .ok (.aload_n 0, 1)) ∧ (decode cX4_letPass 25 = .ok (.getfield 21, 3)))) ∧ ((decode cX4_letPass 28 = .ok (.getfield 147, 3)) ∧ ((decode cX4_letPass 31 = .ok (.iload_n 3, 1)) ∧ (decode cX4_letPass 32 = .ok (.if_icmp .ne 71, 3))))) ∧ (((decode cX4_letPass 35 = .ok (.aload_n 0, 1)) ∧ ((decode cX4_letPass 36 = .ok (.invokevirtual 150, 3)) ∧ (decode cX4_letPass 39 = .ok (.ifCond .eq 9, 3)))) ∧ ((decode cX4_letPass 42 = .ok (.iinc 5 1, 3)) ∧ ((decode cX4_letPass 45 = .ok (.goto 45, 3)) ∧ (decode cX4_letPass 48 = .ok (.aload_n 0, 1)))))) := by decide +kernel
theorem dX4_letPass_0 : decode cX4_letPass 0 = .ok (.aload_n 0, 1) := q_dg80.1.1.1.1
theorem dX4_letPass_1 : decode cX4_letPass 1 = .ok (.getfield 21, 3) := q_dg80.1.1.1.2.1
theorem dX4_letPass_4 : decode cX4_letPass 4 = .ok (.getfield 147, 3) := q_dg80.1.1.1.2.2
theorem dX4_letPass_7 : decode cX4_letPass 7 = .ok (.istore_n 3, 1) := q_dg80.1.1.2.1
theorem dX4_letPass_8 : decode cX4_letPass 8 = .ok (.iconst 0, 1) := q_dg80.1.1.2.2.1
theorem dX4_letPass_9 : decode cX4_letPass 9 = .ok (.istore 4, 2) := q_dg80.1.1.2.2.2
theorem dX4_letPass_11 : decode cX4_letPass 11 = .ok (.iconst 0, 1) := q_dg80.1.2.1.1
theorem dX4_letPass_12 : decode cX4_letPass 12 = .ok (.istore 5, 2) := q_dg80.1.2.1.2.1
theorem dX4_letPass_14 : decode cX4_letPass 14 = .ok (.iload 4, 2) := q_dg80.1.2.1.2.2
theorem dX4_letPass_16 : decode cX4_letPass 16 = .ok (.iload_n 1, 1) := q_dg80.1.2.2.1
theorem dX4_letPass_17 : decode cX4_letPass 17 = .ok (.if_icmp .ge 86, 3) := q_dg80.1.2.2.2.1
theorem dX4_letPass_20 : decode cX4_letPass 20 = .ok (.iload_n 2, 1) := q_dg80.1.2.2.2.2
theorem dX4_letPass_21 : decode cX4_letPass 21 = .ok (.ifCond .eq 14, 3) := q_dg80.2.1.1.1
theorem dX4_letPass_24 : decode cX4_letPass 24 = .ok (.aload_n 0, 1) := q_dg80.2.1.1.2.1
theorem dX4_letPass_25 : decode cX4_letPass 25 = .ok (.getfield 21, 3) := q_dg80.2.1.1.2.2
theorem dX4_letPass_28 : decode cX4_letPass 28 = .ok (.getfield 147, 3) := q_dg80.2.1.2.1
theorem dX4_letPass_31 : decode cX4_letPass 31 = .ok (.iload_n 3, 1) := q_dg80.2.1.2.2.1
theorem dX4_letPass_32 : decode cX4_letPass 32 = .ok (.if_icmp .ne 71, 3) := q_dg80.2.1.2.2.2
theorem dX4_letPass_35 : decode cX4_letPass 35 = .ok (.aload_n 0, 1) := q_dg80.2.2.1.1
theorem dX4_letPass_36 : decode cX4_letPass 36 = .ok (.invokevirtual 150, 3) := q_dg80.2.2.1.2.1
theorem dX4_letPass_39 : decode cX4_letPass 39 = .ok (.ifCond .eq 9, 3) := q_dg80.2.2.1.2.2
theorem dX4_letPass_42 : decode cX4_letPass 42 = .ok (.iinc 5 1, 3) := q_dg80.2.2.2.1
theorem dX4_letPass_45 : decode cX4_letPass 45 = .ok (.goto 45, 3) := q_dg80.2.2.2.2.1
theorem dX4_letPass_48 : decode cX4_letPass 48 = .ok (.aload_n 0, 1) := q_dg80.2.2.2.2.2
theorem q_dg81 : ((((decode cX4_letPass 49 = .ok (.getfield 21, 3)) ∧ ((decode cX4_letPass 52 = .ok (.getfield 154, 3)) ∧ (decode cX4_letPass 55 = .ok (.ifCond .ne 14, 3)))) ∧ ((decode cX4_letPass 58 = .ok (.aload_n 0, 1)) ∧ ((decode cX4_letPass 59 = .ok (.getfield 21, 3)) ∧ (decode cX4_letPass 62 = .ok (.aload_n 0, 1))))) ∧ (((decode cX4_letPass 63 = .ok (.getfield 12, 3)) ∧ ((decode cX4_letPass 66 = .ok (.invokevirtual 157, 3)) ∧ (decode cX4_letPass 69 = .ok (.aload_n 0, 1)))) ∧ ((decode cX4_letPass 70 = .ok (.getfield 21, 3)) ∧ ((decode cX4_letPass 73 = .ok (.invokevirtual 160, 3)) ∧ (decode cX4_letPass 76 = .ok (.ifCond .eq 14, 3)))))) ∧ ((((decode cX4_letPass 79 = .ok (.aload_n 0, 1)) ∧ ((decode cX4_letPass 80 = .ok (.getfield 21, 3)) ∧ (decode cX4_letPass 83 = .ok (.aload_n 0, 1)))) ∧ ((decode cX4_letPass 84 = .ok (.getfield 12, 3)) ∧ ((decode cX4_letPass 87 = .ok (.invokevirtual 163, 3)) ∧ (decode cX4_letPass 90 = .ok (.aload_n 0, 1))))) ∧ (((decode cX4_letPass 91 = .ok (.getfield 12, 3)) ∧ ((decode cX4_letPass 94 = .ok (.invokevirtual 166, 3)) ∧ (decode cX4_letPass 97 = .ok (.iinc 4 1, 3)))) ∧ ((decode cX4_letPass 100 = .ok (.goto (-86), 3)) ∧ ((decode cX4_letPass 103 = .ok (.aload_n 0, 1)) ∧ (decode cX4_letPass 104 = .ok (.dup, 1)))))) := by decide +kernel
theorem dX4_letPass_49 : decode cX4_letPass 49 = .ok (.getfield 21, 3) := q_dg81.1.1.1.1
theorem dX4_letPass_52 : decode cX4_letPass 52 = .ok (.getfield 154, 3) := q_dg81.1.1.1.2.1
theorem dX4_letPass_55 : decode cX4_letPass 55 = .ok (.ifCond .ne 14, 3) := q_dg81.1.1.1.2.2
theorem dX4_letPass_58 : decode cX4_letPass 58 = .ok (.aload_n 0, 1) := q_dg81.1.1.2.1
theorem dX4_letPass_59 : decode cX4_letPass 59 = .ok (.getfield 21, 3) := q_dg81.1.1.2.2.1
theorem dX4_letPass_62 : decode cX4_letPass 62 = .ok (.aload_n 0, 1) := q_dg81.1.1.2.2.2
theorem dX4_letPass_63 : decode cX4_letPass 63 = .ok (.getfield 12, 3) := q_dg81.1.2.1.1
theorem dX4_letPass_66 : decode cX4_letPass 66 = .ok (.invokevirtual 157, 3) := q_dg81.1.2.1.2.1
theorem dX4_letPass_69 : decode cX4_letPass 69 = .ok (.aload_n 0, 1) := q_dg81.1.2.1.2.2
theorem dX4_letPass_70 : decode cX4_letPass 70 = .ok (.getfield 21, 3) := q_dg81.1.2.2.1
theorem dX4_letPass_73 : decode cX4_letPass 73 = .ok (.invokevirtual 160, 3) := q_dg81.1.2.2.2.1
theorem dX4_letPass_76 : decode cX4_letPass 76 = .ok (.ifCond .eq 14, 3) := q_dg81.1.2.2.2.2
theorem dX4_letPass_79 : decode cX4_letPass 79 = .ok (.aload_n 0, 1) := q_dg81.2.1.1.1
theorem dX4_letPass_80 : decode cX4_letPass 80 = .ok (.getfield 21, 3) := q_dg81.2.1.1.2.1
theorem dX4_letPass_83 : decode cX4_letPass 83 = .ok (.aload_n 0, 1) := q_dg81.2.1.1.2.2
theorem dX4_letPass_84 : decode cX4_letPass 84 = .ok (.getfield 12, 3) := q_dg81.2.1.2.1
theorem dX4_letPass_87 : decode cX4_letPass 87 = .ok (.invokevirtual 163, 3) := q_dg81.2.1.2.2.1
theorem dX4_letPass_90 : decode cX4_letPass 90 = .ok (.aload_n 0, 1) := q_dg81.2.1.2.2.2
theorem dX4_letPass_91 : decode cX4_letPass 91 = .ok (.getfield 12, 3) := q_dg81.2.2.1.1
theorem dX4_letPass_94 : decode cX4_letPass 94 = .ok (.invokevirtual 166, 3) := q_dg81.2.2.1.2.1
theorem dX4_letPass_97 : decode cX4_letPass 97 = .ok (.iinc 4 1, 3) := q_dg81.2.2.1.2.2
theorem dX4_letPass_100 : decode cX4_letPass 100 = .ok (.goto (-86), 3) := q_dg81.2.2.2.1
theorem dX4_letPass_103 : decode cX4_letPass 103 = .ok (.aload_n 0, 1) := q_dg81.2.2.2.2.1
theorem dX4_letPass_104 : decode cX4_letPass 104 = .ok (.dup, 1) := q_dg81.2.2.2.2.2
theorem q_dg82 : (((decode cX4_letPass 105 = .ok (.getfield 52, 3)) ∧ (decode cX4_letPass 108 = .ok (.iload 5, 2))) ∧ ((decode cX4_letPass 110 = .ok (.i2l, 1)) ∧ ((decode cX4_letPass 111 = .ok (.ladd, 1)) ∧ (decode cX4_letPass 112 = .ok (.putfield 52, 3))))) ∧ (((decode cX4_letPass 115 = .ok (.iload_n 2, 1)) ∧ ((decode cX4_letPass 116 = .ok (.ifCond .eq 8, 3)) ∧ (decode cX4_letPass 119 = .ok (.iload 4, 2)))) ∧ ((decode cX4_letPass 121 = .ok (.goto 5, 3)) ∧ ((decode cX4_letPass 124 = .ok (.iload 5, 2)) ∧ (decode cX4_letPass 126 = .ok (.ireturn, 1))))) := by decide +kernel
theorem dX4_letPass_105 : decode cX4_letPass 105 = .ok (.getfield 52, 3) := q_dg82.1.1.1
theorem dX4_letPass_108 : decode cX4_letPass 108 = .ok (.iload 5, 2) := q_dg82.1.1.2
theorem dX4_letPass_110 : decode cX4_letPass 110 = .ok (.i2l, 1) := q_dg82.1.2.1
theorem dX4_letPass_111 : decode cX4_letPass 111 = .ok (.ladd, 1) := q_dg82.1.2.2.1
theorem dX4_letPass_112 : decode cX4_letPass 112 = .ok (.putfield 52, 3) := q_dg82.1.2.2.2
theorem dX4_letPass_115 : decode cX4_letPass 115 = .ok (.iload_n 2, 1) := q_dg82.2.1.1
theorem dX4_letPass_116 : decode cX4_letPass 116 = .ok (.ifCond .eq 8, 3) := q_dg82.2.1.2.1
theorem dX4_letPass_119 : decode cX4_letPass 119 = .ok (.iload 4, 2) := q_dg82.2.1.2.2
theorem dX4_letPass_121 : decode cX4_letPass 121 = .ok (.goto 5, 3) := q_dg82.2.2.1
theorem dX4_letPass_124 : decode cX4_letPass 124 = .ok (.iload 5, 2) := q_dg82.2.2.2.1
theorem dX4_letPass_126 : decode cX4_letPass 126 = .ok (.ireturn, 1) := q_dg82.2.2.2.2
theorem q_dg83 : ((((decode cX4_passPicture 0 = .ok (.aload_n 0, 1)) ∧ ((decode cX4_passPicture 1 = .ok (.getfield 12, 3)) ∧ (decode cX4_passPicture 4 = .ok (.invokevirtual 169, 3)))) ∧ ((decode cX4_passPicture 7 = .ok (.aload_n 0, 1)) ∧ ((decode cX4_passPicture 8 = .ok (.getfield 12, 3)) ∧ (decode cX4_passPicture 11 = .ok (.invokevirtual 172, 3))))) ∧ (((decode cX4_passPicture 14 = .ok (.istore_n 1, 1)) ∧ ((decode cX4_passPicture 15 = .ok (.aload_n 0, 1)) ∧ (decode cX4_passPicture 16 = .ok (.getfield 12, 3)))) ∧ ((decode cX4_passPicture 19 = .ok (.aload_n 0, 1)) ∧ ((decode cX4_passPicture 20 = .ok (.getfield 32, 3)) ∧ (decode cX4_passPicture 23 = .ok (.invokevirtual 175, 3)))))) ∧ ((((decode cX4_passPicture 26 = .ok (.aload_n 0, 1)) ∧ ((decode cX4_passPicture 27 = .ok (.getfield 12, 3)) ∧ (decode cX4_passPicture 30 = .ok (.invokevirtual 179, 3)))) ∧ ((decode cX4_passPicture 33 = .ok (.aload_n 0, 1)) ∧ ((decode cX4_passPicture 34 = .ok (.getfield 12, 3)) ∧ (decode cX4_passPicture 37 = .ok (.invokevirtual 182, 3))))) ∧ (((decode cX4_passPicture 40 = .ok (.aload_n 0, 1)) ∧ ((decode cX4_passPicture 41 = .ok (.getfield 12, 3)) ∧ (decode cX4_passPicture 44 = .ok (.invokevirtual 185, 3)))) ∧ ((decode cX4_passPicture 47 = .ok (.bipush 23, 2)) ∧ ((decode cX4_passPicture 49 = .ok (.if_icmp .ne 30, 3)) ∧ (decode cX4_passPicture 52 = .ok (.aload_n 0, 1)))))) := by decide +kernel
theorem dX4_passPicture_0 : decode cX4_passPicture 0 = .ok (.aload_n 0, 1) := q_dg83.1.1.1.1
theorem dX4_passPicture_1 : decode cX4_passPicture 1 = .ok (.getfield 12, 3) := q_dg83.1.1.1.2.1
theorem dX4_passPicture_4 : decode cX4_passPicture 4 = .ok (.invokevirtual 169, 3) := q_dg83.1.1.1.2.2
theorem dX4_passPicture_7 : decode cX4_passPicture 7 = .ok (.aload_n 0, 1) := q_dg83.1.1.2.1
theorem dX4_passPicture_8 : decode cX4_passPicture 8 = .ok (.getfield 12, 3) := q_dg83.1.1.2.2.1
theorem dX4_passPicture_11 : decode cX4_passPicture 11 = .ok (.invokevirtual 172, 3) := q_dg83.1.1.2.2.2
theorem dX4_passPicture_14 : decode cX4_passPicture 14 = .ok (.istore_n 1, 1) := q_dg83.1.2.1.1
theorem dX4_passPicture_15 : decode cX4_passPicture 15 = .ok (.aload_n 0, 1) := q_dg83.1.2.1.2.1
theorem dX4_passPicture_16 : decode cX4_passPicture 16 = .ok (.getfield 12, 3) := q_dg83.1.2.1.2.2
theorem dX4_passPicture_19 : decode cX4_passPicture 19 = .ok (.aload_n 0, 1) := q_dg83.1.2.2.1
theorem dX4_passPicture_20 : decode cX4_passPicture 20 = .ok (.getfield 32, 3) := q_dg83.1.2.2.2.1
theorem dX4_passPicture_23 : decode cX4_passPicture 23 = .ok (.invokevirtual 175, 3) := q_dg83.1.2.2.2.2
theorem dX4_passPicture_26 : decode cX4_passPicture 26 = .ok (.aload_n 0, 1) := q_dg83.2.1.1.1
theorem dX4_passPicture_27 : decode cX4_passPicture 27 = .ok (.getfield 12, 3) := q_dg83.2.1.1.2.1
theorem dX4_passPicture_30 : decode cX4_passPicture 30 = .ok (.invokevirtual 179, 3) := q_dg83.2.1.1.2.2
theorem dX4_passPicture_33 : decode cX4_passPicture 33 = .ok (.aload_n 0, 1) := q_dg83.2.1.2.1
theorem dX4_passPicture_34 : decode cX4_passPicture 34 = .ok (.getfield 12, 3) := q_dg83.2.1.2.2.1
theorem dX4_passPicture_37 : decode cX4_passPicture 37 = .ok (.invokevirtual 182, 3) := q_dg83.2.1.2.2.2
theorem dX4_passPicture_40 : decode cX4_passPicture 40 = .ok (.aload_n 0, 1) := q_dg83.2.2.1.1
theorem dX4_passPicture_41 : decode cX4_passPicture 41 = .ok (.getfield 12, 3) := q_dg83.2.2.1.2.1
theorem dX4_passPicture_44 : decode cX4_passPicture 44 = .ok (.invokevirtual 185, 3) := q_dg83.2.2.1.2.2
theorem dX4_passPicture_47 : decode cX4_passPicture 47 = .ok (.bipush 23, 2) := q_dg83.2.2.2.1
theorem dX4_passPicture_49 : decode cX4_passPicture 49 = .ok (.if_icmp .ne 30, 3) := q_dg83.2.2.2.2.1
theorem dX4_passPicture_52 : decode cX4_passPicture 52 = .ok (.aload_n 0, 1) := q_dg83.2.2.2.2.2
theorem q_dg84 : (((decode cX4_passPicture 53 = .ok (.getfield 28, 3)) ∧ ((decode cX4_passPicture 56 = .ok (.aload_n 0, 1)) ∧ (decode cX4_passPicture 57 = .ok (.getfield 12, 3)))) ∧ ((decode cX4_passPicture 60 = .ok (.getfield 60, 3)) ∧ ((decode cX4_passPicture 63 = .ok (.getfield 136, 3)) ∧ (decode cX4_passPicture 66 = .ok (.aload_n 0, 1))))) ∧ (((decode cX4_passPicture 67 = .ok (.getfield 12, 3)) ∧ ((decode cX4_passPicture 70 = .ok (.invokevirtual 188, 3)) ∧ (decode cX4_passPicture 73 = .ok (.bipush 24, 2)))) ∧ (((decode cX4_passPicture 75 = .ok (.idiv, 1)) ∧ (decode cX4_passPicture 76 = .ok (.invokevirtual 191, 3))) ∧ ((decode cX4_passPicture 79 = .ok (.iload_n 1, 1)) ∧ (decode cX4_passPicture 80 = .ok (.ireturn, 1))))) := by decide +kernel
theorem dX4_passPicture_53 : decode cX4_passPicture 53 = .ok (.getfield 28, 3) := q_dg84.1.1.1
theorem dX4_passPicture_56 : decode cX4_passPicture 56 = .ok (.aload_n 0, 1) := q_dg84.1.1.2.1
theorem dX4_passPicture_57 : decode cX4_passPicture 57 = .ok (.getfield 12, 3) := q_dg84.1.1.2.2
theorem dX4_passPicture_60 : decode cX4_passPicture 60 = .ok (.getfield 60, 3) := q_dg84.1.2.1
theorem dX4_passPicture_63 : decode cX4_passPicture 63 = .ok (.getfield 136, 3) := q_dg84.1.2.2.1
theorem dX4_passPicture_66 : decode cX4_passPicture 66 = .ok (.aload_n 0, 1) := q_dg84.1.2.2.2
theorem dX4_passPicture_67 : decode cX4_passPicture 67 = .ok (.getfield 12, 3) := q_dg84.2.1.1
theorem dX4_passPicture_70 : decode cX4_passPicture 70 = .ok (.invokevirtual 188, 3) := q_dg84.2.1.2.1
theorem dX4_passPicture_73 : decode cX4_passPicture 73 = .ok (.bipush 24, 2) := q_dg84.2.1.2.2
theorem dX4_passPicture_75 : decode cX4_passPicture 75 = .ok (.idiv, 1) := q_dg84.2.2.1.1
theorem dX4_passPicture_76 : decode cX4_passPicture 76 = .ok (.invokevirtual 191, 3) := q_dg84.2.2.1.2
theorem dX4_passPicture_79 : decode cX4_passPicture 79 = .ok (.iload_n 1, 1) := q_dg84.2.2.2.1
theorem dX4_passPicture_80 : decode cX4_passPicture 80 = .ok (.ireturn, 1) := q_dg84.2.2.2.2
theorem q_dg85 : ((((decode cX5_describe 0 = .ok (.aload_n 1, 1)) ∧ ((decode cX5_describe 1 = .ok (.iload_n 2, 1)) ∧ (decode cX5_describe 2 = .ok (.invokevirtual 9, 3)))) ∧ ((decode cX5_describe 5 = .ok (.istore_n 3, 1)) ∧ ((decode cX5_describe 6 = .ok (.iload_n 3, 1)) ∧ (decode cX5_describe 7 = .ok (.invokestatic 15, 3))))) ∧ (((decode cX5_describe 10 = .ok (.istore 4, 2)) ∧ ((decode cX5_describe 12 = .ok (.aload_n 1, 1)) ∧ (decode cX5_describe 13 = .ok (.iload_n 2, 1)))) ∧ ((decode cX5_describe 14 = .ok (.iconst 1, 1)) ∧ ((decode cX5_describe 15 = .ok (.iadd, 1)) ∧ (decode cX5_describe 16 = .ok (.sipush 4095, 3)))))) ∧ ((((decode cX5_describe 19 = .ok (.iand, 1)) ∧ ((decode cX5_describe 20 = .ok (.invokevirtual 9, 3)) ∧ (decode cX5_describe 23 = .ok (.istore 5, 2)))) ∧ ((decode cX5_describe 25 = .ok (.aload_n 0, 1)) ∧ ((decode cX5_describe 26 = .ok (.iconst 0, 1)) ∧ (decode cX5_describe 27 = .ok (.invokevirtual 20, 3))))) ∧ (((decode cX5_describe 30 = .ok (.aload_n 0, 1)) ∧ ((decode cX5_describe 31 = .ok (.iload_n 2, 1)) ∧ (decode cX5_describe 32 = .ok (.invokevirtual 26, 3)))) ∧ ((decode cX5_describe 35 = .ok (.pop, 1)) ∧ ((decode cX5_describe 36 = .ok (.aload_n 0, 1)) ∧ (decode cX5_describe 37 = .ok (.bipush 32, 2)))))) := by decide +kernel
theorem dX5_describe_0 : decode cX5_describe 0 = .ok (.aload_n 1, 1) := q_dg85.1.1.1.1
theorem dX5_describe_1 : decode cX5_describe 1 = .ok (.iload_n 2, 1) := q_dg85.1.1.1.2.1
theorem dX5_describe_2 : decode cX5_describe 2 = .ok (.invokevirtual 9, 3) := q_dg85.1.1.1.2.2
theorem dX5_describe_5 : decode cX5_describe 5 = .ok (.istore_n 3, 1) := q_dg85.1.1.2.1
theorem dX5_describe_6 : decode cX5_describe 6 = .ok (.iload_n 3, 1) := q_dg85.1.1.2.2.1
theorem dX5_describe_7 : decode cX5_describe 7 = .ok (.invokestatic 15, 3) := q_dg85.1.1.2.2.2
theorem dX5_describe_10 : decode cX5_describe 10 = .ok (.istore 4, 2) := q_dg85.1.2.1.1
theorem dX5_describe_12 : decode cX5_describe 12 = .ok (.aload_n 1, 1) := q_dg85.1.2.1.2.1
theorem dX5_describe_13 : decode cX5_describe 13 = .ok (.iload_n 2, 1) := q_dg85.1.2.1.2.2
theorem dX5_describe_14 : decode cX5_describe 14 = .ok (.iconst 1, 1) := q_dg85.1.2.2.1
theorem dX5_describe_15 : decode cX5_describe 15 = .ok (.iadd, 1) := q_dg85.1.2.2.2.1
theorem dX5_describe_16 : decode cX5_describe 16 = .ok (.sipush 4095, 3) := q_dg85.1.2.2.2.2
theorem dX5_describe_19 : decode cX5_describe 19 = .ok (.iand, 1) := q_dg85.2.1.1.1
theorem dX5_describe_20 : decode cX5_describe 20 = .ok (.invokevirtual 9, 3) := q_dg85.2.1.1.2.1
theorem dX5_describe_23 : decode cX5_describe 23 = .ok (.istore 5, 2) := q_dg85.2.1.1.2.2
theorem dX5_describe_25 : decode cX5_describe 25 = .ok (.aload_n 0, 1) := q_dg85.2.1.2.1
theorem dX5_describe_26 : decode cX5_describe 26 = .ok (.iconst 0, 1) := q_dg85.2.1.2.2.1
theorem dX5_describe_27 : decode cX5_describe 27 = .ok (.invokevirtual 20, 3) := q_dg85.2.1.2.2.2
theorem dX5_describe_30 : decode cX5_describe 30 = .ok (.aload_n 0, 1) := q_dg85.2.2.1.1
theorem dX5_describe_31 : decode cX5_describe 31 = .ok (.iload_n 2, 1) := q_dg85.2.2.1.2.1
theorem dX5_describe_32 : decode cX5_describe 32 = .ok (.invokevirtual 26, 3) := q_dg85.2.2.1.2.2
theorem dX5_describe_35 : decode cX5_describe 35 = .ok (.pop, 1) := q_dg85.2.2.2.1
theorem dX5_describe_36 : decode cX5_describe 36 = .ok (.aload_n 0, 1) := q_dg85.2.2.2.2.1
theorem dX5_describe_37 : decode cX5_describe 37 = .ok (.bipush 32, 2) := q_dg85.2.2.2.2.2
theorem q_dg86 : ((((decode cX5_describe 39 = .ok (.invokevirtual 30, 3)) ∧ ((decode cX5_describe 42 = .ok (.pop, 1)) ∧ (decode cX5_describe 43 = .ok (.aload_n 0, 1)))) ∧ ((decode cX5_describe 44 = .ok (.iload_n 3, 1)) ∧ ((decode cX5_describe 45 = .ok (.invokestatic 33, 3)) ∧ (decode cX5_describe 48 = .ok (.iload 4, 2))))) ∧ (((decode cX5_describe 50 = .ok (.iconst 1, 1)) ∧ ((decode cX5_describe 51 = .ok (.if_icmp .ne 4, 3)) ∧ (decode cX5_describe 54 = .ok (.return_, 1)))) ∧ ((decode cX5_describe 55 = .ok (.iload_n 3, 1)) ∧ ((decode cX5_describe 56 = .ok (.invokestatic 37, 3)) ∧ (decode cX5_describe 59 = .ok (.ifCond .eq 22, 3)))))) ∧ ((((decode cX5_describe 62 = .ok (.aload_n 0, 1)) ∧ ((decode cX5_describe 63 = .ok (.bipush 32, 2)) ∧ (decode cX5_describe 65 = .ok (.invokevirtual 30, 3)))) ∧ ((decode cX5_describe 68 = .ok (.pop, 1)) ∧ ((decode cX5_describe 69 = .ok (.aload_n 0, 1)) ∧ (decode cX5_describe 70 = .ok (.iload_n 2, 1))))) ∧ (((decode cX5_describe 71 = .ok (.iload 5, 2)) ∧ ((decode cX5_describe 73 = .ok (.invokestatic 41, 3)) ∧ (decode cX5_describe 76 = .ok (.invokevirtual 26, 3)))) ∧ ((decode cX5_describe 79 = .ok (.pop, 1)) ∧ ((decode cX5_describe 80 = .ok (.return_, 1)) ∧ (decode cX5_describe 81 = .ok (.iload 4, 2)))))) := by decide +kernel
theorem dX5_describe_39 : decode cX5_describe 39 = .ok (.invokevirtual 30, 3) := q_dg86.1.1.1.1
theorem dX5_describe_42 : decode cX5_describe 42 = .ok (.pop, 1) := q_dg86.1.1.1.2.1
theorem dX5_describe_43 : decode cX5_describe 43 = .ok (.aload_n 0, 1) := q_dg86.1.1.1.2.2
theorem dX5_describe_44 : decode cX5_describe 44 = .ok (.iload_n 3, 1) := q_dg86.1.1.2.1
theorem dX5_describe_45 : decode cX5_describe 45 = .ok (.invokestatic 33, 3) := q_dg86.1.1.2.2.1
theorem dX5_describe_48 : decode cX5_describe 48 = .ok (.iload 4, 2) := q_dg86.1.1.2.2.2
theorem dX5_describe_50 : decode cX5_describe 50 = .ok (.iconst 1, 1) := q_dg86.1.2.1.1
theorem dX5_describe_51 : decode cX5_describe 51 = .ok (.if_icmp .ne 4, 3) := q_dg86.1.2.1.2.1
theorem dX5_describe_54 : decode cX5_describe 54 = .ok (.return_, 1) := q_dg86.1.2.1.2.2
theorem dX5_describe_55 : decode cX5_describe 55 = .ok (.iload_n 3, 1) := q_dg86.1.2.2.1
theorem dX5_describe_56 : decode cX5_describe 56 = .ok (.invokestatic 37, 3) := q_dg86.1.2.2.2.1
theorem dX5_describe_59 : decode cX5_describe 59 = .ok (.ifCond .eq 22, 3) := q_dg86.1.2.2.2.2
theorem dX5_describe_62 : decode cX5_describe 62 = .ok (.aload_n 0, 1) := q_dg86.2.1.1.1
theorem dX5_describe_63 : decode cX5_describe 63 = .ok (.bipush 32, 2) := q_dg86.2.1.1.2.1
theorem dX5_describe_65 : decode cX5_describe 65 = .ok (.invokevirtual 30, 3) := q_dg86.2.1.1.2.2
theorem dX5_describe_68 : decode cX5_describe 68 = .ok (.pop, 1) := q_dg86.2.1.2.1
theorem dX5_describe_69 : decode cX5_describe 69 = .ok (.aload_n 0, 1) := q_dg86.2.1.2.2.1
theorem dX5_describe_70 : decode cX5_describe 70 = .ok (.iload_n 2, 1) := q_dg86.2.1.2.2.2
theorem dX5_describe_71 : decode cX5_describe 71 = .ok (.iload 5, 2) := q_dg86.2.2.1.1
theorem dX5_describe_73 : decode cX5_describe 73 = .ok (.invokestatic 41, 3) := q_dg86.2.2.1.2.1
theorem dX5_describe_76 : decode cX5_describe 76 = .ok (.invokevirtual 26, 3) := q_dg86.2.2.1.2.2
theorem dX5_describe_79 : decode cX5_describe 79 = .ok (.pop, 1) := q_dg86.2.2.2.1
theorem dX5_describe_80 : decode cX5_describe 80 = .ok (.return_, 1) := q_dg86.2.2.2.2.1
theorem dX5_describe_81 : decode cX5_describe 81 = .ok (.iload 4, 2) := q_dg86.2.2.2.2.2
theorem q_dg87 : ((((decode cX5_describe 83 = .ok (.iconst 2, 1)) ∧ (decode cX5_describe 84 = .ok (.if_icmp .ne 8, 3))) ∧ ((decode cX5_describe 87 = .ok (.iload 5, 2)) ∧ (decode cX5_describe 89 = .ok (.goto 10, 3)))) ∧ (((decode cX5_describe 92 = .ok (.aload_n 1, 1)) ∧ (decode cX5_describe 93 = .ok (.iload_n 2, 1))) ∧ ((decode cX5_describe 94 = .ok (.iconst 1, 1)) ∧ (decode cX5_describe 95 = .ok (.iadd, 1))))) ∧ ((((decode cX5_describe 96 = .ok (.invokevirtual 45, 3)) ∧ (decode cX5_describe 99 = .ok (.istore 6, 2))) ∧ ((decode cX5_describe 101 = .ok (.aload_n 0, 1)) ∧ (decode cX5_describe 102 = .ok (.iload_n 3, 1)))) ∧ (((decode cX5_describe 103 = .ok (.invokestatic 48, 3)) ∧ (decode cX5_describe 106 = .ok (.iload 6, 2))) ∧ ((decode cX5_describe 108 = .ok (.invokestatic 53, 3)) ∧ (decode cX5_describe 111 = .ok (.return_, 1))))) := by decide +kernel
theorem dX5_describe_83 : decode cX5_describe 83 = .ok (.iconst 2, 1) := q_dg87.1.1.1.1
theorem dX5_describe_84 : decode cX5_describe 84 = .ok (.if_icmp .ne 8, 3) := q_dg87.1.1.1.2
theorem dX5_describe_87 : decode cX5_describe 87 = .ok (.iload 5, 2) := q_dg87.1.1.2.1
theorem dX5_describe_89 : decode cX5_describe 89 = .ok (.goto 10, 3) := q_dg87.1.1.2.2
theorem dX5_describe_92 : decode cX5_describe 92 = .ok (.aload_n 1, 1) := q_dg87.1.2.1.1
theorem dX5_describe_93 : decode cX5_describe 93 = .ok (.iload_n 2, 1) := q_dg87.1.2.1.2
theorem dX5_describe_94 : decode cX5_describe 94 = .ok (.iconst 1, 1) := q_dg87.1.2.2.1
theorem dX5_describe_95 : decode cX5_describe 95 = .ok (.iadd, 1) := q_dg87.1.2.2.2
theorem dX5_describe_96 : decode cX5_describe 96 = .ok (.invokevirtual 45, 3) := q_dg87.2.1.1.1
theorem dX5_describe_99 : decode cX5_describe 99 = .ok (.istore 6, 2) := q_dg87.2.1.1.2
theorem dX5_describe_101 : decode cX5_describe 101 = .ok (.aload_n 0, 1) := q_dg87.2.1.2.1
theorem dX5_describe_102 : decode cX5_describe 102 = .ok (.iload_n 3, 1) := q_dg87.2.1.2.2
theorem dX5_describe_103 : decode cX5_describe 103 = .ok (.invokestatic 48, 3) := q_dg87.2.2.1.1
theorem dX5_describe_106 : decode cX5_describe 106 = .ok (.iload 6, 2) := q_dg87.2.2.1.2
theorem dX5_describe_108 : decode cX5_describe 108 = .ok (.invokestatic 53, 3) := q_dg87.2.2.2.1
theorem dX5_describe_111 : decode cX5_describe 111 = .ok (.return_, 1) := q_dg87.2.2.2.2
theorem q_dg88 : (((decode cX5_layoutOf 0 = .ok (.iload_n 0, 1)) ∧ ((decode cX5_layoutOf 1 = .ok (.invokestatic 57, 3)) ∧ (decode cX5_layoutOf 4 = .ok (.ifCond .lt 8, 3)))) ∧ (((decode cX5_layoutOf 7 = .ok (.iload_n 0, 1)) ∧ (decode cX5_layoutOf 8 = .ok (.bipush 7, 2))) ∧ ((decode cX5_layoutOf 10 = .ok (.iand, 1)) ∧ (decode cX5_layoutOf 11 = .ok (.ireturn, 1))))) ∧ (((decode cX5_layoutOf 12 = .ok (.iload_n 0, 1)) ∧ ((decode cX5_layoutOf 13 = .ok (.sipush 159, 3)) ∧ (decode cX5_layoutOf 16 = .ok (.if_icmp .ne 8, 3)))) ∧ (((decode cX5_layoutOf 19 = .ok (.bipush 8, 2)) ∧ (decode cX5_layoutOf 21 = .ok (.goto 4, 3))) ∧ ((decode cX5_layoutOf 24 = .ok (.iconst 3, 1)) ∧ (decode cX5_layoutOf 25 = .ok (.ireturn, 1))))) := by decide +kernel
theorem dX5_layoutOf_0 : decode cX5_layoutOf 0 = .ok (.iload_n 0, 1) := q_dg88.1.1.1
theorem dX5_layoutOf_1 : decode cX5_layoutOf 1 = .ok (.invokestatic 57, 3) := q_dg88.1.1.2.1
theorem dX5_layoutOf_4 : decode cX5_layoutOf 4 = .ok (.ifCond .lt 8, 3) := q_dg88.1.1.2.2
theorem dX5_layoutOf_7 : decode cX5_layoutOf 7 = .ok (.iload_n 0, 1) := q_dg88.1.2.1.1
theorem dX5_layoutOf_8 : decode cX5_layoutOf 8 = .ok (.bipush 7, 2) := q_dg88.1.2.1.2
theorem dX5_layoutOf_10 : decode cX5_layoutOf 10 = .ok (.iand, 1) := q_dg88.1.2.2.1
theorem dX5_layoutOf_11 : decode cX5_layoutOf 11 = .ok (.ireturn, 1) := q_dg88.1.2.2.2
theorem dX5_layoutOf_12 : decode cX5_layoutOf 12 = .ok (.iload_n 0, 1) := q_dg88.2.1.1
theorem dX5_layoutOf_13 : decode cX5_layoutOf 13 = .ok (.sipush 159, 3) := q_dg88.2.1.2.1
theorem dX5_layoutOf_16 : decode cX5_layoutOf 16 = .ok (.if_icmp .ne 8, 3) := q_dg88.2.1.2.2
theorem dX5_layoutOf_19 : decode cX5_layoutOf 19 = .ok (.bipush 8, 2) := q_dg88.2.2.1.1
theorem dX5_layoutOf_21 : decode cX5_layoutOf 21 = .ok (.goto 4, 3) := q_dg88.2.2.1.2
theorem dX5_layoutOf_24 : decode cX5_layoutOf 24 = .ok (.iconst 3, 1) := q_dg88.2.2.2.1
theorem dX5_layoutOf_25 : decode cX5_layoutOf 25 = .ok (.ireturn, 1) := q_dg88.2.2.2.2
theorem q_dg89 : ((((decode cX5_appendOperand 0 = .ok (.aload_n 0, 1)) ∧ ((decode cX5_appendOperand 1 = .ok (.bipush 32, 2)) ∧ (decode cX5_appendOperand 3 = .ok (.invokevirtual 30, 3)))) ∧ ((decode cX5_appendOperand 6 = .ok (.pop, 1)) ∧ ((decode cX5_appendOperand 7 = .ok (.iload_n 1, 1)) ∧ (decode cX5_appendOperand 8 = .ok (.ifCond .ne 13, 3))))) ∧ (((decode cX5_appendOperand 11 = .ok (.aload_n 0, 1)) ∧ ((decode cX5_appendOperand 12 = .ok (.bipush 35, 2)) ∧ (decode cX5_appendOperand 14 = .ok (.invokevirtual 30, 3)))) ∧ ((decode cX5_appendOperand 17 = .ok (.pop, 1)) ∧ ((decode cX5_appendOperand 18 = .ok (.goto 16, 3)) ∧ (decode cX5_appendOperand 21 = .ok (.iload_n 1, 1)))))) ∧ ((((decode cX5_appendOperand 22 = .ok (.bipush 6, 2)) ∧ ((decode cX5_appendOperand 24 = .ok (.if_icmp .lt 10, 3)) ∧ (decode cX5_appendOperand 27 = .ok (.aload_n 0, 1)))) ∧ ((decode cX5_appendOperand 28 = .ok (.bipush 40, 2)) ∧ ((decode cX5_appendOperand 30 = .ok (.invokevirtual 30, 3)) ∧ (decode cX5_appendOperand 33 = .ok (.pop, 1))))) ∧ (((decode cX5_appendOperand 34 = .ok (.aload_n 0, 1)) ∧ ((decode cX5_appendOperand 35 = .ok (.iload_n 2, 1)) ∧ (decode cX5_appendOperand 36 = .ok (.invokevirtual 26, 3)))) ∧ ((decode cX5_appendOperand 39 = .ok (.pop, 1)) ∧ ((decode cX5_appendOperand 40 = .ok (.iload_n 1, 1)) ∧ (decode cX5_appendOperand 41 = .ok (.tableswitch 93 2 8 #[43, 93, 43, 53, 63, 73, 83], 43)))))) := by decide +kernel
theorem dX5_appendOperand_0 : decode cX5_appendOperand 0 = .ok (.aload_n 0, 1) := q_dg89.1.1.1.1
theorem dX5_appendOperand_1 : decode cX5_appendOperand 1 = .ok (.bipush 32, 2) := q_dg89.1.1.1.2.1
theorem dX5_appendOperand_3 : decode cX5_appendOperand 3 = .ok (.invokevirtual 30, 3) := q_dg89.1.1.1.2.2
theorem dX5_appendOperand_6 : decode cX5_appendOperand 6 = .ok (.pop, 1) := q_dg89.1.1.2.1
theorem dX5_appendOperand_7 : decode cX5_appendOperand 7 = .ok (.iload_n 1, 1) := q_dg89.1.1.2.2.1
theorem dX5_appendOperand_8 : decode cX5_appendOperand 8 = .ok (.ifCond .ne 13, 3) := q_dg89.1.1.2.2.2
theorem dX5_appendOperand_11 : decode cX5_appendOperand 11 = .ok (.aload_n 0, 1) := q_dg89.1.2.1.1
theorem dX5_appendOperand_12 : decode cX5_appendOperand 12 = .ok (.bipush 35, 2) := q_dg89.1.2.1.2.1
theorem dX5_appendOperand_14 : decode cX5_appendOperand 14 = .ok (.invokevirtual 30, 3) := q_dg89.1.2.1.2.2
theorem dX5_appendOperand_17 : decode cX5_appendOperand 17 = .ok (.pop, 1) := q_dg89.1.2.2.1
theorem dX5_appendOperand_18 : decode cX5_appendOperand 18 = .ok (.goto 16, 3) := q_dg89.1.2.2.2.1
theorem dX5_appendOperand_21 : decode cX5_appendOperand 21 = .ok (.iload_n 1, 1) := q_dg89.1.2.2.2.2
theorem dX5_appendOperand_22 : decode cX5_appendOperand 22 = .ok (.bipush 6, 2) := q_dg89.2.1.1.1
theorem dX5_appendOperand_24 : decode cX5_appendOperand 24 = .ok (.if_icmp .lt 10, 3) := q_dg89.2.1.1.2.1
theorem dX5_appendOperand_27 : decode cX5_appendOperand 27 = .ok (.aload_n 0, 1) := q_dg89.2.1.1.2.2
theorem dX5_appendOperand_28 : decode cX5_appendOperand 28 = .ok (.bipush 40, 2) := q_dg89.2.1.2.1
theorem dX5_appendOperand_30 : decode cX5_appendOperand 30 = .ok (.invokevirtual 30, 3) := q_dg89.2.1.2.2.1
theorem dX5_appendOperand_33 : decode cX5_appendOperand 33 = .ok (.pop, 1) := q_dg89.2.1.2.2.2
theorem dX5_appendOperand_34 : decode cX5_appendOperand 34 = .ok (.aload_n 0, 1) := q_dg89.2.2.1.1
theorem dX5_appendOperand_35 : decode cX5_appendOperand 35 = .ok (.iload_n 2, 1) := q_dg89.2.2.1.2.1
theorem dX5_appendOperand_36 : decode cX5_appendOperand 36 = .ok (.invokevirtual 26, 3) := q_dg89.2.2.1.2.2
theorem dX5_appendOperand_39 : decode cX5_appendOperand 39 = .ok (.pop, 1) := q_dg89.2.2.2.1
theorem dX5_appendOperand_40 : decode cX5_appendOperand 40 = .ok (.iload_n 1, 1) := q_dg89.2.2.2.2.1
theorem dX5_appendOperand_41 : decode cX5_appendOperand 41 = .ok (.tableswitch 93 2 8 #[43, 93, 43, 53, 63, 73, 83], 43) := q_dg89.2.2.2.2.2
theorem q_dg90 : ((((decode cX5_appendOperand 84 = .ok (.aload_n 0, 1)) ∧ ((decode cX5_appendOperand 85 = .ok (.ldc 60, 2)) ∧ (decode cX5_appendOperand 87 = .ok (.invokevirtual 62, 3)))) ∧ ((decode cX5_appendOperand 90 = .ok (.pop, 1)) ∧ ((decode cX5_appendOperand 91 = .ok (.goto 43, 3)) ∧ (decode cX5_appendOperand 94 = .ok (.aload_n 0, 1))))) ∧ (((decode cX5_appendOperand 95 = .ok (.ldc 65, 2)) ∧ ((decode cX5_appendOperand 97 = .ok (.invokevirtual 62, 3)) ∧ (decode cX5_appendOperand 100 = .ok (.pop, 1)))) ∧ ((decode cX5_appendOperand 101 = .ok (.goto 33, 3)) ∧ ((decode cX5_appendOperand 104 = .ok (.aload_n 0, 1)) ∧ (decode cX5_appendOperand 105 = .ok (.ldc 67, 2)))))) ∧ ((((decode cX5_appendOperand 107 = .ok (.invokevirtual 62, 3)) ∧ ((decode cX5_appendOperand 110 = .ok (.pop, 1)) ∧ (decode cX5_appendOperand 111 = .ok (.goto 23, 3)))) ∧ ((decode cX5_appendOperand 114 = .ok (.aload_n 0, 1)) ∧ ((decode cX5_appendOperand 115 = .ok (.ldc 69, 2)) ∧ (decode cX5_appendOperand 117 = .ok (.invokevirtual 62, 3))))) ∧ (((decode cX5_appendOperand 120 = .ok (.pop, 1)) ∧ ((decode cX5_appendOperand 121 = .ok (.goto 13, 3)) ∧ (decode cX5_appendOperand 124 = .ok (.aload_n 0, 1)))) ∧ ((decode cX5_appendOperand 125 = .ok (.bipush 41, 2)) ∧ ((decode cX5_appendOperand 127 = .ok (.invokevirtual 30, 3)) ∧ (decode cX5_appendOperand 130 = .ok (.pop, 1)))))) := by decide +kernel
theorem dX5_appendOperand_84 : decode cX5_appendOperand 84 = .ok (.aload_n 0, 1) := q_dg90.1.1.1.1
theorem dX5_appendOperand_85 : decode cX5_appendOperand 85 = .ok (.ldc 60, 2) := q_dg90.1.1.1.2.1
theorem dX5_appendOperand_87 : decode cX5_appendOperand 87 = .ok (.invokevirtual 62, 3) := q_dg90.1.1.1.2.2
theorem dX5_appendOperand_90 : decode cX5_appendOperand 90 = .ok (.pop, 1) := q_dg90.1.1.2.1
theorem dX5_appendOperand_91 : decode cX5_appendOperand 91 = .ok (.goto 43, 3) := q_dg90.1.1.2.2.1
theorem dX5_appendOperand_94 : decode cX5_appendOperand 94 = .ok (.aload_n 0, 1) := q_dg90.1.1.2.2.2
theorem dX5_appendOperand_95 : decode cX5_appendOperand 95 = .ok (.ldc 65, 2) := q_dg90.1.2.1.1
theorem dX5_appendOperand_97 : decode cX5_appendOperand 97 = .ok (.invokevirtual 62, 3) := q_dg90.1.2.1.2.1
theorem dX5_appendOperand_100 : decode cX5_appendOperand 100 = .ok (.pop, 1) := q_dg90.1.2.1.2.2
theorem dX5_appendOperand_101 : decode cX5_appendOperand 101 = .ok (.goto 33, 3) := q_dg90.1.2.2.1
theorem dX5_appendOperand_104 : decode cX5_appendOperand 104 = .ok (.aload_n 0, 1) := q_dg90.1.2.2.2.1
theorem dX5_appendOperand_105 : decode cX5_appendOperand 105 = .ok (.ldc 67, 2) := q_dg90.1.2.2.2.2
theorem dX5_appendOperand_107 : decode cX5_appendOperand 107 = .ok (.invokevirtual 62, 3) := q_dg90.2.1.1.1
theorem dX5_appendOperand_110 : decode cX5_appendOperand 110 = .ok (.pop, 1) := q_dg90.2.1.1.2.1
theorem dX5_appendOperand_111 : decode cX5_appendOperand 111 = .ok (.goto 23, 3) := q_dg90.2.1.1.2.2
theorem dX5_appendOperand_114 : decode cX5_appendOperand 114 = .ok (.aload_n 0, 1) := q_dg90.2.1.2.1
theorem dX5_appendOperand_115 : decode cX5_appendOperand 115 = .ok (.ldc 69, 2) := q_dg90.2.1.2.2.1
theorem dX5_appendOperand_117 : decode cX5_appendOperand 117 = .ok (.invokevirtual 62, 3) := q_dg90.2.1.2.2.2
theorem dX5_appendOperand_120 : decode cX5_appendOperand 120 = .ok (.pop, 1) := q_dg90.2.2.1.1
theorem dX5_appendOperand_121 : decode cX5_appendOperand 121 = .ok (.goto 13, 3) := q_dg90.2.2.1.2.1
theorem dX5_appendOperand_124 : decode cX5_appendOperand 124 = .ok (.aload_n 0, 1) := q_dg90.2.2.1.2.2
theorem dX5_appendOperand_125 : decode cX5_appendOperand 125 = .ok (.bipush 41, 2) := q_dg90.2.2.2.1
theorem dX5_appendOperand_127 : decode cX5_appendOperand 127 = .ok (.invokevirtual 30, 3) := q_dg90.2.2.2.2.1
theorem dX5_appendOperand_130 : decode cX5_appendOperand 130 = .ok (.pop, 1) := q_dg90.2.2.2.2.2
theorem q_dg91 : (decode cX5_appendOperand 131 = .ok (.goto 3, 3)) ∧ (decode cX5_appendOperand 134 = .ok (.return_, 1)) := by decide +kernel
theorem dX5_appendOperand_131 : decode cX5_appendOperand 131 = .ok (.goto 3, 3) := q_dg91.1
theorem dX5_appendOperand_134 : decode cX5_appendOperand 134 = .ok (.return_, 1) := q_dg91.2
theorem q_dg92 : (((decode cX6_init 0 = .ok (.aload_n 0, 1)) ∧ ((decode cX6_init 1 = .ok (.invokespecial 3, 3)) ∧ (decode cX6_init 4 = .ok (.aload_n 0, 1)))) ∧ ((decode cX6_init 5 = .ok (.sipush 255, 3)) ∧ ((decode cX6_init 8 = .ok (.putfield 9, 3)) ∧ (decode cX6_init 11 = .ok (.aload_n 0, 1))))) ∧ (((decode cX6_init 12 = .ok (.iconst 4, 1)) ∧ ((decode cX6_init 13 = .ok (.putfield 15, 3)) ∧ (decode cX6_init 16 = .ok (.aload_n 0, 1)))) ∧ (((decode cX6_init 17 = .ok (.bipush 16, 2)) ∧ (decode cX6_init 19 = .ok (.newarray .int, 2))) ∧ ((decode cX6_init 21 = .ok (.putfield 18, 3)) ∧ (decode cX6_init 24 = .ok (.return_, 1))))) := by decide +kernel
theorem dX6_init_0 : decode cX6_init 0 = .ok (.aload_n 0, 1) := q_dg92.1.1.1
theorem dX6_init_1 : decode cX6_init 1 = .ok (.invokespecial 3, 3) := q_dg92.1.1.2.1
theorem dX6_init_4 : decode cX6_init 4 = .ok (.aload_n 0, 1) := q_dg92.1.1.2.2
theorem dX6_init_5 : decode cX6_init 5 = .ok (.sipush 255, 3) := q_dg92.1.2.1
theorem dX6_init_8 : decode cX6_init 8 = .ok (.putfield 9, 3) := q_dg92.1.2.2.1
theorem dX6_init_11 : decode cX6_init 11 = .ok (.aload_n 0, 1) := q_dg92.1.2.2.2
theorem dX6_init_12 : decode cX6_init 12 = .ok (.iconst 4, 1) := q_dg92.2.1.1
theorem dX6_init_13 : decode cX6_init 13 = .ok (.putfield 15, 3) := q_dg92.2.1.2.1
theorem dX6_init_16 : decode cX6_init 16 = .ok (.aload_n 0, 1) := q_dg92.2.1.2.2
theorem dX6_init_17 : decode cX6_init 17 = .ok (.bipush 16, 2) := q_dg92.2.2.1.1
theorem dX6_init_19 : decode cX6_init 19 = .ok (.newarray .int, 2) := q_dg92.2.2.1.2
theorem dX6_init_21 : decode cX6_init 21 = .ok (.putfield 18, 3) := q_dg92.2.2.2.1
theorem dX6_init_24 : decode cX6_init 24 = .ok (.return_, 1) := q_dg92.2.2.2.2
theorem q_dg93 : ((((decode cX6_become 0 = .ok (.aload_n 0, 1)) ∧ ((decode cX6_become 1 = .ok (.aload_n 1, 1)) ∧ (decode cX6_become 2 = .ok (.getfield 22, 3)))) ∧ ((decode cX6_become 5 = .ok (.putfield 22, 3)) ∧ ((decode cX6_become 8 = .ok (.aload_n 0, 1)) ∧ (decode cX6_become 9 = .ok (.aload_n 1, 1))))) ∧ (((decode cX6_become 10 = .ok (.getfield 25, 3)) ∧ ((decode cX6_become 13 = .ok (.putfield 25, 3)) ∧ (decode cX6_become 16 = .ok (.aload_n 0, 1)))) ∧ ((decode cX6_become 17 = .ok (.aload_n 1, 1)) ∧ ((decode cX6_become 18 = .ok (.getfield 28, 3)) ∧ (decode cX6_become 21 = .ok (.putfield 28, 3)))))) ∧ ((((decode cX6_become 24 = .ok (.aload_n 0, 1)) ∧ ((decode cX6_become 25 = .ok (.aload_n 1, 1)) ∧ (decode cX6_become 26 = .ok (.getfield 9, 3)))) ∧ ((decode cX6_become 29 = .ok (.putfield 9, 3)) ∧ ((decode cX6_become 32 = .ok (.aload_n 0, 1)) ∧ (decode cX6_become 33 = .ok (.aload_n 1, 1))))) ∧ (((decode cX6_become 34 = .ok (.getfield 31, 3)) ∧ ((decode cX6_become 37 = .ok (.putfield 31, 3)) ∧ (decode cX6_become 40 = .ok (.aload_n 0, 1)))) ∧ ((decode cX6_become 41 = .ok (.aload_n 1, 1)) ∧ ((decode cX6_become 42 = .ok (.getfield 15, 3)) ∧ (decode cX6_become 45 = .ok (.putfield 15, 3)))))) := by decide +kernel
theorem dX6_become_0 : decode cX6_become 0 = .ok (.aload_n 0, 1) := q_dg93.1.1.1.1
theorem dX6_become_1 : decode cX6_become 1 = .ok (.aload_n 1, 1) := q_dg93.1.1.1.2.1
theorem dX6_become_2 : decode cX6_become 2 = .ok (.getfield 22, 3) := q_dg93.1.1.1.2.2
theorem dX6_become_5 : decode cX6_become 5 = .ok (.putfield 22, 3) := q_dg93.1.1.2.1
theorem dX6_become_8 : decode cX6_become 8 = .ok (.aload_n 0, 1) := q_dg93.1.1.2.2.1
theorem dX6_become_9 : decode cX6_become 9 = .ok (.aload_n 1, 1) := q_dg93.1.1.2.2.2
theorem dX6_become_10 : decode cX6_become 10 = .ok (.getfield 25, 3) := q_dg93.1.2.1.1
theorem dX6_become_13 : decode cX6_become 13 = .ok (.putfield 25, 3) := q_dg93.1.2.1.2.1
theorem dX6_become_16 : decode cX6_become 16 = .ok (.aload_n 0, 1) := q_dg93.1.2.1.2.2
theorem dX6_become_17 : decode cX6_become 17 = .ok (.aload_n 1, 1) := q_dg93.1.2.2.1
theorem dX6_become_18 : decode cX6_become 18 = .ok (.getfield 28, 3) := q_dg93.1.2.2.2.1
theorem dX6_become_21 : decode cX6_become 21 = .ok (.putfield 28, 3) := q_dg93.1.2.2.2.2
theorem dX6_become_24 : decode cX6_become 24 = .ok (.aload_n 0, 1) := q_dg93.2.1.1.1
theorem dX6_become_25 : decode cX6_become 25 = .ok (.aload_n 1, 1) := q_dg93.2.1.1.2.1
theorem dX6_become_26 : decode cX6_become 26 = .ok (.getfield 9, 3) := q_dg93.2.1.1.2.2
theorem dX6_become_29 : decode cX6_become 29 = .ok (.putfield 9, 3) := q_dg93.2.1.2.1
theorem dX6_become_32 : decode cX6_become 32 = .ok (.aload_n 0, 1) := q_dg93.2.1.2.2.1
theorem dX6_become_33 : decode cX6_become 33 = .ok (.aload_n 1, 1) := q_dg93.2.1.2.2.2
theorem dX6_become_34 : decode cX6_become 34 = .ok (.getfield 31, 3) := q_dg93.2.2.1.1
theorem dX6_become_37 : decode cX6_become 37 = .ok (.putfield 31, 3) := q_dg93.2.2.1.2.1
theorem dX6_become_40 : decode cX6_become 40 = .ok (.aload_n 0, 1) := q_dg93.2.2.1.2.2
theorem dX6_become_41 : decode cX6_become 41 = .ok (.aload_n 1, 1) := q_dg93.2.2.2.1
theorem dX6_become_42 : decode cX6_become 42 = .ok (.getfield 15, 3) := q_dg93.2.2.2.2.1
theorem dX6_become_45 : decode cX6_become 45 = .ok (.putfield 15, 3) := q_dg93.2.2.2.2.2
theorem q_dg94 : ((((decode cX6_become 48 = .ok (.aload_n 0, 1)) ∧ ((decode cX6_become 49 = .ok (.aload_n 1, 1)) ∧ (decode cX6_become 50 = .ok (.getfield 34, 3)))) ∧ ((decode cX6_become 53 = .ok (.putfield 34, 3)) ∧ ((decode cX6_become 56 = .ok (.aload_n 0, 1)) ∧ (decode cX6_become 57 = .ok (.aload_n 1, 1))))) ∧ (((decode cX6_become 58 = .ok (.getfield 38, 3)) ∧ ((decode cX6_become 61 = .ok (.putfield 38, 3)) ∧ (decode cX6_become 64 = .ok (.aload_n 0, 1)))) ∧ ((decode cX6_become 65 = .ok (.aload_n 1, 1)) ∧ ((decode cX6_become 66 = .ok (.getfield 41, 3)) ∧ (decode cX6_become 69 = .ok (.putfield 41, 3)))))) ∧ ((((decode cX6_become 72 = .ok (.aload_n 0, 1)) ∧ ((decode cX6_become 73 = .ok (.aload_n 1, 1)) ∧ (decode cX6_become 74 = .ok (.getfield 44, 3)))) ∧ ((decode cX6_become 77 = .ok (.putfield 44, 3)) ∧ ((decode cX6_become 80 = .ok (.aload_n 0, 1)) ∧ (decode cX6_become 81 = .ok (.aload_n 1, 1))))) ∧ (((decode cX6_become 82 = .ok (.getfield 47, 3)) ∧ ((decode cX6_become 85 = .ok (.putfield 47, 3)) ∧ (decode cX6_become 88 = .ok (.aload_n 0, 1)))) ∧ ((decode cX6_become 89 = .ok (.aload_n 1, 1)) ∧ ((decode cX6_become 90 = .ok (.getfield 50, 3)) ∧ (decode cX6_become 93 = .ok (.putfield 50, 3)))))) := by decide +kernel
theorem dX6_become_48 : decode cX6_become 48 = .ok (.aload_n 0, 1) := q_dg94.1.1.1.1
theorem dX6_become_49 : decode cX6_become 49 = .ok (.aload_n 1, 1) := q_dg94.1.1.1.2.1
theorem dX6_become_50 : decode cX6_become 50 = .ok (.getfield 34, 3) := q_dg94.1.1.1.2.2
theorem dX6_become_53 : decode cX6_become 53 = .ok (.putfield 34, 3) := q_dg94.1.1.2.1
theorem dX6_become_56 : decode cX6_become 56 = .ok (.aload_n 0, 1) := q_dg94.1.1.2.2.1
theorem dX6_become_57 : decode cX6_become 57 = .ok (.aload_n 1, 1) := q_dg94.1.1.2.2.2
theorem dX6_become_58 : decode cX6_become 58 = .ok (.getfield 38, 3) := q_dg94.1.2.1.1
theorem dX6_become_61 : decode cX6_become 61 = .ok (.putfield 38, 3) := q_dg94.1.2.1.2.1
theorem dX6_become_64 : decode cX6_become 64 = .ok (.aload_n 0, 1) := q_dg94.1.2.1.2.2
theorem dX6_become_65 : decode cX6_become 65 = .ok (.aload_n 1, 1) := q_dg94.1.2.2.1
theorem dX6_become_66 : decode cX6_become 66 = .ok (.getfield 41, 3) := q_dg94.1.2.2.2.1
theorem dX6_become_69 : decode cX6_become 69 = .ok (.putfield 41, 3) := q_dg94.1.2.2.2.2
theorem dX6_become_72 : decode cX6_become 72 = .ok (.aload_n 0, 1) := q_dg94.2.1.1.1
theorem dX6_become_73 : decode cX6_become 73 = .ok (.aload_n 1, 1) := q_dg94.2.1.1.2.1
theorem dX6_become_74 : decode cX6_become 74 = .ok (.getfield 44, 3) := q_dg94.2.1.1.2.2
theorem dX6_become_77 : decode cX6_become 77 = .ok (.putfield 44, 3) := q_dg94.2.1.2.1
theorem dX6_become_80 : decode cX6_become 80 = .ok (.aload_n 0, 1) := q_dg94.2.1.2.2.1
theorem dX6_become_81 : decode cX6_become 81 = .ok (.aload_n 1, 1) := q_dg94.2.1.2.2.2
theorem dX6_become_82 : decode cX6_become 82 = .ok (.getfield 47, 3) := q_dg94.2.2.1.1
theorem dX6_become_85 : decode cX6_become 85 = .ok (.putfield 47, 3) := q_dg94.2.2.1.2.1
theorem dX6_become_88 : decode cX6_become 88 = .ok (.aload_n 0, 1) := q_dg94.2.2.1.2.2
theorem dX6_become_89 : decode cX6_become 89 = .ok (.aload_n 1, 1) := q_dg94.2.2.2.1
theorem dX6_become_90 : decode cX6_become 90 = .ok (.getfield 50, 3) := q_dg94.2.2.2.2.1
theorem dX6_become_93 : decode cX6_become 93 = .ok (.putfield 50, 3) := q_dg94.2.2.2.2.2
theorem q_dg95 : (((decode cX6_become 96 = .ok (.aload_n 1, 1)) ∧ (decode cX6_become 97 = .ok (.getfield 18, 3))) ∧ ((decode cX6_become 100 = .ok (.iconst 0, 1)) ∧ (decode cX6_become 101 = .ok (.aload_n 0, 1)))) ∧ (((decode cX6_become 102 = .ok (.getfield 18, 3)) ∧ (decode cX6_become 105 = .ok (.iconst 0, 1))) ∧ ((decode cX6_become 106 = .ok (.bipush 16, 2)) ∧ ((decode cX6_become 108 = .ok (.invokestatic 53, 3)) ∧ (decode cX6_become 111 = .ok (.return_, 1))))) := by decide +kernel
theorem dX6_become_96 : decode cX6_become 96 = .ok (.aload_n 1, 1) := q_dg95.1.1.1
theorem dX6_become_97 : decode cX6_become 97 = .ok (.getfield 18, 3) := q_dg95.1.1.2
theorem dX6_become_100 : decode cX6_become 100 = .ok (.iconst 0, 1) := q_dg95.1.2.1
theorem dX6_become_101 : decode cX6_become 101 = .ok (.aload_n 0, 1) := q_dg95.1.2.2
theorem dX6_become_102 : decode cX6_become 102 = .ok (.getfield 18, 3) := q_dg95.2.1.1
theorem dX6_become_105 : decode cX6_become 105 = .ok (.iconst 0, 1) := q_dg95.2.1.2
theorem dX6_become_106 : decode cX6_become 106 = .ok (.bipush 16, 2) := q_dg95.2.2.1
theorem dX6_become_108 : decode cX6_become 108 = .ok (.invokestatic 53, 3) := q_dg95.2.2.2.1
theorem dX6_become_111 : decode cX6_become 111 = .ok (.return_, 1) := q_dg95.2.2.2.2
theorem q_dg96 : ((((decode cX6_isLike 0 = .ok (.aload_n 0, 1)) ∧ ((decode cX6_isLike 1 = .ok (.getfield 22, 3)) ∧ (decode cX6_isLike 4 = .ok (.aload_n 1, 1)))) ∧ ((decode cX6_isLike 5 = .ok (.getfield 22, 3)) ∧ ((decode cX6_isLike 8 = .ok (.if_icmp .ne 62, 3)) ∧ (decode cX6_isLike 11 = .ok (.aload_n 0, 1))))) ∧ (((decode cX6_isLike 12 = .ok (.getfield 25, 3)) ∧ ((decode cX6_isLike 15 = .ok (.aload_n 1, 1)) ∧ (decode cX6_isLike 16 = .ok (.getfield 25, 3)))) ∧ ((decode cX6_isLike 19 = .ok (.if_icmp .ne 51, 3)) ∧ ((decode cX6_isLike 22 = .ok (.aload_n 0, 1)) ∧ (decode cX6_isLike 23 = .ok (.getfield 28, 3)))))) ∧ ((((decode cX6_isLike 26 = .ok (.aload_n 1, 1)) ∧ ((decode cX6_isLike 27 = .ok (.getfield 28, 3)) ∧ (decode cX6_isLike 30 = .ok (.if_icmp .ne 40, 3)))) ∧ ((decode cX6_isLike 33 = .ok (.aload_n 0, 1)) ∧ ((decode cX6_isLike 34 = .ok (.getfield 9, 3)) ∧ (decode cX6_isLike 37 = .ok (.aload_n 1, 1))))) ∧ (((decode cX6_isLike 38 = .ok (.getfield 9, 3)) ∧ ((decode cX6_isLike 41 = .ok (.if_icmp .ne 29, 3)) ∧ (decode cX6_isLike 44 = .ok (.aload_n 0, 1)))) ∧ ((decode cX6_isLike 45 = .ok (.getfield 31, 3)) ∧ ((decode cX6_isLike 48 = .ok (.aload_n 1, 1)) ∧ (decode cX6_isLike 49 = .ok (.getfield 31, 3)))))) := by decide +kernel
theorem dX6_isLike_0 : decode cX6_isLike 0 = .ok (.aload_n 0, 1) := q_dg96.1.1.1.1
theorem dX6_isLike_1 : decode cX6_isLike 1 = .ok (.getfield 22, 3) := q_dg96.1.1.1.2.1
theorem dX6_isLike_4 : decode cX6_isLike 4 = .ok (.aload_n 1, 1) := q_dg96.1.1.1.2.2
theorem dX6_isLike_5 : decode cX6_isLike 5 = .ok (.getfield 22, 3) := q_dg96.1.1.2.1
theorem dX6_isLike_8 : decode cX6_isLike 8 = .ok (.if_icmp .ne 62, 3) := q_dg96.1.1.2.2.1
theorem dX6_isLike_11 : decode cX6_isLike 11 = .ok (.aload_n 0, 1) := q_dg96.1.1.2.2.2
theorem dX6_isLike_12 : decode cX6_isLike 12 = .ok (.getfield 25, 3) := q_dg96.1.2.1.1
theorem dX6_isLike_15 : decode cX6_isLike 15 = .ok (.aload_n 1, 1) := q_dg96.1.2.1.2.1
theorem dX6_isLike_16 : decode cX6_isLike 16 = .ok (.getfield 25, 3) := q_dg96.1.2.1.2.2
theorem dX6_isLike_19 : decode cX6_isLike 19 = .ok (.if_icmp .ne 51, 3) := q_dg96.1.2.2.1
theorem dX6_isLike_22 : decode cX6_isLike 22 = .ok (.aload_n 0, 1) := q_dg96.1.2.2.2.1
theorem dX6_isLike_23 : decode cX6_isLike 23 = .ok (.getfield 28, 3) := q_dg96.1.2.2.2.2
theorem dX6_isLike_26 : decode cX6_isLike 26 = .ok (.aload_n 1, 1) := q_dg96.2.1.1.1
theorem dX6_isLike_27 : decode cX6_isLike 27 = .ok (.getfield 28, 3) := q_dg96.2.1.1.2.1
theorem dX6_isLike_30 : decode cX6_isLike 30 = .ok (.if_icmp .ne 40, 3) := q_dg96.2.1.1.2.2
theorem dX6_isLike_33 : decode cX6_isLike 33 = .ok (.aload_n 0, 1) := q_dg96.2.1.2.1
theorem dX6_isLike_34 : decode cX6_isLike 34 = .ok (.getfield 9, 3) := q_dg96.2.1.2.2.1
theorem dX6_isLike_37 : decode cX6_isLike 37 = .ok (.aload_n 1, 1) := q_dg96.2.1.2.2.2
theorem dX6_isLike_38 : decode cX6_isLike 38 = .ok (.getfield 9, 3) := q_dg96.2.2.1.1
theorem dX6_isLike_41 : decode cX6_isLike 41 = .ok (.if_icmp .ne 29, 3) := q_dg96.2.2.1.2.1
theorem dX6_isLike_44 : decode cX6_isLike 44 = .ok (.aload_n 0, 1) := q_dg96.2.2.1.2.2
theorem dX6_isLike_45 : decode cX6_isLike 45 = .ok (.getfield 31, 3) := q_dg96.2.2.2.1
theorem dX6_isLike_48 : decode cX6_isLike 48 = .ok (.aload_n 1, 1) := q_dg96.2.2.2.2.1
theorem dX6_isLike_49 : decode cX6_isLike 49 = .ok (.getfield 31, 3) := q_dg96.2.2.2.2.2
theorem q_dg97 : (((decode cX6_isLike 52 = .ok (.if_icmp .ne 18, 3)) ∧ (decode cX6_isLike 55 = .ok (.aload_n 0, 1))) ∧ ((decode cX6_isLike 56 = .ok (.getfield 15, 3)) ∧ ((decode cX6_isLike 59 = .ok (.aload_n 1, 1)) ∧ (decode cX6_isLike 60 = .ok (.getfield 15, 3))))) ∧ (((decode cX6_isLike 63 = .ok (.if_icmp .ne 7, 3)) ∧ (decode cX6_isLike 66 = .ok (.iconst 1, 1))) ∧ ((decode cX6_isLike 67 = .ok (.goto 4, 3)) ∧ ((decode cX6_isLike 70 = .ok (.iconst 0, 1)) ∧ (decode cX6_isLike 71 = .ok (.ireturn, 1))))) := by decide +kernel
theorem dX6_isLike_52 : decode cX6_isLike 52 = .ok (.if_icmp .ne 18, 3) := q_dg97.1.1.1
theorem dX6_isLike_55 : decode cX6_isLike 55 = .ok (.aload_n 0, 1) := q_dg97.1.1.2
theorem dX6_isLike_56 : decode cX6_isLike 56 = .ok (.getfield 15, 3) := q_dg97.1.2.1
theorem dX6_isLike_59 : decode cX6_isLike 59 = .ok (.aload_n 1, 1) := q_dg97.1.2.2.1
theorem dX6_isLike_60 : decode cX6_isLike 60 = .ok (.getfield 15, 3) := q_dg97.1.2.2.2
theorem dX6_isLike_63 : decode cX6_isLike 63 = .ok (.if_icmp .ne 7, 3) := q_dg97.2.1.1
theorem dX6_isLike_66 : decode cX6_isLike 66 = .ok (.iconst 1, 1) := q_dg97.2.1.2
theorem dX6_isLike_67 : decode cX6_isLike 67 = .ok (.goto 4, 3) := q_dg97.2.2.1
theorem dX6_isLike_70 : decode cX6_isLike 70 = .ok (.iconst 0, 1) := q_dg97.2.2.2.1
theorem dX6_isLike_71 : decode cX6_isLike 71 = .ok (.ireturn, 1) := q_dg97.2.2.2.2
theorem q_dg98 : ((((decode cX6_registerOf 0 = .ok (.iload_n 1, 1)) ∧ (decode cX6_registerOf 1 = .ok (.tableswitch 51 0 3 #[31, 36, 41, 46], 31))) ∧ ((decode cX6_registerOf 32 = .ok (.aload_n 0, 1)) ∧ (decode cX6_registerOf 33 = .ok (.getfield 22, 3)))) ∧ (((decode cX6_registerOf 36 = .ok (.ireturn, 1)) ∧ (decode cX6_registerOf 37 = .ok (.aload_n 0, 1))) ∧ ((decode cX6_registerOf 38 = .ok (.getfield 25, 3)) ∧ (decode cX6_registerOf 41 = .ok (.ireturn, 1))))) ∧ ((((decode cX6_registerOf 42 = .ok (.aload_n 0, 1)) ∧ (decode cX6_registerOf 43 = .ok (.getfield 28, 3))) ∧ ((decode cX6_registerOf 46 = .ok (.ireturn, 1)) ∧ (decode cX6_registerOf 47 = .ok (.aload_n 0, 1)))) ∧ (((decode cX6_registerOf 48 = .ok (.getfield 9, 3)) ∧ (decode cX6_registerOf 51 = .ok (.ireturn, 1))) ∧ ((decode cX6_registerOf 52 = .ok (.aload_n 0, 1)) ∧ ((decode cX6_registerOf 53 = .ok (.getfield 31, 3)) ∧ (decode cX6_registerOf 56 = .ok (.ireturn, 1)))))) := by decide +kernel
theorem dX6_registerOf_0 : decode cX6_registerOf 0 = .ok (.iload_n 1, 1) := q_dg98.1.1.1.1
theorem dX6_registerOf_1 : decode cX6_registerOf 1 = .ok (.tableswitch 51 0 3 #[31, 36, 41, 46], 31) := q_dg98.1.1.1.2
theorem dX6_registerOf_32 : decode cX6_registerOf 32 = .ok (.aload_n 0, 1) := q_dg98.1.1.2.1
theorem dX6_registerOf_33 : decode cX6_registerOf 33 = .ok (.getfield 22, 3) := q_dg98.1.1.2.2
theorem dX6_registerOf_36 : decode cX6_registerOf 36 = .ok (.ireturn, 1) := q_dg98.1.2.1.1
theorem dX6_registerOf_37 : decode cX6_registerOf 37 = .ok (.aload_n 0, 1) := q_dg98.1.2.1.2
theorem dX6_registerOf_38 : decode cX6_registerOf 38 = .ok (.getfield 25, 3) := q_dg98.1.2.2.1
theorem dX6_registerOf_41 : decode cX6_registerOf 41 = .ok (.ireturn, 1) := q_dg98.1.2.2.2
theorem dX6_registerOf_42 : decode cX6_registerOf 42 = .ok (.aload_n 0, 1) := q_dg98.2.1.1.1
theorem dX6_registerOf_43 : decode cX6_registerOf 43 = .ok (.getfield 28, 3) := q_dg98.2.1.1.2
theorem dX6_registerOf_46 : decode cX6_registerOf 46 = .ok (.ireturn, 1) := q_dg98.2.1.2.1
theorem dX6_registerOf_47 : decode cX6_registerOf 47 = .ok (.aload_n 0, 1) := q_dg98.2.1.2.2
theorem dX6_registerOf_48 : decode cX6_registerOf 48 = .ok (.getfield 9, 3) := q_dg98.2.2.1.1
theorem dX6_registerOf_51 : decode cX6_registerOf 51 = .ok (.ireturn, 1) := q_dg98.2.2.1.2
theorem dX6_registerOf_52 : decode cX6_registerOf 52 = .ok (.aload_n 0, 1) := q_dg98.2.2.2.1
theorem dX6_registerOf_53 : decode cX6_registerOf 53 = .ok (.getfield 31, 3) := q_dg98.2.2.2.2.1
theorem dX6_registerOf_56 : decode cX6_registerOf 56 = .ok (.ireturn, 1) := q_dg98.2.2.2.2.2
theorem q_dg99 : ((((decode cX6_exchange 0 = .ok (.aload_n 0, 1)) ∧ ((decode cX6_exchange 1 = .ok (.iload_n 1, 1)) ∧ (decode cX6_exchange 2 = .ok (.invokevirtual 59, 3)))) ∧ ((decode cX6_exchange 5 = .ok (.istore_n 3, 1)) ∧ ((decode cX6_exchange 6 = .ok (.iload_n 1, 1)) ∧ (decode cX6_exchange 7 = .ok (.tableswitch 61 0 3 #[29, 37, 45, 53], 29))))) ∧ (((decode cX6_exchange 36 = .ok (.aload_n 0, 1)) ∧ ((decode cX6_exchange 37 = .ok (.iload_n 2, 1)) ∧ (decode cX6_exchange 38 = .ok (.putfield 22, 3)))) ∧ ((decode cX6_exchange 41 = .ok (.goto 32, 3)) ∧ ((decode cX6_exchange 44 = .ok (.aload_n 0, 1)) ∧ (decode cX6_exchange 45 = .ok (.iload_n 2, 1)))))) ∧ ((((decode cX6_exchange 46 = .ok (.putfield 25, 3)) ∧ ((decode cX6_exchange 49 = .ok (.goto 24, 3)) ∧ (decode cX6_exchange 52 = .ok (.aload_n 0, 1)))) ∧ ((decode cX6_exchange 53 = .ok (.iload_n 2, 1)) ∧ ((decode cX6_exchange 54 = .ok (.putfield 28, 3)) ∧ (decode cX6_exchange 57 = .ok (.goto 16, 3))))) ∧ (((decode cX6_exchange 60 = .ok (.aload_n 0, 1)) ∧ ((decode cX6_exchange 61 = .ok (.iload_n 2, 1)) ∧ (decode cX6_exchange 62 = .ok (.putfield 9, 3)))) ∧ ((decode cX6_exchange 65 = .ok (.goto 8, 3)) ∧ ((decode cX6_exchange 68 = .ok (.aload_n 0, 1)) ∧ (decode cX6_exchange 69 = .ok (.iload_n 2, 1)))))) := by decide +kernel
theorem dX6_exchange_0 : decode cX6_exchange 0 = .ok (.aload_n 0, 1) := q_dg99.1.1.1.1
theorem dX6_exchange_1 : decode cX6_exchange 1 = .ok (.iload_n 1, 1) := q_dg99.1.1.1.2.1
theorem dX6_exchange_2 : decode cX6_exchange 2 = .ok (.invokevirtual 59, 3) := q_dg99.1.1.1.2.2
theorem dX6_exchange_5 : decode cX6_exchange 5 = .ok (.istore_n 3, 1) := q_dg99.1.1.2.1
theorem dX6_exchange_6 : decode cX6_exchange 6 = .ok (.iload_n 1, 1) := q_dg99.1.1.2.2.1
theorem dX6_exchange_7 : decode cX6_exchange 7 = .ok (.tableswitch 61 0 3 #[29, 37, 45, 53], 29) := q_dg99.1.1.2.2.2
theorem dX6_exchange_36 : decode cX6_exchange 36 = .ok (.aload_n 0, 1) := q_dg99.1.2.1.1
theorem dX6_exchange_37 : decode cX6_exchange 37 = .ok (.iload_n 2, 1) := q_dg99.1.2.1.2.1
theorem dX6_exchange_38 : decode cX6_exchange 38 = .ok (.putfield 22, 3) := q_dg99.1.2.1.2.2
theorem dX6_exchange_41 : decode cX6_exchange 41 = .ok (.goto 32, 3) := q_dg99.1.2.2.1
theorem dX6_exchange_44 : decode cX6_exchange 44 = .ok (.aload_n 0, 1) := q_dg99.1.2.2.2.1
theorem dX6_exchange_45 : decode cX6_exchange 45 = .ok (.iload_n 2, 1) := q_dg99.1.2.2.2.2
theorem dX6_exchange_46 : decode cX6_exchange 46 = .ok (.putfield 25, 3) := q_dg99.2.1.1.1
theorem dX6_exchange_49 : decode cX6_exchange 49 = .ok (.goto 24, 3) := q_dg99.2.1.1.2.1
theorem dX6_exchange_52 : decode cX6_exchange 52 = .ok (.aload_n 0, 1) := q_dg99.2.1.1.2.2
theorem dX6_exchange_53 : decode cX6_exchange 53 = .ok (.iload_n 2, 1) := q_dg99.2.1.2.1
theorem dX6_exchange_54 : decode cX6_exchange 54 = .ok (.putfield 28, 3) := q_dg99.2.1.2.2.1
theorem dX6_exchange_57 : decode cX6_exchange 57 = .ok (.goto 16, 3) := q_dg99.2.1.2.2.2
theorem dX6_exchange_60 : decode cX6_exchange 60 = .ok (.aload_n 0, 1) := q_dg99.2.2.1.1
theorem dX6_exchange_61 : decode cX6_exchange 61 = .ok (.iload_n 2, 1) := q_dg99.2.2.1.2.1
theorem dX6_exchange_62 : decode cX6_exchange 62 = .ok (.putfield 9, 3) := q_dg99.2.2.1.2.2
theorem dX6_exchange_65 : decode cX6_exchange 65 = .ok (.goto 8, 3) := q_dg99.2.2.2.1
theorem dX6_exchange_68 : decode cX6_exchange 68 = .ok (.aload_n 0, 1) := q_dg99.2.2.2.2.1
theorem dX6_exchange_69 : decode cX6_exchange 69 = .ok (.iload_n 2, 1) := q_dg99.2.2.2.2.2
theorem q_dg100 : (decode cX6_exchange 70 = .ok (.putfield 31, 3)) ∧ ((decode cX6_exchange 73 = .ok (.iload_n 3, 1)) ∧ (decode cX6_exchange 74 = .ok (.ireturn, 1))) := by decide +kernel
theorem dX6_exchange_70 : decode cX6_exchange 70 = .ok (.putfield 31, 3) := q_dg100.1
theorem dX6_exchange_73 : decode cX6_exchange 73 = .ok (.iload_n 3, 1) := q_dg100.2.1
theorem dX6_exchange_74 : decode cX6_exchange 74 = .ok (.ireturn, 1) := q_dg100.2.2
theorem q_dg101 : ((((decode cX6_startAnew 0 = .ok (.aload_n 0, 1)) ∧ ((decode cX6_startAnew 1 = .ok (.iconst 0, 1)) ∧ (decode cX6_startAnew 2 = .ok (.putfield 22, 3)))) ∧ ((decode cX6_startAnew 5 = .ok (.aload_n 0, 1)) ∧ ((decode cX6_startAnew 6 = .ok (.iconst 0, 1)) ∧ (decode cX6_startAnew 7 = .ok (.putfield 25, 3))))) ∧ (((decode cX6_startAnew 10 = .ok (.aload_n 0, 1)) ∧ ((decode cX6_startAnew 11 = .ok (.iconst 0, 1)) ∧ (decode cX6_startAnew 12 = .ok (.putfield 28, 3)))) ∧ ((decode cX6_startAnew 15 = .ok (.aload_n 0, 1)) ∧ ((decode cX6_startAnew 16 = .ok (.sipush 255, 3)) ∧ (decode cX6_startAnew 19 = .ok (.putfield 9, 3)))))) ∧ ((((decode cX6_startAnew 22 = .ok (.aload_n 0, 1)) ∧ ((decode cX6_startAnew 23 = .ok (.iconst 4, 1)) ∧ (decode cX6_startAnew 24 = .ok (.putfield 15, 3)))) ∧ ((decode cX6_startAnew 27 = .ok (.aload_n 0, 1)) ∧ ((decode cX6_startAnew 28 = .ok (.iconst 0, 1)) ∧ (decode cX6_startAnew 29 = .ok (.putfield 34, 3))))) ∧ (((decode cX6_startAnew 32 = .ok (.aload_n 0, 1)) ∧ ((decode cX6_startAnew 33 = .ok (.iconst 0, 1)) ∧ (decode cX6_startAnew 34 = .ok (.putfield 38, 3)))) ∧ ((decode cX6_startAnew 37 = .ok (.aload_n 0, 1)) ∧ ((decode cX6_startAnew 38 = .ok (.iconst 0, 1)) ∧ (decode cX6_startAnew 39 = .ok (.putfield 44, 3)))))) := by decide +kernel
theorem dX6_startAnew_0 : decode cX6_startAnew 0 = .ok (.aload_n 0, 1) := q_dg101.1.1.1.1
theorem dX6_startAnew_1 : decode cX6_startAnew 1 = .ok (.iconst 0, 1) := q_dg101.1.1.1.2.1
theorem dX6_startAnew_2 : decode cX6_startAnew 2 = .ok (.putfield 22, 3) := q_dg101.1.1.1.2.2
theorem dX6_startAnew_5 : decode cX6_startAnew 5 = .ok (.aload_n 0, 1) := q_dg101.1.1.2.1
theorem dX6_startAnew_6 : decode cX6_startAnew 6 = .ok (.iconst 0, 1) := q_dg101.1.1.2.2.1
theorem dX6_startAnew_7 : decode cX6_startAnew 7 = .ok (.putfield 25, 3) := q_dg101.1.1.2.2.2
theorem dX6_startAnew_10 : decode cX6_startAnew 10 = .ok (.aload_n 0, 1) := q_dg101.1.2.1.1
theorem dX6_startAnew_11 : decode cX6_startAnew 11 = .ok (.iconst 0, 1) := q_dg101.1.2.1.2.1
theorem dX6_startAnew_12 : decode cX6_startAnew 12 = .ok (.putfield 28, 3) := q_dg101.1.2.1.2.2
theorem dX6_startAnew_15 : decode cX6_startAnew 15 = .ok (.aload_n 0, 1) := q_dg101.1.2.2.1
theorem dX6_startAnew_16 : decode cX6_startAnew 16 = .ok (.sipush 255, 3) := q_dg101.1.2.2.2.1
theorem dX6_startAnew_19 : decode cX6_startAnew 19 = .ok (.putfield 9, 3) := q_dg101.1.2.2.2.2
theorem dX6_startAnew_22 : decode cX6_startAnew 22 = .ok (.aload_n 0, 1) := q_dg101.2.1.1.1
theorem dX6_startAnew_23 : decode cX6_startAnew 23 = .ok (.iconst 4, 1) := q_dg101.2.1.1.2.1
theorem dX6_startAnew_24 : decode cX6_startAnew 24 = .ok (.putfield 15, 3) := q_dg101.2.1.1.2.2
theorem dX6_startAnew_27 : decode cX6_startAnew 27 = .ok (.aload_n 0, 1) := q_dg101.2.1.2.1
theorem dX6_startAnew_28 : decode cX6_startAnew 28 = .ok (.iconst 0, 1) := q_dg101.2.1.2.2.1
theorem dX6_startAnew_29 : decode cX6_startAnew 29 = .ok (.putfield 34, 3) := q_dg101.2.1.2.2.2
theorem dX6_startAnew_32 : decode cX6_startAnew 32 = .ok (.aload_n 0, 1) := q_dg101.2.2.1.1
theorem dX6_startAnew_33 : decode cX6_startAnew 33 = .ok (.iconst 0, 1) := q_dg101.2.2.1.2.1
theorem dX6_startAnew_34 : decode cX6_startAnew 34 = .ok (.putfield 38, 3) := q_dg101.2.2.1.2.2
theorem dX6_startAnew_37 : decode cX6_startAnew 37 = .ok (.aload_n 0, 1) := q_dg101.2.2.2.1
theorem dX6_startAnew_38 : decode cX6_startAnew 38 = .ok (.iconst 0, 1) := q_dg101.2.2.2.2.1
theorem dX6_startAnew_39 : decode cX6_startAnew 39 = .ok (.putfield 44, 3) := q_dg101.2.2.2.2.2
theorem q_dg102 : ((decode cX6_startAnew 42 = .ok (.aload_n 0, 1)) ∧ ((decode cX6_startAnew 43 = .ok (.aload_n 1, 1)) ∧ (decode cX6_startAnew 44 = .ok (.sipush 3836, 3)))) ∧ ((decode cX6_startAnew 47 = .ok (.invokevirtual 63, 3)) ∧ ((decode cX6_startAnew 50 = .ok (.putfield 31, 3)) ∧ (decode cX6_startAnew 53 = .ok (.return_, 1)))) := by decide +kernel
theorem dX6_startAnew_42 : decode cX6_startAnew 42 = .ok (.aload_n 0, 1) := q_dg102.1.1
theorem dX6_startAnew_43 : decode cX6_startAnew 43 = .ok (.aload_n 1, 1) := q_dg102.1.2.1
theorem dX6_startAnew_44 : decode cX6_startAnew 44 = .ok (.sipush 3836, 3) := q_dg102.1.2.2
theorem dX6_startAnew_47 : decode cX6_startAnew 47 = .ok (.invokevirtual 63, 3) := q_dg102.2.1
theorem dX6_startAnew_50 : decode cX6_startAnew 50 = .ok (.putfield 31, 3) := q_dg102.2.2.1
theorem dX6_startAnew_53 : decode cX6_startAnew 53 = .ok (.return_, 1) := q_dg102.2.2.2
theorem q_dg103 : ((((decode cX6_begin 0 = .ok (.aload_n 1, 1)) ∧ ((decode cX6_begin 1 = .ok (.getfield 68, 3)) ∧ (decode cX6_begin 4 = .ok (.getfield 72, 3)))) ∧ ((decode cX6_begin 7 = .ok (.bipush 10, 2)) ∧ ((decode cX6_begin 9 = .ok (.iaload, 1)) ∧ (decode cX6_begin 10 = .ok (.aload_n 1, 1))))) ∧ (((decode cX6_begin 11 = .ok (.getfield 68, 3)) ∧ ((decode cX6_begin 14 = .ok (.getfield 72, 3)) ∧ (decode cX6_begin 17 = .ok (.bipush 11, 2)))) ∧ ((decode cX6_begin 19 = .ok (.iaload, 1)) ∧ ((decode cX6_begin 20 = .ok (.iand, 1)) ∧ (decode cX6_begin 21 = .ok (.ifCond .eq 7, 3)))))) ∧ ((((decode cX6_begin 24 = .ok (.iconst 1, 1)) ∧ ((decode cX6_begin 25 = .ok (.goto 4, 3)) ∧ (decode cX6_begin 28 = .ok (.iconst 0, 1)))) ∧ ((decode cX6_begin 29 = .ok (.istore_n 2, 1)) ∧ ((decode cX6_begin 30 = .ok (.aload_n 0, 1)) ∧ (decode cX6_begin 31 = .ok (.getfield 38, 3))))) ∧ (((decode cX6_begin 34 = .ok (.ifCond .eq 4, 3)) ∧ ((decode cX6_begin 37 = .ok (.return_, 1)) ∧ (decode cX6_begin 38 = .ok (.aload_n 0, 1)))) ∧ ((decode cX6_begin 39 = .ok (.getfield 34, 3)) ∧ ((decode cX6_begin 42 = .ok (.ifCond .eq 24, 3)) ∧ (decode cX6_begin 45 = .ok (.aload_n 0, 1)))))) := by decide +kernel
theorem dX6_begin_0 : decode cX6_begin 0 = .ok (.aload_n 1, 1) := q_dg103.1.1.1.1
theorem dX6_begin_1 : decode cX6_begin 1 = .ok (.getfield 68, 3) := q_dg103.1.1.1.2.1
theorem dX6_begin_4 : decode cX6_begin 4 = .ok (.getfield 72, 3) := q_dg103.1.1.1.2.2
theorem dX6_begin_7 : decode cX6_begin 7 = .ok (.bipush 10, 2) := q_dg103.1.1.2.1
theorem dX6_begin_9 : decode cX6_begin 9 = .ok (.iaload, 1) := q_dg103.1.1.2.2.1
theorem dX6_begin_10 : decode cX6_begin 10 = .ok (.aload_n 1, 1) := q_dg103.1.1.2.2.2
theorem dX6_begin_11 : decode cX6_begin 11 = .ok (.getfield 68, 3) := q_dg103.1.2.1.1
theorem dX6_begin_14 : decode cX6_begin 14 = .ok (.getfield 72, 3) := q_dg103.1.2.1.2.1
theorem dX6_begin_17 : decode cX6_begin 17 = .ok (.bipush 11, 2) := q_dg103.1.2.1.2.2
theorem dX6_begin_19 : decode cX6_begin 19 = .ok (.iaload, 1) := q_dg103.1.2.2.1
theorem dX6_begin_20 : decode cX6_begin 20 = .ok (.iand, 1) := q_dg103.1.2.2.2.1
theorem dX6_begin_21 : decode cX6_begin 21 = .ok (.ifCond .eq 7, 3) := q_dg103.1.2.2.2.2
theorem dX6_begin_24 : decode cX6_begin 24 = .ok (.iconst 1, 1) := q_dg103.2.1.1.1
theorem dX6_begin_25 : decode cX6_begin 25 = .ok (.goto 4, 3) := q_dg103.2.1.1.2.1
theorem dX6_begin_28 : decode cX6_begin 28 = .ok (.iconst 0, 1) := q_dg103.2.1.1.2.2
theorem dX6_begin_29 : decode cX6_begin 29 = .ok (.istore_n 2, 1) := q_dg103.2.1.2.1
theorem dX6_begin_30 : decode cX6_begin 30 = .ok (.aload_n 0, 1) := q_dg103.2.1.2.2.1
theorem dX6_begin_31 : decode cX6_begin 31 = .ok (.getfield 38, 3) := q_dg103.2.1.2.2.2
theorem dX6_begin_34 : decode cX6_begin 34 = .ok (.ifCond .eq 4, 3) := q_dg103.2.2.1.1
theorem dX6_begin_37 : decode cX6_begin 37 = .ok (.return_, 1) := q_dg103.2.2.1.2.1
theorem dX6_begin_38 : decode cX6_begin 38 = .ok (.aload_n 0, 1) := q_dg103.2.2.1.2.2
theorem dX6_begin_39 : decode cX6_begin 39 = .ok (.getfield 34, 3) := q_dg103.2.2.2.1
theorem dX6_begin_42 : decode cX6_begin 42 = .ok (.ifCond .eq 24, 3) := q_dg103.2.2.2.2.1
theorem dX6_begin_45 : decode cX6_begin 45 = .ok (.aload_n 0, 1) := q_dg103.2.2.2.2.2
theorem q_dg104 : ((((decode cX6_begin 46 = .ok (.iconst 0, 1)) ∧ ((decode cX6_begin 47 = .ok (.putfield 34, 3)) ∧ (decode cX6_begin 50 = .ok (.aload_n 0, 1)))) ∧ ((decode cX6_begin 51 = .ok (.sipush 3834, 3)) ∧ ((decode cX6_begin 54 = .ok (.putfield 41, 3)) ∧ (decode cX6_begin 57 = .ok (.aload_n 0, 1))))) ∧ (((decode cX6_begin 58 = .ok (.bipush 7, 2)) ∧ ((decode cX6_begin 60 = .ok (.putfield 44, 3)) ∧ (decode cX6_begin 63 = .ok (.goto 46, 3)))) ∧ ((decode cX6_begin 66 = .ok (.iload_n 2, 1)) ∧ ((decode cX6_begin 67 = .ok (.ifCond .eq 28, 3)) ∧ (decode cX6_begin 70 = .ok (.aload_n 0, 1)))))) ∧ ((((decode cX6_begin 71 = .ok (.getfield 15, 3)) ∧ ((decode cX6_begin 74 = .ok (.iconst 4, 1)) ∧ (decode cX6_begin 75 = .ok (.iand, 1)))) ∧ ((decode cX6_begin 76 = .ok (.ifCond .ne 19, 3)) ∧ ((decode cX6_begin 79 = .ok (.aload_n 0, 1)) ∧ (decode cX6_begin 80 = .ok (.sipush 3838, 3))))) ∧ (((decode cX6_begin 83 = .ok (.putfield 41, 3)) ∧ ((decode cX6_begin 86 = .ok (.aload_n 0, 1)) ∧ (decode cX6_begin 87 = .ok (.bipush 7, 2)))) ∧ ((decode cX6_begin 89 = .ok (.putfield 44, 3)) ∧ ((decode cX6_begin 92 = .ok (.goto 17, 3)) ∧ (decode cX6_begin 95 = .ok (.aload_n 0, 1)))))) := by decide +kernel
theorem dX6_begin_46 : decode cX6_begin 46 = .ok (.iconst 0, 1) := q_dg104.1.1.1.1
theorem dX6_begin_47 : decode cX6_begin 47 = .ok (.putfield 34, 3) := q_dg104.1.1.1.2.1
theorem dX6_begin_50 : decode cX6_begin 50 = .ok (.aload_n 0, 1) := q_dg104.1.1.1.2.2
theorem dX6_begin_51 : decode cX6_begin 51 = .ok (.sipush 3834, 3) := q_dg104.1.1.2.1
theorem dX6_begin_54 : decode cX6_begin 54 = .ok (.putfield 41, 3) := q_dg104.1.1.2.2.1
theorem dX6_begin_57 : decode cX6_begin 57 = .ok (.aload_n 0, 1) := q_dg104.1.1.2.2.2
theorem dX6_begin_58 : decode cX6_begin 58 = .ok (.bipush 7, 2) := q_dg104.1.2.1.1
theorem dX6_begin_60 : decode cX6_begin 60 = .ok (.putfield 44, 3) := q_dg104.1.2.1.2.1
theorem dX6_begin_63 : decode cX6_begin 63 = .ok (.goto 46, 3) := q_dg104.1.2.1.2.2
theorem dX6_begin_66 : decode cX6_begin 66 = .ok (.iload_n 2, 1) := q_dg104.1.2.2.1
theorem dX6_begin_67 : decode cX6_begin 67 = .ok (.ifCond .eq 28, 3) := q_dg104.1.2.2.2.1
theorem dX6_begin_70 : decode cX6_begin 70 = .ok (.aload_n 0, 1) := q_dg104.1.2.2.2.2
theorem dX6_begin_71 : decode cX6_begin 71 = .ok (.getfield 15, 3) := q_dg104.2.1.1.1
theorem dX6_begin_74 : decode cX6_begin 74 = .ok (.iconst 4, 1) := q_dg104.2.1.1.2.1
theorem dX6_begin_75 : decode cX6_begin 75 = .ok (.iand, 1) := q_dg104.2.1.1.2.2
theorem dX6_begin_76 : decode cX6_begin 76 = .ok (.ifCond .ne 19, 3) := q_dg104.2.1.2.1
theorem dX6_begin_79 : decode cX6_begin 79 = .ok (.aload_n 0, 1) := q_dg104.2.1.2.2.1
theorem dX6_begin_80 : decode cX6_begin 80 = .ok (.sipush 3838, 3) := q_dg104.2.1.2.2.2
theorem dX6_begin_83 : decode cX6_begin 83 = .ok (.putfield 41, 3) := q_dg104.2.2.1.1
theorem dX6_begin_86 : decode cX6_begin 86 = .ok (.aload_n 0, 1) := q_dg104.2.2.1.2.1
theorem dX6_begin_87 : decode cX6_begin 87 = .ok (.bipush 7, 2) := q_dg104.2.2.1.2.2
theorem dX6_begin_89 : decode cX6_begin 89 = .ok (.putfield 44, 3) := q_dg104.2.2.2.1
theorem dX6_begin_92 : decode cX6_begin 92 = .ok (.goto 17, 3) := q_dg104.2.2.2.2.1
theorem dX6_begin_95 : decode cX6_begin 95 = .ok (.aload_n 0, 1) := q_dg104.2.2.2.2.2
theorem q_dg105 : (((decode cX6_begin 96 = .ok (.iconst 0, 1)) ∧ (decode cX6_begin 97 = .ok (.putfield 41, 3))) ∧ ((decode cX6_begin 100 = .ok (.aload_n 0, 1)) ∧ (decode cX6_begin 101 = .ok (.aload_n 0, 1)))) ∧ (((decode cX6_begin 102 = .ok (.aload_n 1, 1)) ∧ (decode cX6_begin 103 = .ok (.invokevirtual 77, 3))) ∧ ((decode cX6_begin 106 = .ok (.putfield 44, 3)) ∧ (decode cX6_begin 109 = .ok (.return_, 1)))) := by decide +kernel
theorem dX6_begin_96 : decode cX6_begin 96 = .ok (.iconst 0, 1) := q_dg105.1.1.1
theorem dX6_begin_97 : decode cX6_begin 97 = .ok (.putfield 41, 3) := q_dg105.1.1.2
theorem dX6_begin_100 : decode cX6_begin 100 = .ok (.aload_n 0, 1) := q_dg105.1.2.1
theorem dX6_begin_101 : decode cX6_begin 101 = .ok (.aload_n 0, 1) := q_dg105.1.2.2
theorem dX6_begin_102 : decode cX6_begin 102 = .ok (.aload_n 1, 1) := q_dg105.2.1.1
theorem dX6_begin_103 : decode cX6_begin 103 = .ok (.invokevirtual 77, 3) := q_dg105.2.1.2
theorem dX6_begin_106 : decode cX6_begin 106 = .ok (.putfield 44, 3) := q_dg105.2.2.1
theorem dX6_begin_109 : decode cX6_begin 109 = .ok (.return_, 1) := q_dg105.2.2.2
theorem q_dg106 : ((((decode cX6_cyclesAt 0 = .ok (.aload_n 1, 1)) ∧ ((decode cX6_cyclesAt 1 = .ok (.aload_n 0, 1)) ∧ (decode cX6_cyclesAt 2 = .ok (.getfield 31, 3)))) ∧ ((decode cX6_cyclesAt 5 = .ok (.invokevirtual 81, 3)) ∧ ((decode cX6_cyclesAt 8 = .ok (.istore_n 2, 1)) ∧ (decode cX6_cyclesAt 9 = .ok (.iload_n 2, 1))))) ∧ (((decode cX6_cyclesAt 10 = .ok (.invokestatic 84, 3)) ∧ ((decode cX6_cyclesAt 13 = .ok (.istore_n 3, 1)) ∧ (decode cX6_cyclesAt 14 = .ok (.iload_n 2, 1)))) ∧ ((decode cX6_cyclesAt 15 = .ok (.bipush 7, 2)) ∧ ((decode cX6_cyclesAt 17 = .ok (.iand, 1)) ∧ (decode cX6_cyclesAt 18 = .ok (.istore 4, 2)))))) ∧ ((((decode cX6_cyclesAt 20 = .ok (.iload_n 2, 1)) ∧ ((decode cX6_cyclesAt 21 = .ok (.invokestatic 89, 3)) ∧ (decode cX6_cyclesAt 24 = .ok (.ifCond .eq 18, 3)))) ∧ ((decode cX6_cyclesAt 27 = .ok (.aload_n 0, 1)) ∧ ((decode cX6_cyclesAt 28 = .ok (.iload_n 2, 1)) ∧ (decode cX6_cyclesAt 29 = .ok (.aload_n 1, 1))))) ∧ (((decode cX6_cyclesAt 30 = .ok (.aload_n 0, 1)) ∧ ((decode cX6_cyclesAt 31 = .ok (.iconst 1, 1)) ∧ (decode cX6_cyclesAt 32 = .ok (.invokevirtual 93, 3)))) ∧ ((decode cX6_cyclesAt 35 = .ok (.invokevirtual 81, 3)) ∧ ((decode cX6_cyclesAt 38 = .ok (.invokevirtual 96, 3)) ∧ (decode cX6_cyclesAt 41 = .ok (.ireturn, 1)))))) := by decide +kernel
theorem dX6_cyclesAt_0 : decode cX6_cyclesAt 0 = .ok (.aload_n 1, 1) := q_dg106.1.1.1.1
theorem dX6_cyclesAt_1 : decode cX6_cyclesAt 1 = .ok (.aload_n 0, 1) := q_dg106.1.1.1.2.1
theorem dX6_cyclesAt_2 : decode cX6_cyclesAt 2 = .ok (.getfield 31, 3) := q_dg106.1.1.1.2.2
theorem dX6_cyclesAt_5 : decode cX6_cyclesAt 5 = .ok (.invokevirtual 81, 3) := q_dg106.1.1.2.1
theorem dX6_cyclesAt_8 : decode cX6_cyclesAt 8 = .ok (.istore_n 2, 1) := q_dg106.1.1.2.2.1
theorem dX6_cyclesAt_9 : decode cX6_cyclesAt 9 = .ok (.iload_n 2, 1) := q_dg106.1.1.2.2.2
theorem dX6_cyclesAt_10 : decode cX6_cyclesAt 10 = .ok (.invokestatic 84, 3) := q_dg106.1.2.1.1
theorem dX6_cyclesAt_13 : decode cX6_cyclesAt 13 = .ok (.istore_n 3, 1) := q_dg106.1.2.1.2.1
theorem dX6_cyclesAt_14 : decode cX6_cyclesAt 14 = .ok (.iload_n 2, 1) := q_dg106.1.2.1.2.2
theorem dX6_cyclesAt_15 : decode cX6_cyclesAt 15 = .ok (.bipush 7, 2) := q_dg106.1.2.2.1
theorem dX6_cyclesAt_17 : decode cX6_cyclesAt 17 = .ok (.iand, 1) := q_dg106.1.2.2.2.1
theorem dX6_cyclesAt_18 : decode cX6_cyclesAt 18 = .ok (.istore 4, 2) := q_dg106.1.2.2.2.2
theorem dX6_cyclesAt_20 : decode cX6_cyclesAt 20 = .ok (.iload_n 2, 1) := q_dg106.2.1.1.1
theorem dX6_cyclesAt_21 : decode cX6_cyclesAt 21 = .ok (.invokestatic 89, 3) := q_dg106.2.1.1.2.1
theorem dX6_cyclesAt_24 : decode cX6_cyclesAt 24 = .ok (.ifCond .eq 18, 3) := q_dg106.2.1.1.2.2
theorem dX6_cyclesAt_27 : decode cX6_cyclesAt 27 = .ok (.aload_n 0, 1) := q_dg106.2.1.2.1
theorem dX6_cyclesAt_28 : decode cX6_cyclesAt 28 = .ok (.iload_n 2, 1) := q_dg106.2.1.2.2.1
theorem dX6_cyclesAt_29 : decode cX6_cyclesAt 29 = .ok (.aload_n 1, 1) := q_dg106.2.1.2.2.2
theorem dX6_cyclesAt_30 : decode cX6_cyclesAt 30 = .ok (.aload_n 0, 1) := q_dg106.2.2.1.1
theorem dX6_cyclesAt_31 : decode cX6_cyclesAt 31 = .ok (.iconst 1, 1) := q_dg106.2.2.1.2.1
theorem dX6_cyclesAt_32 : decode cX6_cyclesAt 32 = .ok (.invokevirtual 93, 3) := q_dg106.2.2.1.2.2
theorem dX6_cyclesAt_35 : decode cX6_cyclesAt 35 = .ok (.invokevirtual 81, 3) := q_dg106.2.2.2.1
theorem dX6_cyclesAt_38 : decode cX6_cyclesAt 38 = .ok (.invokevirtual 96, 3) := q_dg106.2.2.2.2.1
theorem dX6_cyclesAt_41 : decode cX6_cyclesAt 41 = .ok (.ireturn, 1) := q_dg106.2.2.2.2.2
theorem q_dg107 : ((((decode cX6_cyclesAt 42 = .ok (.iload_n 3, 1)) ∧ ((decode cX6_cyclesAt 43 = .ok (.ifCond .ge 8, 3)) ∧ (decode cX6_cyclesAt 46 = .ok (.iload_n 2, 1)))) ∧ ((decode cX6_cyclesAt 47 = .ok (.invokestatic 100, 3)) ∧ ((decode cX6_cyclesAt 50 = .ok (.ireturn, 1)) ∧ (decode cX6_cyclesAt 51 = .ok (.iload 4, 2))))) ∧ (((decode cX6_cyclesAt 53 = .ok (.ifCond .ne 5, 3)) ∧ ((decode cX6_cyclesAt 56 = .ok (.iconst 2, 1)) ∧ (decode cX6_cyclesAt 57 = .ok (.ireturn, 1)))) ∧ ((decode cX6_cyclesAt 58 = .ok (.iconst 0, 1)) ∧ ((decode cX6_cyclesAt 59 = .ok (.istore 5, 2)) ∧ (decode cX6_cyclesAt 61 = .ok (.iload 4, 2)))))) ∧ ((((decode cX6_cyclesAt 63 = .ok (.iconst 4, 1)) ∧ ((decode cX6_cyclesAt 64 = .ok (.if_icmp .lt 63, 3)) ∧ (decode cX6_cyclesAt 67 = .ok (.iload 4, 2)))) ∧ ((decode cX6_cyclesAt 69 = .ok (.bipush 6, 2)) ∧ ((decode cX6_cyclesAt 71 = .ok (.if_icmp .gt 56, 3)) ∧ (decode cX6_cyclesAt 74 = .ok (.aload_n 0, 1))))) ∧ (((decode cX6_cyclesAt 75 = .ok (.aload_n 1, 1)) ∧ ((decode cX6_cyclesAt 76 = .ok (.iload 4, 2)) ∧ (decode cX6_cyclesAt 78 = .ok (.invokevirtual 103, 3)))) ∧ ((decode cX6_cyclesAt 81 = .ok (.istore 6, 2)) ∧ ((decode cX6_cyclesAt 83 = .ok (.iload 6, 2)) ∧ (decode cX6_cyclesAt 85 = .ok (.aload_n 0, 1)))))) := by decide +kernel
theorem dX6_cyclesAt_42 : decode cX6_cyclesAt 42 = .ok (.iload_n 3, 1) := q_dg107.1.1.1.1
theorem dX6_cyclesAt_43 : decode cX6_cyclesAt 43 = .ok (.ifCond .ge 8, 3) := q_dg107.1.1.1.2.1
theorem dX6_cyclesAt_46 : decode cX6_cyclesAt 46 = .ok (.iload_n 2, 1) := q_dg107.1.1.1.2.2
theorem dX6_cyclesAt_47 : decode cX6_cyclesAt 47 = .ok (.invokestatic 100, 3) := q_dg107.1.1.2.1
theorem dX6_cyclesAt_50 : decode cX6_cyclesAt 50 = .ok (.ireturn, 1) := q_dg107.1.1.2.2.1
theorem dX6_cyclesAt_51 : decode cX6_cyclesAt 51 = .ok (.iload 4, 2) := q_dg107.1.1.2.2.2
theorem dX6_cyclesAt_53 : decode cX6_cyclesAt 53 = .ok (.ifCond .ne 5, 3) := q_dg107.1.2.1.1
theorem dX6_cyclesAt_56 : decode cX6_cyclesAt 56 = .ok (.iconst 2, 1) := q_dg107.1.2.1.2.1
theorem dX6_cyclesAt_57 : decode cX6_cyclesAt 57 = .ok (.ireturn, 1) := q_dg107.1.2.1.2.2
theorem dX6_cyclesAt_58 : decode cX6_cyclesAt 58 = .ok (.iconst 0, 1) := q_dg107.1.2.2.1
theorem dX6_cyclesAt_59 : decode cX6_cyclesAt 59 = .ok (.istore 5, 2) := q_dg107.1.2.2.2.1
theorem dX6_cyclesAt_61 : decode cX6_cyclesAt 61 = .ok (.iload 4, 2) := q_dg107.1.2.2.2.2
theorem dX6_cyclesAt_63 : decode cX6_cyclesAt 63 = .ok (.iconst 4, 1) := q_dg107.2.1.1.1
theorem dX6_cyclesAt_64 : decode cX6_cyclesAt 64 = .ok (.if_icmp .lt 63, 3) := q_dg107.2.1.1.2.1
theorem dX6_cyclesAt_67 : decode cX6_cyclesAt 67 = .ok (.iload 4, 2) := q_dg107.2.1.1.2.2
theorem dX6_cyclesAt_69 : decode cX6_cyclesAt 69 = .ok (.bipush 6, 2) := q_dg107.2.1.2.1
theorem dX6_cyclesAt_71 : decode cX6_cyclesAt 71 = .ok (.if_icmp .gt 56, 3) := q_dg107.2.1.2.2.1
theorem dX6_cyclesAt_74 : decode cX6_cyclesAt 74 = .ok (.aload_n 0, 1) := q_dg107.2.1.2.2.2
theorem dX6_cyclesAt_75 : decode cX6_cyclesAt 75 = .ok (.aload_n 1, 1) := q_dg107.2.2.1.1
theorem dX6_cyclesAt_76 : decode cX6_cyclesAt 76 = .ok (.iload 4, 2) := q_dg107.2.2.1.2.1
theorem dX6_cyclesAt_78 : decode cX6_cyclesAt 78 = .ok (.invokevirtual 103, 3) := q_dg107.2.2.1.2.2
theorem dX6_cyclesAt_81 : decode cX6_cyclesAt 81 = .ok (.istore 6, 2) := q_dg107.2.2.2.1
theorem dX6_cyclesAt_83 : decode cX6_cyclesAt 83 = .ok (.iload 6, 2) := q_dg107.2.2.2.2.1
theorem dX6_cyclesAt_85 : decode cX6_cyclesAt 85 = .ok (.aload_n 0, 1) := q_dg107.2.2.2.2.2
theorem q_dg108 : ((((decode cX6_cyclesAt 86 = .ok (.iload 4, 2)) ∧ ((decode cX6_cyclesAt 88 = .ok (.invokevirtual 107, 3)) ∧ (decode cX6_cyclesAt 91 = .ok (.iadd, 1)))) ∧ ((decode cX6_cyclesAt 92 = .ok (.sipush 4095, 3)) ∧ ((decode cX6_cyclesAt 95 = .ok (.iand, 1)) ∧ (decode cX6_cyclesAt 96 = .ok (.istore 7, 2))))) ∧ (((decode cX6_cyclesAt 98 = .ok (.iload_n 3, 1)) ∧ ((decode cX6_cyclesAt 99 = .ok (.invokestatic 110, 3)) ∧ (decode cX6_cyclesAt 102 = .ok (.ifCond .ne 18, 3)))) ∧ ((decode cX6_cyclesAt 105 = .ok (.iload 7, 2)) ∧ ((decode cX6_cyclesAt 107 = .ok (.sipush 256, 3)) ∧ (decode cX6_cyclesAt 110 = .ok (.idiv, 1)))))) ∧ ((((decode cX6_cyclesAt 111 = .ok (.iload 6, 2)) ∧ ((decode cX6_cyclesAt 113 = .ok (.sipush 256, 3)) ∧ (decode cX6_cyclesAt 116 = .ok (.idiv, 1)))) ∧ ((decode cX6_cyclesAt 117 = .ok (.if_icmp .eq 7, 3)) ∧ ((decode cX6_cyclesAt 120 = .ok (.iconst 1, 1)) ∧ (decode cX6_cyclesAt 121 = .ok (.goto 4, 3))))) ∧ (((decode cX6_cyclesAt 124 = .ok (.iconst 0, 1)) ∧ ((decode cX6_cyclesAt 125 = .ok (.istore 5, 2)) ∧ (decode cX6_cyclesAt 127 = .ok (.iload 4, 2)))) ∧ ((decode cX6_cyclesAt 129 = .ok (.invokestatic 113, 3)) ∧ ((decode cX6_cyclesAt 132 = .ok (.iload 5, 2)) ∧ (decode cX6_cyclesAt 134 = .ok (.ifCond .eq 7, 3)))))) := by decide +kernel
theorem dX6_cyclesAt_86 : decode cX6_cyclesAt 86 = .ok (.iload 4, 2) := q_dg108.1.1.1.1
theorem dX6_cyclesAt_88 : decode cX6_cyclesAt 88 = .ok (.invokevirtual 107, 3) := q_dg108.1.1.1.2.1
theorem dX6_cyclesAt_91 : decode cX6_cyclesAt 91 = .ok (.iadd, 1) := q_dg108.1.1.1.2.2
theorem dX6_cyclesAt_92 : decode cX6_cyclesAt 92 = .ok (.sipush 4095, 3) := q_dg108.1.1.2.1
theorem dX6_cyclesAt_95 : decode cX6_cyclesAt 95 = .ok (.iand, 1) := q_dg108.1.1.2.2.1
theorem dX6_cyclesAt_96 : decode cX6_cyclesAt 96 = .ok (.istore 7, 2) := q_dg108.1.1.2.2.2
theorem dX6_cyclesAt_98 : decode cX6_cyclesAt 98 = .ok (.iload_n 3, 1) := q_dg108.1.2.1.1
theorem dX6_cyclesAt_99 : decode cX6_cyclesAt 99 = .ok (.invokestatic 110, 3) := q_dg108.1.2.1.2.1
theorem dX6_cyclesAt_102 : decode cX6_cyclesAt 102 = .ok (.ifCond .ne 18, 3) := q_dg108.1.2.1.2.2
theorem dX6_cyclesAt_105 : decode cX6_cyclesAt 105 = .ok (.iload 7, 2) := q_dg108.1.2.2.1
theorem dX6_cyclesAt_107 : decode cX6_cyclesAt 107 = .ok (.sipush 256, 3) := q_dg108.1.2.2.2.1
theorem dX6_cyclesAt_110 : decode cX6_cyclesAt 110 = .ok (.idiv, 1) := q_dg108.1.2.2.2.2
theorem dX6_cyclesAt_111 : decode cX6_cyclesAt 111 = .ok (.iload 6, 2) := q_dg108.2.1.1.1
theorem dX6_cyclesAt_113 : decode cX6_cyclesAt 113 = .ok (.sipush 256, 3) := q_dg108.2.1.1.2.1
theorem dX6_cyclesAt_116 : decode cX6_cyclesAt 116 = .ok (.idiv, 1) := q_dg108.2.1.1.2.2
theorem dX6_cyclesAt_117 : decode cX6_cyclesAt 117 = .ok (.if_icmp .eq 7, 3) := q_dg108.2.1.2.1
theorem dX6_cyclesAt_120 : decode cX6_cyclesAt 120 = .ok (.iconst 1, 1) := q_dg108.2.1.2.2.1
theorem dX6_cyclesAt_121 : decode cX6_cyclesAt 121 = .ok (.goto 4, 3) := q_dg108.2.1.2.2.2
theorem dX6_cyclesAt_124 : decode cX6_cyclesAt 124 = .ok (.iconst 0, 1) := q_dg108.2.2.1.1
theorem dX6_cyclesAt_125 : decode cX6_cyclesAt 125 = .ok (.istore 5, 2) := q_dg108.2.2.1.2.1
theorem dX6_cyclesAt_127 : decode cX6_cyclesAt 127 = .ok (.iload 4, 2) := q_dg108.2.2.1.2.2
theorem dX6_cyclesAt_129 : decode cX6_cyclesAt 129 = .ok (.invokestatic 113, 3) := q_dg108.2.2.2.1
theorem dX6_cyclesAt_132 : decode cX6_cyclesAt 132 = .ok (.iload 5, 2) := q_dg108.2.2.2.2.1
theorem dX6_cyclesAt_134 : decode cX6_cyclesAt 134 = .ok (.ifCond .eq 7, 3) := q_dg108.2.2.2.2.2
theorem q_dg109 : (((decode cX6_cyclesAt 137 = .ok (.iconst 1, 1)) ∧ ((decode cX6_cyclesAt 138 = .ok (.goto 4, 3)) ∧ (decode cX6_cyclesAt 141 = .ok (.iconst 0, 1)))) ∧ ((decode cX6_cyclesAt 142 = .ok (.iadd, 1)) ∧ ((decode cX6_cyclesAt 143 = .ok (.iload_n 3, 1)) ∧ (decode cX6_cyclesAt 144 = .ok (.invokestatic 116, 3))))) ∧ (((decode cX6_cyclesAt 147 = .ok (.ifCond .eq 7, 3)) ∧ ((decode cX6_cyclesAt 150 = .ok (.iconst 2, 1)) ∧ (decode cX6_cyclesAt 151 = .ok (.goto 4, 3)))) ∧ ((decode cX6_cyclesAt 154 = .ok (.iconst 0, 1)) ∧ ((decode cX6_cyclesAt 155 = .ok (.iadd, 1)) ∧ (decode cX6_cyclesAt 156 = .ok (.ireturn, 1))))) := by decide +kernel
theorem dX6_cyclesAt_137 : decode cX6_cyclesAt 137 = .ok (.iconst 1, 1) := q_dg109.1.1.1
theorem dX6_cyclesAt_138 : decode cX6_cyclesAt 138 = .ok (.goto 4, 3) := q_dg109.1.1.2.1
theorem dX6_cyclesAt_141 : decode cX6_cyclesAt 141 = .ok (.iconst 0, 1) := q_dg109.1.1.2.2
theorem dX6_cyclesAt_142 : decode cX6_cyclesAt 142 = .ok (.iadd, 1) := q_dg109.1.2.1
theorem dX6_cyclesAt_143 : decode cX6_cyclesAt 143 = .ok (.iload_n 3, 1) := q_dg109.1.2.2.1
theorem dX6_cyclesAt_144 : decode cX6_cyclesAt 144 = .ok (.invokestatic 116, 3) := q_dg109.1.2.2.2
theorem dX6_cyclesAt_147 : decode cX6_cyclesAt 147 = .ok (.ifCond .eq 7, 3) := q_dg109.2.1.1
theorem dX6_cyclesAt_150 : decode cX6_cyclesAt 150 = .ok (.iconst 2, 1) := q_dg109.2.1.2.1
theorem dX6_cyclesAt_151 : decode cX6_cyclesAt 151 = .ok (.goto 4, 3) := q_dg109.2.1.2.2
theorem dX6_cyclesAt_154 : decode cX6_cyclesAt 154 = .ok (.iconst 0, 1) := q_dg109.2.2.1
theorem dX6_cyclesAt_155 : decode cX6_cyclesAt 155 = .ok (.iadd, 1) := q_dg109.2.2.2.1
theorem dX6_cyclesAt_156 : decode cX6_cyclesAt 156 = .ok (.ireturn, 1) := q_dg109.2.2.2.2
theorem q_dg110 : ((((decode cX6_cyclesOfBranch 0 = .ok (.aload_n 0, 1)) ∧ (decode cX6_cyclesOfBranch 1 = .ok (.iload_n 1, 1))) ∧ ((decode cX6_cyclesOfBranch 2 = .ok (.invokevirtual 119, 3)) ∧ ((decode cX6_cyclesOfBranch 5 = .ok (.ifCond .ne 5, 3)) ∧ (decode cX6_cyclesOfBranch 8 = .ok (.iconst 2, 1))))) ∧ (((decode cX6_cyclesOfBranch 9 = .ok (.ireturn, 1)) ∧ (decode cX6_cyclesOfBranch 10 = .ok (.aload_n 0, 1))) ∧ ((decode cX6_cyclesOfBranch 11 = .ok (.iload_n 2, 1)) ∧ ((decode cX6_cyclesOfBranch 12 = .ok (.invokevirtual 122, 3)) ∧ (decode cX6_cyclesOfBranch 15 = .ok (.sipush 256, 3)))))) ∧ ((((decode cX6_cyclesOfBranch 18 = .ok (.idiv, 1)) ∧ (decode cX6_cyclesOfBranch 19 = .ok (.aload_n 0, 1))) ∧ ((decode cX6_cyclesOfBranch 20 = .ok (.iconst 2, 1)) ∧ ((decode cX6_cyclesOfBranch 21 = .ok (.invokevirtual 93, 3)) ∧ (decode cX6_cyclesOfBranch 24 = .ok (.sipush 256, 3))))) ∧ (((decode cX6_cyclesOfBranch 27 = .ok (.idiv, 1)) ∧ ((decode cX6_cyclesOfBranch 28 = .ok (.if_icmp .ne 7, 3)) ∧ (decode cX6_cyclesOfBranch 31 = .ok (.iconst 3, 1)))) ∧ ((decode cX6_cyclesOfBranch 32 = .ok (.goto 4, 3)) ∧ ((decode cX6_cyclesOfBranch 35 = .ok (.iconst 4, 1)) ∧ (decode cX6_cyclesOfBranch 36 = .ok (.ireturn, 1)))))) := by decide +kernel
theorem dX6_cyclesOfBranch_0 : decode cX6_cyclesOfBranch 0 = .ok (.aload_n 0, 1) := q_dg110.1.1.1.1
theorem dX6_cyclesOfBranch_1 : decode cX6_cyclesOfBranch 1 = .ok (.iload_n 1, 1) := q_dg110.1.1.1.2
theorem dX6_cyclesOfBranch_2 : decode cX6_cyclesOfBranch 2 = .ok (.invokevirtual 119, 3) := q_dg110.1.1.2.1
theorem dX6_cyclesOfBranch_5 : decode cX6_cyclesOfBranch 5 = .ok (.ifCond .ne 5, 3) := q_dg110.1.1.2.2.1
theorem dX6_cyclesOfBranch_8 : decode cX6_cyclesOfBranch 8 = .ok (.iconst 2, 1) := q_dg110.1.1.2.2.2
theorem dX6_cyclesOfBranch_9 : decode cX6_cyclesOfBranch 9 = .ok (.ireturn, 1) := q_dg110.1.2.1.1
theorem dX6_cyclesOfBranch_10 : decode cX6_cyclesOfBranch 10 = .ok (.aload_n 0, 1) := q_dg110.1.2.1.2
theorem dX6_cyclesOfBranch_11 : decode cX6_cyclesOfBranch 11 = .ok (.iload_n 2, 1) := q_dg110.1.2.2.1
theorem dX6_cyclesOfBranch_12 : decode cX6_cyclesOfBranch 12 = .ok (.invokevirtual 122, 3) := q_dg110.1.2.2.2.1
theorem dX6_cyclesOfBranch_15 : decode cX6_cyclesOfBranch 15 = .ok (.sipush 256, 3) := q_dg110.1.2.2.2.2
theorem dX6_cyclesOfBranch_18 : decode cX6_cyclesOfBranch 18 = .ok (.idiv, 1) := q_dg110.2.1.1.1
theorem dX6_cyclesOfBranch_19 : decode cX6_cyclesOfBranch 19 = .ok (.aload_n 0, 1) := q_dg110.2.1.1.2
theorem dX6_cyclesOfBranch_20 : decode cX6_cyclesOfBranch 20 = .ok (.iconst 2, 1) := q_dg110.2.1.2.1
theorem dX6_cyclesOfBranch_21 : decode cX6_cyclesOfBranch 21 = .ok (.invokevirtual 93, 3) := q_dg110.2.1.2.2.1
theorem dX6_cyclesOfBranch_24 : decode cX6_cyclesOfBranch 24 = .ok (.sipush 256, 3) := q_dg110.2.1.2.2.2
theorem dX6_cyclesOfBranch_27 : decode cX6_cyclesOfBranch 27 = .ok (.idiv, 1) := q_dg110.2.2.1.1
theorem dX6_cyclesOfBranch_28 : decode cX6_cyclesOfBranch 28 = .ok (.if_icmp .ne 7, 3) := q_dg110.2.2.1.2.1
theorem dX6_cyclesOfBranch_31 : decode cX6_cyclesOfBranch 31 = .ok (.iconst 3, 1) := q_dg110.2.2.1.2.2
theorem dX6_cyclesOfBranch_32 : decode cX6_cyclesOfBranch 32 = .ok (.goto 4, 3) := q_dg110.2.2.2.1
theorem dX6_cyclesOfBranch_35 : decode cX6_cyclesOfBranch 35 = .ok (.iconst 4, 1) := q_dg110.2.2.2.2.1
theorem dX6_cyclesOfBranch_36 : decode cX6_cyclesOfBranch 36 = .ok (.ireturn, 1) := q_dg110.2.2.2.2.2
theorem q_dg111 : ((decode cX6_targetOf 0 = .ok (.aload_n 0, 1)) ∧ (decode cX6_targetOf 1 = .ok (.getfield 31, 3))) ∧ ((decode cX6_targetOf 4 = .ok (.iload_n 1, 1)) ∧ ((decode cX6_targetOf 5 = .ok (.invokestatic 125, 3)) ∧ (decode cX6_targetOf 8 = .ok (.ireturn, 1)))) := by decide +kernel
theorem dX6_targetOf_0 : decode cX6_targetOf 0 = .ok (.aload_n 0, 1) := q_dg111.1.1
theorem dX6_targetOf_1 : decode cX6_targetOf 1 = .ok (.getfield 31, 3) := q_dg111.1.2
theorem dX6_targetOf_4 : decode cX6_targetOf 4 = .ok (.iload_n 1, 1) := q_dg111.2.1
theorem dX6_targetOf_5 : decode cX6_targetOf 5 = .ok (.invokestatic 125, 3) := q_dg111.2.2.1
theorem dX6_targetOf_8 : decode cX6_targetOf 8 = .ok (.ireturn, 1) := q_dg111.2.2.2
theorem q_dg112 : ((decode cX6_behind 0 = .ok (.aload_n 0, 1)) ∧ ((decode cX6_behind 1 = .ok (.getfield 31, 3)) ∧ (decode cX6_behind 4 = .ok (.iload_n 1, 1)))) ∧ (((decode cX6_behind 5 = .ok (.iadd, 1)) ∧ (decode cX6_behind 6 = .ok (.sipush 4095, 3))) ∧ ((decode cX6_behind 9 = .ok (.iand, 1)) ∧ (decode cX6_behind 10 = .ok (.ireturn, 1)))) := by decide +kernel
theorem dX6_behind_0 : decode cX6_behind 0 = .ok (.aload_n 0, 1) := q_dg112.1.1
theorem dX6_behind_1 : decode cX6_behind 1 = .ok (.getfield 31, 3) := q_dg112.1.2.1
theorem dX6_behind_4 : decode cX6_behind 4 = .ok (.iload_n 1, 1) := q_dg112.1.2.2
theorem dX6_behind_5 : decode cX6_behind 5 = .ok (.iadd, 1) := q_dg112.2.1.1
theorem dX6_behind_6 : decode cX6_behind 6 = .ok (.sipush 4095, 3) := q_dg112.2.1.2
theorem dX6_behind_9 : decode cX6_behind 9 = .ok (.iand, 1) := q_dg112.2.2.1
theorem dX6_behind_10 : decode cX6_behind 10 = .ok (.ireturn, 1) := q_dg112.2.2.2
theorem q_dg113 : ((((decode cX6_isLastCycle 0 = .ok (.aload_n 0, 1)) ∧ (decode cX6_isLastCycle 1 = .ok (.getfield 44, 3))) ∧ ((decode cX6_isLastCycle 4 = .ok (.ifCond .ne 5, 3)) ∧ (decode cX6_isLastCycle 7 = .ok (.iconst 0, 1)))) ∧ (((decode cX6_isLastCycle 8 = .ok (.ireturn, 1)) ∧ (decode cX6_isLastCycle 9 = .ok (.aload_n 0, 1))) ∧ ((decode cX6_isLastCycle 10 = .ok (.dup, 1)) ∧ ((decode cX6_isLastCycle 11 = .ok (.getfield 44, 3)) ∧ (decode cX6_isLastCycle 14 = .ok (.iconst 1, 1)))))) ∧ ((((decode cX6_isLastCycle 15 = .ok (.isub, 1)) ∧ (decode cX6_isLastCycle 16 = .ok (.putfield 44, 3))) ∧ ((decode cX6_isLastCycle 19 = .ok (.aload_n 0, 1)) ∧ (decode cX6_isLastCycle 20 = .ok (.getfield 44, 3)))) ∧ (((decode cX6_isLastCycle 23 = .ok (.ifCond .ne 7, 3)) ∧ (decode cX6_isLastCycle 26 = .ok (.iconst 1, 1))) ∧ ((decode cX6_isLastCycle 27 = .ok (.goto 4, 3)) ∧ ((decode cX6_isLastCycle 30 = .ok (.iconst 0, 1)) ∧ (decode cX6_isLastCycle 31 = .ok (.ireturn, 1)))))) := by decide +kernel
theorem dX6_isLastCycle_0 : decode cX6_isLastCycle 0 = .ok (.aload_n 0, 1) := q_dg113.1.1.1.1
theorem dX6_isLastCycle_1 : decode cX6_isLastCycle 1 = .ok (.getfield 44, 3) := q_dg113.1.1.1.2
theorem dX6_isLastCycle_4 : decode cX6_isLastCycle 4 = .ok (.ifCond .ne 5, 3) := q_dg113.1.1.2.1
theorem dX6_isLastCycle_7 : decode cX6_isLastCycle 7 = .ok (.iconst 0, 1) := q_dg113.1.1.2.2
theorem dX6_isLastCycle_8 : decode cX6_isLastCycle 8 = .ok (.ireturn, 1) := q_dg113.1.2.1.1
theorem dX6_isLastCycle_9 : decode cX6_isLastCycle 9 = .ok (.aload_n 0, 1) := q_dg113.1.2.1.2
theorem dX6_isLastCycle_10 : decode cX6_isLastCycle 10 = .ok (.dup, 1) := q_dg113.1.2.2.1
theorem dX6_isLastCycle_11 : decode cX6_isLastCycle 11 = .ok (.getfield 44, 3) := q_dg113.1.2.2.2.1
theorem dX6_isLastCycle_14 : decode cX6_isLastCycle 14 = .ok (.iconst 1, 1) := q_dg113.1.2.2.2.2
theorem dX6_isLastCycle_15 : decode cX6_isLastCycle 15 = .ok (.isub, 1) := q_dg113.2.1.1.1
theorem dX6_isLastCycle_16 : decode cX6_isLastCycle 16 = .ok (.putfield 44, 3) := q_dg113.2.1.1.2
theorem dX6_isLastCycle_19 : decode cX6_isLastCycle 19 = .ok (.aload_n 0, 1) := q_dg113.2.1.2.1
theorem dX6_isLastCycle_20 : decode cX6_isLastCycle 20 = .ok (.getfield 44, 3) := q_dg113.2.1.2.2
theorem dX6_isLastCycle_23 : decode cX6_isLastCycle 23 = .ok (.ifCond .ne 7, 3) := q_dg113.2.2.1.1
theorem dX6_isLastCycle_26 : decode cX6_isLastCycle 26 = .ok (.iconst 1, 1) := q_dg113.2.2.1.2
theorem dX6_isLastCycle_27 : decode cX6_isLastCycle 27 = .ok (.goto 4, 3) := q_dg113.2.2.2.1
theorem dX6_isLastCycle_30 : decode cX6_isLastCycle 30 = .ok (.iconst 0, 1) := q_dg113.2.2.2.2.1
theorem dX6_isLastCycle_31 : decode cX6_isLastCycle 31 = .ok (.ireturn, 1) := q_dg113.2.2.2.2.2
theorem q_dg114 : ((((decode cX6_finish 0 = .ok (.aload_n 0, 1)) ∧ ((decode cX6_finish 1 = .ok (.dup, 1)) ∧ (decode cX6_finish 2 = .ok (.getfield 47, 3)))) ∧ ((decode cX6_finish 5 = .ok (.iconst 1, 1)) ∧ ((decode cX6_finish 6 = .ok (.iadd, 1)) ∧ (decode cX6_finish 7 = .ok (.putfield 47, 3))))) ∧ (((decode cX6_finish 10 = .ok (.aload_n 0, 1)) ∧ ((decode cX6_finish 11 = .ok (.getfield 41, 3)) ∧ (decode cX6_finish 14 = .ok (.ifCond .eq 24, 3)))) ∧ ((decode cX6_finish 17 = .ok (.aload_n 0, 1)) ∧ ((decode cX6_finish 18 = .ok (.aload_n 1, 1)) ∧ (decode cX6_finish 19 = .ok (.aload_n 0, 1)))))) ∧ ((((decode cX6_finish 20 = .ok (.getfield 31, 3)) ∧ ((decode cX6_finish 23 = .ok (.aload_n 0, 1)) ∧ (decode cX6_finish 24 = .ok (.getfield 15, 3)))) ∧ ((decode cX6_finish 27 = .ok (.bipush 32, 2)) ∧ ((decode cX6_finish 29 = .ok (.ior, 1)) ∧ (decode cX6_finish 30 = .ok (.aload_n 0, 1))))) ∧ (((decode cX6_finish 31 = .ok (.getfield 41, 3)) ∧ ((decode cX6_finish 34 = .ok (.invokevirtual 127, 3)) ∧ (decode cX6_finish 37 = .ok (.return_, 1)))) ∧ ((decode cX6_finish 38 = .ok (.aload_n 0, 1)) ∧ ((decode cX6_finish 39 = .ok (.getfield 18, 3)) ∧ (decode cX6_finish 42 = .ok (.aload_n 0, 1)))))) := by decide +kernel
theorem dX6_finish_0 : decode cX6_finish 0 = .ok (.aload_n 0, 1) := q_dg114.1.1.1.1
theorem dX6_finish_1 : decode cX6_finish 1 = .ok (.dup, 1) := q_dg114.1.1.1.2.1
theorem dX6_finish_2 : decode cX6_finish 2 = .ok (.getfield 47, 3) := q_dg114.1.1.1.2.2
theorem dX6_finish_5 : decode cX6_finish 5 = .ok (.iconst 1, 1) := q_dg114.1.1.2.1
theorem dX6_finish_6 : decode cX6_finish 6 = .ok (.iadd, 1) := q_dg114.1.1.2.2.1
theorem dX6_finish_7 : decode cX6_finish 7 = .ok (.putfield 47, 3) := q_dg114.1.1.2.2.2
theorem dX6_finish_10 : decode cX6_finish 10 = .ok (.aload_n 0, 1) := q_dg114.1.2.1.1
theorem dX6_finish_11 : decode cX6_finish 11 = .ok (.getfield 41, 3) := q_dg114.1.2.1.2.1
theorem dX6_finish_14 : decode cX6_finish 14 = .ok (.ifCond .eq 24, 3) := q_dg114.1.2.1.2.2
theorem dX6_finish_17 : decode cX6_finish 17 = .ok (.aload_n 0, 1) := q_dg114.1.2.2.1
theorem dX6_finish_18 : decode cX6_finish 18 = .ok (.aload_n 1, 1) := q_dg114.1.2.2.2.1
theorem dX6_finish_19 : decode cX6_finish 19 = .ok (.aload_n 0, 1) := q_dg114.1.2.2.2.2
theorem dX6_finish_20 : decode cX6_finish 20 = .ok (.getfield 31, 3) := q_dg114.2.1.1.1
theorem dX6_finish_23 : decode cX6_finish 23 = .ok (.aload_n 0, 1) := q_dg114.2.1.1.2.1
theorem dX6_finish_24 : decode cX6_finish 24 = .ok (.getfield 15, 3) := q_dg114.2.1.1.2.2
theorem dX6_finish_27 : decode cX6_finish 27 = .ok (.bipush 32, 2) := q_dg114.2.1.2.1
theorem dX6_finish_29 : decode cX6_finish 29 = .ok (.ior, 1) := q_dg114.2.1.2.2.1
theorem dX6_finish_30 : decode cX6_finish 30 = .ok (.aload_n 0, 1) := q_dg114.2.1.2.2.2
theorem dX6_finish_31 : decode cX6_finish 31 = .ok (.getfield 41, 3) := q_dg114.2.2.1.1
theorem dX6_finish_34 : decode cX6_finish 34 = .ok (.invokevirtual 127, 3) := q_dg114.2.2.1.2.1
theorem dX6_finish_37 : decode cX6_finish 37 = .ok (.return_, 1) := q_dg114.2.2.1.2.2
theorem dX6_finish_38 : decode cX6_finish 38 = .ok (.aload_n 0, 1) := q_dg114.2.2.2.1
theorem dX6_finish_39 : decode cX6_finish 39 = .ok (.getfield 18, 3) := q_dg114.2.2.2.2.1
theorem dX6_finish_42 : decode cX6_finish 42 = .ok (.aload_n 0, 1) := q_dg114.2.2.2.2.2
theorem q_dg115 : ((((decode cX6_finish 43 = .ok (.getfield 50, 3)) ∧ ((decode cX6_finish 46 = .ok (.bipush 15, 2)) ∧ (decode cX6_finish 48 = .ok (.iand, 1)))) ∧ ((decode cX6_finish 49 = .ok (.aload_n 0, 1)) ∧ ((decode cX6_finish 50 = .ok (.getfield 31, 3)) ∧ (decode cX6_finish 53 = .ok (.iastore, 1))))) ∧ (((decode cX6_finish 54 = .ok (.aload_n 0, 1)) ∧ ((decode cX6_finish 55 = .ok (.dup, 1)) ∧ (decode cX6_finish 56 = .ok (.getfield 50, 3)))) ∧ ((decode cX6_finish 59 = .ok (.iconst 1, 1)) ∧ ((decode cX6_finish 60 = .ok (.iadd, 1)) ∧ (decode cX6_finish 61 = .ok (.putfield 50, 3)))))) ∧ ((((decode cX6_finish 64 = .ok (.aload_n 1, 1)) ∧ ((decode cX6_finish 65 = .ok (.aload_n 0, 1)) ∧ (decode cX6_finish 66 = .ok (.getfield 31, 3)))) ∧ ((decode cX6_finish 69 = .ok (.invokevirtual 81, 3)) ∧ ((decode cX6_finish 72 = .ok (.istore_n 2, 1)) ∧ (decode cX6_finish 73 = .ok (.iload_n 2, 1))))) ∧ (((decode cX6_finish 74 = .ok (.invokestatic 84, 3)) ∧ ((decode cX6_finish 77 = .ok (.istore_n 3, 1)) ∧ (decode cX6_finish 78 = .ok (.iload_n 2, 1)))) ∧ ((decode cX6_finish 79 = .ok (.bipush 7, 2)) ∧ ((decode cX6_finish 81 = .ok (.iand, 1)) ∧ (decode cX6_finish 82 = .ok (.istore 4, 2)))))) := by decide +kernel
theorem dX6_finish_43 : decode cX6_finish 43 = .ok (.getfield 50, 3) := q_dg115.1.1.1.1
theorem dX6_finish_46 : decode cX6_finish 46 = .ok (.bipush 15, 2) := q_dg115.1.1.1.2.1
theorem dX6_finish_48 : decode cX6_finish 48 = .ok (.iand, 1) := q_dg115.1.1.1.2.2
theorem dX6_finish_49 : decode cX6_finish 49 = .ok (.aload_n 0, 1) := q_dg115.1.1.2.1
theorem dX6_finish_50 : decode cX6_finish 50 = .ok (.getfield 31, 3) := q_dg115.1.1.2.2.1
theorem dX6_finish_53 : decode cX6_finish 53 = .ok (.iastore, 1) := q_dg115.1.1.2.2.2
theorem dX6_finish_54 : decode cX6_finish 54 = .ok (.aload_n 0, 1) := q_dg115.1.2.1.1
theorem dX6_finish_55 : decode cX6_finish 55 = .ok (.dup, 1) := q_dg115.1.2.1.2.1
theorem dX6_finish_56 : decode cX6_finish 56 = .ok (.getfield 50, 3) := q_dg115.1.2.1.2.2
theorem dX6_finish_59 : decode cX6_finish 59 = .ok (.iconst 1, 1) := q_dg115.1.2.2.1
theorem dX6_finish_60 : decode cX6_finish 60 = .ok (.iadd, 1) := q_dg115.1.2.2.2.1
theorem dX6_finish_61 : decode cX6_finish 61 = .ok (.putfield 50, 3) := q_dg115.1.2.2.2.2
theorem dX6_finish_64 : decode cX6_finish 64 = .ok (.aload_n 1, 1) := q_dg115.2.1.1.1
theorem dX6_finish_65 : decode cX6_finish 65 = .ok (.aload_n 0, 1) := q_dg115.2.1.1.2.1
theorem dX6_finish_66 : decode cX6_finish 66 = .ok (.getfield 31, 3) := q_dg115.2.1.1.2.2
theorem dX6_finish_69 : decode cX6_finish 69 = .ok (.invokevirtual 81, 3) := q_dg115.2.1.2.1
theorem dX6_finish_72 : decode cX6_finish 72 = .ok (.istore_n 2, 1) := q_dg115.2.1.2.2.1
theorem dX6_finish_73 : decode cX6_finish 73 = .ok (.iload_n 2, 1) := q_dg115.2.1.2.2.2
theorem dX6_finish_74 : decode cX6_finish 74 = .ok (.invokestatic 84, 3) := q_dg115.2.2.1.1
theorem dX6_finish_77 : decode cX6_finish 77 = .ok (.istore_n 3, 1) := q_dg115.2.2.1.2.1
theorem dX6_finish_78 : decode cX6_finish 78 = .ok (.iload_n 2, 1) := q_dg115.2.2.1.2.2
theorem dX6_finish_79 : decode cX6_finish 79 = .ok (.bipush 7, 2) := q_dg115.2.2.2.1
theorem dX6_finish_81 : decode cX6_finish 81 = .ok (.iand, 1) := q_dg115.2.2.2.2.1
theorem dX6_finish_82 : decode cX6_finish 82 = .ok (.istore 4, 2) := q_dg115.2.2.2.2.2
theorem q_dg116 : ((((decode cX6_finish 84 = .ok (.aload_n 0, 1)) ∧ ((decode cX6_finish 85 = .ok (.iload_n 2, 1)) ∧ (decode cX6_finish 86 = .ok (.invokestatic 131, 3)))) ∧ ((decode cX6_finish 89 = .ok (.invokevirtual 93, 3)) ∧ ((decode cX6_finish 92 = .ok (.istore 5, 2)) ∧ (decode cX6_finish 94 = .ok (.iload_n 2, 1))))) ∧ (((decode cX6_finish 95 = .ok (.sipush 154, 3)) ∧ ((decode cX6_finish 98 = .ok (.if_icmp .ne 24, 3)) ∧ (decode cX6_finish 101 = .ok (.aload_n 0, 1)))) ∧ ((decode cX6_finish 102 = .ok (.aload_n 1, 1)) ∧ ((decode cX6_finish 103 = .ok (.iload 5, 2)) ∧ (decode cX6_finish 105 = .ok (.aload_n 0, 1)))))) ∧ ((((decode cX6_finish 106 = .ok (.getfield 15, 3)) ∧ ((decode cX6_finish 109 = .ok (.bipush 32, 2)) ∧ (decode cX6_finish 111 = .ok (.ior, 1)))) ∧ ((decode cX6_finish 112 = .ok (.bipush 16, 2)) ∧ ((decode cX6_finish 114 = .ok (.ior, 1)) ∧ (decode cX6_finish 115 = .ok (.sipush 3838, 3))))) ∧ (((decode cX6_finish 118 = .ok (.invokevirtual 127, 3)) ∧ ((decode cX6_finish 121 = .ok (.return_, 1)) ∧ (decode cX6_finish 122 = .ok (.iload_n 3, 1)))) ∧ ((decode cX6_finish 123 = .ok (.ifCond .ge 19, 3)) ∧ ((decode cX6_finish 126 = .ok (.iload_n 2, 1)) ∧ (decode cX6_finish 127 = .ok (.sipush 154, 3)))))) := by decide +kernel
theorem dX6_finish_84 : decode cX6_finish 84 = .ok (.aload_n 0, 1) := q_dg116.1.1.1.1
theorem dX6_finish_85 : decode cX6_finish 85 = .ok (.iload_n 2, 1) := q_dg116.1.1.1.2.1
theorem dX6_finish_86 : decode cX6_finish 86 = .ok (.invokestatic 131, 3) := q_dg116.1.1.1.2.2
theorem dX6_finish_89 : decode cX6_finish 89 = .ok (.invokevirtual 93, 3) := q_dg116.1.1.2.1
theorem dX6_finish_92 : decode cX6_finish 92 = .ok (.istore 5, 2) := q_dg116.1.1.2.2.1
theorem dX6_finish_94 : decode cX6_finish 94 = .ok (.iload_n 2, 1) := q_dg116.1.1.2.2.2
theorem dX6_finish_95 : decode cX6_finish 95 = .ok (.sipush 154, 3) := q_dg116.1.2.1.1
theorem dX6_finish_98 : decode cX6_finish 98 = .ok (.if_icmp .ne 24, 3) := q_dg116.1.2.1.2.1
theorem dX6_finish_101 : decode cX6_finish 101 = .ok (.aload_n 0, 1) := q_dg116.1.2.1.2.2
theorem dX6_finish_102 : decode cX6_finish 102 = .ok (.aload_n 1, 1) := q_dg116.1.2.2.1
theorem dX6_finish_103 : decode cX6_finish 103 = .ok (.iload 5, 2) := q_dg116.1.2.2.2.1
theorem dX6_finish_105 : decode cX6_finish 105 = .ok (.aload_n 0, 1) := q_dg116.1.2.2.2.2
theorem dX6_finish_106 : decode cX6_finish 106 = .ok (.getfield 15, 3) := q_dg116.2.1.1.1
theorem dX6_finish_109 : decode cX6_finish 109 = .ok (.bipush 32, 2) := q_dg116.2.1.1.2.1
theorem dX6_finish_111 : decode cX6_finish 111 = .ok (.ior, 1) := q_dg116.2.1.1.2.2
theorem dX6_finish_112 : decode cX6_finish 112 = .ok (.bipush 16, 2) := q_dg116.2.1.2.1
theorem dX6_finish_114 : decode cX6_finish 114 = .ok (.ior, 1) := q_dg116.2.1.2.2.1
theorem dX6_finish_115 : decode cX6_finish 115 = .ok (.sipush 3838, 3) := q_dg116.2.1.2.2.2
theorem dX6_finish_118 : decode cX6_finish 118 = .ok (.invokevirtual 127, 3) := q_dg116.2.2.1.1
theorem dX6_finish_121 : decode cX6_finish 121 = .ok (.return_, 1) := q_dg116.2.2.1.2.1
theorem dX6_finish_122 : decode cX6_finish 122 = .ok (.iload_n 3, 1) := q_dg116.2.2.1.2.2
theorem dX6_finish_123 : decode cX6_finish 123 = .ok (.ifCond .ge 19, 3) := q_dg116.2.2.2.1
theorem dX6_finish_126 : decode cX6_finish 126 = .ok (.iload_n 2, 1) := q_dg116.2.2.2.2.1
theorem dX6_finish_127 : decode cX6_finish 127 = .ok (.sipush 154, 3) := q_dg116.2.2.2.2.2
theorem q_dg117 : ((((decode cX6_finish 130 = .ok (.if_icmp .ge 12, 3)) ∧ ((decode cX6_finish 133 = .ok (.aload_n 0, 1)) ∧ (decode cX6_finish 134 = .ok (.aload_n 1, 1)))) ∧ ((decode cX6_finish 135 = .ok (.iload_n 2, 1)) ∧ ((decode cX6_finish 136 = .ok (.invokevirtual 134, 3)) ∧ (decode cX6_finish 139 = .ok (.goto 81, 3))))) ∧ (((decode cX6_finish 142 = .ok (.iload_n 3, 1)) ∧ ((decode cX6_finish 143 = .ok (.ifCond .ge 16, 3)) ∧ (decode cX6_finish 146 = .ok (.aload_n 0, 1)))) ∧ ((decode cX6_finish 147 = .ok (.aload_n 1, 1)) ∧ ((decode cX6_finish 148 = .ok (.iload_n 2, 1)) ∧ (decode cX6_finish 149 = .ok (.iload 5, 2)))))) ∧ ((((decode cX6_finish 151 = .ok (.invokevirtual 138, 3)) ∧ ((decode cX6_finish 154 = .ok (.istore 5, 2)) ∧ (decode cX6_finish 156 = .ok (.goto 64, 3)))) ∧ ((decode cX6_finish 159 = .ok (.iload 4, 2)) ∧ ((decode cX6_finish 161 = .ok (.ifCond .ne 20, 3)) ∧ (decode cX6_finish 164 = .ok (.aload_n 0, 1))))) ∧ (((decode cX6_finish 165 = .ok (.iload_n 3, 1)) ∧ ((decode cX6_finish 166 = .ok (.aload_n 1, 1)) ∧ (decode cX6_finish 167 = .ok (.aload_n 0, 1)))) ∧ ((decode cX6_finish 168 = .ok (.iconst 1, 1)) ∧ ((decode cX6_finish 169 = .ok (.invokevirtual 93, 3)) ∧ (decode cX6_finish 172 = .ok (.invokevirtual 81, 3)))))) := by decide +kernel
theorem dX6_finish_130 : decode cX6_finish 130 = .ok (.if_icmp .ge 12, 3) := q_dg117.1.1.1.1
theorem dX6_finish_133 : decode cX6_finish 133 = .ok (.aload_n 0, 1) := q_dg117.1.1.1.2.1
theorem dX6_finish_134 : decode cX6_finish 134 = .ok (.aload_n 1, 1) := q_dg117.1.1.1.2.2
theorem dX6_finish_135 : decode cX6_finish 135 = .ok (.iload_n 2, 1) := q_dg117.1.1.2.1
theorem dX6_finish_136 : decode cX6_finish 136 = .ok (.invokevirtual 134, 3) := q_dg117.1.1.2.2.1
theorem dX6_finish_139 : decode cX6_finish 139 = .ok (.goto 81, 3) := q_dg117.1.1.2.2.2
theorem dX6_finish_142 : decode cX6_finish 142 = .ok (.iload_n 3, 1) := q_dg117.1.2.1.1
theorem dX6_finish_143 : decode cX6_finish 143 = .ok (.ifCond .ge 16, 3) := q_dg117.1.2.1.2.1
theorem dX6_finish_146 : decode cX6_finish 146 = .ok (.aload_n 0, 1) := q_dg117.1.2.1.2.2
theorem dX6_finish_147 : decode cX6_finish 147 = .ok (.aload_n 1, 1) := q_dg117.1.2.2.1
theorem dX6_finish_148 : decode cX6_finish 148 = .ok (.iload_n 2, 1) := q_dg117.1.2.2.2.1
theorem dX6_finish_149 : decode cX6_finish 149 = .ok (.iload 5, 2) := q_dg117.1.2.2.2.2
theorem dX6_finish_151 : decode cX6_finish 151 = .ok (.invokevirtual 138, 3) := q_dg117.2.1.1.1
theorem dX6_finish_154 : decode cX6_finish 154 = .ok (.istore 5, 2) := q_dg117.2.1.1.2.1
theorem dX6_finish_156 : decode cX6_finish 156 = .ok (.goto 64, 3) := q_dg117.2.1.1.2.2
theorem dX6_finish_159 : decode cX6_finish 159 = .ok (.iload 4, 2) := q_dg117.2.1.2.1
theorem dX6_finish_161 : decode cX6_finish 161 = .ok (.ifCond .ne 20, 3) := q_dg117.2.1.2.2.1
theorem dX6_finish_164 : decode cX6_finish 164 = .ok (.aload_n 0, 1) := q_dg117.2.1.2.2.2
theorem dX6_finish_165 : decode cX6_finish 165 = .ok (.iload_n 3, 1) := q_dg117.2.2.1.1
theorem dX6_finish_166 : decode cX6_finish 166 = .ok (.aload_n 1, 1) := q_dg117.2.2.1.2.1
theorem dX6_finish_167 : decode cX6_finish 167 = .ok (.aload_n 0, 1) := q_dg117.2.2.1.2.2
theorem dX6_finish_168 : decode cX6_finish 168 = .ok (.iconst 1, 1) := q_dg117.2.2.2.1
theorem dX6_finish_169 : decode cX6_finish 169 = .ok (.invokevirtual 93, 3) := q_dg117.2.2.2.2.1
theorem dX6_finish_172 : decode cX6_finish 172 = .ok (.invokevirtual 81, 3) := q_dg117.2.2.2.2.2
theorem q_dg118 : ((((decode cX6_finish 175 = .ok (.invokevirtual 142, 3)) ∧ ((decode cX6_finish 178 = .ok (.goto 42, 3)) ∧ (decode cX6_finish 181 = .ok (.iload_n 3, 1)))) ∧ ((decode cX6_finish 182 = .ok (.invokestatic 110, 3)) ∧ ((decode cX6_finish 185 = .ok (.ifCond .eq 19, 3)) ∧ (decode cX6_finish 188 = .ok (.aload_n 0, 1))))) ∧ (((decode cX6_finish 189 = .ok (.aload_n 1, 1)) ∧ ((decode cX6_finish 190 = .ok (.iload_n 3, 1)) ∧ (decode cX6_finish 191 = .ok (.aload_n 0, 1)))) ∧ ((decode cX6_finish 192 = .ok (.aload_n 1, 1)) ∧ ((decode cX6_finish 193 = .ok (.iload 4, 2)) ∧ (decode cX6_finish 195 = .ok (.invokevirtual 146, 3)))))) ∧ ((((decode cX6_finish 198 = .ok (.invokevirtual 149, 3)) ∧ ((decode cX6_finish 201 = .ok (.goto 19, 3)) ∧ (decode cX6_finish 204 = .ok (.aload_n 0, 1)))) ∧ ((decode cX6_finish 205 = .ok (.iload_n 3, 1)) ∧ ((decode cX6_finish 206 = .ok (.aload_n 1, 1)) ∧ (decode cX6_finish 207 = .ok (.aload_n 0, 1))))) ∧ (((decode cX6_finish 208 = .ok (.aload_n 1, 1)) ∧ ((decode cX6_finish 209 = .ok (.iload 4, 2)) ∧ (decode cX6_finish 211 = .ok (.invokevirtual 146, 3)))) ∧ ((decode cX6_finish 214 = .ok (.invokevirtual 153, 3)) ∧ ((decode cX6_finish 217 = .ok (.invokevirtual 142, 3)) ∧ (decode cX6_finish 220 = .ok (.aload_n 0, 1)))))) := by decide +kernel
theorem dX6_finish_175 : decode cX6_finish 175 = .ok (.invokevirtual 142, 3) := q_dg118.1.1.1.1
theorem dX6_finish_178 : decode cX6_finish 178 = .ok (.goto 42, 3) := q_dg118.1.1.1.2.1
theorem dX6_finish_181 : decode cX6_finish 181 = .ok (.iload_n 3, 1) := q_dg118.1.1.1.2.2
theorem dX6_finish_182 : decode cX6_finish 182 = .ok (.invokestatic 110, 3) := q_dg118.1.1.2.1
theorem dX6_finish_185 : decode cX6_finish 185 = .ok (.ifCond .eq 19, 3) := q_dg118.1.1.2.2.1
theorem dX6_finish_188 : decode cX6_finish 188 = .ok (.aload_n 0, 1) := q_dg118.1.1.2.2.2
theorem dX6_finish_189 : decode cX6_finish 189 = .ok (.aload_n 1, 1) := q_dg118.1.2.1.1
theorem dX6_finish_190 : decode cX6_finish 190 = .ok (.iload_n 3, 1) := q_dg118.1.2.1.2.1
theorem dX6_finish_191 : decode cX6_finish 191 = .ok (.aload_n 0, 1) := q_dg118.1.2.1.2.2
theorem dX6_finish_192 : decode cX6_finish 192 = .ok (.aload_n 1, 1) := q_dg118.1.2.2.1
theorem dX6_finish_193 : decode cX6_finish 193 = .ok (.iload 4, 2) := q_dg118.1.2.2.2.1
theorem dX6_finish_195 : decode cX6_finish 195 = .ok (.invokevirtual 146, 3) := q_dg118.1.2.2.2.2
theorem dX6_finish_198 : decode cX6_finish 198 = .ok (.invokevirtual 149, 3) := q_dg118.2.1.1.1
theorem dX6_finish_201 : decode cX6_finish 201 = .ok (.goto 19, 3) := q_dg118.2.1.1.2.1
theorem dX6_finish_204 : decode cX6_finish 204 = .ok (.aload_n 0, 1) := q_dg118.2.1.1.2.2
theorem dX6_finish_205 : decode cX6_finish 205 = .ok (.iload_n 3, 1) := q_dg118.2.1.2.1
theorem dX6_finish_206 : decode cX6_finish 206 = .ok (.aload_n 1, 1) := q_dg118.2.1.2.2.1
theorem dX6_finish_207 : decode cX6_finish 207 = .ok (.aload_n 0, 1) := q_dg118.2.1.2.2.2
theorem dX6_finish_208 : decode cX6_finish 208 = .ok (.aload_n 1, 1) := q_dg118.2.2.1.1
theorem dX6_finish_209 : decode cX6_finish 209 = .ok (.iload 4, 2) := q_dg118.2.2.1.2.1
theorem dX6_finish_211 : decode cX6_finish 211 = .ok (.invokevirtual 146, 3) := q_dg118.2.2.1.2.2
theorem dX6_finish_214 : decode cX6_finish 214 = .ok (.invokevirtual 153, 3) := q_dg118.2.2.2.1
theorem dX6_finish_217 : decode cX6_finish 217 = .ok (.invokevirtual 142, 3) := q_dg118.2.2.2.2.1
theorem dX6_finish_220 : decode cX6_finish 220 = .ok (.aload_n 0, 1) := q_dg118.2.2.2.2.2
theorem q_dg119 : (decode cX6_finish 221 = .ok (.iload 5, 2)) ∧ ((decode cX6_finish 223 = .ok (.putfield 31, 3)) ∧ (decode cX6_finish 226 = .ok (.return_, 1))) := by decide +kernel
theorem dX6_finish_221 : decode cX6_finish 221 = .ok (.iload 5, 2) := q_dg119.1
theorem dX6_finish_223 : decode cX6_finish 223 = .ok (.putfield 31, 3) := q_dg119.2.1
theorem dX6_finish_226 : decode cX6_finish 226 = .ok (.return_, 1) := q_dg119.2.2
theorem q_dg120 : ((((decode cX6_indexOf 0 = .ok (.iload_n 1, 1)) ∧ (decode cX6_indexOf 1 = .ok (.iconst 4, 1))) ∧ ((decode cX6_indexOf 2 = .ok (.if_icmp .ne 8, 3)) ∧ (decode cX6_indexOf 5 = .ok (.aload_n 0, 1)))) ∧ (((decode cX6_indexOf 6 = .ok (.getfield 25, 3)) ∧ (decode cX6_indexOf 9 = .ok (.ireturn, 1))) ∧ ((decode cX6_indexOf 10 = .ok (.iload_n 1, 1)) ∧ (decode cX6_indexOf 11 = .ok (.iconst 5, 1))))) ∧ ((((decode cX6_indexOf 12 = .ok (.if_icmp .eq 9, 3)) ∧ (decode cX6_indexOf 15 = .ok (.iload_n 1, 1))) ∧ ((decode cX6_indexOf 16 = .ok (.bipush 6, 2)) ∧ (decode cX6_indexOf 18 = .ok (.if_icmp .ne 10, 3)))) ∧ (((decode cX6_indexOf 21 = .ok (.aload_n 0, 1)) ∧ (decode cX6_indexOf 22 = .ok (.getfield 28, 3))) ∧ ((decode cX6_indexOf 25 = .ok (.goto 4, 3)) ∧ ((decode cX6_indexOf 28 = .ok (.iconst 0, 1)) ∧ (decode cX6_indexOf 29 = .ok (.ireturn, 1)))))) := by decide +kernel
theorem dX6_indexOf_0 : decode cX6_indexOf 0 = .ok (.iload_n 1, 1) := q_dg120.1.1.1.1
theorem dX6_indexOf_1 : decode cX6_indexOf 1 = .ok (.iconst 4, 1) := q_dg120.1.1.1.2
theorem dX6_indexOf_2 : decode cX6_indexOf 2 = .ok (.if_icmp .ne 8, 3) := q_dg120.1.1.2.1
theorem dX6_indexOf_5 : decode cX6_indexOf 5 = .ok (.aload_n 0, 1) := q_dg120.1.1.2.2
theorem dX6_indexOf_6 : decode cX6_indexOf 6 = .ok (.getfield 25, 3) := q_dg120.1.2.1.1
theorem dX6_indexOf_9 : decode cX6_indexOf 9 = .ok (.ireturn, 1) := q_dg120.1.2.1.2
theorem dX6_indexOf_10 : decode cX6_indexOf 10 = .ok (.iload_n 1, 1) := q_dg120.1.2.2.1
theorem dX6_indexOf_11 : decode cX6_indexOf 11 = .ok (.iconst 5, 1) := q_dg120.1.2.2.2
theorem dX6_indexOf_12 : decode cX6_indexOf 12 = .ok (.if_icmp .eq 9, 3) := q_dg120.2.1.1.1
theorem dX6_indexOf_15 : decode cX6_indexOf 15 = .ok (.iload_n 1, 1) := q_dg120.2.1.1.2
theorem dX6_indexOf_16 : decode cX6_indexOf 16 = .ok (.bipush 6, 2) := q_dg120.2.1.2.1
theorem dX6_indexOf_18 : decode cX6_indexOf 18 = .ok (.if_icmp .ne 10, 3) := q_dg120.2.1.2.2
theorem dX6_indexOf_21 : decode cX6_indexOf 21 = .ok (.aload_n 0, 1) := q_dg120.2.2.1.1
theorem dX6_indexOf_22 : decode cX6_indexOf 22 = .ok (.getfield 28, 3) := q_dg120.2.2.1.2
theorem dX6_indexOf_25 : decode cX6_indexOf 25 = .ok (.goto 4, 3) := q_dg120.2.2.2.1
theorem dX6_indexOf_28 : decode cX6_indexOf 28 = .ok (.iconst 0, 1) := q_dg120.2.2.2.2.1
theorem dX6_indexOf_29 : decode cX6_indexOf 29 = .ok (.ireturn, 1) := q_dg120.2.2.2.2.2
theorem q_dg121 : (((decode cX6_addressOf 0 = .ok (.aload_n 0, 1)) ∧ (decode cX6_addressOf 1 = .ok (.aload_n 1, 1))) ∧ ((decode cX6_addressOf 2 = .ok (.iload_n 2, 1)) ∧ ((decode cX6_addressOf 3 = .ok (.invokevirtual 103, 3)) ∧ (decode cX6_addressOf 6 = .ok (.aload_n 0, 1))))) ∧ (((decode cX6_addressOf 7 = .ok (.iload_n 2, 1)) ∧ ((decode cX6_addressOf 8 = .ok (.invokevirtual 107, 3)) ∧ (decode cX6_addressOf 11 = .ok (.iadd, 1)))) ∧ ((decode cX6_addressOf 12 = .ok (.sipush 4095, 3)) ∧ ((decode cX6_addressOf 15 = .ok (.iand, 1)) ∧ (decode cX6_addressOf 16 = .ok (.ireturn, 1))))) := by decide +kernel
theorem dX6_addressOf_0 : decode cX6_addressOf 0 = .ok (.aload_n 0, 1) := q_dg121.1.1.1
theorem dX6_addressOf_1 : decode cX6_addressOf 1 = .ok (.aload_n 1, 1) := q_dg121.1.1.2
theorem dX6_addressOf_2 : decode cX6_addressOf 2 = .ok (.iload_n 2, 1) := q_dg121.1.2.1
theorem dX6_addressOf_3 : decode cX6_addressOf 3 = .ok (.invokevirtual 103, 3) := q_dg121.1.2.2.1
theorem dX6_addressOf_6 : decode cX6_addressOf 6 = .ok (.aload_n 0, 1) := q_dg121.1.2.2.2
theorem dX6_addressOf_7 : decode cX6_addressOf 7 = .ok (.iload_n 2, 1) := q_dg121.2.1.1
theorem dX6_addressOf_8 : decode cX6_addressOf 8 = .ok (.invokevirtual 107, 3) := q_dg121.2.1.2.1
theorem dX6_addressOf_11 : decode cX6_addressOf 11 = .ok (.iadd, 1) := q_dg121.2.1.2.2
theorem dX6_addressOf_12 : decode cX6_addressOf 12 = .ok (.sipush 4095, 3) := q_dg121.2.2.1
theorem dX6_addressOf_15 : decode cX6_addressOf 15 = .ok (.iand, 1) := q_dg121.2.2.2.1
theorem dX6_addressOf_16 : decode cX6_addressOf 16 = .ok (.ireturn, 1) := q_dg121.2.2.2.2
theorem q_dg122 : ((((decode cX6_baseOf 0 = .ok (.aload_n 1, 1)) ∧ ((decode cX6_baseOf 1 = .ok (.aload_n 0, 1)) ∧ (decode cX6_baseOf 2 = .ok (.iconst 1, 1)))) ∧ ((decode cX6_baseOf 3 = .ok (.invokevirtual 93, 3)) ∧ ((decode cX6_baseOf 6 = .ok (.invokevirtual 81, 3)) ∧ (decode cX6_baseOf 9 = .ok (.istore_n 3, 1))))) ∧ (((decode cX6_baseOf 10 = .ok (.iload_n 2, 1)) ∧ ((decode cX6_baseOf 11 = .ok (.iconst 1, 1)) ∧ (decode cX6_baseOf 12 = .ok (.if_icmp .ne 5, 3)))) ∧ ((decode cX6_baseOf 15 = .ok (.iload_n 3, 1)) ∧ ((decode cX6_baseOf 16 = .ok (.ireturn, 1)) ∧ (decode cX6_baseOf 17 = .ok (.iload_n 2, 1)))))) ∧ ((((decode cX6_baseOf 18 = .ok (.iconst 2, 1)) ∧ ((decode cX6_baseOf 19 = .ok (.if_icmp .ne 14, 3)) ∧ (decode cX6_baseOf 22 = .ok (.iload_n 3, 1)))) ∧ ((decode cX6_baseOf 23 = .ok (.aload_n 0, 1)) ∧ ((decode cX6_baseOf 24 = .ok (.getfield 25, 3)) ∧ (decode cX6_baseOf 27 = .ok (.iadd, 1))))) ∧ (((decode cX6_baseOf 28 = .ok (.sipush 255, 3)) ∧ ((decode cX6_baseOf 31 = .ok (.iand, 1)) ∧ (decode cX6_baseOf 32 = .ok (.ireturn, 1)))) ∧ ((decode cX6_baseOf 33 = .ok (.iload_n 2, 1)) ∧ ((decode cX6_baseOf 34 = .ok (.bipush 6, 2)) ∧ (decode cX6_baseOf 36 = .ok (.if_icmp .ge 23, 3)))))) := by decide +kernel
theorem dX6_baseOf_0 : decode cX6_baseOf 0 = .ok (.aload_n 1, 1) := q_dg122.1.1.1.1
theorem dX6_baseOf_1 : decode cX6_baseOf 1 = .ok (.aload_n 0, 1) := q_dg122.1.1.1.2.1
theorem dX6_baseOf_2 : decode cX6_baseOf 2 = .ok (.iconst 1, 1) := q_dg122.1.1.1.2.2
theorem dX6_baseOf_3 : decode cX6_baseOf 3 = .ok (.invokevirtual 93, 3) := q_dg122.1.1.2.1
theorem dX6_baseOf_6 : decode cX6_baseOf 6 = .ok (.invokevirtual 81, 3) := q_dg122.1.1.2.2.1
theorem dX6_baseOf_9 : decode cX6_baseOf 9 = .ok (.istore_n 3, 1) := q_dg122.1.1.2.2.2
theorem dX6_baseOf_10 : decode cX6_baseOf 10 = .ok (.iload_n 2, 1) := q_dg122.1.2.1.1
theorem dX6_baseOf_11 : decode cX6_baseOf 11 = .ok (.iconst 1, 1) := q_dg122.1.2.1.2.1
theorem dX6_baseOf_12 : decode cX6_baseOf 12 = .ok (.if_icmp .ne 5, 3) := q_dg122.1.2.1.2.2
theorem dX6_baseOf_15 : decode cX6_baseOf 15 = .ok (.iload_n 3, 1) := q_dg122.1.2.2.1
theorem dX6_baseOf_16 : decode cX6_baseOf 16 = .ok (.ireturn, 1) := q_dg122.1.2.2.2.1
theorem dX6_baseOf_17 : decode cX6_baseOf 17 = .ok (.iload_n 2, 1) := q_dg122.1.2.2.2.2
theorem dX6_baseOf_18 : decode cX6_baseOf 18 = .ok (.iconst 2, 1) := q_dg122.2.1.1.1
theorem dX6_baseOf_19 : decode cX6_baseOf 19 = .ok (.if_icmp .ne 14, 3) := q_dg122.2.1.1.2.1
theorem dX6_baseOf_22 : decode cX6_baseOf 22 = .ok (.iload_n 3, 1) := q_dg122.2.1.1.2.2
theorem dX6_baseOf_23 : decode cX6_baseOf 23 = .ok (.aload_n 0, 1) := q_dg122.2.1.2.1
theorem dX6_baseOf_24 : decode cX6_baseOf 24 = .ok (.getfield 25, 3) := q_dg122.2.1.2.2.1
theorem dX6_baseOf_27 : decode cX6_baseOf 27 = .ok (.iadd, 1) := q_dg122.2.1.2.2.2
theorem dX6_baseOf_28 : decode cX6_baseOf 28 = .ok (.sipush 255, 3) := q_dg122.2.2.1.1
theorem dX6_baseOf_31 : decode cX6_baseOf 31 = .ok (.iand, 1) := q_dg122.2.2.1.2.1
theorem dX6_baseOf_32 : decode cX6_baseOf 32 = .ok (.ireturn, 1) := q_dg122.2.2.1.2.2
theorem dX6_baseOf_33 : decode cX6_baseOf 33 = .ok (.iload_n 2, 1) := q_dg122.2.2.2.1
theorem dX6_baseOf_34 : decode cX6_baseOf 34 = .ok (.bipush 6, 2) := q_dg122.2.2.2.2.1
theorem dX6_baseOf_36 : decode cX6_baseOf 36 = .ok (.if_icmp .ge 23, 3) := q_dg122.2.2.2.2.2
theorem q_dg123 : ((((decode cX6_baseOf 39 = .ok (.iload_n 3, 1)) ∧ ((decode cX6_baseOf 40 = .ok (.sipush 256, 3)) ∧ (decode cX6_baseOf 43 = .ok (.aload_n 1, 1)))) ∧ ((decode cX6_baseOf 44 = .ok (.aload_n 0, 1)) ∧ ((decode cX6_baseOf 45 = .ok (.iconst 2, 1)) ∧ (decode cX6_baseOf 46 = .ok (.invokevirtual 93, 3))))) ∧ (((decode cX6_baseOf 49 = .ok (.invokevirtual 81, 3)) ∧ ((decode cX6_baseOf 52 = .ok (.imul, 1)) ∧ (decode cX6_baseOf 53 = .ok (.iadd, 1)))) ∧ ((decode cX6_baseOf 54 = .ok (.sipush 4095, 3)) ∧ ((decode cX6_baseOf 57 = .ok (.iand, 1)) ∧ (decode cX6_baseOf 58 = .ok (.ireturn, 1)))))) ∧ ((((decode cX6_baseOf 59 = .ok (.iload_n 2, 1)) ∧ ((decode cX6_baseOf 60 = .ok (.bipush 7, 2)) ∧ (decode cX6_baseOf 62 = .ok (.if_icmp .ne 16, 3)))) ∧ ((decode cX6_baseOf 65 = .ok (.iload_n 3, 1)) ∧ ((decode cX6_baseOf 66 = .ok (.aload_n 0, 1)) ∧ (decode cX6_baseOf 67 = .ok (.getfield 25, 3))))) ∧ (((decode cX6_baseOf 70 = .ok (.iadd, 1)) ∧ ((decode cX6_baseOf 71 = .ok (.sipush 255, 3)) ∧ (decode cX6_baseOf 74 = .ok (.iand, 1)))) ∧ ((decode cX6_baseOf 75 = .ok (.goto 4, 3)) ∧ ((decode cX6_baseOf 78 = .ok (.iload_n 3, 1)) ∧ (decode cX6_baseOf 79 = .ok (.istore 4, 2)))))) := by decide +kernel
theorem dX6_baseOf_39 : decode cX6_baseOf 39 = .ok (.iload_n 3, 1) := q_dg123.1.1.1.1
theorem dX6_baseOf_40 : decode cX6_baseOf 40 = .ok (.sipush 256, 3) := q_dg123.1.1.1.2.1
theorem dX6_baseOf_43 : decode cX6_baseOf 43 = .ok (.aload_n 1, 1) := q_dg123.1.1.1.2.2
theorem dX6_baseOf_44 : decode cX6_baseOf 44 = .ok (.aload_n 0, 1) := q_dg123.1.1.2.1
theorem dX6_baseOf_45 : decode cX6_baseOf 45 = .ok (.iconst 2, 1) := q_dg123.1.1.2.2.1
theorem dX6_baseOf_46 : decode cX6_baseOf 46 = .ok (.invokevirtual 93, 3) := q_dg123.1.1.2.2.2
theorem dX6_baseOf_49 : decode cX6_baseOf 49 = .ok (.invokevirtual 81, 3) := q_dg123.1.2.1.1
theorem dX6_baseOf_52 : decode cX6_baseOf 52 = .ok (.imul, 1) := q_dg123.1.2.1.2.1
theorem dX6_baseOf_53 : decode cX6_baseOf 53 = .ok (.iadd, 1) := q_dg123.1.2.1.2.2
theorem dX6_baseOf_54 : decode cX6_baseOf 54 = .ok (.sipush 4095, 3) := q_dg123.1.2.2.1
theorem dX6_baseOf_57 : decode cX6_baseOf 57 = .ok (.iand, 1) := q_dg123.1.2.2.2.1
theorem dX6_baseOf_58 : decode cX6_baseOf 58 = .ok (.ireturn, 1) := q_dg123.1.2.2.2.2
theorem dX6_baseOf_59 : decode cX6_baseOf 59 = .ok (.iload_n 2, 1) := q_dg123.2.1.1.1
theorem dX6_baseOf_60 : decode cX6_baseOf 60 = .ok (.bipush 7, 2) := q_dg123.2.1.1.2.1
theorem dX6_baseOf_62 : decode cX6_baseOf 62 = .ok (.if_icmp .ne 16, 3) := q_dg123.2.1.1.2.2
theorem dX6_baseOf_65 : decode cX6_baseOf 65 = .ok (.iload_n 3, 1) := q_dg123.2.1.2.1
theorem dX6_baseOf_66 : decode cX6_baseOf 66 = .ok (.aload_n 0, 1) := q_dg123.2.1.2.2.1
theorem dX6_baseOf_67 : decode cX6_baseOf 67 = .ok (.getfield 25, 3) := q_dg123.2.1.2.2.2
theorem dX6_baseOf_70 : decode cX6_baseOf 70 = .ok (.iadd, 1) := q_dg123.2.2.1.1
theorem dX6_baseOf_71 : decode cX6_baseOf 71 = .ok (.sipush 255, 3) := q_dg123.2.2.1.2.1
theorem dX6_baseOf_74 : decode cX6_baseOf 74 = .ok (.iand, 1) := q_dg123.2.2.1.2.2
theorem dX6_baseOf_75 : decode cX6_baseOf 75 = .ok (.goto 4, 3) := q_dg123.2.2.2.1
theorem dX6_baseOf_78 : decode cX6_baseOf 78 = .ok (.iload_n 3, 1) := q_dg123.2.2.2.2.1
theorem dX6_baseOf_79 : decode cX6_baseOf 79 = .ok (.istore 4, 2) := q_dg123.2.2.2.2.2
theorem q_dg124 : ((((decode cX6_baseOf 81 = .ok (.aload_n 1, 1)) ∧ (decode cX6_baseOf 82 = .ok (.iload 4, 2))) ∧ ((decode cX6_baseOf 84 = .ok (.invokevirtual 81, 3)) ∧ (decode cX6_baseOf 87 = .ok (.sipush 256, 3)))) ∧ (((decode cX6_baseOf 90 = .ok (.aload_n 1, 1)) ∧ (decode cX6_baseOf 91 = .ok (.iload 4, 2))) ∧ ((decode cX6_baseOf 93 = .ok (.iconst 1, 1)) ∧ (decode cX6_baseOf 94 = .ok (.iadd, 1))))) ∧ ((((decode cX6_baseOf 95 = .ok (.sipush 255, 3)) ∧ (decode cX6_baseOf 98 = .ok (.iand, 1))) ∧ ((decode cX6_baseOf 99 = .ok (.invokevirtual 81, 3)) ∧ (decode cX6_baseOf 102 = .ok (.imul, 1)))) ∧ (((decode cX6_baseOf 103 = .ok (.iadd, 1)) ∧ (decode cX6_baseOf 104 = .ok (.sipush 4095, 3))) ∧ ((decode cX6_baseOf 107 = .ok (.iand, 1)) ∧ (decode cX6_baseOf 108 = .ok (.ireturn, 1))))) := by decide +kernel
theorem dX6_baseOf_81 : decode cX6_baseOf 81 = .ok (.aload_n 1, 1) := q_dg124.1.1.1.1
theorem dX6_baseOf_82 : decode cX6_baseOf 82 = .ok (.iload 4, 2) := q_dg124.1.1.1.2
theorem dX6_baseOf_84 : decode cX6_baseOf 84 = .ok (.invokevirtual 81, 3) := q_dg124.1.1.2.1
theorem dX6_baseOf_87 : decode cX6_baseOf 87 = .ok (.sipush 256, 3) := q_dg124.1.1.2.2
theorem dX6_baseOf_90 : decode cX6_baseOf 90 = .ok (.aload_n 1, 1) := q_dg124.1.2.1.1
theorem dX6_baseOf_91 : decode cX6_baseOf 91 = .ok (.iload 4, 2) := q_dg124.1.2.1.2
theorem dX6_baseOf_93 : decode cX6_baseOf 93 = .ok (.iconst 1, 1) := q_dg124.1.2.2.1
theorem dX6_baseOf_94 : decode cX6_baseOf 94 = .ok (.iadd, 1) := q_dg124.1.2.2.2
theorem dX6_baseOf_95 : decode cX6_baseOf 95 = .ok (.sipush 255, 3) := q_dg124.2.1.1.1
theorem dX6_baseOf_98 : decode cX6_baseOf 98 = .ok (.iand, 1) := q_dg124.2.1.1.2
theorem dX6_baseOf_99 : decode cX6_baseOf 99 = .ok (.invokevirtual 81, 3) := q_dg124.2.1.2.1
theorem dX6_baseOf_102 : decode cX6_baseOf 102 = .ok (.imul, 1) := q_dg124.2.1.2.2
theorem dX6_baseOf_103 : decode cX6_baseOf 103 = .ok (.iadd, 1) := q_dg124.2.2.1.1
theorem dX6_baseOf_104 : decode cX6_baseOf 104 = .ok (.sipush 4095, 3) := q_dg124.2.2.1.2
theorem dX6_baseOf_107 : decode cX6_baseOf 107 = .ok (.iand, 1) := q_dg124.2.2.2.1
theorem dX6_baseOf_108 : decode cX6_baseOf 108 = .ok (.ireturn, 1) := q_dg124.2.2.2.2
theorem q_dg125 : ((((decode cX6_push 0 = .ok (.aload_n 1, 1)) ∧ (decode cX6_push 1 = .ok (.sipush 256, 3))) ∧ ((decode cX6_push 4 = .ok (.aload_n 0, 1)) ∧ (decode cX6_push 5 = .ok (.getfield 9, 3)))) ∧ (((decode cX6_push 8 = .ok (.iadd, 1)) ∧ (decode cX6_push 9 = .ok (.iload_n 2, 1))) ∧ ((decode cX6_push 10 = .ok (.invokevirtual 156, 3)) ∧ (decode cX6_push 13 = .ok (.aload_n 0, 1))))) ∧ ((((decode cX6_push 14 = .ok (.aload_n 0, 1)) ∧ (decode cX6_push 15 = .ok (.getfield 9, 3))) ∧ ((decode cX6_push 18 = .ok (.iconst 1, 1)) ∧ (decode cX6_push 19 = .ok (.isub, 1)))) ∧ (((decode cX6_push 20 = .ok (.sipush 255, 3)) ∧ (decode cX6_push 23 = .ok (.iand, 1))) ∧ ((decode cX6_push 24 = .ok (.putfield 9, 3)) ∧ (decode cX6_push 27 = .ok (.return_, 1))))) := by decide +kernel
theorem dX6_push_0 : decode cX6_push 0 = .ok (.aload_n 1, 1) := q_dg125.1.1.1.1
theorem dX6_push_1 : decode cX6_push 1 = .ok (.sipush 256, 3) := q_dg125.1.1.1.2
theorem dX6_push_4 : decode cX6_push 4 = .ok (.aload_n 0, 1) := q_dg125.1.1.2.1
theorem dX6_push_5 : decode cX6_push 5 = .ok (.getfield 9, 3) := q_dg125.1.1.2.2
theorem dX6_push_8 : decode cX6_push 8 = .ok (.iadd, 1) := q_dg125.1.2.1.1
theorem dX6_push_9 : decode cX6_push 9 = .ok (.iload_n 2, 1) := q_dg125.1.2.1.2
theorem dX6_push_10 : decode cX6_push 10 = .ok (.invokevirtual 156, 3) := q_dg125.1.2.2.1
theorem dX6_push_13 : decode cX6_push 13 = .ok (.aload_n 0, 1) := q_dg125.1.2.2.2
theorem dX6_push_14 : decode cX6_push 14 = .ok (.aload_n 0, 1) := q_dg125.2.1.1.1
theorem dX6_push_15 : decode cX6_push 15 = .ok (.getfield 9, 3) := q_dg125.2.1.1.2
theorem dX6_push_18 : decode cX6_push 18 = .ok (.iconst 1, 1) := q_dg125.2.1.2.1
theorem dX6_push_19 : decode cX6_push 19 = .ok (.isub, 1) := q_dg125.2.1.2.2
theorem dX6_push_20 : decode cX6_push 20 = .ok (.sipush 255, 3) := q_dg125.2.2.1.1
theorem dX6_push_23 : decode cX6_push 23 = .ok (.iand, 1) := q_dg125.2.2.1.2
theorem dX6_push_24 : decode cX6_push 24 = .ok (.putfield 9, 3) := q_dg125.2.2.2.1
theorem dX6_push_27 : decode cX6_push 27 = .ok (.return_, 1) := q_dg125.2.2.2.2
theorem q_dg126 : ((((decode cX6_pull 0 = .ok (.aload_n 0, 1)) ∧ (decode cX6_pull 1 = .ok (.aload_n 0, 1))) ∧ ((decode cX6_pull 2 = .ok (.getfield 9, 3)) ∧ (decode cX6_pull 5 = .ok (.iconst 1, 1)))) ∧ (((decode cX6_pull 6 = .ok (.iadd, 1)) ∧ (decode cX6_pull 7 = .ok (.sipush 255, 3))) ∧ ((decode cX6_pull 10 = .ok (.iand, 1)) ∧ (decode cX6_pull 11 = .ok (.putfield 9, 3))))) ∧ ((((decode cX6_pull 14 = .ok (.aload_n 1, 1)) ∧ (decode cX6_pull 15 = .ok (.getfield 68, 3))) ∧ ((decode cX6_pull 18 = .ok (.sipush 256, 3)) ∧ (decode cX6_pull 21 = .ok (.aload_n 0, 1)))) ∧ (((decode cX6_pull 22 = .ok (.getfield 9, 3)) ∧ (decode cX6_pull 25 = .ok (.iadd, 1))) ∧ ((decode cX6_pull 26 = .ok (.invokevirtual 159, 3)) ∧ (decode cX6_pull 29 = .ok (.ireturn, 1))))) := by decide +kernel
theorem dX6_pull_0 : decode cX6_pull 0 = .ok (.aload_n 0, 1) := q_dg126.1.1.1.1
theorem dX6_pull_1 : decode cX6_pull 1 = .ok (.aload_n 0, 1) := q_dg126.1.1.1.2
theorem dX6_pull_2 : decode cX6_pull 2 = .ok (.getfield 9, 3) := q_dg126.1.1.2.1
theorem dX6_pull_5 : decode cX6_pull 5 = .ok (.iconst 1, 1) := q_dg126.1.1.2.2
theorem dX6_pull_6 : decode cX6_pull 6 = .ok (.iadd, 1) := q_dg126.1.2.1.1
theorem dX6_pull_7 : decode cX6_pull 7 = .ok (.sipush 255, 3) := q_dg126.1.2.1.2
theorem dX6_pull_10 : decode cX6_pull 10 = .ok (.iand, 1) := q_dg126.1.2.2.1
theorem dX6_pull_11 : decode cX6_pull 11 = .ok (.putfield 9, 3) := q_dg126.1.2.2.2
theorem dX6_pull_14 : decode cX6_pull 14 = .ok (.aload_n 1, 1) := q_dg126.2.1.1.1
theorem dX6_pull_15 : decode cX6_pull 15 = .ok (.getfield 68, 3) := q_dg126.2.1.1.2
theorem dX6_pull_18 : decode cX6_pull 18 = .ok (.sipush 256, 3) := q_dg126.2.1.2.1
theorem dX6_pull_21 : decode cX6_pull 21 = .ok (.aload_n 0, 1) := q_dg126.2.1.2.2
theorem dX6_pull_22 : decode cX6_pull 22 = .ok (.getfield 9, 3) := q_dg126.2.2.1.1
theorem dX6_pull_25 : decode cX6_pull 25 = .ok (.iadd, 1) := q_dg126.2.2.1.2
theorem dX6_pull_26 : decode cX6_pull 26 = .ok (.invokevirtual 159, 3) := q_dg126.2.2.2.1
theorem dX6_pull_29 : decode cX6_pull 29 = .ok (.ireturn, 1) := q_dg126.2.2.2.2
theorem q_dg127 : ((((decode cX6_interrupt 0 = .ok (.aload_n 0, 1)) ∧ ((decode cX6_interrupt 1 = .ok (.aload_n 1, 1)) ∧ (decode cX6_interrupt 2 = .ok (.iload_n 2, 1)))) ∧ ((decode cX6_interrupt 3 = .ok (.bipush 8, 2)) ∧ ((decode cX6_interrupt 5 = .ok (.ishr, 1)) ∧ (decode cX6_interrupt 6 = .ok (.invokevirtual 162, 3))))) ∧ (((decode cX6_interrupt 9 = .ok (.aload_n 0, 1)) ∧ ((decode cX6_interrupt 10 = .ok (.aload_n 1, 1)) ∧ (decode cX6_interrupt 11 = .ok (.iload_n 2, 1)))) ∧ ((decode cX6_interrupt 12 = .ok (.sipush 255, 3)) ∧ ((decode cX6_interrupt 15 = .ok (.iand, 1)) ∧ (decode cX6_interrupt 16 = .ok (.invokevirtual 162, 3)))))) ∧ ((((decode cX6_interrupt 19 = .ok (.aload_n 0, 1)) ∧ ((decode cX6_interrupt 20 = .ok (.aload_n 1, 1)) ∧ (decode cX6_interrupt 21 = .ok (.iload_n 3, 1)))) ∧ ((decode cX6_interrupt 22 = .ok (.invokevirtual 162, 3)) ∧ ((decode cX6_interrupt 25 = .ok (.aload_n 0, 1)) ∧ (decode cX6_interrupt 26 = .ok (.dup, 1))))) ∧ (((decode cX6_interrupt 27 = .ok (.getfield 15, 3)) ∧ ((decode cX6_interrupt 30 = .ok (.iconst 4, 1)) ∧ (decode cX6_interrupt 31 = .ok (.ior, 1)))) ∧ ((decode cX6_interrupt 32 = .ok (.putfield 15, 3)) ∧ ((decode cX6_interrupt 35 = .ok (.aload_n 0, 1)) ∧ (decode cX6_interrupt 36 = .ok (.aload_n 1, 1)))))) := by decide +kernel
theorem dX6_interrupt_0 : decode cX6_interrupt 0 = .ok (.aload_n 0, 1) := q_dg127.1.1.1.1
theorem dX6_interrupt_1 : decode cX6_interrupt 1 = .ok (.aload_n 1, 1) := q_dg127.1.1.1.2.1
theorem dX6_interrupt_2 : decode cX6_interrupt 2 = .ok (.iload_n 2, 1) := q_dg127.1.1.1.2.2
theorem dX6_interrupt_3 : decode cX6_interrupt 3 = .ok (.bipush 8, 2) := q_dg127.1.1.2.1
theorem dX6_interrupt_5 : decode cX6_interrupt 5 = .ok (.ishr, 1) := q_dg127.1.1.2.2.1
theorem dX6_interrupt_6 : decode cX6_interrupt 6 = .ok (.invokevirtual 162, 3) := q_dg127.1.1.2.2.2
theorem dX6_interrupt_9 : decode cX6_interrupt 9 = .ok (.aload_n 0, 1) := q_dg127.1.2.1.1
theorem dX6_interrupt_10 : decode cX6_interrupt 10 = .ok (.aload_n 1, 1) := q_dg127.1.2.1.2.1
theorem dX6_interrupt_11 : decode cX6_interrupt 11 = .ok (.iload_n 2, 1) := q_dg127.1.2.1.2.2
theorem dX6_interrupt_12 : decode cX6_interrupt 12 = .ok (.sipush 255, 3) := q_dg127.1.2.2.1
theorem dX6_interrupt_15 : decode cX6_interrupt 15 = .ok (.iand, 1) := q_dg127.1.2.2.2.1
theorem dX6_interrupt_16 : decode cX6_interrupt 16 = .ok (.invokevirtual 162, 3) := q_dg127.1.2.2.2.2
theorem dX6_interrupt_19 : decode cX6_interrupt 19 = .ok (.aload_n 0, 1) := q_dg127.2.1.1.1
theorem dX6_interrupt_20 : decode cX6_interrupt 20 = .ok (.aload_n 1, 1) := q_dg127.2.1.1.2.1
theorem dX6_interrupt_21 : decode cX6_interrupt 21 = .ok (.iload_n 3, 1) := q_dg127.2.1.1.2.2
theorem dX6_interrupt_22 : decode cX6_interrupt 22 = .ok (.invokevirtual 162, 3) := q_dg127.2.1.2.1
theorem dX6_interrupt_25 : decode cX6_interrupt 25 = .ok (.aload_n 0, 1) := q_dg127.2.1.2.2.1
theorem dX6_interrupt_26 : decode cX6_interrupt 26 = .ok (.dup, 1) := q_dg127.2.1.2.2.2
theorem dX6_interrupt_27 : decode cX6_interrupt 27 = .ok (.getfield 15, 3) := q_dg127.2.2.1.1
theorem dX6_interrupt_30 : decode cX6_interrupt 30 = .ok (.iconst 4, 1) := q_dg127.2.2.1.2.1
theorem dX6_interrupt_31 : decode cX6_interrupt 31 = .ok (.ior, 1) := q_dg127.2.2.1.2.2
theorem dX6_interrupt_32 : decode cX6_interrupt 32 = .ok (.putfield 15, 3) := q_dg127.2.2.2.1
theorem dX6_interrupt_35 : decode cX6_interrupt 35 = .ok (.aload_n 0, 1) := q_dg127.2.2.2.2.1
theorem dX6_interrupt_36 : decode cX6_interrupt 36 = .ok (.aload_n 1, 1) := q_dg127.2.2.2.2.2
theorem q_dg128 : ((decode cX6_interrupt 37 = .ok (.iload 4, 2)) ∧ (decode cX6_interrupt 39 = .ok (.invokevirtual 63, 3))) ∧ ((decode cX6_interrupt 42 = .ok (.putfield 31, 3)) ∧ (decode cX6_interrupt 45 = .ok (.return_, 1))) := by decide +kernel
theorem dX6_interrupt_37 : decode cX6_interrupt 37 = .ok (.iload 4, 2) := q_dg128.1.1
theorem dX6_interrupt_39 : decode cX6_interrupt 39 = .ok (.invokevirtual 63, 3) := q_dg128.1.2
theorem dX6_interrupt_42 : decode cX6_interrupt 42 = .ok (.putfield 31, 3) := q_dg128.2.1
theorem dX6_interrupt_45 : decode cX6_interrupt 45 = .ok (.return_, 1) := q_dg128.2.2
theorem q_dg129 : ((((decode cX6_setFlag 0 = .ok (.aload_n 0, 1)) ∧ (decode cX6_setFlag 1 = .ok (.iload_n 2, 1))) ∧ ((decode cX6_setFlag 2 = .ok (.ifCond .eq 12, 3)) ∧ (decode cX6_setFlag 5 = .ok (.aload_n 0, 1)))) ∧ (((decode cX6_setFlag 6 = .ok (.getfield 15, 3)) ∧ (decode cX6_setFlag 9 = .ok (.iload_n 1, 1))) ∧ ((decode cX6_setFlag 10 = .ok (.ior, 1)) ∧ (decode cX6_setFlag 11 = .ok (.goto 11, 3))))) ∧ ((((decode cX6_setFlag 14 = .ok (.aload_n 0, 1)) ∧ (decode cX6_setFlag 15 = .ok (.getfield 15, 3))) ∧ ((decode cX6_setFlag 18 = .ok (.iload_n 1, 1)) ∧ (decode cX6_setFlag 19 = .ok (.iconst (-1), 1)))) ∧ (((decode cX6_setFlag 20 = .ok (.ixor, 1)) ∧ (decode cX6_setFlag 21 = .ok (.iand, 1))) ∧ ((decode cX6_setFlag 22 = .ok (.putfield 15, 3)) ∧ (decode cX6_setFlag 25 = .ok (.return_, 1))))) := by decide +kernel
theorem dX6_setFlag_0 : decode cX6_setFlag 0 = .ok (.aload_n 0, 1) := q_dg129.1.1.1.1
theorem dX6_setFlag_1 : decode cX6_setFlag 1 = .ok (.iload_n 2, 1) := q_dg129.1.1.1.2
theorem dX6_setFlag_2 : decode cX6_setFlag 2 = .ok (.ifCond .eq 12, 3) := q_dg129.1.1.2.1
theorem dX6_setFlag_5 : decode cX6_setFlag 5 = .ok (.aload_n 0, 1) := q_dg129.1.1.2.2
theorem dX6_setFlag_6 : decode cX6_setFlag 6 = .ok (.getfield 15, 3) := q_dg129.1.2.1.1
theorem dX6_setFlag_9 : decode cX6_setFlag 9 = .ok (.iload_n 1, 1) := q_dg129.1.2.1.2
theorem dX6_setFlag_10 : decode cX6_setFlag 10 = .ok (.ior, 1) := q_dg129.1.2.2.1
theorem dX6_setFlag_11 : decode cX6_setFlag 11 = .ok (.goto 11, 3) := q_dg129.1.2.2.2
theorem dX6_setFlag_14 : decode cX6_setFlag 14 = .ok (.aload_n 0, 1) := q_dg129.2.1.1.1
theorem dX6_setFlag_15 : decode cX6_setFlag 15 = .ok (.getfield 15, 3) := q_dg129.2.1.1.2
theorem dX6_setFlag_18 : decode cX6_setFlag 18 = .ok (.iload_n 1, 1) := q_dg129.2.1.2.1
theorem dX6_setFlag_19 : decode cX6_setFlag 19 = .ok (.iconst (-1), 1) := q_dg129.2.1.2.2
theorem dX6_setFlag_20 : decode cX6_setFlag 20 = .ok (.ixor, 1) := q_dg129.2.2.1.1
theorem dX6_setFlag_21 : decode cX6_setFlag 21 = .ok (.iand, 1) := q_dg129.2.2.1.2
theorem dX6_setFlag_22 : decode cX6_setFlag 22 = .ok (.putfield 15, 3) := q_dg129.2.2.2.1
theorem dX6_setFlag_25 : decode cX6_setFlag 25 = .ok (.return_, 1) := q_dg129.2.2.2.2
theorem q_dg130 : ((((decode cX6_judge 0 = .ok (.aload_n 0, 1)) ∧ (decode cX6_judge 1 = .ok (.aload_n 0, 1))) ∧ ((decode cX6_judge 2 = .ok (.getfield 15, 3)) ∧ ((decode cX6_judge 5 = .ok (.sipush (-131), 3)) ∧ (decode cX6_judge 8 = .ok (.iand, 1))))) ∧ (((decode cX6_judge 9 = .ok (.iload_n 1, 1)) ∧ (decode cX6_judge 10 = .ok (.ifCond .ne 7, 3))) ∧ ((decode cX6_judge 13 = .ok (.iconst 2, 1)) ∧ ((decode cX6_judge 14 = .ok (.goto 4, 3)) ∧ (decode cX6_judge 17 = .ok (.iconst 0, 1)))))) ∧ ((((decode cX6_judge 18 = .ok (.ior, 1)) ∧ (decode cX6_judge 19 = .ok (.iload_n 1, 1))) ∧ ((decode cX6_judge 20 = .ok (.bipush 127, 2)) ∧ ((decode cX6_judge 22 = .ok (.if_icmp .le 9, 3)) ∧ (decode cX6_judge 25 = .ok (.sipush 128, 3))))) ∧ (((decode cX6_judge 28 = .ok (.goto 4, 3)) ∧ ((decode cX6_judge 31 = .ok (.iconst 0, 1)) ∧ (decode cX6_judge 32 = .ok (.ior, 1)))) ∧ ((decode cX6_judge 33 = .ok (.putfield 15, 3)) ∧ ((decode cX6_judge 36 = .ok (.iload_n 1, 1)) ∧ (decode cX6_judge 37 = .ok (.ireturn, 1)))))) := by decide +kernel
theorem dX6_judge_0 : decode cX6_judge 0 = .ok (.aload_n 0, 1) := q_dg130.1.1.1.1
theorem dX6_judge_1 : decode cX6_judge 1 = .ok (.aload_n 0, 1) := q_dg130.1.1.1.2
theorem dX6_judge_2 : decode cX6_judge 2 = .ok (.getfield 15, 3) := q_dg130.1.1.2.1
theorem dX6_judge_5 : decode cX6_judge 5 = .ok (.sipush (-131), 3) := q_dg130.1.1.2.2.1
theorem dX6_judge_8 : decode cX6_judge 8 = .ok (.iand, 1) := q_dg130.1.1.2.2.2
theorem dX6_judge_9 : decode cX6_judge 9 = .ok (.iload_n 1, 1) := q_dg130.1.2.1.1
theorem dX6_judge_10 : decode cX6_judge 10 = .ok (.ifCond .ne 7, 3) := q_dg130.1.2.1.2
theorem dX6_judge_13 : decode cX6_judge 13 = .ok (.iconst 2, 1) := q_dg130.1.2.2.1
theorem dX6_judge_14 : decode cX6_judge 14 = .ok (.goto 4, 3) := q_dg130.1.2.2.2.1
theorem dX6_judge_17 : decode cX6_judge 17 = .ok (.iconst 0, 1) := q_dg130.1.2.2.2.2
theorem dX6_judge_18 : decode cX6_judge 18 = .ok (.ior, 1) := q_dg130.2.1.1.1
theorem dX6_judge_19 : decode cX6_judge 19 = .ok (.iload_n 1, 1) := q_dg130.2.1.1.2
theorem dX6_judge_20 : decode cX6_judge 20 = .ok (.bipush 127, 2) := q_dg130.2.1.2.1
theorem dX6_judge_22 : decode cX6_judge 22 = .ok (.if_icmp .le 9, 3) := q_dg130.2.1.2.2.1
theorem dX6_judge_25 : decode cX6_judge 25 = .ok (.sipush 128, 3) := q_dg130.2.1.2.2.2
theorem dX6_judge_28 : decode cX6_judge 28 = .ok (.goto 4, 3) := q_dg130.2.2.1.1
theorem dX6_judge_31 : decode cX6_judge 31 = .ok (.iconst 0, 1) := q_dg130.2.2.1.2.1
theorem dX6_judge_32 : decode cX6_judge 32 = .ok (.ior, 1) := q_dg130.2.2.1.2.2
theorem dX6_judge_33 : decode cX6_judge 33 = .ok (.putfield 15, 3) := q_dg130.2.2.2.1
theorem dX6_judge_36 : decode cX6_judge 36 = .ok (.iload_n 1, 1) := q_dg130.2.2.2.2.1
theorem dX6_judge_37 : decode cX6_judge 37 = .ok (.ireturn, 1) := q_dg130.2.2.2.2.2
theorem q_dg131 : ((((decode cX6_match 0 = .ok (.aload_n 0, 1)) ∧ (decode cX6_match 1 = .ok (.iconst 1, 1))) ∧ ((decode cX6_match 2 = .ok (.iload_n 1, 1)) ∧ (decode cX6_match 3 = .ok (.iload_n 2, 1)))) ∧ (((decode cX6_match 4 = .ok (.if_icmp .lt 7, 3)) ∧ (decode cX6_match 7 = .ok (.iconst 1, 1))) ∧ ((decode cX6_match 8 = .ok (.goto 4, 3)) ∧ ((decode cX6_match 11 = .ok (.iconst 0, 1)) ∧ (decode cX6_match 12 = .ok (.invokevirtual 165, 3)))))) ∧ ((((decode cX6_match 15 = .ok (.aload_n 0, 1)) ∧ (decode cX6_match 16 = .ok (.iload_n 1, 1))) ∧ ((decode cX6_match 17 = .ok (.iload_n 2, 1)) ∧ (decode cX6_match 18 = .ok (.isub, 1)))) ∧ (((decode cX6_match 19 = .ok (.sipush 255, 3)) ∧ (decode cX6_match 22 = .ok (.iand, 1))) ∧ ((decode cX6_match 23 = .ok (.invokevirtual 169, 3)) ∧ ((decode cX6_match 26 = .ok (.pop, 1)) ∧ (decode cX6_match 27 = .ok (.return_, 1)))))) := by decide +kernel
theorem dX6_match_0 : decode cX6_match 0 = .ok (.aload_n 0, 1) := q_dg131.1.1.1.1
theorem dX6_match_1 : decode cX6_match 1 = .ok (.iconst 1, 1) := q_dg131.1.1.1.2
theorem dX6_match_2 : decode cX6_match 2 = .ok (.iload_n 1, 1) := q_dg131.1.1.2.1
theorem dX6_match_3 : decode cX6_match 3 = .ok (.iload_n 2, 1) := q_dg131.1.1.2.2
theorem dX6_match_4 : decode cX6_match 4 = .ok (.if_icmp .lt 7, 3) := q_dg131.1.2.1.1
theorem dX6_match_7 : decode cX6_match 7 = .ok (.iconst 1, 1) := q_dg131.1.2.1.2
theorem dX6_match_8 : decode cX6_match 8 = .ok (.goto 4, 3) := q_dg131.1.2.2.1
theorem dX6_match_11 : decode cX6_match 11 = .ok (.iconst 0, 1) := q_dg131.1.2.2.2.1
theorem dX6_match_12 : decode cX6_match 12 = .ok (.invokevirtual 165, 3) := q_dg131.1.2.2.2.2
theorem dX6_match_15 : decode cX6_match 15 = .ok (.aload_n 0, 1) := q_dg131.2.1.1.1
theorem dX6_match_16 : decode cX6_match 16 = .ok (.iload_n 1, 1) := q_dg131.2.1.1.2
theorem dX6_match_17 : decode cX6_match 17 = .ok (.iload_n 2, 1) := q_dg131.2.1.2.1
theorem dX6_match_18 : decode cX6_match 18 = .ok (.isub, 1) := q_dg131.2.1.2.2
theorem dX6_match_19 : decode cX6_match 19 = .ok (.sipush 255, 3) := q_dg131.2.2.1.1
theorem dX6_match_22 : decode cX6_match 22 = .ok (.iand, 1) := q_dg131.2.2.1.2
theorem dX6_match_23 : decode cX6_match 23 = .ok (.invokevirtual 169, 3) := q_dg131.2.2.2.1
theorem dX6_match_26 : decode cX6_match 26 = .ok (.pop, 1) := q_dg131.2.2.2.2.1
theorem dX6_match_27 : decode cX6_match 27 = .ok (.return_, 1) := q_dg131.2.2.2.2.2
theorem q_dg132 : ((((decode cX6_calculate 0 = .ok (.iload_n 1, 1)) ∧ ((decode cX6_calculate 1 = .ok (.tableswitch 315 0 20 #[99, 111, 123, 315, 315, 315, 135, 143, 151, 168, 185, 202, 214, 226, 315, 315, 238, 315, 315, 315, 255], 99)) ∧ (decode cX6_calculate 100 = .ok (.aload_n 0, 1)))) ∧ ((decode cX6_calculate 101 = .ok (.aload_n 0, 1)) ∧ ((decode cX6_calculate 102 = .ok (.iload_n 2, 1)) ∧ (decode cX6_calculate 103 = .ok (.invokevirtual 169, 3))))) ∧ (((decode cX6_calculate 106 = .ok (.putfield 22, 3)) ∧ ((decode cX6_calculate 109 = .ok (.goto 207, 3)) ∧ (decode cX6_calculate 112 = .ok (.aload_n 0, 1)))) ∧ ((decode cX6_calculate 113 = .ok (.aload_n 0, 1)) ∧ ((decode cX6_calculate 114 = .ok (.iload_n 2, 1)) ∧ (decode cX6_calculate 115 = .ok (.invokevirtual 169, 3)))))) ∧ ((((decode cX6_calculate 118 = .ok (.putfield 25, 3)) ∧ ((decode cX6_calculate 121 = .ok (.goto 195, 3)) ∧ (decode cX6_calculate 124 = .ok (.aload_n 0, 1)))) ∧ ((decode cX6_calculate 125 = .ok (.aload_n 0, 1)) ∧ ((decode cX6_calculate 126 = .ok (.iload_n 2, 1)) ∧ (decode cX6_calculate 127 = .ok (.invokevirtual 169, 3))))) ∧ (((decode cX6_calculate 130 = .ok (.putfield 28, 3)) ∧ ((decode cX6_calculate 133 = .ok (.goto 183, 3)) ∧ (decode cX6_calculate 136 = .ok (.aload_n 0, 1)))) ∧ ((decode cX6_calculate 137 = .ok (.iload_n 2, 1)) ∧ ((decode cX6_calculate 138 = .ok (.invokevirtual 172, 3)) ∧ (decode cX6_calculate 141 = .ok (.goto 175, 3)))))) := by decide +kernel
theorem dX6_calculate_0 : decode cX6_calculate 0 = .ok (.iload_n 1, 1) := q_dg132.1.1.1.1
theorem dX6_calculate_1 : decode cX6_calculate 1 = .ok (.tableswitch 315 0 20 #[99, 111, 123, 315, 315, 315, 135, 143, 151, 168, 185, 202, 214, 226, 315, 315, 238, 315, 315, 315, 255], 99) := q_dg132.1.1.1.2.1
theorem dX6_calculate_100 : decode cX6_calculate 100 = .ok (.aload_n 0, 1) := q_dg132.1.1.1.2.2
theorem dX6_calculate_101 : decode cX6_calculate 101 = .ok (.aload_n 0, 1) := q_dg132.1.1.2.1
theorem dX6_calculate_102 : decode cX6_calculate 102 = .ok (.iload_n 2, 1) := q_dg132.1.1.2.2.1
theorem dX6_calculate_103 : decode cX6_calculate 103 = .ok (.invokevirtual 169, 3) := q_dg132.1.1.2.2.2
theorem dX6_calculate_106 : decode cX6_calculate 106 = .ok (.putfield 22, 3) := q_dg132.1.2.1.1
theorem dX6_calculate_109 : decode cX6_calculate 109 = .ok (.goto 207, 3) := q_dg132.1.2.1.2.1
theorem dX6_calculate_112 : decode cX6_calculate 112 = .ok (.aload_n 0, 1) := q_dg132.1.2.1.2.2
theorem dX6_calculate_113 : decode cX6_calculate 113 = .ok (.aload_n 0, 1) := q_dg132.1.2.2.1
theorem dX6_calculate_114 : decode cX6_calculate 114 = .ok (.iload_n 2, 1) := q_dg132.1.2.2.2.1
theorem dX6_calculate_115 : decode cX6_calculate 115 = .ok (.invokevirtual 169, 3) := q_dg132.1.2.2.2.2
theorem dX6_calculate_118 : decode cX6_calculate 118 = .ok (.putfield 25, 3) := q_dg132.2.1.1.1
theorem dX6_calculate_121 : decode cX6_calculate 121 = .ok (.goto 195, 3) := q_dg132.2.1.1.2.1
theorem dX6_calculate_124 : decode cX6_calculate 124 = .ok (.aload_n 0, 1) := q_dg132.2.1.1.2.2
theorem dX6_calculate_125 : decode cX6_calculate 125 = .ok (.aload_n 0, 1) := q_dg132.2.1.2.1
theorem dX6_calculate_126 : decode cX6_calculate 126 = .ok (.iload_n 2, 1) := q_dg132.2.1.2.2.1
theorem dX6_calculate_127 : decode cX6_calculate 127 = .ok (.invokevirtual 169, 3) := q_dg132.2.1.2.2.2
theorem dX6_calculate_130 : decode cX6_calculate 130 = .ok (.putfield 28, 3) := q_dg132.2.2.1.1
theorem dX6_calculate_133 : decode cX6_calculate 133 = .ok (.goto 183, 3) := q_dg132.2.2.1.2.1
theorem dX6_calculate_136 : decode cX6_calculate 136 = .ok (.aload_n 0, 1) := q_dg132.2.2.1.2.2
theorem dX6_calculate_137 : decode cX6_calculate 137 = .ok (.iload_n 2, 1) := q_dg132.2.2.2.1
theorem dX6_calculate_138 : decode cX6_calculate 138 = .ok (.invokevirtual 172, 3) := q_dg132.2.2.2.2.1
theorem dX6_calculate_141 : decode cX6_calculate 141 = .ok (.goto 175, 3) := q_dg132.2.2.2.2.2
theorem q_dg133 : ((((decode cX6_calculate 144 = .ok (.aload_n 0, 1)) ∧ ((decode cX6_calculate 145 = .ok (.iload_n 2, 1)) ∧ (decode cX6_calculate 146 = .ok (.invokevirtual 176, 3)))) ∧ ((decode cX6_calculate 149 = .ok (.goto 167, 3)) ∧ ((decode cX6_calculate 152 = .ok (.aload_n 0, 1)) ∧ (decode cX6_calculate 153 = .ok (.aload_n 0, 1))))) ∧ (((decode cX6_calculate 154 = .ok (.aload_n 0, 1)) ∧ ((decode cX6_calculate 155 = .ok (.getfield 22, 3)) ∧ (decode cX6_calculate 158 = .ok (.iload_n 2, 1)))) ∧ ((decode cX6_calculate 159 = .ok (.iand, 1)) ∧ ((decode cX6_calculate 160 = .ok (.invokevirtual 169, 3)) ∧ (decode cX6_calculate 163 = .ok (.putfield 22, 3)))))) ∧ ((((decode cX6_calculate 166 = .ok (.goto 150, 3)) ∧ ((decode cX6_calculate 169 = .ok (.aload_n 0, 1)) ∧ (decode cX6_calculate 170 = .ok (.aload_n 0, 1)))) ∧ ((decode cX6_calculate 171 = .ok (.aload_n 0, 1)) ∧ ((decode cX6_calculate 172 = .ok (.getfield 22, 3)) ∧ (decode cX6_calculate 175 = .ok (.iload_n 2, 1))))) ∧ (((decode cX6_calculate 176 = .ok (.ior, 1)) ∧ ((decode cX6_calculate 177 = .ok (.invokevirtual 169, 3)) ∧ (decode cX6_calculate 180 = .ok (.putfield 22, 3)))) ∧ ((decode cX6_calculate 183 = .ok (.goto 133, 3)) ∧ ((decode cX6_calculate 186 = .ok (.aload_n 0, 1)) ∧ (decode cX6_calculate 187 = .ok (.aload_n 0, 1)))))) := by decide +kernel
theorem dX6_calculate_144 : decode cX6_calculate 144 = .ok (.aload_n 0, 1) := q_dg133.1.1.1.1
theorem dX6_calculate_145 : decode cX6_calculate 145 = .ok (.iload_n 2, 1) := q_dg133.1.1.1.2.1
theorem dX6_calculate_146 : decode cX6_calculate 146 = .ok (.invokevirtual 176, 3) := q_dg133.1.1.1.2.2
theorem dX6_calculate_149 : decode cX6_calculate 149 = .ok (.goto 167, 3) := q_dg133.1.1.2.1
theorem dX6_calculate_152 : decode cX6_calculate 152 = .ok (.aload_n 0, 1) := q_dg133.1.1.2.2.1
theorem dX6_calculate_153 : decode cX6_calculate 153 = .ok (.aload_n 0, 1) := q_dg133.1.1.2.2.2
theorem dX6_calculate_154 : decode cX6_calculate 154 = .ok (.aload_n 0, 1) := q_dg133.1.2.1.1
theorem dX6_calculate_155 : decode cX6_calculate 155 = .ok (.getfield 22, 3) := q_dg133.1.2.1.2.1
theorem dX6_calculate_158 : decode cX6_calculate 158 = .ok (.iload_n 2, 1) := q_dg133.1.2.1.2.2
theorem dX6_calculate_159 : decode cX6_calculate 159 = .ok (.iand, 1) := q_dg133.1.2.2.1
theorem dX6_calculate_160 : decode cX6_calculate 160 = .ok (.invokevirtual 169, 3) := q_dg133.1.2.2.2.1
theorem dX6_calculate_163 : decode cX6_calculate 163 = .ok (.putfield 22, 3) := q_dg133.1.2.2.2.2
theorem dX6_calculate_166 : decode cX6_calculate 166 = .ok (.goto 150, 3) := q_dg133.2.1.1.1
theorem dX6_calculate_169 : decode cX6_calculate 169 = .ok (.aload_n 0, 1) := q_dg133.2.1.1.2.1
theorem dX6_calculate_170 : decode cX6_calculate 170 = .ok (.aload_n 0, 1) := q_dg133.2.1.1.2.2
theorem dX6_calculate_171 : decode cX6_calculate 171 = .ok (.aload_n 0, 1) := q_dg133.2.1.2.1
theorem dX6_calculate_172 : decode cX6_calculate 172 = .ok (.getfield 22, 3) := q_dg133.2.1.2.2.1
theorem dX6_calculate_175 : decode cX6_calculate 175 = .ok (.iload_n 2, 1) := q_dg133.2.1.2.2.2
theorem dX6_calculate_176 : decode cX6_calculate 176 = .ok (.ior, 1) := q_dg133.2.2.1.1
theorem dX6_calculate_177 : decode cX6_calculate 177 = .ok (.invokevirtual 169, 3) := q_dg133.2.2.1.2.1
theorem dX6_calculate_180 : decode cX6_calculate 180 = .ok (.putfield 22, 3) := q_dg133.2.2.1.2.2
theorem dX6_calculate_183 : decode cX6_calculate 183 = .ok (.goto 133, 3) := q_dg133.2.2.2.1
theorem dX6_calculate_186 : decode cX6_calculate 186 = .ok (.aload_n 0, 1) := q_dg133.2.2.2.2.1
theorem dX6_calculate_187 : decode cX6_calculate 187 = .ok (.aload_n 0, 1) := q_dg133.2.2.2.2.2
theorem q_dg134 : ((((decode cX6_calculate 188 = .ok (.aload_n 0, 1)) ∧ ((decode cX6_calculate 189 = .ok (.getfield 22, 3)) ∧ (decode cX6_calculate 192 = .ok (.iload_n 2, 1)))) ∧ ((decode cX6_calculate 193 = .ok (.ixor, 1)) ∧ ((decode cX6_calculate 194 = .ok (.invokevirtual 169, 3)) ∧ (decode cX6_calculate 197 = .ok (.putfield 22, 3))))) ∧ (((decode cX6_calculate 200 = .ok (.goto 116, 3)) ∧ ((decode cX6_calculate 203 = .ok (.aload_n 0, 1)) ∧ (decode cX6_calculate 204 = .ok (.aload_n 0, 1)))) ∧ ((decode cX6_calculate 205 = .ok (.getfield 22, 3)) ∧ ((decode cX6_calculate 208 = .ok (.iload_n 2, 1)) ∧ (decode cX6_calculate 209 = .ok (.invokevirtual 179, 3)))))) ∧ ((((decode cX6_calculate 212 = .ok (.goto 104, 3)) ∧ ((decode cX6_calculate 215 = .ok (.aload_n 0, 1)) ∧ (decode cX6_calculate 216 = .ok (.aload_n 0, 1)))) ∧ ((decode cX6_calculate 217 = .ok (.getfield 25, 3)) ∧ ((decode cX6_calculate 220 = .ok (.iload_n 2, 1)) ∧ (decode cX6_calculate 221 = .ok (.invokevirtual 179, 3))))) ∧ (((decode cX6_calculate 224 = .ok (.goto 92, 3)) ∧ ((decode cX6_calculate 227 = .ok (.aload_n 0, 1)) ∧ (decode cX6_calculate 228 = .ok (.aload_n 0, 1)))) ∧ ((decode cX6_calculate 229 = .ok (.getfield 28, 3)) ∧ ((decode cX6_calculate 232 = .ok (.iload_n 2, 1)) ∧ (decode cX6_calculate 233 = .ok (.invokevirtual 179, 3)))))) := by decide +kernel
theorem dX6_calculate_188 : decode cX6_calculate 188 = .ok (.aload_n 0, 1) := q_dg134.1.1.1.1
theorem dX6_calculate_189 : decode cX6_calculate 189 = .ok (.getfield 22, 3) := q_dg134.1.1.1.2.1
theorem dX6_calculate_192 : decode cX6_calculate 192 = .ok (.iload_n 2, 1) := q_dg134.1.1.1.2.2
theorem dX6_calculate_193 : decode cX6_calculate 193 = .ok (.ixor, 1) := q_dg134.1.1.2.1
theorem dX6_calculate_194 : decode cX6_calculate 194 = .ok (.invokevirtual 169, 3) := q_dg134.1.1.2.2.1
theorem dX6_calculate_197 : decode cX6_calculate 197 = .ok (.putfield 22, 3) := q_dg134.1.1.2.2.2
theorem dX6_calculate_200 : decode cX6_calculate 200 = .ok (.goto 116, 3) := q_dg134.1.2.1.1
theorem dX6_calculate_203 : decode cX6_calculate 203 = .ok (.aload_n 0, 1) := q_dg134.1.2.1.2.1
theorem dX6_calculate_204 : decode cX6_calculate 204 = .ok (.aload_n 0, 1) := q_dg134.1.2.1.2.2
theorem dX6_calculate_205 : decode cX6_calculate 205 = .ok (.getfield 22, 3) := q_dg134.1.2.2.1
theorem dX6_calculate_208 : decode cX6_calculate 208 = .ok (.iload_n 2, 1) := q_dg134.1.2.2.2.1
theorem dX6_calculate_209 : decode cX6_calculate 209 = .ok (.invokevirtual 179, 3) := q_dg134.1.2.2.2.2
theorem dX6_calculate_212 : decode cX6_calculate 212 = .ok (.goto 104, 3) := q_dg134.2.1.1.1
theorem dX6_calculate_215 : decode cX6_calculate 215 = .ok (.aload_n 0, 1) := q_dg134.2.1.1.2.1
theorem dX6_calculate_216 : decode cX6_calculate 216 = .ok (.aload_n 0, 1) := q_dg134.2.1.1.2.2
theorem dX6_calculate_217 : decode cX6_calculate 217 = .ok (.getfield 25, 3) := q_dg134.2.1.2.1
theorem dX6_calculate_220 : decode cX6_calculate 220 = .ok (.iload_n 2, 1) := q_dg134.2.1.2.2.1
theorem dX6_calculate_221 : decode cX6_calculate 221 = .ok (.invokevirtual 179, 3) := q_dg134.2.1.2.2.2
theorem dX6_calculate_224 : decode cX6_calculate 224 = .ok (.goto 92, 3) := q_dg134.2.2.1.1
theorem dX6_calculate_227 : decode cX6_calculate 227 = .ok (.aload_n 0, 1) := q_dg134.2.2.1.2.1
theorem dX6_calculate_228 : decode cX6_calculate 228 = .ok (.aload_n 0, 1) := q_dg134.2.2.1.2.2
theorem dX6_calculate_229 : decode cX6_calculate 229 = .ok (.getfield 28, 3) := q_dg134.2.2.2.1
theorem dX6_calculate_232 : decode cX6_calculate 232 = .ok (.iload_n 2, 1) := q_dg134.2.2.2.2.1
theorem dX6_calculate_233 : decode cX6_calculate 233 = .ok (.invokevirtual 179, 3) := q_dg134.2.2.2.2.2
theorem q_dg135 : ((((decode cX6_calculate 236 = .ok (.goto 80, 3)) ∧ ((decode cX6_calculate 239 = .ok (.aload_n 0, 1)) ∧ (decode cX6_calculate 240 = .ok (.aload_n 0, 1)))) ∧ ((decode cX6_calculate 241 = .ok (.iload_n 2, 1)) ∧ ((decode cX6_calculate 242 = .ok (.invokevirtual 169, 3)) ∧ (decode cX6_calculate 245 = .ok (.putfield 25, 3))))) ∧ (((decode cX6_calculate 248 = .ok (.aload_n 0, 1)) ∧ ((decode cX6_calculate 249 = .ok (.iload_n 2, 1)) ∧ (decode cX6_calculate 250 = .ok (.putfield 22, 3)))) ∧ ((decode cX6_calculate 253 = .ok (.goto 63, 3)) ∧ ((decode cX6_calculate 256 = .ok (.aload_n 0, 1)) ∧ (decode cX6_calculate 257 = .ok (.iconst 2, 1)))))) ∧ ((((decode cX6_calculate 258 = .ok (.aload_n 0, 1)) ∧ ((decode cX6_calculate 259 = .ok (.getfield 22, 3)) ∧ (decode cX6_calculate 262 = .ok (.iload_n 2, 1)))) ∧ ((decode cX6_calculate 263 = .ok (.iand, 1)) ∧ ((decode cX6_calculate 264 = .ok (.ifCond .ne 7, 3)) ∧ (decode cX6_calculate 267 = .ok (.iconst 1, 1))))) ∧ (((decode cX6_calculate 268 = .ok (.goto 4, 3)) ∧ ((decode cX6_calculate 271 = .ok (.iconst 0, 1)) ∧ (decode cX6_calculate 272 = .ok (.invokevirtual 165, 3)))) ∧ ((decode cX6_calculate 275 = .ok (.aload_n 0, 1)) ∧ ((decode cX6_calculate 276 = .ok (.sipush 128, 3)) ∧ (decode cX6_calculate 279 = .ok (.iload_n 2, 1)))))) := by decide +kernel
theorem dX6_calculate_236 : decode cX6_calculate 236 = .ok (.goto 80, 3) := q_dg135.1.1.1.1
theorem dX6_calculate_239 : decode cX6_calculate 239 = .ok (.aload_n 0, 1) := q_dg135.1.1.1.2.1
theorem dX6_calculate_240 : decode cX6_calculate 240 = .ok (.aload_n 0, 1) := q_dg135.1.1.1.2.2
theorem dX6_calculate_241 : decode cX6_calculate 241 = .ok (.iload_n 2, 1) := q_dg135.1.1.2.1
theorem dX6_calculate_242 : decode cX6_calculate 242 = .ok (.invokevirtual 169, 3) := q_dg135.1.1.2.2.1
theorem dX6_calculate_245 : decode cX6_calculate 245 = .ok (.putfield 25, 3) := q_dg135.1.1.2.2.2
theorem dX6_calculate_248 : decode cX6_calculate 248 = .ok (.aload_n 0, 1) := q_dg135.1.2.1.1
theorem dX6_calculate_249 : decode cX6_calculate 249 = .ok (.iload_n 2, 1) := q_dg135.1.2.1.2.1
theorem dX6_calculate_250 : decode cX6_calculate 250 = .ok (.putfield 22, 3) := q_dg135.1.2.1.2.2
theorem dX6_calculate_253 : decode cX6_calculate 253 = .ok (.goto 63, 3) := q_dg135.1.2.2.1
theorem dX6_calculate_256 : decode cX6_calculate 256 = .ok (.aload_n 0, 1) := q_dg135.1.2.2.2.1
theorem dX6_calculate_257 : decode cX6_calculate 257 = .ok (.iconst 2, 1) := q_dg135.1.2.2.2.2
theorem dX6_calculate_258 : decode cX6_calculate 258 = .ok (.aload_n 0, 1) := q_dg135.2.1.1.1
theorem dX6_calculate_259 : decode cX6_calculate 259 = .ok (.getfield 22, 3) := q_dg135.2.1.1.2.1
theorem dX6_calculate_262 : decode cX6_calculate 262 = .ok (.iload_n 2, 1) := q_dg135.2.1.1.2.2
theorem dX6_calculate_263 : decode cX6_calculate 263 = .ok (.iand, 1) := q_dg135.2.1.2.1
theorem dX6_calculate_264 : decode cX6_calculate 264 = .ok (.ifCond .ne 7, 3) := q_dg135.2.1.2.2.1
theorem dX6_calculate_267 : decode cX6_calculate 267 = .ok (.iconst 1, 1) := q_dg135.2.1.2.2.2
theorem dX6_calculate_268 : decode cX6_calculate 268 = .ok (.goto 4, 3) := q_dg135.2.2.1.1
theorem dX6_calculate_271 : decode cX6_calculate 271 = .ok (.iconst 0, 1) := q_dg135.2.2.1.2.1
theorem dX6_calculate_272 : decode cX6_calculate 272 = .ok (.invokevirtual 165, 3) := q_dg135.2.2.1.2.2
theorem dX6_calculate_275 : decode cX6_calculate 275 = .ok (.aload_n 0, 1) := q_dg135.2.2.2.1
theorem dX6_calculate_276 : decode cX6_calculate 276 = .ok (.sipush 128, 3) := q_dg135.2.2.2.2.1
theorem dX6_calculate_279 : decode cX6_calculate 279 = .ok (.iload_n 2, 1) := q_dg135.2.2.2.2.2
theorem q_dg136 : ((((decode cX6_calculate 280 = .ok (.sipush 128, 3)) ∧ (decode cX6_calculate 283 = .ok (.iand, 1))) ∧ ((decode cX6_calculate 284 = .ok (.ifCond .eq 7, 3)) ∧ (decode cX6_calculate 287 = .ok (.iconst 1, 1)))) ∧ (((decode cX6_calculate 288 = .ok (.goto 4, 3)) ∧ (decode cX6_calculate 291 = .ok (.iconst 0, 1))) ∧ ((decode cX6_calculate 292 = .ok (.invokevirtual 165, 3)) ∧ ((decode cX6_calculate 295 = .ok (.aload_n 0, 1)) ∧ (decode cX6_calculate 296 = .ok (.bipush 64, 2)))))) ∧ ((((decode cX6_calculate 298 = .ok (.iload_n 2, 1)) ∧ (decode cX6_calculate 299 = .ok (.bipush 64, 2))) ∧ ((decode cX6_calculate 301 = .ok (.iand, 1)) ∧ ((decode cX6_calculate 302 = .ok (.ifCond .eq 7, 3)) ∧ (decode cX6_calculate 305 = .ok (.iconst 1, 1))))) ∧ (((decode cX6_calculate 306 = .ok (.goto 4, 3)) ∧ (decode cX6_calculate 309 = .ok (.iconst 0, 1))) ∧ ((decode cX6_calculate 310 = .ok (.invokevirtual 165, 3)) ∧ ((decode cX6_calculate 313 = .ok (.goto 3, 3)) ∧ (decode cX6_calculate 316 = .ok (.return_, 1)))))) := by decide +kernel
theorem dX6_calculate_280 : decode cX6_calculate 280 = .ok (.sipush 128, 3) := q_dg136.1.1.1.1
theorem dX6_calculate_283 : decode cX6_calculate 283 = .ok (.iand, 1) := q_dg136.1.1.1.2
theorem dX6_calculate_284 : decode cX6_calculate 284 = .ok (.ifCond .eq 7, 3) := q_dg136.1.1.2.1
theorem dX6_calculate_287 : decode cX6_calculate 287 = .ok (.iconst 1, 1) := q_dg136.1.1.2.2
theorem dX6_calculate_288 : decode cX6_calculate 288 = .ok (.goto 4, 3) := q_dg136.1.2.1.1
theorem dX6_calculate_291 : decode cX6_calculate 291 = .ok (.iconst 0, 1) := q_dg136.1.2.1.2
theorem dX6_calculate_292 : decode cX6_calculate 292 = .ok (.invokevirtual 165, 3) := q_dg136.1.2.2.1
theorem dX6_calculate_295 : decode cX6_calculate 295 = .ok (.aload_n 0, 1) := q_dg136.1.2.2.2.1
theorem dX6_calculate_296 : decode cX6_calculate 296 = .ok (.bipush 64, 2) := q_dg136.1.2.2.2.2
theorem dX6_calculate_298 : decode cX6_calculate 298 = .ok (.iload_n 2, 1) := q_dg136.2.1.1.1
theorem dX6_calculate_299 : decode cX6_calculate 299 = .ok (.bipush 64, 2) := q_dg136.2.1.1.2
theorem dX6_calculate_301 : decode cX6_calculate 301 = .ok (.iand, 1) := q_dg136.2.1.2.1
theorem dX6_calculate_302 : decode cX6_calculate 302 = .ok (.ifCond .eq 7, 3) := q_dg136.2.1.2.2.1
theorem dX6_calculate_305 : decode cX6_calculate 305 = .ok (.iconst 1, 1) := q_dg136.2.1.2.2.2
theorem dX6_calculate_306 : decode cX6_calculate 306 = .ok (.goto 4, 3) := q_dg136.2.2.1.1
theorem dX6_calculate_309 : decode cX6_calculate 309 = .ok (.iconst 0, 1) := q_dg136.2.2.1.2
theorem dX6_calculate_310 : decode cX6_calculate 310 = .ok (.invokevirtual 165, 3) := q_dg136.2.2.2.1
theorem dX6_calculate_313 : decode cX6_calculate 313 = .ok (.goto 3, 3) := q_dg136.2.2.2.2.1
theorem dX6_calculate_316 : decode cX6_calculate 316 = .ok (.return_, 1) := q_dg136.2.2.2.2.2
theorem q_dg137 : ((((decode cX6_store 0 = .ok (.iload_n 2, 1)) ∧ ((decode cX6_store 1 = .ok (.lookupswitch 88 #[(3, 43), (4, 53), (5, 63), (17, 73)], 43)) ∧ (decode cX6_store 44 = .ok (.aload_n 1, 1)))) ∧ ((decode cX6_store 45 = .ok (.iload_n 3, 1)) ∧ ((decode cX6_store 46 = .ok (.aload_n 0, 1)) ∧ (decode cX6_store 47 = .ok (.getfield 22, 3))))) ∧ (((decode cX6_store 50 = .ok (.invokevirtual 156, 3)) ∧ ((decode cX6_store 53 = .ok (.return_, 1)) ∧ (decode cX6_store 54 = .ok (.aload_n 1, 1)))) ∧ ((decode cX6_store 55 = .ok (.iload_n 3, 1)) ∧ ((decode cX6_store 56 = .ok (.aload_n 0, 1)) ∧ (decode cX6_store 57 = .ok (.getfield 25, 3)))))) ∧ ((((decode cX6_store 60 = .ok (.invokevirtual 156, 3)) ∧ ((decode cX6_store 63 = .ok (.return_, 1)) ∧ (decode cX6_store 64 = .ok (.aload_n 1, 1)))) ∧ ((decode cX6_store 65 = .ok (.iload_n 3, 1)) ∧ ((decode cX6_store 66 = .ok (.aload_n 0, 1)) ∧ (decode cX6_store 67 = .ok (.getfield 28, 3))))) ∧ (((decode cX6_store 70 = .ok (.invokevirtual 156, 3)) ∧ ((decode cX6_store 73 = .ok (.return_, 1)) ∧ (decode cX6_store 74 = .ok (.aload_n 1, 1)))) ∧ ((decode cX6_store 75 = .ok (.iload_n 3, 1)) ∧ ((decode cX6_store 76 = .ok (.aload_n 0, 1)) ∧ (decode cX6_store 77 = .ok (.getfield 22, 3)))))) := by decide +kernel
theorem dX6_store_0 : decode cX6_store 0 = .ok (.iload_n 2, 1) := q_dg137.1.1.1.1
theorem dX6_store_1 : decode cX6_store 1 = .ok (.lookupswitch 88 #[(3, 43), (4, 53), (5, 63), (17, 73)], 43) := q_dg137.1.1.1.2.1
theorem dX6_store_44 : decode cX6_store 44 = .ok (.aload_n 1, 1) := q_dg137.1.1.1.2.2
theorem dX6_store_45 : decode cX6_store 45 = .ok (.iload_n 3, 1) := q_dg137.1.1.2.1
theorem dX6_store_46 : decode cX6_store 46 = .ok (.aload_n 0, 1) := q_dg137.1.1.2.2.1
theorem dX6_store_47 : decode cX6_store 47 = .ok (.getfield 22, 3) := q_dg137.1.1.2.2.2
theorem dX6_store_50 : decode cX6_store 50 = .ok (.invokevirtual 156, 3) := q_dg137.1.2.1.1
theorem dX6_store_53 : decode cX6_store 53 = .ok (.return_, 1) := q_dg137.1.2.1.2.1
theorem dX6_store_54 : decode cX6_store 54 = .ok (.aload_n 1, 1) := q_dg137.1.2.1.2.2
theorem dX6_store_55 : decode cX6_store 55 = .ok (.iload_n 3, 1) := q_dg137.1.2.2.1
theorem dX6_store_56 : decode cX6_store 56 = .ok (.aload_n 0, 1) := q_dg137.1.2.2.2.1
theorem dX6_store_57 : decode cX6_store 57 = .ok (.getfield 25, 3) := q_dg137.1.2.2.2.2
theorem dX6_store_60 : decode cX6_store 60 = .ok (.invokevirtual 156, 3) := q_dg137.2.1.1.1
theorem dX6_store_63 : decode cX6_store 63 = .ok (.return_, 1) := q_dg137.2.1.1.2.1
theorem dX6_store_64 : decode cX6_store 64 = .ok (.aload_n 1, 1) := q_dg137.2.1.1.2.2
theorem dX6_store_65 : decode cX6_store 65 = .ok (.iload_n 3, 1) := q_dg137.2.1.2.1
theorem dX6_store_66 : decode cX6_store 66 = .ok (.aload_n 0, 1) := q_dg137.2.1.2.2.1
theorem dX6_store_67 : decode cX6_store 67 = .ok (.getfield 28, 3) := q_dg137.2.1.2.2.2
theorem dX6_store_70 : decode cX6_store 70 = .ok (.invokevirtual 156, 3) := q_dg137.2.2.1.1
theorem dX6_store_73 : decode cX6_store 73 = .ok (.return_, 1) := q_dg137.2.2.1.2.1
theorem dX6_store_74 : decode cX6_store 74 = .ok (.aload_n 1, 1) := q_dg137.2.2.1.2.2
theorem dX6_store_75 : decode cX6_store 75 = .ok (.iload_n 3, 1) := q_dg137.2.2.2.1
theorem dX6_store_76 : decode cX6_store 76 = .ok (.aload_n 0, 1) := q_dg137.2.2.2.2.1
theorem dX6_store_77 : decode cX6_store 77 = .ok (.getfield 22, 3) := q_dg137.2.2.2.2.2
theorem q_dg138 : ((((decode cX6_store 80 = .ok (.aload_n 0, 1)) ∧ ((decode cX6_store 81 = .ok (.getfield 25, 3)) ∧ (decode cX6_store 84 = .ok (.iand, 1)))) ∧ ((decode cX6_store 85 = .ok (.invokevirtual 156, 3)) ∧ ((decode cX6_store 88 = .ok (.return_, 1)) ∧ (decode cX6_store 89 = .ok (.iload_n 2, 1))))) ∧ (((decode cX6_store 90 = .ok (.bipush 14, 2)) ∧ ((decode cX6_store 92 = .ok (.if_icmp .eq 9, 3)) ∧ (decode cX6_store 95 = .ok (.iload_n 2, 1)))) ∧ ((decode cX6_store 96 = .ok (.bipush 19, 2)) ∧ ((decode cX6_store 98 = .ok (.if_icmp .ne 7, 3)) ∧ (decode cX6_store 101 = .ok (.iconst 1, 1)))))) ∧ ((((decode cX6_store 102 = .ok (.goto 4, 3)) ∧ ((decode cX6_store 105 = .ok (.iconst (-1), 1)) ∧ (decode cX6_store 106 = .ok (.istore 4, 2)))) ∧ ((decode cX6_store 108 = .ok (.aload_n 1, 1)) ∧ ((decode cX6_store 109 = .ok (.iload_n 3, 1)) ∧ (decode cX6_store 110 = .ok (.invokevirtual 153, 3))))) ∧ (((decode cX6_store 113 = .ok (.iload 4, 2)) ∧ ((decode cX6_store 115 = .ok (.iadd, 1)) ∧ (decode cX6_store 116 = .ok (.sipush 255, 3)))) ∧ ((decode cX6_store 119 = .ok (.iand, 1)) ∧ ((decode cX6_store 120 = .ok (.istore 5, 2)) ∧ (decode cX6_store 122 = .ok (.aload_n 1, 1)))))) := by decide +kernel
theorem dX6_store_80 : decode cX6_store 80 = .ok (.aload_n 0, 1) := q_dg138.1.1.1.1
theorem dX6_store_81 : decode cX6_store 81 = .ok (.getfield 25, 3) := q_dg138.1.1.1.2.1
theorem dX6_store_84 : decode cX6_store 84 = .ok (.iand, 1) := q_dg138.1.1.1.2.2
theorem dX6_store_85 : decode cX6_store 85 = .ok (.invokevirtual 156, 3) := q_dg138.1.1.2.1
theorem dX6_store_88 : decode cX6_store 88 = .ok (.return_, 1) := q_dg138.1.1.2.2.1
theorem dX6_store_89 : decode cX6_store 89 = .ok (.iload_n 2, 1) := q_dg138.1.1.2.2.2
theorem dX6_store_90 : decode cX6_store 90 = .ok (.bipush 14, 2) := q_dg138.1.2.1.1
theorem dX6_store_92 : decode cX6_store 92 = .ok (.if_icmp .eq 9, 3) := q_dg138.1.2.1.2.1
theorem dX6_store_95 : decode cX6_store 95 = .ok (.iload_n 2, 1) := q_dg138.1.2.1.2.2
theorem dX6_store_96 : decode cX6_store 96 = .ok (.bipush 19, 2) := q_dg138.1.2.2.1
theorem dX6_store_98 : decode cX6_store 98 = .ok (.if_icmp .ne 7, 3) := q_dg138.1.2.2.2.1
theorem dX6_store_101 : decode cX6_store 101 = .ok (.iconst 1, 1) := q_dg138.1.2.2.2.2
theorem dX6_store_102 : decode cX6_store 102 = .ok (.goto 4, 3) := q_dg138.2.1.1.1
theorem dX6_store_105 : decode cX6_store 105 = .ok (.iconst (-1), 1) := q_dg138.2.1.1.2.1
theorem dX6_store_106 : decode cX6_store 106 = .ok (.istore 4, 2) := q_dg138.2.1.1.2.2
theorem dX6_store_108 : decode cX6_store 108 = .ok (.aload_n 1, 1) := q_dg138.2.1.2.1
theorem dX6_store_109 : decode cX6_store 109 = .ok (.iload_n 3, 1) := q_dg138.2.1.2.2.1
theorem dX6_store_110 : decode cX6_store 110 = .ok (.invokevirtual 153, 3) := q_dg138.2.1.2.2.2
theorem dX6_store_113 : decode cX6_store 113 = .ok (.iload 4, 2) := q_dg138.2.2.1.1
theorem dX6_store_115 : decode cX6_store 115 = .ok (.iadd, 1) := q_dg138.2.2.1.2.1
theorem dX6_store_116 : decode cX6_store 116 = .ok (.sipush 255, 3) := q_dg138.2.2.1.2.2
theorem dX6_store_119 : decode cX6_store 119 = .ok (.iand, 1) := q_dg138.2.2.2.1
theorem dX6_store_120 : decode cX6_store 120 = .ok (.istore 5, 2) := q_dg138.2.2.2.2.1
theorem dX6_store_122 : decode cX6_store 122 = .ok (.aload_n 1, 1) := q_dg138.2.2.2.2.2
theorem q_dg139 : ((((decode cX6_store 123 = .ok (.iload_n 3, 1)) ∧ ((decode cX6_store 124 = .ok (.iload 5, 2)) ∧ (decode cX6_store 126 = .ok (.invokevirtual 156, 3)))) ∧ ((decode cX6_store 129 = .ok (.iload_n 2, 1)) ∧ ((decode cX6_store 130 = .ok (.bipush 18, 2)) ∧ (decode cX6_store 132 = .ok (.if_icmp .ne 16, 3))))) ∧ (((decode cX6_store 135 = .ok (.aload_n 0, 1)) ∧ ((decode cX6_store 136 = .ok (.aload_n 0, 1)) ∧ (decode cX6_store 137 = .ok (.getfield 22, 3)))) ∧ ((decode cX6_store 140 = .ok (.iload 5, 2)) ∧ ((decode cX6_store 142 = .ok (.invokevirtual 179, 3)) ∧ (decode cX6_store 145 = .ok (.goto 25, 3)))))) ∧ ((((decode cX6_store 148 = .ok (.iload_n 2, 1)) ∧ ((decode cX6_store 149 = .ok (.bipush 19, 2)) ∧ (decode cX6_store 151 = .ok (.if_icmp .ne 12, 3)))) ∧ ((decode cX6_store 154 = .ok (.aload_n 0, 1)) ∧ ((decode cX6_store 155 = .ok (.iload 5, 2)) ∧ (decode cX6_store 157 = .ok (.invokevirtual 176, 3))))) ∧ (((decode cX6_store 160 = .ok (.goto 10, 3)) ∧ ((decode cX6_store 163 = .ok (.aload_n 0, 1)) ∧ (decode cX6_store 164 = .ok (.iload 5, 2)))) ∧ ((decode cX6_store 166 = .ok (.invokevirtual 169, 3)) ∧ ((decode cX6_store 169 = .ok (.pop, 1)) ∧ (decode cX6_store 170 = .ok (.return_, 1)))))) := by decide +kernel
theorem dX6_store_123 : decode cX6_store 123 = .ok (.iload_n 3, 1) := q_dg139.1.1.1.1
theorem dX6_store_124 : decode cX6_store 124 = .ok (.iload 5, 2) := q_dg139.1.1.1.2.1
theorem dX6_store_126 : decode cX6_store 126 = .ok (.invokevirtual 156, 3) := q_dg139.1.1.1.2.2
theorem dX6_store_129 : decode cX6_store 129 = .ok (.iload_n 2, 1) := q_dg139.1.1.2.1
theorem dX6_store_130 : decode cX6_store 130 = .ok (.bipush 18, 2) := q_dg139.1.1.2.2.1
theorem dX6_store_132 : decode cX6_store 132 = .ok (.if_icmp .ne 16, 3) := q_dg139.1.1.2.2.2
theorem dX6_store_135 : decode cX6_store 135 = .ok (.aload_n 0, 1) := q_dg139.1.2.1.1
theorem dX6_store_136 : decode cX6_store 136 = .ok (.aload_n 0, 1) := q_dg139.1.2.1.2.1
theorem dX6_store_137 : decode cX6_store 137 = .ok (.getfield 22, 3) := q_dg139.1.2.1.2.2
theorem dX6_store_140 : decode cX6_store 140 = .ok (.iload 5, 2) := q_dg139.1.2.2.1
theorem dX6_store_142 : decode cX6_store 142 = .ok (.invokevirtual 179, 3) := q_dg139.1.2.2.2.1
theorem dX6_store_145 : decode cX6_store 145 = .ok (.goto 25, 3) := q_dg139.1.2.2.2.2
theorem dX6_store_148 : decode cX6_store 148 = .ok (.iload_n 2, 1) := q_dg139.2.1.1.1
theorem dX6_store_149 : decode cX6_store 149 = .ok (.bipush 19, 2) := q_dg139.2.1.1.2.1
theorem dX6_store_151 : decode cX6_store 151 = .ok (.if_icmp .ne 12, 3) := q_dg139.2.1.1.2.2
theorem dX6_store_154 : decode cX6_store 154 = .ok (.aload_n 0, 1) := q_dg139.2.1.2.1
theorem dX6_store_155 : decode cX6_store 155 = .ok (.iload 5, 2) := q_dg139.2.1.2.2.1
theorem dX6_store_157 : decode cX6_store 157 = .ok (.invokevirtual 176, 3) := q_dg139.2.1.2.2.2
theorem dX6_store_160 : decode cX6_store 160 = .ok (.goto 10, 3) := q_dg139.2.2.1.1
theorem dX6_store_163 : decode cX6_store 163 = .ok (.aload_n 0, 1) := q_dg139.2.2.1.2.1
theorem dX6_store_164 : decode cX6_store 164 = .ok (.iload 5, 2) := q_dg139.2.2.1.2.2
theorem dX6_store_166 : decode cX6_store 166 = .ok (.invokevirtual 169, 3) := q_dg139.2.2.2.1
theorem dX6_store_169 : decode cX6_store 169 = .ok (.pop, 1) := q_dg139.2.2.2.2.1
theorem dX6_store_170 : decode cX6_store 170 = .ok (.return_, 1) := q_dg139.2.2.2.2.2
theorem q_dg140 : ((((decode cX6_add 0 = .ok (.aload_n 0, 1)) ∧ ((decode cX6_add 1 = .ok (.getfield 15, 3)) ∧ (decode cX6_add 4 = .ok (.iconst 1, 1)))) ∧ ((decode cX6_add 5 = .ok (.iand, 1)) ∧ ((decode cX6_add 6 = .ok (.istore_n 2, 1)) ∧ (decode cX6_add 7 = .ok (.aload_n 0, 1))))) ∧ (((decode cX6_add 8 = .ok (.getfield 22, 3)) ∧ ((decode cX6_add 11 = .ok (.bipush 16, 2)) ∧ (decode cX6_add 13 = .ok (.irem, 1)))) ∧ ((decode cX6_add 14 = .ok (.iload_n 1, 1)) ∧ ((decode cX6_add 15 = .ok (.bipush 16, 2)) ∧ (decode cX6_add 17 = .ok (.irem, 1)))))) ∧ ((((decode cX6_add 18 = .ok (.iadd, 1)) ∧ ((decode cX6_add 19 = .ok (.iload_n 2, 1)) ∧ (decode cX6_add 20 = .ok (.iadd, 1)))) ∧ ((decode cX6_add 21 = .ok (.istore_n 3, 1)) ∧ ((decode cX6_add 22 = .ok (.aload_n 0, 1)) ∧ (decode cX6_add 23 = .ok (.getfield 22, 3))))) ∧ (((decode cX6_add 26 = .ok (.bipush 16, 2)) ∧ ((decode cX6_add 28 = .ok (.idiv, 1)) ∧ (decode cX6_add 29 = .ok (.iload_n 1, 1)))) ∧ ((decode cX6_add 30 = .ok (.bipush 16, 2)) ∧ ((decode cX6_add 32 = .ok (.idiv, 1)) ∧ (decode cX6_add 33 = .ok (.iadd, 1)))))) := by decide +kernel
theorem dX6_add_0 : decode cX6_add 0 = .ok (.aload_n 0, 1) := q_dg140.1.1.1.1
theorem dX6_add_1 : decode cX6_add 1 = .ok (.getfield 15, 3) := q_dg140.1.1.1.2.1
theorem dX6_add_4 : decode cX6_add 4 = .ok (.iconst 1, 1) := q_dg140.1.1.1.2.2
theorem dX6_add_5 : decode cX6_add 5 = .ok (.iand, 1) := q_dg140.1.1.2.1
theorem dX6_add_6 : decode cX6_add 6 = .ok (.istore_n 2, 1) := q_dg140.1.1.2.2.1
theorem dX6_add_7 : decode cX6_add 7 = .ok (.aload_n 0, 1) := q_dg140.1.1.2.2.2
theorem dX6_add_8 : decode cX6_add 8 = .ok (.getfield 22, 3) := q_dg140.1.2.1.1
theorem dX6_add_11 : decode cX6_add 11 = .ok (.bipush 16, 2) := q_dg140.1.2.1.2.1
theorem dX6_add_13 : decode cX6_add 13 = .ok (.irem, 1) := q_dg140.1.2.1.2.2
theorem dX6_add_14 : decode cX6_add 14 = .ok (.iload_n 1, 1) := q_dg140.1.2.2.1
theorem dX6_add_15 : decode cX6_add 15 = .ok (.bipush 16, 2) := q_dg140.1.2.2.2.1
theorem dX6_add_17 : decode cX6_add 17 = .ok (.irem, 1) := q_dg140.1.2.2.2.2
theorem dX6_add_18 : decode cX6_add 18 = .ok (.iadd, 1) := q_dg140.2.1.1.1
theorem dX6_add_19 : decode cX6_add 19 = .ok (.iload_n 2, 1) := q_dg140.2.1.1.2.1
theorem dX6_add_20 : decode cX6_add 20 = .ok (.iadd, 1) := q_dg140.2.1.1.2.2
theorem dX6_add_21 : decode cX6_add 21 = .ok (.istore_n 3, 1) := q_dg140.2.1.2.1
theorem dX6_add_22 : decode cX6_add 22 = .ok (.aload_n 0, 1) := q_dg140.2.1.2.2.1
theorem dX6_add_23 : decode cX6_add 23 = .ok (.getfield 22, 3) := q_dg140.2.1.2.2.2
theorem dX6_add_26 : decode cX6_add 26 = .ok (.bipush 16, 2) := q_dg140.2.2.1.1
theorem dX6_add_28 : decode cX6_add 28 = .ok (.idiv, 1) := q_dg140.2.2.1.2.1
theorem dX6_add_29 : decode cX6_add 29 = .ok (.iload_n 1, 1) := q_dg140.2.2.1.2.2
theorem dX6_add_30 : decode cX6_add 30 = .ok (.bipush 16, 2) := q_dg140.2.2.2.1
theorem dX6_add_32 : decode cX6_add 32 = .ok (.idiv, 1) := q_dg140.2.2.2.2.1
theorem dX6_add_33 : decode cX6_add 33 = .ok (.iadd, 1) := q_dg140.2.2.2.2.2
theorem q_dg141 : ((((decode cX6_add 34 = .ok (.istore 4, 2)) ∧ ((decode cX6_add 36 = .ok (.aload_n 0, 1)) ∧ (decode cX6_add 37 = .ok (.iload_n 1, 1)))) ∧ ((decode cX6_add 38 = .ok (.invokevirtual 182, 3)) ∧ ((decode cX6_add 41 = .ok (.aload_n 0, 1)) ∧ (decode cX6_add 42 = .ok (.getfield 15, 3))))) ∧ (((decode cX6_add 45 = .ok (.bipush 8, 2)) ∧ ((decode cX6_add 47 = .ok (.iand, 1)) ∧ (decode cX6_add 48 = .ok (.ifCond .ne 4, 3)))) ∧ ((decode cX6_add 51 = .ok (.return_, 1)) ∧ ((decode cX6_add 52 = .ok (.iload_n 3, 1)) ∧ (decode cX6_add 53 = .ok (.bipush 9, 2)))))) ∧ ((((decode cX6_add 55 = .ok (.if_icmp .le 9, 3)) ∧ ((decode cX6_add 58 = .ok (.iinc 3 (-10), 3)) ∧ (decode cX6_add 61 = .ok (.iinc 4 1, 3)))) ∧ ((decode cX6_add 64 = .ok (.aload_n 0, 1)) ∧ ((decode cX6_add 65 = .ok (.iconst 1, 1)) ∧ (decode cX6_add 66 = .ok (.iload 4, 2))))) ∧ (((decode cX6_add 68 = .ok (.bipush 9, 2)) ∧ ((decode cX6_add 70 = .ok (.if_icmp .le 7, 3)) ∧ (decode cX6_add 73 = .ok (.iconst 1, 1)))) ∧ ((decode cX6_add 74 = .ok (.goto 4, 3)) ∧ ((decode cX6_add 77 = .ok (.iconst 0, 1)) ∧ (decode cX6_add 78 = .ok (.invokevirtual 165, 3)))))) := by decide +kernel
theorem dX6_add_34 : decode cX6_add 34 = .ok (.istore 4, 2) := q_dg141.1.1.1.1
theorem dX6_add_36 : decode cX6_add 36 = .ok (.aload_n 0, 1) := q_dg141.1.1.1.2.1
theorem dX6_add_37 : decode cX6_add 37 = .ok (.iload_n 1, 1) := q_dg141.1.1.1.2.2
theorem dX6_add_38 : decode cX6_add 38 = .ok (.invokevirtual 182, 3) := q_dg141.1.1.2.1
theorem dX6_add_41 : decode cX6_add 41 = .ok (.aload_n 0, 1) := q_dg141.1.1.2.2.1
theorem dX6_add_42 : decode cX6_add 42 = .ok (.getfield 15, 3) := q_dg141.1.1.2.2.2
theorem dX6_add_45 : decode cX6_add 45 = .ok (.bipush 8, 2) := q_dg141.1.2.1.1
theorem dX6_add_47 : decode cX6_add 47 = .ok (.iand, 1) := q_dg141.1.2.1.2.1
theorem dX6_add_48 : decode cX6_add 48 = .ok (.ifCond .ne 4, 3) := q_dg141.1.2.1.2.2
theorem dX6_add_51 : decode cX6_add 51 = .ok (.return_, 1) := q_dg141.1.2.2.1
theorem dX6_add_52 : decode cX6_add 52 = .ok (.iload_n 3, 1) := q_dg141.1.2.2.2.1
theorem dX6_add_53 : decode cX6_add 53 = .ok (.bipush 9, 2) := q_dg141.1.2.2.2.2
theorem dX6_add_55 : decode cX6_add 55 = .ok (.if_icmp .le 9, 3) := q_dg141.2.1.1.1
theorem dX6_add_58 : decode cX6_add 58 = .ok (.iinc 3 (-10), 3) := q_dg141.2.1.1.2.1
theorem dX6_add_61 : decode cX6_add 61 = .ok (.iinc 4 1, 3) := q_dg141.2.1.1.2.2
theorem dX6_add_64 : decode cX6_add 64 = .ok (.aload_n 0, 1) := q_dg141.2.1.2.1
theorem dX6_add_65 : decode cX6_add 65 = .ok (.iconst 1, 1) := q_dg141.2.1.2.2.1
theorem dX6_add_66 : decode cX6_add 66 = .ok (.iload 4, 2) := q_dg141.2.1.2.2.2
theorem dX6_add_68 : decode cX6_add 68 = .ok (.bipush 9, 2) := q_dg141.2.2.1.1
theorem dX6_add_70 : decode cX6_add 70 = .ok (.if_icmp .le 7, 3) := q_dg141.2.2.1.2.1
theorem dX6_add_73 : decode cX6_add 73 = .ok (.iconst 1, 1) := q_dg141.2.2.1.2.2
theorem dX6_add_74 : decode cX6_add 74 = .ok (.goto 4, 3) := q_dg141.2.2.2.1
theorem dX6_add_77 : decode cX6_add 77 = .ok (.iconst 0, 1) := q_dg141.2.2.2.2.1
theorem dX6_add_78 : decode cX6_add 78 = .ok (.invokevirtual 165, 3) := q_dg141.2.2.2.2.2
theorem q_dg142 : ((((decode cX6_add 81 = .ok (.iload 4, 2)) ∧ (decode cX6_add 83 = .ok (.bipush 9, 2))) ∧ ((decode cX6_add 85 = .ok (.if_icmp .le 6, 3)) ∧ (decode cX6_add 88 = .ok (.iinc 4 (-10), 3)))) ∧ (((decode cX6_add 91 = .ok (.aload_n 0, 1)) ∧ (decode cX6_add 92 = .ok (.aload_n 0, 1))) ∧ ((decode cX6_add 93 = .ok (.bipush 16, 2)) ∧ (decode cX6_add 95 = .ok (.iload 4, 2))))) ∧ ((((decode cX6_add 97 = .ok (.imul, 1)) ∧ (decode cX6_add 98 = .ok (.iload_n 3, 1))) ∧ ((decode cX6_add 99 = .ok (.iadd, 1)) ∧ (decode cX6_add 100 = .ok (.sipush 255, 3)))) ∧ (((decode cX6_add 103 = .ok (.iand, 1)) ∧ (decode cX6_add 104 = .ok (.invokevirtual 169, 3))) ∧ ((decode cX6_add 107 = .ok (.putfield 22, 3)) ∧ (decode cX6_add 110 = .ok (.return_, 1))))) := by decide +kernel
theorem dX6_add_81 : decode cX6_add 81 = .ok (.iload 4, 2) := q_dg142.1.1.1.1
theorem dX6_add_83 : decode cX6_add 83 = .ok (.bipush 9, 2) := q_dg142.1.1.1.2
theorem dX6_add_85 : decode cX6_add 85 = .ok (.if_icmp .le 6, 3) := q_dg142.1.1.2.1
theorem dX6_add_88 : decode cX6_add 88 = .ok (.iinc 4 (-10), 3) := q_dg142.1.1.2.2
theorem dX6_add_91 : decode cX6_add 91 = .ok (.aload_n 0, 1) := q_dg142.1.2.1.1
theorem dX6_add_92 : decode cX6_add 92 = .ok (.aload_n 0, 1) := q_dg142.1.2.1.2
theorem dX6_add_93 : decode cX6_add 93 = .ok (.bipush 16, 2) := q_dg142.1.2.2.1
theorem dX6_add_95 : decode cX6_add 95 = .ok (.iload 4, 2) := q_dg142.1.2.2.2
theorem dX6_add_97 : decode cX6_add 97 = .ok (.imul, 1) := q_dg142.2.1.1.1
theorem dX6_add_98 : decode cX6_add 98 = .ok (.iload_n 3, 1) := q_dg142.2.1.1.2
theorem dX6_add_99 : decode cX6_add 99 = .ok (.iadd, 1) := q_dg142.2.1.2.1
theorem dX6_add_100 : decode cX6_add 100 = .ok (.sipush 255, 3) := q_dg142.2.1.2.2
theorem dX6_add_103 : decode cX6_add 103 = .ok (.iand, 1) := q_dg142.2.2.1.1
theorem dX6_add_104 : decode cX6_add 104 = .ok (.invokevirtual 169, 3) := q_dg142.2.2.1.2
theorem dX6_add_107 : decode cX6_add 107 = .ok (.putfield 22, 3) := q_dg142.2.2.2.1
theorem dX6_add_110 : decode cX6_add 110 = .ok (.return_, 1) := q_dg142.2.2.2.2
theorem q_dg143 : ((((decode cX6_subtract 0 = .ok (.aload_n 0, 1)) ∧ ((decode cX6_subtract 1 = .ok (.getfield 15, 3)) ∧ (decode cX6_subtract 4 = .ok (.iconst 1, 1)))) ∧ ((decode cX6_subtract 5 = .ok (.iand, 1)) ∧ ((decode cX6_subtract 6 = .ok (.istore_n 2, 1)) ∧ (decode cX6_subtract 7 = .ok (.aload_n 0, 1))))) ∧ (((decode cX6_subtract 8 = .ok (.getfield 22, 3)) ∧ ((decode cX6_subtract 11 = .ok (.bipush 16, 2)) ∧ (decode cX6_subtract 13 = .ok (.irem, 1)))) ∧ ((decode cX6_subtract 14 = .ok (.iload_n 1, 1)) ∧ ((decode cX6_subtract 15 = .ok (.bipush 16, 2)) ∧ (decode cX6_subtract 17 = .ok (.irem, 1)))))) ∧ ((((decode cX6_subtract 18 = .ok (.isub, 1)) ∧ ((decode cX6_subtract 19 = .ok (.iconst 1, 1)) ∧ (decode cX6_subtract 20 = .ok (.isub, 1)))) ∧ ((decode cX6_subtract 21 = .ok (.iload_n 2, 1)) ∧ ((decode cX6_subtract 22 = .ok (.iadd, 1)) ∧ (decode cX6_subtract 23 = .ok (.istore_n 3, 1))))) ∧ (((decode cX6_subtract 24 = .ok (.aload_n 0, 1)) ∧ ((decode cX6_subtract 25 = .ok (.getfield 22, 3)) ∧ (decode cX6_subtract 28 = .ok (.bipush 16, 2)))) ∧ ((decode cX6_subtract 30 = .ok (.idiv, 1)) ∧ ((decode cX6_subtract 31 = .ok (.iload_n 1, 1)) ∧ (decode cX6_subtract 32 = .ok (.bipush 16, 2)))))) := by decide +kernel
theorem dX6_subtract_0 : decode cX6_subtract 0 = .ok (.aload_n 0, 1) := q_dg143.1.1.1.1
theorem dX6_subtract_1 : decode cX6_subtract 1 = .ok (.getfield 15, 3) := q_dg143.1.1.1.2.1
theorem dX6_subtract_4 : decode cX6_subtract 4 = .ok (.iconst 1, 1) := q_dg143.1.1.1.2.2
theorem dX6_subtract_5 : decode cX6_subtract 5 = .ok (.iand, 1) := q_dg143.1.1.2.1
theorem dX6_subtract_6 : decode cX6_subtract 6 = .ok (.istore_n 2, 1) := q_dg143.1.1.2.2.1
theorem dX6_subtract_7 : decode cX6_subtract 7 = .ok (.aload_n 0, 1) := q_dg143.1.1.2.2.2
theorem dX6_subtract_8 : decode cX6_subtract 8 = .ok (.getfield 22, 3) := q_dg143.1.2.1.1
theorem dX6_subtract_11 : decode cX6_subtract 11 = .ok (.bipush 16, 2) := q_dg143.1.2.1.2.1
theorem dX6_subtract_13 : decode cX6_subtract 13 = .ok (.irem, 1) := q_dg143.1.2.1.2.2
theorem dX6_subtract_14 : decode cX6_subtract 14 = .ok (.iload_n 1, 1) := q_dg143.1.2.2.1
theorem dX6_subtract_15 : decode cX6_subtract 15 = .ok (.bipush 16, 2) := q_dg143.1.2.2.2.1
theorem dX6_subtract_17 : decode cX6_subtract 17 = .ok (.irem, 1) := q_dg143.1.2.2.2.2
theorem dX6_subtract_18 : decode cX6_subtract 18 = .ok (.isub, 1) := q_dg143.2.1.1.1
theorem dX6_subtract_19 : decode cX6_subtract 19 = .ok (.iconst 1, 1) := q_dg143.2.1.1.2.1
theorem dX6_subtract_20 : decode cX6_subtract 20 = .ok (.isub, 1) := q_dg143.2.1.1.2.2
theorem dX6_subtract_21 : decode cX6_subtract 21 = .ok (.iload_n 2, 1) := q_dg143.2.1.2.1
theorem dX6_subtract_22 : decode cX6_subtract 22 = .ok (.iadd, 1) := q_dg143.2.1.2.2.1
theorem dX6_subtract_23 : decode cX6_subtract 23 = .ok (.istore_n 3, 1) := q_dg143.2.1.2.2.2
theorem dX6_subtract_24 : decode cX6_subtract 24 = .ok (.aload_n 0, 1) := q_dg143.2.2.1.1
theorem dX6_subtract_25 : decode cX6_subtract 25 = .ok (.getfield 22, 3) := q_dg143.2.2.1.2.1
theorem dX6_subtract_28 : decode cX6_subtract 28 = .ok (.bipush 16, 2) := q_dg143.2.2.1.2.2
theorem dX6_subtract_30 : decode cX6_subtract 30 = .ok (.idiv, 1) := q_dg143.2.2.2.1
theorem dX6_subtract_31 : decode cX6_subtract 31 = .ok (.iload_n 1, 1) := q_dg143.2.2.2.2.1
theorem dX6_subtract_32 : decode cX6_subtract 32 = .ok (.bipush 16, 2) := q_dg143.2.2.2.2.2
theorem q_dg144 : ((((decode cX6_subtract 34 = .ok (.idiv, 1)) ∧ ((decode cX6_subtract 35 = .ok (.isub, 1)) ∧ (decode cX6_subtract 36 = .ok (.istore 4, 2)))) ∧ ((decode cX6_subtract 38 = .ok (.aload_n 0, 1)) ∧ ((decode cX6_subtract 39 = .ok (.sipush 255, 3)) ∧ (decode cX6_subtract 42 = .ok (.iload_n 1, 1))))) ∧ (((decode cX6_subtract 43 = .ok (.isub, 1)) ∧ ((decode cX6_subtract 44 = .ok (.invokevirtual 182, 3)) ∧ (decode cX6_subtract 47 = .ok (.aload_n 0, 1)))) ∧ ((decode cX6_subtract 48 = .ok (.getfield 15, 3)) ∧ ((decode cX6_subtract 51 = .ok (.bipush 8, 2)) ∧ (decode cX6_subtract 53 = .ok (.iand, 1)))))) ∧ ((((decode cX6_subtract 54 = .ok (.ifCond .ne 4, 3)) ∧ ((decode cX6_subtract 57 = .ok (.return_, 1)) ∧ (decode cX6_subtract 58 = .ok (.iload_n 3, 1)))) ∧ ((decode cX6_subtract 59 = .ok (.ifCond .ge 9, 3)) ∧ ((decode cX6_subtract 62 = .ok (.iinc 3 10, 3)) ∧ (decode cX6_subtract 65 = .ok (.iinc 4 (-1), 3))))) ∧ (((decode cX6_subtract 68 = .ok (.aload_n 0, 1)) ∧ ((decode cX6_subtract 69 = .ok (.iconst 1, 1)) ∧ (decode cX6_subtract 70 = .ok (.iload 4, 2)))) ∧ ((decode cX6_subtract 72 = .ok (.ifCond .lt 7, 3)) ∧ ((decode cX6_subtract 75 = .ok (.iconst 1, 1)) ∧ (decode cX6_subtract 76 = .ok (.goto 4, 3)))))) := by decide +kernel
theorem dX6_subtract_34 : decode cX6_subtract 34 = .ok (.idiv, 1) := q_dg144.1.1.1.1
theorem dX6_subtract_35 : decode cX6_subtract 35 = .ok (.isub, 1) := q_dg144.1.1.1.2.1
theorem dX6_subtract_36 : decode cX6_subtract 36 = .ok (.istore 4, 2) := q_dg144.1.1.1.2.2
theorem dX6_subtract_38 : decode cX6_subtract 38 = .ok (.aload_n 0, 1) := q_dg144.1.1.2.1
theorem dX6_subtract_39 : decode cX6_subtract 39 = .ok (.sipush 255, 3) := q_dg144.1.1.2.2.1
theorem dX6_subtract_42 : decode cX6_subtract 42 = .ok (.iload_n 1, 1) := q_dg144.1.1.2.2.2
theorem dX6_subtract_43 : decode cX6_subtract 43 = .ok (.isub, 1) := q_dg144.1.2.1.1
theorem dX6_subtract_44 : decode cX6_subtract 44 = .ok (.invokevirtual 182, 3) := q_dg144.1.2.1.2.1
theorem dX6_subtract_47 : decode cX6_subtract 47 = .ok (.aload_n 0, 1) := q_dg144.1.2.1.2.2
theorem dX6_subtract_48 : decode cX6_subtract 48 = .ok (.getfield 15, 3) := q_dg144.1.2.2.1
theorem dX6_subtract_51 : decode cX6_subtract 51 = .ok (.bipush 8, 2) := q_dg144.1.2.2.2.1
theorem dX6_subtract_53 : decode cX6_subtract 53 = .ok (.iand, 1) := q_dg144.1.2.2.2.2
theorem dX6_subtract_54 : decode cX6_subtract 54 = .ok (.ifCond .ne 4, 3) := q_dg144.2.1.1.1
theorem dX6_subtract_57 : decode cX6_subtract 57 = .ok (.return_, 1) := q_dg144.2.1.1.2.1
theorem dX6_subtract_58 : decode cX6_subtract 58 = .ok (.iload_n 3, 1) := q_dg144.2.1.1.2.2
theorem dX6_subtract_59 : decode cX6_subtract 59 = .ok (.ifCond .ge 9, 3) := q_dg144.2.1.2.1
theorem dX6_subtract_62 : decode cX6_subtract 62 = .ok (.iinc 3 10, 3) := q_dg144.2.1.2.2.1
theorem dX6_subtract_65 : decode cX6_subtract 65 = .ok (.iinc 4 (-1), 3) := q_dg144.2.1.2.2.2
theorem dX6_subtract_68 : decode cX6_subtract 68 = .ok (.aload_n 0, 1) := q_dg144.2.2.1.1
theorem dX6_subtract_69 : decode cX6_subtract 69 = .ok (.iconst 1, 1) := q_dg144.2.2.1.2.1
theorem dX6_subtract_70 : decode cX6_subtract 70 = .ok (.iload 4, 2) := q_dg144.2.2.1.2.2
theorem dX6_subtract_72 : decode cX6_subtract 72 = .ok (.ifCond .lt 7, 3) := q_dg144.2.2.2.1
theorem dX6_subtract_75 : decode cX6_subtract 75 = .ok (.iconst 1, 1) := q_dg144.2.2.2.2.1
theorem dX6_subtract_76 : decode cX6_subtract 76 = .ok (.goto 4, 3) := q_dg144.2.2.2.2.2
theorem q_dg145 : ((((decode cX6_subtract 79 = .ok (.iconst 0, 1)) ∧ (decode cX6_subtract 80 = .ok (.invokevirtual 165, 3))) ∧ ((decode cX6_subtract 83 = .ok (.iload 4, 2)) ∧ (decode cX6_subtract 85 = .ok (.ifCond .ge 6, 3)))) ∧ (((decode cX6_subtract 88 = .ok (.iinc 4 10, 3)) ∧ (decode cX6_subtract 91 = .ok (.aload_n 0, 1))) ∧ ((decode cX6_subtract 92 = .ok (.aload_n 0, 1)) ∧ (decode cX6_subtract 93 = .ok (.bipush 16, 2))))) ∧ ((((decode cX6_subtract 95 = .ok (.iload 4, 2)) ∧ (decode cX6_subtract 97 = .ok (.imul, 1))) ∧ ((decode cX6_subtract 98 = .ok (.iload_n 3, 1)) ∧ (decode cX6_subtract 99 = .ok (.iadd, 1)))) ∧ (((decode cX6_subtract 100 = .ok (.sipush 255, 3)) ∧ (decode cX6_subtract 103 = .ok (.iand, 1))) ∧ ((decode cX6_subtract 104 = .ok (.invokevirtual 169, 3)) ∧ ((decode cX6_subtract 107 = .ok (.putfield 22, 3)) ∧ (decode cX6_subtract 110 = .ok (.return_, 1)))))) := by decide +kernel
theorem dX6_subtract_79 : decode cX6_subtract 79 = .ok (.iconst 0, 1) := q_dg145.1.1.1.1
theorem dX6_subtract_80 : decode cX6_subtract 80 = .ok (.invokevirtual 165, 3) := q_dg145.1.1.1.2
theorem dX6_subtract_83 : decode cX6_subtract 83 = .ok (.iload 4, 2) := q_dg145.1.1.2.1
theorem dX6_subtract_85 : decode cX6_subtract 85 = .ok (.ifCond .ge 6, 3) := q_dg145.1.1.2.2
theorem dX6_subtract_88 : decode cX6_subtract 88 = .ok (.iinc 4 10, 3) := q_dg145.1.2.1.1
theorem dX6_subtract_91 : decode cX6_subtract 91 = .ok (.aload_n 0, 1) := q_dg145.1.2.1.2
theorem dX6_subtract_92 : decode cX6_subtract 92 = .ok (.aload_n 0, 1) := q_dg145.1.2.2.1
theorem dX6_subtract_93 : decode cX6_subtract 93 = .ok (.bipush 16, 2) := q_dg145.1.2.2.2
theorem dX6_subtract_95 : decode cX6_subtract 95 = .ok (.iload 4, 2) := q_dg145.2.1.1.1
theorem dX6_subtract_97 : decode cX6_subtract 97 = .ok (.imul, 1) := q_dg145.2.1.1.2
theorem dX6_subtract_98 : decode cX6_subtract 98 = .ok (.iload_n 3, 1) := q_dg145.2.1.2.1
theorem dX6_subtract_99 : decode cX6_subtract 99 = .ok (.iadd, 1) := q_dg145.2.1.2.2
theorem dX6_subtract_100 : decode cX6_subtract 100 = .ok (.sipush 255, 3) := q_dg145.2.2.1.1
theorem dX6_subtract_103 : decode cX6_subtract 103 = .ok (.iand, 1) := q_dg145.2.2.1.2
theorem dX6_subtract_104 : decode cX6_subtract 104 = .ok (.invokevirtual 169, 3) := q_dg145.2.2.2.1
theorem dX6_subtract_107 : decode cX6_subtract 107 = .ok (.putfield 22, 3) := q_dg145.2.2.2.2.1
theorem dX6_subtract_110 : decode cX6_subtract 110 = .ok (.return_, 1) := q_dg145.2.2.2.2.2
theorem q_dg146 : ((((decode cX6_addBinary 0 = .ok (.aload_n 0, 1)) ∧ ((decode cX6_addBinary 1 = .ok (.getfield 22, 3)) ∧ (decode cX6_addBinary 4 = .ok (.iload_n 1, 1)))) ∧ ((decode cX6_addBinary 5 = .ok (.iadd, 1)) ∧ ((decode cX6_addBinary 6 = .ok (.aload_n 0, 1)) ∧ (decode cX6_addBinary 7 = .ok (.getfield 15, 3))))) ∧ (((decode cX6_addBinary 10 = .ok (.iconst 1, 1)) ∧ ((decode cX6_addBinary 11 = .ok (.iand, 1)) ∧ (decode cX6_addBinary 12 = .ok (.iadd, 1)))) ∧ ((decode cX6_addBinary 13 = .ok (.istore_n 2, 1)) ∧ ((decode cX6_addBinary 14 = .ok (.aload_n 0, 1)) ∧ (decode cX6_addBinary 15 = .ok (.bipush 64, 2)))))) ∧ ((((decode cX6_addBinary 17 = .ok (.aload_n 0, 1)) ∧ ((decode cX6_addBinary 18 = .ok (.getfield 22, 3)) ∧ (decode cX6_addBinary 21 = .ok (.iload_n 2, 1)))) ∧ ((decode cX6_addBinary 22 = .ok (.ixor, 1)) ∧ ((decode cX6_addBinary 23 = .ok (.iload_n 1, 1)) ∧ (decode cX6_addBinary 24 = .ok (.iload_n 2, 1))))) ∧ (((decode cX6_addBinary 25 = .ok (.ixor, 1)) ∧ ((decode cX6_addBinary 26 = .ok (.iand, 1)) ∧ (decode cX6_addBinary 27 = .ok (.sipush 128, 3)))) ∧ ((decode cX6_addBinary 30 = .ok (.iand, 1)) ∧ ((decode cX6_addBinary 31 = .ok (.ifCond .eq 7, 3)) ∧ (decode cX6_addBinary 34 = .ok (.iconst 1, 1)))))) := by decide +kernel
theorem dX6_addBinary_0 : decode cX6_addBinary 0 = .ok (.aload_n 0, 1) := q_dg146.1.1.1.1
theorem dX6_addBinary_1 : decode cX6_addBinary 1 = .ok (.getfield 22, 3) := q_dg146.1.1.1.2.1
theorem dX6_addBinary_4 : decode cX6_addBinary 4 = .ok (.iload_n 1, 1) := q_dg146.1.1.1.2.2
theorem dX6_addBinary_5 : decode cX6_addBinary 5 = .ok (.iadd, 1) := q_dg146.1.1.2.1
theorem dX6_addBinary_6 : decode cX6_addBinary 6 = .ok (.aload_n 0, 1) := q_dg146.1.1.2.2.1
theorem dX6_addBinary_7 : decode cX6_addBinary 7 = .ok (.getfield 15, 3) := q_dg146.1.1.2.2.2
theorem dX6_addBinary_10 : decode cX6_addBinary 10 = .ok (.iconst 1, 1) := q_dg146.1.2.1.1
theorem dX6_addBinary_11 : decode cX6_addBinary 11 = .ok (.iand, 1) := q_dg146.1.2.1.2.1
theorem dX6_addBinary_12 : decode cX6_addBinary 12 = .ok (.iadd, 1) := q_dg146.1.2.1.2.2
theorem dX6_addBinary_13 : decode cX6_addBinary 13 = .ok (.istore_n 2, 1) := q_dg146.1.2.2.1
theorem dX6_addBinary_14 : decode cX6_addBinary 14 = .ok (.aload_n 0, 1) := q_dg146.1.2.2.2.1
theorem dX6_addBinary_15 : decode cX6_addBinary 15 = .ok (.bipush 64, 2) := q_dg146.1.2.2.2.2
theorem dX6_addBinary_17 : decode cX6_addBinary 17 = .ok (.aload_n 0, 1) := q_dg146.2.1.1.1
theorem dX6_addBinary_18 : decode cX6_addBinary 18 = .ok (.getfield 22, 3) := q_dg146.2.1.1.2.1
theorem dX6_addBinary_21 : decode cX6_addBinary 21 = .ok (.iload_n 2, 1) := q_dg146.2.1.1.2.2
theorem dX6_addBinary_22 : decode cX6_addBinary 22 = .ok (.ixor, 1) := q_dg146.2.1.2.1
theorem dX6_addBinary_23 : decode cX6_addBinary 23 = .ok (.iload_n 1, 1) := q_dg146.2.1.2.2.1
theorem dX6_addBinary_24 : decode cX6_addBinary 24 = .ok (.iload_n 2, 1) := q_dg146.2.1.2.2.2
theorem dX6_addBinary_25 : decode cX6_addBinary 25 = .ok (.ixor, 1) := q_dg146.2.2.1.1
theorem dX6_addBinary_26 : decode cX6_addBinary 26 = .ok (.iand, 1) := q_dg146.2.2.1.2.1
theorem dX6_addBinary_27 : decode cX6_addBinary 27 = .ok (.sipush 128, 3) := q_dg146.2.2.1.2.2
theorem dX6_addBinary_30 : decode cX6_addBinary 30 = .ok (.iand, 1) := q_dg146.2.2.2.1
theorem dX6_addBinary_31 : decode cX6_addBinary 31 = .ok (.ifCond .eq 7, 3) := q_dg146.2.2.2.2.1
theorem dX6_addBinary_34 : decode cX6_addBinary 34 = .ok (.iconst 1, 1) := q_dg146.2.2.2.2.2
theorem q_dg147 : ((((decode cX6_addBinary 35 = .ok (.goto 4, 3)) ∧ (decode cX6_addBinary 38 = .ok (.iconst 0, 1))) ∧ ((decode cX6_addBinary 39 = .ok (.invokevirtual 165, 3)) ∧ ((decode cX6_addBinary 42 = .ok (.aload_n 0, 1)) ∧ (decode cX6_addBinary 43 = .ok (.iconst 1, 1))))) ∧ (((decode cX6_addBinary 44 = .ok (.iload_n 2, 1)) ∧ (decode cX6_addBinary 45 = .ok (.sipush 255, 3))) ∧ ((decode cX6_addBinary 48 = .ok (.if_icmp .le 7, 3)) ∧ ((decode cX6_addBinary 51 = .ok (.iconst 1, 1)) ∧ (decode cX6_addBinary 52 = .ok (.goto 4, 3)))))) ∧ ((((decode cX6_addBinary 55 = .ok (.iconst 0, 1)) ∧ (decode cX6_addBinary 56 = .ok (.invokevirtual 165, 3))) ∧ ((decode cX6_addBinary 59 = .ok (.aload_n 0, 1)) ∧ ((decode cX6_addBinary 60 = .ok (.aload_n 0, 1)) ∧ (decode cX6_addBinary 61 = .ok (.iload_n 2, 1))))) ∧ (((decode cX6_addBinary 62 = .ok (.sipush 255, 3)) ∧ (decode cX6_addBinary 65 = .ok (.iand, 1))) ∧ ((decode cX6_addBinary 66 = .ok (.invokevirtual 169, 3)) ∧ ((decode cX6_addBinary 69 = .ok (.putfield 22, 3)) ∧ (decode cX6_addBinary 72 = .ok (.return_, 1)))))) := by decide +kernel
theorem dX6_addBinary_35 : decode cX6_addBinary 35 = .ok (.goto 4, 3) := q_dg147.1.1.1.1
theorem dX6_addBinary_38 : decode cX6_addBinary 38 = .ok (.iconst 0, 1) := q_dg147.1.1.1.2
theorem dX6_addBinary_39 : decode cX6_addBinary 39 = .ok (.invokevirtual 165, 3) := q_dg147.1.1.2.1
theorem dX6_addBinary_42 : decode cX6_addBinary 42 = .ok (.aload_n 0, 1) := q_dg147.1.1.2.2.1
theorem dX6_addBinary_43 : decode cX6_addBinary 43 = .ok (.iconst 1, 1) := q_dg147.1.1.2.2.2
theorem dX6_addBinary_44 : decode cX6_addBinary 44 = .ok (.iload_n 2, 1) := q_dg147.1.2.1.1
theorem dX6_addBinary_45 : decode cX6_addBinary 45 = .ok (.sipush 255, 3) := q_dg147.1.2.1.2
theorem dX6_addBinary_48 : decode cX6_addBinary 48 = .ok (.if_icmp .le 7, 3) := q_dg147.1.2.2.1
theorem dX6_addBinary_51 : decode cX6_addBinary 51 = .ok (.iconst 1, 1) := q_dg147.1.2.2.2.1
theorem dX6_addBinary_52 : decode cX6_addBinary 52 = .ok (.goto 4, 3) := q_dg147.1.2.2.2.2
theorem dX6_addBinary_55 : decode cX6_addBinary 55 = .ok (.iconst 0, 1) := q_dg147.2.1.1.1
theorem dX6_addBinary_56 : decode cX6_addBinary 56 = .ok (.invokevirtual 165, 3) := q_dg147.2.1.1.2
theorem dX6_addBinary_59 : decode cX6_addBinary 59 = .ok (.aload_n 0, 1) := q_dg147.2.1.2.1
theorem dX6_addBinary_60 : decode cX6_addBinary 60 = .ok (.aload_n 0, 1) := q_dg147.2.1.2.2.1
theorem dX6_addBinary_61 : decode cX6_addBinary 61 = .ok (.iload_n 2, 1) := q_dg147.2.1.2.2.2
theorem dX6_addBinary_62 : decode cX6_addBinary 62 = .ok (.sipush 255, 3) := q_dg147.2.2.1.1
theorem dX6_addBinary_65 : decode cX6_addBinary 65 = .ok (.iand, 1) := q_dg147.2.2.1.2
theorem dX6_addBinary_66 : decode cX6_addBinary 66 = .ok (.invokevirtual 169, 3) := q_dg147.2.2.2.1
theorem dX6_addBinary_69 : decode cX6_addBinary 69 = .ok (.putfield 22, 3) := q_dg147.2.2.2.2.1
theorem dX6_addBinary_72 : decode cX6_addBinary 72 = .ok (.return_, 1) := q_dg147.2.2.2.2.2
theorem q_dg148 : ((((decode cX6_doPlain 0 = .ok (.iload_n 2, 1)) ∧ ((decode cX6_doPlain 1 = .ok (.sipush 137, 3)) ∧ (decode cX6_doPlain 4 = .ok (.if_icmp .gt 11, 3)))) ∧ ((decode cX6_doPlain 7 = .ok (.aload_n 0, 1)) ∧ ((decode cX6_doPlain 8 = .ok (.iload_n 2, 1)) ∧ (decode cX6_doPlain 9 = .ok (.invokevirtual 185, 3))))) ∧ (((decode cX6_doPlain 12 = .ok (.goto 127, 3)) ∧ ((decode cX6_doPlain 15 = .ok (.iload_n 2, 1)) ∧ (decode cX6_doPlain 16 = .ok (.sipush 142, 3)))) ∧ ((decode cX6_doPlain 19 = .ok (.if_icmp .lt 18, 3)) ∧ ((decode cX6_doPlain 22 = .ok (.iload_n 2, 1)) ∧ (decode cX6_doPlain 23 = .ok (.sipush 148, 3)))))) ∧ ((((decode cX6_doPlain 26 = .ok (.if_icmp .gt 11, 3)) ∧ ((decode cX6_doPlain 29 = .ok (.aload_n 0, 1)) ∧ (decode cX6_doPlain 30 = .ok (.iload_n 2, 1)))) ∧ ((decode cX6_doPlain 31 = .ok (.invokevirtual 188, 3)) ∧ ((decode cX6_doPlain 34 = .ok (.goto 105, 3)) ∧ (decode cX6_doPlain 37 = .ok (.iload_n 2, 1))))) ∧ (((decode cX6_doPlain 38 = .ok (.sipush 150, 3)) ∧ ((decode cX6_doPlain 41 = .ok (.if_icmp .lt 11, 3)) ∧ (decode cX6_doPlain 44 = .ok (.aload_n 0, 1)))) ∧ ((decode cX6_doPlain 45 = .ok (.iload_n 2, 1)) ∧ ((decode cX6_doPlain 46 = .ok (.invokevirtual 191, 3)) ∧ (decode cX6_doPlain 49 = .ok (.goto 90, 3)))))) := by decide +kernel
theorem dX6_doPlain_0 : decode cX6_doPlain 0 = .ok (.iload_n 2, 1) := q_dg148.1.1.1.1
theorem dX6_doPlain_1 : decode cX6_doPlain 1 = .ok (.sipush 137, 3) := q_dg148.1.1.1.2.1
theorem dX6_doPlain_4 : decode cX6_doPlain 4 = .ok (.if_icmp .gt 11, 3) := q_dg148.1.1.1.2.2
theorem dX6_doPlain_7 : decode cX6_doPlain 7 = .ok (.aload_n 0, 1) := q_dg148.1.1.2.1
theorem dX6_doPlain_8 : decode cX6_doPlain 8 = .ok (.iload_n 2, 1) := q_dg148.1.1.2.2.1
theorem dX6_doPlain_9 : decode cX6_doPlain 9 = .ok (.invokevirtual 185, 3) := q_dg148.1.1.2.2.2
theorem dX6_doPlain_12 : decode cX6_doPlain 12 = .ok (.goto 127, 3) := q_dg148.1.2.1.1
theorem dX6_doPlain_15 : decode cX6_doPlain 15 = .ok (.iload_n 2, 1) := q_dg148.1.2.1.2.1
theorem dX6_doPlain_16 : decode cX6_doPlain 16 = .ok (.sipush 142, 3) := q_dg148.1.2.1.2.2
theorem dX6_doPlain_19 : decode cX6_doPlain 19 = .ok (.if_icmp .lt 18, 3) := q_dg148.1.2.2.1
theorem dX6_doPlain_22 : decode cX6_doPlain 22 = .ok (.iload_n 2, 1) := q_dg148.1.2.2.2.1
theorem dX6_doPlain_23 : decode cX6_doPlain 23 = .ok (.sipush 148, 3) := q_dg148.1.2.2.2.2
theorem dX6_doPlain_26 : decode cX6_doPlain 26 = .ok (.if_icmp .gt 11, 3) := q_dg148.2.1.1.1
theorem dX6_doPlain_29 : decode cX6_doPlain 29 = .ok (.aload_n 0, 1) := q_dg148.2.1.1.2.1
theorem dX6_doPlain_30 : decode cX6_doPlain 30 = .ok (.iload_n 2, 1) := q_dg148.2.1.1.2.2
theorem dX6_doPlain_31 : decode cX6_doPlain 31 = .ok (.invokevirtual 188, 3) := q_dg148.2.1.2.1
theorem dX6_doPlain_34 : decode cX6_doPlain 34 = .ok (.goto 105, 3) := q_dg148.2.1.2.2.1
theorem dX6_doPlain_37 : decode cX6_doPlain 37 = .ok (.iload_n 2, 1) := q_dg148.2.1.2.2.2
theorem dX6_doPlain_38 : decode cX6_doPlain 38 = .ok (.sipush 150, 3) := q_dg148.2.2.1.1
theorem dX6_doPlain_41 : decode cX6_doPlain 41 = .ok (.if_icmp .lt 11, 3) := q_dg148.2.2.1.2.1
theorem dX6_doPlain_44 : decode cX6_doPlain 44 = .ok (.aload_n 0, 1) := q_dg148.2.2.1.2.2
theorem dX6_doPlain_45 : decode cX6_doPlain 45 = .ok (.iload_n 2, 1) := q_dg148.2.2.2.1
theorem dX6_doPlain_46 : decode cX6_doPlain 46 = .ok (.invokevirtual 191, 3) := q_dg148.2.2.2.2.1
theorem dX6_doPlain_49 : decode cX6_doPlain 49 = .ok (.goto 90, 3) := q_dg148.2.2.2.2.2
theorem q_dg149 : ((((decode cX6_doPlain 52 = .ok (.iload_n 2, 1)) ∧ ((decode cX6_doPlain 53 = .ok (.sipush 138, 3)) ∧ (decode cX6_doPlain 56 = .ok (.if_icmp .ne 15, 3)))) ∧ ((decode cX6_doPlain 59 = .ok (.aload_n 0, 1)) ∧ ((decode cX6_doPlain 60 = .ok (.aload_n 1, 1)) ∧ (decode cX6_doPlain 61 = .ok (.aload_n 0, 1))))) ∧ (((decode cX6_doPlain 62 = .ok (.getfield 22, 3)) ∧ ((decode cX6_doPlain 65 = .ok (.invokevirtual 162, 3)) ∧ (decode cX6_doPlain 68 = .ok (.goto 71, 3)))) ∧ ((decode cX6_doPlain 71 = .ok (.iload_n 2, 1)) ∧ ((decode cX6_doPlain 72 = .ok (.sipush 139, 3)) ∧ (decode cX6_doPlain 75 = .ok (.if_icmp .ne 19, 3)))))) ∧ ((((decode cX6_doPlain 78 = .ok (.aload_n 0, 1)) ∧ ((decode cX6_doPlain 79 = .ok (.aload_n 0, 1)) ∧ (decode cX6_doPlain 80 = .ok (.aload_n 0, 1)))) ∧ ((decode cX6_doPlain 81 = .ok (.aload_n 1, 1)) ∧ ((decode cX6_doPlain 82 = .ok (.invokevirtual 194, 3)) ∧ (decode cX6_doPlain 85 = .ok (.invokevirtual 169, 3))))) ∧ (((decode cX6_doPlain 88 = .ok (.putfield 22, 3)) ∧ ((decode cX6_doPlain 91 = .ok (.goto 48, 3)) ∧ (decode cX6_doPlain 94 = .ok (.iload_n 2, 1)))) ∧ ((decode cX6_doPlain 95 = .ok (.sipush 140, 3)) ∧ ((decode cX6_doPlain 98 = .ok (.if_icmp .ne 21, 3)) ∧ (decode cX6_doPlain 101 = .ok (.aload_n 0, 1)))))) := by decide +kernel
theorem dX6_doPlain_52 : decode cX6_doPlain 52 = .ok (.iload_n 2, 1) := q_dg149.1.1.1.1
theorem dX6_doPlain_53 : decode cX6_doPlain 53 = .ok (.sipush 138, 3) := q_dg149.1.1.1.2.1
theorem dX6_doPlain_56 : decode cX6_doPlain 56 = .ok (.if_icmp .ne 15, 3) := q_dg149.1.1.1.2.2
theorem dX6_doPlain_59 : decode cX6_doPlain 59 = .ok (.aload_n 0, 1) := q_dg149.1.1.2.1
theorem dX6_doPlain_60 : decode cX6_doPlain 60 = .ok (.aload_n 1, 1) := q_dg149.1.1.2.2.1
theorem dX6_doPlain_61 : decode cX6_doPlain 61 = .ok (.aload_n 0, 1) := q_dg149.1.1.2.2.2
theorem dX6_doPlain_62 : decode cX6_doPlain 62 = .ok (.getfield 22, 3) := q_dg149.1.2.1.1
theorem dX6_doPlain_65 : decode cX6_doPlain 65 = .ok (.invokevirtual 162, 3) := q_dg149.1.2.1.2.1
theorem dX6_doPlain_68 : decode cX6_doPlain 68 = .ok (.goto 71, 3) := q_dg149.1.2.1.2.2
theorem dX6_doPlain_71 : decode cX6_doPlain 71 = .ok (.iload_n 2, 1) := q_dg149.1.2.2.1
theorem dX6_doPlain_72 : decode cX6_doPlain 72 = .ok (.sipush 139, 3) := q_dg149.1.2.2.2.1
theorem dX6_doPlain_75 : decode cX6_doPlain 75 = .ok (.if_icmp .ne 19, 3) := q_dg149.1.2.2.2.2
theorem dX6_doPlain_78 : decode cX6_doPlain 78 = .ok (.aload_n 0, 1) := q_dg149.2.1.1.1
theorem dX6_doPlain_79 : decode cX6_doPlain 79 = .ok (.aload_n 0, 1) := q_dg149.2.1.1.2.1
theorem dX6_doPlain_80 : decode cX6_doPlain 80 = .ok (.aload_n 0, 1) := q_dg149.2.1.1.2.2
theorem dX6_doPlain_81 : decode cX6_doPlain 81 = .ok (.aload_n 1, 1) := q_dg149.2.1.2.1
theorem dX6_doPlain_82 : decode cX6_doPlain 82 = .ok (.invokevirtual 194, 3) := q_dg149.2.1.2.2.1
theorem dX6_doPlain_85 : decode cX6_doPlain 85 = .ok (.invokevirtual 169, 3) := q_dg149.2.1.2.2.2
theorem dX6_doPlain_88 : decode cX6_doPlain 88 = .ok (.putfield 22, 3) := q_dg149.2.2.1.1
theorem dX6_doPlain_91 : decode cX6_doPlain 91 = .ok (.goto 48, 3) := q_dg149.2.2.1.2.1
theorem dX6_doPlain_94 : decode cX6_doPlain 94 = .ok (.iload_n 2, 1) := q_dg149.2.2.1.2.2
theorem dX6_doPlain_95 : decode cX6_doPlain 95 = .ok (.sipush 140, 3) := q_dg149.2.2.2.1
theorem dX6_doPlain_98 : decode cX6_doPlain 98 = .ok (.if_icmp .ne 21, 3) := q_dg149.2.2.2.2.1
theorem dX6_doPlain_101 : decode cX6_doPlain 101 = .ok (.aload_n 0, 1) := q_dg149.2.2.2.2.2
theorem q_dg150 : ((((decode cX6_doPlain 102 = .ok (.aload_n 1, 1)) ∧ (decode cX6_doPlain 103 = .ok (.aload_n 0, 1))) ∧ ((decode cX6_doPlain 104 = .ok (.getfield 15, 3)) ∧ ((decode cX6_doPlain 107 = .ok (.bipush 32, 2)) ∧ (decode cX6_doPlain 109 = .ok (.ior, 1))))) ∧ (((decode cX6_doPlain 110 = .ok (.bipush 16, 2)) ∧ (decode cX6_doPlain 112 = .ok (.ior, 1))) ∧ ((decode cX6_doPlain 113 = .ok (.invokevirtual 162, 3)) ∧ ((decode cX6_doPlain 116 = .ok (.goto 23, 3)) ∧ (decode cX6_doPlain 119 = .ok (.iload_n 2, 1)))))) ∧ ((((decode cX6_doPlain 120 = .ok (.sipush 141, 3)) ∧ (decode cX6_doPlain 123 = .ok (.if_icmp .ne 16, 3))) ∧ ((decode cX6_doPlain 126 = .ok (.aload_n 0, 1)) ∧ ((decode cX6_doPlain 127 = .ok (.aload_n 0, 1)) ∧ (decode cX6_doPlain 128 = .ok (.aload_n 1, 1))))) ∧ (((decode cX6_doPlain 129 = .ok (.invokevirtual 194, 3)) ∧ (decode cX6_doPlain 132 = .ok (.sipush 207, 3))) ∧ ((decode cX6_doPlain 135 = .ok (.iand, 1)) ∧ ((decode cX6_doPlain 136 = .ok (.putfield 15, 3)) ∧ (decode cX6_doPlain 139 = .ok (.return_, 1)))))) := by decide +kernel
theorem dX6_doPlain_102 : decode cX6_doPlain 102 = .ok (.aload_n 1, 1) := q_dg150.1.1.1.1
theorem dX6_doPlain_103 : decode cX6_doPlain 103 = .ok (.aload_n 0, 1) := q_dg150.1.1.1.2
theorem dX6_doPlain_104 : decode cX6_doPlain 104 = .ok (.getfield 15, 3) := q_dg150.1.1.2.1
theorem dX6_doPlain_107 : decode cX6_doPlain 107 = .ok (.bipush 32, 2) := q_dg150.1.1.2.2.1
theorem dX6_doPlain_109 : decode cX6_doPlain 109 = .ok (.ior, 1) := q_dg150.1.1.2.2.2
theorem dX6_doPlain_110 : decode cX6_doPlain 110 = .ok (.bipush 16, 2) := q_dg150.1.2.1.1
theorem dX6_doPlain_112 : decode cX6_doPlain 112 = .ok (.ior, 1) := q_dg150.1.2.1.2
theorem dX6_doPlain_113 : decode cX6_doPlain 113 = .ok (.invokevirtual 162, 3) := q_dg150.1.2.2.1
theorem dX6_doPlain_116 : decode cX6_doPlain 116 = .ok (.goto 23, 3) := q_dg150.1.2.2.2.1
theorem dX6_doPlain_119 : decode cX6_doPlain 119 = .ok (.iload_n 2, 1) := q_dg150.1.2.2.2.2
theorem dX6_doPlain_120 : decode cX6_doPlain 120 = .ok (.sipush 141, 3) := q_dg150.2.1.1.1
theorem dX6_doPlain_123 : decode cX6_doPlain 123 = .ok (.if_icmp .ne 16, 3) := q_dg150.2.1.1.2
theorem dX6_doPlain_126 : decode cX6_doPlain 126 = .ok (.aload_n 0, 1) := q_dg150.2.1.2.1
theorem dX6_doPlain_127 : decode cX6_doPlain 127 = .ok (.aload_n 0, 1) := q_dg150.2.1.2.2.1
theorem dX6_doPlain_128 : decode cX6_doPlain 128 = .ok (.aload_n 1, 1) := q_dg150.2.1.2.2.2
theorem dX6_doPlain_129 : decode cX6_doPlain 129 = .ok (.invokevirtual 194, 3) := q_dg150.2.2.1.1
theorem dX6_doPlain_132 : decode cX6_doPlain 132 = .ok (.sipush 207, 3) := q_dg150.2.2.1.2
theorem dX6_doPlain_135 : decode cX6_doPlain 135 = .ok (.iand, 1) := q_dg150.2.2.2.1
theorem dX6_doPlain_136 : decode cX6_doPlain 136 = .ok (.putfield 15, 3) := q_dg150.2.2.2.2.1
theorem dX6_doPlain_139 : decode cX6_doPlain 139 = .ok (.return_, 1) := q_dg150.2.2.2.2.2
theorem q_dg151 : ((((decode cX6_jump 0 = .ok (.iload_n 2, 1)) ∧ ((decode cX6_jump 1 = .ok (.tableswitch 123 155 159 #[35, 54, 66, 73, 111], 35)) ∧ (decode cX6_jump 36 = .ok (.aload_n 0, 1)))) ∧ ((decode cX6_jump 37 = .ok (.aload_n 0, 1)) ∧ ((decode cX6_jump 38 = .ok (.aload_n 1, 1)) ∧ (decode cX6_jump 39 = .ok (.invokevirtual 194, 3))))) ∧ (((decode cX6_jump 42 = .ok (.sipush 207, 3)) ∧ ((decode cX6_jump 45 = .ok (.iand, 1)) ∧ (decode cX6_jump 46 = .ok (.putfield 15, 3)))) ∧ ((decode cX6_jump 49 = .ok (.aload_n 0, 1)) ∧ ((decode cX6_jump 50 = .ok (.aload_n 1, 1)) ∧ (decode cX6_jump 51 = .ok (.invokevirtual 197, 3)))))) ∧ ((((decode cX6_jump 54 = .ok (.ireturn, 1)) ∧ ((decode cX6_jump 55 = .ok (.aload_n 0, 1)) ∧ (decode cX6_jump 56 = .ok (.aload_n 1, 1)))) ∧ ((decode cX6_jump 57 = .ok (.invokevirtual 197, 3)) ∧ ((decode cX6_jump 60 = .ok (.iconst 1, 1)) ∧ (decode cX6_jump 61 = .ok (.iadd, 1))))) ∧ (((decode cX6_jump 62 = .ok (.sipush 4095, 3)) ∧ ((decode cX6_jump 65 = .ok (.iand, 1)) ∧ (decode cX6_jump 66 = .ok (.ireturn, 1)))) ∧ ((decode cX6_jump 67 = .ok (.aload_n 0, 1)) ∧ ((decode cX6_jump 68 = .ok (.aload_n 1, 1)) ∧ (decode cX6_jump 69 = .ok (.iconst 3, 1)))))) := by decide +kernel
theorem dX6_jump_0 : decode cX6_jump 0 = .ok (.iload_n 2, 1) := q_dg151.1.1.1.1
theorem dX6_jump_1 : decode cX6_jump 1 = .ok (.tableswitch 123 155 159 #[35, 54, 66, 73, 111], 35) := q_dg151.1.1.1.2.1
theorem dX6_jump_36 : decode cX6_jump 36 = .ok (.aload_n 0, 1) := q_dg151.1.1.1.2.2
theorem dX6_jump_37 : decode cX6_jump 37 = .ok (.aload_n 0, 1) := q_dg151.1.1.2.1
theorem dX6_jump_38 : decode cX6_jump 38 = .ok (.aload_n 1, 1) := q_dg151.1.1.2.2.1
theorem dX6_jump_39 : decode cX6_jump 39 = .ok (.invokevirtual 194, 3) := q_dg151.1.1.2.2.2
theorem dX6_jump_42 : decode cX6_jump 42 = .ok (.sipush 207, 3) := q_dg151.1.2.1.1
theorem dX6_jump_45 : decode cX6_jump 45 = .ok (.iand, 1) := q_dg151.1.2.1.2.1
theorem dX6_jump_46 : decode cX6_jump 46 = .ok (.putfield 15, 3) := q_dg151.1.2.1.2.2
theorem dX6_jump_49 : decode cX6_jump 49 = .ok (.aload_n 0, 1) := q_dg151.1.2.2.1
theorem dX6_jump_50 : decode cX6_jump 50 = .ok (.aload_n 1, 1) := q_dg151.1.2.2.2.1
theorem dX6_jump_51 : decode cX6_jump 51 = .ok (.invokevirtual 197, 3) := q_dg151.1.2.2.2.2
theorem dX6_jump_54 : decode cX6_jump 54 = .ok (.ireturn, 1) := q_dg151.2.1.1.1
theorem dX6_jump_55 : decode cX6_jump 55 = .ok (.aload_n 0, 1) := q_dg151.2.1.1.2.1
theorem dX6_jump_56 : decode cX6_jump 56 = .ok (.aload_n 1, 1) := q_dg151.2.1.1.2.2
theorem dX6_jump_57 : decode cX6_jump 57 = .ok (.invokevirtual 197, 3) := q_dg151.2.1.2.1
theorem dX6_jump_60 : decode cX6_jump 60 = .ok (.iconst 1, 1) := q_dg151.2.1.2.2.1
theorem dX6_jump_61 : decode cX6_jump 61 = .ok (.iadd, 1) := q_dg151.2.1.2.2.2
theorem dX6_jump_62 : decode cX6_jump 62 = .ok (.sipush 4095, 3) := q_dg151.2.2.1.1
theorem dX6_jump_65 : decode cX6_jump 65 = .ok (.iand, 1) := q_dg151.2.2.1.2.1
theorem dX6_jump_66 : decode cX6_jump 66 = .ok (.ireturn, 1) := q_dg151.2.2.1.2.2
theorem dX6_jump_67 : decode cX6_jump 67 = .ok (.aload_n 0, 1) := q_dg151.2.2.2.1
theorem dX6_jump_68 : decode cX6_jump 68 = .ok (.aload_n 1, 1) := q_dg151.2.2.2.2.1
theorem dX6_jump_69 : decode cX6_jump 69 = .ok (.iconst 3, 1) := q_dg151.2.2.2.2.2
theorem q_dg152 : ((((decode cX6_jump 70 = .ok (.invokevirtual 103, 3)) ∧ ((decode cX6_jump 73 = .ok (.ireturn, 1)) ∧ (decode cX6_jump 74 = .ok (.aload_n 0, 1)))) ∧ ((decode cX6_jump 75 = .ok (.aload_n 1, 1)) ∧ ((decode cX6_jump 76 = .ok (.iconst 3, 1)) ∧ (decode cX6_jump 77 = .ok (.invokevirtual 103, 3))))) ∧ (((decode cX6_jump 80 = .ok (.istore 4, 2)) ∧ ((decode cX6_jump 82 = .ok (.aload_n 0, 1)) ∧ (decode cX6_jump 83 = .ok (.aload_n 1, 1)))) ∧ ((decode cX6_jump 84 = .ok (.aload_n 0, 1)) ∧ ((decode cX6_jump 85 = .ok (.iconst 2, 1)) ∧ (decode cX6_jump 86 = .ok (.invokevirtual 93, 3)))))) ∧ ((((decode cX6_jump 89 = .ok (.bipush 8, 2)) ∧ ((decode cX6_jump 91 = .ok (.ishr, 1)) ∧ (decode cX6_jump 92 = .ok (.invokevirtual 162, 3)))) ∧ ((decode cX6_jump 95 = .ok (.aload_n 0, 1)) ∧ ((decode cX6_jump 96 = .ok (.aload_n 1, 1)) ∧ (decode cX6_jump 97 = .ok (.aload_n 0, 1))))) ∧ (((decode cX6_jump 98 = .ok (.iconst 2, 1)) ∧ ((decode cX6_jump 99 = .ok (.invokevirtual 93, 3)) ∧ (decode cX6_jump 102 = .ok (.sipush 255, 3)))) ∧ ((decode cX6_jump 105 = .ok (.iand, 1)) ∧ ((decode cX6_jump 106 = .ok (.invokevirtual 162, 3)) ∧ (decode cX6_jump 109 = .ok (.iload 4, 2)))))) := by decide +kernel
theorem dX6_jump_70 : decode cX6_jump 70 = .ok (.invokevirtual 103, 3) := q_dg152.1.1.1.1
theorem dX6_jump_73 : decode cX6_jump 73 = .ok (.ireturn, 1) := q_dg152.1.1.1.2.1
theorem dX6_jump_74 : decode cX6_jump 74 = .ok (.aload_n 0, 1) := q_dg152.1.1.1.2.2
theorem dX6_jump_75 : decode cX6_jump 75 = .ok (.aload_n 1, 1) := q_dg152.1.1.2.1
theorem dX6_jump_76 : decode cX6_jump 76 = .ok (.iconst 3, 1) := q_dg152.1.1.2.2.1
theorem dX6_jump_77 : decode cX6_jump 77 = .ok (.invokevirtual 103, 3) := q_dg152.1.1.2.2.2
theorem dX6_jump_80 : decode cX6_jump 80 = .ok (.istore 4, 2) := q_dg152.1.2.1.1
theorem dX6_jump_82 : decode cX6_jump 82 = .ok (.aload_n 0, 1) := q_dg152.1.2.1.2.1
theorem dX6_jump_83 : decode cX6_jump 83 = .ok (.aload_n 1, 1) := q_dg152.1.2.1.2.2
theorem dX6_jump_84 : decode cX6_jump 84 = .ok (.aload_n 0, 1) := q_dg152.1.2.2.1
theorem dX6_jump_85 : decode cX6_jump 85 = .ok (.iconst 2, 1) := q_dg152.1.2.2.2.1
theorem dX6_jump_86 : decode cX6_jump 86 = .ok (.invokevirtual 93, 3) := q_dg152.1.2.2.2.2
theorem dX6_jump_89 : decode cX6_jump 89 = .ok (.bipush 8, 2) := q_dg152.2.1.1.1
theorem dX6_jump_91 : decode cX6_jump 91 = .ok (.ishr, 1) := q_dg152.2.1.1.2.1
theorem dX6_jump_92 : decode cX6_jump 92 = .ok (.invokevirtual 162, 3) := q_dg152.2.1.1.2.2
theorem dX6_jump_95 : decode cX6_jump 95 = .ok (.aload_n 0, 1) := q_dg152.2.1.2.1
theorem dX6_jump_96 : decode cX6_jump 96 = .ok (.aload_n 1, 1) := q_dg152.2.1.2.2.1
theorem dX6_jump_97 : decode cX6_jump 97 = .ok (.aload_n 0, 1) := q_dg152.2.1.2.2.2
theorem dX6_jump_98 : decode cX6_jump 98 = .ok (.iconst 2, 1) := q_dg152.2.2.1.1
theorem dX6_jump_99 : decode cX6_jump 99 = .ok (.invokevirtual 93, 3) := q_dg152.2.2.1.2.1
theorem dX6_jump_102 : decode cX6_jump 102 = .ok (.sipush 255, 3) := q_dg152.2.2.1.2.2
theorem dX6_jump_105 : decode cX6_jump 105 = .ok (.iand, 1) := q_dg152.2.2.2.1
theorem dX6_jump_106 : decode cX6_jump 106 = .ok (.invokevirtual 162, 3) := q_dg152.2.2.2.2.1
theorem dX6_jump_109 : decode cX6_jump 109 = .ok (.iload 4, 2) := q_dg152.2.2.2.2.2
theorem q_dg153 : ((((decode cX6_jump 111 = .ok (.ireturn, 1)) ∧ ((decode cX6_jump 112 = .ok (.aload_n 0, 1)) ∧ (decode cX6_jump 113 = .ok (.aload_n 1, 1)))) ∧ ((decode cX6_jump 114 = .ok (.aload_n 0, 1)) ∧ ((decode cX6_jump 115 = .ok (.aload_n 1, 1)) ∧ (decode cX6_jump 116 = .ok (.iconst 3, 1))))) ∧ (((decode cX6_jump 117 = .ok (.invokevirtual 103, 3)) ∧ ((decode cX6_jump 120 = .ok (.invokevirtual 200, 3)) ∧ (decode cX6_jump 123 = .ok (.ireturn, 1)))) ∧ ((decode cX6_jump 124 = .ok (.iload_n 2, 1)) ∧ ((decode cX6_jump 125 = .ok (.invokestatic 89, 3)) ∧ (decode cX6_jump 128 = .ok (.ifCond .eq 29, 3)))))) ∧ ((((decode cX6_jump 131 = .ok (.aload_n 0, 1)) ∧ ((decode cX6_jump 132 = .ok (.iload_n 2, 1)) ∧ (decode cX6_jump 133 = .ok (.invokevirtual 119, 3)))) ∧ ((decode cX6_jump 136 = .ok (.ifCond .eq 19, 3)) ∧ ((decode cX6_jump 139 = .ok (.aload_n 0, 1)) ∧ (decode cX6_jump 140 = .ok (.aload_n 1, 1))))) ∧ (((decode cX6_jump 141 = .ok (.aload_n 0, 1)) ∧ ((decode cX6_jump 142 = .ok (.iconst 1, 1)) ∧ (decode cX6_jump 143 = .ok (.invokevirtual 93, 3)))) ∧ ((decode cX6_jump 146 = .ok (.invokevirtual 81, 3)) ∧ ((decode cX6_jump 149 = .ok (.invokevirtual 122, 3)) ∧ (decode cX6_jump 152 = .ok (.goto 4, 3)))))) := by decide +kernel
theorem dX6_jump_111 : decode cX6_jump 111 = .ok (.ireturn, 1) := q_dg153.1.1.1.1
theorem dX6_jump_112 : decode cX6_jump 112 = .ok (.aload_n 0, 1) := q_dg153.1.1.1.2.1
theorem dX6_jump_113 : decode cX6_jump 113 = .ok (.aload_n 1, 1) := q_dg153.1.1.1.2.2
theorem dX6_jump_114 : decode cX6_jump 114 = .ok (.aload_n 0, 1) := q_dg153.1.1.2.1
theorem dX6_jump_115 : decode cX6_jump 115 = .ok (.aload_n 1, 1) := q_dg153.1.1.2.2.1
theorem dX6_jump_116 : decode cX6_jump 116 = .ok (.iconst 3, 1) := q_dg153.1.1.2.2.2
theorem dX6_jump_117 : decode cX6_jump 117 = .ok (.invokevirtual 103, 3) := q_dg153.1.2.1.1
theorem dX6_jump_120 : decode cX6_jump 120 = .ok (.invokevirtual 200, 3) := q_dg153.1.2.1.2.1
theorem dX6_jump_123 : decode cX6_jump 123 = .ok (.ireturn, 1) := q_dg153.1.2.1.2.2
theorem dX6_jump_124 : decode cX6_jump 124 = .ok (.iload_n 2, 1) := q_dg153.1.2.2.1
theorem dX6_jump_125 : decode cX6_jump 125 = .ok (.invokestatic 89, 3) := q_dg153.1.2.2.2.1
theorem dX6_jump_128 : decode cX6_jump 128 = .ok (.ifCond .eq 29, 3) := q_dg153.1.2.2.2.2
theorem dX6_jump_131 : decode cX6_jump 131 = .ok (.aload_n 0, 1) := q_dg153.2.1.1.1
theorem dX6_jump_132 : decode cX6_jump 132 = .ok (.iload_n 2, 1) := q_dg153.2.1.1.2.1
theorem dX6_jump_133 : decode cX6_jump 133 = .ok (.invokevirtual 119, 3) := q_dg153.2.1.1.2.2
theorem dX6_jump_136 : decode cX6_jump 136 = .ok (.ifCond .eq 19, 3) := q_dg153.2.1.2.1
theorem dX6_jump_139 : decode cX6_jump 139 = .ok (.aload_n 0, 1) := q_dg153.2.1.2.2.1
theorem dX6_jump_140 : decode cX6_jump 140 = .ok (.aload_n 1, 1) := q_dg153.2.1.2.2.2
theorem dX6_jump_141 : decode cX6_jump 141 = .ok (.aload_n 0, 1) := q_dg153.2.2.1.1
theorem dX6_jump_142 : decode cX6_jump 142 = .ok (.iconst 1, 1) := q_dg153.2.2.1.2.1
theorem dX6_jump_143 : decode cX6_jump 143 = .ok (.invokevirtual 93, 3) := q_dg153.2.2.1.2.2
theorem dX6_jump_146 : decode cX6_jump 146 = .ok (.invokevirtual 81, 3) := q_dg153.2.2.2.1
theorem dX6_jump_149 : decode cX6_jump 149 = .ok (.invokevirtual 122, 3) := q_dg153.2.2.2.2.1
theorem dX6_jump_152 : decode cX6_jump 152 = .ok (.goto 4, 3) := q_dg153.2.2.2.2.2
theorem q_dg154 : (((decode cX6_jump 155 = .ok (.iload_n 3, 1)) ∧ (decode cX6_jump 156 = .ok (.ireturn, 1))) ∧ ((decode cX6_jump 157 = .ok (.aload_n 0, 1)) ∧ (decode cX6_jump 158 = .ok (.iconst 1, 1)))) ∧ (((decode cX6_jump 159 = .ok (.putfield 38, 3)) ∧ (decode cX6_jump 162 = .ok (.aload_n 0, 1))) ∧ ((decode cX6_jump 163 = .ok (.getfield 31, 3)) ∧ (decode cX6_jump 166 = .ok (.ireturn, 1)))) := by decide +kernel
theorem dX6_jump_155 : decode cX6_jump 155 = .ok (.iload_n 3, 1) := q_dg154.1.1.1
theorem dX6_jump_156 : decode cX6_jump 156 = .ok (.ireturn, 1) := q_dg154.1.1.2
theorem dX6_jump_157 : decode cX6_jump 157 = .ok (.aload_n 0, 1) := q_dg154.1.2.1
theorem dX6_jump_158 : decode cX6_jump 158 = .ok (.iconst 1, 1) := q_dg154.1.2.2
theorem dX6_jump_159 : decode cX6_jump 159 = .ok (.putfield 38, 3) := q_dg154.2.1.1
theorem dX6_jump_162 : decode cX6_jump 162 = .ok (.aload_n 0, 1) := q_dg154.2.1.2
theorem dX6_jump_163 : decode cX6_jump 163 = .ok (.getfield 31, 3) := q_dg154.2.2.1
theorem dX6_jump_166 : decode cX6_jump 166 = .ok (.ireturn, 1) := q_dg154.2.2.2
theorem q_dg155 : ((((decode cX6_wordInPage 0 = .ok (.iload_n 2, 1)) ∧ ((decode cX6_wordInPage 1 = .ok (.sipush 256, 3)) ∧ (decode cX6_wordInPage 4 = .ok (.idiv, 1)))) ∧ ((decode cX6_wordInPage 5 = .ok (.sipush 256, 3)) ∧ ((decode cX6_wordInPage 8 = .ok (.imul, 1)) ∧ (decode cX6_wordInPage 9 = .ok (.iload_n 2, 1))))) ∧ (((decode cX6_wordInPage 10 = .ok (.iconst 1, 1)) ∧ ((decode cX6_wordInPage 11 = .ok (.iadd, 1)) ∧ (decode cX6_wordInPage 12 = .ok (.sipush 255, 3)))) ∧ ((decode cX6_wordInPage 15 = .ok (.iand, 1)) ∧ ((decode cX6_wordInPage 16 = .ok (.iadd, 1)) ∧ (decode cX6_wordInPage 17 = .ok (.istore_n 3, 1)))))) ∧ ((((decode cX6_wordInPage 18 = .ok (.aload_n 1, 1)) ∧ ((decode cX6_wordInPage 19 = .ok (.iload_n 2, 1)) ∧ (decode cX6_wordInPage 20 = .ok (.invokevirtual 81, 3)))) ∧ ((decode cX6_wordInPage 23 = .ok (.sipush 256, 3)) ∧ ((decode cX6_wordInPage 26 = .ok (.aload_n 1, 1)) ∧ (decode cX6_wordInPage 27 = .ok (.iload_n 3, 1))))) ∧ (((decode cX6_wordInPage 28 = .ok (.invokevirtual 81, 3)) ∧ ((decode cX6_wordInPage 31 = .ok (.imul, 1)) ∧ (decode cX6_wordInPage 32 = .ok (.iadd, 1)))) ∧ ((decode cX6_wordInPage 33 = .ok (.sipush 4095, 3)) ∧ ((decode cX6_wordInPage 36 = .ok (.iand, 1)) ∧ (decode cX6_wordInPage 37 = .ok (.ireturn, 1)))))) := by decide +kernel
theorem dX6_wordInPage_0 : decode cX6_wordInPage 0 = .ok (.iload_n 2, 1) := q_dg155.1.1.1.1
theorem dX6_wordInPage_1 : decode cX6_wordInPage 1 = .ok (.sipush 256, 3) := q_dg155.1.1.1.2.1
theorem dX6_wordInPage_4 : decode cX6_wordInPage 4 = .ok (.idiv, 1) := q_dg155.1.1.1.2.2
theorem dX6_wordInPage_5 : decode cX6_wordInPage 5 = .ok (.sipush 256, 3) := q_dg155.1.1.2.1
theorem dX6_wordInPage_8 : decode cX6_wordInPage 8 = .ok (.imul, 1) := q_dg155.1.1.2.2.1
theorem dX6_wordInPage_9 : decode cX6_wordInPage 9 = .ok (.iload_n 2, 1) := q_dg155.1.1.2.2.2
theorem dX6_wordInPage_10 : decode cX6_wordInPage 10 = .ok (.iconst 1, 1) := q_dg155.1.2.1.1
theorem dX6_wordInPage_11 : decode cX6_wordInPage 11 = .ok (.iadd, 1) := q_dg155.1.2.1.2.1
theorem dX6_wordInPage_12 : decode cX6_wordInPage 12 = .ok (.sipush 255, 3) := q_dg155.1.2.1.2.2
theorem dX6_wordInPage_15 : decode cX6_wordInPage 15 = .ok (.iand, 1) := q_dg155.1.2.2.1
theorem dX6_wordInPage_16 : decode cX6_wordInPage 16 = .ok (.iadd, 1) := q_dg155.1.2.2.2.1
theorem dX6_wordInPage_17 : decode cX6_wordInPage 17 = .ok (.istore_n 3, 1) := q_dg155.1.2.2.2.2
theorem dX6_wordInPage_18 : decode cX6_wordInPage 18 = .ok (.aload_n 1, 1) := q_dg155.2.1.1.1
theorem dX6_wordInPage_19 : decode cX6_wordInPage 19 = .ok (.iload_n 2, 1) := q_dg155.2.1.1.2.1
theorem dX6_wordInPage_20 : decode cX6_wordInPage 20 = .ok (.invokevirtual 81, 3) := q_dg155.2.1.1.2.2
theorem dX6_wordInPage_23 : decode cX6_wordInPage 23 = .ok (.sipush 256, 3) := q_dg155.2.1.2.1
theorem dX6_wordInPage_26 : decode cX6_wordInPage 26 = .ok (.aload_n 1, 1) := q_dg155.2.1.2.2.1
theorem dX6_wordInPage_27 : decode cX6_wordInPage 27 = .ok (.iload_n 3, 1) := q_dg155.2.1.2.2.2
theorem dX6_wordInPage_28 : decode cX6_wordInPage 28 = .ok (.invokevirtual 81, 3) := q_dg155.2.2.1.1
theorem dX6_wordInPage_31 : decode cX6_wordInPage 31 = .ok (.imul, 1) := q_dg155.2.2.1.2.1
theorem dX6_wordInPage_32 : decode cX6_wordInPage 32 = .ok (.iadd, 1) := q_dg155.2.2.1.2.2
theorem dX6_wordInPage_33 : decode cX6_wordInPage 33 = .ok (.sipush 4095, 3) := q_dg155.2.2.2.1
theorem dX6_wordInPage_36 : decode cX6_wordInPage 36 = .ok (.iand, 1) := q_dg155.2.2.2.2.1
theorem dX6_wordInPage_37 : decode cX6_wordInPage 37 = .ok (.ireturn, 1) := q_dg155.2.2.2.2.2
theorem q_dg156 : (((decode cX6_pullWord 0 = .ok (.aload_n 0, 1)) ∧ ((decode cX6_pullWord 1 = .ok (.aload_n 1, 1)) ∧ (decode cX6_pullWord 2 = .ok (.invokevirtual 194, 3)))) ∧ (((decode cX6_pullWord 5 = .ok (.istore_n 2, 1)) ∧ (decode cX6_pullWord 6 = .ok (.iload_n 2, 1))) ∧ ((decode cX6_pullWord 7 = .ok (.sipush 256, 3)) ∧ (decode cX6_pullWord 10 = .ok (.aload_n 0, 1))))) ∧ (((decode cX6_pullWord 11 = .ok (.aload_n 1, 1)) ∧ ((decode cX6_pullWord 12 = .ok (.invokevirtual 194, 3)) ∧ (decode cX6_pullWord 15 = .ok (.imul, 1)))) ∧ (((decode cX6_pullWord 16 = .ok (.iadd, 1)) ∧ (decode cX6_pullWord 17 = .ok (.sipush 4095, 3))) ∧ ((decode cX6_pullWord 20 = .ok (.iand, 1)) ∧ (decode cX6_pullWord 21 = .ok (.ireturn, 1))))) := by decide +kernel
theorem dX6_pullWord_0 : decode cX6_pullWord 0 = .ok (.aload_n 0, 1) := q_dg156.1.1.1
theorem dX6_pullWord_1 : decode cX6_pullWord 1 = .ok (.aload_n 1, 1) := q_dg156.1.1.2.1
theorem dX6_pullWord_2 : decode cX6_pullWord 2 = .ok (.invokevirtual 194, 3) := q_dg156.1.1.2.2
theorem dX6_pullWord_5 : decode cX6_pullWord 5 = .ok (.istore_n 2, 1) := q_dg156.1.2.1.1
theorem dX6_pullWord_6 : decode cX6_pullWord 6 = .ok (.iload_n 2, 1) := q_dg156.1.2.1.2
theorem dX6_pullWord_7 : decode cX6_pullWord 7 = .ok (.sipush 256, 3) := q_dg156.1.2.2.1
theorem dX6_pullWord_10 : decode cX6_pullWord 10 = .ok (.aload_n 0, 1) := q_dg156.1.2.2.2
theorem dX6_pullWord_11 : decode cX6_pullWord 11 = .ok (.aload_n 1, 1) := q_dg156.2.1.1
theorem dX6_pullWord_12 : decode cX6_pullWord 12 = .ok (.invokevirtual 194, 3) := q_dg156.2.1.2.1
theorem dX6_pullWord_15 : decode cX6_pullWord 15 = .ok (.imul, 1) := q_dg156.2.1.2.2
theorem dX6_pullWord_16 : decode cX6_pullWord 16 = .ok (.iadd, 1) := q_dg156.2.2.1.1
theorem dX6_pullWord_17 : decode cX6_pullWord 17 = .ok (.sipush 4095, 3) := q_dg156.2.2.1.2
theorem dX6_pullWord_20 : decode cX6_pullWord 20 = .ok (.iand, 1) := q_dg156.2.2.2.1
theorem dX6_pullWord_21 : decode cX6_pullWord 21 = .ok (.ireturn, 1) := q_dg156.2.2.2.2
theorem q_dg157 : ((((decode cX6_isTaken 0 = .ok (.iload_n 1, 1)) ∧ ((decode cX6_isTaken 1 = .ok (.tableswitch 153 160 166 #[43, 58, 73, 88, 103, 120, 137], 43)) ∧ (decode cX6_isTaken 44 = .ok (.aload_n 0, 1)))) ∧ ((decode cX6_isTaken 45 = .ok (.getfield 15, 3)) ∧ ((decode cX6_isTaken 48 = .ok (.iconst 2, 1)) ∧ (decode cX6_isTaken 49 = .ok (.iand, 1))))) ∧ (((decode cX6_isTaken 50 = .ok (.ifCond .ne 7, 3)) ∧ ((decode cX6_isTaken 53 = .ok (.iconst 1, 1)) ∧ (decode cX6_isTaken 54 = .ok (.goto 4, 3)))) ∧ ((decode cX6_isTaken 57 = .ok (.iconst 0, 1)) ∧ ((decode cX6_isTaken 58 = .ok (.ireturn, 1)) ∧ (decode cX6_isTaken 59 = .ok (.aload_n 0, 1)))))) ∧ ((((decode cX6_isTaken 60 = .ok (.getfield 15, 3)) ∧ ((decode cX6_isTaken 63 = .ok (.iconst 2, 1)) ∧ (decode cX6_isTaken 64 = .ok (.iand, 1)))) ∧ ((decode cX6_isTaken 65 = .ok (.ifCond .eq 7, 3)) ∧ ((decode cX6_isTaken 68 = .ok (.iconst 1, 1)) ∧ (decode cX6_isTaken 69 = .ok (.goto 4, 3))))) ∧ (((decode cX6_isTaken 72 = .ok (.iconst 0, 1)) ∧ ((decode cX6_isTaken 73 = .ok (.ireturn, 1)) ∧ (decode cX6_isTaken 74 = .ok (.aload_n 0, 1)))) ∧ ((decode cX6_isTaken 75 = .ok (.getfield 15, 3)) ∧ ((decode cX6_isTaken 78 = .ok (.iconst 1, 1)) ∧ (decode cX6_isTaken 79 = .ok (.iand, 1)))))) := by decide +kernel
theorem dX6_isTaken_0 : decode cX6_isTaken 0 = .ok (.iload_n 1, 1) := q_dg157.1.1.1.1
theorem dX6_isTaken_1 : decode cX6_isTaken 1 = .ok (.tableswitch 153 160 166 #[43, 58, 73, 88, 103, 120, 137], 43) := q_dg157.1.1.1.2.1
theorem dX6_isTaken_44 : decode cX6_isTaken 44 = .ok (.aload_n 0, 1) := q_dg157.1.1.1.2.2
theorem dX6_isTaken_45 : decode cX6_isTaken 45 = .ok (.getfield 15, 3) := q_dg157.1.1.2.1
theorem dX6_isTaken_48 : decode cX6_isTaken 48 = .ok (.iconst 2, 1) := q_dg157.1.1.2.2.1
theorem dX6_isTaken_49 : decode cX6_isTaken 49 = .ok (.iand, 1) := q_dg157.1.1.2.2.2
theorem dX6_isTaken_50 : decode cX6_isTaken 50 = .ok (.ifCond .ne 7, 3) := q_dg157.1.2.1.1
theorem dX6_isTaken_53 : decode cX6_isTaken 53 = .ok (.iconst 1, 1) := q_dg157.1.2.1.2.1
theorem dX6_isTaken_54 : decode cX6_isTaken 54 = .ok (.goto 4, 3) := q_dg157.1.2.1.2.2
theorem dX6_isTaken_57 : decode cX6_isTaken 57 = .ok (.iconst 0, 1) := q_dg157.1.2.2.1
theorem dX6_isTaken_58 : decode cX6_isTaken 58 = .ok (.ireturn, 1) := q_dg157.1.2.2.2.1
theorem dX6_isTaken_59 : decode cX6_isTaken 59 = .ok (.aload_n 0, 1) := q_dg157.1.2.2.2.2
theorem dX6_isTaken_60 : decode cX6_isTaken 60 = .ok (.getfield 15, 3) := q_dg157.2.1.1.1
theorem dX6_isTaken_63 : decode cX6_isTaken 63 = .ok (.iconst 2, 1) := q_dg157.2.1.1.2.1
theorem dX6_isTaken_64 : decode cX6_isTaken 64 = .ok (.iand, 1) := q_dg157.2.1.1.2.2
theorem dX6_isTaken_65 : decode cX6_isTaken 65 = .ok (.ifCond .eq 7, 3) := q_dg157.2.1.2.1
theorem dX6_isTaken_68 : decode cX6_isTaken 68 = .ok (.iconst 1, 1) := q_dg157.2.1.2.2.1
theorem dX6_isTaken_69 : decode cX6_isTaken 69 = .ok (.goto 4, 3) := q_dg157.2.1.2.2.2
theorem dX6_isTaken_72 : decode cX6_isTaken 72 = .ok (.iconst 0, 1) := q_dg157.2.2.1.1
theorem dX6_isTaken_73 : decode cX6_isTaken 73 = .ok (.ireturn, 1) := q_dg157.2.2.1.2.1
theorem dX6_isTaken_74 : decode cX6_isTaken 74 = .ok (.aload_n 0, 1) := q_dg157.2.2.1.2.2
theorem dX6_isTaken_75 : decode cX6_isTaken 75 = .ok (.getfield 15, 3) := q_dg157.2.2.2.1
theorem dX6_isTaken_78 : decode cX6_isTaken 78 = .ok (.iconst 1, 1) := q_dg157.2.2.2.2.1
theorem dX6_isTaken_79 : decode cX6_isTaken 79 = .ok (.iand, 1) := q_dg157.2.2.2.2.2
theorem q_dg158 : ((((decode cX6_isTaken 80 = .ok (.ifCond .ne 7, 3)) ∧ ((decode cX6_isTaken 83 = .ok (.iconst 1, 1)) ∧ (decode cX6_isTaken 84 = .ok (.goto 4, 3)))) ∧ ((decode cX6_isTaken 87 = .ok (.iconst 0, 1)) ∧ ((decode cX6_isTaken 88 = .ok (.ireturn, 1)) ∧ (decode cX6_isTaken 89 = .ok (.aload_n 0, 1))))) ∧ (((decode cX6_isTaken 90 = .ok (.getfield 15, 3)) ∧ ((decode cX6_isTaken 93 = .ok (.iconst 1, 1)) ∧ (decode cX6_isTaken 94 = .ok (.iand, 1)))) ∧ ((decode cX6_isTaken 95 = .ok (.ifCond .eq 7, 3)) ∧ ((decode cX6_isTaken 98 = .ok (.iconst 1, 1)) ∧ (decode cX6_isTaken 99 = .ok (.goto 4, 3)))))) ∧ ((((decode cX6_isTaken 102 = .ok (.iconst 0, 1)) ∧ ((decode cX6_isTaken 103 = .ok (.ireturn, 1)) ∧ (decode cX6_isTaken 104 = .ok (.aload_n 0, 1)))) ∧ ((decode cX6_isTaken 105 = .ok (.getfield 15, 3)) ∧ ((decode cX6_isTaken 108 = .ok (.sipush 128, 3)) ∧ (decode cX6_isTaken 111 = .ok (.iand, 1))))) ∧ (((decode cX6_isTaken 112 = .ok (.ifCond .ne 7, 3)) ∧ ((decode cX6_isTaken 115 = .ok (.iconst 1, 1)) ∧ (decode cX6_isTaken 116 = .ok (.goto 4, 3)))) ∧ ((decode cX6_isTaken 119 = .ok (.iconst 0, 1)) ∧ ((decode cX6_isTaken 120 = .ok (.ireturn, 1)) ∧ (decode cX6_isTaken 121 = .ok (.aload_n 0, 1)))))) := by decide +kernel
theorem dX6_isTaken_80 : decode cX6_isTaken 80 = .ok (.ifCond .ne 7, 3) := q_dg158.1.1.1.1
theorem dX6_isTaken_83 : decode cX6_isTaken 83 = .ok (.iconst 1, 1) := q_dg158.1.1.1.2.1
theorem dX6_isTaken_84 : decode cX6_isTaken 84 = .ok (.goto 4, 3) := q_dg158.1.1.1.2.2
theorem dX6_isTaken_87 : decode cX6_isTaken 87 = .ok (.iconst 0, 1) := q_dg158.1.1.2.1
theorem dX6_isTaken_88 : decode cX6_isTaken 88 = .ok (.ireturn, 1) := q_dg158.1.1.2.2.1
theorem dX6_isTaken_89 : decode cX6_isTaken 89 = .ok (.aload_n 0, 1) := q_dg158.1.1.2.2.2
theorem dX6_isTaken_90 : decode cX6_isTaken 90 = .ok (.getfield 15, 3) := q_dg158.1.2.1.1
theorem dX6_isTaken_93 : decode cX6_isTaken 93 = .ok (.iconst 1, 1) := q_dg158.1.2.1.2.1
theorem dX6_isTaken_94 : decode cX6_isTaken 94 = .ok (.iand, 1) := q_dg158.1.2.1.2.2
theorem dX6_isTaken_95 : decode cX6_isTaken 95 = .ok (.ifCond .eq 7, 3) := q_dg158.1.2.2.1
theorem dX6_isTaken_98 : decode cX6_isTaken 98 = .ok (.iconst 1, 1) := q_dg158.1.2.2.2.1
theorem dX6_isTaken_99 : decode cX6_isTaken 99 = .ok (.goto 4, 3) := q_dg158.1.2.2.2.2
theorem dX6_isTaken_102 : decode cX6_isTaken 102 = .ok (.iconst 0, 1) := q_dg158.2.1.1.1
theorem dX6_isTaken_103 : decode cX6_isTaken 103 = .ok (.ireturn, 1) := q_dg158.2.1.1.2.1
theorem dX6_isTaken_104 : decode cX6_isTaken 104 = .ok (.aload_n 0, 1) := q_dg158.2.1.1.2.2
theorem dX6_isTaken_105 : decode cX6_isTaken 105 = .ok (.getfield 15, 3) := q_dg158.2.1.2.1
theorem dX6_isTaken_108 : decode cX6_isTaken 108 = .ok (.sipush 128, 3) := q_dg158.2.1.2.2.1
theorem dX6_isTaken_111 : decode cX6_isTaken 111 = .ok (.iand, 1) := q_dg158.2.1.2.2.2
theorem dX6_isTaken_112 : decode cX6_isTaken 112 = .ok (.ifCond .ne 7, 3) := q_dg158.2.2.1.1
theorem dX6_isTaken_115 : decode cX6_isTaken 115 = .ok (.iconst 1, 1) := q_dg158.2.2.1.2.1
theorem dX6_isTaken_116 : decode cX6_isTaken 116 = .ok (.goto 4, 3) := q_dg158.2.2.1.2.2
theorem dX6_isTaken_119 : decode cX6_isTaken 119 = .ok (.iconst 0, 1) := q_dg158.2.2.2.1
theorem dX6_isTaken_120 : decode cX6_isTaken 120 = .ok (.ireturn, 1) := q_dg158.2.2.2.2.1
theorem dX6_isTaken_121 : decode cX6_isTaken 121 = .ok (.aload_n 0, 1) := q_dg158.2.2.2.2.2
theorem q_dg159 : ((((decode cX6_isTaken 122 = .ok (.getfield 15, 3)) ∧ ((decode cX6_isTaken 125 = .ok (.sipush 128, 3)) ∧ (decode cX6_isTaken 128 = .ok (.iand, 1)))) ∧ ((decode cX6_isTaken 129 = .ok (.ifCond .eq 7, 3)) ∧ ((decode cX6_isTaken 132 = .ok (.iconst 1, 1)) ∧ (decode cX6_isTaken 133 = .ok (.goto 4, 3))))) ∧ (((decode cX6_isTaken 136 = .ok (.iconst 0, 1)) ∧ ((decode cX6_isTaken 137 = .ok (.ireturn, 1)) ∧ (decode cX6_isTaken 138 = .ok (.aload_n 0, 1)))) ∧ ((decode cX6_isTaken 139 = .ok (.getfield 15, 3)) ∧ ((decode cX6_isTaken 142 = .ok (.bipush 64, 2)) ∧ (decode cX6_isTaken 144 = .ok (.iand, 1)))))) ∧ ((((decode cX6_isTaken 145 = .ok (.ifCond .ne 7, 3)) ∧ ((decode cX6_isTaken 148 = .ok (.iconst 1, 1)) ∧ (decode cX6_isTaken 149 = .ok (.goto 4, 3)))) ∧ ((decode cX6_isTaken 152 = .ok (.iconst 0, 1)) ∧ ((decode cX6_isTaken 153 = .ok (.ireturn, 1)) ∧ (decode cX6_isTaken 154 = .ok (.aload_n 0, 1))))) ∧ (((decode cX6_isTaken 155 = .ok (.getfield 15, 3)) ∧ ((decode cX6_isTaken 158 = .ok (.bipush 64, 2)) ∧ (decode cX6_isTaken 160 = .ok (.iand, 1)))) ∧ ((decode cX6_isTaken 161 = .ok (.ifCond .eq 7, 3)) ∧ ((decode cX6_isTaken 164 = .ok (.iconst 1, 1)) ∧ (decode cX6_isTaken 165 = .ok (.goto 4, 3)))))) := by decide +kernel
theorem dX6_isTaken_122 : decode cX6_isTaken 122 = .ok (.getfield 15, 3) := q_dg159.1.1.1.1
theorem dX6_isTaken_125 : decode cX6_isTaken 125 = .ok (.sipush 128, 3) := q_dg159.1.1.1.2.1
theorem dX6_isTaken_128 : decode cX6_isTaken 128 = .ok (.iand, 1) := q_dg159.1.1.1.2.2
theorem dX6_isTaken_129 : decode cX6_isTaken 129 = .ok (.ifCond .eq 7, 3) := q_dg159.1.1.2.1
theorem dX6_isTaken_132 : decode cX6_isTaken 132 = .ok (.iconst 1, 1) := q_dg159.1.1.2.2.1
theorem dX6_isTaken_133 : decode cX6_isTaken 133 = .ok (.goto 4, 3) := q_dg159.1.1.2.2.2
theorem dX6_isTaken_136 : decode cX6_isTaken 136 = .ok (.iconst 0, 1) := q_dg159.1.2.1.1
theorem dX6_isTaken_137 : decode cX6_isTaken 137 = .ok (.ireturn, 1) := q_dg159.1.2.1.2.1
theorem dX6_isTaken_138 : decode cX6_isTaken 138 = .ok (.aload_n 0, 1) := q_dg159.1.2.1.2.2
theorem dX6_isTaken_139 : decode cX6_isTaken 139 = .ok (.getfield 15, 3) := q_dg159.1.2.2.1
theorem dX6_isTaken_142 : decode cX6_isTaken 142 = .ok (.bipush 64, 2) := q_dg159.1.2.2.2.1
theorem dX6_isTaken_144 : decode cX6_isTaken 144 = .ok (.iand, 1) := q_dg159.1.2.2.2.2
theorem dX6_isTaken_145 : decode cX6_isTaken 145 = .ok (.ifCond .ne 7, 3) := q_dg159.2.1.1.1
theorem dX6_isTaken_148 : decode cX6_isTaken 148 = .ok (.iconst 1, 1) := q_dg159.2.1.1.2.1
theorem dX6_isTaken_149 : decode cX6_isTaken 149 = .ok (.goto 4, 3) := q_dg159.2.1.1.2.2
theorem dX6_isTaken_152 : decode cX6_isTaken 152 = .ok (.iconst 0, 1) := q_dg159.2.1.2.1
theorem dX6_isTaken_153 : decode cX6_isTaken 153 = .ok (.ireturn, 1) := q_dg159.2.1.2.2.1
theorem dX6_isTaken_154 : decode cX6_isTaken 154 = .ok (.aload_n 0, 1) := q_dg159.2.1.2.2.2
theorem dX6_isTaken_155 : decode cX6_isTaken 155 = .ok (.getfield 15, 3) := q_dg159.2.2.1.1
theorem dX6_isTaken_158 : decode cX6_isTaken 158 = .ok (.bipush 64, 2) := q_dg159.2.2.1.2.1
theorem dX6_isTaken_160 : decode cX6_isTaken 160 = .ok (.iand, 1) := q_dg159.2.2.1.2.2
theorem dX6_isTaken_161 : decode cX6_isTaken 161 = .ok (.ifCond .eq 7, 3) := q_dg159.2.2.2.1
theorem dX6_isTaken_164 : decode cX6_isTaken 164 = .ok (.iconst 1, 1) := q_dg159.2.2.2.2.1
theorem dX6_isTaken_165 : decode cX6_isTaken 165 = .ok (.goto 4, 3) := q_dg159.2.2.2.2.2
theorem q_dg160 : (decode cX6_isTaken 168 = .ok (.iconst 0, 1)) ∧ (decode cX6_isTaken 169 = .ok (.ireturn, 1)) := by decide +kernel
theorem dX6_isTaken_168 : decode cX6_isTaken 168 = .ok (.iconst 0, 1) := q_dg160.1
theorem dX6_isTaken_169 : decode cX6_isTaken 169 = .ok (.ireturn, 1) := q_dg160.2
theorem q_dg161 : ((((decode cX6_move 0 = .ok (.iload_n 1, 1)) ∧ ((decode cX6_move 1 = .ok (.tableswitch 210 128 136 #[51, 72, 93, 114, 135, 150, 165, 180, 195], 51)) ∧ (decode cX6_move 52 = .ok (.aload_n 0, 1)))) ∧ ((decode cX6_move 53 = .ok (.aload_n 0, 1)) ∧ ((decode cX6_move 54 = .ok (.aload_n 0, 1)) ∧ (decode cX6_move 55 = .ok (.getfield 25, 3))))) ∧ (((decode cX6_move 58 = .ok (.iconst 1, 1)) ∧ ((decode cX6_move 59 = .ok (.iadd, 1)) ∧ (decode cX6_move 60 = .ok (.sipush 255, 3)))) ∧ ((decode cX6_move 63 = .ok (.iand, 1)) ∧ ((decode cX6_move 64 = .ok (.invokevirtual 169, 3)) ∧ (decode cX6_move 67 = .ok (.putfield 25, 3)))))) ∧ ((((decode cX6_move 70 = .ok (.goto 149, 3)) ∧ ((decode cX6_move 73 = .ok (.aload_n 0, 1)) ∧ (decode cX6_move 74 = .ok (.aload_n 0, 1)))) ∧ ((decode cX6_move 75 = .ok (.aload_n 0, 1)) ∧ ((decode cX6_move 76 = .ok (.getfield 25, 3)) ∧ (decode cX6_move 79 = .ok (.iconst 1, 1))))) ∧ (((decode cX6_move 80 = .ok (.isub, 1)) ∧ ((decode cX6_move 81 = .ok (.sipush 255, 3)) ∧ (decode cX6_move 84 = .ok (.iand, 1)))) ∧ ((decode cX6_move 85 = .ok (.invokevirtual 169, 3)) ∧ ((decode cX6_move 88 = .ok (.putfield 25, 3)) ∧ (decode cX6_move 91 = .ok (.goto 128, 3)))))) := by decide +kernel
theorem dX6_move_0 : decode cX6_move 0 = .ok (.iload_n 1, 1) := q_dg161.1.1.1.1
theorem dX6_move_1 : decode cX6_move 1 = .ok (.tableswitch 210 128 136 #[51, 72, 93, 114, 135, 150, 165, 180, 195], 51) := q_dg161.1.1.1.2.1
theorem dX6_move_52 : decode cX6_move 52 = .ok (.aload_n 0, 1) := q_dg161.1.1.1.2.2
theorem dX6_move_53 : decode cX6_move 53 = .ok (.aload_n 0, 1) := q_dg161.1.1.2.1
theorem dX6_move_54 : decode cX6_move 54 = .ok (.aload_n 0, 1) := q_dg161.1.1.2.2.1
theorem dX6_move_55 : decode cX6_move 55 = .ok (.getfield 25, 3) := q_dg161.1.1.2.2.2
theorem dX6_move_58 : decode cX6_move 58 = .ok (.iconst 1, 1) := q_dg161.1.2.1.1
theorem dX6_move_59 : decode cX6_move 59 = .ok (.iadd, 1) := q_dg161.1.2.1.2.1
theorem dX6_move_60 : decode cX6_move 60 = .ok (.sipush 255, 3) := q_dg161.1.2.1.2.2
theorem dX6_move_63 : decode cX6_move 63 = .ok (.iand, 1) := q_dg161.1.2.2.1
theorem dX6_move_64 : decode cX6_move 64 = .ok (.invokevirtual 169, 3) := q_dg161.1.2.2.2.1
theorem dX6_move_67 : decode cX6_move 67 = .ok (.putfield 25, 3) := q_dg161.1.2.2.2.2
theorem dX6_move_70 : decode cX6_move 70 = .ok (.goto 149, 3) := q_dg161.2.1.1.1
theorem dX6_move_73 : decode cX6_move 73 = .ok (.aload_n 0, 1) := q_dg161.2.1.1.2.1
theorem dX6_move_74 : decode cX6_move 74 = .ok (.aload_n 0, 1) := q_dg161.2.1.1.2.2
theorem dX6_move_75 : decode cX6_move 75 = .ok (.aload_n 0, 1) := q_dg161.2.1.2.1
theorem dX6_move_76 : decode cX6_move 76 = .ok (.getfield 25, 3) := q_dg161.2.1.2.2.1
theorem dX6_move_79 : decode cX6_move 79 = .ok (.iconst 1, 1) := q_dg161.2.1.2.2.2
theorem dX6_move_80 : decode cX6_move 80 = .ok (.isub, 1) := q_dg161.2.2.1.1
theorem dX6_move_81 : decode cX6_move 81 = .ok (.sipush 255, 3) := q_dg161.2.2.1.2.1
theorem dX6_move_84 : decode cX6_move 84 = .ok (.iand, 1) := q_dg161.2.2.1.2.2
theorem dX6_move_85 : decode cX6_move 85 = .ok (.invokevirtual 169, 3) := q_dg161.2.2.2.1
theorem dX6_move_88 : decode cX6_move 88 = .ok (.putfield 25, 3) := q_dg161.2.2.2.2.1
theorem dX6_move_91 : decode cX6_move 91 = .ok (.goto 128, 3) := q_dg161.2.2.2.2.2
theorem q_dg162 : ((((decode cX6_move 94 = .ok (.aload_n 0, 1)) ∧ ((decode cX6_move 95 = .ok (.aload_n 0, 1)) ∧ (decode cX6_move 96 = .ok (.aload_n 0, 1)))) ∧ ((decode cX6_move 97 = .ok (.getfield 28, 3)) ∧ ((decode cX6_move 100 = .ok (.iconst 1, 1)) ∧ (decode cX6_move 101 = .ok (.iadd, 1))))) ∧ (((decode cX6_move 102 = .ok (.sipush 255, 3)) ∧ ((decode cX6_move 105 = .ok (.iand, 1)) ∧ (decode cX6_move 106 = .ok (.invokevirtual 169, 3)))) ∧ ((decode cX6_move 109 = .ok (.putfield 28, 3)) ∧ ((decode cX6_move 112 = .ok (.goto 107, 3)) ∧ (decode cX6_move 115 = .ok (.aload_n 0, 1)))))) ∧ ((((decode cX6_move 116 = .ok (.aload_n 0, 1)) ∧ ((decode cX6_move 117 = .ok (.aload_n 0, 1)) ∧ (decode cX6_move 118 = .ok (.getfield 28, 3)))) ∧ ((decode cX6_move 121 = .ok (.iconst 1, 1)) ∧ ((decode cX6_move 122 = .ok (.isub, 1)) ∧ (decode cX6_move 123 = .ok (.sipush 255, 3))))) ∧ (((decode cX6_move 126 = .ok (.iand, 1)) ∧ ((decode cX6_move 127 = .ok (.invokevirtual 169, 3)) ∧ (decode cX6_move 130 = .ok (.putfield 28, 3)))) ∧ ((decode cX6_move 133 = .ok (.goto 86, 3)) ∧ ((decode cX6_move 136 = .ok (.aload_n 0, 1)) ∧ (decode cX6_move 137 = .ok (.aload_n 0, 1)))))) := by decide +kernel
theorem dX6_move_94 : decode cX6_move 94 = .ok (.aload_n 0, 1) := q_dg162.1.1.1.1
theorem dX6_move_95 : decode cX6_move 95 = .ok (.aload_n 0, 1) := q_dg162.1.1.1.2.1
theorem dX6_move_96 : decode cX6_move 96 = .ok (.aload_n 0, 1) := q_dg162.1.1.1.2.2
theorem dX6_move_97 : decode cX6_move 97 = .ok (.getfield 28, 3) := q_dg162.1.1.2.1
theorem dX6_move_100 : decode cX6_move 100 = .ok (.iconst 1, 1) := q_dg162.1.1.2.2.1
theorem dX6_move_101 : decode cX6_move 101 = .ok (.iadd, 1) := q_dg162.1.1.2.2.2
theorem dX6_move_102 : decode cX6_move 102 = .ok (.sipush 255, 3) := q_dg162.1.2.1.1
theorem dX6_move_105 : decode cX6_move 105 = .ok (.iand, 1) := q_dg162.1.2.1.2.1
theorem dX6_move_106 : decode cX6_move 106 = .ok (.invokevirtual 169, 3) := q_dg162.1.2.1.2.2
theorem dX6_move_109 : decode cX6_move 109 = .ok (.putfield 28, 3) := q_dg162.1.2.2.1
theorem dX6_move_112 : decode cX6_move 112 = .ok (.goto 107, 3) := q_dg162.1.2.2.2.1
theorem dX6_move_115 : decode cX6_move 115 = .ok (.aload_n 0, 1) := q_dg162.1.2.2.2.2
theorem dX6_move_116 : decode cX6_move 116 = .ok (.aload_n 0, 1) := q_dg162.2.1.1.1
theorem dX6_move_117 : decode cX6_move 117 = .ok (.aload_n 0, 1) := q_dg162.2.1.1.2.1
theorem dX6_move_118 : decode cX6_move 118 = .ok (.getfield 28, 3) := q_dg162.2.1.1.2.2
theorem dX6_move_121 : decode cX6_move 121 = .ok (.iconst 1, 1) := q_dg162.2.1.2.1
theorem dX6_move_122 : decode cX6_move 122 = .ok (.isub, 1) := q_dg162.2.1.2.2.1
theorem dX6_move_123 : decode cX6_move 123 = .ok (.sipush 255, 3) := q_dg162.2.1.2.2.2
theorem dX6_move_126 : decode cX6_move 126 = .ok (.iand, 1) := q_dg162.2.2.1.1
theorem dX6_move_127 : decode cX6_move 127 = .ok (.invokevirtual 169, 3) := q_dg162.2.2.1.2.1
theorem dX6_move_130 : decode cX6_move 130 = .ok (.putfield 28, 3) := q_dg162.2.2.1.2.2
theorem dX6_move_133 : decode cX6_move 133 = .ok (.goto 86, 3) := q_dg162.2.2.2.1
theorem dX6_move_136 : decode cX6_move 136 = .ok (.aload_n 0, 1) := q_dg162.2.2.2.2.1
theorem dX6_move_137 : decode cX6_move 137 = .ok (.aload_n 0, 1) := q_dg162.2.2.2.2.2
theorem q_dg163 : ((((decode cX6_move 138 = .ok (.aload_n 0, 1)) ∧ ((decode cX6_move 139 = .ok (.getfield 22, 3)) ∧ (decode cX6_move 142 = .ok (.invokevirtual 169, 3)))) ∧ ((decode cX6_move 145 = .ok (.putfield 25, 3)) ∧ ((decode cX6_move 148 = .ok (.goto 71, 3)) ∧ (decode cX6_move 151 = .ok (.aload_n 0, 1))))) ∧ (((decode cX6_move 152 = .ok (.aload_n 0, 1)) ∧ ((decode cX6_move 153 = .ok (.aload_n 0, 1)) ∧ (decode cX6_move 154 = .ok (.getfield 25, 3)))) ∧ ((decode cX6_move 157 = .ok (.invokevirtual 169, 3)) ∧ ((decode cX6_move 160 = .ok (.putfield 22, 3)) ∧ (decode cX6_move 163 = .ok (.goto 56, 3)))))) ∧ ((((decode cX6_move 166 = .ok (.aload_n 0, 1)) ∧ ((decode cX6_move 167 = .ok (.aload_n 0, 1)) ∧ (decode cX6_move 168 = .ok (.aload_n 0, 1)))) ∧ ((decode cX6_move 169 = .ok (.getfield 22, 3)) ∧ ((decode cX6_move 172 = .ok (.invokevirtual 169, 3)) ∧ (decode cX6_move 175 = .ok (.putfield 28, 3))))) ∧ (((decode cX6_move 178 = .ok (.goto 41, 3)) ∧ ((decode cX6_move 181 = .ok (.aload_n 0, 1)) ∧ (decode cX6_move 182 = .ok (.aload_n 0, 1)))) ∧ ((decode cX6_move 183 = .ok (.aload_n 0, 1)) ∧ ((decode cX6_move 184 = .ok (.getfield 28, 3)) ∧ (decode cX6_move 187 = .ok (.invokevirtual 169, 3)))))) := by decide +kernel
theorem dX6_move_138 : decode cX6_move 138 = .ok (.aload_n 0, 1) := q_dg163.1.1.1.1
theorem dX6_move_139 : decode cX6_move 139 = .ok (.getfield 22, 3) := q_dg163.1.1.1.2.1
theorem dX6_move_142 : decode cX6_move 142 = .ok (.invokevirtual 169, 3) := q_dg163.1.1.1.2.2
theorem dX6_move_145 : decode cX6_move 145 = .ok (.putfield 25, 3) := q_dg163.1.1.2.1
theorem dX6_move_148 : decode cX6_move 148 = .ok (.goto 71, 3) := q_dg163.1.1.2.2.1
theorem dX6_move_151 : decode cX6_move 151 = .ok (.aload_n 0, 1) := q_dg163.1.1.2.2.2
theorem dX6_move_152 : decode cX6_move 152 = .ok (.aload_n 0, 1) := q_dg163.1.2.1.1
theorem dX6_move_153 : decode cX6_move 153 = .ok (.aload_n 0, 1) := q_dg163.1.2.1.2.1
theorem dX6_move_154 : decode cX6_move 154 = .ok (.getfield 25, 3) := q_dg163.1.2.1.2.2
theorem dX6_move_157 : decode cX6_move 157 = .ok (.invokevirtual 169, 3) := q_dg163.1.2.2.1
theorem dX6_move_160 : decode cX6_move 160 = .ok (.putfield 22, 3) := q_dg163.1.2.2.2.1
theorem dX6_move_163 : decode cX6_move 163 = .ok (.goto 56, 3) := q_dg163.1.2.2.2.2
theorem dX6_move_166 : decode cX6_move 166 = .ok (.aload_n 0, 1) := q_dg163.2.1.1.1
theorem dX6_move_167 : decode cX6_move 167 = .ok (.aload_n 0, 1) := q_dg163.2.1.1.2.1
theorem dX6_move_168 : decode cX6_move 168 = .ok (.aload_n 0, 1) := q_dg163.2.1.1.2.2
theorem dX6_move_169 : decode cX6_move 169 = .ok (.getfield 22, 3) := q_dg163.2.1.2.1
theorem dX6_move_172 : decode cX6_move 172 = .ok (.invokevirtual 169, 3) := q_dg163.2.1.2.2.1
theorem dX6_move_175 : decode cX6_move 175 = .ok (.putfield 28, 3) := q_dg163.2.1.2.2.2
theorem dX6_move_178 : decode cX6_move 178 = .ok (.goto 41, 3) := q_dg163.2.2.1.1
theorem dX6_move_181 : decode cX6_move 181 = .ok (.aload_n 0, 1) := q_dg163.2.2.1.2.1
theorem dX6_move_182 : decode cX6_move 182 = .ok (.aload_n 0, 1) := q_dg163.2.2.1.2.2
theorem dX6_move_183 : decode cX6_move 183 = .ok (.aload_n 0, 1) := q_dg163.2.2.2.1
theorem dX6_move_184 : decode cX6_move 184 = .ok (.getfield 28, 3) := q_dg163.2.2.2.2.1
theorem dX6_move_187 : decode cX6_move 187 = .ok (.invokevirtual 169, 3) := q_dg163.2.2.2.2.2
theorem q_dg164 : (((decode cX6_move 190 = .ok (.putfield 22, 3)) ∧ ((decode cX6_move 193 = .ok (.goto 26, 3)) ∧ (decode cX6_move 196 = .ok (.aload_n 0, 1)))) ∧ (((decode cX6_move 197 = .ok (.aload_n 0, 1)) ∧ (decode cX6_move 198 = .ok (.aload_n 0, 1))) ∧ ((decode cX6_move 199 = .ok (.getfield 9, 3)) ∧ (decode cX6_move 202 = .ok (.invokevirtual 169, 3))))) ∧ (((decode cX6_move 205 = .ok (.putfield 25, 3)) ∧ ((decode cX6_move 208 = .ok (.goto 11, 3)) ∧ (decode cX6_move 211 = .ok (.aload_n 0, 1)))) ∧ (((decode cX6_move 212 = .ok (.aload_n 0, 1)) ∧ (decode cX6_move 213 = .ok (.getfield 25, 3))) ∧ ((decode cX6_move 216 = .ok (.putfield 9, 3)) ∧ (decode cX6_move 219 = .ok (.return_, 1))))) := by decide +kernel
theorem dX6_move_190 : decode cX6_move 190 = .ok (.putfield 22, 3) := q_dg164.1.1.1
theorem dX6_move_193 : decode cX6_move 193 = .ok (.goto 26, 3) := q_dg164.1.1.2.1
theorem dX6_move_196 : decode cX6_move 196 = .ok (.aload_n 0, 1) := q_dg164.1.1.2.2
theorem dX6_move_197 : decode cX6_move 197 = .ok (.aload_n 0, 1) := q_dg164.1.2.1.1
theorem dX6_move_198 : decode cX6_move 198 = .ok (.aload_n 0, 1) := q_dg164.1.2.1.2
theorem dX6_move_199 : decode cX6_move 199 = .ok (.getfield 9, 3) := q_dg164.1.2.2.1
theorem dX6_move_202 : decode cX6_move 202 = .ok (.invokevirtual 169, 3) := q_dg164.1.2.2.2
theorem dX6_move_205 : decode cX6_move 205 = .ok (.putfield 25, 3) := q_dg164.2.1.1
theorem dX6_move_208 : decode cX6_move 208 = .ok (.goto 11, 3) := q_dg164.2.1.2.1
theorem dX6_move_211 : decode cX6_move 211 = .ok (.aload_n 0, 1) := q_dg164.2.1.2.2
theorem dX6_move_212 : decode cX6_move 212 = .ok (.aload_n 0, 1) := q_dg164.2.2.1.1
theorem dX6_move_213 : decode cX6_move 213 = .ok (.getfield 25, 3) := q_dg164.2.2.1.2
theorem dX6_move_216 : decode cX6_move 216 = .ok (.putfield 9, 3) := q_dg164.2.2.2.1
theorem dX6_move_219 : decode cX6_move 219 = .ok (.return_, 1) := q_dg164.2.2.2.2
theorem q_dg165 : ((((decode cX6_changeFlag 0 = .ok (.iload_n 1, 1)) ∧ ((decode cX6_changeFlag 1 = .ok (.tableswitch 95 142 147 #[39, 48, 57, 67, 77, 86], 39)) ∧ (decode cX6_changeFlag 40 = .ok (.aload_n 0, 1)))) ∧ ((decode cX6_changeFlag 41 = .ok (.iconst 1, 1)) ∧ ((decode cX6_changeFlag 42 = .ok (.iconst 1, 1)) ∧ (decode cX6_changeFlag 43 = .ok (.invokevirtual 165, 3))))) ∧ (((decode cX6_changeFlag 46 = .ok (.goto 57, 3)) ∧ ((decode cX6_changeFlag 49 = .ok (.aload_n 0, 1)) ∧ (decode cX6_changeFlag 50 = .ok (.iconst 1, 1)))) ∧ ((decode cX6_changeFlag 51 = .ok (.iconst 0, 1)) ∧ ((decode cX6_changeFlag 52 = .ok (.invokevirtual 165, 3)) ∧ (decode cX6_changeFlag 55 = .ok (.goto 48, 3)))))) ∧ ((((decode cX6_changeFlag 58 = .ok (.aload_n 0, 1)) ∧ ((decode cX6_changeFlag 59 = .ok (.bipush 8, 2)) ∧ (decode cX6_changeFlag 61 = .ok (.iconst 1, 1)))) ∧ ((decode cX6_changeFlag 62 = .ok (.invokevirtual 165, 3)) ∧ ((decode cX6_changeFlag 65 = .ok (.goto 38, 3)) ∧ (decode cX6_changeFlag 68 = .ok (.aload_n 0, 1))))) ∧ (((decode cX6_changeFlag 69 = .ok (.bipush 8, 2)) ∧ ((decode cX6_changeFlag 71 = .ok (.iconst 0, 1)) ∧ (decode cX6_changeFlag 72 = .ok (.invokevirtual 165, 3)))) ∧ ((decode cX6_changeFlag 75 = .ok (.goto 28, 3)) ∧ ((decode cX6_changeFlag 78 = .ok (.aload_n 0, 1)) ∧ (decode cX6_changeFlag 79 = .ok (.iconst 4, 1)))))) := by decide +kernel
theorem dX6_changeFlag_0 : decode cX6_changeFlag 0 = .ok (.iload_n 1, 1) := q_dg165.1.1.1.1
theorem dX6_changeFlag_1 : decode cX6_changeFlag 1 = .ok (.tableswitch 95 142 147 #[39, 48, 57, 67, 77, 86], 39) := q_dg165.1.1.1.2.1
theorem dX6_changeFlag_40 : decode cX6_changeFlag 40 = .ok (.aload_n 0, 1) := q_dg165.1.1.1.2.2
theorem dX6_changeFlag_41 : decode cX6_changeFlag 41 = .ok (.iconst 1, 1) := q_dg165.1.1.2.1
theorem dX6_changeFlag_42 : decode cX6_changeFlag 42 = .ok (.iconst 1, 1) := q_dg165.1.1.2.2.1
theorem dX6_changeFlag_43 : decode cX6_changeFlag 43 = .ok (.invokevirtual 165, 3) := q_dg165.1.1.2.2.2
theorem dX6_changeFlag_46 : decode cX6_changeFlag 46 = .ok (.goto 57, 3) := q_dg165.1.2.1.1
theorem dX6_changeFlag_49 : decode cX6_changeFlag 49 = .ok (.aload_n 0, 1) := q_dg165.1.2.1.2.1
theorem dX6_changeFlag_50 : decode cX6_changeFlag 50 = .ok (.iconst 1, 1) := q_dg165.1.2.1.2.2
theorem dX6_changeFlag_51 : decode cX6_changeFlag 51 = .ok (.iconst 0, 1) := q_dg165.1.2.2.1
theorem dX6_changeFlag_52 : decode cX6_changeFlag 52 = .ok (.invokevirtual 165, 3) := q_dg165.1.2.2.2.1
theorem dX6_changeFlag_55 : decode cX6_changeFlag 55 = .ok (.goto 48, 3) := q_dg165.1.2.2.2.2
theorem dX6_changeFlag_58 : decode cX6_changeFlag 58 = .ok (.aload_n 0, 1) := q_dg165.2.1.1.1
theorem dX6_changeFlag_59 : decode cX6_changeFlag 59 = .ok (.bipush 8, 2) := q_dg165.2.1.1.2.1
theorem dX6_changeFlag_61 : decode cX6_changeFlag 61 = .ok (.iconst 1, 1) := q_dg165.2.1.1.2.2
theorem dX6_changeFlag_62 : decode cX6_changeFlag 62 = .ok (.invokevirtual 165, 3) := q_dg165.2.1.2.1
theorem dX6_changeFlag_65 : decode cX6_changeFlag 65 = .ok (.goto 38, 3) := q_dg165.2.1.2.2.1
theorem dX6_changeFlag_68 : decode cX6_changeFlag 68 = .ok (.aload_n 0, 1) := q_dg165.2.1.2.2.2
theorem dX6_changeFlag_69 : decode cX6_changeFlag 69 = .ok (.bipush 8, 2) := q_dg165.2.2.1.1
theorem dX6_changeFlag_71 : decode cX6_changeFlag 71 = .ok (.iconst 0, 1) := q_dg165.2.2.1.2.1
theorem dX6_changeFlag_72 : decode cX6_changeFlag 72 = .ok (.invokevirtual 165, 3) := q_dg165.2.2.1.2.2
theorem dX6_changeFlag_75 : decode cX6_changeFlag 75 = .ok (.goto 28, 3) := q_dg165.2.2.2.1
theorem dX6_changeFlag_78 : decode cX6_changeFlag 78 = .ok (.aload_n 0, 1) := q_dg165.2.2.2.2.1
theorem dX6_changeFlag_79 : decode cX6_changeFlag 79 = .ok (.iconst 4, 1) := q_dg165.2.2.2.2.2
theorem q_dg166 : (((decode cX6_changeFlag 80 = .ok (.iconst 1, 1)) ∧ ((decode cX6_changeFlag 81 = .ok (.invokevirtual 165, 3)) ∧ (decode cX6_changeFlag 84 = .ok (.goto 19, 3)))) ∧ ((decode cX6_changeFlag 87 = .ok (.aload_n 0, 1)) ∧ ((decode cX6_changeFlag 88 = .ok (.iconst 4, 1)) ∧ (decode cX6_changeFlag 89 = .ok (.iconst 0, 1))))) ∧ (((decode cX6_changeFlag 90 = .ok (.invokevirtual 165, 3)) ∧ ((decode cX6_changeFlag 93 = .ok (.goto 10, 3)) ∧ (decode cX6_changeFlag 96 = .ok (.aload_n 0, 1)))) ∧ (((decode cX6_changeFlag 97 = .ok (.bipush 64, 2)) ∧ (decode cX6_changeFlag 99 = .ok (.iconst 0, 1))) ∧ ((decode cX6_changeFlag 100 = .ok (.invokevirtual 165, 3)) ∧ (decode cX6_changeFlag 103 = .ok (.return_, 1))))) := by decide +kernel
theorem dX6_changeFlag_80 : decode cX6_changeFlag 80 = .ok (.iconst 1, 1) := q_dg166.1.1.1
theorem dX6_changeFlag_81 : decode cX6_changeFlag 81 = .ok (.invokevirtual 165, 3) := q_dg166.1.1.2.1
theorem dX6_changeFlag_84 : decode cX6_changeFlag 84 = .ok (.goto 19, 3) := q_dg166.1.1.2.2
theorem dX6_changeFlag_87 : decode cX6_changeFlag 87 = .ok (.aload_n 0, 1) := q_dg166.1.2.1
theorem dX6_changeFlag_88 : decode cX6_changeFlag 88 = .ok (.iconst 4, 1) := q_dg166.1.2.2.1
theorem dX6_changeFlag_89 : decode cX6_changeFlag 89 = .ok (.iconst 0, 1) := q_dg166.1.2.2.2
theorem dX6_changeFlag_90 : decode cX6_changeFlag 90 = .ok (.invokevirtual 165, 3) := q_dg166.2.1.1
theorem dX6_changeFlag_93 : decode cX6_changeFlag 93 = .ok (.goto 10, 3) := q_dg166.2.1.2.1
theorem dX6_changeFlag_96 : decode cX6_changeFlag 96 = .ok (.aload_n 0, 1) := q_dg166.2.1.2.2
theorem dX6_changeFlag_97 : decode cX6_changeFlag 97 = .ok (.bipush 64, 2) := q_dg166.2.2.1.1
theorem dX6_changeFlag_99 : decode cX6_changeFlag 99 = .ok (.iconst 0, 1) := q_dg166.2.2.1.2
theorem dX6_changeFlag_100 : decode cX6_changeFlag 100 = .ok (.invokevirtual 165, 3) := q_dg166.2.2.2.1
theorem dX6_changeFlag_103 : decode cX6_changeFlag 103 = .ok (.return_, 1) := q_dg166.2.2.2.2
theorem q_dg167 : ((((decode cX6_shift 0 = .ok (.aload_n 0, 1)) ∧ ((decode cX6_shift 1 = .ok (.getfield 15, 3)) ∧ (decode cX6_shift 4 = .ok (.iconst 1, 1)))) ∧ ((decode cX6_shift 5 = .ok (.iand, 1)) ∧ ((decode cX6_shift 6 = .ok (.istore_n 2, 1)) ∧ (decode cX6_shift 7 = .ok (.iload_n 1, 1))))) ∧ (((decode cX6_shift 8 = .ok (.tableswitch 147 150 152 #[28, 68, 105], 28)) ∧ ((decode cX6_shift 36 = .ok (.aload_n 0, 1)) ∧ (decode cX6_shift 37 = .ok (.iconst 1, 1)))) ∧ ((decode cX6_shift 38 = .ok (.aload_n 0, 1)) ∧ ((decode cX6_shift 39 = .ok (.getfield 22, 3)) ∧ (decode cX6_shift 42 = .ok (.bipush 127, 2)))))) ∧ ((((decode cX6_shift 44 = .ok (.if_icmp .le 7, 3)) ∧ ((decode cX6_shift 47 = .ok (.iconst 1, 1)) ∧ (decode cX6_shift 48 = .ok (.goto 4, 3)))) ∧ ((decode cX6_shift 51 = .ok (.iconst 0, 1)) ∧ ((decode cX6_shift 52 = .ok (.invokevirtual 165, 3)) ∧ (decode cX6_shift 55 = .ok (.aload_n 0, 1))))) ∧ (((decode cX6_shift 56 = .ok (.aload_n 0, 1)) ∧ ((decode cX6_shift 57 = .ok (.iconst 2, 1)) ∧ (decode cX6_shift 58 = .ok (.aload_n 0, 1)))) ∧ ((decode cX6_shift 59 = .ok (.getfield 22, 3)) ∧ ((decode cX6_shift 62 = .ok (.imul, 1)) ∧ (decode cX6_shift 63 = .ok (.sipush 255, 3)))))) := by decide +kernel
theorem dX6_shift_0 : decode cX6_shift 0 = .ok (.aload_n 0, 1) := q_dg167.1.1.1.1
theorem dX6_shift_1 : decode cX6_shift 1 = .ok (.getfield 15, 3) := q_dg167.1.1.1.2.1
theorem dX6_shift_4 : decode cX6_shift 4 = .ok (.iconst 1, 1) := q_dg167.1.1.1.2.2
theorem dX6_shift_5 : decode cX6_shift 5 = .ok (.iand, 1) := q_dg167.1.1.2.1
theorem dX6_shift_6 : decode cX6_shift 6 = .ok (.istore_n 2, 1) := q_dg167.1.1.2.2.1
theorem dX6_shift_7 : decode cX6_shift 7 = .ok (.iload_n 1, 1) := q_dg167.1.1.2.2.2
theorem dX6_shift_8 : decode cX6_shift 8 = .ok (.tableswitch 147 150 152 #[28, 68, 105], 28) := q_dg167.1.2.1.1
theorem dX6_shift_36 : decode cX6_shift 36 = .ok (.aload_n 0, 1) := q_dg167.1.2.1.2.1
theorem dX6_shift_37 : decode cX6_shift 37 = .ok (.iconst 1, 1) := q_dg167.1.2.1.2.2
theorem dX6_shift_38 : decode cX6_shift 38 = .ok (.aload_n 0, 1) := q_dg167.1.2.2.1
theorem dX6_shift_39 : decode cX6_shift 39 = .ok (.getfield 22, 3) := q_dg167.1.2.2.2.1
theorem dX6_shift_42 : decode cX6_shift 42 = .ok (.bipush 127, 2) := q_dg167.1.2.2.2.2
theorem dX6_shift_44 : decode cX6_shift 44 = .ok (.if_icmp .le 7, 3) := q_dg167.2.1.1.1
theorem dX6_shift_47 : decode cX6_shift 47 = .ok (.iconst 1, 1) := q_dg167.2.1.1.2.1
theorem dX6_shift_48 : decode cX6_shift 48 = .ok (.goto 4, 3) := q_dg167.2.1.1.2.2
theorem dX6_shift_51 : decode cX6_shift 51 = .ok (.iconst 0, 1) := q_dg167.2.1.2.1
theorem dX6_shift_52 : decode cX6_shift 52 = .ok (.invokevirtual 165, 3) := q_dg167.2.1.2.2.1
theorem dX6_shift_55 : decode cX6_shift 55 = .ok (.aload_n 0, 1) := q_dg167.2.1.2.2.2
theorem dX6_shift_56 : decode cX6_shift 56 = .ok (.aload_n 0, 1) := q_dg167.2.2.1.1
theorem dX6_shift_57 : decode cX6_shift 57 = .ok (.iconst 2, 1) := q_dg167.2.2.1.2.1
theorem dX6_shift_58 : decode cX6_shift 58 = .ok (.aload_n 0, 1) := q_dg167.2.2.1.2.2
theorem dX6_shift_59 : decode cX6_shift 59 = .ok (.getfield 22, 3) := q_dg167.2.2.2.1
theorem dX6_shift_62 : decode cX6_shift 62 = .ok (.imul, 1) := q_dg167.2.2.2.2.1
theorem dX6_shift_63 : decode cX6_shift 63 = .ok (.sipush 255, 3) := q_dg167.2.2.2.2.2
theorem q_dg168 : ((((decode cX6_shift 66 = .ok (.iand, 1)) ∧ (decode cX6_shift 67 = .ok (.invokevirtual 169, 3))) ∧ ((decode cX6_shift 70 = .ok (.putfield 22, 3)) ∧ ((decode cX6_shift 73 = .ok (.goto 122, 3)) ∧ (decode cX6_shift 76 = .ok (.aload_n 0, 1))))) ∧ (((decode cX6_shift 77 = .ok (.iconst 1, 1)) ∧ ((decode cX6_shift 78 = .ok (.aload_n 0, 1)) ∧ (decode cX6_shift 79 = .ok (.getfield 22, 3)))) ∧ ((decode cX6_shift 82 = .ok (.iconst 2, 1)) ∧ ((decode cX6_shift 83 = .ok (.irem, 1)) ∧ (decode cX6_shift 84 = .ok (.iconst 1, 1)))))) ∧ ((((decode cX6_shift 85 = .ok (.if_icmp .ne 7, 3)) ∧ ((decode cX6_shift 88 = .ok (.iconst 1, 1)) ∧ (decode cX6_shift 89 = .ok (.goto 4, 3)))) ∧ ((decode cX6_shift 92 = .ok (.iconst 0, 1)) ∧ ((decode cX6_shift 93 = .ok (.invokevirtual 165, 3)) ∧ (decode cX6_shift 96 = .ok (.aload_n 0, 1))))) ∧ (((decode cX6_shift 97 = .ok (.aload_n 0, 1)) ∧ ((decode cX6_shift 98 = .ok (.aload_n 0, 1)) ∧ (decode cX6_shift 99 = .ok (.getfield 22, 3)))) ∧ ((decode cX6_shift 102 = .ok (.iconst 2, 1)) ∧ ((decode cX6_shift 103 = .ok (.idiv, 1)) ∧ (decode cX6_shift 104 = .ok (.invokevirtual 169, 3)))))) := by decide +kernel
theorem dX6_shift_66 : decode cX6_shift 66 = .ok (.iand, 1) := q_dg168.1.1.1.1
theorem dX6_shift_67 : decode cX6_shift 67 = .ok (.invokevirtual 169, 3) := q_dg168.1.1.1.2
theorem dX6_shift_70 : decode cX6_shift 70 = .ok (.putfield 22, 3) := q_dg168.1.1.2.1
theorem dX6_shift_73 : decode cX6_shift 73 = .ok (.goto 122, 3) := q_dg168.1.1.2.2.1
theorem dX6_shift_76 : decode cX6_shift 76 = .ok (.aload_n 0, 1) := q_dg168.1.1.2.2.2
theorem dX6_shift_77 : decode cX6_shift 77 = .ok (.iconst 1, 1) := q_dg168.1.2.1.1
theorem dX6_shift_78 : decode cX6_shift 78 = .ok (.aload_n 0, 1) := q_dg168.1.2.1.2.1
theorem dX6_shift_79 : decode cX6_shift 79 = .ok (.getfield 22, 3) := q_dg168.1.2.1.2.2
theorem dX6_shift_82 : decode cX6_shift 82 = .ok (.iconst 2, 1) := q_dg168.1.2.2.1
theorem dX6_shift_83 : decode cX6_shift 83 = .ok (.irem, 1) := q_dg168.1.2.2.2.1
theorem dX6_shift_84 : decode cX6_shift 84 = .ok (.iconst 1, 1) := q_dg168.1.2.2.2.2
theorem dX6_shift_85 : decode cX6_shift 85 = .ok (.if_icmp .ne 7, 3) := q_dg168.2.1.1.1
theorem dX6_shift_88 : decode cX6_shift 88 = .ok (.iconst 1, 1) := q_dg168.2.1.1.2.1
theorem dX6_shift_89 : decode cX6_shift 89 = .ok (.goto 4, 3) := q_dg168.2.1.1.2.2
theorem dX6_shift_92 : decode cX6_shift 92 = .ok (.iconst 0, 1) := q_dg168.2.1.2.1
theorem dX6_shift_93 : decode cX6_shift 93 = .ok (.invokevirtual 165, 3) := q_dg168.2.1.2.2.1
theorem dX6_shift_96 : decode cX6_shift 96 = .ok (.aload_n 0, 1) := q_dg168.2.1.2.2.2
theorem dX6_shift_97 : decode cX6_shift 97 = .ok (.aload_n 0, 1) := q_dg168.2.2.1.1
theorem dX6_shift_98 : decode cX6_shift 98 = .ok (.aload_n 0, 1) := q_dg168.2.2.1.2.1
theorem dX6_shift_99 : decode cX6_shift 99 = .ok (.getfield 22, 3) := q_dg168.2.2.1.2.2
theorem dX6_shift_102 : decode cX6_shift 102 = .ok (.iconst 2, 1) := q_dg168.2.2.2.1
theorem dX6_shift_103 : decode cX6_shift 103 = .ok (.idiv, 1) := q_dg168.2.2.2.2.1
theorem dX6_shift_104 : decode cX6_shift 104 = .ok (.invokevirtual 169, 3) := q_dg168.2.2.2.2.2
