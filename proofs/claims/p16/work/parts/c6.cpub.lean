theorem dX7_told_0 : decode cX7_told 0 = .ok (.aload_n 0, 1) := by decide +kernel
theorem dX7_told_1 : decode cX7_told 1 = .ok (.getfield 12, 3) := by decide +kernel
theorem dX7_told_4 : decode cX7_told 4 = .ok (.iload_n 1, 1) := by decide +kernel
theorem dX7_told_5 : decode cX7_told 5 = .ok (.invokevirtual 67, 3) := by decide +kernel
theorem dX7_told_8 : decode cX7_told 8 = .ok (.ifCond .eq 13, 3) := by decide +kernel
theorem dX7_told_21 : decode cX7_told 21 = .ok (.iconst (-1), 1) := by decide +kernel
theorem dX7_told_22 : decode cX7_told 22 = .ok (.ireturn, 1) := by decide +kernel
theorem dX7_told_11 : decode cX7_told 11 = .ok (.iload_n 2, 1) := by decide +kernel
theorem dX7_told_12 : decode cX7_told 12 = .ok (.ifCond .lt 9, 3) := by decide +kernel
theorem dX7_told_15 : decode cX7_told 15 = .ok (.iload_n 2, 1) := by decide +kernel
theorem dX7_told_16 : decode cX7_told 16 = .ok (.bipush 16, 2) := by decide +kernel
theorem dX7_told_18 : decode cX7_told 18 = .ok (.if_icmp .lt 5, 3) := by decide +kernel
theorem dX7_told_23 : decode cX7_told 23 = .ok (.iload_n 2, 1) := by decide +kernel
theorem dX7_told_24 : decode cX7_told 24 = .ok (.tableswitch 68 0 3 #[32, 41, 50, 59], 32) := by decide +kernel
theorem dX7_told_56 : decode cX7_told 56 = .ok (.aload_n 0, 1) := by decide +kernel
theorem dX7_told_57 : decode cX7_told 57 = .ok (.getfield 12, 3) := by decide +kernel
theorem dX7_told_60 : decode cX7_told 60 = .ok (.iload_n 1, 1) := by decide +kernel
theorem dX7_told_61 : decode cX7_told 61 = .ok (.invokevirtual 79, 3) := by decide +kernel
theorem dX7_told_64 : decode cX7_told 64 = .ok (.ireturn, 1) := by decide +kernel
theorem dX7_told_65 : decode cX7_told 65 = .ok (.aload_n 0, 1) := by decide +kernel
theorem dX7_told_66 : decode cX7_told 66 = .ok (.getfield 12, 3) := by decide +kernel
theorem dX7_told_69 : decode cX7_told 69 = .ok (.iload_n 1, 1) := by decide +kernel
theorem dX7_told_70 : decode cX7_told 70 = .ok (.invokevirtual 95, 3) := by decide +kernel
theorem dX7_told_73 : decode cX7_told 73 = .ok (.ireturn, 1) := by decide +kernel
theorem dX7_told_74 : decode cX7_told 74 = .ok (.aload_n 0, 1) := by decide +kernel
theorem dX7_told_75 : decode cX7_told 75 = .ok (.getfield 12, 3) := by decide +kernel
theorem dX7_told_78 : decode cX7_told 78 = .ok (.iload_n 1, 1) := by decide +kernel
theorem dX7_told_79 : decode cX7_told 79 = .ok (.invokevirtual 85, 3) := by decide +kernel
theorem dX7_told_82 : decode cX7_told 82 = .ok (.ireturn, 1) := by decide +kernel
theorem dX7_told_83 : decode cX7_told 83 = .ok (.aload_n 0, 1) := by decide +kernel
theorem dX7_told_84 : decode cX7_told 84 = .ok (.getfield 12, 3) := by decide +kernel
theorem dX7_told_87 : decode cX7_told 87 = .ok (.iload_n 1, 1) := by decide +kernel
theorem dX7_told_88 : decode cX7_told 88 = .ok (.invokevirtual 98, 3) := by decide +kernel
theorem dX7_told_91 : decode cX7_told 91 = .ok (.ireturn, 1) := by decide +kernel
theorem dX7_told_92 : decode cX7_told 92 = .ok (.iload_n 2, 1) := by decide +kernel
theorem dX7_told_93 : decode cX7_told 93 = .ok (.bipush 10, 2) := by decide +kernel
theorem dX7_told_95 : decode cX7_told 95 = .ok (.if_icmp .ge 15, 3) := by decide +kernel
theorem dX7_told_110 : decode cX7_told 110 = .ok (.aload_n 0, 1) := by decide +kernel
theorem dX7_told_111 : decode cX7_told 111 = .ok (.getfield 12, 3) := by decide +kernel
theorem dX7_told_114 : decode cX7_told 114 = .ok (.iload_n 1, 1) := by decide +kernel
theorem dX7_told_115 : decode cX7_told 115 = .ok (.iload_n 2, 1) := by decide +kernel
theorem dX7_told_116 : decode cX7_told 116 = .ok (.bipush 10, 2) := by decide +kernel
theorem dX7_told_118 : decode cX7_told 118 = .ok (.isub, 1) := by decide +kernel
theorem dX7_told_119 : decode cX7_told 119 = .ok (.invokevirtual 105, 3) := by decide +kernel
theorem dX7_told_122 : decode cX7_told 122 = .ok (.ireturn, 1) := by decide +kernel
theorem dX7_told_98 : decode cX7_told 98 = .ok (.aload_n 0, 1) := by decide +kernel
theorem dX7_told_99 : decode cX7_told 99 = .ok (.getfield 12, 3) := by decide +kernel
theorem dX7_told_102 : decode cX7_told 102 = .ok (.iload_n 1, 1) := by decide +kernel
theorem dX7_told_103 : decode cX7_told 103 = .ok (.iload_n 2, 1) := by decide +kernel
theorem dX7_told_104 : decode cX7_told 104 = .ok (.iconst 4, 1) := by decide +kernel
theorem dX7_told_105 : decode cX7_told 105 = .ok (.isub, 1) := by decide +kernel
theorem dX7_told_106 : decode cX7_told 106 = .ok (.invokevirtual 101, 3) := by decide +kernel
theorem dX7_told_109 : decode cX7_told 109 = .ok (.ireturn, 1) := by decide +kernel
theorem dX7_where_0 : decode cX7_where 0 = .ok (.aload_n 0, 1) := by decide +kernel
theorem dX7_where_1 : decode cX7_where 1 = .ok (.getfield 21, 3) := by decide +kernel
theorem dX7_where_4 : decode cX7_where 4 = .ok (.getfield 111, 3) := by decide +kernel
theorem dX7_where_7 : decode cX7_where 7 = .ok (.ireturn, 1) := by decide +kernel
theorem dX7_steps_0 : decode cX7_steps 0 = .ok (.aload_n 0, 1) := by decide +kernel
theorem dX7_steps_1 : decode cX7_steps 1 = .ok (.getfield 21, 3) := by decide +kernel
theorem dX7_steps_4 : decode cX7_steps 4 = .ok (.getfield 115, 3) := by decide +kernel
theorem dX7_steps_7 : decode cX7_steps 7 = .ok (.ireturn, 1) := by decide +kernel
theorem dX7_worked_0 : decode cX7_worked 0 = .ok (.aload_n 0, 1) := by decide +kernel
theorem dX7_worked_1 : decode cX7_worked 1 = .ok (.getfield 28, 3) := by decide +kernel
theorem dX7_worked_4 : decode cX7_worked 4 = .ok (.getfield 167, 3) := by decide +kernel
theorem dX7_worked_7 : decode cX7_worked 7 = .ok (.ireturn, 1) := by decide +kernel
theorem dX7_stuck_0 : decode cX7_stuck 0 = .ok (.aload_n 0, 1) := by decide +kernel
theorem dX7_stuck_1 : decode cX7_stuck 1 = .ok (.getfield 28, 3) := by decide +kernel
theorem dX7_stuck_4 : decode cX7_stuck 4 = .ok (.getfield 170, 3) := by decide +kernel
theorem dX7_stuck_7 : decode cX7_stuck 7 = .ok (.ireturn, 1) := by decide +kernel
theorem dX7_sign_0 : decode cX7_sign 0 = .ok (.aload_n 0, 1) := by decide +kernel
theorem dX7_sign_1 : decode cX7_sign 1 = .ok (.getfield 21, 3) := by decide +kernel
theorem dX7_sign_4 : decode cX7_sign 4 = .ok (.getfield 118, 3) := by decide +kernel
theorem dX7_sign_7 : decode cX7_sign 7 = .ok (.ifCond .ne 17, 3) := by decide +kernel
theorem dX7_sign_24 : decode cX7_sign 24 = .ok (.bipush (-4), 2) := by decide +kernel
theorem dX7_sign_26 : decode cX7_sign 26 = .ok (.ireturn, 1) := by decide +kernel
theorem dX7_sign_10 : decode cX7_sign 10 = .ok (.aload_n 0, 1) := by decide +kernel
theorem dX7_sign_11 : decode cX7_sign 11 = .ok (.getfield 21, 3) := by decide +kernel
theorem dX7_sign_14 : decode cX7_sign 14 = .ok (.getfield 121, 3) := by decide +kernel
theorem dX7_sign_17 : decode cX7_sign 17 = .ok (.iload_n 1, 1) := by decide +kernel
theorem dX7_sign_18 : decode cX7_sign 18 = .ok (.invokevirtual 124, 3) := by decide +kernel
theorem dX7_sign_21 : decode cX7_sign 21 = .ok (.goto 5, 3) := by decide +kernel
theorem dX7_value_0 : decode cX7_value 0 = .ok (.aload_n 0, 1) := by decide +kernel
theorem dX7_value_1 : decode cX7_value 1 = .ok (.getfield 28, 3) := by decide +kernel
theorem dX7_value_4 : decode cX7_value 4 = .ok (.getfield 165, 3) := by decide +kernel
theorem dX7_value_7 : decode cX7_value 7 = .ok (.ifCond .ne 17, 3) := by decide +kernel
theorem dX7_value_24 : decode cX7_value 24 = .ok (.bipush (-9), 2) := by decide +kernel
theorem dX7_value_26 : decode cX7_value 26 = .ok (.ireturn, 1) := by decide +kernel
theorem dX7_value_10 : decode cX7_value 10 = .ok (.aload_n 0, 1) := by decide +kernel
theorem dX7_value_11 : decode cX7_value 11 = .ok (.getfield 28, 3) := by decide +kernel
theorem dX7_value_14 : decode cX7_value 14 = .ok (.getfield 166, 3) := by decide +kernel
theorem dX7_value_17 : decode cX7_value 17 = .ok (.iload_n 1, 1) := by decide +kernel
theorem dX7_value_18 : decode cX7_value 18 = .ok (.invokevirtual 124, 3) := by decide +kernel
theorem dX7_value_21 : decode cX7_value 21 = .ok (.goto 5, 3) := by decide +kernel
theorem dX7_variable_0 : decode cX7_variable 0 = .ok (.aload_n 0, 1) := by decide +kernel
theorem dX7_variable_1 : decode cX7_variable 1 = .ok (.getfield 21, 3) := by decide +kernel
theorem dX7_variable_4 : decode cX7_variable 4 = .ok (.getfield 127, 3) := by decide +kernel
theorem dX7_variable_7 : decode cX7_variable 7 = .ok (.iload_n 1, 1) := by decide +kernel
theorem dX7_variable_8 : decode cX7_variable 8 = .ok (.invokevirtual 131, 3) := by decide +kernel
theorem dX7_variable_11 : decode cX7_variable 11 = .ok (.istore_n 3, 1) := by decide +kernel
theorem dX7_variable_12 : decode cX7_variable 12 = .ok (.iload_n 3, 1) := by decide +kernel
theorem dX7_variable_13 : decode cX7_variable 13 = .ok (.bipush (-9), 2) := by decide +kernel
theorem dX7_variable_15 : decode cX7_variable 15 = .ok (.if_icmp .ne 5, 3) := by decide +kernel
theorem dX7_variable_20 : decode cX7_variable 20 = .ok (.iload_n 2, 1) := by decide +kernel
theorem dX7_variable_21 : decode cX7_variable 21 = .ok (.tableswitch 71 0 2 #[27, 39, 55], 27) := by decide +kernel
theorem dX7_variable_48 : decode cX7_variable 48 = .ok (.aload_n 0, 1) := by decide +kernel
theorem dX7_variable_49 : decode cX7_variable 49 = .ok (.getfield 21, 3) := by decide +kernel
theorem dX7_variable_52 : decode cX7_variable 52 = .ok (.getfield 127, 3) := by decide +kernel
theorem dX7_variable_55 : decode cX7_variable 55 = .ok (.iload_n 3, 1) := by decide +kernel
theorem dX7_variable_56 : decode cX7_variable 56 = .ok (.invokevirtual 136, 3) := by decide +kernel
theorem dX7_variable_59 : decode cX7_variable 59 = .ok (.ireturn, 1) := by decide +kernel
theorem dX7_variable_60 : decode cX7_variable 60 = .ok (.aload_n 0, 1) := by decide +kernel
theorem dX7_variable_61 : decode cX7_variable 61 = .ok (.getfield 21, 3) := by decide +kernel
theorem dX7_variable_64 : decode cX7_variable 64 = .ok (.getfield 127, 3) := by decide +kernel
theorem dX7_variable_67 : decode cX7_variable 67 = .ok (.iload_n 3, 1) := by decide +kernel
theorem dX7_variable_68 : decode cX7_variable 68 = .ok (.iconst 0, 1) := by decide +kernel
theorem dX7_variable_69 : decode cX7_variable 69 = .ok (.invokevirtual 139, 3) := by decide +kernel
theorem dX7_variable_72 : decode cX7_variable 72 = .ok (.getfield 143, 3) := by decide +kernel
theorem dX7_variable_75 : decode cX7_variable 75 = .ok (.ireturn, 1) := by decide +kernel
theorem dX7_variable_76 : decode cX7_variable 76 = .ok (.aload_n 0, 1) := by decide +kernel
theorem dX7_variable_77 : decode cX7_variable 77 = .ok (.getfield 21, 3) := by decide +kernel
theorem dX7_variable_80 : decode cX7_variable 80 = .ok (.getfield 127, 3) := by decide +kernel
theorem dX7_variable_83 : decode cX7_variable 83 = .ok (.iload_n 3, 1) := by decide +kernel
theorem dX7_variable_84 : decode cX7_variable 84 = .ok (.iconst 1, 1) := by decide +kernel
theorem dX7_variable_85 : decode cX7_variable 85 = .ok (.invokevirtual 139, 3) := by decide +kernel
theorem dX7_variable_88 : decode cX7_variable 88 = .ok (.getfield 143, 3) := by decide +kernel
theorem dX7_variable_91 : decode cX7_variable 91 = .ok (.ireturn, 1) := by decide +kernel
theorem dX7_variable_92 : decode cX7_variable 92 = .ok (.iconst (-1), 1) := by decide +kernel
theorem dX7_variable_93 : decode cX7_variable 93 = .ok (.ireturn, 1) := by decide +kernel
theorem dX7_variable_18 : decode cX7_variable 18 = .ok (.iconst (-1), 1) := by decide +kernel
theorem dX7_variable_19 : decode cX7_variable 19 = .ok (.ireturn, 1) := by decide +kernel
theorem dX3_freeCount_0 : decode cX3_freeCount 0 = .ok (.iconst 0, 1) := by decide +kernel
theorem dX3_freeCount_1 : decode cX3_freeCount 1 = .ok (.istore_n 1, 1) := by decide +kernel
theorem dX3_freeCount_2 : decode cX3_freeCount 2 = .ok (.aload_n 0, 1) := by decide +kernel
theorem dX3_freeCount_3 : decode cX3_freeCount 3 = .ok (.invokevirtual 97, 3) := by decide +kernel
theorem dX3_freeCount_6 : decode cX3_freeCount 6 = .ok (.istore_n 2, 1) := by decide +kernel
theorem dX3_freeCount_7 : decode cX3_freeCount 7 = .ok (.iconst 0, 1) := by decide +kernel
theorem dX3_freeCount_8 : decode cX3_freeCount 8 = .ok (.istore_n 3, 1) := by decide +kernel
theorem dX3_freeCount_9 : decode cX3_freeCount 9 = .ok (.iload_n 3, 1) := by decide +kernel
theorem dX3_freeCount_10 : decode cX3_freeCount 10 = .ok (.iload_n 2, 1) := by decide +kernel
theorem dX3_freeCount_11 : decode cX3_freeCount 11 = .ok (.if_icmp .ge 20, 3) := by decide +kernel
theorem dX3_freeCount_31 : decode cX3_freeCount 31 = .ok (.iload_n 1, 1) := by decide +kernel
theorem dX3_freeCount_32 : decode cX3_freeCount 32 = .ok (.ireturn, 1) := by decide +kernel
theorem dX3_freeCount_14 : decode cX3_freeCount 14 = .ok (.aload_n 0, 1) := by decide +kernel
theorem dX3_freeCount_15 : decode cX3_freeCount 15 = .ok (.iload_n 3, 1) := by decide +kernel
theorem dX3_freeCount_16 : decode cX3_freeCount 16 = .ok (.invokevirtual 61, 3) := by decide +kernel
theorem dX3_freeCount_19 : decode cX3_freeCount 19 = .ok (.ifCond .eq 6, 3) := by decide +kernel
theorem dX3_freeCount_25 : decode cX3_freeCount 25 = .ok (.iinc 3 1, 3) := by decide +kernel
theorem dX3_freeCount_28 : decode cX3_freeCount 28 = .ok (.goto (-19), 3) := by decide +kernel
theorem dX3_freeCount_22 : decode cX3_freeCount 22 = .ok (.iinc 1 1, 3) := by decide +kernel
theorem dX7_count_0 : decode cX7_count 0 = .ok (.iload_n 1, 1) := by decide +kernel
theorem dX7_count_1 : decode cX7_count 1 = .ok (.tableswitch 66 0 3 #[31, 39, 50, 58], 31) := by decide +kernel
theorem dX7_count_32 : decode cX7_count 32 = .ok (.aload_n 0, 1) := by decide +kernel
theorem dX7_count_33 : decode cX7_count 33 = .ok (.getfield 12, 3) := by decide +kernel
theorem dX7_count_36 : decode cX7_count 36 = .ok (.invokevirtual 171, 3) := by decide +kernel
theorem dX7_count_39 : decode cX7_count 39 = .ok (.ireturn, 1) := by decide +kernel
theorem dX7_count_40 : decode cX7_count 40 = .ok (.aload_n 0, 1) := by decide +kernel
theorem dX7_count_41 : decode cX7_count 41 = .ok (.getfield 21, 3) := by decide +kernel
theorem dX7_count_44 : decode cX7_count 44 = .ok (.getfield 127, 3) := by decide +kernel
theorem dX7_count_47 : decode cX7_count 47 = .ok (.invokevirtual 174, 3) := by decide +kernel
theorem dX7_count_50 : decode cX7_count 50 = .ok (.ireturn, 1) := by decide +kernel
theorem dX7_count_51 : decode cX7_count 51 = .ok (.aload_n 0, 1) := by decide +kernel
theorem dX7_count_52 : decode cX7_count 52 = .ok (.getfield 12, 3) := by decide +kernel
theorem dX7_count_55 : decode cX7_count 55 = .ok (.invokevirtual 177, 3) := by decide +kernel
theorem dX7_count_58 : decode cX7_count 58 = .ok (.ireturn, 1) := by decide +kernel
theorem dX7_count_59 : decode cX7_count 59 = .ok (.aload_n 0, 1) := by decide +kernel
theorem dX7_count_60 : decode cX7_count 60 = .ok (.getfield 28, 3) := by decide +kernel
theorem dX7_count_63 : decode cX7_count 63 = .ok (.getfield 165, 3) := by decide +kernel
theorem dX7_count_66 : decode cX7_count 66 = .ok (.ireturn, 1) := by decide +kernel
theorem dX7_count_67 : decode cX7_count 67 = .ok (.iconst (-1), 1) := by decide +kernel
theorem dX7_count_68 : decode cX7_count 68 = .ok (.ireturn, 1) := by decide +kernel
theorem dX7_digest_0 : decode cX7_digest 0 = .ok (.ldc2_w 180, 3) := by decide +kernel
theorem dX7_digest_3 : decode cX7_digest 3 = .ok (.lstore_n 1, 1) := by decide +kernel
theorem dX7_digest_4 : decode cX7_digest 4 = .ok (.aload_n 0, 1) := by decide +kernel
theorem dX7_digest_5 : decode cX7_digest 5 = .ok (.getfield 12, 3) := by decide +kernel
theorem dX7_digest_8 : decode cX7_digest 8 = .ok (.invokevirtual 171, 3) := by decide +kernel
theorem dX7_digest_11 : decode cX7_digest 11 = .ok (.istore_n 3, 1) := by decide +kernel
theorem dX7_digest_12 : decode cX7_digest 12 = .ok (.iconst 0, 1) := by decide +kernel
theorem dX7_digest_13 : decode cX7_digest 13 = .ok (.istore 4, 2) := by decide +kernel
theorem dX7_digest_15 : decode cX7_digest 15 = .ok (.iload 4, 2) := by decide +kernel
theorem dX7_digest_17 : decode cX7_digest 17 = .ok (.iload_n 3, 1) := by decide +kernel
theorem dX7_digest_18 : decode cX7_digest 18 = .ok (.if_icmp .ge 41, 3) := by decide +kernel
theorem dX7_digest_59 : decode cX7_digest 59 = .ok (.aload_n 0, 1) := by decide +kernel
theorem dX7_digest_60 : decode cX7_digest 60 = .ok (.getfield 21, 3) := by decide +kernel
theorem dX7_digest_63 : decode cX7_digest 63 = .ok (.getfield 127, 3) := by decide +kernel
theorem dX7_digest_66 : decode cX7_digest 66 = .ok (.invokevirtual 174, 3) := by decide +kernel
theorem dX7_digest_69 : decode cX7_digest 69 = .ok (.istore 4, 2) := by decide +kernel
theorem dX7_digest_71 : decode cX7_digest 71 = .ok (.iconst 0, 1) := by decide +kernel
theorem dX7_digest_72 : decode cX7_digest 72 = .ok (.istore 5, 2) := by decide +kernel
theorem dX7_digest_74 : decode cX7_digest 74 = .ok (.iload 5, 2) := by decide +kernel
theorem dX7_digest_76 : decode cX7_digest 76 = .ok (.iload 4, 2) := by decide +kernel
theorem dX7_digest_78 : decode cX7_digest 78 = .ok (.if_icmp .ge 40, 3) := by decide +kernel
theorem dX7_digest_118 : decode cX7_digest 118 = .ok (.lload_n 1, 1) := by decide +kernel
theorem dX7_digest_119 : decode cX7_digest 119 = .ok (.lreturn, 1) := by decide +kernel
theorem dX7_digest_81 : decode cX7_digest 81 = .ok (.iconst 0, 1) := by decide +kernel
theorem dX7_digest_82 : decode cX7_digest 82 = .ok (.istore 6, 2) := by decide +kernel
theorem dX7_digest_84 : decode cX7_digest 84 = .ok (.iload 6, 2) := by decide +kernel
theorem dX7_digest_86 : decode cX7_digest 86 = .ok (.iconst 3, 1) := by decide +kernel
theorem dX7_digest_87 : decode cX7_digest 87 = .ok (.if_icmp .ge 25, 3) := by decide +kernel
theorem dX7_digest_112 : decode cX7_digest 112 = .ok (.iinc 5 1, 3) := by decide +kernel
theorem dX7_digest_115 : decode cX7_digest 115 = .ok (.goto (-41), 3) := by decide +kernel
theorem dX7_digest_90 : decode cX7_digest 90 = .ok (.ldc2_w 182, 3) := by decide +kernel
theorem dX7_digest_93 : decode cX7_digest 93 = .ok (.lload_n 1, 1) := by decide +kernel
theorem dX7_digest_94 : decode cX7_digest 94 = .ok (.lmul, 1) := by decide +kernel
theorem dX7_digest_95 : decode cX7_digest 95 = .ok (.aload_n 0, 1) := by decide +kernel
theorem dX7_digest_96 : decode cX7_digest 96 = .ok (.iload 5, 2) := by decide +kernel
theorem dX7_digest_98 : decode cX7_digest 98 = .ok (.iload 6, 2) := by decide +kernel
theorem dX7_digest_100 : decode cX7_digest 100 = .ok (.invokevirtual 187, 3) := by decide +kernel
theorem dX7_digest_103 : decode cX7_digest 103 = .ok (.i2l, 1) := by decide +kernel
theorem dX7_digest_104 : decode cX7_digest 104 = .ok (.ladd, 1) := by decide +kernel
theorem dX7_digest_105 : decode cX7_digest 105 = .ok (.lstore_n 1, 1) := by decide +kernel
theorem dX7_digest_106 : decode cX7_digest 106 = .ok (.iinc 6 1, 3) := by decide +kernel
theorem dX7_digest_109 : decode cX7_digest 109 = .ok (.goto (-25), 3) := by decide +kernel
theorem dX7_digest_21 : decode cX7_digest 21 = .ok (.iconst 0, 1) := by decide +kernel
theorem dX7_digest_22 : decode cX7_digest 22 = .ok (.istore 5, 2) := by decide +kernel
theorem dX7_digest_24 : decode cX7_digest 24 = .ok (.iload 5, 2) := by decide +kernel
theorem dX7_digest_26 : decode cX7_digest 26 = .ok (.bipush 16, 2) := by decide +kernel
theorem dX7_digest_28 : decode cX7_digest 28 = .ok (.if_icmp .ge 25, 3) := by decide +kernel
theorem dX7_digest_53 : decode cX7_digest 53 = .ok (.iinc 4 1, 3) := by decide +kernel
theorem dX7_digest_56 : decode cX7_digest 56 = .ok (.goto (-41), 3) := by decide +kernel
theorem dX7_digest_31 : decode cX7_digest 31 = .ok (.ldc2_w 182, 3) := by decide +kernel
theorem dX7_digest_34 : decode cX7_digest 34 = .ok (.lload_n 1, 1) := by decide +kernel
theorem dX7_digest_35 : decode cX7_digest 35 = .ok (.lmul, 1) := by decide +kernel
theorem dX7_digest_36 : decode cX7_digest 36 = .ok (.aload_n 0, 1) := by decide +kernel
theorem dX7_digest_37 : decode cX7_digest 37 = .ok (.iload 4, 2) := by decide +kernel
theorem dX7_digest_39 : decode cX7_digest 39 = .ok (.iload 5, 2) := by decide +kernel
theorem dX7_digest_41 : decode cX7_digest 41 = .ok (.invokevirtual 184, 3) := by decide +kernel
theorem dX7_digest_44 : decode cX7_digest 44 = .ok (.i2l, 1) := by decide +kernel
theorem dX7_digest_45 : decode cX7_digest 45 = .ok (.ladd, 1) := by decide +kernel
theorem dX7_digest_46 : decode cX7_digest 46 = .ok (.lstore_n 1, 1) := by decide +kernel
theorem dX7_digest_47 : decode cX7_digest 47 = .ok (.iinc 5 1, 3) := by decide +kernel
theorem dX7_digest_50 : decode cX7_digest 50 = .ok (.goto (-26), 3) := by decide +kernel
theorem dX7_type_0 : decode cX7_type 0 = .ok (.aload_n 0, 1) := by decide +kernel
theorem dX7_type_1 : decode cX7_type 1 = .ok (.getfield 12, 3) := by decide +kernel
theorem dX7_type_4 : decode cX7_type 4 = .ok (.iload_n 1, 1) := by decide +kernel
theorem dX7_type_5 : decode cX7_type 5 = .ok (.invokevirtual 67, 3) := by decide +kernel
theorem dX7_type_8 : decode cX7_type 8 = .ok (.ifCond .eq 14, 3) := by decide +kernel
theorem dX7_type_22 : decode cX7_type 22 = .ok (.iconst (-1), 1) := by decide +kernel
theorem dX7_type_23 : decode cX7_type 23 = .ok (.ireturn, 1) := by decide +kernel
theorem dX7_type_11 : decode cX7_type 11 = .ok (.aload_n 0, 1) := by decide +kernel
theorem dX7_type_12 : decode cX7_type 12 = .ok (.getfield 21, 3) := by decide +kernel
theorem dX7_type_15 : decode cX7_type 15 = .ok (.iload_n 1, 1) := by decide +kernel
theorem dX7_type_16 : decode cX7_type 16 = .ok (.invokevirtual 108, 3) := by decide +kernel
theorem dX7_type_19 : decode cX7_type 19 = .ok (.goto 4, 3) := by decide +kernel
theorem dX7_bound_0 : decode cX7_bound 0 = .ok (.aload_n 0, 1) := by decide +kernel
theorem dX7_bound_1 : decode cX7_bound 1 = .ok (.getfield 21, 3) := by decide +kernel
theorem dX7_bound_4 : decode cX7_bound 4 = .ok (.getfield 127, 3) := by decide +kernel
theorem dX7_bound_7 : decode cX7_bound 7 = .ok (.iload_n 1, 1) := by decide +kernel
theorem dX7_bound_8 : decode cX7_bound 8 = .ok (.invokevirtual 131, 3) := by decide +kernel
theorem dX7_bound_11 : decode cX7_bound 11 = .ok (.istore 5, 2) := by decide +kernel
theorem dX7_bound_13 : decode cX7_bound 13 = .ok (.iload 5, 2) := by decide +kernel
theorem dX7_bound_15 : decode cX7_bound 15 = .ok (.bipush (-9), 2) := by decide +kernel
theorem dX7_bound_17 : decode cX7_bound 17 = .ok (.if_icmp .ne 5, 3) := by decide +kernel
theorem dX7_bound_22 : decode cX7_bound 22 = .ok (.iload_n 2, 1) := by decide +kernel
theorem dX7_bound_23 : decode cX7_bound 23 = .ok (.ifCond .eq 7, 3) := by decide +kernel
theorem dX7_bound_30 : decode cX7_bound 30 = .ok (.iconst 0, 1) := by decide +kernel
theorem dX7_bound_31 : decode cX7_bound 31 = .ok (.istore 6, 2) := by decide +kernel
theorem dX7_bound_33 : decode cX7_bound 33 = .ok (.aload_n 0, 1) := by decide +kernel
theorem dX7_bound_34 : decode cX7_bound 34 = .ok (.getfield 21, 3) := by decide +kernel
theorem dX7_bound_37 : decode cX7_bound 37 = .ok (.getfield 127, 3) := by decide +kernel
theorem dX7_bound_40 : decode cX7_bound 40 = .ok (.iload 5, 2) := by decide +kernel
theorem dX7_bound_42 : decode cX7_bound 42 = .ok (.iload 6, 2) := by decide +kernel
theorem dX7_bound_44 : decode cX7_bound 44 = .ok (.invokevirtual 139, 3) := by decide +kernel
theorem dX7_bound_47 : decode cX7_bound 47 = .ok (.astore 7, 2) := by decide +kernel
theorem dX7_bound_49 : decode cX7_bound 49 = .ok (.aload 7, 2) := by decide +kernel
theorem dX7_bound_51 : decode cX7_bound 51 = .ok (.iload_n 3, 1) := by decide +kernel
theorem dX7_bound_52 : decode cX7_bound 52 = .ok (.invokevirtual 148, 3) := by decide +kernel
theorem dX7_bound_55 : decode cX7_bound 55 = .ok (.ifCond .ne 6, 3) := by decide +kernel
theorem dX7_bound_61 : decode cX7_bound 61 = .ok (.aload_n 0, 1) := by decide +kernel
theorem dX7_bound_62 : decode cX7_bound 62 = .ok (.getfield 21, 3) := by decide +kernel
theorem dX7_bound_65 : decode cX7_bound 65 = .ok (.getfield 151, 3) := by decide +kernel
theorem dX7_bound_68 : decode cX7_bound 68 = .ok (.aload 7, 2) := by decide +kernel
theorem dX7_bound_70 : decode cX7_bound 70 = .ok (.iload_n 3, 1) := by decide +kernel
theorem dX7_bound_71 : decode cX7_bound 71 = .ok (.invokevirtual 155, 3) := by decide +kernel
theorem dX7_bound_74 : decode cX7_bound 74 = .ok (.iload 6, 2) := by decide +kernel
theorem dX7_bound_76 : decode cX7_bound 76 = .ok (.aload_n 0, 1) := by decide +kernel
theorem dX7_bound_77 : decode cX7_bound 77 = .ok (.getfield 39, 3) := by decide +kernel
theorem dX7_bound_80 : decode cX7_bound 80 = .ok (.invokevirtual 158, 3) := by decide +kernel
theorem dX7_bound_83 : decode cX7_bound 83 = .ok (.aload_n 0, 1) := by decide +kernel
theorem dX7_bound_84 : decode cX7_bound 84 = .ok (.getfield 39, 3) := by decide +kernel
theorem dX7_bound_87 : decode cX7_bound 87 = .ok (.iload 4, 2) := by decide +kernel
theorem dX7_bound_89 : decode cX7_bound 89 = .ok (.invokevirtual 124, 3) := by decide +kernel
theorem dX7_bound_92 : decode cX7_bound 92 = .ok (.ireturn, 1) := by decide +kernel
theorem dX7_bound_58 : decode cX7_bound 58 = .ok (.bipush (-9), 2) := by decide +kernel
theorem dX7_bound_60 : decode cX7_bound 60 = .ok (.ireturn, 1) := by decide +kernel
theorem dX7_bound_26 : decode cX7_bound 26 = .ok (.iconst 1, 1) := by decide +kernel
theorem dX7_bound_27 : decode cX7_bound 27 = .ok (.goto 4, 3) := by decide +kernel
theorem dX7_bound_20 : decode cX7_bound 20 = .ok (.iconst (-1), 1) := by decide +kernel
theorem dX7_bound_21 : decode cX7_bound 21 = .ok (.ireturn, 1) := by decide +kernel
theorem dX7_work_0 : decode cX7_work 0 = .ok (.aload_n 0, 1) := by decide +kernel
theorem dX7_work_1 : decode cX7_work 1 = .ok (.getfield 12, 3) := by decide +kernel
theorem dX7_work_4 : decode cX7_work 4 = .ok (.iload_n 1, 1) := by decide +kernel
theorem dX7_work_5 : decode cX7_work 5 = .ok (.invokevirtual 67, 3) := by decide +kernel
theorem dX7_work_8 : decode cX7_work 8 = .ok (.ifCond .eq 14, 3) := by decide +kernel
theorem dX7_work_22 : decode cX7_work 22 = .ok (.iconst (-1), 1) := by decide +kernel
theorem dX7_work_23 : decode cX7_work 23 = .ok (.ireturn, 1) := by decide +kernel
theorem dX7_work_11 : decode cX7_work 11 = .ok (.iload_n 2, 1) := by decide +kernel
theorem dX7_work_12 : decode cX7_work 12 = .ok (.ifCond .lt 10, 3) := by decide +kernel
theorem dX7_work_15 : decode cX7_work 15 = .ok (.iload_n 2, 1) := by decide +kernel
theorem dX7_work_16 : decode cX7_work 16 = .ok (.sipush 300, 3) := by decide +kernel
theorem dX7_work_19 : decode cX7_work 19 = .ok (.if_icmp .le 5, 3) := by decide +kernel
theorem dX7_work_24 : decode cX7_work 24 = .ok (.aload_n 0, 1) := by decide +kernel
theorem dX7_work_25 : decode cX7_work 25 = .ok (.getfield 28, 3) := by decide +kernel
theorem dX7_work_28 : decode cX7_work 28 = .ok (.iload_n 1, 1) := by decide +kernel
theorem dX7_work_29 : decode cX7_work 29 = .ok (.iload_n 2, 1) := by decide +kernel
theorem dX7_work_30 : decode cX7_work 30 = .ok (.invokevirtual 162, 3) := by decide +kernel
theorem dX7_work_33 : decode cX7_work 33 = .ok (.ireturn, 1) := by decide +kernel
/-! ===== the class whole: what holds between two calls ===== -/
def CI (S : cS) (N : Nat) : Prop := TJ S N ∧ (∃ T V X Y Z, TY S T V V X Y Z) ∧ (kK S 15 = 0 ∧ kK S 19 = 0 ∧ kK S 20 = 0 ∧ kK S 21 = 0) ∧ (∃ a, S.1 200 = nI a ∧ a ≤ 400) ∧ (∃ a, S.1 201 = nI a ∧ a ≤ 400) ∧ ∃ a, S.1 202 = nI a ∧ a ≤ 200
theorem kI_in {n : Int32} {k : Nat} (h0 : ¬ n < 0) (h1 : ¬ nI k ≤ n) (hk : k < 2 ^ 31) : ∃ a, a < k ∧ n = nI a := by
  obtain ⟨j, hj, e⟩ := vp_in_of (rin h0 h1 (Nat.le_refl k) hk) hk
  exact ⟨j, hj, e⟩

set_option maxHeartbeats 4000000 in
set_option maxRecDepth 100000 in
/-- told -/
theorem k_told (l : Launch) (G : cG) (S : cS) (N : Nat) (x : Int32) (y : Int32) (hC : CL S) (hI : CI S N) (Hs : Heap) : Met l yX7_told (wC yX7_told cX7_told 3 (some .int)) (cRm S 2 43) (cPc G S Hs [.ref (ga G 0), .int x, .int y]) (cQi G S Hs (fun v u => AW [] [] S u ∧ (u = S))) (CC - PT S) (12 * (CC - PT S)) (cA G S Hs.size) := by
  refine Met.ofW (cc := cX7_told) (maxL := 3) (ret := (some .int)) (by decide) rfl ?_
  intro p e s m args below meth c s₁ B hml hv
  obtain ⟨rfl, hsz, hP, hK, hD0, -⟩ := hv
  have hx := B.exec
  have hb := B.bytes
  have hr := B.returns
  have htu : ∀ w ∈ CU, w.before _ s = true := fun w h => atoms_spec (ws := (wC yX7_told cX7_told 3 (some .int))) B.pre w (List.mem_cons_of_mem _ h)
  have hown : s.vm.findClass RX7 = some m.cls := findClass_of_methodNamed B.named
  have hlocks := B.notSynchronized
  subst hsz
  have hD : cD (cA G S s.heap.size) G S := cD_self hD0
  have hl := lv_entry ([.ref (ga G 0), .int x, .int y]) (n := 3) (Nat.le_of_ble_eq_true rfl)
  rw [lg_entry_eq]
  generalize (lg_sl ([.ref (ga G 0), .int x, .int y]) ++ List.replicate (3 - (lg_sl ([.ref (ga G 0), .int x, .int y])).length) Slot.unset).toArray = ls at hl ⊢
  have hl : lv_has ls 3 [(0, .ref (ga G 0)), (1, .int x), (2, .int y)] := hl
  obtain ⟨H, hHe⟩ : ∃ H : Heap, H = s.heap := ⟨_, rfl⟩
  rw [← hHe] at hP
  have hS : va_S (cA G S s.heap.size) s.heap H [] := by rw [hHe]; exact va_S.rf
  have hh : HS S S := HS.rf
  have hpp : PT S ≤ PT S := Nat.le_refl _
  have hB9 := hC.1
  refine W.heq hHe ?_
  refine c_ent (S := S) ?_
  obtain ⟨hT, ⟨T, V, X, Y, Z, hY⟩, ⟨h15, h19, h20, h21⟩, ⟨a0, h200, a0l⟩, ⟨a1, h201, a1l⟩, ⟨a2, h202, a2l⟩⟩ := id hI
  obtain ⟨tT, tV, tB, tX⟩ := id hY.2.1
  have hN := hT.1.1
  refine lv_aload_n hx hb dX7_told_0 rfl (lv_at hl 0 rfl) ?_
  refine va_get (D := gD G) (ci := 7) (v := .ref (ga G 1)) (C := RX7) (T := TX7) (N := 4) hx hb htu cu_in7 hown hK hP 0 cw_0 rfl 0 (by decide) (htu _ C_7) (fun _ h9 => h9) rfl dX7_told_1 ?_
  refine lv_iload_n hx hb dX7_told_4 rfl (lv_at hl 1 rfl) ?_
  have hC0 := hC
  refine c_ci (c_runV (As := [.int x]) (rest := []) (q0 := 1) (ci := 3) ⟨hx, hb, hml, hown, htu⟩ (tt_isNode l G S N x hC hT.1 H) (cwV 1 htu hU_X7_67 rfl rfl rfl (by decide +kernel) ⟨Nat.le_of_ble_eq_true rfl, Nat.le_of_ble_eq_true rfl⟩) hP hK hD hC hpp cw_1 rfl rfl hl.1 rfl (lv_room (Nat.le_of_ble_eq_true rfl)) dX7_told_5) hS hD hh hpp (fun r_1 S_2 H locs hw_3 hP hD hS hC hh hs_4 hpp => ?_)
  obtain ⟨-, hu9, hw_3⟩ := hw_3
  have hu9 := hu9.symm
  subst hu9
  refine lv_if_eq (tgt := 21) hx hb dX7_told_8 (by decide) (fun c_5 => ?_) (fun c_5 => ?_)
  · skip
    refine lv_iconst (v := (-1)) hx hb dX7_told_21 (by decide) ?_
    exact c_iret (v := (-1)) hx hb hr hK hP hD hS hC hh hpp ⟨AW.rf, rfl⟩ dX7_told_22 hlocks
  · skip
    refine lv_iload_n hx hb dX7_told_11 rfl (lv_at hl 2 rfl) ?_
    refine lv_if_lt (tgt := 21) hx hb dX7_told_12 (by decide) (fun c_6 => ?_) (fun c_6 => ?_)
    · skip
      refine lv_iconst (v := (-1)) hx hb dX7_told_21 (by decide) ?_
      exact c_iret (v := (-1)) hx hb hr hK hP hD hS hC hh hpp ⟨AW.rf, rfl⟩ dX7_told_22 hlocks
    · skip
      refine lv_iload_n hx hb dX7_told_15 rfl (lv_at hl 2 rfl) ?_
      refine lv_bipush (v := 16) hx hb dX7_told_16 (by decide) ?_
      refine lv_icmp_lt (tgt := 23) hx hb dX7_told_18 (by decide) (fun c_7 => ?_) (fun c_7 => ?_)
      · skip
        refine lv_iload_n hx hb dX7_told_23 rfl (lv_at hl 2 rfl) ?_
        rcases Decidable.em (y = 0) with c_8 | c_8
        · skip
          refine lv_tableIn (tgt := 56) hx hb dX7_told_24 (by rw [c_8]; decide) (by rw [c_8]; decide) (by rw [c_8]; rfl) (by decide) ?_
          refine lv_aload_n hx hb dX7_told_56 rfl (lv_at hl 0 rfl) ?_
          refine va_get (D := gD G) (ci := 7) (v := .ref (ga G 1)) (C := RX7) (T := TX7) (N := 4) hx hb htu cu_in7 hown hK hP 0 cw_0 rfl 0 (by decide) (htu _ C_7) (fun _ h9 => h9) rfl dX7_told_57 ?_
          refine lv_iload_n hx hb dX7_told_60 rfl (lv_at hl 1 rfl) ?_
          have hC0 := hC
          refine c_ci (c_runV (As := [.int x]) (rest := []) (q0 := 1) (ci := 3) ⟨hx, hb, hml, hown, htu⟩ (tt_kindOf l G S N x hC hT.1 H) (cwV 1 htu hU_X7_79 rfl rfl rfl (by decide +kernel) ⟨Nat.le_of_ble_eq_true rfl, Nat.le_of_ble_eq_true rfl⟩) hP hK hD hC hpp cw_1 rfl rfl hl.1 rfl (lv_room (Nat.le_of_ble_eq_true rfl)) dX7_told_61) hS hD hh hpp (fun r_9 S_10 H locs hw_11 hP hD hS hC hh hs_12 hpp => ?_)
          obtain ⟨-, hu9, hw_11⟩ := hw_11
          have hu9 := hu9.symm
          subst hu9
          exact c_iret (v := r_9) hx hb hr hK hP hD hS hC hh hpp ⟨AW.rf, rfl⟩ dX7_told_64 hlocks
        rcases Decidable.em (y = 1) with c_13 | c_13
        · skip
          refine lv_tableIn (tgt := 65) hx hb dX7_told_24 (by rw [c_13]; decide) (by rw [c_13]; decide) (by rw [c_13]; rfl) (by decide) ?_
          refine lv_aload_n hx hb dX7_told_65 rfl (lv_at hl 0 rfl) ?_
          refine va_get (D := gD G) (ci := 7) (v := .ref (ga G 1)) (C := RX7) (T := TX7) (N := 4) hx hb htu cu_in7 hown hK hP 0 cw_0 rfl 0 (by decide) (htu _ C_7) (fun _ h9 => h9) rfl dX7_told_66 ?_
          refine lv_iload_n hx hb dX7_told_69 rfl (lv_at hl 1 rfl) ?_
          have hC0 := hC
          refine c_ci (c_runV (As := [.int x]) (rest := []) (q0 := 1) (ci := 3) ⟨hx, hb, hml, hown, htu⟩ (tt_markOf l G S N x hC hT.1 H) (cwV 1 htu hU_X7_95 rfl rfl rfl (by decide +kernel) ⟨Nat.le_of_ble_eq_true rfl, Nat.le_of_ble_eq_true rfl⟩) hP hK hD hC hpp cw_1 rfl rfl hl.1 rfl (lv_room (Nat.le_of_ble_eq_true rfl)) dX7_told_70) hS hD hh hpp (fun r_14 S_15 H locs hw_16 hP hD hS hC hh hs_17 hpp => ?_)
          obtain ⟨-, hu9, hw_16⟩ := hw_16
          have hu9 := hu9.symm
          subst hu9
          exact c_iret (v := r_14) hx hb hr hK hP hD hS hC hh hpp ⟨AW.rf, rfl⟩ dX7_told_73 hlocks
        rcases Decidable.em (y = 2) with c_18 | c_18
        · skip
          refine lv_tableIn (tgt := 74) hx hb dX7_told_24 (by rw [c_18]; decide) (by rw [c_18]; decide) (by rw [c_18]; rfl) (by decide) ?_
          refine lv_aload_n hx hb dX7_told_74 rfl (lv_at hl 0 rfl) ?_
          refine va_get (D := gD G) (ci := 7) (v := .ref (ga G 1)) (C := RX7) (T := TX7) (N := 4) hx hb htu cu_in7 hown hK hP 0 cw_0 rfl 0 (by decide) (htu _ C_7) (fun _ h9 => h9) rfl dX7_told_75 ?_
          refine lv_iload_n hx hb dX7_told_78 rfl (lv_at hl 1 rfl) ?_
          have hC0 := hC
          refine c_ci (c_runV (As := [.int x]) (rest := []) (q0 := 1) (ci := 3) ⟨hx, hb, hml, hown, htu⟩ (tt_partCount l G S N x hC hT.1 H) (cwV 1 htu hU_X7_85 rfl rfl rfl (by decide +kernel) ⟨Nat.le_of_ble_eq_true rfl, Nat.le_of_ble_eq_true rfl⟩) hP hK hD hC hpp cw_1 rfl rfl hl.1 rfl (lv_room (Nat.le_of_ble_eq_true rfl)) dX7_told_79) hS hD hh hpp (fun r_19 S_20 H locs hw_21 hP hD hS hC hh hs_22 hpp => ?_)
          obtain ⟨-, hu9, hw_21⟩ := hw_21
          have hu9 := hu9.symm
          subst hu9
          exact c_iret (v := r_19) hx hb hr hK hP hD hS hC hh hpp ⟨AW.rf, rfl⟩ dX7_told_82 hlocks
        rcases Decidable.em (y = 3) with c_23 | c_23
        · skip
          refine lv_tableIn (tgt := 83) hx hb dX7_told_24 (by rw [c_23]; decide) (by rw [c_23]; decide) (by rw [c_23]; rfl) (by decide) ?_
          refine lv_aload_n hx hb dX7_told_83 rfl (lv_at hl 0 rfl) ?_
          refine va_get (D := gD G) (ci := 7) (v := .ref (ga G 1)) (C := RX7) (T := TX7) (N := 4) hx hb htu cu_in7 hown hK hP 0 cw_0 rfl 0 (by decide) (htu _ C_7) (fun _ h9 => h9) rfl dX7_told_84 ?_
          refine lv_iload_n hx hb dX7_told_87 rfl (lv_at hl 1 rfl) ?_
          have hC0 := hC
          refine c_ci (c_runV (As := [.int x]) (rest := []) (q0 := 1) (ci := 3) ⟨hx, hb, hml, hown, htu⟩ (tt_ownerOf l G S N x hC hT.1 H) (cwV 1 htu hU_X7_98 rfl rfl rfl (by decide +kernel) ⟨Nat.le_of_ble_eq_true rfl, Nat.le_of_ble_eq_true rfl⟩) hP hK hD hC hpp cw_1 rfl rfl hl.1 rfl (lv_room (Nat.le_of_ble_eq_true rfl)) dX7_told_88) hS hD hh hpp (fun r_24 S_25 H locs hw_26 hP hD hS hC hh hs_27 hpp => ?_)
          obtain ⟨-, hu9, hw_26⟩ := hw_26
          have hu9 := hu9.symm
          subst hu9
          exact c_iret (v := r_24) hx hb hr hK hP hD hS hC hh hpp ⟨AW.rf, rfl⟩ dX7_told_91 hlocks
        have hout : (y).toInt < 0 ∨ 3 < (y).toInt := tb_out y 0 3 (fun z h1 h2 e => by
          rcases (show z = 0 ∨ z = 1 ∨ z = 2 ∨ z = 3 by omega) with rfl | rfl | rfl | rfl
          · exact c_8 (Int32.toInt_inj.mp (e.trans (by decide)))
          · exact c_13 (Int32.toInt_inj.mp (e.trans (by decide)))
          · exact c_18 (Int32.toInt_inj.mp (e.trans (by decide)))
          · exact c_23 (Int32.toInt_inj.mp (e.trans (by decide))))
        refine lv_tableOut (tgt := 92) hx hb dX7_told_24 hout (by decide) ?_
        refine lv_iload_n hx hb dX7_told_92 rfl (lv_at hl 2 rfl) ?_
        refine lv_bipush (v := 10) hx hb dX7_told_93 (by decide) ?_
        refine lv_icmp_ge (tgt := 110) hx hb dX7_told_95 (by decide) (fun c_28 => ?_) (fun c_28 => ?_)
        · skip
          refine lv_aload_n hx hb dX7_told_110 rfl (lv_at hl 0 rfl) ?_
          refine va_get (D := gD G) (ci := 7) (v := .ref (ga G 1)) (C := RX7) (T := TX7) (N := 4) hx hb htu cu_in7 hown hK hP 0 cw_0 rfl 0 (by decide) (htu _ C_7) (fun _ h9 => h9) rfl dX7_told_111 ?_
          refine lv_iload_n hx hb dX7_told_114 rfl (lv_at hl 1 rfl) ?_
          refine lv_iload_n hx hb dX7_told_115 rfl (lv_at hl 2 rfl) ?_
          refine lv_bipush (v := 10) hx hb dX7_told_116 (by decide) ?_
          refine lv_isub hx hb dX7_told_118 ?_
          refine lv_topi (fun f_29 ef_29 => ?_)
          have hC0 := hC
          refine c_ci (c_runV (As := [.int x, .int f_29]) (rest := []) (q0 := 1) (ci := 3) ⟨hx, hb, hml, hown, htu⟩ (tt_labelOf l G S N x f_29 hC hT.1 H) (cwV 2 htu hU_X7_105 rfl rfl rfl (by decide +kernel) ⟨Nat.le_of_ble_eq_true rfl, Nat.le_of_ble_eq_true rfl⟩) hP hK hD hC hpp cw_1 rfl rfl hl.1 rfl (lv_room (Nat.le_of_ble_eq_true rfl)) dX7_told_119) hS hD hh hpp (fun r_30 S_31 H locs hw_32 hP hD hS hC hh hs_33 hpp => ?_)
          obtain ⟨-, hu9, hw_32⟩ := hw_32
          have hu9 := hu9.symm
          subst hu9
          exact c_iret (v := r_30) hx hb hr hK hP hD hS hC hh hpp ⟨AW.rf, rfl⟩ dX7_told_122 hlocks
        · skip
          refine lv_aload_n hx hb dX7_told_98 rfl (lv_at hl 0 rfl) ?_
          refine va_get (D := gD G) (ci := 7) (v := .ref (ga G 1)) (C := RX7) (T := TX7) (N := 4) hx hb htu cu_in7 hown hK hP 0 cw_0 rfl 0 (by decide) (htu _ C_7) (fun _ h9 => h9) rfl dX7_told_99 ?_
          refine lv_iload_n hx hb dX7_told_102 rfl (lv_at hl 1 rfl) ?_
          refine lv_iload_n hx hb dX7_told_103 rfl (lv_at hl 2 rfl) ?_
          refine lv_iconst (v := 4) hx hb dX7_told_104 (by decide) ?_
          refine lv_isub hx hb dX7_told_105 ?_
          refine lv_topi (fun f_34 ef_34 => ?_)
          have hC0 := hC
          refine c_ci (c_runV (As := [.int x, .int f_34]) (rest := []) (q0 := 1) (ci := 3) ⟨hx, hb, hml, hown, htu⟩ (tt_partOf l G S N x f_34 hC hT.1 H) (cwV 2 htu hU_X7_101 rfl rfl rfl (by decide +kernel) ⟨Nat.le_of_ble_eq_true rfl, Nat.le_of_ble_eq_true rfl⟩) hP hK hD hC hpp cw_1 rfl rfl hl.1 rfl (lv_room (Nat.le_of_ble_eq_true rfl)) dX7_told_106) hS hD hh hpp (fun r_35 S_36 H locs hw_37 hP hD hS hC hh hs_38 hpp => ?_)
          obtain ⟨-, hu9, hw_37⟩ := hw_37
          have hu9 := hu9.symm
          subst hu9
          exact c_iret (v := r_35) hx hb hr hK hP hD hS hC hh hpp ⟨AW.rf, rfl⟩ dX7_told_109 hlocks
      · skip
        refine lv_iconst (v := (-1)) hx hb dX7_told_21 (by decide) ?_
        exact c_iret (v := (-1)) hx hb hr hK hP hD hS hC hh hpp ⟨AW.rf, rfl⟩ dX7_told_22 hlocks

set_option maxHeartbeats 4000000 in
set_option maxRecDepth 100000 in
/-- where -/
theorem k_where (l : Launch) (G : cG) (S : cS) (N : Nat) (hC : CL S) (hI : CI S N) (Hs : Heap) : Met l yX7_where (wC yX7_where cX7_where 1 (some .int)) (cRm S 0 0) (cPc G S Hs [.ref (ga G 0)]) (cQi G S Hs (fun v u => AW [] [] S u ∧ (u = S))) (CC - PT S) (12 * (CC - PT S)) (cA G S Hs.size) := by
  refine Met.ofW (cc := cX7_where) (maxL := 1) (ret := (some .int)) (by decide) rfl ?_
  intro p e s m args below meth c s₁ B hml hv
  obtain ⟨rfl, hsz, hP, hK, hD0, -⟩ := hv
  have hx := B.exec
  have hb := B.bytes
  have hr := B.returns
  have htu : ∀ w ∈ CU, w.before _ s = true := fun w h => atoms_spec (ws := (wC yX7_where cX7_where 1 (some .int))) B.pre w (List.mem_cons_of_mem _ h)
  have hown : s.vm.findClass RX7 = some m.cls := findClass_of_methodNamed B.named
  have hlocks := B.notSynchronized
  subst hsz
  have hD : cD (cA G S s.heap.size) G S := cD_self hD0
  have hl := lv_entry ([.ref (ga G 0)]) (n := 1) (Nat.le_of_ble_eq_true rfl)
  rw [lg_entry_eq]
  generalize (lg_sl ([.ref (ga G 0)]) ++ List.replicate (1 - (lg_sl ([.ref (ga G 0)])).length) Slot.unset).toArray = ls at hl ⊢
  have hl : lv_has ls 1 [(0, .ref (ga G 0))] := hl
  obtain ⟨H, hHe⟩ : ∃ H : Heap, H = s.heap := ⟨_, rfl⟩
  rw [← hHe] at hP
  have hS : va_S (cA G S s.heap.size) s.heap H [] := by rw [hHe]; exact va_S.rf
  have hh : HS S S := HS.rf
  have hpp : PT S ≤ PT S := Nat.le_refl _
  have hB9 := hC.1
  refine W.heq hHe ?_
  refine c_ent (S := S) ?_
  obtain ⟨hT, ⟨T, V, X, Y, Z, hY⟩, ⟨h15, h19, h20, h21⟩, ⟨a0, h200, a0l⟩, ⟨a1, h201, a1l⟩, ⟨a2, h202, a2l⟩⟩ := id hI
  obtain ⟨tT, tV, tB, tX⟩ := id hY.2.1
  have hN := hT.1.1
  refine lv_aload_n hx hb dX7_where_0 rfl (lv_at hl 0 rfl) ?_
  refine va_get (D := gD G) (ci := 7) (v := .ref (ga G 4)) (C := RX7) (T := TX7) (N := 4) hx hb htu cu_in7 hown hK hP 0 cw_0 rfl 1 (by decide) (htu _ C_11) (fun _ h9 => h9) rfl dX7_where_1 ?_
  refine va_get (D := gD G) (ci := 5) (v := .int (S.1 13)) (C := RX5) (T := TX5) (N := 15) hx hb htu cu_in5 hown hK hP 4 cw_4 rfl 13 (by decide) (htu _ C_509) (fun _ h9 => h9) rfl dX7_where_4 ?_
  exact c_iret (v := S.1 13) hx hb hr hK hP hD hS hC hh hpp ⟨AW.rf, rfl⟩ dX7_where_7 hlocks

set_option maxHeartbeats 4000000 in
set_option maxRecDepth 100000 in
/-- steps -/
theorem k_steps (l : Launch) (G : cG) (S : cS) (N : Nat) (hC : CL S) (hI : CI S N) (Hs : Heap) : Met l yX7_steps (wC yX7_steps cX7_steps 1 (some .int)) (cRm S 0 0) (cPc G S Hs [.ref (ga G 0)]) (cQi G S Hs (fun v u => AW [] [] S u ∧ (u = S))) (CC - PT S) (12 * (CC - PT S)) (cA G S Hs.size) := by
  refine Met.ofW (cc := cX7_steps) (maxL := 1) (ret := (some .int)) (by decide) rfl ?_
  intro p e s m args below meth c s₁ B hml hv
  obtain ⟨rfl, hsz, hP, hK, hD0, -⟩ := hv
  have hx := B.exec
  have hb := B.bytes
  have hr := B.returns
  have htu : ∀ w ∈ CU, w.before _ s = true := fun w h => atoms_spec (ws := (wC yX7_steps cX7_steps 1 (some .int))) B.pre w (List.mem_cons_of_mem _ h)
  have hown : s.vm.findClass RX7 = some m.cls := findClass_of_methodNamed B.named
  have hlocks := B.notSynchronized
  subst hsz
  have hD : cD (cA G S s.heap.size) G S := cD_self hD0
  have hl := lv_entry ([.ref (ga G 0)]) (n := 1) (Nat.le_of_ble_eq_true rfl)
  rw [lg_entry_eq]
  generalize (lg_sl ([.ref (ga G 0)]) ++ List.replicate (1 - (lg_sl ([.ref (ga G 0)])).length) Slot.unset).toArray = ls at hl ⊢
  have hl : lv_has ls 1 [(0, .ref (ga G 0))] := hl
  obtain ⟨H, hHe⟩ : ∃ H : Heap, H = s.heap := ⟨_, rfl⟩
  rw [← hHe] at hP
  have hS : va_S (cA G S s.heap.size) s.heap H [] := by rw [hHe]; exact va_S.rf
  have hh : HS S S := HS.rf
  have hpp : PT S ≤ PT S := Nat.le_refl _
  have hB9 := hC.1
  refine W.heq hHe ?_
  refine c_ent (S := S) ?_
  obtain ⟨hT, ⟨T, V, X, Y, Z, hY⟩, ⟨h15, h19, h20, h21⟩, ⟨a0, h200, a0l⟩, ⟨a1, h201, a1l⟩, ⟨a2, h202, a2l⟩⟩ := id hI
  obtain ⟨tT, tV, tB, tX⟩ := id hY.2.1
  have hN := hT.1.1
  refine lv_aload_n hx hb dX7_steps_0 rfl (lv_at hl 0 rfl) ?_
  refine va_get (D := gD G) (ci := 7) (v := .ref (ga G 4)) (C := RX7) (T := TX7) (N := 4) hx hb htu cu_in7 hown hK hP 0 cw_0 rfl 1 (by decide) (htu _ C_11) (fun _ h9 => h9) rfl dX7_steps_1 ?_
  refine va_get (D := gD G) (ci := 5) (v := .int (S.1 12)) (C := RX5) (T := TX5) (N := 15) hx hb htu cu_in5 hown hK hP 4 cw_4 rfl 12 (by decide) (htu _ C_511) (fun _ h9 => h9) rfl dX7_steps_4 ?_
  exact c_iret (v := S.1 12) hx hb hr hK hP hD hS hC hh hpp ⟨AW.rf, rfl⟩ dX7_steps_7 hlocks

set_option maxHeartbeats 4000000 in
set_option maxRecDepth 100000 in
/-- worked -/
theorem k_worked (l : Launch) (G : cG) (S : cS) (N : Nat) (hC : CL S) (hI : CI S N) (Hs : Heap) : Met l yX7_worked (wC yX7_worked cX7_worked 1 (some .int)) (cRm S 0 0) (cPc G S Hs [.ref (ga G 0)]) (cQi G S Hs (fun v u => AW [] [] S u ∧ (u = S))) (CC - PT S) (12 * (CC - PT S)) (cA G S Hs.size) := by
  refine Met.ofW (cc := cX7_worked) (maxL := 1) (ret := (some .int)) (by decide) rfl ?_
  intro p e s m args below meth c s₁ B hml hv
  obtain ⟨rfl, hsz, hP, hK, hD0, -⟩ := hv
  have hx := B.exec
  have hb := B.bytes
  have hr := B.returns
  have htu : ∀ w ∈ CU, w.before _ s = true := fun w h => atoms_spec (ws := (wC yX7_worked cX7_worked 1 (some .int))) B.pre w (List.mem_cons_of_mem _ h)
  have hown : s.vm.findClass RX7 = some m.cls := findClass_of_methodNamed B.named
  have hlocks := B.notSynchronized
  subst hsz
  have hD : cD (cA G S s.heap.size) G S := cD_self hD0
  have hl := lv_entry ([.ref (ga G 0)]) (n := 1) (Nat.le_of_ble_eq_true rfl)
  rw [lg_entry_eq]
  generalize (lg_sl ([.ref (ga G 0)]) ++ List.replicate (1 - (lg_sl ([.ref (ga G 0)])).length) Slot.unset).toArray = ls at hl ⊢
  have hl : lv_has ls 1 [(0, .ref (ga G 0))] := hl
  obtain ⟨H, hHe⟩ : ∃ H : Heap, H = s.heap := ⟨_, rfl⟩
  rw [← hHe] at hP
  have hS : va_S (cA G S s.heap.size) s.heap H [] := by rw [hHe]; exact va_S.rf
  have hh : HS S S := HS.rf
  have hpp : PT S ≤ PT S := Nat.le_refl _
  have hB9 := hC.1
  refine W.heq hHe ?_
  refine c_ent (S := S) ?_
  obtain ⟨hT, ⟨T, V, X, Y, Z, hY⟩, ⟨h15, h19, h20, h21⟩, ⟨a0, h200, a0l⟩, ⟨a1, h201, a1l⟩, ⟨a2, h202, a2l⟩⟩ := id hI
  obtain ⟨tT, tV, tB, tX⟩ := id hY.2.1
  have hN := hT.1.1
  refine lv_aload_n hx hb dX7_worked_0 rfl (lv_at hl 0 rfl) ?_
  refine va_get (D := gD G) (ci := 7) (v := .ref (ga G 5)) (C := RX7) (T := TX7) (N := 4) hx hb htu cu_in7 hown hK hP 0 cw_0 rfl 2 (by decide) (htu _ C_15) (fun _ h9 => h9) rfl dX7_worked_1 ?_
  refine va_get (D := gD G) (ci := 6) (v := .int (S.1 111)) (C := RX6) (T := TX6) (N := 14) hx hb htu cu_in6 hown hK hP 5 cw_5 rfl 11 (by decide) (htu _ C_620) (fun _ h9 => h9) rfl dX7_worked_4 ?_
  exact c_iret (v := S.1 111) hx hb hr hK hP hD hS hC hh hpp ⟨AW.rf, rfl⟩ dX7_worked_7 hlocks

set_option maxHeartbeats 4000000 in
set_option maxRecDepth 100000 in
/-- stuck -/
theorem k_stuck (l : Launch) (G : cG) (S : cS) (N : Nat) (hC : CL S) (hI : CI S N) (Hs : Heap) : Met l yX7_stuck (wC yX7_stuck cX7_stuck 1 (some .int)) (cRm S 0 0) (cPc G S Hs [.ref (ga G 0)]) (cQi G S Hs (fun v u => AW [] [] S u ∧ (u = S))) (CC - PT S) (12 * (CC - PT S)) (cA G S Hs.size) := by
  refine Met.ofW (cc := cX7_stuck) (maxL := 1) (ret := (some .int)) (by decide) rfl ?_
  intro p e s m args below meth c s₁ B hml hv
  obtain ⟨rfl, hsz, hP, hK, hD0, -⟩ := hv
  have hx := B.exec
  have hb := B.bytes
  have hr := B.returns
  have htu : ∀ w ∈ CU, w.before _ s = true := fun w h => atoms_spec (ws := (wC yX7_stuck cX7_stuck 1 (some .int))) B.pre w (List.mem_cons_of_mem _ h)
  have hown : s.vm.findClass RX7 = some m.cls := findClass_of_methodNamed B.named
  have hlocks := B.notSynchronized
  subst hsz
  have hD : cD (cA G S s.heap.size) G S := cD_self hD0
  have hl := lv_entry ([.ref (ga G 0)]) (n := 1) (Nat.le_of_ble_eq_true rfl)
  rw [lg_entry_eq]
  generalize (lg_sl ([.ref (ga G 0)]) ++ List.replicate (1 - (lg_sl ([.ref (ga G 0)])).length) Slot.unset).toArray = ls at hl ⊢
  have hl : lv_has ls 1 [(0, .ref (ga G 0))] := hl
  obtain ⟨H, hHe⟩ : ∃ H : Heap, H = s.heap := ⟨_, rfl⟩
  rw [← hHe] at hP
  have hS : va_S (cA G S s.heap.size) s.heap H [] := by rw [hHe]; exact va_S.rf
  have hh : HS S S := HS.rf
  have hpp : PT S ≤ PT S := Nat.le_refl _
  have hB9 := hC.1
  refine W.heq hHe ?_
  refine c_ent (S := S) ?_
  obtain ⟨hT, ⟨T, V, X, Y, Z, hY⟩, ⟨h15, h19, h20, h21⟩, ⟨a0, h200, a0l⟩, ⟨a1, h201, a1l⟩, ⟨a2, h202, a2l⟩⟩ := id hI
  obtain ⟨tT, tV, tB, tX⟩ := id hY.2.1
  have hN := hT.1.1
  refine lv_aload_n hx hb dX7_stuck_0 rfl (lv_at hl 0 rfl) ?_
  refine va_get (D := gD G) (ci := 7) (v := .ref (ga G 5)) (C := RX7) (T := TX7) (N := 4) hx hb htu cu_in7 hown hK hP 0 cw_0 rfl 2 (by decide) (htu _ C_15) (fun _ h9 => h9) rfl dX7_stuck_1 ?_
  refine va_get (D := gD G) (ci := 6) (v := .int (S.1 112)) (C := RX6) (T := TX6) (N := 14) hx hb htu cu_in6 hown hK hP 5 cw_5 rfl 12 (by decide) (htu _ C_622) (fun _ h9 => h9) rfl dX7_stuck_4 ?_
  exact c_iret (v := S.1 112) hx hb hr hK hP hD hS hC hh hpp ⟨AW.rf, rfl⟩ dX7_stuck_7 hlocks

set_option maxHeartbeats 4000000 in
set_option maxRecDepth 100000 in
/-- sign -/
theorem k_sign (l : Launch) (G : cG) (S : cS) (N : Nat) (x : Int32) (hC : CL S) (hI : CI S N) (Hs : Heap) : Met l yX7_sign (wC yX7_sign cX7_sign 2 (some .int)) (cRm S 1 21) (cPc G S Hs [.ref (ga G 0), .int x]) (cQi G S Hs (fun v u => AW [] [] S u ∧ (u = S))) (CC - PT S) (12 * (CC - PT S)) (cA G S Hs.size) := by
  refine Met.ofW (cc := cX7_sign) (maxL := 2) (ret := (some .int)) (by decide) rfl ?_
  intro p e s m args below meth c s₁ B hml hv
  obtain ⟨rfl, hsz, hP, hK, hD0, -⟩ := hv
  have hx := B.exec
  have hb := B.bytes
  have hr := B.returns
  have htu : ∀ w ∈ CU, w.before _ s = true := fun w h => atoms_spec (ws := (wC yX7_sign cX7_sign 2 (some .int))) B.pre w (List.mem_cons_of_mem _ h)
  have hown : s.vm.findClass RX7 = some m.cls := findClass_of_methodNamed B.named
  have hlocks := B.notSynchronized
  subst hsz
  have hD : cD (cA G S s.heap.size) G S := cD_self hD0
  have hl := lv_entry ([.ref (ga G 0), .int x]) (n := 2) (Nat.le_of_ble_eq_true rfl)
  rw [lg_entry_eq]
  generalize (lg_sl ([.ref (ga G 0), .int x]) ++ List.replicate (2 - (lg_sl ([.ref (ga G 0), .int x])).length) Slot.unset).toArray = ls at hl ⊢
  have hl : lv_has ls 2 [(0, .ref (ga G 0)), (1, .int x)] := hl
  obtain ⟨H, hHe⟩ : ∃ H : Heap, H = s.heap := ⟨_, rfl⟩
  rw [← hHe] at hP
  have hS : va_S (cA G S s.heap.size) s.heap H [] := by rw [hHe]; exact va_S.rf
  have hh : HS S S := HS.rf
  have hpp : PT S ≤ PT S := Nat.le_refl _
  have hB9 := hC.1
  refine W.heq hHe ?_
  refine c_ent (S := S) ?_
  obtain ⟨hT, ⟨T, V, X, Y, Z, hY⟩, ⟨h15, h19, h20, h21⟩, ⟨a0, h200, a0l⟩, ⟨a1, h201, a1l⟩, ⟨a2, h202, a2l⟩⟩ := id hI
  obtain ⟨tT, tV, tB, tX⟩ := id hY.2.1
  have hN := hT.1.1
  refine lv_aload_n hx hb dX7_sign_0 rfl (lv_at hl 0 rfl) ?_
  refine va_get (D := gD G) (ci := 7) (v := .ref (ga G 4)) (C := RX7) (T := TX7) (N := 4) hx hb htu cu_in7 hown hK hP 0 cw_0 rfl 1 (by decide) (htu _ C_11) (fun _ h9 => h9) rfl dX7_sign_1 ?_
  refine va_get (D := gD G) (ci := 5) (v := .int (S.1 14)) (C := RX5) (T := TX5) (N := 15) hx hb htu cu_in5 hown hK hP 4 cw_4 rfl 14 (by decide) (htu _ C_513) (fun _ h9 => h9) rfl dX7_sign_4 ?_
  refine lv_if_ne (tgt := 24) hx hb dX7_sign_7 (by decide) (fun c_1 => ?_) (fun c_1 => ?_)
  · skip
    refine lv_bipush (v := (-4)) hx hb dX7_sign_24 (by decide) ?_
    exact c_iret (v := (-4)) hx hb hr hK hP hD hS hC hh hpp ⟨AW.rf, rfl⟩ dX7_sign_26 hlocks
  · skip
    refine lv_aload_n hx hb dX7_sign_10 rfl (lv_at hl 0 rfl) ?_
    refine va_get (D := gD G) (ci := 7) (v := .ref (ga G 4)) (C := RX7) (T := TX7) (N := 4) hx hb htu cu_in7 hown hK hP 0 cw_0 rfl 1 (by decide) (htu _ C_11) (fun _ h9 => h9) rfl dX7_sign_11 ?_
    refine va_get (D := gD G) (ci := 5) (v := .ref (ga G 7)) (C := RX5) (T := TX5) (N := 15) hx hb htu cu_in5 hown hK hP 4 cw_4 rfl 3 (by decide) (htu _ C_514) (fun _ h9 => h9) rfl dX7_sign_14 ?_
    refine lv_iload_n hx hb dX7_sign_17 rfl (lv_at hl 1 rfl) ?_
    have hC0 := hC
    refine c_ci (c_runV (As := [.int x]) (rest := []) (q0 := 7) (ci := 1) ⟨hx, hb, hml, hown, htu⟩ (s_at_7 l G S a1 x hC h201 a1l H) (cwV 1 htu hU_X7_124 rfl rfl rfl (by decide +kernel) ⟨Nat.le_of_ble_eq_true rfl, Nat.le_of_ble_eq_true rfl⟩) hP hK hD hC hpp cw_7 rfl rfl hl.1 rfl (lv_room (Nat.le_of_ble_eq_true rfl)) dX7_sign_18) hS hD hh hpp (fun r_2 S_3 H locs hw_4 hP hD hS hC hh hs_5 hpp => ?_)
    obtain ⟨-, hu9⟩ := hw_4
    have hu9 := hu9.symm
    subst hu9
    refine lv_goto (tgt := 26) hx hb dX7_sign_21 (by decide) ?_
    exact c_iret (v := r_2) hx hb hr hK hP hD hS hC hh hpp ⟨AW.rf, rfl⟩ dX7_sign_26 hlocks

set_option maxHeartbeats 4000000 in
set_option maxRecDepth 100000 in
/-- value -/
theorem k_value (l : Launch) (G : cG) (S : cS) (N : Nat) (x : Int32) (hC : CL S) (hI : CI S N) (Hs : Heap) : Met l yX7_value (wC yX7_value cX7_value 2 (some .int)) (cRm S 1 21) (cPc G S Hs [.ref (ga G 0), .int x]) (cQi G S Hs (fun v u => AW [] [] S u ∧ (u = S))) (CC - PT S) (12 * (CC - PT S)) (cA G S Hs.size) := by
  refine Met.ofW (cc := cX7_value) (maxL := 2) (ret := (some .int)) (by decide) rfl ?_
  intro p e s m args below meth c s₁ B hml hv
  obtain ⟨rfl, hsz, hP, hK, hD0, -⟩ := hv
  have hx := B.exec
  have hb := B.bytes
  have hr := B.returns
  have htu : ∀ w ∈ CU, w.before _ s = true := fun w h => atoms_spec (ws := (wC yX7_value cX7_value 2 (some .int))) B.pre w (List.mem_cons_of_mem _ h)
  have hown : s.vm.findClass RX7 = some m.cls := findClass_of_methodNamed B.named
  have hlocks := B.notSynchronized
  subst hsz
  have hD : cD (cA G S s.heap.size) G S := cD_self hD0
  have hl := lv_entry ([.ref (ga G 0), .int x]) (n := 2) (Nat.le_of_ble_eq_true rfl)
  rw [lg_entry_eq]
  generalize (lg_sl ([.ref (ga G 0), .int x]) ++ List.replicate (2 - (lg_sl ([.ref (ga G 0), .int x])).length) Slot.unset).toArray = ls at hl ⊢
  have hl : lv_has ls 2 [(0, .ref (ga G 0)), (1, .int x)] := hl
  obtain ⟨H, hHe⟩ : ∃ H : Heap, H = s.heap := ⟨_, rfl⟩
  rw [← hHe] at hP
  have hS : va_S (cA G S s.heap.size) s.heap H [] := by rw [hHe]; exact va_S.rf
  have hh : HS S S := HS.rf
  have hpp : PT S ≤ PT S := Nat.le_refl _
  have hB9 := hC.1
  refine W.heq hHe ?_
  refine c_ent (S := S) ?_
  obtain ⟨hT, ⟨T, V, X, Y, Z, hY⟩, ⟨h15, h19, h20, h21⟩, ⟨a0, h200, a0l⟩, ⟨a1, h201, a1l⟩, ⟨a2, h202, a2l⟩⟩ := id hI
  obtain ⟨tT, tV, tB, tX⟩ := id hY.2.1
  have hN := hT.1.1
  refine lv_aload_n hx hb dX7_value_0 rfl (lv_at hl 0 rfl) ?_
  refine va_get (D := gD G) (ci := 7) (v := .ref (ga G 5)) (C := RX7) (T := TX7) (N := 4) hx hb htu cu_in7 hown hK hP 0 cw_0 rfl 2 (by decide) (htu _ C_15) (fun _ h9 => h9) rfl dX7_value_1 ?_
  refine va_get (D := gD G) (ci := 6) (v := .int (S.1 113)) (C := RX6) (T := TX6) (N := 14) hx hb htu cu_in6 hown hK hP 5 cw_5 rfl 13 (by decide) (htu _ C_617) (fun _ h9 => h9) rfl dX7_value_4 ?_
  refine lv_if_ne (tgt := 24) hx hb dX7_value_7 (by decide) (fun c_1 => ?_) (fun c_1 => ?_)
  · skip
    refine lv_bipush (v := (-9)) hx hb dX7_value_24 (by decide) ?_
    exact c_iret (v := (-9)) hx hb hr hK hP hD hS hC hh hpp ⟨AW.rf, rfl⟩ dX7_value_26 hlocks
  · skip
    refine lv_aload_n hx hb dX7_value_10 rfl (lv_at hl 0 rfl) ?_
    refine va_get (D := gD G) (ci := 7) (v := .ref (ga G 5)) (C := RX7) (T := TX7) (N := 4) hx hb htu cu_in7 hown hK hP 0 cw_0 rfl 2 (by decide) (htu _ C_15) (fun _ h9 => h9) rfl dX7_value_11 ?_
    refine va_get (D := gD G) (ci := 6) (v := .ref (ga G 8)) (C := RX6) (T := TX6) (N := 14) hx hb htu cu_in6 hown hK hP 5 cw_5 rfl 1 (by decide) (htu _ C_618) (fun _ h9 => h9) rfl dX7_value_14 ?_
    refine lv_iload_n hx hb dX7_value_17 rfl (lv_at hl 1 rfl) ?_
    have hC0 := hC
    refine c_ci (c_runV (As := [.int x]) (rest := []) (q0 := 8) (ci := 1) ⟨hx, hb, hml, hown, htu⟩ (s_at_8 l G S a2 x hC h202 a2l H) (cwV 1 htu hU_X7_124 rfl rfl rfl (by decide +kernel) ⟨Nat.le_of_ble_eq_true rfl, Nat.le_of_ble_eq_true rfl⟩) hP hK hD hC hpp cw_8 rfl rfl hl.1 rfl (lv_room (Nat.le_of_ble_eq_true rfl)) dX7_value_18) hS hD hh hpp (fun r_2 S_3 H locs hw_4 hP hD hS hC hh hs_5 hpp => ?_)
    obtain ⟨-, hu9⟩ := hw_4
    have hu9 := hu9.symm
    subst hu9
    refine lv_goto (tgt := 26) hx hb dX7_value_21 (by decide) ?_
    exact c_iret (v := r_2) hx hb hr hK hP hD hS hC hh hpp ⟨AW.rf, rfl⟩ dX7_value_26 hlocks

set_option maxHeartbeats 4000000 in
set_option maxRecDepth 100000 in
/-- variable -/
theorem k_variable (l : Launch) (G : cG) (S : cS) (N : Nat) (x : Int32) (y : Int32) (hC : CL S) (hI : CI S N) (Hs : Heap) : Met l yX7_variable (wC yX7_variable cX7_variable 4 (some .int)) (cRm S 2 45) (cPc G S Hs [.ref (ga G 0), .int x, .int y]) (cQi G S Hs (fun v u => AW [] [] S u ∧ (u = S))) (CC - PT S) (12 * (CC - PT S)) (cA G S Hs.size) := by
  refine Met.ofW (cc := cX7_variable) (maxL := 4) (ret := (some .int)) (by decide) rfl ?_
  intro p e s m args below meth c s₁ B hml hv
  obtain ⟨rfl, hsz, hP, hK, hD0, -⟩ := hv
  have hx := B.exec
  have hb := B.bytes
  have hr := B.returns
  have htu : ∀ w ∈ CU, w.before _ s = true := fun w h => atoms_spec (ws := (wC yX7_variable cX7_variable 4 (some .int))) B.pre w (List.mem_cons_of_mem _ h)
  have hown : s.vm.findClass RX7 = some m.cls := findClass_of_methodNamed B.named
  have hlocks := B.notSynchronized
  subst hsz
  have hD : cD (cA G S s.heap.size) G S := cD_self hD0
  have hl := lv_entry ([.ref (ga G 0), .int x, .int y]) (n := 4) (Nat.le_of_ble_eq_true rfl)
  rw [lg_entry_eq]
  generalize (lg_sl ([.ref (ga G 0), .int x, .int y]) ++ List.replicate (4 - (lg_sl ([.ref (ga G 0), .int x, .int y])).length) Slot.unset).toArray = ls at hl ⊢
  have hl : lv_has ls 4 [(0, .ref (ga G 0)), (1, .int x), (2, .int y)] := hl
  obtain ⟨H, hHe⟩ : ∃ H : Heap, H = s.heap := ⟨_, rfl⟩
  rw [← hHe] at hP
  have hS : va_S (cA G S s.heap.size) s.heap H [] := by rw [hHe]; exact va_S.rf
  have hh : HS S S := HS.rf
  have hpp : PT S ≤ PT S := Nat.le_refl _
  have hB9 := hC.1
  refine W.heq hHe ?_
  refine c_ent (S := S) ?_
  obtain ⟨hT, ⟨T, V, X, Y, Z, hY⟩, ⟨h15, h19, h20, h21⟩, ⟨a0, h200, a0l⟩, ⟨a1, h201, a1l⟩, ⟨a2, h202, a2l⟩⟩ := id hI
  obtain ⟨tT, tV, tB, tX⟩ := id hY.2.1
  have hN := hT.1.1
  refine lv_aload_n hx hb dX7_variable_0 rfl (lv_at hl 0 rfl) ?_
  refine va_get (D := gD G) (ci := 7) (v := .ref (ga G 4)) (C := RX7) (T := TX7) (N := 4) hx hb htu cu_in7 hown hK hP 0 cw_0 rfl 1 (by decide) (htu _ C_11) (fun _ h9 => h9) rfl dX7_variable_1 ?_
  refine va_get (D := gD G) (ci := 5) (v := .ref (ga G 2)) (C := RX5) (T := TX5) (N := 15) hx hb htu cu_in5 hown hK hP 4 cw_4 rfl 1 (by decide) (htu _ C_520) (fun _ h9 => h9) rfl dX7_variable_4 ?_
  refine lv_iload_n hx hb dX7_variable_7 rfl (lv_at hl 1 rfl) ?_
  have hC0 := hC
  refine c_ci (c_runV (As := [.int x]) (rest := []) (q0 := 2) (ci := 4) ⟨hx, hb, hml, hown, htu⟩ (y_ofVariable l G S x hC  H) (cwV 1 htu hU_X7_131 rfl rfl rfl (by decide +kernel) ⟨Nat.le_of_ble_eq_true rfl, Nat.le_of_ble_eq_true rfl⟩) hP hK hD hC hpp cw_2 rfl rfl hl.1 rfl (lv_room (Nat.le_of_ble_eq_true rfl)) dX7_variable_8) hS hD hh hpp (fun r_1 S_2 H locs hw_3 hP hD hS hC hh hs_4 hpp => ?_)
  obtain ⟨-, hu9, hw_3⟩ := hw_3
  have hu9 := hu9.symm
  subst hu9
  refine lv_istore_n (lv' := [(3, .int r_1), (0, .ref (ga G 0)), (1, .int x), (2, .int y)]) hx hb dX7_variable_11 rfl hl (by decide) rfl (fun ls hl => ?_)
  refine lv_iload_n hx hb dX7_variable_12 rfl (lv_at hl 0 rfl) ?_
  refine lv_bipush (v := (-9)) hx hb dX7_variable_13 (by decide) ?_
  refine lv_icmp_ne (tgt := 20) hx hb dX7_variable_15 (by decide) (fun c_5 => ?_) (fun c_5 => ?_)
  · skip
    refine lv_iload_n hx hb dX7_variable_20 rfl (lv_at hl 3 rfl) ?_
    rcases Decidable.em (y = 0) with c_6 | c_6
    · skip
      refine lv_tableIn (tgt := 48) hx hb dX7_variable_21 (by rw [c_6]; decide) (by rw [c_6]; decide) (by rw [c_6]; rfl) (by decide) ?_
      refine lv_aload_n hx hb dX7_variable_48 rfl (lv_at hl 1 rfl) ?_
      refine va_get (D := gD G) (ci := 7) (v := .ref (ga G 4)) (C := RX7) (T := TX7) (N := 4) hx hb htu cu_in7 hown hK hP 0 cw_0 rfl 1 (by decide) (htu _ C_11) (fun _ h9 => h9) rfl dX7_variable_49 ?_
      refine va_get (D := gD G) (ci := 5) (v := .ref (ga G 2)) (C := RX5) (T := TX5) (N := 15) hx hb htu cu_in5 hown hK hP 4 cw_4 rfl 1 (by decide) (htu _ C_520) (fun _ h9 => h9) rfl dX7_variable_52 ?_
      refine lv_iload_n hx hb dX7_variable_55 rfl (lv_at hl 0 rfl) ?_
      have hC0 := hC
      refine c_ci (c_runV (As := [.int r_1]) (rest := []) (q0 := 2) (ci := 4) ⟨hx, hb, hml, hown, htu⟩ (y_levelOf l G S r_1 hC  H) (cwV 1 htu hU_X7_136 rfl rfl rfl (by decide +kernel) ⟨Nat.le_of_ble_eq_true rfl, Nat.le_of_ble_eq_true rfl⟩) hP hK hD hC hpp cw_2 rfl rfl hl.1 rfl (lv_room (Nat.le_of_ble_eq_true rfl)) dX7_variable_56) hS hD hh hpp (fun r_7 S_8 H locs hw_9 hP hD hS hC hh hs_10 hpp => ?_)
      obtain ⟨-, hu9, hw_9⟩ := hw_9
      have hu9 := hu9.symm
      subst hu9
      exact c_iret (v := r_7) hx hb hr hK hP hD hS hC hh hpp ⟨AW.rf, rfl⟩ dX7_variable_59 hlocks
    rcases Decidable.em (y = 1) with c_11 | c_11
    · skip
      refine lv_tableIn (tgt := 60) hx hb dX7_variable_21 (by rw [c_11]; decide) (by rw [c_11]; decide) (by rw [c_11]; rfl) (by decide) ?_
      refine lv_aload_n hx hb dX7_variable_60 rfl (lv_at hl 1 rfl) ?_
      refine va_get (D := gD G) (ci := 7) (v := .ref (ga G 4)) (C := RX7) (T := TX7) (N := 4) hx hb htu cu_in7 hown hK hP 0 cw_0 rfl 1 (by decide) (htu _ C_11) (fun _ h9 => h9) rfl dX7_variable_61 ?_
      refine va_get (D := gD G) (ci := 5) (v := .ref (ga G 2)) (C := RX5) (T := TX5) (N := 15) hx hb htu cu_in5 hown hK hP 4 cw_4 rfl 1 (by decide) (htu _ C_520) (fun _ h9 => h9) rfl dX7_variable_64 ?_
      refine lv_iload_n hx hb dX7_variable_67 rfl (lv_at hl 0 rfl) ?_
      refine lv_iconst (v := 0) hx hb dX7_variable_68 (by decide) ?_
      have hC0 := hC
      refine c_cr (c_runV (As := [.int r_1, .int 0]) (rest := []) (q0 := 2) (ci := 4) ⟨hx, hb, hml, hown, htu⟩ (y_boundsOf l G S T V V X Y Z r_1 0 hC hY ((Nat.le_refl _)) ((by decide)) H) (cwV 2 htu hU_X7_139 rfl rfl rfl (by decide +kernel) ⟨Nat.le_of_ble_eq_true rfl, Nat.le_of_ble_eq_true rfl⟩) hP hK hD hC hpp cw_2 rfl rfl hl.1 rfl (lv_room (Nat.le_of_ble_eq_true rfl)) dX7_variable_69) hS hD hh hpp (fun r_12 S_13 H locs hw_14 hP hD hS hC hh hs_15 hpp => ?_)
      obtain ⟨-, hu9, hw_14⟩ := hw_14
      have hu9 := hu9.symm
      subst hu9
      obtain ⟨br_16r, br_16e, br_161⟩ := hw_14
      have br_16b := hY.2.1.2.2.1
      have br_16l : br_16r < 35 + kB S := bnd_lt br_161 br_16b (by decide)
      have br_16h : kH S br_16r = r_12 := br_16e.symm
      refine va_get (D := gD G) (ci := 0) (v := .int (nI (kK S br_16r))) (C := RX0) (T := TX0) (N := 2) hx hb htu cu_in0 hown hK hP (2 * br_16r + 13) (c_hd br_16h (cw_row br_16l)) rfl 1 (by decide) (htu _ C_521) (fun _ h9 => h9) rfl dX7_variable_72 ?_
      exact c_iret (v := nI (kK S br_16r)) hx hb hr hK hP hD hS hC hh hpp ⟨AW.rf, rfl⟩ dX7_variable_75 hlocks
    rcases Decidable.em (y = 2) with c_17 | c_17
    · skip
      refine lv_tableIn (tgt := 76) hx hb dX7_variable_21 (by rw [c_17]; decide) (by rw [c_17]; decide) (by rw [c_17]; rfl) (by decide) ?_
      refine lv_aload_n hx hb dX7_variable_76 rfl (lv_at hl 1 rfl) ?_
      refine va_get (D := gD G) (ci := 7) (v := .ref (ga G 4)) (C := RX7) (T := TX7) (N := 4) hx hb htu cu_in7 hown hK hP 0 cw_0 rfl 1 (by decide) (htu _ C_11) (fun _ h9 => h9) rfl dX7_variable_77 ?_
      refine va_get (D := gD G) (ci := 5) (v := .ref (ga G 2)) (C := RX5) (T := TX5) (N := 15) hx hb htu cu_in5 hown hK hP 4 cw_4 rfl 1 (by decide) (htu _ C_520) (fun _ h9 => h9) rfl dX7_variable_80 ?_
      refine lv_iload_n hx hb dX7_variable_83 rfl (lv_at hl 0 rfl) ?_
      refine lv_iconst (v := 1) hx hb dX7_variable_84 (by decide) ?_
      have hC0 := hC
      refine c_cr (c_runV (As := [.int r_1, .int 1]) (rest := []) (q0 := 2) (ci := 4) ⟨hx, hb, hml, hown, htu⟩ (y_boundsOf l G S T V V X Y Z r_1 1 hC hY ((Nat.le_refl _)) ((by decide)) H) (cwV 2 htu hU_X7_139 rfl rfl rfl (by decide +kernel) ⟨Nat.le_of_ble_eq_true rfl, Nat.le_of_ble_eq_true rfl⟩) hP hK hD hC hpp cw_2 rfl rfl hl.1 rfl (lv_room (Nat.le_of_ble_eq_true rfl)) dX7_variable_85) hS hD hh hpp (fun r_18 S_19 H locs hw_20 hP hD hS hC hh hs_21 hpp => ?_)
      obtain ⟨-, hu9, hw_20⟩ := hw_20
      have hu9 := hu9.symm
      subst hu9
      obtain ⟨br_22r, br_22e, br_221⟩ := hw_20
      have br_22b := hY.2.1.2.2.1
      have br_22l : br_22r < 35 + kB S := bnd_lt br_221 br_22b (by decide)
      have br_22h : kH S br_22r = r_18 := br_22e.symm
      refine va_get (D := gD G) (ci := 0) (v := .int (nI (kK S br_22r))) (C := RX0) (T := TX0) (N := 2) hx hb htu cu_in0 hown hK hP (2 * br_22r + 13) (c_hd br_22h (cw_row br_22l)) rfl 1 (by decide) (htu _ C_521) (fun _ h9 => h9) rfl dX7_variable_88 ?_
      exact c_iret (v := nI (kK S br_22r)) hx hb hr hK hP hD hS hC hh hpp ⟨AW.rf, rfl⟩ dX7_variable_91 hlocks
    have hout : (y).toInt < 0 ∨ 2 < (y).toInt := tb_out y 0 2 (fun z h1 h2 e => by
      rcases (show z = 0 ∨ z = 1 ∨ z = 2 by omega) with rfl | rfl | rfl
      · exact c_6 (Int32.toInt_inj.mp (e.trans (by decide)))
      · exact c_11 (Int32.toInt_inj.mp (e.trans (by decide)))
      · exact c_17 (Int32.toInt_inj.mp (e.trans (by decide))))
    refine lv_tableOut (tgt := 92) hx hb dX7_variable_21 hout (by decide) ?_
    refine lv_iconst (v := (-1)) hx hb dX7_variable_92 (by decide) ?_
    exact c_iret (v := (-1)) hx hb hr hK hP hD hS hC hh hpp ⟨AW.rf, rfl⟩ dX7_variable_93 hlocks
  · skip
    refine lv_iconst (v := (-1)) hx hb dX7_variable_18 (by decide) ?_
    exact c_iret (v := (-1)) hx hb hr hK hP hD hS hC hh hpp ⟨AW.rf, rfl⟩ dX7_variable_19 hlocks

set_option maxHeartbeats 4000000 in
set_option maxRecDepth 100000 in
/-- freeCount -/
theorem k_freeCount (l : Launch) (G : cG) (S : cS) (N : Nat) (hC : CL S) (hT : TI S N) (Hs : Heap) : Met l yX3_freeCount (wC yX3_freeCount cX3_freeCount 4 (some .int)) (cRm S 3 63) (cPc G S Hs [.ref (ga G 1)]) (cQi G S Hs (fun v u => AW [] [] S u ∧ (u = S))) (CC - PT S) (12 * (CC - PT S)) (cA G S Hs.size) := by
  refine Met.ofW (cc := cX3_freeCount) (maxL := 4) (ret := (some .int)) (by decide) rfl ?_
  intro p e s m args below meth c s₁ B hml hv
  obtain ⟨rfl, hsz, hP, hK, hD0, -⟩ := hv
  have hx := B.exec
  have hb := B.bytes
  have hr := B.returns
  have htu : ∀ w ∈ CU, w.before _ s = true := fun w h => atoms_spec (ws := (wC yX3_freeCount cX3_freeCount 4 (some .int))) B.pre w (List.mem_cons_of_mem _ h)
  have hown : s.vm.findClass RX3 = some m.cls := findClass_of_methodNamed B.named
  have hlocks := B.notSynchronized
  subst hsz
  have hD : cD (cA G S s.heap.size) G S := cD_self hD0
  have hl := lv_entry ([.ref (ga G 1)]) (n := 4) (Nat.le_of_ble_eq_true rfl)
  rw [lg_entry_eq]
  generalize (lg_sl ([.ref (ga G 1)]) ++ List.replicate (4 - (lg_sl ([.ref (ga G 1)])).length) Slot.unset).toArray = ls at hl ⊢
  have hl : lv_has ls 4 [(0, .ref (ga G 1))] := hl
  obtain ⟨H, hHe⟩ : ∃ H : Heap, H = s.heap := ⟨_, rfl⟩
  rw [← hHe] at hP
  have hS : va_S (cA G S s.heap.size) s.heap H [] := by rw [hHe]; exact va_S.rf
  have hh : HS S S := HS.rf
  have hpp : PT S ≤ PT S := Nat.le_refl _
  have hB9 := hC.1
  refine W.heq hHe ?_
  refine c_ent (S := S) ?_
  have hN := hT.1
  refine lv_iconst (v := 0) hx hb dX3_freeCount_0 (by decide) ?_
  refine lv_istore_n (lv' := [(1, .int 0), (0, .ref (ga G 1))]) hx hb dX3_freeCount_1 rfl hl (by decide) rfl (fun ls hl => ?_)
  refine lv_aload_n hx hb dX3_freeCount_2 rfl (lv_at hl 1 rfl) ?_
  have hC0 := hC
  refine c_ci (c_runV (As := []) (rest := []) (q0 := 1) (ci := 3) ⟨hx, hb, hml, hown, htu⟩ (tt_size l G S N hC hT H) (cwV 0 htu hU_X3_97 rfl rfl rfl (by decide +kernel) ⟨Nat.le_of_ble_eq_true rfl, Nat.le_of_ble_eq_true rfl⟩) hP hK hD hC hpp cw_1 rfl rfl hl.1 rfl (lv_room (Nat.le_of_ble_eq_true rfl)) dX3_freeCount_3) hS hD hh hpp (fun r_1 S_2 H locs hw_3 hP hD hS hC hh hs_4 hpp => ?_)
  obtain ⟨-, hu9, hw_3⟩ := hw_3
  have hu9 := hu9.symm
  subst hu9
  obtain rfl : r_1 = nI N := hw_3
  refine lv_istore_n (lv' := [(2, .int (nI N)), (1, .int 0), (0, .ref (ga G 1))]) hx hb dX3_freeCount_6 rfl hl (by decide) rfl (fun ls hl => ?_)
  refine lv_iconst (v := 0) hx hb dX3_freeCount_7 (by decide) ?_
  refine lv_istore_n (lv' := [(3, .int 0), (2, .int (nI N)), (1, .int 0), (0, .ref (ga G 1))]) hx hb dX3_freeCount_8 rfl hl (by decide) rfl (fun ls hl => ?_)
  refine w_loop (fun j H locs k sl g => ∃ (fr : Int32) (i : Nat) (ls : Array Slot), i + j = N ∧ k = PT S - PT S ∧ sl = 12 * (PT S - PT S) ∧ cP G S H ∧ cD (cA G S s.heap.size) G S ∧ va_S (cA G S s.heap.size) s.heap H locs ∧ lv_has ls 4 [(0, .ref (ga G 1)), (1, .int fr), (2, .int (nI N)), (3, .int (nI i))] ∧ g = F0 m 9 ls []) ?_ ?_ N _ _ _ _ _ ⟨0, 0, ls, by omega, rfl, rfl, hP, hD, hS, lv_sub hl [3, 2, 1, 0] rfl, rfl⟩
  · intro H locs k sl g hI
    obtain ⟨fr, i, ls, hp0, rfl, rfl, hP, hD, hS, hl, rfl⟩ := hI
    refine lv_iload_n hx hb dX3_freeCount_9 rfl (lv_at hl 3 rfl) ?_
    refine lv_iload_n hx hb dX3_freeCount_10 rfl (lv_at hl 2 rfl) ?_
    refine lv_icmp_ge (tgt := 31) hx hb dX3_freeCount_11 (by decide) (fun c_5 => ?_) (fun c_5 => absurd (nI_le (by omega) (by omega)) c_5)
    refine lv_iload_n hx hb dX3_freeCount_31 rfl (lv_at hl 1 rfl) ?_
    exact c_iret (v := fr) hx hb hr hK hP hD hS hC hh hpp ⟨AW.rf, rfl⟩ dX3_freeCount_32 hlocks
  · intro j ih9 H locs k sl g hI
    obtain ⟨fr, i, ls, hp0, rfl, rfl, hP, hD, hS, hl, rfl⟩ := hI
    refine lv_iload_n hx hb dX3_freeCount_9 rfl (lv_at hl 3 rfl) ?_
    refine lv_iload_n hx hb dX3_freeCount_10 rfl (lv_at hl 2 rfl) ?_
    refine lv_icmp_ge (tgt := 31) hx hb dX3_freeCount_11 (by decide) (fun c_6 => absurd c_6 (nI_ge (by omega) (by omega))) (fun c_6 => ?_)
    refine lv_aload_n hx hb dX3_freeCount_14 rfl (lv_at hl 0 rfl) ?_
    refine lv_iload_n hx hb dX3_freeCount_15 rfl (lv_at hl 3 rfl) ?_
    have hC0 := hC
    refine c_ci (c_runV (As := [.int (nI i)]) (rest := []) (q0 := 1) (ci := 3) ⟨hx, hb, hml, hown, htu⟩ (tt_isFree l G S N (nI i) hC hT H) (cwV 1 htu hU_X3_61 rfl rfl rfl (by decide +kernel) ⟨Nat.le_of_ble_eq_true rfl, Nat.le_of_ble_eq_true rfl⟩) hP hK hD hC hpp cw_1 rfl rfl hl.1 rfl (lv_room (Nat.le_of_ble_eq_true rfl)) dX3_freeCount_16) hS hD hh hpp (fun r_7 S_8 H locs hw_9 hP hD hS hC hh hs_10 hpp => ?_)
    obtain ⟨-, hu9, hw_9⟩ := hw_9
    have hu9 := hu9.symm
    subst hu9
    refine lv_if_eq (tgt := 25) hx hb dX3_freeCount_19 (by decide) (fun c_11 => ?_) (fun c_11 => ?_)
    · skip
      refine lv_iinc (v := nI (i + 1)) (lv' := [(3, .int (nI (i + 1))), (0, .ref (ga G 1)), (1, .int fr), (2, .int (nI N))]) hx hb dX3_freeCount_25 hl (k := 3) rfl (nI_1 i) (by decide) rfl (fun ls hl => ?_)
      refine lv_goto (tgt := 9) hx hb dX3_freeCount_28 (by decide) ?_
      exact ih9 _ _ _ _ _ ⟨fr, i + 1, ls, by omega, rfl, rfl, hP, hD, hS, lv_sub hl [1, 2, 3, 0] rfl, rfl⟩
    · skip
      refine lv_iinc (v := fr + 1) (lv' := [(1, .int (fr + 1)), (0, .ref (ga G 1)), (2, .int (nI N)), (3, .int (nI i))]) hx hb dX3_freeCount_22 hl (k := 1) rfl rfl (by decide) rfl (fun ls hl => ?_)
      refine lv_iinc (v := nI (i + 1)) (lv' := [(3, .int (nI (i + 1))), (1, .int (fr + 1)), (0, .ref (ga G 1)), (2, .int (nI N))]) hx hb dX3_freeCount_25 hl (k := 3) rfl (nI_1 i) (by decide) rfl (fun ls hl => ?_)
      refine lv_goto (tgt := 9) hx hb dX3_freeCount_28 (by decide) ?_
      exact ih9 _ _ _ _ _ ⟨fr + 1, i + 1, ls, by omega, rfl, rfl, hP, hD, hS, lv_sub hl [2, 1, 3, 0] rfl, rfl⟩

set_option maxHeartbeats 4000000 in
set_option maxRecDepth 100000 in
/-- count -/
theorem k_count (l : Launch) (G : cG) (S : cS) (N : Nat) (x : Int32) (hC : CL S) (hI : CI S N) (Hs : Heap) : Met l yX7_count (wC yX7_count cX7_count 2 (some .int)) (cRm S 4 86) (cPc G S Hs [.ref (ga G 0), .int x]) (cQi G S Hs (fun v u => AW [] [] S u ∧ (u = S))) (CC - PT S) (12 * (CC - PT S)) (cA G S Hs.size) := by
  refine Met.ofW (cc := cX7_count) (maxL := 2) (ret := (some .int)) (by decide) rfl ?_
  intro p e s m args below meth c s₁ B hml hv
  obtain ⟨rfl, hsz, hP, hK, hD0, -⟩ := hv
  have hx := B.exec
  have hb := B.bytes
  have hr := B.returns
  have htu : ∀ w ∈ CU, w.before _ s = true := fun w h => atoms_spec (ws := (wC yX7_count cX7_count 2 (some .int))) B.pre w (List.mem_cons_of_mem _ h)
  have hown : s.vm.findClass RX7 = some m.cls := findClass_of_methodNamed B.named
  have hlocks := B.notSynchronized
  subst hsz
  have hD : cD (cA G S s.heap.size) G S := cD_self hD0
  have hl := lv_entry ([.ref (ga G 0), .int x]) (n := 2) (Nat.le_of_ble_eq_true rfl)
  rw [lg_entry_eq]
  generalize (lg_sl ([.ref (ga G 0), .int x]) ++ List.replicate (2 - (lg_sl ([.ref (ga G 0), .int x])).length) Slot.unset).toArray = ls at hl ⊢
  have hl : lv_has ls 2 [(0, .ref (ga G 0)), (1, .int x)] := hl
  obtain ⟨H, hHe⟩ : ∃ H : Heap, H = s.heap := ⟨_, rfl⟩
  rw [← hHe] at hP
  have hS : va_S (cA G S s.heap.size) s.heap H [] := by rw [hHe]; exact va_S.rf
  have hh : HS S S := HS.rf
  have hpp : PT S ≤ PT S := Nat.le_refl _
  have hB9 := hC.1
  refine W.heq hHe ?_
  refine c_ent (S := S) ?_
  obtain ⟨hT, ⟨T, V, X, Y, Z, hY⟩, ⟨h15, h19, h20, h21⟩, ⟨a0, h200, a0l⟩, ⟨a1, h201, a1l⟩, ⟨a2, h202, a2l⟩⟩ := id hI
  obtain ⟨tT, tV, tB, tX⟩ := id hY.2.1
  have hN := hT.1.1
  refine lv_iload_n hx hb dX7_count_0 rfl (lv_at hl 1 rfl) ?_
  rcases Decidable.em (x = 0) with c_1 | c_1
  · skip
    refine lv_tableIn (tgt := 32) hx hb dX7_count_1 (by rw [c_1]; decide) (by rw [c_1]; decide) (by rw [c_1]; rfl) (by decide) ?_
    refine lv_aload_n hx hb dX7_count_32 rfl (lv_at hl 0 rfl) ?_
    refine va_get (D := gD G) (ci := 7) (v := .ref (ga G 1)) (C := RX7) (T := TX7) (N := 4) hx hb htu cu_in7 hown hK hP 0 cw_0 rfl 0 (by decide) (htu _ C_7) (fun _ h9 => h9) rfl dX7_count_33 ?_
    have hC0 := hC
    refine c_ci (c_runV (As := []) (rest := []) (q0 := 1) (ci := 3) ⟨hx, hb, hml, hown, htu⟩ (tt_size l G S N hC hT.1 H) (cwV 0 htu hU_X7_171 rfl rfl rfl (by decide +kernel) ⟨Nat.le_of_ble_eq_true rfl, Nat.le_of_ble_eq_true rfl⟩) hP hK hD hC hpp cw_1 rfl rfl hl.1 rfl (lv_room (Nat.le_of_ble_eq_true rfl)) dX7_count_36) hS hD hh hpp (fun r_2 S_3 H locs hw_4 hP hD hS hC hh hs_5 hpp => ?_)
    obtain ⟨-, hu9, hw_4⟩ := hw_4
    have hu9 := hu9.symm
    subst hu9
    exact c_iret (v := r_2) hx hb hr hK hP hD hS hC hh hpp ⟨AW.rf, rfl⟩ dX7_count_39 hlocks
  rcases Decidable.em (x = 1) with c_6 | c_6
  · skip
    refine lv_tableIn (tgt := 40) hx hb dX7_count_1 (by rw [c_6]; decide) (by rw [c_6]; decide) (by rw [c_6]; rfl) (by decide) ?_
    refine lv_aload_n hx hb dX7_count_40 rfl (lv_at hl 0 rfl) ?_
    refine va_get (D := gD G) (ci := 7) (v := .ref (ga G 4)) (C := RX7) (T := TX7) (N := 4) hx hb htu cu_in7 hown hK hP 0 cw_0 rfl 1 (by decide) (htu _ C_11) (fun _ h9 => h9) rfl dX7_count_41 ?_
    refine va_get (D := gD G) (ci := 5) (v := .ref (ga G 2)) (C := RX5) (T := TX5) (N := 15) hx hb htu cu_in5 hown hK hP 4 cw_4 rfl 1 (by decide) (htu _ C_520) (fun _ h9 => h9) rfl dX7_count_44 ?_
    have hC0 := hC
    refine c_ci (c_runV (As := []) (rest := []) (q0 := 2) (ci := 4) ⟨hx, hb, hml, hown, htu⟩ (y_variableCount l G S  hC  H) (cwV 0 htu hU_X7_174 rfl rfl rfl (by decide +kernel) ⟨Nat.le_of_ble_eq_true rfl, Nat.le_of_ble_eq_true rfl⟩) hP hK hD hC hpp cw_2 rfl rfl hl.1 rfl (lv_room (Nat.le_of_ble_eq_true rfl)) dX7_count_47) hS hD hh hpp (fun r_7 S_8 H locs hw_9 hP hD hS hC hh hs_10 hpp => ?_)
    obtain ⟨-, hu9, hw_9⟩ := hw_9
    have hu9 := hu9.symm
    subst hu9
    exact c_iret (v := r_7) hx hb hr hK hP hD hS hC hh hpp ⟨AW.rf, rfl⟩ dX7_count_50 hlocks
  rcases Decidable.em (x = 2) with c_11 | c_11
  · skip
    refine lv_tableIn (tgt := 51) hx hb dX7_count_1 (by rw [c_11]; decide) (by rw [c_11]; decide) (by rw [c_11]; rfl) (by decide) ?_
    refine lv_aload_n hx hb dX7_count_51 rfl (lv_at hl 0 rfl) ?_
    refine va_get (D := gD G) (ci := 7) (v := .ref (ga G 1)) (C := RX7) (T := TX7) (N := 4) hx hb htu cu_in7 hown hK hP 0 cw_0 rfl 0 (by decide) (htu _ C_7) (fun _ h9 => h9) rfl dX7_count_52 ?_
    have hC0 := hC
    refine c_ci (c_runV (As := []) (rest := []) (q0 := 1) (ci := 3) ⟨hx, hb, hml, hown, htu⟩ (k_freeCount l G S N hC hT.1 H) (cwV 0 htu hU_X7_177 rfl rfl rfl (by decide +kernel) ⟨Nat.le_of_ble_eq_true rfl, Nat.le_of_ble_eq_true rfl⟩) hP hK hD hC hpp cw_1 rfl rfl hl.1 rfl (lv_room (Nat.le_of_ble_eq_true rfl)) dX7_count_55) hS hD hh hpp (fun r_12 S_13 H locs hw_14 hP hD hS hC hh hs_15 hpp => ?_)
    obtain ⟨-, hu9⟩ := hw_14
    have hu9 := hu9.symm
    subst hu9
    exact c_iret (v := r_12) hx hb hr hK hP hD hS hC hh hpp ⟨AW.rf, rfl⟩ dX7_count_58 hlocks
  rcases Decidable.em (x = 3) with c_16 | c_16
  · skip
    refine lv_tableIn (tgt := 59) hx hb dX7_count_1 (by rw [c_16]; decide) (by rw [c_16]; decide) (by rw [c_16]; rfl) (by decide) ?_
    refine lv_aload_n hx hb dX7_count_59 rfl (lv_at hl 0 rfl) ?_
    refine va_get (D := gD G) (ci := 7) (v := .ref (ga G 5)) (C := RX7) (T := TX7) (N := 4) hx hb htu cu_in7 hown hK hP 0 cw_0 rfl 2 (by decide) (htu _ C_15) (fun _ h9 => h9) rfl dX7_count_60 ?_
    refine va_get (D := gD G) (ci := 6) (v := .int (S.1 113)) (C := RX6) (T := TX6) (N := 14) hx hb htu cu_in6 hown hK hP 5 cw_5 rfl 13 (by decide) (htu _ C_617) (fun _ h9 => h9) rfl dX7_count_63 ?_
    exact c_iret (v := S.1 113) hx hb hr hK hP hD hS hC hh hpp ⟨AW.rf, rfl⟩ dX7_count_66 hlocks
  have hout : (x).toInt < 0 ∨ 3 < (x).toInt := tb_out x 0 3 (fun z h1 h2 e => by
    rcases (show z = 0 ∨ z = 1 ∨ z = 2 ∨ z = 3 by omega) with rfl | rfl | rfl | rfl
    · exact c_1 (Int32.toInt_inj.mp (e.trans (by decide)))
    · exact c_6 (Int32.toInt_inj.mp (e.trans (by decide)))
    · exact c_11 (Int32.toInt_inj.mp (e.trans (by decide)))
    · exact c_16 (Int32.toInt_inj.mp (e.trans (by decide))))
  refine lv_tableOut (tgt := 67) hx hb dX7_count_1 hout (by decide) ?_
  refine lv_iconst (v := (-1)) hx hb dX7_count_67 (by decide) ?_
  exact c_iret (v := (-1)) hx hb hr hK hP hD hS hC hh hpp ⟨AW.rf, rfl⟩ dX7_count_68 hlocks

set_option maxHeartbeats 4000000 in
set_option maxRecDepth 100000 in
/-- bound -/
theorem k_bound (l : Launch) (G : cG) (S : cS) (N : Nat) (x : Int32) (ab : Int32) (y : Int32) (z9 : Int32) (hC : CL S) (hI : CI S N) (Hs : Heap) : Met l yX7_bound (wC yX7_bound cX7_bound 8 (some .int)) (cRm S 6 175) (cPc G S Hs [.ref (ga G 0), .int x, .int ab, .int y, .int z9]) (cQi G S Hs (fun v u => AW [19, 20, 21, 22] [200, 300] S u ∧ (CI u N))) (CC - PT S) (12 * (CC - PT S)) (cA G S Hs.size) := by
  refine Met.ofW (cc := cX7_bound) (maxL := 8) (ret := (some .int)) (by decide) rfl ?_
  intro p e s m args below meth c s₁ B hml hv
  obtain ⟨rfl, hsz, hP, hK, hD0, -⟩ := hv
  have hx := B.exec
  have hb := B.bytes
  have hr := B.returns
  have htu : ∀ w ∈ CU, w.before _ s = true := fun w h => atoms_spec (ws := (wC yX7_bound cX7_bound 8 (some .int))) B.pre w (List.mem_cons_of_mem _ h)
  have hown : s.vm.findClass RX7 = some m.cls := findClass_of_methodNamed B.named
  have hlocks := B.notSynchronized
  subst hsz
  have hD : cD (cA G S s.heap.size) G S := cD_self hD0
  have hl := lv_entry ([.ref (ga G 0), .int x, .int ab, .int y, .int z9]) (n := 8) (Nat.le_of_ble_eq_true rfl)
  rw [lg_entry_eq]
  generalize (lg_sl ([.ref (ga G 0), .int x, .int ab, .int y, .int z9]) ++ List.replicate (8 - (lg_sl ([.ref (ga G 0), .int x, .int ab, .int y, .int z9])).length) Slot.unset).toArray = ls at hl ⊢
  have hl : lv_has ls 8 [(0, .ref (ga G 0)), (1, .int x), (2, .int ab), (3, .int y), (4, .int z9)] := hl
  obtain ⟨H, hHe⟩ : ∃ H : Heap, H = s.heap := ⟨_, rfl⟩
  rw [← hHe] at hP
  have hS : va_S (cA G S s.heap.size) s.heap H [] := by rw [hHe]; exact va_S.rf
  have hh : HS S S := HS.rf
  have hpp : PT S ≤ PT S := Nat.le_refl _
  have hB9 := hC.1
  refine W.heq hHe ?_
  refine c_ent (S := S) ?_
  obtain ⟨hT, ⟨T, V, X, Y, Z, hY⟩, ⟨h15, h19, h20, h21⟩, ⟨a0, h200, a0l⟩, ⟨a1, h201, a1l⟩, ⟨a2, h202, a2l⟩⟩ := id hI
  obtain ⟨tT, tV, tB, tX⟩ := id hY.2.1
  have hN := hT.1.1
  refine lv_aload_n hx hb dX7_bound_0 rfl (lv_at hl 0 rfl) ?_
  refine va_get (D := gD G) (ci := 7) (v := .ref (ga G 4)) (C := RX7) (T := TX7) (N := 4) hx hb htu cu_in7 hown hK hP 0 cw_0 rfl 1 (by decide) (htu _ C_11) (fun _ h9 => h9) rfl dX7_bound_1 ?_
  refine va_get (D := gD G) (ci := 5) (v := .ref (ga G 2)) (C := RX5) (T := TX5) (N := 15) hx hb htu cu_in5 hown hK hP 4 cw_4 rfl 1 (by decide) (htu _ C_520) (fun _ h9 => h9) rfl dX7_bound_4 ?_
  refine lv_iload_n hx hb dX7_bound_7 rfl (lv_at hl 1 rfl) ?_
  have hC0 := hC
  refine c_ci (c_runV (As := [.int x]) (rest := []) (q0 := 2) (ci := 4) ⟨hx, hb, hml, hown, htu⟩ (y_ofVariable l G S x hC  H) (cwV 1 htu hU_X7_131 rfl rfl rfl (by decide +kernel) ⟨Nat.le_of_ble_eq_true rfl, Nat.le_of_ble_eq_true rfl⟩) hP hK hD hC hpp cw_2 rfl rfl hl.1 rfl (lv_room (Nat.le_of_ble_eq_true rfl)) dX7_bound_8) hS hD hh hpp (fun r_1 S_2 H locs hw_3 hP hD hS hC hh hs_4 hpp => ?_)
  obtain ⟨-, hu9, hw_3⟩ := hw_3
  have hu9 := hu9.symm
  subst hu9
  refine lv_istore (lv' := [(5, .int r_1), (0, .ref (ga G 0)), (1, .int x), (2, .int ab), (3, .int y), (4, .int z9)]) hx hb dX7_bound_11 hl (by decide) rfl (fun ls hl => ?_)
  refine lv_iload hx hb dX7_bound_13 (lv_at hl 0 rfl) ?_
  refine lv_bipush (v := (-9)) hx hb dX7_bound_15 (by decide) ?_
  refine lv_icmp_ne (tgt := 22) hx hb dX7_bound_17 (by decide) (fun c_5 => ?_) (fun c_5 => ?_)
  · skip
    refine lv_iload_n hx hb dX7_bound_22 rfl (lv_at hl 3 rfl) ?_
    refine lv_if_eq (tgt := 30) hx hb dX7_bound_23 (by decide) (fun c_6 => ?_) (fun c_6 => ?_)
    · skip
      refine lv_iconst (v := 0) hx hb dX7_bound_30 (by decide) ?_
      refine lv_istore (lv' := [(6, .int 0), (5, .int r_1), (0, .ref (ga G 0)), (1, .int x), (2, .int ab), (3, .int y), (4, .int z9)]) hx hb dX7_bound_31 hl (by decide) rfl (fun ls hl => ?_)
      refine lv_aload_n hx hb dX7_bound_33 rfl (lv_at hl 2 rfl) ?_
      refine va_get (D := gD G) (ci := 7) (v := .ref (ga G 4)) (C := RX7) (T := TX7) (N := 4) hx hb htu cu_in7 hown hK hP 0 cw_0 rfl 1 (by decide) (htu _ C_11) (fun _ h9 => h9) rfl dX7_bound_34 ?_
      refine va_get (D := gD G) (ci := 5) (v := .ref (ga G 2)) (C := RX5) (T := TX5) (N := 15) hx hb htu cu_in5 hown hK hP 4 cw_4 rfl 1 (by decide) (htu _ C_520) (fun _ h9 => h9) rfl dX7_bound_37 ?_
      refine lv_iload hx hb dX7_bound_40 (lv_at hl 1 rfl) ?_
      refine lv_iload hx hb dX7_bound_42 (lv_at hl 0 rfl) ?_
      have hC0 := hC
      refine c_cr (c_runV (As := [.int r_1, .int 0]) (rest := []) (q0 := 2) (ci := 4) ⟨hx, hb, hml, hown, htu⟩ (y_boundsOf l G S T V V X Y Z r_1 0 hC hY ((Nat.le_refl _)) ((by decide)) H) (cwV 2 htu hU_X7_139 rfl rfl rfl (by decide +kernel) ⟨Nat.le_of_ble_eq_true rfl, Nat.le_of_ble_eq_true rfl⟩) hP hK hD hC hpp cw_2 rfl rfl hl.1 rfl (lv_room (Nat.le_of_ble_eq_true rfl)) dX7_bound_44) hS hD hh hpp (fun r_7 S_8 H locs hw_9 hP hD hS hC hh hs_10 hpp => ?_)
      obtain ⟨-, hu9, hw_9⟩ := hw_9
      have hu9 := hu9.symm
      subst hu9
      obtain ⟨br_11r, br_11e, br_111⟩ := hw_9
      have br_11b := hY.2.1.2.2.1
      have br_11l : br_11r < 35 + kB S := bnd_lt br_111 br_11b (by decide)
      have br_11h : kH S br_11r = r_7 := br_11e.symm
      refine lv_astore (lv' := [(7, .ref r_7), (6, .int 0), (5, .int r_1), (0, .ref (ga G 0)), (1, .int x), (2, .int ab), (3, .int y), (4, .int z9)]) hx hb dX7_bound_47 hl (by decide) rfl (fun ls hl => ?_)
      refine lv_aload hx hb dX7_bound_49 (lv_at hl 0 rfl) ?_
      refine lv_iload_n hx hb dX7_bound_51 rfl (lv_at hl 6 rfl) ?_
      have hC0 := hC
      refine c_ci (c_runV (As := [.int y]) (rest := []) (q0 := (2 * br_11r + 13)) (ci := 0) ⟨hx, hb, hml, hown, htu⟩ (c_holdsA l G S br_11r br_11l hC r_7 br_11h y H) (cwV 1 htu hU_X7_148 rfl rfl rfl (by decide +kernel) ⟨Nat.le_of_ble_eq_true rfl, Nat.le_of_ble_eq_true rfl⟩) hP hK hD hC hpp (c_hd br_11h (cw_row br_11l)) rfl rfl hl.1 rfl (lv_room (Nat.le_of_ble_eq_true rfl)) dX7_bound_52) hS hD hh hpp (fun r_12 S_13 H locs hw_14 hP hD hS hC hh hs_15 hpp => ?_)
      obtain ⟨hu9, hw_14⟩ := hw_14
      have hu9 := hu9.symm
      subst hu9
      refine lv_if_ne (tgt := 61) hx hb dX7_bound_55 (by decide) (fun c_16 => ?_) (fun c_16 => ?_)
      · skip
        refine lv_aload_n hx hb dX7_bound_61 rfl (lv_at hl 3 rfl) ?_
        refine va_get (D := gD G) (ci := 7) (v := .ref (ga G 4)) (C := RX7) (T := TX7) (N := 4) hx hb htu cu_in7 hown hK hP 0 cw_0 rfl 1 (by decide) (htu _ C_11) (fun _ h9 => h9) rfl dX7_bound_62 ?_
        refine va_get (D := gD G) (ci := 5) (v := .ref (ga G 3)) (C := RX5) (T := TX5) (N := 15) hx hb htu cu_in5 hown hK hP 4 cw_4 rfl 2 (by decide) (htu _ C_529) (fun _ h9 => h9) rfl dX7_bound_65 ?_
        refine lv_aload hx hb dX7_bound_68 (lv_at hl 0 rfl) ?_
        refine lv_iload_n hx hb dX7_bound_70 rfl (lv_at hl 6 rfl) ?_
        have hC0 := hC
        refine c_ci (c_runV (As := [.int y]) (rest := [.ref (ga G 3)]) (q0 := (2 * br_11r + 13)) (ci := 0) ⟨hx, hb, hml, hown, htu⟩ (c_getA l G S br_11r br_11l hC r_7 br_11h y H) (cwV 1 htu hU_X7_155 rfl rfl rfl (by decide +kernel) ⟨Nat.le_of_ble_eq_true rfl, Nat.le_of_ble_eq_true rfl⟩) hP hK hD hC hpp (c_hd br_11h (cw_row br_11l)) rfl rfl hl.1 rfl (lv_room (Nat.le_of_ble_eq_true rfl)) dX7_bound_71) hS hD hh hpp (fun r_17 S_18 H locs hw_19 hP hD hS hC hh hs_20 hpp => ?_)
        obtain ⟨hu9, hw_19⟩ := hw_19
        have hu9 := hu9.symm
        subst hu9
        refine lv_iload hx hb dX7_bound_74 (lv_at hl 1 rfl) ?_
        refine lv_aload_n hx hb dX7_bound_76 rfl (lv_at hl 3 rfl) ?_
        refine va_get (D := gD G) (ci := 7) (v := .ref (ga G 6)) (C := RX7) (T := TX7) (N := 4) hx hb htu cu_in7 hown hK hP 0 cw_0 rfl 3 (by decide) (htu _ C_19) (fun _ h9 => h9) rfl dX7_bound_77 ?_
        have hC0 := hC
        refine c_cv (c_runV (As := [.int r_17, .int 0, .ref (ga G 6)]) (rest := []) (q0 := 3) (ci := 2) ⟨hx, hb, hml, hown, htu⟩ (l_tell_6 l G S T V V X Y Z 0 r_17 hC hY ((Nat.le_refl _)) h19 h20 h21 ((by decide)) H) (cwV 3 htu hU_X7_158 rfl rfl rfl (by decide +kernel) ⟨Nat.le_of_ble_eq_true rfl, Nat.le_of_ble_eq_true rfl⟩) hP hK hD hC hpp cw_3 rfl rfl hl.1 rfl (lv_room (Nat.le_of_ble_eq_true rfl)) dX7_bound_80) hS hD hh hpp (fun S_22 H locs hw_23 hP hD hS hC hh hs_24 hpp => ?_)
        try dsimp only at hw_23
        have aw_25 : AW [19, 20, 21, 22] [200, 300] S S_22 := hw_23.1
        have aw_25t : AW [19, 20, 21, 22] [200, 300] S S_22 := AW.rf.tr (aw_25.mono (by decide) (by decide))
        have kk_26 : kK S_22 15 = 0 := (aw_25.2.1 15 (lt35 (by decide)) (by decide)).2.trans h15
        have ii_27 : S_22.1 201 = nI a1 := (aw_25.1 201 (by decide)).trans h201
        have ii_28 : S_22.1 202 = nI a2 := (aw_25.1 202 (by decide)).trans h202
        have ha_29r : br_11r < 35 + kB S_22 := by have := hs_24.1; have := br_11l; omega
        have ha_29 : kH S_22 br_11r = r_7 := (hs_24.2 br_11r br_11l).trans br_11h
        have tj_30 : TJ S_22 N := TJ.aw hT aw_25 (by decide)
        have ty_31 := TY.aw hY aw_25 (by decide)
        obtain ⟨tl_32m, tl_32⟩ := hw_23.2
        refine lv_aload_n hx hb dX7_bound_83 rfl (lv_at hl 3 rfl) ?_
        refine va_get (D := gD G) (ci := 7) (v := .ref (ga G 6)) (C := RX7) (T := TX7) (N := 4) hx hb htu cu_in7 hown hK hP 0 cw_0 rfl 3 (by decide) (htu _ C_19) (fun _ h9 => h9) rfl dX7_bound_84 ?_
        refine lv_iload hx hb dX7_bound_87 (lv_at hl 7 rfl) ?_
        have hC0 := hC
        refine c_ci (c_runV (As := [.int z9]) (rest := []) (q0 := 6) (ci := 1) ⟨hx, hb, hml, hown, htu⟩ (s_at_6 l G S_22 tl_32m z9 hC tl_32.2.1 tl_32.2.2.1 H) (cwV 1 htu hU_X7_124 rfl rfl rfl (by decide +kernel) ⟨Nat.le_of_ble_eq_true rfl, Nat.le_of_ble_eq_true rfl⟩) hP hK hD hC hpp cw_6 rfl rfl hl.1 rfl (lv_room (Nat.le_of_ble_eq_true rfl)) dX7_bound_89) hS hD hh hpp (fun r_33 S_34 H locs hw_35 hP hD hS hC hh hs_36 hpp => ?_)
        obtain ⟨-, hu9⟩ := hw_35
        have hu9 := hu9.symm
        subst hu9
        exact c_iret (v := r_33) hx hb hr hK hP hD hS hC hh hpp ⟨aw_25t, ⟨tj_30, ⟨_, _, _, _, _, ty_31⟩, ⟨kk_26, tl_32.1.1, tl_32.1.2.1, tl_32.1.2.2⟩, ⟨_, tl_32.2.1, tl_32.2.2.1⟩, ⟨_, ii_27, a1l⟩, ⟨_, ii_28, a2l⟩⟩⟩ dX7_bound_92 hlocks
      · skip
        refine lv_bipush (v := (-9)) hx hb dX7_bound_58 (by decide) ?_
        exact c_iret (v := (-9)) hx hb hr hK hP hD hS hC hh hpp ⟨AW.rf, hI⟩ dX7_bound_60 hlocks
    · skip
      refine lv_iconst (v := 1) hx hb dX7_bound_26 (by decide) ?_
      refine lv_goto (tgt := 31) hx hb dX7_bound_27 (by decide) ?_
      refine lv_istore (lv' := [(6, .int 1), (5, .int r_1), (0, .ref (ga G 0)), (1, .int x), (2, .int ab), (3, .int y), (4, .int z9)]) hx hb dX7_bound_31 hl (by decide) rfl (fun ls hl => ?_)
      refine lv_aload_n hx hb dX7_bound_33 rfl (lv_at hl 2 rfl) ?_
      refine va_get (D := gD G) (ci := 7) (v := .ref (ga G 4)) (C := RX7) (T := TX7) (N := 4) hx hb htu cu_in7 hown hK hP 0 cw_0 rfl 1 (by decide) (htu _ C_11) (fun _ h9 => h9) rfl dX7_bound_34 ?_
      refine va_get (D := gD G) (ci := 5) (v := .ref (ga G 2)) (C := RX5) (T := TX5) (N := 15) hx hb htu cu_in5 hown hK hP 4 cw_4 rfl 1 (by decide) (htu _ C_520) (fun _ h9 => h9) rfl dX7_bound_37 ?_
      refine lv_iload hx hb dX7_bound_40 (lv_at hl 1 rfl) ?_
      refine lv_iload hx hb dX7_bound_42 (lv_at hl 0 rfl) ?_
      have hC0 := hC
      refine c_cr (c_runV (As := [.int r_1, .int 1]) (rest := []) (q0 := 2) (ci := 4) ⟨hx, hb, hml, hown, htu⟩ (y_boundsOf l G S T V V X Y Z r_1 1 hC hY ((Nat.le_refl _)) ((by decide)) H) (cwV 2 htu hU_X7_139 rfl rfl rfl (by decide +kernel) ⟨Nat.le_of_ble_eq_true rfl, Nat.le_of_ble_eq_true rfl⟩) hP hK hD hC hpp cw_2 rfl rfl hl.1 rfl (lv_room (Nat.le_of_ble_eq_true rfl)) dX7_bound_44) hS hD hh hpp (fun r_37 S_38 H locs hw_39 hP hD hS hC hh hs_40 hpp => ?_)
      obtain ⟨-, hu9, hw_39⟩ := hw_39
      have hu9 := hu9.symm
      subst hu9
      obtain ⟨br_41r, br_41e, br_411⟩ := hw_39
      have br_41b := hY.2.1.2.2.1
      have br_41l : br_41r < 35 + kB S := bnd_lt br_411 br_41b (by decide)
      have br_41h : kH S br_41r = r_37 := br_41e.symm
      refine lv_astore (lv' := [(7, .ref r_37), (6, .int 1), (5, .int r_1), (0, .ref (ga G 0)), (1, .int x), (2, .int ab), (3, .int y), (4, .int z9)]) hx hb dX7_bound_47 hl (by decide) rfl (fun ls hl => ?_)
      refine lv_aload hx hb dX7_bound_49 (lv_at hl 0 rfl) ?_
      refine lv_iload_n hx hb dX7_bound_51 rfl (lv_at hl 6 rfl) ?_
      have hC0 := hC
      refine c_ci (c_runV (As := [.int y]) (rest := []) (q0 := (2 * br_41r + 13)) (ci := 0) ⟨hx, hb, hml, hown, htu⟩ (c_holdsA l G S br_41r br_41l hC r_37 br_41h y H) (cwV 1 htu hU_X7_148 rfl rfl rfl (by decide +kernel) ⟨Nat.le_of_ble_eq_true rfl, Nat.le_of_ble_eq_true rfl⟩) hP hK hD hC hpp (c_hd br_41h (cw_row br_41l)) rfl rfl hl.1 rfl (lv_room (Nat.le_of_ble_eq_true rfl)) dX7_bound_52) hS hD hh hpp (fun r_42 S_43 H locs hw_44 hP hD hS hC hh hs_45 hpp => ?_)
      obtain ⟨hu9, hw_44⟩ := hw_44
      have hu9 := hu9.symm
      subst hu9
      refine lv_if_ne (tgt := 61) hx hb dX7_bound_55 (by decide) (fun c_46 => ?_) (fun c_46 => ?_)
      · skip
        refine lv_aload_n hx hb dX7_bound_61 rfl (lv_at hl 3 rfl) ?_
        refine va_get (D := gD G) (ci := 7) (v := .ref (ga G 4)) (C := RX7) (T := TX7) (N := 4) hx hb htu cu_in7 hown hK hP 0 cw_0 rfl 1 (by decide) (htu _ C_11) (fun _ h9 => h9) rfl dX7_bound_62 ?_
        refine va_get (D := gD G) (ci := 5) (v := .ref (ga G 3)) (C := RX5) (T := TX5) (N := 15) hx hb htu cu_in5 hown hK hP 4 cw_4 rfl 2 (by decide) (htu _ C_529) (fun _ h9 => h9) rfl dX7_bound_65 ?_
        refine lv_aload hx hb dX7_bound_68 (lv_at hl 0 rfl) ?_
        refine lv_iload_n hx hb dX7_bound_70 rfl (lv_at hl 6 rfl) ?_
        have hC0 := hC
        refine c_ci (c_runV (As := [.int y]) (rest := [.ref (ga G 3)]) (q0 := (2 * br_41r + 13)) (ci := 0) ⟨hx, hb, hml, hown, htu⟩ (c_getA l G S br_41r br_41l hC r_37 br_41h y H) (cwV 1 htu hU_X7_155 rfl rfl rfl (by decide +kernel) ⟨Nat.le_of_ble_eq_true rfl, Nat.le_of_ble_eq_true rfl⟩) hP hK hD hC hpp (c_hd br_41h (cw_row br_41l)) rfl rfl hl.1 rfl (lv_room (Nat.le_of_ble_eq_true rfl)) dX7_bound_71) hS hD hh hpp (fun r_47 S_48 H locs hw_49 hP hD hS hC hh hs_50 hpp => ?_)
        obtain ⟨hu9, hw_49⟩ := hw_49
        have hu9 := hu9.symm
        subst hu9
        refine lv_iload hx hb dX7_bound_74 (lv_at hl 1 rfl) ?_
        refine lv_aload_n hx hb dX7_bound_76 rfl (lv_at hl 3 rfl) ?_
        refine va_get (D := gD G) (ci := 7) (v := .ref (ga G 6)) (C := RX7) (T := TX7) (N := 4) hx hb htu cu_in7 hown hK hP 0 cw_0 rfl 3 (by decide) (htu _ C_19) (fun _ h9 => h9) rfl dX7_bound_77 ?_
        have hC0 := hC
        refine c_cv (c_runV (As := [.int r_47, .int 1, .ref (ga G 6)]) (rest := []) (q0 := 3) (ci := 2) ⟨hx, hb, hml, hown, htu⟩ (l_tell_6 l G S T V V X Y Z 1 r_47 hC hY ((Nat.le_refl _)) h19 h20 h21 ((by decide)) H) (cwV 3 htu hU_X7_158 rfl rfl rfl (by decide +kernel) ⟨Nat.le_of_ble_eq_true rfl, Nat.le_of_ble_eq_true rfl⟩) hP hK hD hC hpp cw_3 rfl rfl hl.1 rfl (lv_room (Nat.le_of_ble_eq_true rfl)) dX7_bound_80) hS hD hh hpp (fun S_52 H locs hw_53 hP hD hS hC hh hs_54 hpp => ?_)
        try dsimp only at hw_53
        have aw_55 : AW [19, 20, 21, 22] [200, 300] S S_52 := hw_53.1
        have aw_55t : AW [19, 20, 21, 22] [200, 300] S S_52 := AW.rf.tr (aw_55.mono (by decide) (by decide))
        have kk_56 : kK S_52 15 = 0 := (aw_55.2.1 15 (lt35 (by decide)) (by decide)).2.trans h15
        have ii_57 : S_52.1 201 = nI a1 := (aw_55.1 201 (by decide)).trans h201
        have ii_58 : S_52.1 202 = nI a2 := (aw_55.1 202 (by decide)).trans h202
        have ha_59r : br_41r < 35 + kB S_52 := by have := hs_54.1; have := br_41l; omega
        have ha_59 : kH S_52 br_41r = r_37 := (hs_54.2 br_41r br_41l).trans br_41h
        have tj_60 : TJ S_52 N := TJ.aw hT aw_55 (by decide)
        have ty_61 := TY.aw hY aw_55 (by decide)
        obtain ⟨tl_62m, tl_62⟩ := hw_53.2
        refine lv_aload_n hx hb dX7_bound_83 rfl (lv_at hl 3 rfl) ?_
        refine va_get (D := gD G) (ci := 7) (v := .ref (ga G 6)) (C := RX7) (T := TX7) (N := 4) hx hb htu cu_in7 hown hK hP 0 cw_0 rfl 3 (by decide) (htu _ C_19) (fun _ h9 => h9) rfl dX7_bound_84 ?_
        refine lv_iload hx hb dX7_bound_87 (lv_at hl 7 rfl) ?_
        have hC0 := hC
        refine c_ci (c_runV (As := [.int z9]) (rest := []) (q0 := 6) (ci := 1) ⟨hx, hb, hml, hown, htu⟩ (s_at_6 l G S_52 tl_62m z9 hC tl_62.2.1 tl_62.2.2.1 H) (cwV 1 htu hU_X7_124 rfl rfl rfl (by decide +kernel) ⟨Nat.le_of_ble_eq_true rfl, Nat.le_of_ble_eq_true rfl⟩) hP hK hD hC hpp cw_6 rfl rfl hl.1 rfl (lv_room (Nat.le_of_ble_eq_true rfl)) dX7_bound_89) hS hD hh hpp (fun r_63 S_64 H locs hw_65 hP hD hS hC hh hs_66 hpp => ?_)
        obtain ⟨-, hu9⟩ := hw_65
        have hu9 := hu9.symm
        subst hu9
        exact c_iret (v := r_63) hx hb hr hK hP hD hS hC hh hpp ⟨aw_55t, ⟨tj_60, ⟨_, _, _, _, _, ty_61⟩, ⟨kk_56, tl_62.1.1, tl_62.1.2.1, tl_62.1.2.2⟩, ⟨_, tl_62.2.1, tl_62.2.2.1⟩, ⟨_, ii_57, a1l⟩, ⟨_, ii_58, a2l⟩⟩⟩ dX7_bound_92 hlocks
      · skip
        refine lv_bipush (v := (-9)) hx hb dX7_bound_58 (by decide) ?_
        exact c_iret (v := (-9)) hx hb hr hK hP hD hS hC hh hpp ⟨AW.rf, hI⟩ dX7_bound_60 hlocks
  · skip
    refine lv_iconst (v := (-1)) hx hb dX7_bound_20 (by decide) ?_
    exact c_iret (v := (-1)) hx hb hr hK hP hD hS hC hh hpp ⟨AW.rf, hI⟩ dX7_bound_21 hlocks
