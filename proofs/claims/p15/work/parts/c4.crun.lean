theorem dX6_runName_0 : decode cX6_runName 0 = .ok (.aload_n 0, 1) := by decide +kernel
theorem dX6_runName_1 : decode cX6_runName 1 = .ok (.aload_n 0, 1) := by decide +kernel
theorem dX6_runName_2 : decode cX6_runName 2 = .ok (.getfield 55, 3) := by decide +kernel
theorem dX6_runName_5 : decode cX6_runName 5 = .ok (.iload_n 1, 1) := by decide +kernel
theorem dX6_runName_6 : decode cX6_runName 6 = .ok (.invokevirtual 94, 3) := by decide +kernel
theorem dX6_runName_9 : decode cX6_runName 9 = .ok (.iload_n 2, 1) := by decide +kernel
theorem dX6_runName_10 : decode cX6_runName 10 = .ok (.invokevirtual 124, 3) := by decide +kernel
theorem dX6_runName_13 : decode cX6_runName 13 = .ok (.istore 4, 2) := by decide +kernel
theorem dX6_runName_15 : decode cX6_runName 15 = .ok (.iload 4, 2) := by decide +kernel
theorem dX6_runName_17 : decode cX6_runName 17 = .ok (.bipush (-9), 2) := by decide +kernel
theorem dX6_runName_19 : decode cX6_runName 19 = .ok (.if_icmp .ne 9, 3) := by decide +kernel
theorem dX6_runName_28 : decode cX6_runName 28 = .ok (.aload_n 0, 1) := by decide +kernel
theorem dX6_runName_29 : decode cX6_runName 29 = .ok (.getfield 42, 3) := by decide +kernel
theorem dX6_runName_32 : decode cX6_runName 32 = .ok (.iload 4, 2) := by decide +kernel
theorem dX6_runName_34 : decode cX6_runName 34 = .ok (.invokevirtual 131, 3) := by decide +kernel
theorem dX6_runName_37 : decode cX6_runName 37 = .ok (.istore 5, 2) := by decide +kernel
theorem dX6_runName_39 : decode cX6_runName 39 = .ok (.iload 5, 2) := by decide +kernel
theorem dX6_runName_41 : decode cX6_runName 41 = .ok (.bipush (-9), 2) := by decide +kernel
theorem dX6_runName_43 : decode cX6_runName 43 = .ok (.if_icmp .ne 13, 3) := by decide +kernel
theorem dX6_runName_56 : decode cX6_runName 56 = .ok (.aload_n 0, 1) := by decide +kernel
theorem dX6_runName_57 : decode cX6_runName 57 = .ok (.aload_n 0, 1) := by decide +kernel
theorem dX6_runName_58 : decode cX6_runName 58 = .ok (.getfield 55, 3) := by decide +kernel
theorem dX6_runName_61 : decode cX6_runName 61 = .ok (.iload 5, 2) := by decide +kernel
theorem dX6_runName_63 : decode cX6_runName 63 = .ok (.iconst 0, 1) := by decide +kernel
theorem dX6_runName_64 : decode cX6_runName 64 = .ok (.invokevirtual 134, 3) := by decide +kernel
theorem dX6_runName_67 : decode cX6_runName 67 = .ok (.iload 4, 2) := by decide +kernel
theorem dX6_runName_69 : decode cX6_runName 69 = .ok (.iload_n 3, 1) := by decide +kernel
theorem dX6_runName_70 : decode cX6_runName 70 = .ok (.iconst 1, 1) := by decide +kernel
theorem dX6_runName_71 : decode cX6_runName 71 = .ok (.iadd, 1) := by decide +kernel
theorem dX6_runName_72 : decode cX6_runName 72 = .ok (.invokevirtual 62, 3) := by decide +kernel
theorem dX6_runName_75 : decode cX6_runName 75 = .ok (.ireturn, 1) := by decide +kernel
theorem dX6_runName_46 : decode cX6_runName 46 = .ok (.aload_n 0, 1) := by decide +kernel
theorem dX6_runName_47 : decode cX6_runName 47 = .ok (.getfield 39, 3) := by decide +kernel
theorem dX6_runName_50 : decode cX6_runName 50 = .ok (.iload 4, 2) := by decide +kernel
theorem dX6_runName_52 : decode cX6_runName 52 = .ok (.invokevirtual 131, 3) := by decide +kernel
theorem dX6_runName_55 : decode cX6_runName 55 = .ok (.ireturn, 1) := by decide +kernel
theorem dX6_runName_22 : decode cX6_runName 22 = .ok (.aload_n 0, 1) := by decide +kernel
theorem dX6_runName_23 : decode cX6_runName 23 = .ok (.iload_n 1, 1) := by decide +kernel
theorem dX6_runName_24 : decode cX6_runName 24 = .ok (.invokevirtual 128, 3) := by decide +kernel
theorem dX6_runName_27 : decode cX6_runName 27 = .ok (.ireturn, 1) := by decide +kernel
theorem dX6_runApply_0 : decode cX6_runApply 0 = .ok (.aload_n 0, 1) := by decide +kernel
theorem dX6_runApply_1 : decode cX6_runApply 1 = .ok (.aload_n 0, 1) := by decide +kernel
theorem dX6_runApply_2 : decode cX6_runApply 2 = .ok (.getfield 55, 3) := by decide +kernel
theorem dX6_runApply_5 : decode cX6_runApply 5 = .ok (.iload_n 1, 1) := by decide +kernel
theorem dX6_runApply_6 : decode cX6_runApply 6 = .ok (.iconst 0, 1) := by decide +kernel
theorem dX6_runApply_7 : decode cX6_runApply 7 = .ok (.invokevirtual 134, 3) := by decide +kernel
theorem dX6_runApply_10 : decode cX6_runApply 10 = .ok (.iload_n 2, 1) := by decide +kernel
theorem dX6_runApply_11 : decode cX6_runApply 11 = .ok (.iload_n 3, 1) := by decide +kernel
theorem dX6_runApply_12 : decode cX6_runApply 12 = .ok (.iconst 1, 1) := by decide +kernel
theorem dX6_runApply_13 : decode cX6_runApply 13 = .ok (.iadd, 1) := by decide +kernel
theorem dX6_runApply_14 : decode cX6_runApply 14 = .ok (.invokevirtual 62, 3) := by decide +kernel
theorem dX6_runApply_17 : decode cX6_runApply 17 = .ok (.istore 4, 2) := by decide +kernel
theorem dX6_runApply_19 : decode cX6_runApply 19 = .ok (.iload 4, 2) := by decide +kernel
theorem dX6_runApply_21 : decode cX6_runApply 21 = .ok (.ifCond .ge 6, 3) := by decide +kernel
theorem dX6_runApply_27 : decode cX6_runApply 27 = .ok (.aload_n 0, 1) := by decide +kernel
theorem dX6_runApply_28 : decode cX6_runApply 28 = .ok (.aload_n 0, 1) := by decide +kernel
theorem dX6_runApply_29 : decode cX6_runApply 29 = .ok (.getfield 55, 3) := by decide +kernel
theorem dX6_runApply_32 : decode cX6_runApply 32 = .ok (.iload_n 1, 1) := by decide +kernel
theorem dX6_runApply_33 : decode cX6_runApply 33 = .ok (.iconst 1, 1) := by decide +kernel
theorem dX6_runApply_34 : decode cX6_runApply 34 = .ok (.invokevirtual 134, 3) := by decide +kernel
theorem dX6_runApply_37 : decode cX6_runApply 37 = .ok (.iload_n 2, 1) := by decide +kernel
theorem dX6_runApply_38 : decode cX6_runApply 38 = .ok (.iload_n 3, 1) := by decide +kernel
theorem dX6_runApply_39 : decode cX6_runApply 39 = .ok (.iconst 1, 1) := by decide +kernel
theorem dX6_runApply_40 : decode cX6_runApply 40 = .ok (.iadd, 1) := by decide +kernel
theorem dX6_runApply_41 : decode cX6_runApply 41 = .ok (.invokevirtual 62, 3) := by decide +kernel
theorem dX6_runApply_44 : decode cX6_runApply 44 = .ok (.istore 5, 2) := by decide +kernel
theorem dX6_runApply_46 : decode cX6_runApply 46 = .ok (.iload 5, 2) := by decide +kernel
theorem dX6_runApply_48 : decode cX6_runApply 48 = .ok (.ifCond .ge 6, 3) := by decide +kernel
theorem dX6_runApply_54 : decode cX6_runApply 54 = .ok (.aload_n 0, 1) := by decide +kernel
theorem dX6_runApply_55 : decode cX6_runApply 55 = .ok (.getfield 23, 3) := by decide +kernel
theorem dX6_runApply_58 : decode cX6_runApply 58 = .ok (.iload 4, 2) := by decide +kernel
theorem dX6_runApply_60 : decode cX6_runApply 60 = .ok (.invokevirtual 131, 3) := by decide +kernel
theorem dX6_runApply_63 : decode cX6_runApply 63 = .ok (.iconst 2, 1) := by decide +kernel
theorem dX6_runApply_64 : decode cX6_runApply 64 = .ok (.if_icmp .eq 9, 3) := by decide +kernel
theorem dX6_runApply_73 : decode cX6_runApply 73 = .ok (.aload_n 0, 1) := by decide +kernel
theorem dX6_runApply_74 : decode cX6_runApply 74 = .ok (.getfield 27, 3) := by decide +kernel
theorem dX6_runApply_77 : decode cX6_runApply 77 = .ok (.iload 4, 2) := by decide +kernel
theorem dX6_runApply_79 : decode cX6_runApply 79 = .ok (.invokevirtual 131, 3) := by decide +kernel
theorem dX6_runApply_82 : decode cX6_runApply 82 = .ok (.istore 6, 2) := by decide +kernel
theorem dX6_runApply_84 : decode cX6_runApply 84 = .ok (.aload_n 0, 1) := by decide +kernel
theorem dX6_runApply_85 : decode cX6_runApply 85 = .ok (.aload_n 0, 1) := by decide +kernel
theorem dX6_runApply_86 : decode cX6_runApply 86 = .ok (.getfield 55, 3) := by decide +kernel
theorem dX6_runApply_89 : decode cX6_runApply 89 = .ok (.iload 6, 2) := by decide +kernel
theorem dX6_runApply_91 : decode cX6_runApply 91 = .ok (.invokevirtual 94, 3) := by decide +kernel
theorem dX6_runApply_94 : decode cX6_runApply 94 = .ok (.iload 5, 2) := by decide +kernel
theorem dX6_runApply_96 : decode cX6_runApply 96 = .ok (.bipush (-9), 2) := by decide +kernel
theorem dX6_runApply_98 : decode cX6_runApply 98 = .ok (.aload_n 0, 1) := by decide +kernel
theorem dX6_runApply_99 : decode cX6_runApply 99 = .ok (.getfield 30, 3) := by decide +kernel
theorem dX6_runApply_102 : decode cX6_runApply 102 = .ok (.iload 4, 2) := by decide +kernel
theorem dX6_runApply_104 : decode cX6_runApply 104 = .ok (.invokevirtual 131, 3) := by decide +kernel
theorem dX6_runApply_107 : decode cX6_runApply 107 = .ok (.invokevirtual 137, 3) := by decide +kernel
theorem dX6_runApply_110 : decode cX6_runApply 110 = .ok (.istore 7, 2) := by decide +kernel
theorem dX6_runApply_112 : decode cX6_runApply 112 = .ok (.aload_n 0, 1) := by decide +kernel
theorem dX6_runApply_113 : decode cX6_runApply 113 = .ok (.aload_n 0, 1) := by decide +kernel
theorem dX6_runApply_114 : decode cX6_runApply 114 = .ok (.getfield 55, 3) := by decide +kernel
theorem dX6_runApply_117 : decode cX6_runApply 117 = .ok (.iload 6, 2) := by decide +kernel
theorem dX6_runApply_119 : decode cX6_runApply 119 = .ok (.iconst 0, 1) := by decide +kernel
theorem dX6_runApply_120 : decode cX6_runApply 120 = .ok (.invokevirtual 134, 3) := by decide +kernel
theorem dX6_runApply_123 : decode cX6_runApply 123 = .ok (.iload 7, 2) := by decide +kernel
theorem dX6_runApply_125 : decode cX6_runApply 125 = .ok (.iload_n 3, 1) := by decide +kernel
theorem dX6_runApply_126 : decode cX6_runApply 126 = .ok (.iconst 1, 1) := by decide +kernel
theorem dX6_runApply_127 : decode cX6_runApply 127 = .ok (.iadd, 1) := by decide +kernel
theorem dX6_runApply_128 : decode cX6_runApply 128 = .ok (.invokevirtual 62, 3) := by decide +kernel
theorem dX6_runApply_131 : decode cX6_runApply 131 = .ok (.ireturn, 1) := by decide +kernel
theorem dX6_runApply_67 : decode cX6_runApply 67 = .ok (.aload_n 0, 1) := by decide +kernel
theorem dX6_runApply_68 : decode cX6_runApply 68 = .ok (.iload_n 1, 1) := by decide +kernel
theorem dX6_runApply_69 : decode cX6_runApply 69 = .ok (.invokevirtual 128, 3) := by decide +kernel
theorem dX6_runApply_72 : decode cX6_runApply 72 = .ok (.ireturn, 1) := by decide +kernel
theorem dX6_runApply_51 : decode cX6_runApply 51 = .ok (.iload 5, 2) := by decide +kernel
theorem dX6_runApply_53 : decode cX6_runApply 53 = .ok (.ireturn, 1) := by decide +kernel
theorem dX6_runApply_24 : decode cX6_runApply 24 = .ok (.iload 4, 2) := by decide +kernel
theorem dX6_runApply_26 : decode cX6_runApply 26 = .ok (.ireturn, 1) := by decide +kernel
theorem dX6_runRecord_0 : decode cX6_runRecord 0 = .ok (.aload_n 0, 1) := by decide +kernel
theorem dX6_runRecord_1 : decode cX6_runRecord 1 = .ok (.getfield 33, 3) := by decide +kernel
theorem dX6_runRecord_4 : decode cX6_runRecord 4 = .ok (.getfield 85, 3) := by decide +kernel
theorem dX6_runRecord_7 : decode cX6_runRecord 7 = .ok (.istore 4, 2) := by decide +kernel
theorem dX6_runRecord_9 : decode cX6_runRecord 9 = .ok (.aload_n 0, 1) := by decide +kernel
theorem dX6_runRecord_10 : decode cX6_runRecord 10 = .ok (.getfield 55, 3) := by decide +kernel
theorem dX6_runRecord_13 : decode cX6_runRecord 13 = .ok (.iload_n 1, 1) := by decide +kernel
theorem dX6_runRecord_14 : decode cX6_runRecord 14 = .ok (.invokevirtual 141, 3) := by decide +kernel
theorem dX6_runRecord_17 : decode cX6_runRecord 17 = .ok (.istore 5, 2) := by decide +kernel
theorem dX6_runRecord_19 : decode cX6_runRecord 19 = .ok (.iconst 0, 1) := by decide +kernel
theorem dX6_runRecord_20 : decode cX6_runRecord 20 = .ok (.istore 6, 2) := by decide +kernel
theorem dX6_runRecord_22 : decode cX6_runRecord 22 = .ok (.iload 6, 2) := by decide +kernel
theorem dX6_runRecord_24 : decode cX6_runRecord 24 = .ok (.iload 5, 2) := by decide +kernel
theorem dX6_runRecord_26 : decode cX6_runRecord 26 = .ok (.if_icmp .ge 18, 3) := by decide +kernel
theorem dX6_runRecord_44 : decode cX6_runRecord 44 = .ok (.iconst 0, 1) := by decide +kernel
theorem dX6_runRecord_45 : decode cX6_runRecord 45 = .ok (.istore 6, 2) := by decide +kernel
theorem dX6_runRecord_47 : decode cX6_runRecord 47 = .ok (.iload 6, 2) := by decide +kernel
theorem dX6_runRecord_49 : decode cX6_runRecord 49 = .ok (.iload 5, 2) := by decide +kernel
theorem dX6_runRecord_51 : decode cX6_runRecord 51 = .ok (.if_icmp .ge 51, 3) := by decide +kernel
theorem dX6_runRecord_102 : decode cX6_runRecord 102 = .ok (.aload_n 0, 1) := by decide +kernel
theorem dX6_runRecord_103 : decode cX6_runRecord 103 = .ok (.iconst 3, 1) := by decide +kernel
theorem dX6_runRecord_104 : decode cX6_runRecord 104 = .ok (.iload_n 1, 1) := by decide +kernel
theorem dX6_runRecord_105 : decode cX6_runRecord 105 = .ok (.iload 4, 2) := by decide +kernel
theorem dX6_runRecord_107 : decode cX6_runRecord 107 = .ok (.invokevirtual 97, 3) := by decide +kernel
theorem dX6_runRecord_110 : decode cX6_runRecord 110 = .ok (.ireturn, 1) := by decide +kernel
theorem dX6_runRecord_54 : decode cX6_runRecord 54 = .ok (.aload_n 0, 1) := by decide +kernel
theorem dX6_runRecord_55 : decode cX6_runRecord 55 = .ok (.aload_n 0, 1) := by decide +kernel
theorem dX6_runRecord_56 : decode cX6_runRecord 56 = .ok (.getfield 55, 3) := by decide +kernel
theorem dX6_runRecord_59 : decode cX6_runRecord 59 = .ok (.iload_n 1, 1) := by decide +kernel
theorem dX6_runRecord_60 : decode cX6_runRecord 60 = .ok (.iload 6, 2) := by decide +kernel
theorem dX6_runRecord_62 : decode cX6_runRecord 62 = .ok (.invokevirtual 134, 3) := by decide +kernel
theorem dX6_runRecord_65 : decode cX6_runRecord 65 = .ok (.iload_n 2, 1) := by decide +kernel
theorem dX6_runRecord_66 : decode cX6_runRecord 66 = .ok (.iload_n 3, 1) := by decide +kernel
theorem dX6_runRecord_67 : decode cX6_runRecord 67 = .ok (.iconst 1, 1) := by decide +kernel
theorem dX6_runRecord_68 : decode cX6_runRecord 68 = .ok (.iadd, 1) := by decide +kernel
theorem dX6_runRecord_69 : decode cX6_runRecord 69 = .ok (.invokevirtual 62, 3) := by decide +kernel
theorem dX6_runRecord_72 : decode cX6_runRecord 72 = .ok (.istore 7, 2) := by decide +kernel
theorem dX6_runRecord_74 : decode cX6_runRecord 74 = .ok (.iload 7, 2) := by decide +kernel
theorem dX6_runRecord_76 : decode cX6_runRecord 76 = .ok (.ifCond .ge 6, 3) := by decide +kernel
theorem dX6_runRecord_82 : decode cX6_runRecord 82 = .ok (.aload_n 0, 1) := by decide +kernel
theorem dX6_runRecord_83 : decode cX6_runRecord 83 = .ok (.getfield 33, 3) := by decide +kernel
theorem dX6_runRecord_86 : decode cX6_runRecord 86 = .ok (.iload 4, 2) := by decide +kernel
theorem dX6_runRecord_88 : decode cX6_runRecord 88 = .ok (.iload 6, 2) := by decide +kernel
theorem dX6_runRecord_90 : decode cX6_runRecord 90 = .ok (.iadd, 1) := by decide +kernel
theorem dX6_runRecord_91 : decode cX6_runRecord 91 = .ok (.iload 7, 2) := by decide +kernel
theorem dX6_runRecord_93 : decode cX6_runRecord 93 = .ok (.invokevirtual 144, 3) := by decide +kernel
theorem dX6_runRecord_96 : decode cX6_runRecord 96 = .ok (.iinc 6 1, 3) := by decide +kernel
theorem dX6_runRecord_99 : decode cX6_runRecord 99 = .ok (.goto (-52), 3) := by decide +kernel
theorem dX6_runRecord_79 : decode cX6_runRecord 79 = .ok (.iload 7, 2) := by decide +kernel
theorem dX6_runRecord_81 : decode cX6_runRecord 81 = .ok (.ireturn, 1) := by decide +kernel
theorem dX6_runRecord_29 : decode cX6_runRecord 29 = .ok (.aload_n 0, 1) := by decide +kernel
theorem dX6_runRecord_30 : decode cX6_runRecord 30 = .ok (.getfield 33, 3) := by decide +kernel
theorem dX6_runRecord_33 : decode cX6_runRecord 33 = .ok (.bipush (-9), 2) := by decide +kernel
theorem dX6_runRecord_35 : decode cX6_runRecord 35 = .ok (.invokevirtual 82, 3) := by decide +kernel
theorem dX6_runRecord_38 : decode cX6_runRecord 38 = .ok (.iinc 6 1, 3) := by decide +kernel
theorem dX6_runRecord_41 : decode cX6_runRecord 41 = .ok (.goto (-19), 3) := by decide +kernel
theorem dX6_runField_0 : decode cX6_runField 0 = .ok (.aload_n 0, 1) := by decide +kernel
theorem dX6_runField_1 : decode cX6_runField 1 = .ok (.aload_n 0, 1) := by decide +kernel
theorem dX6_runField_2 : decode cX6_runField 2 = .ok (.getfield 55, 3) := by decide +kernel
theorem dX6_runField_5 : decode cX6_runField 5 = .ok (.iload_n 1, 1) := by decide +kernel
theorem dX6_runField_6 : decode cX6_runField 6 = .ok (.iconst 0, 1) := by decide +kernel
theorem dX6_runField_7 : decode cX6_runField 7 = .ok (.invokevirtual 134, 3) := by decide +kernel
theorem dX6_runField_10 : decode cX6_runField 10 = .ok (.iload_n 2, 1) := by decide +kernel
theorem dX6_runField_11 : decode cX6_runField 11 = .ok (.iload_n 3, 1) := by decide +kernel
theorem dX6_runField_12 : decode cX6_runField 12 = .ok (.iconst 1, 1) := by decide +kernel
theorem dX6_runField_13 : decode cX6_runField 13 = .ok (.iadd, 1) := by decide +kernel
theorem dX6_runField_14 : decode cX6_runField 14 = .ok (.invokevirtual 62, 3) := by decide +kernel
theorem dX6_runField_17 : decode cX6_runField 17 = .ok (.istore 4, 2) := by decide +kernel
theorem dX6_runField_19 : decode cX6_runField 19 = .ok (.iload 4, 2) := by decide +kernel
theorem dX6_runField_21 : decode cX6_runField 21 = .ok (.ifCond .ge 6, 3) := by decide +kernel
theorem dX6_runField_27 : decode cX6_runField 27 = .ok (.aload_n 0, 1) := by decide +kernel
theorem dX6_runField_28 : decode cX6_runField 28 = .ok (.getfield 23, 3) := by decide +kernel
theorem dX6_runField_31 : decode cX6_runField 31 = .ok (.iload 4, 2) := by decide +kernel
theorem dX6_runField_33 : decode cX6_runField 33 = .ok (.invokevirtual 131, 3) := by decide +kernel
theorem dX6_runField_36 : decode cX6_runField 36 = .ok (.iconst 3, 1) := by decide +kernel
theorem dX6_runField_37 : decode cX6_runField 37 = .ok (.if_icmp .eq 9, 3) := by decide +kernel
theorem dX6_runField_46 : decode cX6_runField 46 = .ok (.aload_n 0, 1) := by decide +kernel
theorem dX6_runField_47 : decode cX6_runField 47 = .ok (.getfield 55, 3) := by decide +kernel
theorem dX6_runField_50 : decode cX6_runField 50 = .ok (.aload_n 0, 1) := by decide +kernel
theorem dX6_runField_51 : decode cX6_runField 51 = .ok (.getfield 27, 3) := by decide +kernel
theorem dX6_runField_54 : decode cX6_runField 54 = .ok (.iload 4, 2) := by decide +kernel
theorem dX6_runField_56 : decode cX6_runField 56 = .ok (.invokevirtual 131, 3) := by decide +kernel
theorem dX6_runField_59 : decode cX6_runField 59 = .ok (.aload_n 0, 1) := by decide +kernel
theorem dX6_runField_60 : decode cX6_runField 60 = .ok (.getfield 55, 3) := by decide +kernel
theorem dX6_runField_63 : decode cX6_runField 63 = .ok (.iload_n 1, 1) := by decide +kernel
theorem dX6_runField_64 : decode cX6_runField 64 = .ok (.invokevirtual 94, 3) := by decide +kernel
theorem dX6_runField_67 : decode cX6_runField 67 = .ok (.invokevirtual 147, 3) := by decide +kernel
theorem dX6_runField_70 : decode cX6_runField 70 = .ok (.istore 5, 2) := by decide +kernel
theorem dX6_runField_72 : decode cX6_runField 72 = .ok (.iload 5, 2) := by decide +kernel
theorem dX6_runField_74 : decode cX6_runField 74 = .ok (.bipush (-9), 2) := by decide +kernel
theorem dX6_runField_76 : decode cX6_runField 76 = .ok (.if_icmp .ne 11, 3) := by decide +kernel
theorem dX6_runField_87 : decode cX6_runField 87 = .ok (.aload_n 0, 1) := by decide +kernel
theorem dX6_runField_88 : decode cX6_runField 88 = .ok (.getfield 33, 3) := by decide +kernel
theorem dX6_runField_91 : decode cX6_runField 91 = .ok (.aload_n 0, 1) := by decide +kernel
theorem dX6_runField_92 : decode cX6_runField 92 = .ok (.getfield 30, 3) := by decide +kernel
theorem dX6_runField_95 : decode cX6_runField 95 = .ok (.iload 4, 2) := by decide +kernel
theorem dX6_runField_97 : decode cX6_runField 97 = .ok (.invokevirtual 131, 3) := by decide +kernel
theorem dX6_runField_100 : decode cX6_runField 100 = .ok (.iload 5, 2) := by decide +kernel
theorem dX6_runField_102 : decode cX6_runField 102 = .ok (.iadd, 1) := by decide +kernel
theorem dX6_runField_103 : decode cX6_runField 103 = .ok (.invokevirtual 131, 3) := by decide +kernel
theorem dX6_runField_106 : decode cX6_runField 106 = .ok (.ireturn, 1) := by decide +kernel
theorem dX6_runField_79 : decode cX6_runField 79 = .ok (.aload_n 0, 1) := by decide +kernel
theorem dX6_runField_80 : decode cX6_runField 80 = .ok (.iload_n 1, 1) := by decide +kernel
theorem dX6_runField_81 : decode cX6_runField 81 = .ok (.invokevirtual 128, 3) := by decide +kernel
theorem dX6_runField_84 : decode cX6_runField 84 = .ok (.goto 22, 3) := by decide +kernel
theorem dX6_runField_40 : decode cX6_runField 40 = .ok (.aload_n 0, 1) := by decide +kernel
theorem dX6_runField_41 : decode cX6_runField 41 = .ok (.iload_n 1, 1) := by decide +kernel
theorem dX6_runField_42 : decode cX6_runField 42 = .ok (.invokevirtual 128, 3) := by decide +kernel
theorem dX6_runField_45 : decode cX6_runField 45 = .ok (.ireturn, 1) := by decide +kernel
theorem dX6_runField_24 : decode cX6_runField 24 = .ok (.iload 4, 2) := by decide +kernel
theorem dX6_runField_26 : decode cX6_runField 26 = .ok (.ireturn, 1) := by decide +kernel
theorem dX6_runLet_0 : decode cX6_runLet 0 = .ok (.aload_n 0, 1) := by decide +kernel
theorem dX6_runLet_1 : decode cX6_runLet 1 = .ok (.aload_n 0, 1) := by decide +kernel
theorem dX6_runLet_2 : decode cX6_runLet 2 = .ok (.getfield 55, 3) := by decide +kernel
theorem dX6_runLet_5 : decode cX6_runLet 5 = .ok (.iload_n 1, 1) := by decide +kernel
theorem dX6_runLet_6 : decode cX6_runLet 6 = .ok (.iconst 0, 1) := by decide +kernel
theorem dX6_runLet_7 : decode cX6_runLet 7 = .ok (.invokevirtual 134, 3) := by decide +kernel
theorem dX6_runLet_10 : decode cX6_runLet 10 = .ok (.iload_n 2, 1) := by decide +kernel
theorem dX6_runLet_11 : decode cX6_runLet 11 = .ok (.iload_n 3, 1) := by decide +kernel
theorem dX6_runLet_12 : decode cX6_runLet 12 = .ok (.iconst 1, 1) := by decide +kernel
theorem dX6_runLet_13 : decode cX6_runLet 13 = .ok (.iadd, 1) := by decide +kernel
theorem dX6_runLet_14 : decode cX6_runLet 14 = .ok (.invokevirtual 62, 3) := by decide +kernel
theorem dX6_runLet_17 : decode cX6_runLet 17 = .ok (.istore 4, 2) := by decide +kernel
theorem dX6_runLet_19 : decode cX6_runLet 19 = .ok (.iload 4, 2) := by decide +kernel
theorem dX6_runLet_21 : decode cX6_runLet 21 = .ok (.ifCond .ge 6, 3) := by decide +kernel
theorem dX6_runLet_27 : decode cX6_runLet 27 = .ok (.aload_n 0, 1) := by decide +kernel
theorem dX6_runLet_28 : decode cX6_runLet 28 = .ok (.aload_n 0, 1) := by decide +kernel
theorem dX6_runLet_29 : decode cX6_runLet 29 = .ok (.getfield 55, 3) := by decide +kernel
theorem dX6_runLet_32 : decode cX6_runLet 32 = .ok (.iload_n 1, 1) := by decide +kernel
theorem dX6_runLet_33 : decode cX6_runLet 33 = .ok (.iconst 1, 1) := by decide +kernel
theorem dX6_runLet_34 : decode cX6_runLet 34 = .ok (.invokevirtual 134, 3) := by decide +kernel
theorem dX6_runLet_37 : decode cX6_runLet 37 = .ok (.aload_n 0, 1) := by decide +kernel
theorem dX6_runLet_38 : decode cX6_runLet 38 = .ok (.aload_n 0, 1) := by decide +kernel
theorem dX6_runLet_39 : decode cX6_runLet 39 = .ok (.getfield 55, 3) := by decide +kernel
theorem dX6_runLet_42 : decode cX6_runLet 42 = .ok (.iload_n 1, 1) := by decide +kernel
theorem dX6_runLet_43 : decode cX6_runLet 43 = .ok (.invokevirtual 94, 3) := by decide +kernel
theorem dX6_runLet_46 : decode cX6_runLet 46 = .ok (.iload 4, 2) := by decide +kernel
theorem dX6_runLet_48 : decode cX6_runLet 48 = .ok (.bipush (-9), 2) := by decide +kernel
theorem dX6_runLet_50 : decode cX6_runLet 50 = .ok (.iload_n 2, 1) := by decide +kernel
theorem dX6_runLet_51 : decode cX6_runLet 51 = .ok (.invokevirtual 137, 3) := by decide +kernel
theorem dX6_runLet_54 : decode cX6_runLet 54 = .ok (.iload_n 3, 1) := by decide +kernel
theorem dX6_runLet_55 : decode cX6_runLet 55 = .ok (.iconst 1, 1) := by decide +kernel
theorem dX6_runLet_56 : decode cX6_runLet 56 = .ok (.iadd, 1) := by decide +kernel
theorem dX6_runLet_57 : decode cX6_runLet 57 = .ok (.invokevirtual 62, 3) := by decide +kernel
theorem dX6_runLet_60 : decode cX6_runLet 60 = .ok (.ireturn, 1) := by decide +kernel
theorem dX6_runLet_24 : decode cX6_runLet 24 = .ok (.iload 4, 2) := by decide +kernel
theorem dX6_runLet_26 : decode cX6_runLet 26 = .ok (.ireturn, 1) := by decide +kernel
theorem dX6_runRec_0 : decode cX6_runRec 0 = .ok (.aload_n 0, 1) := by decide +kernel
theorem dX6_runRec_1 : decode cX6_runRec 1 = .ok (.aload_n 0, 1) := by decide +kernel
theorem dX6_runRec_2 : decode cX6_runRec 2 = .ok (.getfield 55, 3) := by decide +kernel
theorem dX6_runRec_5 : decode cX6_runRec 5 = .ok (.iload_n 1, 1) := by decide +kernel
theorem dX6_runRec_6 : decode cX6_runRec 6 = .ok (.iconst 1, 1) := by decide +kernel
theorem dX6_runRec_7 : decode cX6_runRec 7 = .ok (.invokevirtual 134, 3) := by decide +kernel
theorem dX6_runRec_10 : decode cX6_runRec 10 = .ok (.aload_n 0, 1) := by decide +kernel
theorem dX6_runRec_11 : decode cX6_runRec 11 = .ok (.aload_n 0, 1) := by decide +kernel
theorem dX6_runRec_12 : decode cX6_runRec 12 = .ok (.getfield 55, 3) := by decide +kernel
theorem dX6_runRec_15 : decode cX6_runRec 15 = .ok (.iload_n 1, 1) := by decide +kernel
theorem dX6_runRec_16 : decode cX6_runRec 16 = .ok (.invokevirtual 94, 3) := by decide +kernel
theorem dX6_runRec_19 : decode cX6_runRec 19 = .ok (.bipush (-9), 2) := by decide +kernel
theorem dX6_runRec_21 : decode cX6_runRec 21 = .ok (.iload_n 1, 1) := by decide +kernel
theorem dX6_runRec_22 : decode cX6_runRec 22 = .ok (.iload_n 2, 1) := by decide +kernel
theorem dX6_runRec_23 : decode cX6_runRec 23 = .ok (.invokevirtual 137, 3) := by decide +kernel
theorem dX6_runRec_26 : decode cX6_runRec 26 = .ok (.iload_n 3, 1) := by decide +kernel
theorem dX6_runRec_27 : decode cX6_runRec 27 = .ok (.iconst 1, 1) := by decide +kernel
theorem dX6_runRec_28 : decode cX6_runRec 28 = .ok (.iadd, 1) := by decide +kernel
theorem dX6_runRec_29 : decode cX6_runRec 29 = .ok (.invokevirtual 62, 3) := by decide +kernel
theorem dX6_runRec_32 : decode cX6_runRec 32 = .ok (.ireturn, 1) := by decide +kernel
theorem dX6_runPick_0 : decode cX6_runPick 0 = .ok (.aload_n 0, 1) := by decide +kernel
theorem dX6_runPick_1 : decode cX6_runPick 1 = .ok (.aload_n 0, 1) := by decide +kernel
theorem dX6_runPick_2 : decode cX6_runPick 2 = .ok (.getfield 55, 3) := by decide +kernel
theorem dX6_runPick_5 : decode cX6_runPick 5 = .ok (.iload_n 1, 1) := by decide +kernel
theorem dX6_runPick_6 : decode cX6_runPick 6 = .ok (.iconst 0, 1) := by decide +kernel
theorem dX6_runPick_7 : decode cX6_runPick 7 = .ok (.invokevirtual 134, 3) := by decide +kernel
theorem dX6_runPick_10 : decode cX6_runPick 10 = .ok (.iload_n 2, 1) := by decide +kernel
theorem dX6_runPick_11 : decode cX6_runPick 11 = .ok (.iload_n 3, 1) := by decide +kernel
theorem dX6_runPick_12 : decode cX6_runPick 12 = .ok (.iconst 1, 1) := by decide +kernel
theorem dX6_runPick_13 : decode cX6_runPick 13 = .ok (.iadd, 1) := by decide +kernel
theorem dX6_runPick_14 : decode cX6_runPick 14 = .ok (.invokevirtual 62, 3) := by decide +kernel
theorem dX6_runPick_17 : decode cX6_runPick 17 = .ok (.istore 4, 2) := by decide +kernel
theorem dX6_runPick_19 : decode cX6_runPick 19 = .ok (.iload 4, 2) := by decide +kernel
theorem dX6_runPick_21 : decode cX6_runPick 21 = .ok (.ifCond .ge 6, 3) := by decide +kernel
theorem dX6_runPick_27 : decode cX6_runPick 27 = .ok (.aload_n 0, 1) := by decide +kernel
theorem dX6_runPick_28 : decode cX6_runPick 28 = .ok (.getfield 23, 3) := by decide +kernel
theorem dX6_runPick_31 : decode cX6_runPick 31 = .ok (.iload 4, 2) := by decide +kernel
theorem dX6_runPick_33 : decode cX6_runPick 33 = .ok (.invokevirtual 131, 3) := by decide +kernel
theorem dX6_runPick_36 : decode cX6_runPick 36 = .ok (.iconst 1, 1) := by decide +kernel
theorem dX6_runPick_37 : decode cX6_runPick 37 = .ok (.if_icmp .eq 9, 3) := by decide +kernel
theorem dX6_runPick_46 : decode cX6_runPick 46 = .ok (.aload_n 0, 1) := by decide +kernel
theorem dX6_runPick_47 : decode cX6_runPick 47 = .ok (.aload_n 0, 1) := by decide +kernel
theorem dX6_runPick_48 : decode cX6_runPick 48 = .ok (.getfield 55, 3) := by decide +kernel
theorem dX6_runPick_51 : decode cX6_runPick 51 = .ok (.iload_n 1, 1) := by decide +kernel
theorem dX6_runPick_52 : decode cX6_runPick 52 = .ok (.aload_n 0, 1) := by decide +kernel
theorem dX6_runPick_53 : decode cX6_runPick 53 = .ok (.getfield 27, 3) := by decide +kernel
theorem dX6_runPick_56 : decode cX6_runPick 56 = .ok (.iload 4, 2) := by decide +kernel
theorem dX6_runPick_58 : decode cX6_runPick 58 = .ok (.invokevirtual 131, 3) := by decide +kernel
theorem dX6_runPick_61 : decode cX6_runPick 61 = .ok (.iconst 1, 1) := by decide +kernel
theorem dX6_runPick_62 : decode cX6_runPick 62 = .ok (.if_icmp .ne 7, 3) := by decide +kernel
theorem dX6_runPick_69 : decode cX6_runPick 69 = .ok (.iconst 2, 1) := by decide +kernel
theorem dX6_runPick_70 : decode cX6_runPick 70 = .ok (.invokevirtual 134, 3) := by decide +kernel
theorem dX6_runPick_73 : decode cX6_runPick 73 = .ok (.iload_n 2, 1) := by decide +kernel
theorem dX6_runPick_74 : decode cX6_runPick 74 = .ok (.iload_n 3, 1) := by decide +kernel
theorem dX6_runPick_75 : decode cX6_runPick 75 = .ok (.iconst 1, 1) := by decide +kernel
theorem dX6_runPick_76 : decode cX6_runPick 76 = .ok (.iadd, 1) := by decide +kernel
theorem dX6_runPick_77 : decode cX6_runPick 77 = .ok (.invokevirtual 62, 3) := by decide +kernel
theorem dX6_runPick_80 : decode cX6_runPick 80 = .ok (.ireturn, 1) := by decide +kernel
theorem dX6_runPick_65 : decode cX6_runPick 65 = .ok (.iconst 1, 1) := by decide +kernel
theorem dX6_runPick_66 : decode cX6_runPick 66 = .ok (.goto 4, 3) := by decide +kernel
theorem dX6_runPick_40 : decode cX6_runPick 40 = .ok (.aload_n 0, 1) := by decide +kernel
theorem dX6_runPick_41 : decode cX6_runPick 41 = .ok (.iload_n 1, 1) := by decide +kernel
theorem dX6_runPick_42 : decode cX6_runPick 42 = .ok (.invokevirtual 128, 3) := by decide +kernel
theorem dX6_runPick_45 : decode cX6_runPick 45 = .ok (.ireturn, 1) := by decide +kernel
theorem dX6_runPick_24 : decode cX6_runPick 24 = .ok (.iload 4, 2) := by decide +kernel
theorem dX6_runPick_26 : decode cX6_runPick 26 = .ok (.ireturn, 1) := by decide +kernel
theorem dX6_runWholes_0 : decode cX6_runWholes 0 = .ok (.aload_n 0, 1) := by decide +kernel
theorem dX6_runWholes_1 : decode cX6_runWholes 1 = .ok (.aload_n 0, 1) := by decide +kernel
theorem dX6_runWholes_2 : decode cX6_runWholes 2 = .ok (.getfield 55, 3) := by decide +kernel
theorem dX6_runWholes_5 : decode cX6_runWholes 5 = .ok (.iload_n 1, 1) := by decide +kernel
theorem dX6_runWholes_6 : decode cX6_runWholes 6 = .ok (.iconst 0, 1) := by decide +kernel
theorem dX6_runWholes_7 : decode cX6_runWholes 7 = .ok (.invokevirtual 134, 3) := by decide +kernel
theorem dX6_runWholes_10 : decode cX6_runWholes 10 = .ok (.iload_n 2, 1) := by decide +kernel
theorem dX6_runWholes_11 : decode cX6_runWholes 11 = .ok (.iload_n 3, 1) := by decide +kernel
theorem dX6_runWholes_12 : decode cX6_runWholes 12 = .ok (.iconst 1, 1) := by decide +kernel
theorem dX6_runWholes_13 : decode cX6_runWholes 13 = .ok (.iadd, 1) := by decide +kernel
theorem dX6_runWholes_14 : decode cX6_runWholes 14 = .ok (.invokevirtual 62, 3) := by decide +kernel
theorem dX6_runWholes_17 : decode cX6_runWholes 17 = .ok (.istore 4, 2) := by decide +kernel
theorem dX6_runWholes_19 : decode cX6_runWholes 19 = .ok (.iload 4, 2) := by decide +kernel
theorem dX6_runWholes_21 : decode cX6_runWholes 21 = .ok (.ifCond .ge 6, 3) := by decide +kernel
theorem dX6_runWholes_27 : decode cX6_runWholes 27 = .ok (.aload_n 0, 1) := by decide +kernel
theorem dX6_runWholes_28 : decode cX6_runWholes 28 = .ok (.aload_n 0, 1) := by decide +kernel
theorem dX6_runWholes_29 : decode cX6_runWholes 29 = .ok (.getfield 55, 3) := by decide +kernel
theorem dX6_runWholes_32 : decode cX6_runWholes 32 = .ok (.iload_n 1, 1) := by decide +kernel
theorem dX6_runWholes_33 : decode cX6_runWholes 33 = .ok (.iconst 1, 1) := by decide +kernel
theorem dX6_runWholes_34 : decode cX6_runWholes 34 = .ok (.invokevirtual 134, 3) := by decide +kernel
theorem dX6_runWholes_37 : decode cX6_runWholes 37 = .ok (.iload_n 2, 1) := by decide +kernel
theorem dX6_runWholes_38 : decode cX6_runWholes 38 = .ok (.iload_n 3, 1) := by decide +kernel
theorem dX6_runWholes_39 : decode cX6_runWholes 39 = .ok (.iconst 1, 1) := by decide +kernel
theorem dX6_runWholes_40 : decode cX6_runWholes 40 = .ok (.iadd, 1) := by decide +kernel
theorem dX6_runWholes_41 : decode cX6_runWholes 41 = .ok (.invokevirtual 62, 3) := by decide +kernel
theorem dX6_runWholes_44 : decode cX6_runWholes 44 = .ok (.istore 5, 2) := by decide +kernel
theorem dX6_runWholes_46 : decode cX6_runWholes 46 = .ok (.iload 5, 2) := by decide +kernel
theorem dX6_runWholes_48 : decode cX6_runWholes 48 = .ok (.ifCond .ge 6, 3) := by decide +kernel
theorem dX6_runWholes_54 : decode cX6_runWholes 54 = .ok (.aload_n 0, 1) := by decide +kernel
theorem dX6_runWholes_55 : decode cX6_runWholes 55 = .ok (.getfield 23, 3) := by decide +kernel
theorem dX6_runWholes_58 : decode cX6_runWholes 58 = .ok (.iload 4, 2) := by decide +kernel
theorem dX6_runWholes_60 : decode cX6_runWholes 60 = .ok (.invokevirtual 131, 3) := by decide +kernel
theorem dX6_runWholes_63 : decode cX6_runWholes 63 = .ok (.ifCond .ne 15, 3) := by decide +kernel
theorem dX6_runWholes_78 : decode cX6_runWholes 78 = .ok (.aload_n 0, 1) := by decide +kernel
theorem dX6_runWholes_79 : decode cX6_runWholes 79 = .ok (.iload_n 1, 1) := by decide +kernel
theorem dX6_runWholes_80 : decode cX6_runWholes 80 = .ok (.invokevirtual 128, 3) := by decide +kernel
theorem dX6_runWholes_83 : decode cX6_runWholes 83 = .ok (.ireturn, 1) := by decide +kernel
theorem dX6_runWholes_66 : decode cX6_runWholes 66 = .ok (.aload_n 0, 1) := by decide +kernel
theorem dX6_runWholes_67 : decode cX6_runWholes 67 = .ok (.getfield 23, 3) := by decide +kernel
theorem dX6_runWholes_70 : decode cX6_runWholes 70 = .ok (.iload 5, 2) := by decide +kernel
theorem dX6_runWholes_72 : decode cX6_runWholes 72 = .ok (.invokevirtual 131, 3) := by decide +kernel
theorem dX6_runWholes_75 : decode cX6_runWholes 75 = .ok (.ifCond .eq 9, 3) := by decide +kernel
theorem dX6_runWholes_84 : decode cX6_runWholes 84 = .ok (.aload_n 0, 1) := by decide +kernel
theorem dX6_runWholes_85 : decode cX6_runWholes 85 = .ok (.getfield 27, 3) := by decide +kernel
theorem dX6_runWholes_88 : decode cX6_runWholes 88 = .ok (.iload 4, 2) := by decide +kernel
theorem dX6_runWholes_90 : decode cX6_runWholes 90 = .ok (.invokevirtual 131, 3) := by decide +kernel
theorem dX6_runWholes_93 : decode cX6_runWholes 93 = .ok (.istore 6, 2) := by decide +kernel
theorem dX6_runWholes_95 : decode cX6_runWholes 95 = .ok (.aload_n 0, 1) := by decide +kernel
theorem dX6_runWholes_96 : decode cX6_runWholes 96 = .ok (.getfield 27, 3) := by decide +kernel
theorem dX6_runWholes_99 : decode cX6_runWholes 99 = .ok (.iload 5, 2) := by decide +kernel
theorem dX6_runWholes_101 : decode cX6_runWholes 101 = .ok (.invokevirtual 131, 3) := by decide +kernel
theorem dX6_runWholes_104 : decode cX6_runWholes 104 = .ok (.istore 7, 2) := by decide +kernel
theorem dX6_runWholes_106 : decode cX6_runWholes 106 = .ok (.aload_n 0, 1) := by decide +kernel
theorem dX6_runWholes_107 : decode cX6_runWholes 107 = .ok (.getfield 55, 3) := by decide +kernel
theorem dX6_runWholes_110 : decode cX6_runWholes 110 = .ok (.iload_n 1, 1) := by decide +kernel
theorem dX6_runWholes_111 : decode cX6_runWholes 111 = .ok (.invokevirtual 88, 3) := by decide +kernel
theorem dX6_runWholes_114 : decode cX6_runWholes 114 = .ok (.bipush 10, 2) := by decide +kernel
theorem dX6_runWholes_116 : decode cX6_runWholes 116 = .ok (.if_icmp .ne 16, 3) := by decide +kernel
theorem dX6_runWholes_132 : decode cX6_runWholes 132 = .ok (.aload_n 0, 1) := by decide +kernel
theorem dX6_runWholes_133 : decode cX6_runWholes 133 = .ok (.iconst 1, 1) := by decide +kernel
theorem dX6_runWholes_134 : decode cX6_runWholes 134 = .ok (.iload 6, 2) := by decide +kernel
theorem dX6_runWholes_136 : decode cX6_runWholes 136 = .ok (.iload 7, 2) := by decide +kernel
theorem dX6_runWholes_138 : decode cX6_runWholes 138 = .ok (.if_icmp .ge 7, 3) := by decide +kernel
theorem dX6_runWholes_145 : decode cX6_runWholes 145 = .ok (.iconst 0, 1) := by decide +kernel
theorem dX6_runWholes_146 : decode cX6_runWholes 146 = .ok (.bipush (-9), 2) := by decide +kernel
theorem dX6_runWholes_148 : decode cX6_runWholes 148 = .ok (.invokevirtual 97, 3) := by decide +kernel
theorem dX6_runWholes_151 : decode cX6_runWholes 151 = .ok (.ireturn, 1) := by decide +kernel
theorem dX6_runWholes_141 : decode cX6_runWholes 141 = .ok (.iconst 1, 1) := by decide +kernel
theorem dX6_runWholes_142 : decode cX6_runWholes 142 = .ok (.goto 4, 3) := by decide +kernel
theorem dX6_runWholes_119 : decode cX6_runWholes 119 = .ok (.aload_n 0, 1) := by decide +kernel
theorem dX6_runWholes_120 : decode cX6_runWholes 120 = .ok (.iconst 0, 1) := by decide +kernel
theorem dX6_runWholes_121 : decode cX6_runWholes 121 = .ok (.iload 6, 2) := by decide +kernel
theorem dX6_runWholes_123 : decode cX6_runWholes 123 = .ok (.iload 7, 2) := by decide +kernel
theorem dX6_runWholes_125 : decode cX6_runWholes 125 = .ok (.iadd, 1) := by decide +kernel
theorem dX6_runWholes_126 : decode cX6_runWholes 126 = .ok (.bipush (-9), 2) := by decide +kernel
theorem dX6_runWholes_128 : decode cX6_runWholes 128 = .ok (.invokevirtual 97, 3) := by decide +kernel
theorem dX6_runWholes_131 : decode cX6_runWholes 131 = .ok (.ireturn, 1) := by decide +kernel
theorem dX6_runWholes_51 : decode cX6_runWholes 51 = .ok (.iload 5, 2) := by decide +kernel
theorem dX6_runWholes_53 : decode cX6_runWholes 53 = .ok (.ireturn, 1) := by decide +kernel
theorem dX6_runWholes_24 : decode cX6_runWholes 24 = .ok (.iload 4, 2) := by decide +kernel
theorem dX6_runWholes_26 : decode cX6_runWholes 26 = .ok (.ireturn, 1) := by decide +kernel
theorem dX6_run_0 : decode cX6_run 0 = .ok (.aload_n 0, 1) := by decide +kernel
theorem dX6_run_1 : decode cX6_run 1 = .ok (.getfield 79, 3) := by decide +kernel
theorem dX6_run_4 : decode cX6_run 4 = .ok (.aload_n 0, 1) := by decide +kernel
theorem dX6_run_5 : decode cX6_run 5 = .ok (.getfield 76, 3) := by decide +kernel
theorem dX6_run_8 : decode cX6_run 8 = .ok (.if_icmp .ge 9, 3) := by decide +kernel
theorem dX6_run_17 : decode cX6_run 17 = .ok (.aload_n 0, 1) := by decide +kernel
theorem dX6_run_18 : decode cX6_run 18 = .ok (.iload_n 1, 1) := by decide +kernel
theorem dX6_run_19 : decode cX6_run 19 = .ok (.putfield 48, 3) := by decide +kernel
theorem dX6_run_22 : decode cX6_run 22 = .ok (.bipush (-6), 2) := by decide +kernel
theorem dX6_run_24 : decode cX6_run 24 = .ok (.ireturn, 1) := by decide +kernel
theorem dX6_run_11 : decode cX6_run 11 = .ok (.iload_n 3, 1) := by decide +kernel
theorem dX6_run_12 : decode cX6_run 12 = .ok (.bipush 60, 2) := by decide +kernel
theorem dX6_run_14 : decode cX6_run 14 = .ok (.if_icmp .le 11, 3) := by decide +kernel
theorem dX6_run_25 : decode cX6_run 25 = .ok (.aload_n 0, 1) := by decide +kernel
theorem dX6_run_26 : decode cX6_run 26 = .ok (.dup, 1) := by decide +kernel
theorem dX6_run_27 : decode cX6_run 27 = .ok (.getfield 79, 3) := by decide +kernel
theorem dX6_run_30 : decode cX6_run 30 = .ok (.iconst 1, 1) := by decide +kernel
theorem dX6_run_31 : decode cX6_run 31 = .ok (.iadd, 1) := by decide +kernel
theorem dX6_run_32 : decode cX6_run 32 = .ok (.putfield 79, 3) := by decide +kernel
theorem dX6_run_35 : decode cX6_run 35 = .ok (.aload_n 0, 1) := by decide +kernel
theorem dX6_run_36 : decode cX6_run 36 = .ok (.getfield 55, 3) := by decide +kernel
theorem dX6_run_39 : decode cX6_run 39 = .ok (.iload_n 1, 1) := by decide +kernel
theorem dX6_run_40 : decode cX6_run 40 = .ok (.invokevirtual 88, 3) := by decide +kernel
theorem dX6_run_43 : decode cX6_run 43 = .ok (.tableswitch 149 0 9 #[53, 69, 85, 93, 101, 109, 117, 125, 133, 141], 53) := by decide +kernel
theorem dX6_run_96 : decode cX6_run 96 = .ok (.aload_n 0, 1) := by decide +kernel
theorem dX6_run_97 : decode cX6_run 97 = .ok (.iconst 0, 1) := by decide +kernel
theorem dX6_run_98 : decode cX6_run 98 = .ok (.aload_n 0, 1) := by decide +kernel
theorem dX6_run_99 : decode cX6_run 99 = .ok (.getfield 55, 3) := by decide +kernel
theorem dX6_run_102 : decode cX6_run 102 = .ok (.iload_n 1, 1) := by decide +kernel
theorem dX6_run_103 : decode cX6_run 103 = .ok (.invokevirtual 94, 3) := by decide +kernel
theorem dX6_run_106 : decode cX6_run 106 = .ok (.bipush (-9), 2) := by decide +kernel
theorem dX6_run_108 : decode cX6_run 108 = .ok (.invokevirtual 97, 3) := by decide +kernel
theorem dX6_run_111 : decode cX6_run 111 = .ok (.ireturn, 1) := by decide +kernel
theorem dX6_run_112 : decode cX6_run 112 = .ok (.aload_n 0, 1) := by decide +kernel
theorem dX6_run_113 : decode cX6_run 113 = .ok (.iconst 1, 1) := by decide +kernel
theorem dX6_run_114 : decode cX6_run 114 = .ok (.aload_n 0, 1) := by decide +kernel
theorem dX6_run_115 : decode cX6_run 115 = .ok (.getfield 55, 3) := by decide +kernel
theorem dX6_run_118 : decode cX6_run 118 = .ok (.iload_n 1, 1) := by decide +kernel
theorem dX6_run_119 : decode cX6_run 119 = .ok (.invokevirtual 94, 3) := by decide +kernel
theorem dX6_run_122 : decode cX6_run 122 = .ok (.bipush (-9), 2) := by decide +kernel
theorem dX6_run_124 : decode cX6_run 124 = .ok (.invokevirtual 97, 3) := by decide +kernel
theorem dX6_run_127 : decode cX6_run 127 = .ok (.ireturn, 1) := by decide +kernel
theorem dX6_run_128 : decode cX6_run 128 = .ok (.aload_n 0, 1) := by decide +kernel
theorem dX6_run_129 : decode cX6_run 129 = .ok (.iload_n 1, 1) := by decide +kernel
theorem dX6_run_130 : decode cX6_run 130 = .ok (.iload_n 2, 1) := by decide +kernel
theorem dX6_run_131 : decode cX6_run 131 = .ok (.iload_n 3, 1) := by decide +kernel
theorem dX6_run_132 : decode cX6_run 132 = .ok (.invokevirtual 100, 3) := by decide +kernel
theorem dX6_run_135 : decode cX6_run 135 = .ok (.ireturn, 1) := by decide +kernel
theorem dX6_run_136 : decode cX6_run 136 = .ok (.aload_n 0, 1) := by decide +kernel
theorem dX6_run_137 : decode cX6_run 137 = .ok (.iconst 2, 1) := by decide +kernel
theorem dX6_run_138 : decode cX6_run 138 = .ok (.iload_n 1, 1) := by decide +kernel
theorem dX6_run_139 : decode cX6_run 139 = .ok (.iload_n 2, 1) := by decide +kernel
theorem dX6_run_140 : decode cX6_run 140 = .ok (.invokevirtual 97, 3) := by decide +kernel
theorem dX6_run_143 : decode cX6_run 143 = .ok (.ireturn, 1) := by decide +kernel
theorem dX6_run_144 : decode cX6_run 144 = .ok (.aload_n 0, 1) := by decide +kernel
theorem dX6_run_145 : decode cX6_run 145 = .ok (.iload_n 1, 1) := by decide +kernel
theorem dX6_run_146 : decode cX6_run 146 = .ok (.iload_n 2, 1) := by decide +kernel
theorem dX6_run_147 : decode cX6_run 147 = .ok (.iload_n 3, 1) := by decide +kernel
theorem dX6_run_148 : decode cX6_run 148 = .ok (.invokevirtual 103, 3) := by decide +kernel
theorem dX6_run_151 : decode cX6_run 151 = .ok (.ireturn, 1) := by decide +kernel
theorem dX6_run_152 : decode cX6_run 152 = .ok (.aload_n 0, 1) := by decide +kernel
theorem dX6_run_153 : decode cX6_run 153 = .ok (.iload_n 1, 1) := by decide +kernel
theorem dX6_run_154 : decode cX6_run 154 = .ok (.iload_n 2, 1) := by decide +kernel
theorem dX6_run_155 : decode cX6_run 155 = .ok (.iload_n 3, 1) := by decide +kernel
theorem dX6_run_156 : decode cX6_run 156 = .ok (.invokevirtual 106, 3) := by decide +kernel
theorem dX6_run_159 : decode cX6_run 159 = .ok (.ireturn, 1) := by decide +kernel
theorem dX6_run_160 : decode cX6_run 160 = .ok (.aload_n 0, 1) := by decide +kernel
theorem dX6_run_161 : decode cX6_run 161 = .ok (.iload_n 1, 1) := by decide +kernel
theorem dX6_run_162 : decode cX6_run 162 = .ok (.iload_n 2, 1) := by decide +kernel
theorem dX6_run_163 : decode cX6_run 163 = .ok (.iload_n 3, 1) := by decide +kernel
theorem dX6_run_164 : decode cX6_run 164 = .ok (.invokevirtual 109, 3) := by decide +kernel
theorem dX6_run_167 : decode cX6_run 167 = .ok (.ireturn, 1) := by decide +kernel
theorem dX6_run_168 : decode cX6_run 168 = .ok (.aload_n 0, 1) := by decide +kernel
theorem dX6_run_169 : decode cX6_run 169 = .ok (.iload_n 1, 1) := by decide +kernel
theorem dX6_run_170 : decode cX6_run 170 = .ok (.iload_n 2, 1) := by decide +kernel
theorem dX6_run_171 : decode cX6_run 171 = .ok (.iload_n 3, 1) := by decide +kernel
theorem dX6_run_172 : decode cX6_run 172 = .ok (.invokevirtual 112, 3) := by decide +kernel
theorem dX6_run_175 : decode cX6_run 175 = .ok (.ireturn, 1) := by decide +kernel
theorem dX6_run_176 : decode cX6_run 176 = .ok (.aload_n 0, 1) := by decide +kernel
theorem dX6_run_177 : decode cX6_run 177 = .ok (.iload_n 1, 1) := by decide +kernel
theorem dX6_run_178 : decode cX6_run 178 = .ok (.iload_n 2, 1) := by decide +kernel
theorem dX6_run_179 : decode cX6_run 179 = .ok (.iload_n 3, 1) := by decide +kernel
theorem dX6_run_180 : decode cX6_run 180 = .ok (.invokevirtual 115, 3) := by decide +kernel
theorem dX6_run_183 : decode cX6_run 183 = .ok (.ireturn, 1) := by decide +kernel
theorem dX6_run_184 : decode cX6_run 184 = .ok (.aload_n 0, 1) := by decide +kernel
theorem dX6_run_185 : decode cX6_run 185 = .ok (.iload_n 1, 1) := by decide +kernel
theorem dX6_run_186 : decode cX6_run 186 = .ok (.iload_n 2, 1) := by decide +kernel
theorem dX6_run_187 : decode cX6_run 187 = .ok (.iload_n 3, 1) := by decide +kernel
theorem dX6_run_188 : decode cX6_run 188 = .ok (.invokevirtual 118, 3) := by decide +kernel
theorem dX6_run_191 : decode cX6_run 191 = .ok (.ireturn, 1) := by decide +kernel
theorem dX6_run_192 : decode cX6_run 192 = .ok (.aload_n 0, 1) := by decide +kernel
theorem dX6_run_193 : decode cX6_run 193 = .ok (.iload_n 1, 1) := by decide +kernel
theorem dX6_run_194 : decode cX6_run 194 = .ok (.iload_n 2, 1) := by decide +kernel
theorem dX6_run_195 : decode cX6_run 195 = .ok (.iload_n 3, 1) := by decide +kernel
theorem dX6_run_196 : decode cX6_run 196 = .ok (.invokevirtual 121, 3) := by decide +kernel
theorem dX6_run_199 : decode cX6_run 199 = .ok (.ireturn, 1) := by decide +kernel
def cRunAt (fu : Nat) : Prop := ∀ (l : Launch) (G : cG) (S : cS) (al : Nat) (v9 : Nat) (s9 : Nat) (f9 : Nat) (bg : Nat) (N : Nat) (dp : Nat) (n : Int32) (sg : Int32) (hC : CL S) (hW : WR S al v9 s9 f9 bg) (hT : TJ S N) (hdp : dp + fu = 61) (Hs : Heap), Met l yX6_run (wC yX6_run cX6_run 4 (some .int)) (cRm S (2 * fu + 6) (60 * fu + 200)) (cPc G S Hs [.ref (ga G 5), .int n, .int sg, .int (nI dp)]) (cQi G S Hs (fun v u => AW [27, 28, 29, 30, 31, 32, 33, 34] [111, 112] S u ∧ (WX u al v9 s9 f9 bg 0))) (CC - PT S) (12 * (CC - PT S)) (cA G S Hs.size)

theorem vl3 {S : cS} {al v s f bg : Nat} (h : WR S al v s f bg) (hv : v + 1 ≤ bg) : v < 301 := by
  obtain ⟨a1, a4, a5, a9, a10, a11, a12, a13, a14, a15⟩ := h
  omega
theorem sl3 {S : cS} {al v s f bg : Nat} (h : WR S al v s f bg) (hv : s + 1 ≤ bg) : s < 301 := by
  obtain ⟨a1, a4, a5, a9, a10, a11, a12, a13, a14, a15⟩ := h
  omega
theorem fl3 {S : cS} {al v s f bg : Nat} (h : WR S al v s f bg) : f ≤ 1800 := by
  obtain ⟨a1, a4, a5, a9, a10, a11, a12, a13, a14, a15⟩ := h
  omega

set_option maxHeartbeats 4000000 in
set_option maxRecDepth 100000 in
/-- runName -/
theorem w_runName (l : Launch) (G : cG) (S : cS) (fu : Nat) (al : Nat) (v9 : Nat) (s9 : Nat) (f9 : Nat) (bg : Nat) (N : Nat) (dp : Nat) (n : Int32) (sg : Int32) (hC : CL S) (ih : cRunAt fu) (hW : WR S al v9 s9 f9 bg) (hT : TJ S N) (hdp : dp + (fu + 1) = 61) (hc : v9 + 1 ≤ bg ∧ s9 + 1 ≤ bg ∧ f9 + 6 ≤ 6 * bg) (Hs : Heap) : Met l yX6_runName (wC yX6_runName cX6_runName 6 (some .int)) (cRm S (2 * fu + 7) (60 * fu + 230)) (cPc G S Hs [.ref (ga G 5), .int n, .int sg, .int (nI dp)]) (cQi G S Hs (fun v u => AW [27, 28, 29, 30, 31, 32, 33, 34] [111, 112] S u ∧ (WX u al v9 s9 f9 bg 1))) (CC - PT S) (12 * (CC - PT S)) (cA G S Hs.size) := by
  refine Met.ofW (cc := cX6_runName) (maxL := 6) (ret := (some .int)) (by decide) rfl ?_
  intro p e s m args below meth c s₁ B hml hv
  obtain ⟨rfl, hsz, hP, hK, hD0, -⟩ := hv
  have hx := B.exec
  have hb := B.bytes
  have hr := B.returns
  have htu : ∀ w ∈ CU, w.before _ s = true := fun w h => atoms_spec (ws := (wC yX6_runName cX6_runName 6 (some .int))) B.pre w (List.mem_cons_of_mem _ h)
  have hown : s.vm.findClass RX6 = some m.cls := findClass_of_methodNamed B.named
  have hlocks := B.notSynchronized
  subst hsz
  have hD : cD (cA G S s.heap.size) G S := cD_self hD0
  have hl := lv_entry ([.ref (ga G 5), .int n, .int sg, .int (nI dp)]) (n := 6) (Nat.le_of_ble_eq_true rfl)
  rw [lg_entry_eq]
  generalize (lg_sl ([.ref (ga G 5), .int n, .int sg, .int (nI dp)]) ++ List.replicate (6 - (lg_sl ([.ref (ga G 5), .int n, .int sg, .int (nI dp)])).length) Slot.unset).toArray = ls at hl ⊢
  have hl : lv_has ls 6 [(0, .ref (ga G 5)), (1, .int n), (2, .int sg), (3, .int (nI dp))] := hl
  obtain ⟨H, hHe⟩ : ∃ H : Heap, H = s.heap := ⟨_, rfl⟩
  rw [← hHe] at hP
  have hS : va_S (cA G S s.heap.size) s.heap H [] := by rw [hHe]; exact va_S.rf
  have hh : HS S S := HS.rf
  have hpp : PT S ≤ PT S := Nat.le_refl _
  have hB9 := hC.1
  refine W.heq hHe ?_
  refine c_ent (S := S) ?_
  obtain ⟨hc1, hc2, hc3⟩ := id hc
  refine lv_aload_n hx hb dX6_runName_0 rfl (lv_at hl 0 rfl) ?_
  refine lv_aload_n hx hb dX6_runName_1 rfl (lv_at hl 0 rfl) ?_
  refine va_get (D := gD G) (ci := 6) (v := .ref (ga G 1)) (C := RX6) (T := TX6) (N := 14) hx hb htu cu_in6 hown hK hP 5 cw_5 rfl 0 (by decide) (htu _ C_162) (fun _ h9 => h9) rfl dX6_runName_2 ?_
  refine lv_iload_n hx hb dX6_runName_5 rfl (lv_at hl 1 rfl) ?_
  have hC0 := hC
  refine c_ci (c_runV (As := [.int n]) (rest := [.ref (ga G 5)]) (q0 := 1) (ci := 3) ⟨hx, hb, hml, hown, htu⟩ (tt_markOf l G S N n hC hT.1 H) (cwV 1 htu hU_X6_94 rfl rfl rfl (by decide +kernel) ⟨show 1 + 1 ≤ 2 * fu + 7 by omega, show 8 + (2 + 11) + 21 ≤ 60 * fu + 230 by omega⟩) hP hK hD hC hpp cw_1 rfl rfl hl.1 rfl (lv_room (Nat.le_of_ble_eq_true rfl)) dX6_runName_6) hS hD hh hpp (fun r_1 S_2 H locs hw_3 hP hD hS hC hh hs_4 hpp => ?_)
  obtain ⟨-, hu9, hw_3⟩ := hw_3
  have hu9 := hu9.symm
  subst hu9
  refine lv_iload_n hx hb dX6_runName_9 rfl (lv_at hl 2 rfl) ?_
  have hC0 := hC
  refine c_ci (c_runV (As := [.int r_1, .int sg]) (rest := []) (q0 := 5) (ci := 6) ⟨hx, hb, hml, hown, htu⟩ (w_seenBy l G S r_1 sg hC  H) (cwV 2 htu hU_X6_124 rfl rfl rfl (by decide +kernel) ⟨show 1 + 1 ≤ 2 * fu + 7 by omega, show 8 + (5 + 11) + 21 ≤ 60 * fu + 230 by omega⟩) hP hK hD hC hpp cw_5 rfl rfl hl.1 rfl (lv_room (Nat.le_of_ble_eq_true rfl)) dX6_runName_10) hS hD hh hpp (fun r_5 S_6 H locs hw_7 hP hD hS hC hh hs_8 hpp => ?_)
  obtain ⟨-, hu9⟩ := hw_7
  have hu9 := hu9.symm
  subst hu9
  refine lv_istore (lv' := [(4, .int r_5), (0, .ref (ga G 5)), (1, .int n), (2, .int sg), (3, .int (nI dp))]) hx hb dX6_runName_13 hl (by decide) rfl (fun ls hl => ?_)
  refine lv_iload hx hb dX6_runName_15 (lv_at hl 0 rfl) ?_
  refine lv_bipush (v := (-9)) hx hb dX6_runName_17 (by decide) ?_
  refine lv_icmp_ne (tgt := 28) hx hb dX6_runName_19 (by decide) (fun c_9 => ?_) (fun c_9 => ?_)
  · skip
    refine lv_aload_n hx hb dX6_runName_28 rfl (lv_at hl 1 rfl) ?_
    refine va_get (D := gD G) (ci := 6) (v := .ref (kH S 33)) (C := RX6) (T := TX6) (N := 14) hx hb htu cu_in6 hown hK hP 5 cw_5 rfl 8 (by decide) (htu _ C_158) (fun _ h9 => h9) rfl dX6_runName_29 ?_
    refine lv_iload hx hb dX6_runName_32 (lv_at hl 0 rfl) ?_
    have hC0 := hC
    refine c_ci (c_runV (As := [.int r_5]) (rest := []) (q0 := (2 * 33 + 13)) (ci := 0) ⟨hx, hb, hml, hown, htu⟩ (c_getA l G S 33 (lt35 (by decide)) hC (kH S 33) rfl r_5 H) (cwV 1 htu hU_X6_131 rfl rfl rfl (by decide +kernel) ⟨show 0 + 1 ≤ 2 * fu + 7 by omega, show 8 + (2 + 11) + 0 ≤ 60 * fu + 230 by omega⟩) hP hK hD hC hpp (c_hd rfl (cw_row (lt35 (by decide)))) rfl rfl hl.1 rfl (lv_room (Nat.le_of_ble_eq_true rfl)) dX6_runName_34) hS hD hh hpp (fun r_10 S_11 H locs hw_12 hP hD hS hC hh hs_13 hpp => ?_)
    obtain ⟨hu9, hw_12⟩ := hw_12
    have hu9 := hu9.symm
    subst hu9
    refine lv_istore (lv' := [(5, .int r_10), (4, .int r_5), (0, .ref (ga G 5)), (1, .int n), (2, .int sg), (3, .int (nI dp))]) hx hb dX6_runName_37 hl (by decide) rfl (fun ls hl => ?_)
    refine lv_iload hx hb dX6_runName_39 (lv_at hl 0 rfl) ?_
    refine lv_bipush (v := (-9)) hx hb dX6_runName_41 (by decide) ?_
    refine lv_icmp_ne (tgt := 56) hx hb dX6_runName_43 (by decide) (fun c_14 => ?_) (fun c_14 => ?_)
    · skip
      refine lv_aload_n hx hb dX6_runName_56 rfl (lv_at hl 2 rfl) ?_
      refine lv_aload_n hx hb dX6_runName_57 rfl (lv_at hl 2 rfl) ?_
      refine va_get (D := gD G) (ci := 6) (v := .ref (ga G 1)) (C := RX6) (T := TX6) (N := 14) hx hb htu cu_in6 hown hK hP 5 cw_5 rfl 0 (by decide) (htu _ C_162) (fun _ h9 => h9) rfl dX6_runName_58 ?_
      refine lv_iload hx hb dX6_runName_61 (lv_at hl 0 rfl) ?_
      refine lv_iconst (v := 0) hx hb dX6_runName_63 (by decide) ?_
      have hC0 := hC
      refine c_ci (c_runV (As := [.int r_10, .int 0]) (rest := [.ref (ga G 5)]) (q0 := 1) (ci := 3) ⟨hx, hb, hml, hown, htu⟩ (tt_partOf l G S N r_10 0 hC hT.1 H) (cwV 2 htu hU_X6_134 rfl rfl rfl (by decide +kernel) ⟨show 1 + 1 ≤ 2 * fu + 7 by omega, show 8 + (3 + 11) + 21 ≤ 60 * fu + 230 by omega⟩) hP hK hD hC hpp cw_1 rfl rfl hl.1 rfl (lv_room (Nat.le_of_ble_eq_true rfl)) dX6_runName_64) hS hD hh hpp (fun r_15 S_16 H locs hw_17 hP hD hS hC hh hs_18 hpp => ?_)
      obtain ⟨-, hu9, hw_17⟩ := hw_17
      have hu9 := hu9.symm
      subst hu9
      refine lv_iload hx hb dX6_runName_67 (lv_at hl 1 rfl) ?_
      refine lv_iload_n hx hb dX6_runName_69 rfl (lv_at hl 5 rfl) ?_
      refine lv_iconst (v := 1) hx hb dX6_runName_70 (by decide) ?_
      refine lv_iadd hx hb dX6_runName_71 ?_
      refine m_top (y := nI (dp + 1)) (nI_add dp 1) ?_
      have hC0 := hC
      refine c_ci (c_runV (As := [.int r_15, .int r_5, .int (nI (dp + 1))]) (rest := []) (q0 := 5) (ci := 6) ⟨hx, hb, hml, hown, htu⟩ (ih l G S al v9 s9 f9 bg N (dp + 1) r_15 r_5 hC hW hT ((by omega)) H) (cwV 3 htu hU_X6_62 rfl rfl rfl (by decide +kernel) ⟨show (2 * fu + 6) + 1 ≤ 2 * fu + 7 by omega, show 8 + (4 + 11) + (60 * fu + 200) ≤ 60 * fu + 230 by omega⟩) hP hK hD hC hpp cw_5 rfl rfl hl.1 rfl (lv_room (Nat.le_of_ble_eq_true rfl)) dX6_runName_72) hS hD hh hpp (fun r_19 S_20 H locs hw_21 hP hD hS hC hh hs_22 hpp => ?_)
      try dsimp only at hw_21
      have aw_23 : AW [27, 28, 29, 30, 31, 32, 33, 34] [111, 112] S S_20 := hw_21.1
      have aw_23t : AW [27, 28, 29, 30, 31, 32, 33, 34] [111, 112] S S_20 := AW.rf.tr (aw_23.mono (by decide) (by decide))
      have tj_24 : TJ S_20 N := TJ.aw hT aw_23 (by decide)
      have wx_25x := hw_21.2
      obtain ⟨wx_25v, wx_25s, wx_25f, wx_25b, wx_25, wx_251, wx_252, wx_253, wx_254⟩ := id wx_25x
      exact c_iret (v := r_19) hx hb hr hK hP hD hS hC hh hpp ⟨aw_23t, (wx_25.x (by omega))⟩ dX6_runName_75 hlocks
    · skip
      refine lv_aload_n hx hb dX6_runName_46 rfl (lv_at hl 2 rfl) ?_
      refine va_get (D := gD G) (ci := 6) (v := .ref (kH S 32)) (C := RX6) (T := TX6) (N := 14) hx hb htu cu_in6 hown hK hP 5 cw_5 rfl 7 (by decide) (htu _ C_157) (fun _ h9 => h9) rfl dX6_runName_47 ?_
      refine lv_iload hx hb dX6_runName_50 (lv_at hl 1 rfl) ?_
      have hC0 := hC
      refine c_ci (c_runV (As := [.int r_5]) (rest := []) (q0 := (2 * 32 + 13)) (ci := 0) ⟨hx, hb, hml, hown, htu⟩ (c_getA l G S 32 (lt35 (by decide)) hC (kH S 32) rfl r_5 H) (cwV 1 htu hU_X6_131 rfl rfl rfl (by decide +kernel) ⟨show 0 + 1 ≤ 2 * fu + 7 by omega, show 8 + (2 + 11) + 0 ≤ 60 * fu + 230 by omega⟩) hP hK hD hC hpp (c_hd rfl (cw_row (lt35 (by decide)))) rfl rfl hl.1 rfl (lv_room (Nat.le_of_ble_eq_true rfl)) dX6_runName_52) hS hD hh hpp (fun r_26 S_27 H locs hw_28 hP hD hS hC hh hs_29 hpp => ?_)
      obtain ⟨hu9, hw_28⟩ := hw_28
      have hu9 := hu9.symm
      subst hu9
      exact c_iret (v := r_26) hx hb hr hK hP hD hS hC hh hpp ⟨AW.rf, (hW.x (by omega))⟩ dX6_runName_55 hlocks
  · skip
    refine lv_aload_n hx hb dX6_runName_22 rfl (lv_at hl 1 rfl) ?_
    refine lv_iload_n hx hb dX6_runName_23 rfl (lv_at hl 2 rfl) ?_
    have hC0 := hC
    refine c_ci (c_runV (As := [.int n]) (rest := []) (q0 := 5) (ci := 6) ⟨hx, hb, hml, hown, htu⟩ (w_stuckAt l G S n hC  H) (cwV 1 htu hU_X6_128 rfl rfl rfl (by decide +kernel) ⟨show 0 + 1 ≤ 2 * fu + 7 by omega, show 8 + (2 + 11) + 0 ≤ 60 * fu + 230 by omega⟩) hP hK hD hC hpp cw_5 rfl rfl hl.1 rfl (lv_room (Nat.le_of_ble_eq_true rfl)) dX6_runName_24) hS hD hh hpp (fun r_30 S_31 H locs hw_32 hP hD hS hC hh hs_33 hpp => ?_)
    try dsimp only at hw_32
    have aw_34 : AW [] [112] S S_31 := hw_32.1
    have aw_34t : AW [27, 28, 29, 30, 31, 32, 33, 34] [111, 112] S S_31 := AW.rf.tr (aw_34.mono (by decide) (by decide))
    have tj_35 : TJ S_31 N := TJ.aw hT aw_34 (by decide)
    have sk_36 := WR.aw hW aw_34 (by decide) (by decide)
    exact c_iret (v := r_30) hx hb hr hK hP hD hS hC hh hpp ⟨aw_34t, (sk_36.x (by omega))⟩ dX6_runName_27 hlocks

set_option maxHeartbeats 4000000 in
set_option maxRecDepth 100000 in
/-- runApply -/
theorem w_runApply (l : Launch) (G : cG) (S : cS) (fu : Nat) (al : Nat) (v9 : Nat) (s9 : Nat) (f9 : Nat) (bg : Nat) (N : Nat) (dp : Nat) (n : Int32) (sg : Int32) (hC : CL S) (ih : cRunAt fu) (hW : WR S al v9 s9 f9 bg) (hT : TJ S N) (hdp : dp + (fu + 1) = 61) (hc : v9 + 1 ≤ bg ∧ s9 + 1 ≤ bg ∧ f9 + 6 ≤ 6 * bg) (Hs : Heap) : Met l yX6_runApply (wC yX6_runApply cX6_runApply 8 (some .int)) (cRm S (2 * fu + 7) (60 * fu + 230)) (cPc G S Hs [.ref (ga G 5), .int n, .int sg, .int (nI dp)]) (cQi G S Hs (fun v u => AW [27, 28, 29, 30, 31, 32, 33, 34] [111, 112] S u ∧ (WX u al v9 s9 f9 bg 1))) (CC - PT S) (12 * (CC - PT S)) (cA G S Hs.size) := by
  refine Met.ofW (cc := cX6_runApply) (maxL := 8) (ret := (some .int)) (by decide) rfl ?_
  intro p e s m args below meth c s₁ B hml hv
  obtain ⟨rfl, hsz, hP, hK, hD0, -⟩ := hv
  have hx := B.exec
  have hb := B.bytes
  have hr := B.returns
  have htu : ∀ w ∈ CU, w.before _ s = true := fun w h => atoms_spec (ws := (wC yX6_runApply cX6_runApply 8 (some .int))) B.pre w (List.mem_cons_of_mem _ h)
  have hown : s.vm.findClass RX6 = some m.cls := findClass_of_methodNamed B.named
  have hlocks := B.notSynchronized
  subst hsz
  have hD : cD (cA G S s.heap.size) G S := cD_self hD0
  have hl := lv_entry ([.ref (ga G 5), .int n, .int sg, .int (nI dp)]) (n := 8) (Nat.le_of_ble_eq_true rfl)
  rw [lg_entry_eq]
  generalize (lg_sl ([.ref (ga G 5), .int n, .int sg, .int (nI dp)]) ++ List.replicate (8 - (lg_sl ([.ref (ga G 5), .int n, .int sg, .int (nI dp)])).length) Slot.unset).toArray = ls at hl ⊢
  have hl : lv_has ls 8 [(0, .ref (ga G 5)), (1, .int n), (2, .int sg), (3, .int (nI dp))] := hl
  obtain ⟨H, hHe⟩ : ∃ H : Heap, H = s.heap := ⟨_, rfl⟩
  rw [← hHe] at hP
  have hS : va_S (cA G S s.heap.size) s.heap H [] := by rw [hHe]; exact va_S.rf
  have hh : HS S S := HS.rf
  have hpp : PT S ≤ PT S := Nat.le_refl _
  have hB9 := hC.1
  refine W.heq hHe ?_
  refine c_ent (S := S) ?_
  obtain ⟨hc1, hc2, hc3⟩ := id hc
  refine lv_aload_n hx hb dX6_runApply_0 rfl (lv_at hl 0 rfl) ?_
  refine lv_aload_n hx hb dX6_runApply_1 rfl (lv_at hl 0 rfl) ?_
  refine va_get (D := gD G) (ci := 6) (v := .ref (ga G 1)) (C := RX6) (T := TX6) (N := 14) hx hb htu cu_in6 hown hK hP 5 cw_5 rfl 0 (by decide) (htu _ C_162) (fun _ h9 => h9) rfl dX6_runApply_2 ?_
  refine lv_iload_n hx hb dX6_runApply_5 rfl (lv_at hl 1 rfl) ?_
  refine lv_iconst (v := 0) hx hb dX6_runApply_6 (by decide) ?_
  have hC0 := hC
  refine c_ci (c_runV (As := [.int n, .int 0]) (rest := [.ref (ga G 5)]) (q0 := 1) (ci := 3) ⟨hx, hb, hml, hown, htu⟩ (tt_partOf l G S N n 0 hC hT.1 H) (cwV 2 htu hU_X6_134 rfl rfl rfl (by decide +kernel) ⟨show 1 + 1 ≤ 2 * fu + 7 by omega, show 8 + (3 + 11) + 21 ≤ 60 * fu + 230 by omega⟩) hP hK hD hC hpp cw_1 rfl rfl hl.1 rfl (lv_room (Nat.le_of_ble_eq_true rfl)) dX6_runApply_7) hS hD hh hpp (fun r_1 S_2 H locs hw_3 hP hD hS hC hh hs_4 hpp => ?_)
  obtain ⟨-, hu9, hw_3⟩ := hw_3
  have hu9 := hu9.symm
  subst hu9
  refine lv_iload_n hx hb dX6_runApply_10 rfl (lv_at hl 2 rfl) ?_
  refine lv_iload_n hx hb dX6_runApply_11 rfl (lv_at hl 3 rfl) ?_
  refine lv_iconst (v := 1) hx hb dX6_runApply_12 (by decide) ?_
  refine lv_iadd hx hb dX6_runApply_13 ?_
  refine m_top (y := nI (dp + 1)) (nI_add dp 1) ?_
  have hC0 := hC
  refine c_ci (c_runV (As := [.int r_1, .int sg, .int (nI (dp + 1))]) (rest := []) (q0 := 5) (ci := 6) ⟨hx, hb, hml, hown, htu⟩ (ih l G S al v9 s9 f9 bg N (dp + 1) r_1 sg hC hW hT ((by omega)) H) (cwV 3 htu hU_X6_62 rfl rfl rfl (by decide +kernel) ⟨show (2 * fu + 6) + 1 ≤ 2 * fu + 7 by omega, show 8 + (4 + 11) + (60 * fu + 200) ≤ 60 * fu + 230 by omega⟩) hP hK hD hC hpp cw_5 rfl rfl hl.1 rfl (lv_room (Nat.le_of_ble_eq_true rfl)) dX6_runApply_14) hS hD hh hpp (fun r_5 S_6 H locs hw_7 hP hD hS hC hh hs_8 hpp => ?_)
  try dsimp only at hw_7
  have aw_9 : AW [27, 28, 29, 30, 31, 32, 33, 34] [111, 112] S S_6 := hw_7.1
  have aw_9t : AW [27, 28, 29, 30, 31, 32, 33, 34] [111, 112] S S_6 := AW.rf.tr (aw_9.mono (by decide) (by decide))
  have tj_10 : TJ S_6 N := TJ.aw hT aw_9 (by decide)
  have wx_11x := hw_7.2
  obtain ⟨wx_11v, wx_11s, wx_11f, wx_11b, wx_11, wx_111, wx_112, wx_113, wx_114⟩ := id wx_11x
  refine lv_istore (lv' := [(4, .int r_5), (0, .ref (ga G 5)), (1, .int n), (2, .int sg), (3, .int (nI dp))]) hx hb dX6_runApply_17 hl (by decide) rfl (fun ls hl => ?_)
  refine lv_iload hx hb dX6_runApply_19 (lv_at hl 0 rfl) ?_
  refine lv_if_ge (tgt := 27) hx hb dX6_runApply_21 (by decide) (fun c_12 => ?_) (fun c_12 => ?_)
  · skip
    refine lv_aload_n hx hb dX6_runApply_27 rfl (lv_at hl 1 rfl) ?_
    refine lv_aload_n hx hb dX6_runApply_28 rfl (lv_at hl 1 rfl) ?_
    refine va_get (D := gD G) (ci := 6) (v := .ref (ga G 1)) (C := RX6) (T := TX6) (N := 14) hx hb htu cu_in6 hown hK hP 5 cw_5 rfl 0 (by decide) (htu _ C_162) (fun _ h9 => h9) rfl dX6_runApply_29 ?_
    refine lv_iload_n hx hb dX6_runApply_32 rfl (lv_at hl 2 rfl) ?_
    refine lv_iconst (v := 1) hx hb dX6_runApply_33 (by decide) ?_
    have hC0 := hC
    refine c_ci (c_runV (As := [.int n, .int 1]) (rest := [.ref (ga G 5)]) (q0 := 1) (ci := 3) ⟨hx, hb, hml, hown, htu⟩ (tt_partOf l G S_6 N n 1 hC tj_10.1 H) (cwV 2 htu hU_X6_134 rfl rfl rfl (by decide +kernel) ⟨show 1 + 1 ≤ 2 * fu + 7 by omega, show 8 + (3 + 11) + 21 ≤ 60 * fu + 230 by omega⟩) hP hK hD hC hpp cw_1 rfl rfl hl.1 rfl (lv_room (Nat.le_of_ble_eq_true rfl)) dX6_runApply_34) hS hD hh hpp (fun r_13 S_14 H locs hw_15 hP hD hS hC hh hs_16 hpp => ?_)
    obtain ⟨-, hu9, hw_15⟩ := hw_15
    have hu9 := hu9.symm
    subst hu9
    refine lv_iload_n hx hb dX6_runApply_37 rfl (lv_at hl 3 rfl) ?_
    refine lv_iload_n hx hb dX6_runApply_38 rfl (lv_at hl 4 rfl) ?_
    refine lv_iconst (v := 1) hx hb dX6_runApply_39 (by decide) ?_
    refine lv_iadd hx hb dX6_runApply_40 ?_
    refine m_top (y := nI (dp + 1)) (nI_add dp 1) ?_
    have hC0 := hC
    refine c_ci (c_runV (As := [.int r_13, .int sg, .int (nI (dp + 1))]) (rest := []) (q0 := 5) (ci := 6) ⟨hx, hb, hml, hown, htu⟩ (ih l G S_6 al wx_11v wx_11s wx_11f wx_11b N (dp + 1) r_13 sg hC wx_11 tj_10 ((by omega)) H) (cwV 3 htu hU_X6_62 rfl rfl rfl (by decide +kernel) ⟨show (2 * fu + 6) + 1 ≤ 2 * fu + 7 by omega, show 8 + (4 + 11) + (60 * fu + 200) ≤ 60 * fu + 230 by omega⟩) hP hK hD hC hpp cw_5 rfl rfl hl.1 rfl (lv_room (Nat.le_of_ble_eq_true rfl)) dX6_runApply_41) hS hD hh hpp (fun r_17 S_18 H locs hw_19 hP hD hS hC hh hs_20 hpp => ?_)
    try dsimp only at hw_19
    have aw_21 : AW [27, 28, 29, 30, 31, 32, 33, 34] [111, 112] S_6 S_18 := hw_19.1
    have aw_21t : AW [27, 28, 29, 30, 31, 32, 33, 34] [111, 112] S S_18 := aw_9t.tr (aw_21.mono (by decide) (by decide))
    have tj_22 : TJ S_18 N := TJ.aw tj_10 aw_21 (by decide)
    have wx_23x := hw_19.2
    obtain ⟨wx_23v, wx_23s, wx_23f, wx_23b, wx_23, wx_231, wx_232, wx_233, wx_234⟩ := id wx_23x
    refine lv_istore (lv' := [(5, .int r_17), (4, .int r_5), (0, .ref (ga G 5)), (1, .int n), (2, .int sg), (3, .int (nI dp))]) hx hb dX6_runApply_44 hl (by decide) rfl (fun ls hl => ?_)
    refine lv_iload hx hb dX6_runApply_46 (lv_at hl 0 rfl) ?_
    refine lv_if_ge (tgt := 54) hx hb dX6_runApply_48 (by decide) (fun c_24 => ?_) (fun c_24 => ?_)
    · skip
      refine lv_aload_n hx hb dX6_runApply_54 rfl (lv_at hl 2 rfl) ?_
      refine va_get (D := gD G) (ci := 6) (v := .ref (kH S 27)) (C := RX6) (T := TX6) (N := 14) hx hb htu cu_in6 hown hK hP 5 cw_5 rfl 2 (by decide) (htu _ C_152) (fun _ h9 => h9) (c_hv (hh.2 27 (lt35 (by decide)))) dX6_runApply_55 ?_
      refine lv_iload hx hb dX6_runApply_58 (lv_at hl 1 rfl) ?_
      have hC0 := hC
      refine c_ci (c_runV (As := [.int r_5]) (rest := []) (q0 := (2 * 27 + 13)) (ci := 0) ⟨hx, hb, hml, hown, htu⟩ (c_getA l G S_18 27 (lt35 (by decide)) hC (kH S 27) (hh.2 27 (lt35 (by decide))) r_5 H) (cwV 1 htu hU_X6_131 rfl rfl rfl (by decide +kernel) ⟨show 0 + 1 ≤ 2 * fu + 7 by omega, show 8 + (2 + 11) + 0 ≤ 60 * fu + 230 by omega⟩) hP hK hD hC hpp (c_hd (hh.2 27 (lt35 (by decide))) (cw_row (lt35 (by decide)))) rfl rfl hl.1 rfl (lv_room (Nat.le_of_ble_eq_true rfl)) dX6_runApply_60) hS hD hh hpp (fun r_25 S_26 H locs hw_27 hP hD hS hC hh hs_28 hpp => ?_)
      obtain ⟨hu9, hw_27⟩ := hw_27
      have hu9 := hu9.symm
      subst hu9
      refine lv_iconst (v := 2) hx hb dX6_runApply_63 (by decide) ?_
      refine lv_icmp_eq (tgt := 73) hx hb dX6_runApply_64 (by decide) (fun c_29 => ?_) (fun c_29 => ?_)
      · skip
        refine lv_aload_n hx hb dX6_runApply_73 rfl (lv_at hl 2 rfl) ?_
        refine va_get (D := gD G) (ci := 6) (v := .ref (kH S 28)) (C := RX6) (T := TX6) (N := 14) hx hb htu cu_in6 hown hK hP 5 cw_5 rfl 3 (by decide) (htu _ C_153) (fun _ h9 => h9) (c_hv (hh.2 28 (lt35 (by decide)))) dX6_runApply_74 ?_
        refine lv_iload hx hb dX6_runApply_77 (lv_at hl 1 rfl) ?_
        have hC0 := hC
        refine c_ci (c_runV (As := [.int r_5]) (rest := []) (q0 := (2 * 28 + 13)) (ci := 0) ⟨hx, hb, hml, hown, htu⟩ (c_getA l G S_18 28 (lt35 (by decide)) hC (kH S 28) (hh.2 28 (lt35 (by decide))) r_5 H) (cwV 1 htu hU_X6_131 rfl rfl rfl (by decide +kernel) ⟨show 0 + 1 ≤ 2 * fu + 7 by omega, show 8 + (2 + 11) + 0 ≤ 60 * fu + 230 by omega⟩) hP hK hD hC hpp (c_hd (hh.2 28 (lt35 (by decide))) (cw_row (lt35 (by decide)))) rfl rfl hl.1 rfl (lv_room (Nat.le_of_ble_eq_true rfl)) dX6_runApply_79) hS hD hh hpp (fun r_30 S_31 H locs hw_32 hP hD hS hC hh hs_33 hpp => ?_)
        obtain ⟨hu9, hw_32⟩ := hw_32
        have hu9 := hu9.symm
        subst hu9
        refine lv_istore (lv' := [(6, .int r_30), (5, .int r_17), (4, .int r_5), (0, .ref (ga G 5)), (1, .int n), (2, .int sg), (3, .int (nI dp))]) hx hb dX6_runApply_82 hl (by decide) rfl (fun ls hl => ?_)
        refine lv_aload_n hx hb dX6_runApply_84 rfl (lv_at hl 3 rfl) ?_
        refine lv_aload_n hx hb dX6_runApply_85 rfl (lv_at hl 3 rfl) ?_
        refine va_get (D := gD G) (ci := 6) (v := .ref (ga G 1)) (C := RX6) (T := TX6) (N := 14) hx hb htu cu_in6 hown hK hP 5 cw_5 rfl 0 (by decide) (htu _ C_162) (fun _ h9 => h9) rfl dX6_runApply_86 ?_
        refine lv_iload hx hb dX6_runApply_89 (lv_at hl 0 rfl) ?_
        have hC0 := hC
        refine c_ci (c_runV (As := [.int r_30]) (rest := [.ref (ga G 5)]) (q0 := 1) (ci := 3) ⟨hx, hb, hml, hown, htu⟩ (tt_markOf l G S_18 N r_30 hC tj_22.1 H) (cwV 1 htu hU_X6_94 rfl rfl rfl (by decide +kernel) ⟨show 1 + 1 ≤ 2 * fu + 7 by omega, show 8 + (2 + 11) + 21 ≤ 60 * fu + 230 by omega⟩) hP hK hD hC hpp cw_1 rfl rfl hl.1 rfl (lv_room (Nat.le_of_ble_eq_true rfl)) dX6_runApply_91) hS hD hh hpp (fun r_34 S_35 H locs hw_36 hP hD hS hC hh hs_37 hpp => ?_)
        obtain ⟨-, hu9, hw_36⟩ := hw_36
        have hu9 := hu9.symm
        subst hu9
        refine lv_iload hx hb dX6_runApply_94 (lv_at hl 1 rfl) ?_
        refine lv_bipush (v := (-9)) hx hb dX6_runApply_96 (by decide) ?_
        refine lv_aload_n hx hb dX6_runApply_98 rfl (lv_at hl 3 rfl) ?_
        refine va_get (D := gD G) (ci := 6) (v := .ref (kH S 29)) (C := RX6) (T := TX6) (N := 14) hx hb htu cu_in6 hown hK hP 5 cw_5 rfl 4 (by decide) (htu _ C_154) (fun _ h9 => h9) (c_hv (hh.2 29 (lt35 (by decide)))) dX6_runApply_99 ?_
        refine lv_iload hx hb dX6_runApply_102 (lv_at hl 2 rfl) ?_
        have hC0 := hC
        refine c_ci (c_runV (As := [.int r_5]) (rest := [.int ((-9)), .int r_17, .int r_34, .ref (ga G 5)]) (q0 := (2 * 29 + 13)) (ci := 0) ⟨hx, hb, hml, hown, htu⟩ (c_getA l G S_18 29 (lt35 (by decide)) hC (kH S 29) (hh.2 29 (lt35 (by decide))) r_5 H) (cwV 1 htu hU_X6_131 rfl rfl rfl (by decide +kernel) ⟨show 0 + 1 ≤ 2 * fu + 7 by omega, show 8 + (2 + 11) + 0 ≤ 60 * fu + 230 by omega⟩) hP hK hD hC hpp (c_hd (hh.2 29 (lt35 (by decide))) (cw_row (lt35 (by decide)))) rfl rfl hl.1 rfl (lv_room (Nat.le_of_ble_eq_true rfl)) dX6_runApply_104) hS hD hh hpp (fun r_38 S_39 H locs hw_40 hP hD hS hC hh hs_41 hpp => ?_)
        obtain ⟨hu9, hw_40⟩ := hw_40
        have hu9 := hu9.symm
        subst hu9
        have si_42l : wx_23s + 1 ≤ wx_23b := by omega
        have hC0 := hC
        refine c_ci (c_runV (As := [.int r_34, .int r_17, .int ((-9)), .int r_38]) (rest := []) (q0 := 5) (ci := 6) ⟨hx, hb, hml, hown, htu⟩ (w_addSight l G S_18 wx_23s r_34 r_17 ((-9)) r_38 hC wx_23.2.2.1.1 wx_23.2.2.1.2.1 wx_23.2.2.1.2.2.1 wx_23.2.2.1.2.2.2 ((sl3 wx_23 si_42l)) H) (cwV 4 htu hU_X6_137 rfl rfl rfl (by decide +kernel) ⟨show 3 + 1 ≤ 2 * fu + 7 by omega, show 8 + (5 + 11) + 103 ≤ 60 * fu + 230 by omega⟩) hP hK hD hC hpp cw_5 rfl rfl hl.1 rfl (lv_room (Nat.le_of_ble_eq_true rfl)) dX6_runApply_107) hS hD hh hpp (fun r_43 S_44 H locs hw_45 hP hD hS hC hh hs_46 hpp => ?_)
        try dsimp only at hw_45
        have aw_47 : AW [31, 32, 33, 34] [] S_18 S_44 := hw_45.1
        have aw_47t : AW [27, 28, 29, 30, 31, 32, 33, 34] [111, 112] S S_44 := aw_21t.tr (aw_47.mono (by decide) (by decide))
        have tj_48 : TJ S_44 N := TJ.aw tj_22 aw_47 (by decide)
        have si_42 := WR.sgt wx_23 aw_47 hw_45.2 si_42l
        refine lv_istore (lv' := [(7, .int r_43), (6, .int r_30), (5, .int r_17), (4, .int r_5), (0, .ref (ga G 5)), (1, .int n), (2, .int sg), (3, .int (nI dp))]) hx hb dX6_runApply_110 hl (by decide) rfl (fun ls hl => ?_)
        refine lv_aload_n hx hb dX6_runApply_112 rfl (lv_at hl 4 rfl) ?_
        refine lv_aload_n hx hb dX6_runApply_113 rfl (lv_at hl 4 rfl) ?_
        refine va_get (D := gD G) (ci := 6) (v := .ref (ga G 1)) (C := RX6) (T := TX6) (N := 14) hx hb htu cu_in6 hown hK hP 5 cw_5 rfl 0 (by decide) (htu _ C_162) (fun _ h9 => h9) rfl dX6_runApply_114 ?_
        refine lv_iload hx hb dX6_runApply_117 (lv_at hl 1 rfl) ?_
        refine lv_iconst (v := 0) hx hb dX6_runApply_119 (by decide) ?_
        have hC0 := hC
        refine c_ci (c_runV (As := [.int r_30, .int 0]) (rest := [.ref (ga G 5)]) (q0 := 1) (ci := 3) ⟨hx, hb, hml, hown, htu⟩ (tt_partOf l G S_44 N r_30 0 hC tj_48.1 H) (cwV 2 htu hU_X6_134 rfl rfl rfl (by decide +kernel) ⟨show 1 + 1 ≤ 2 * fu + 7 by omega, show 8 + (3 + 11) + 21 ≤ 60 * fu + 230 by omega⟩) hP hK hD hC hpp cw_1 rfl rfl hl.1 rfl (lv_room (Nat.le_of_ble_eq_true rfl)) dX6_runApply_120) hS hD hh hpp (fun r_49 S_50 H locs hw_51 hP hD hS hC hh hs_52 hpp => ?_)
        obtain ⟨-, hu9, hw_51⟩ := hw_51
        have hu9 := hu9.symm
        subst hu9
        refine lv_iload hx hb dX6_runApply_123 (lv_at hl 0 rfl) ?_
        refine lv_iload_n hx hb dX6_runApply_125 rfl (lv_at hl 7 rfl) ?_
        refine lv_iconst (v := 1) hx hb dX6_runApply_126 (by decide) ?_
        refine lv_iadd hx hb dX6_runApply_127 ?_
        refine m_top (y := nI (dp + 1)) (nI_add dp 1) ?_
        have hC0 := hC
        refine c_ci (c_runV (As := [.int r_49, .int r_43, .int (nI (dp + 1))]) (rest := []) (q0 := 5) (ci := 6) ⟨hx, hb, hml, hown, htu⟩ (ih l G S_44 al wx_23v ((wx_23s + 1)) wx_23f wx_23b N (dp + 1) r_49 r_43 hC si_42 tj_48 ((by omega)) H) (cwV 3 htu hU_X6_62 rfl rfl rfl (by decide +kernel) ⟨show (2 * fu + 6) + 1 ≤ 2 * fu + 7 by omega, show 8 + (4 + 11) + (60 * fu + 200) ≤ 60 * fu + 230 by omega⟩) hP hK hD hC hpp cw_5 rfl rfl hl.1 rfl (lv_room (Nat.le_of_ble_eq_true rfl)) dX6_runApply_128) hS hD hh hpp (fun r_53 S_54 H locs hw_55 hP hD hS hC hh hs_56 hpp => ?_)
        try dsimp only at hw_55
        have aw_57 : AW [27, 28, 29, 30, 31, 32, 33, 34] [111, 112] S_44 S_54 := hw_55.1
        have aw_57t : AW [27, 28, 29, 30, 31, 32, 33, 34] [111, 112] S S_54 := aw_47t.tr (aw_57.mono (by decide) (by decide))
        have tj_58 : TJ S_54 N := TJ.aw tj_48 aw_57 (by decide)
        have wx_59x := hw_55.2
        obtain ⟨wx_59v, wx_59s, wx_59f, wx_59b, wx_59, wx_591, wx_592, wx_593, wx_594⟩ := id wx_59x
        exact c_iret (v := r_53) hx hb hr hK hP hD hS hC hh hpp ⟨aw_57t, (wx_59.x (by omega))⟩ dX6_runApply_131 hlocks
      · skip
        refine lv_aload_n hx hb dX6_runApply_67 rfl (lv_at hl 2 rfl) ?_
        refine lv_iload_n hx hb dX6_runApply_68 rfl (lv_at hl 3 rfl) ?_
        have hC0 := hC
        refine c_ci (c_runV (As := [.int n]) (rest := []) (q0 := 5) (ci := 6) ⟨hx, hb, hml, hown, htu⟩ (w_stuckAt l G S_18 n hC  H) (cwV 1 htu hU_X6_128 rfl rfl rfl (by decide +kernel) ⟨show 0 + 1 ≤ 2 * fu + 7 by omega, show 8 + (2 + 11) + 0 ≤ 60 * fu + 230 by omega⟩) hP hK hD hC hpp cw_5 rfl rfl hl.1 rfl (lv_room (Nat.le_of_ble_eq_true rfl)) dX6_runApply_69) hS hD hh hpp (fun r_60 S_61 H locs hw_62 hP hD hS hC hh hs_63 hpp => ?_)
        try dsimp only at hw_62
        have aw_64 : AW [] [112] S_18 S_61 := hw_62.1
        have aw_64t : AW [27, 28, 29, 30, 31, 32, 33, 34] [111, 112] S S_61 := aw_21t.tr (aw_64.mono (by decide) (by decide))
        have tj_65 : TJ S_61 N := TJ.aw tj_22 aw_64 (by decide)
        have sk_66 := WR.aw wx_23 aw_64 (by decide) (by decide)
        exact c_iret (v := r_60) hx hb hr hK hP hD hS hC hh hpp ⟨aw_64t, (sk_66.x (by omega))⟩ dX6_runApply_72 hlocks
    · skip
      refine lv_iload hx hb dX6_runApply_51 (lv_at hl 0 rfl) ?_
      exact c_iret (v := r_17) hx hb hr hK hP hD hS hC hh hpp ⟨aw_21t, (wx_23.x (by omega))⟩ dX6_runApply_53 hlocks
  · skip
    refine lv_iload hx hb dX6_runApply_24 (lv_at hl 0 rfl) ?_
    exact c_iret (v := r_5) hx hb hr hK hP hD hS hC hh hpp ⟨aw_9t, (wx_11.x (by omega))⟩ dX6_runApply_26 hlocks

set_option maxHeartbeats 4000000 in
set_option maxRecDepth 100000 in
/-- runRecord -/
theorem w_runRecord (l : Launch) (G : cG) (S : cS) (fu : Nat) (al : Nat) (v9 : Nat) (s9 : Nat) (f9 : Nat) (bg : Nat) (N : Nat) (dp : Nat) (n : Int32) (sg : Int32) (hC : CL S) (ih : cRunAt fu) (hW : WR S al v9 s9 f9 bg) (hT : TJ S N) (hdp : dp + (fu + 1) = 61) (hc : v9 + 1 ≤ bg ∧ s9 + 1 ≤ bg ∧ f9 + 6 ≤ 6 * bg) (Hs : Heap) : Met l yX6_runRecord (wC yX6_runRecord cX6_runRecord 8 (some .int)) (cRm S (2 * fu + 7) (60 * fu + 230)) (cPc G S Hs [.ref (ga G 5), .int n, .int sg, .int (nI dp)]) (cQi G S Hs (fun v u => AW [27, 28, 29, 30, 31, 32, 33, 34] [111, 112] S u ∧ (WX u al v9 s9 f9 bg 1))) (CC - PT S) (12 * (CC - PT S)) (cA G S Hs.size) := by
  refine Met.ofW (cc := cX6_runRecord) (maxL := 8) (ret := (some .int)) (by decide) rfl ?_
  intro p e s m args below meth c s₁ B hml hv
  obtain ⟨rfl, hsz, hP, hK, hD0, -⟩ := hv
  have hx := B.exec
  have hb := B.bytes
  have hr := B.returns
  have htu : ∀ w ∈ CU, w.before _ s = true := fun w h => atoms_spec (ws := (wC yX6_runRecord cX6_runRecord 8 (some .int))) B.pre w (List.mem_cons_of_mem _ h)
  have hown : s.vm.findClass RX6 = some m.cls := findClass_of_methodNamed B.named
  have hlocks := B.notSynchronized
  subst hsz
  have hD : cD (cA G S s.heap.size) G S := cD_self hD0
  have hl := lv_entry ([.ref (ga G 5), .int n, .int sg, .int (nI dp)]) (n := 8) (Nat.le_of_ble_eq_true rfl)
  rw [lg_entry_eq]
  generalize (lg_sl ([.ref (ga G 5), .int n, .int sg, .int (nI dp)]) ++ List.replicate (8 - (lg_sl ([.ref (ga G 5), .int n, .int sg, .int (nI dp)])).length) Slot.unset).toArray = ls at hl ⊢
  have hl : lv_has ls 8 [(0, .ref (ga G 5)), (1, .int n), (2, .int sg), (3, .int (nI dp))] := hl
  obtain ⟨H, hHe⟩ : ∃ H : Heap, H = s.heap := ⟨_, rfl⟩
  rw [← hHe] at hP
  have hS : va_S (cA G S s.heap.size) s.heap H [] := by rw [hHe]; exact va_S.rf
  have hh : HS S S := HS.rf
  have hpp : PT S ≤ PT S := Nat.le_refl _
  have hB9 := hC.1
  refine W.heq hHe ?_
  refine c_ent (S := S) ?_
  obtain ⟨hc1, hc2, hc3⟩ := id hc
  refine lv_aload_n hx hb dX6_runRecord_0 rfl (lv_at hl 0 rfl) ?_
  refine va_get (D := gD G) (ci := 6) (v := .ref (kH S 30)) (C := RX6) (T := TX6) (N := 14) hx hb htu cu_in6 hown hK hP 5 cw_5 rfl 5 (by decide) (htu _ C_155) (fun _ h9 => h9) rfl dX6_runRecord_1 ?_
  refine va_get (D := gD G) (ci := 0) (v := .int (nI f9)) (C := RX0) (T := TX0) (N := 2) hx hb htu cu_in0 hown hK hP (2 * 30 + 13) (c_hd rfl (cw_row (lt35 (by decide)))) rfl 1 (by decide) (htu _ C_556) (fun _ h9 => h9) (m_v (congrArg nI hW.2.1)) dX6_runRecord_4 ?_
  refine lv_istore (lv' := [(4, .int (nI f9)), (0, .ref (ga G 5)), (1, .int n), (2, .int sg), (3, .int (nI dp))]) hx hb dX6_runRecord_7 hl (by decide) rfl (fun ls hl => ?_)
  refine lv_aload_n hx hb dX6_runRecord_9 rfl (lv_at hl 1 rfl) ?_
  refine va_get (D := gD G) (ci := 6) (v := .ref (ga G 1)) (C := RX6) (T := TX6) (N := 14) hx hb htu cu_in6 hown hK hP 5 cw_5 rfl 0 (by decide) (htu _ C_162) (fun _ h9 => h9) rfl dX6_runRecord_10 ?_
  refine lv_iload_n hx hb dX6_runRecord_13 rfl (lv_at hl 2 rfl) ?_
  have hC0 := hC
  refine c_ci (c_runV (As := [.int n]) (rest := []) (q0 := 1) (ci := 3) ⟨hx, hb, hml, hown, htu⟩ (tt_partCount l G S N n hC hT.1 H) (cwV 1 htu hU_X6_141 rfl rfl rfl (by decide +kernel) ⟨show 1 + 1 ≤ 2 * fu + 7 by omega, show 8 + (2 + 11) + 21 ≤ 60 * fu + 230 by omega⟩) hP hK hD hC hpp cw_1 rfl rfl hl.1 rfl (lv_room (Nat.le_of_ble_eq_true rfl)) dX6_runRecord_14) hS hD hh hpp (fun r_1 S_2 H locs hw_3 hP hD hS hC hh hs_4 hpp => ?_)
  obtain ⟨-, hu9, hw_3⟩ := hw_3
  have hu9 := hu9.symm
  subst hu9
  have pc_5 : r_1 ≤ 6 := by rw [hw_3]; exact hT.pc _
  refine lv_istore (lv' := [(5, .int r_1), (4, .int (nI f9)), (0, .ref (ga G 5)), (1, .int n), (2, .int sg), (3, .int (nI dp))]) hx hb dX6_runRecord_17 hl (by decide) rfl (fun ls hl => ?_)
  refine lv_iconst (v := 0) hx hb dX6_runRecord_19 (by decide) ?_
  refine lv_istore (lv' := [(6, .int 0), (5, .int r_1), (4, .int (nI f9)), (0, .ref (ga G 5)), (1, .int n), (2, .int sg), (3, .int (nI dp))]) hx hb dX6_runRecord_20 hl (by decide) rfl (fun ls hl => ?_)
  refine w_loop (fun j H locs k sl g => ∃ (S1 : cS) (i : Nat) (ls : Array Slot), CL S1 ∧ HS S S1 ∧ PT S ≤ PT S1 ∧ AW [27, 28, 29, 30, 31, 32, 33, 34] [111, 112] S S1 ∧ i + j = 6 ∧ WR S1 al v9 s9 (f9 + i) bg ∧ k = PT S1 - PT S ∧ sl = 12 * (PT S1 - PT S) ∧ cP G S1 H ∧ cD (cA G S s.heap.size) G S1 ∧ va_S (cA G S s.heap.size) s.heap H locs ∧ lv_has ls 8 [(0, .ref (ga G 5)), (1, .int n), (2, .int sg), (3, .int (nI dp)), (4, .int (nI f9)), (5, .int r_1), (6, .int (nI i))] ∧ g = F0 m 22 ls []) ?_ ?_ 6 _ _ _ _ _ ⟨S, 0, ls, hC, hh, hpp, AW.rf, by omega, hW, rfl, rfl, hP, hD, hS, lv_sub hl [3, 4, 5, 6, 2, 1, 0] rfl, rfl⟩
  · intro H locs k sl g hI
    obtain ⟨S1, i, ls, hC, hh, hpp, hAW, hp0, hp1, rfl, rfl, hP, hD, hS, hl, rfl⟩ := hI
    have tj1 : TJ S1 N := TJ.aw hT hAW (by decide)
    have hi6 : i ≤ 6 := by omega
    refine lv_iload hx hb dX6_runRecord_22 (lv_at hl 6 rfl) ?_
    refine lv_iload hx hb dX6_runRecord_24 (lv_at hl 5 rfl) ?_
    refine lv_icmp_ge (tgt := 44) hx hb dX6_runRecord_26 (by decide) (fun c_6 => ?_) (fun c_6 => absurd (Int32.le_trans pc_5 (show (6 : Int32) ≤ nI i by rw [show i = 6 by omega]; decide)) c_6)
    refine lv_iconst (v := 0) hx hb dX6_runRecord_44 (by decide) ?_
    refine lv_istore (lv' := [(6, .int 0), (0, .ref (ga G 5)), (1, .int n), (2, .int sg), (3, .int (nI dp)), (4, .int (nI f9)), (5, .int r_1)]) hx hb dX6_runRecord_45 hl (by decide) rfl (fun ls hl => ?_)
    refine w_loop (fun j H locs k sl g => ∃ (S2 : cS) (v1 : Nat) (s1 : Nat) (f1 : Nat) (b1 : Nat) (i7 : Nat) (ls : Array Slot), CL S2 ∧ HS S S2 ∧ PT S ≤ PT S2 ∧ AW [27, 28, 29, 30, 31, 32, 33, 34] [111, 112] S S2 ∧ i7 + j = 6 ∧ WR S2 al v1 s1 f1 b1 ∧ (bg ≤ b1 ∧ v1 + bg ≤ v9 + b1 ∧ s1 + bg ≤ s9 + b1 ∧ f1 + 6 * bg ≤ f9 + 6 + 6 * b1) ∧ k = PT S2 - PT S ∧ sl = 12 * (PT S2 - PT S) ∧ cP G S2 H ∧ cD (cA G S s.heap.size) G S2 ∧ va_S (cA G S s.heap.size) s.heap H locs ∧ lv_has ls 8 [(0, .ref (ga G 5)), (1, .int n), (2, .int sg), (3, .int (nI dp)), (4, .int (nI f9)), (5, .int r_1), (6, .int (nI i7))] ∧ g = F0 m 47 ls []) ?_ ?_ 6 _ _ _ _ _ ⟨S1, v9, s9, (f9 + i), bg, 0, ls, hC, hh, hpp, hAW, by omega, hp1, by omega, rfl, rfl, hP, hD, hS, lv_sub hl [1, 2, 3, 4, 5, 6, 0] rfl, rfl⟩
    · intro H locs k sl g hI
      obtain ⟨S2, v1, s1, f1, b1, i7, ls, hC, hh, hpp, hAW, hq0, hq1, hq2, rfl, rfl, hP, hD, hS, hl, rfl⟩ := hI
      have tj2 : TJ S2 N := TJ.aw hT hAW (by decide)
      obtain ⟨y1, y2, y3, y4⟩ := hq2
      refine lv_iload hx hb dX6_runRecord_47 (lv_at hl 6 rfl) ?_
      refine lv_iload hx hb dX6_runRecord_49 (lv_at hl 5 rfl) ?_
      refine lv_icmp_ge (tgt := 102) hx hb dX6_runRecord_51 (by decide) (fun c_7 => ?_) (fun c_7 => absurd (Int32.le_trans pc_5 (show (6 : Int32) ≤ nI i7 by rw [show i7 = 6 by omega]; decide)) c_7)
      refine lv_aload_n hx hb dX6_runRecord_102 rfl (lv_at hl 0 rfl) ?_
      refine lv_iconst (v := 3) hx hb dX6_runRecord_103 (by decide) ?_
      refine lv_iload_n hx hb dX6_runRecord_104 rfl (lv_at hl 1 rfl) ?_
      refine lv_iload hx hb dX6_runRecord_105 (lv_at hl 4 rfl) ?_
      have va_8l : v1 + 1 ≤ b1 := by omega
      have hC0 := hC
      refine c_ci (c_runV (As := [.int 3, .int n, .int (nI f9)]) (rest := []) (q0 := 5) (ci := 6) ⟨hx, hb, hml, hown, htu⟩ (w_addValue l G S2 v1 3 n (nI f9) hC hq1.1.1 hq1.1.2.1 hq1.1.2.2 ((vl3 hq1 va_8l)) H) (cwV 3 htu hU_X6_97 rfl rfl rfl (by decide +kernel) ⟨show 3 + 1 ≤ 2 * fu + 7 by omega, show 8 + (4 + 11) + 103 ≤ 60 * fu + 230 by omega⟩) hP hK hD hC hpp cw_5 rfl rfl hl.1 rfl (lv_room (Nat.le_of_ble_eq_true rfl)) dX6_runRecord_107) hS hD hh hpp (fun r_9 S_10 H locs hw_11 hP hD hS hC hh hs_12 hpp => ?_)
      try dsimp only at hw_11
      have aw_13 : AW [27, 28, 29] [] S2 S_10 := hw_11.1
      have aw_13t : AW [27, 28, 29, 30, 31, 32, 33, 34] [111, 112] S S_10 := hAW.tr (aw_13.mono (by decide) (by decide))
      have kk_14 : kK S_10 30 = f1 := (aw_13.2.1 30 (lt35 (by decide)) (by decide)).2.trans hq1.2.1
      have tj_15 : TJ S_10 N := TJ.aw tj2 aw_13 (by decide)
      have va_8 := WR.val hq1 aw_13 hw_11.2 va_8l
      exact c_iret (v := r_9) hx hb hr hK hP hD hS hC hh hpp ⟨aw_13t, (va_8.x (by omega))⟩ dX6_runRecord_110 hlocks
    · intro j ih8 H locs k sl g hI
      obtain ⟨S2, v1, s1, f1, b1, i7, ls, hC, hh, hpp, hAW, hq0, hq1, hq2, rfl, rfl, hP, hD, hS, hl, rfl⟩ := hI
      have tj2 : TJ S2 N := TJ.aw hT hAW (by decide)
      obtain ⟨y1, y2, y3, y4⟩ := hq2
      refine lv_iload hx hb dX6_runRecord_47 (lv_at hl 6 rfl) ?_
      refine lv_iload hx hb dX6_runRecord_49 (lv_at hl 5 rfl) ?_
      refine lv_icmp_ge (tgt := 102) hx hb dX6_runRecord_51 (by decide) (fun c_16 => ?_) (fun c_16 => ?_)
      · skip
        refine lv_aload_n hx hb dX6_runRecord_102 rfl (lv_at hl 0 rfl) ?_
        refine lv_iconst (v := 3) hx hb dX6_runRecord_103 (by decide) ?_
        refine lv_iload_n hx hb dX6_runRecord_104 rfl (lv_at hl 1 rfl) ?_
        refine lv_iload hx hb dX6_runRecord_105 (lv_at hl 4 rfl) ?_
        have va_17l : v1 + 1 ≤ b1 := by omega
        have hC0 := hC
        refine c_ci (c_runV (As := [.int 3, .int n, .int (nI f9)]) (rest := []) (q0 := 5) (ci := 6) ⟨hx, hb, hml, hown, htu⟩ (w_addValue l G S2 v1 3 n (nI f9) hC hq1.1.1 hq1.1.2.1 hq1.1.2.2 ((vl3 hq1 va_17l)) H) (cwV 3 htu hU_X6_97 rfl rfl rfl (by decide +kernel) ⟨show 3 + 1 ≤ 2 * fu + 7 by omega, show 8 + (4 + 11) + 103 ≤ 60 * fu + 230 by omega⟩) hP hK hD hC hpp cw_5 rfl rfl hl.1 rfl (lv_room (Nat.le_of_ble_eq_true rfl)) dX6_runRecord_107) hS hD hh hpp (fun r_18 S_19 H locs hw_20 hP hD hS hC hh hs_21 hpp => ?_)
        try dsimp only at hw_20
        have aw_22 : AW [27, 28, 29] [] S2 S_19 := hw_20.1
        have aw_22t : AW [27, 28, 29, 30, 31, 32, 33, 34] [111, 112] S S_19 := hAW.tr (aw_22.mono (by decide) (by decide))
        have kk_23 : kK S_19 30 = f1 := (aw_22.2.1 30 (lt35 (by decide)) (by decide)).2.trans hq1.2.1
        have tj_24 : TJ S_19 N := TJ.aw tj2 aw_22 (by decide)
        have va_17 := WR.val hq1 aw_22 hw_20.2 va_17l
        exact c_iret (v := r_18) hx hb hr hK hP hD hS hC hh hpp ⟨aw_22t, (va_17.x (by omega))⟩ dX6_runRecord_110 hlocks
      · skip
        refine lv_aload_n hx hb dX6_runRecord_54 rfl (lv_at hl 0 rfl) ?_
        refine lv_aload_n hx hb dX6_runRecord_55 rfl (lv_at hl 0 rfl) ?_
        refine va_get (D := gD G) (ci := 6) (v := .ref (ga G 1)) (C := RX6) (T := TX6) (N := 14) hx hb htu cu_in6 hown hK hP 5 cw_5 rfl 0 (by decide) (htu _ C_162) (fun _ h9 => h9) rfl dX6_runRecord_56 ?_
        refine lv_iload_n hx hb dX6_runRecord_59 rfl (lv_at hl 1 rfl) ?_
        refine lv_iload hx hb dX6_runRecord_60 (lv_at hl 6 rfl) ?_
        have hC0 := hC
        refine c_ci (c_runV (As := [.int n, .int (nI i7)]) (rest := [.ref (ga G 5)]) (q0 := 1) (ci := 3) ⟨hx, hb, hml, hown, htu⟩ (tt_partOf l G S2 N n (nI i7) hC tj2.1 H) (cwV 2 htu hU_X6_134 rfl rfl rfl (by decide +kernel) ⟨show 1 + 1 ≤ 2 * fu + 7 by omega, show 8 + (3 + 11) + 21 ≤ 60 * fu + 230 by omega⟩) hP hK hD hC hpp cw_1 rfl rfl hl.1 rfl (lv_room (Nat.le_of_ble_eq_true rfl)) dX6_runRecord_62) hS hD hh hpp (fun r_25 S_26 H locs hw_27 hP hD hS hC hh hs_28 hpp => ?_)
        obtain ⟨-, hu9, hw_27⟩ := hw_27
        have hu9 := hu9.symm
        subst hu9
        refine lv_iload_n hx hb dX6_runRecord_65 rfl (lv_at hl 2 rfl) ?_
        refine lv_iload_n hx hb dX6_runRecord_66 rfl (lv_at hl 3 rfl) ?_
        refine lv_iconst (v := 1) hx hb dX6_runRecord_67 (by decide) ?_
        refine lv_iadd hx hb dX6_runRecord_68 ?_
        refine m_top (y := nI (dp + 1)) (nI_add dp 1) ?_
        have hC0 := hC
        refine c_ci (c_runV (As := [.int r_25, .int sg, .int (nI (dp + 1))]) (rest := []) (q0 := 5) (ci := 6) ⟨hx, hb, hml, hown, htu⟩ (ih l G S2 al v1 s1 f1 b1 N (dp + 1) r_25 sg hC hq1 tj2 ((by omega)) H) (cwV 3 htu hU_X6_62 rfl rfl rfl (by decide +kernel) ⟨show (2 * fu + 6) + 1 ≤ 2 * fu + 7 by omega, show 8 + (4 + 11) + (60 * fu + 200) ≤ 60 * fu + 230 by omega⟩) hP hK hD hC hpp cw_5 rfl rfl hl.1 rfl (lv_room (Nat.le_of_ble_eq_true rfl)) dX6_runRecord_69) hS hD hh hpp (fun r_29 S_30 H locs hw_31 hP hD hS hC hh hs_32 hpp => ?_)
        try dsimp only at hw_31
        have aw_33 : AW [27, 28, 29, 30, 31, 32, 33, 34] [111, 112] S2 S_30 := hw_31.1
        have aw_33t : AW [27, 28, 29, 30, 31, 32, 33, 34] [111, 112] S S_30 := hAW.tr (aw_33.mono (by decide) (by decide))
        have tj_34 : TJ S_30 N := TJ.aw tj2 aw_33 (by decide)
        have wx_35x := hw_31.2
        obtain ⟨wx_35v, wx_35s, wx_35f, wx_35b, wx_35, wx_351, wx_352, wx_353, wx_354⟩ := id wx_35x
        refine lv_istore (lv' := [(7, .int r_29), (0, .ref (ga G 5)), (1, .int n), (2, .int sg), (3, .int (nI dp)), (4, .int (nI f9)), (5, .int r_1), (6, .int (nI i7))]) hx hb dX6_runRecord_72 hl (by decide) rfl (fun ls hl => ?_)
        refine lv_iload hx hb dX6_runRecord_74 (lv_at hl 0 rfl) ?_
        refine lv_if_ge (tgt := 82) hx hb dX6_runRecord_76 (by decide) (fun c_36 => ?_) (fun c_36 => ?_)
        · skip
          refine lv_aload_n hx hb dX6_runRecord_82 rfl (lv_at hl 1 rfl) ?_
          refine va_get (D := gD G) (ci := 6) (v := .ref (kH S 30)) (C := RX6) (T := TX6) (N := 14) hx hb htu cu_in6 hown hK hP 5 cw_5 rfl 5 (by decide) (htu _ C_155) (fun _ h9 => h9) (c_hv (hh.2 30 (lt35 (by decide)))) dX6_runRecord_83 ?_
          refine lv_iload hx hb dX6_runRecord_86 (lv_at hl 5 rfl) ?_
          refine lv_iload hx hb dX6_runRecord_88 (lv_at hl 7 rfl) ?_
          refine lv_iadd hx hb dX6_runRecord_90 ?_
          refine m_top (y := nI (f9 + i7)) (nI_add f9 i7) ?_
          refine lv_iload hx hb dX6_runRecord_91 (lv_at hl 0 rfl) ?_
          have hC0 := hC
          refine c_cv (c_runV (As := [.int (nI (f9 + i7)), .int r_29]) (rest := []) (q0 := (2 * 30 + 13)) (ci := 0) ⟨hx, hb, hml, hown, htu⟩ (c_setA l G S_30 30 (lt35 (by decide)) hC (kH S 30) (hh.2 30 (lt35 (by decide))) (nI (f9 + i7)) r_29 H) (cwV 2 htu hU_X6_144 rfl rfl rfl (by decide +kernel) ⟨show 0 + 1 ≤ 2 * fu + 7 by omega, show 8 + (3 + 11) + 0 ≤ 60 * fu + 230 by omega⟩) hP hK hD hC hpp (c_hd (hh.2 30 (lt35 (by decide))) (cw_row (lt35 (by decide)))) rfl rfl hl.1 rfl (lv_room (Nat.le_of_ble_eq_true rfl)) dX6_runRecord_93) hS hD hh hpp (fun S_38 H locs hw_39 hP hD hS hC hh hs_40 hpp => ?_)
          try dsimp only at hw_39
          have aw_41 : AW [30] [] S_30 S_38 := (by rw [hw_39]; exact AW.u (by decide))
          have aw_41t : AW [27, 28, 29, 30, 31, 32, 33, 34] [111, 112] S S_38 := aw_33t.tr (aw_41.mono (by decide) (by decide))
          have tj_42 : TJ S_38 N := TJ.aw tj_34 aw_41 (by decide)
          have kk_43 : kK S_38 30 = wx_35f := by rw [hw_39]; exact uR_K.trans wx_35.2.1
          have wf_44 := WR.fld wx_35 aw_41 kk_43 wx_35.2.2.2.2.2.2.2.2.2
          refine lv_iinc (v := nI (i7 + 1)) (lv' := [(6, .int (nI (i7 + 1))), (7, .int r_29), (0, .ref (ga G 5)), (1, .int n), (2, .int sg), (3, .int (nI dp)), (4, .int (nI f9)), (5, .int r_1)]) hx hb dX6_runRecord_96 hl (k := 7) rfl (nI_1 i7) (by decide) rfl (fun ls hl => ?_)
          refine lv_goto (tgt := 47) hx hb dX6_runRecord_99 (by decide) ?_
          exact ih8 _ _ _ _ _ ⟨S_38, wx_35v, wx_35s, wx_35f, wx_35b, i7 + 1, ls, hC, hh, hpp, aw_41t, by omega, wf_44, by omega, rfl, rfl, hP, hD, hS, lv_sub hl [2, 3, 4, 5, 6, 7, 0] rfl, rfl⟩
        · skip
          refine lv_iload hx hb dX6_runRecord_79 (lv_at hl 0 rfl) ?_
          exact c_iret (v := r_29) hx hb hr hK hP hD hS hC hh hpp ⟨aw_33t, (wx_35.x (by omega))⟩ dX6_runRecord_81 hlocks
  · intro j ih9 H locs k sl g hI
    obtain ⟨S1, i, ls, hC, hh, hpp, hAW, hp0, hp1, rfl, rfl, hP, hD, hS, hl, rfl⟩ := hI
    have tj1 : TJ S1 N := TJ.aw hT hAW (by decide)
    have hi6 : i ≤ 6 := by omega
    have i5 : i ≤ 5 := by omega
    refine lv_iload hx hb dX6_runRecord_22 (lv_at hl 6 rfl) ?_
    refine lv_iload hx hb dX6_runRecord_24 (lv_at hl 5 rfl) ?_
    refine lv_icmp_ge (tgt := 44) hx hb dX6_runRecord_26 (by decide) (fun c_45 => ?_) (fun c_45 => ?_)
    · skip
      refine lv_iconst (v := 0) hx hb dX6_runRecord_44 (by decide) ?_
      refine lv_istore (lv' := [(6, .int 0), (0, .ref (ga G 5)), (1, .int n), (2, .int sg), (3, .int (nI dp)), (4, .int (nI f9)), (5, .int r_1)]) hx hb dX6_runRecord_45 hl (by decide) rfl (fun ls hl => ?_)
      refine w_loop (fun j H locs k sl g => ∃ (S2 : cS) (v1 : Nat) (s1 : Nat) (f1 : Nat) (b1 : Nat) (i7 : Nat) (ls : Array Slot), CL S2 ∧ HS S S2 ∧ PT S ≤ PT S2 ∧ AW [27, 28, 29, 30, 31, 32, 33, 34] [111, 112] S S2 ∧ i7 + j = 6 ∧ WR S2 al v1 s1 f1 b1 ∧ (bg ≤ b1 ∧ v1 + bg ≤ v9 + b1 ∧ s1 + bg ≤ s9 + b1 ∧ f1 + 6 * bg ≤ f9 + 6 + 6 * b1) ∧ k = PT S2 - PT S ∧ sl = 12 * (PT S2 - PT S) ∧ cP G S2 H ∧ cD (cA G S s.heap.size) G S2 ∧ va_S (cA G S s.heap.size) s.heap H locs ∧ lv_has ls 8 [(0, .ref (ga G 5)), (1, .int n), (2, .int sg), (3, .int (nI dp)), (4, .int (nI f9)), (5, .int r_1), (6, .int (nI i7))] ∧ g = F0 m 47 ls []) ?_ ?_ 6 _ _ _ _ _ ⟨S1, v9, s9, (f9 + i), bg, 0, ls, hC, hh, hpp, hAW, by omega, hp1, by omega, rfl, rfl, hP, hD, hS, lv_sub hl [1, 2, 3, 4, 5, 6, 0] rfl, rfl⟩
      · intro H locs k sl g hI
        obtain ⟨S2, v1, s1, f1, b1, i7, ls, hC, hh, hpp, hAW, hq0, hq1, hq2, rfl, rfl, hP, hD, hS, hl, rfl⟩ := hI
        have tj2 : TJ S2 N := TJ.aw hT hAW (by decide)
        obtain ⟨y1, y2, y3, y4⟩ := hq2
        refine lv_iload hx hb dX6_runRecord_47 (lv_at hl 6 rfl) ?_
        refine lv_iload hx hb dX6_runRecord_49 (lv_at hl 5 rfl) ?_
        refine lv_icmp_ge (tgt := 102) hx hb dX6_runRecord_51 (by decide) (fun c_46 => ?_) (fun c_46 => absurd (Int32.le_trans pc_5 (show (6 : Int32) ≤ nI i7 by rw [show i7 = 6 by omega]; decide)) c_46)
        refine lv_aload_n hx hb dX6_runRecord_102 rfl (lv_at hl 0 rfl) ?_
        refine lv_iconst (v := 3) hx hb dX6_runRecord_103 (by decide) ?_
        refine lv_iload_n hx hb dX6_runRecord_104 rfl (lv_at hl 1 rfl) ?_
        refine lv_iload hx hb dX6_runRecord_105 (lv_at hl 4 rfl) ?_
        have va_47l : v1 + 1 ≤ b1 := by omega
        have hC0 := hC
        refine c_ci (c_runV (As := [.int 3, .int n, .int (nI f9)]) (rest := []) (q0 := 5) (ci := 6) ⟨hx, hb, hml, hown, htu⟩ (w_addValue l G S2 v1 3 n (nI f9) hC hq1.1.1 hq1.1.2.1 hq1.1.2.2 ((vl3 hq1 va_47l)) H) (cwV 3 htu hU_X6_97 rfl rfl rfl (by decide +kernel) ⟨show 3 + 1 ≤ 2 * fu + 7 by omega, show 8 + (4 + 11) + 103 ≤ 60 * fu + 230 by omega⟩) hP hK hD hC hpp cw_5 rfl rfl hl.1 rfl (lv_room (Nat.le_of_ble_eq_true rfl)) dX6_runRecord_107) hS hD hh hpp (fun r_48 S_49 H locs hw_50 hP hD hS hC hh hs_51 hpp => ?_)
        try dsimp only at hw_50
        have aw_52 : AW [27, 28, 29] [] S2 S_49 := hw_50.1
        have aw_52t : AW [27, 28, 29, 30, 31, 32, 33, 34] [111, 112] S S_49 := hAW.tr (aw_52.mono (by decide) (by decide))
        have kk_53 : kK S_49 30 = f1 := (aw_52.2.1 30 (lt35 (by decide)) (by decide)).2.trans hq1.2.1
        have tj_54 : TJ S_49 N := TJ.aw tj2 aw_52 (by decide)
        have va_47 := WR.val hq1 aw_52 hw_50.2 va_47l
        exact c_iret (v := r_48) hx hb hr hK hP hD hS hC hh hpp ⟨aw_52t, (va_47.x (by omega))⟩ dX6_runRecord_110 hlocks
      · intro j ih8 H locs k sl g hI
        obtain ⟨S2, v1, s1, f1, b1, i7, ls, hC, hh, hpp, hAW, hq0, hq1, hq2, rfl, rfl, hP, hD, hS, hl, rfl⟩ := hI
        have tj2 : TJ S2 N := TJ.aw hT hAW (by decide)
        obtain ⟨y1, y2, y3, y4⟩ := hq2
        refine lv_iload hx hb dX6_runRecord_47 (lv_at hl 6 rfl) ?_
        refine lv_iload hx hb dX6_runRecord_49 (lv_at hl 5 rfl) ?_
        refine lv_icmp_ge (tgt := 102) hx hb dX6_runRecord_51 (by decide) (fun c_55 => ?_) (fun c_55 => ?_)
        · skip
          refine lv_aload_n hx hb dX6_runRecord_102 rfl (lv_at hl 0 rfl) ?_
          refine lv_iconst (v := 3) hx hb dX6_runRecord_103 (by decide) ?_
          refine lv_iload_n hx hb dX6_runRecord_104 rfl (lv_at hl 1 rfl) ?_
          refine lv_iload hx hb dX6_runRecord_105 (lv_at hl 4 rfl) ?_
          have va_56l : v1 + 1 ≤ b1 := by omega
          have hC0 := hC
          refine c_ci (c_runV (As := [.int 3, .int n, .int (nI f9)]) (rest := []) (q0 := 5) (ci := 6) ⟨hx, hb, hml, hown, htu⟩ (w_addValue l G S2 v1 3 n (nI f9) hC hq1.1.1 hq1.1.2.1 hq1.1.2.2 ((vl3 hq1 va_56l)) H) (cwV 3 htu hU_X6_97 rfl rfl rfl (by decide +kernel) ⟨show 3 + 1 ≤ 2 * fu + 7 by omega, show 8 + (4 + 11) + 103 ≤ 60 * fu + 230 by omega⟩) hP hK hD hC hpp cw_5 rfl rfl hl.1 rfl (lv_room (Nat.le_of_ble_eq_true rfl)) dX6_runRecord_107) hS hD hh hpp (fun r_57 S_58 H locs hw_59 hP hD hS hC hh hs_60 hpp => ?_)
          try dsimp only at hw_59
          have aw_61 : AW [27, 28, 29] [] S2 S_58 := hw_59.1
          have aw_61t : AW [27, 28, 29, 30, 31, 32, 33, 34] [111, 112] S S_58 := hAW.tr (aw_61.mono (by decide) (by decide))
          have kk_62 : kK S_58 30 = f1 := (aw_61.2.1 30 (lt35 (by decide)) (by decide)).2.trans hq1.2.1
          have tj_63 : TJ S_58 N := TJ.aw tj2 aw_61 (by decide)
          have va_56 := WR.val hq1 aw_61 hw_59.2 va_56l
          exact c_iret (v := r_57) hx hb hr hK hP hD hS hC hh hpp ⟨aw_61t, (va_56.x (by omega))⟩ dX6_runRecord_110 hlocks
        · skip
          refine lv_aload_n hx hb dX6_runRecord_54 rfl (lv_at hl 0 rfl) ?_
          refine lv_aload_n hx hb dX6_runRecord_55 rfl (lv_at hl 0 rfl) ?_
          refine va_get (D := gD G) (ci := 6) (v := .ref (ga G 1)) (C := RX6) (T := TX6) (N := 14) hx hb htu cu_in6 hown hK hP 5 cw_5 rfl 0 (by decide) (htu _ C_162) (fun _ h9 => h9) rfl dX6_runRecord_56 ?_
          refine lv_iload_n hx hb dX6_runRecord_59 rfl (lv_at hl 1 rfl) ?_
          refine lv_iload hx hb dX6_runRecord_60 (lv_at hl 6 rfl) ?_
          have hC0 := hC
          refine c_ci (c_runV (As := [.int n, .int (nI i7)]) (rest := [.ref (ga G 5)]) (q0 := 1) (ci := 3) ⟨hx, hb, hml, hown, htu⟩ (tt_partOf l G S2 N n (nI i7) hC tj2.1 H) (cwV 2 htu hU_X6_134 rfl rfl rfl (by decide +kernel) ⟨show 1 + 1 ≤ 2 * fu + 7 by omega, show 8 + (3 + 11) + 21 ≤ 60 * fu + 230 by omega⟩) hP hK hD hC hpp cw_1 rfl rfl hl.1 rfl (lv_room (Nat.le_of_ble_eq_true rfl)) dX6_runRecord_62) hS hD hh hpp (fun r_64 S_65 H locs hw_66 hP hD hS hC hh hs_67 hpp => ?_)
          obtain ⟨-, hu9, hw_66⟩ := hw_66
          have hu9 := hu9.symm
          subst hu9
          refine lv_iload_n hx hb dX6_runRecord_65 rfl (lv_at hl 2 rfl) ?_
          refine lv_iload_n hx hb dX6_runRecord_66 rfl (lv_at hl 3 rfl) ?_
          refine lv_iconst (v := 1) hx hb dX6_runRecord_67 (by decide) ?_
          refine lv_iadd hx hb dX6_runRecord_68 ?_
          refine m_top (y := nI (dp + 1)) (nI_add dp 1) ?_
          have hC0 := hC
          refine c_ci (c_runV (As := [.int r_64, .int sg, .int (nI (dp + 1))]) (rest := []) (q0 := 5) (ci := 6) ⟨hx, hb, hml, hown, htu⟩ (ih l G S2 al v1 s1 f1 b1 N (dp + 1) r_64 sg hC hq1 tj2 ((by omega)) H) (cwV 3 htu hU_X6_62 rfl rfl rfl (by decide +kernel) ⟨show (2 * fu + 6) + 1 ≤ 2 * fu + 7 by omega, show 8 + (4 + 11) + (60 * fu + 200) ≤ 60 * fu + 230 by omega⟩) hP hK hD hC hpp cw_5 rfl rfl hl.1 rfl (lv_room (Nat.le_of_ble_eq_true rfl)) dX6_runRecord_69) hS hD hh hpp (fun r_68 S_69 H locs hw_70 hP hD hS hC hh hs_71 hpp => ?_)
          try dsimp only at hw_70
          have aw_72 : AW [27, 28, 29, 30, 31, 32, 33, 34] [111, 112] S2 S_69 := hw_70.1
          have aw_72t : AW [27, 28, 29, 30, 31, 32, 33, 34] [111, 112] S S_69 := hAW.tr (aw_72.mono (by decide) (by decide))
          have tj_73 : TJ S_69 N := TJ.aw tj2 aw_72 (by decide)
          have wx_74x := hw_70.2
          obtain ⟨wx_74v, wx_74s, wx_74f, wx_74b, wx_74, wx_741, wx_742, wx_743, wx_744⟩ := id wx_74x
          refine lv_istore (lv' := [(7, .int r_68), (0, .ref (ga G 5)), (1, .int n), (2, .int sg), (3, .int (nI dp)), (4, .int (nI f9)), (5, .int r_1), (6, .int (nI i7))]) hx hb dX6_runRecord_72 hl (by decide) rfl (fun ls hl => ?_)
          refine lv_iload hx hb dX6_runRecord_74 (lv_at hl 0 rfl) ?_
          refine lv_if_ge (tgt := 82) hx hb dX6_runRecord_76 (by decide) (fun c_75 => ?_) (fun c_75 => ?_)
          · skip
            refine lv_aload_n hx hb dX6_runRecord_82 rfl (lv_at hl 1 rfl) ?_
            refine va_get (D := gD G) (ci := 6) (v := .ref (kH S 30)) (C := RX6) (T := TX6) (N := 14) hx hb htu cu_in6 hown hK hP 5 cw_5 rfl 5 (by decide) (htu _ C_155) (fun _ h9 => h9) (c_hv (hh.2 30 (lt35 (by decide)))) dX6_runRecord_83 ?_
            refine lv_iload hx hb dX6_runRecord_86 (lv_at hl 5 rfl) ?_
            refine lv_iload hx hb dX6_runRecord_88 (lv_at hl 7 rfl) ?_
            refine lv_iadd hx hb dX6_runRecord_90 ?_
            refine m_top (y := nI (f9 + i7)) (nI_add f9 i7) ?_
            refine lv_iload hx hb dX6_runRecord_91 (lv_at hl 0 rfl) ?_
            have hC0 := hC
            refine c_cv (c_runV (As := [.int (nI (f9 + i7)), .int r_68]) (rest := []) (q0 := (2 * 30 + 13)) (ci := 0) ⟨hx, hb, hml, hown, htu⟩ (c_setA l G S_69 30 (lt35 (by decide)) hC (kH S 30) (hh.2 30 (lt35 (by decide))) (nI (f9 + i7)) r_68 H) (cwV 2 htu hU_X6_144 rfl rfl rfl (by decide +kernel) ⟨show 0 + 1 ≤ 2 * fu + 7 by omega, show 8 + (3 + 11) + 0 ≤ 60 * fu + 230 by omega⟩) hP hK hD hC hpp (c_hd (hh.2 30 (lt35 (by decide))) (cw_row (lt35 (by decide)))) rfl rfl hl.1 rfl (lv_room (Nat.le_of_ble_eq_true rfl)) dX6_runRecord_93) hS hD hh hpp (fun S_77 H locs hw_78 hP hD hS hC hh hs_79 hpp => ?_)
            try dsimp only at hw_78
            have aw_80 : AW [30] [] S_69 S_77 := (by rw [hw_78]; exact AW.u (by decide))
            have aw_80t : AW [27, 28, 29, 30, 31, 32, 33, 34] [111, 112] S S_77 := aw_72t.tr (aw_80.mono (by decide) (by decide))
            have tj_81 : TJ S_77 N := TJ.aw tj_73 aw_80 (by decide)
            have kk_82 : kK S_77 30 = wx_74f := by rw [hw_78]; exact uR_K.trans wx_74.2.1
            have wf_83 := WR.fld wx_74 aw_80 kk_82 wx_74.2.2.2.2.2.2.2.2.2
            refine lv_iinc (v := nI (i7 + 1)) (lv' := [(6, .int (nI (i7 + 1))), (7, .int r_68), (0, .ref (ga G 5)), (1, .int n), (2, .int sg), (3, .int (nI dp)), (4, .int (nI f9)), (5, .int r_1)]) hx hb dX6_runRecord_96 hl (k := 7) rfl (nI_1 i7) (by decide) rfl (fun ls hl => ?_)
            refine lv_goto (tgt := 47) hx hb dX6_runRecord_99 (by decide) ?_
            exact ih8 _ _ _ _ _ ⟨S_77, wx_74v, wx_74s, wx_74f, wx_74b, i7 + 1, ls, hC, hh, hpp, aw_80t, by omega, wf_83, by omega, rfl, rfl, hP, hD, hS, lv_sub hl [2, 3, 4, 5, 6, 7, 0] rfl, rfl⟩
          · skip
            refine lv_iload hx hb dX6_runRecord_79 (lv_at hl 0 rfl) ?_
            exact c_iret (v := r_68) hx hb hr hK hP hD hS hC hh hpp ⟨aw_72t, (wx_74.x (by omega))⟩ dX6_runRecord_81 hlocks
    · skip
      refine lv_aload_n hx hb dX6_runRecord_29 rfl (lv_at hl 0 rfl) ?_
      refine va_get (D := gD G) (ci := 6) (v := .ref (kH S 30)) (C := RX6) (T := TX6) (N := 14) hx hb htu cu_in6 hown hK hP 5 cw_5 rfl 5 (by decide) (htu _ C_155) (fun _ h9 => h9) (c_hv (hh.2 30 (lt35 (by decide)))) dX6_runRecord_30 ?_
      refine lv_bipush (v := (-9)) hx hb dX6_runRecord_33 (by decide) ?_
      have hC0 := hC
      refine c_cv (c_runV (As := [.int ((-9))]) (rest := []) (q0 := (2 * 30 + 13)) (ci := 0) ⟨hx, hb, hml, hown, htu⟩ (c_addA l G S1 30 (lt35 (by decide)) hC (kH S 30) (hh.2 30 (lt35 (by decide))) ((-9)) (show kK S1 30 < lim 30 by rw [hp1.2.1, lim_30]; have := fl3 hp1; omega) H) (cwV 1 htu hU_X6_82 rfl rfl rfl (by decide +kernel) ⟨show 2 + 1 ≤ 2 * fu + 7 by omega, show 8 + (2 + 11) + 82 ≤ 60 * fu + 230 by omega⟩) hP hK hD hC hpp (c_hd (hh.2 30 (lt35 (by decide))) (cw_row (lt35 (by decide)))) rfl rfl hl.1 rfl (lv_room (Nat.le_of_ble_eq_true rfl)) dX6_runRecord_35) hS hD hh hpp (fun S_85 H locs hw_86 hP hD hS hC hh hs_87 hpp => ?_)
      try dsimp only at hw_86
      have aw_88 : AW [30] [] S1 S_85 := (by obtain ⟨_, _, _, h9, -, -⟩ := hw_86; rw [h9]; exact AW.u (by decide))
      have aw_88t : AW [27, 28, 29, 30, 31, 32, 33, 34] [111, 112] S S_85 := hAW.tr (aw_88.mono (by decide) (by decide))
      have tj_89 : TJ S_85 N := TJ.aw tj1 aw_88 (by decide)
      obtain ⟨ad_90n, ad_90q, ad_90g, ad_90u, ad_901, ad_902⟩ := hw_86
      have kk_91 : kK S_85 30 = f9 + i + 1 := by rw [ad_90u]; exact uR_K.trans (congrArg (· + 1) hp1.2.1)
      have wf_92 := WR.fld (f1 := f9 + (i + 1)) hp1 aw_88 kk_91 (by omega)
      refine lv_iinc (v := nI (i + 1)) (lv' := [(6, .int (nI (i + 1))), (0, .ref (ga G 5)), (1, .int n), (2, .int sg), (3, .int (nI dp)), (4, .int (nI f9)), (5, .int r_1)]) hx hb dX6_runRecord_38 hl (k := 6) rfl (nI_1 i) (by decide) rfl (fun ls hl => ?_)
      refine lv_goto (tgt := 22) hx hb dX6_runRecord_41 (by decide) ?_
      exact ih9 _ _ _ _ _ ⟨S_85, i + 1, ls, hC, hh, hpp, aw_88t, by omega, wf_92, rfl, rfl, hP, hD, hS, lv_sub hl [1, 2, 3, 4, 5, 6, 0] rfl, rfl⟩

set_option maxHeartbeats 4000000 in
set_option maxRecDepth 100000 in
/-- runField -/
theorem w_runField (l : Launch) (G : cG) (S : cS) (fu : Nat) (al : Nat) (v9 : Nat) (s9 : Nat) (f9 : Nat) (bg : Nat) (N : Nat) (dp : Nat) (n : Int32) (sg : Int32) (hC : CL S) (ih : cRunAt fu) (hW : WR S al v9 s9 f9 bg) (hT : TJ S N) (hdp : dp + (fu + 1) = 61) (hc : v9 + 1 ≤ bg ∧ s9 + 1 ≤ bg ∧ f9 + 6 ≤ 6 * bg) (Hs : Heap) : Met l yX6_runField (wC yX6_runField cX6_runField 6 (some .int)) (cRm S (2 * fu + 7) (60 * fu + 230)) (cPc G S Hs [.ref (ga G 5), .int n, .int sg, .int (nI dp)]) (cQi G S Hs (fun v u => AW [27, 28, 29, 30, 31, 32, 33, 34] [111, 112] S u ∧ (WX u al v9 s9 f9 bg 1))) (CC - PT S) (12 * (CC - PT S)) (cA G S Hs.size) := by
  refine Met.ofW (cc := cX6_runField) (maxL := 6) (ret := (some .int)) (by decide) rfl ?_
  intro p e s m args below meth c s₁ B hml hv
  obtain ⟨rfl, hsz, hP, hK, hD0, -⟩ := hv
  have hx := B.exec
  have hb := B.bytes
  have hr := B.returns
  have htu : ∀ w ∈ CU, w.before _ s = true := fun w h => atoms_spec (ws := (wC yX6_runField cX6_runField 6 (some .int))) B.pre w (List.mem_cons_of_mem _ h)
  have hown : s.vm.findClass RX6 = some m.cls := findClass_of_methodNamed B.named
  have hlocks := B.notSynchronized
  subst hsz
  have hD : cD (cA G S s.heap.size) G S := cD_self hD0
  have hl := lv_entry ([.ref (ga G 5), .int n, .int sg, .int (nI dp)]) (n := 6) (Nat.le_of_ble_eq_true rfl)
  rw [lg_entry_eq]
  generalize (lg_sl ([.ref (ga G 5), .int n, .int sg, .int (nI dp)]) ++ List.replicate (6 - (lg_sl ([.ref (ga G 5), .int n, .int sg, .int (nI dp)])).length) Slot.unset).toArray = ls at hl ⊢
  have hl : lv_has ls 6 [(0, .ref (ga G 5)), (1, .int n), (2, .int sg), (3, .int (nI dp))] := hl
  obtain ⟨H, hHe⟩ : ∃ H : Heap, H = s.heap := ⟨_, rfl⟩
  rw [← hHe] at hP
  have hS : va_S (cA G S s.heap.size) s.heap H [] := by rw [hHe]; exact va_S.rf
  have hh : HS S S := HS.rf
  have hpp : PT S ≤ PT S := Nat.le_refl _
  have hB9 := hC.1
  refine W.heq hHe ?_
  refine c_ent (S := S) ?_
  obtain ⟨hc1, hc2, hc3⟩ := id hc
  refine lv_aload_n hx hb dX6_runField_0 rfl (lv_at hl 0 rfl) ?_
  refine lv_aload_n hx hb dX6_runField_1 rfl (lv_at hl 0 rfl) ?_
  refine va_get (D := gD G) (ci := 6) (v := .ref (ga G 1)) (C := RX6) (T := TX6) (N := 14) hx hb htu cu_in6 hown hK hP 5 cw_5 rfl 0 (by decide) (htu _ C_162) (fun _ h9 => h9) rfl dX6_runField_2 ?_
  refine lv_iload_n hx hb dX6_runField_5 rfl (lv_at hl 1 rfl) ?_
  refine lv_iconst (v := 0) hx hb dX6_runField_6 (by decide) ?_
  have hC0 := hC
  refine c_ci (c_runV (As := [.int n, .int 0]) (rest := [.ref (ga G 5)]) (q0 := 1) (ci := 3) ⟨hx, hb, hml, hown, htu⟩ (tt_partOf l G S N n 0 hC hT.1 H) (cwV 2 htu hU_X6_134 rfl rfl rfl (by decide +kernel) ⟨show 1 + 1 ≤ 2 * fu + 7 by omega, show 8 + (3 + 11) + 21 ≤ 60 * fu + 230 by omega⟩) hP hK hD hC hpp cw_1 rfl rfl hl.1 rfl (lv_room (Nat.le_of_ble_eq_true rfl)) dX6_runField_7) hS hD hh hpp (fun r_1 S_2 H locs hw_3 hP hD hS hC hh hs_4 hpp => ?_)
  obtain ⟨-, hu9, hw_3⟩ := hw_3
  have hu9 := hu9.symm
  subst hu9
  refine lv_iload_n hx hb dX6_runField_10 rfl (lv_at hl 2 rfl) ?_
  refine lv_iload_n hx hb dX6_runField_11 rfl (lv_at hl 3 rfl) ?_
  refine lv_iconst (v := 1) hx hb dX6_runField_12 (by decide) ?_
  refine lv_iadd hx hb dX6_runField_13 ?_
  refine m_top (y := nI (dp + 1)) (nI_add dp 1) ?_
  have hC0 := hC
  refine c_ci (c_runV (As := [.int r_1, .int sg, .int (nI (dp + 1))]) (rest := []) (q0 := 5) (ci := 6) ⟨hx, hb, hml, hown, htu⟩ (ih l G S al v9 s9 f9 bg N (dp + 1) r_1 sg hC hW hT ((by omega)) H) (cwV 3 htu hU_X6_62 rfl rfl rfl (by decide +kernel) ⟨show (2 * fu + 6) + 1 ≤ 2 * fu + 7 by omega, show 8 + (4 + 11) + (60 * fu + 200) ≤ 60 * fu + 230 by omega⟩) hP hK hD hC hpp cw_5 rfl rfl hl.1 rfl (lv_room (Nat.le_of_ble_eq_true rfl)) dX6_runField_14) hS hD hh hpp (fun r_5 S_6 H locs hw_7 hP hD hS hC hh hs_8 hpp => ?_)
  try dsimp only at hw_7
  have aw_9 : AW [27, 28, 29, 30, 31, 32, 33, 34] [111, 112] S S_6 := hw_7.1
  have aw_9t : AW [27, 28, 29, 30, 31, 32, 33, 34] [111, 112] S S_6 := AW.rf.tr (aw_9.mono (by decide) (by decide))
  have tj_10 : TJ S_6 N := TJ.aw hT aw_9 (by decide)
  have wx_11x := hw_7.2
  obtain ⟨wx_11v, wx_11s, wx_11f, wx_11b, wx_11, wx_111, wx_112, wx_113, wx_114⟩ := id wx_11x
  refine lv_istore (lv' := [(4, .int r_5), (0, .ref (ga G 5)), (1, .int n), (2, .int sg), (3, .int (nI dp))]) hx hb dX6_runField_17 hl (by decide) rfl (fun ls hl => ?_)
  refine lv_iload hx hb dX6_runField_19 (lv_at hl 0 rfl) ?_
  refine lv_if_ge (tgt := 27) hx hb dX6_runField_21 (by decide) (fun c_12 => ?_) (fun c_12 => ?_)
  · skip
    refine lv_aload_n hx hb dX6_runField_27 rfl (lv_at hl 1 rfl) ?_
    refine va_get (D := gD G) (ci := 6) (v := .ref (kH S 27)) (C := RX6) (T := TX6) (N := 14) hx hb htu cu_in6 hown hK hP 5 cw_5 rfl 2 (by decide) (htu _ C_152) (fun _ h9 => h9) (c_hv (hh.2 27 (lt35 (by decide)))) dX6_runField_28 ?_
    refine lv_iload hx hb dX6_runField_31 (lv_at hl 0 rfl) ?_
    have hC0 := hC
    refine c_ci (c_runV (As := [.int r_5]) (rest := []) (q0 := (2 * 27 + 13)) (ci := 0) ⟨hx, hb, hml, hown, htu⟩ (c_getA l G S_6 27 (lt35 (by decide)) hC (kH S 27) (hh.2 27 (lt35 (by decide))) r_5 H) (cwV 1 htu hU_X6_131 rfl rfl rfl (by decide +kernel) ⟨show 0 + 1 ≤ 2 * fu + 7 by omega, show 8 + (2 + 11) + 0 ≤ 60 * fu + 230 by omega⟩) hP hK hD hC hpp (c_hd (hh.2 27 (lt35 (by decide))) (cw_row (lt35 (by decide)))) rfl rfl hl.1 rfl (lv_room (Nat.le_of_ble_eq_true rfl)) dX6_runField_33) hS hD hh hpp (fun r_13 S_14 H locs hw_15 hP hD hS hC hh hs_16 hpp => ?_)
    obtain ⟨hu9, hw_15⟩ := hw_15
    have hu9 := hu9.symm
    subst hu9
    refine lv_iconst (v := 3) hx hb dX6_runField_36 (by decide) ?_
    refine lv_icmp_eq (tgt := 46) hx hb dX6_runField_37 (by decide) (fun c_17 => ?_) (fun c_17 => ?_)
    · skip
      refine lv_aload_n hx hb dX6_runField_46 rfl (lv_at hl 1 rfl) ?_
      refine va_get (D := gD G) (ci := 6) (v := .ref (ga G 1)) (C := RX6) (T := TX6) (N := 14) hx hb htu cu_in6 hown hK hP 5 cw_5 rfl 0 (by decide) (htu _ C_162) (fun _ h9 => h9) rfl dX6_runField_47 ?_
      refine lv_aload_n hx hb dX6_runField_50 rfl (lv_at hl 1 rfl) ?_
      refine va_get (D := gD G) (ci := 6) (v := .ref (kH S 28)) (C := RX6) (T := TX6) (N := 14) hx hb htu cu_in6 hown hK hP 5 cw_5 rfl 3 (by decide) (htu _ C_153) (fun _ h9 => h9) (c_hv (hh.2 28 (lt35 (by decide)))) dX6_runField_51 ?_
      refine lv_iload hx hb dX6_runField_54 (lv_at hl 0 rfl) ?_
      have hC0 := hC
      refine c_ci (c_runV (As := [.int r_5]) (rest := [.ref (ga G 1)]) (q0 := (2 * 28 + 13)) (ci := 0) ⟨hx, hb, hml, hown, htu⟩ (c_getA l G S_6 28 (lt35 (by decide)) hC (kH S 28) (hh.2 28 (lt35 (by decide))) r_5 H) (cwV 1 htu hU_X6_131 rfl rfl rfl (by decide +kernel) ⟨show 0 + 1 ≤ 2 * fu + 7 by omega, show 8 + (2 + 11) + 0 ≤ 60 * fu + 230 by omega⟩) hP hK hD hC hpp (c_hd (hh.2 28 (lt35 (by decide))) (cw_row (lt35 (by decide)))) rfl rfl hl.1 rfl (lv_room (Nat.le_of_ble_eq_true rfl)) dX6_runField_56) hS hD hh hpp (fun r_18 S_19 H locs hw_20 hP hD hS hC hh hs_21 hpp => ?_)
      obtain ⟨hu9, hw_20⟩ := hw_20
      have hu9 := hu9.symm
      subst hu9
      refine lv_aload_n hx hb dX6_runField_59 rfl (lv_at hl 1 rfl) ?_
      refine va_get (D := gD G) (ci := 6) (v := .ref (ga G 1)) (C := RX6) (T := TX6) (N := 14) hx hb htu cu_in6 hown hK hP 5 cw_5 rfl 0 (by decide) (htu _ C_162) (fun _ h9 => h9) rfl dX6_runField_60 ?_
      refine lv_iload_n hx hb dX6_runField_63 rfl (lv_at hl 2 rfl) ?_
      have hC0 := hC
      refine c_ci (c_runV (As := [.int n]) (rest := [.int r_18, .ref (ga G 1)]) (q0 := 1) (ci := 3) ⟨hx, hb, hml, hown, htu⟩ (tt_markOf l G S_6 N n hC tj_10.1 H) (cwV 1 htu hU_X6_94 rfl rfl rfl (by decide +kernel) ⟨show 1 + 1 ≤ 2 * fu + 7 by omega, show 8 + (2 + 11) + 21 ≤ 60 * fu + 230 by omega⟩) hP hK hD hC hpp cw_1 rfl rfl hl.1 rfl (lv_room (Nat.le_of_ble_eq_true rfl)) dX6_runField_64) hS hD hh hpp (fun r_22 S_23 H locs hw_24 hP hD hS hC hh hs_25 hpp => ?_)
      obtain ⟨-, hu9, hw_24⟩ := hw_24
      have hu9 := hu9.symm
      subst hu9
      have hC0 := hC
      refine c_ci (c_runV (As := [.int r_18, .int r_22]) (rest := []) (q0 := 1) (ci := 3) ⟨hx, hb, hml, hown, htu⟩ (tt_placeOf l G S_6 N r_18 r_22 hC tj_10.1 H) (cwV 2 htu hU_X6_147 rfl rfl rfl (by decide +kernel) ⟨show 2 + 1 ≤ 2 * fu + 7 by omega, show 8 + (5 + 11) + 43 ≤ 60 * fu + 230 by omega⟩) hP hK hD hC hpp cw_1 rfl rfl hl.1 rfl (lv_room (Nat.le_of_ble_eq_true rfl)) dX6_runField_67) hS hD hh hpp (fun r_26 S_27 H locs hw_28 hP hD hS hC hh hs_29 hpp => ?_)
      obtain ⟨-, hu9, hw_28⟩ := hw_28
      have hu9 := hu9.symm
      subst hu9
      refine lv_istore (lv' := [(5, .int r_26), (4, .int r_5), (0, .ref (ga G 5)), (1, .int n), (2, .int sg), (3, .int (nI dp))]) hx hb dX6_runField_70 hl (by decide) rfl (fun ls hl => ?_)
      refine lv_iload hx hb dX6_runField_72 (lv_at hl 0 rfl) ?_
      refine lv_bipush (v := (-9)) hx hb dX6_runField_74 (by decide) ?_
      refine lv_icmp_ne (tgt := 87) hx hb dX6_runField_76 (by decide) (fun c_30 => ?_) (fun c_30 => ?_)
      · skip
        refine lv_aload_n hx hb dX6_runField_87 rfl (lv_at hl 2 rfl) ?_
        refine va_get (D := gD G) (ci := 6) (v := .ref (kH S 30)) (C := RX6) (T := TX6) (N := 14) hx hb htu cu_in6 hown hK hP 5 cw_5 rfl 5 (by decide) (htu _ C_155) (fun _ h9 => h9) (c_hv (hh.2 30 (lt35 (by decide)))) dX6_runField_88 ?_
        refine lv_aload_n hx hb dX6_runField_91 rfl (lv_at hl 2 rfl) ?_
        refine va_get (D := gD G) (ci := 6) (v := .ref (kH S 29)) (C := RX6) (T := TX6) (N := 14) hx hb htu cu_in6 hown hK hP 5 cw_5 rfl 4 (by decide) (htu _ C_154) (fun _ h9 => h9) (c_hv (hh.2 29 (lt35 (by decide)))) dX6_runField_92 ?_
        refine lv_iload hx hb dX6_runField_95 (lv_at hl 1 rfl) ?_
        have hC0 := hC
        refine c_ci (c_runV (As := [.int r_5]) (rest := [.ref (kH S 30)]) (q0 := (2 * 29 + 13)) (ci := 0) ⟨hx, hb, hml, hown, htu⟩ (c_getA l G S_6 29 (lt35 (by decide)) hC (kH S 29) (hh.2 29 (lt35 (by decide))) r_5 H) (cwV 1 htu hU_X6_131 rfl rfl rfl (by decide +kernel) ⟨show 0 + 1 ≤ 2 * fu + 7 by omega, show 8 + (2 + 11) + 0 ≤ 60 * fu + 230 by omega⟩) hP hK hD hC hpp (c_hd (hh.2 29 (lt35 (by decide))) (cw_row (lt35 (by decide)))) rfl rfl hl.1 rfl (lv_room (Nat.le_of_ble_eq_true rfl)) dX6_runField_97) hS hD hh hpp (fun r_31 S_32 H locs hw_33 hP hD hS hC hh hs_34 hpp => ?_)
        obtain ⟨hu9, hw_33⟩ := hw_33
        have hu9 := hu9.symm
        subst hu9
        refine lv_iload hx hb dX6_runField_100 (lv_at hl 0 rfl) ?_
        refine lv_iadd hx hb dX6_runField_102 ?_
        refine lv_topi (fun f_35 ef_35 => ?_)
        have hC0 := hC
        refine c_ci (c_runV (As := [.int f_35]) (rest := []) (q0 := (2 * 30 + 13)) (ci := 0) ⟨hx, hb, hml, hown, htu⟩ (c_getA l G S_6 30 (lt35 (by decide)) hC (kH S 30) (hh.2 30 (lt35 (by decide))) f_35 H) (cwV 1 htu hU_X6_131 rfl rfl rfl (by decide +kernel) ⟨show 0 + 1 ≤ 2 * fu + 7 by omega, show 8 + (2 + 11) + 0 ≤ 60 * fu + 230 by omega⟩) hP hK hD hC hpp (c_hd (hh.2 30 (lt35 (by decide))) (cw_row (lt35 (by decide)))) rfl rfl hl.1 rfl (lv_room (Nat.le_of_ble_eq_true rfl)) dX6_runField_103) hS hD hh hpp (fun r_36 S_37 H locs hw_38 hP hD hS hC hh hs_39 hpp => ?_)
        obtain ⟨hu9, hw_38⟩ := hw_38
        have hu9 := hu9.symm
        subst hu9
        exact c_iret (v := r_36) hx hb hr hK hP hD hS hC hh hpp ⟨aw_9t, (wx_11.x (by omega))⟩ dX6_runField_106 hlocks
      · skip
        refine lv_aload_n hx hb dX6_runField_79 rfl (lv_at hl 2 rfl) ?_
        refine lv_iload_n hx hb dX6_runField_80 rfl (lv_at hl 3 rfl) ?_
        have hC0 := hC
        refine c_ci (c_runV (As := [.int n]) (rest := []) (q0 := 5) (ci := 6) ⟨hx, hb, hml, hown, htu⟩ (w_stuckAt l G S_6 n hC  H) (cwV 1 htu hU_X6_128 rfl rfl rfl (by decide +kernel) ⟨show 0 + 1 ≤ 2 * fu + 7 by omega, show 8 + (2 + 11) + 0 ≤ 60 * fu + 230 by omega⟩) hP hK hD hC hpp cw_5 rfl rfl hl.1 rfl (lv_room (Nat.le_of_ble_eq_true rfl)) dX6_runField_81) hS hD hh hpp (fun r_40 S_41 H locs hw_42 hP hD hS hC hh hs_43 hpp => ?_)
        try dsimp only at hw_42
        have aw_44 : AW [] [112] S_6 S_41 := hw_42.1
        have aw_44t : AW [27, 28, 29, 30, 31, 32, 33, 34] [111, 112] S S_41 := aw_9t.tr (aw_44.mono (by decide) (by decide))
        have tj_45 : TJ S_41 N := TJ.aw tj_10 aw_44 (by decide)
        have sk_46 := WR.aw wx_11 aw_44 (by decide) (by decide)
        refine lv_goto (tgt := 106) hx hb dX6_runField_84 (by decide) ?_
        exact c_iret (v := r_40) hx hb hr hK hP hD hS hC hh hpp ⟨aw_44t, (sk_46.x (by omega))⟩ dX6_runField_106 hlocks
    · skip
      refine lv_aload_n hx hb dX6_runField_40 rfl (lv_at hl 1 rfl) ?_
      refine lv_iload_n hx hb dX6_runField_41 rfl (lv_at hl 2 rfl) ?_
      have hC0 := hC
      refine c_ci (c_runV (As := [.int n]) (rest := []) (q0 := 5) (ci := 6) ⟨hx, hb, hml, hown, htu⟩ (w_stuckAt l G S_6 n hC  H) (cwV 1 htu hU_X6_128 rfl rfl rfl (by decide +kernel) ⟨show 0 + 1 ≤ 2 * fu + 7 by omega, show 8 + (2 + 11) + 0 ≤ 60 * fu + 230 by omega⟩) hP hK hD hC hpp cw_5 rfl rfl hl.1 rfl (lv_room (Nat.le_of_ble_eq_true rfl)) dX6_runField_42) hS hD hh hpp (fun r_47 S_48 H locs hw_49 hP hD hS hC hh hs_50 hpp => ?_)
      try dsimp only at hw_49
      have aw_51 : AW [] [112] S_6 S_48 := hw_49.1
      have aw_51t : AW [27, 28, 29, 30, 31, 32, 33, 34] [111, 112] S S_48 := aw_9t.tr (aw_51.mono (by decide) (by decide))
      have tj_52 : TJ S_48 N := TJ.aw tj_10 aw_51 (by decide)
      have sk_53 := WR.aw wx_11 aw_51 (by decide) (by decide)
      exact c_iret (v := r_47) hx hb hr hK hP hD hS hC hh hpp ⟨aw_51t, (sk_53.x (by omega))⟩ dX6_runField_45 hlocks
  · skip
    refine lv_iload hx hb dX6_runField_24 (lv_at hl 0 rfl) ?_
    exact c_iret (v := r_5) hx hb hr hK hP hD hS hC hh hpp ⟨aw_9t, (wx_11.x (by omega))⟩ dX6_runField_26 hlocks

set_option maxHeartbeats 4000000 in
set_option maxRecDepth 100000 in
/-- runLet -/
theorem w_runLet (l : Launch) (G : cG) (S : cS) (fu : Nat) (al : Nat) (v9 : Nat) (s9 : Nat) (f9 : Nat) (bg : Nat) (N : Nat) (dp : Nat) (n : Int32) (sg : Int32) (hC : CL S) (ih : cRunAt fu) (hW : WR S al v9 s9 f9 bg) (hT : TJ S N) (hdp : dp + (fu + 1) = 61) (hc : v9 + 1 ≤ bg ∧ s9 + 1 ≤ bg ∧ f9 + 6 ≤ 6 * bg) (Hs : Heap) : Met l yX6_runLet (wC yX6_runLet cX6_runLet 5 (some .int)) (cRm S (2 * fu + 7) (60 * fu + 230)) (cPc G S Hs [.ref (ga G 5), .int n, .int sg, .int (nI dp)]) (cQi G S Hs (fun v u => AW [27, 28, 29, 30, 31, 32, 33, 34] [111, 112] S u ∧ (WX u al v9 s9 f9 bg 1))) (CC - PT S) (12 * (CC - PT S)) (cA G S Hs.size) := by
  refine Met.ofW (cc := cX6_runLet) (maxL := 5) (ret := (some .int)) (by decide) rfl ?_
  intro p e s m args below meth c s₁ B hml hv
  obtain ⟨rfl, hsz, hP, hK, hD0, -⟩ := hv
  have hx := B.exec
  have hb := B.bytes
  have hr := B.returns
  have htu : ∀ w ∈ CU, w.before _ s = true := fun w h => atoms_spec (ws := (wC yX6_runLet cX6_runLet 5 (some .int))) B.pre w (List.mem_cons_of_mem _ h)
  have hown : s.vm.findClass RX6 = some m.cls := findClass_of_methodNamed B.named
  have hlocks := B.notSynchronized
  subst hsz
  have hD : cD (cA G S s.heap.size) G S := cD_self hD0
  have hl := lv_entry ([.ref (ga G 5), .int n, .int sg, .int (nI dp)]) (n := 5) (Nat.le_of_ble_eq_true rfl)
  rw [lg_entry_eq]
  generalize (lg_sl ([.ref (ga G 5), .int n, .int sg, .int (nI dp)]) ++ List.replicate (5 - (lg_sl ([.ref (ga G 5), .int n, .int sg, .int (nI dp)])).length) Slot.unset).toArray = ls at hl ⊢
  have hl : lv_has ls 5 [(0, .ref (ga G 5)), (1, .int n), (2, .int sg), (3, .int (nI dp))] := hl
  obtain ⟨H, hHe⟩ : ∃ H : Heap, H = s.heap := ⟨_, rfl⟩
  rw [← hHe] at hP
  have hS : va_S (cA G S s.heap.size) s.heap H [] := by rw [hHe]; exact va_S.rf
  have hh : HS S S := HS.rf
  have hpp : PT S ≤ PT S := Nat.le_refl _
  have hB9 := hC.1
  refine W.heq hHe ?_
  refine c_ent (S := S) ?_
  obtain ⟨hc1, hc2, hc3⟩ := id hc
  refine lv_aload_n hx hb dX6_runLet_0 rfl (lv_at hl 0 rfl) ?_
  refine lv_aload_n hx hb dX6_runLet_1 rfl (lv_at hl 0 rfl) ?_
  refine va_get (D := gD G) (ci := 6) (v := .ref (ga G 1)) (C := RX6) (T := TX6) (N := 14) hx hb htu cu_in6 hown hK hP 5 cw_5 rfl 0 (by decide) (htu _ C_162) (fun _ h9 => h9) rfl dX6_runLet_2 ?_
  refine lv_iload_n hx hb dX6_runLet_5 rfl (lv_at hl 1 rfl) ?_
  refine lv_iconst (v := 0) hx hb dX6_runLet_6 (by decide) ?_
  have hC0 := hC
  refine c_ci (c_runV (As := [.int n, .int 0]) (rest := [.ref (ga G 5)]) (q0 := 1) (ci := 3) ⟨hx, hb, hml, hown, htu⟩ (tt_partOf l G S N n 0 hC hT.1 H) (cwV 2 htu hU_X6_134 rfl rfl rfl (by decide +kernel) ⟨show 1 + 1 ≤ 2 * fu + 7 by omega, show 8 + (3 + 11) + 21 ≤ 60 * fu + 230 by omega⟩) hP hK hD hC hpp cw_1 rfl rfl hl.1 rfl (lv_room (Nat.le_of_ble_eq_true rfl)) dX6_runLet_7) hS hD hh hpp (fun r_1 S_2 H locs hw_3 hP hD hS hC hh hs_4 hpp => ?_)
  obtain ⟨-, hu9, hw_3⟩ := hw_3
  have hu9 := hu9.symm
  subst hu9
  refine lv_iload_n hx hb dX6_runLet_10 rfl (lv_at hl 2 rfl) ?_
  refine lv_iload_n hx hb dX6_runLet_11 rfl (lv_at hl 3 rfl) ?_
  refine lv_iconst (v := 1) hx hb dX6_runLet_12 (by decide) ?_
  refine lv_iadd hx hb dX6_runLet_13 ?_
  refine m_top (y := nI (dp + 1)) (nI_add dp 1) ?_
  have hC0 := hC
  refine c_ci (c_runV (As := [.int r_1, .int sg, .int (nI (dp + 1))]) (rest := []) (q0 := 5) (ci := 6) ⟨hx, hb, hml, hown, htu⟩ (ih l G S al v9 s9 f9 bg N (dp + 1) r_1 sg hC hW hT ((by omega)) H) (cwV 3 htu hU_X6_62 rfl rfl rfl (by decide +kernel) ⟨show (2 * fu + 6) + 1 ≤ 2 * fu + 7 by omega, show 8 + (4 + 11) + (60 * fu + 200) ≤ 60 * fu + 230 by omega⟩) hP hK hD hC hpp cw_5 rfl rfl hl.1 rfl (lv_room (Nat.le_of_ble_eq_true rfl)) dX6_runLet_14) hS hD hh hpp (fun r_5 S_6 H locs hw_7 hP hD hS hC hh hs_8 hpp => ?_)
  try dsimp only at hw_7
  have aw_9 : AW [27, 28, 29, 30, 31, 32, 33, 34] [111, 112] S S_6 := hw_7.1
  have aw_9t : AW [27, 28, 29, 30, 31, 32, 33, 34] [111, 112] S S_6 := AW.rf.tr (aw_9.mono (by decide) (by decide))
  have tj_10 : TJ S_6 N := TJ.aw hT aw_9 (by decide)
  have wx_11x := hw_7.2
  obtain ⟨wx_11v, wx_11s, wx_11f, wx_11b, wx_11, wx_111, wx_112, wx_113, wx_114⟩ := id wx_11x
  refine lv_istore (lv' := [(4, .int r_5), (0, .ref (ga G 5)), (1, .int n), (2, .int sg), (3, .int (nI dp))]) hx hb dX6_runLet_17 hl (by decide) rfl (fun ls hl => ?_)
  refine lv_iload hx hb dX6_runLet_19 (lv_at hl 0 rfl) ?_
  refine lv_if_ge (tgt := 27) hx hb dX6_runLet_21 (by decide) (fun c_12 => ?_) (fun c_12 => ?_)
  · skip
    refine lv_aload_n hx hb dX6_runLet_27 rfl (lv_at hl 1 rfl) ?_
    refine lv_aload_n hx hb dX6_runLet_28 rfl (lv_at hl 1 rfl) ?_
    refine va_get (D := gD G) (ci := 6) (v := .ref (ga G 1)) (C := RX6) (T := TX6) (N := 14) hx hb htu cu_in6 hown hK hP 5 cw_5 rfl 0 (by decide) (htu _ C_162) (fun _ h9 => h9) rfl dX6_runLet_29 ?_
    refine lv_iload_n hx hb dX6_runLet_32 rfl (lv_at hl 2 rfl) ?_
    refine lv_iconst (v := 1) hx hb dX6_runLet_33 (by decide) ?_
    have hC0 := hC
    refine c_ci (c_runV (As := [.int n, .int 1]) (rest := [.ref (ga G 5)]) (q0 := 1) (ci := 3) ⟨hx, hb, hml, hown, htu⟩ (tt_partOf l G S_6 N n 1 hC tj_10.1 H) (cwV 2 htu hU_X6_134 rfl rfl rfl (by decide +kernel) ⟨show 1 + 1 ≤ 2 * fu + 7 by omega, show 8 + (3 + 11) + 21 ≤ 60 * fu + 230 by omega⟩) hP hK hD hC hpp cw_1 rfl rfl hl.1 rfl (lv_room (Nat.le_of_ble_eq_true rfl)) dX6_runLet_34) hS hD hh hpp (fun r_13 S_14 H locs hw_15 hP hD hS hC hh hs_16 hpp => ?_)
    obtain ⟨-, hu9, hw_15⟩ := hw_15
    have hu9 := hu9.symm
    subst hu9
    refine lv_aload_n hx hb dX6_runLet_37 rfl (lv_at hl 1 rfl) ?_
    refine lv_aload_n hx hb dX6_runLet_38 rfl (lv_at hl 1 rfl) ?_
    refine va_get (D := gD G) (ci := 6) (v := .ref (ga G 1)) (C := RX6) (T := TX6) (N := 14) hx hb htu cu_in6 hown hK hP 5 cw_5 rfl 0 (by decide) (htu _ C_162) (fun _ h9 => h9) rfl dX6_runLet_39 ?_
    refine lv_iload_n hx hb dX6_runLet_42 rfl (lv_at hl 2 rfl) ?_
    have hC0 := hC
    refine c_ci (c_runV (As := [.int n]) (rest := [.ref (ga G 5), .int r_13, .ref (ga G 5)]) (q0 := 1) (ci := 3) ⟨hx, hb, hml, hown, htu⟩ (tt_markOf l G S_6 N n hC tj_10.1 H) (cwV 1 htu hU_X6_94 rfl rfl rfl (by decide +kernel) ⟨show 1 + 1 ≤ 2 * fu + 7 by omega, show 8 + (2 + 11) + 21 ≤ 60 * fu + 230 by omega⟩) hP hK hD hC hpp cw_1 rfl rfl hl.1 rfl (lv_room (Nat.le_of_ble_eq_true rfl)) dX6_runLet_43) hS hD hh hpp (fun r_17 S_18 H locs hw_19 hP hD hS hC hh hs_20 hpp => ?_)
    obtain ⟨-, hu9, hw_19⟩ := hw_19
    have hu9 := hu9.symm
    subst hu9
    refine lv_iload hx hb dX6_runLet_46 (lv_at hl 0 rfl) ?_
    refine lv_bipush (v := (-9)) hx hb dX6_runLet_48 (by decide) ?_
    refine lv_iload_n hx hb dX6_runLet_50 rfl (lv_at hl 3 rfl) ?_
    have si_21l : wx_11s + 1 ≤ wx_11b := by omega
    have hC0 := hC
    refine c_ci (c_runV (As := [.int r_17, .int r_5, .int ((-9)), .int sg]) (rest := [.int r_13, .ref (ga G 5)]) (q0 := 5) (ci := 6) ⟨hx, hb, hml, hown, htu⟩ (w_addSight l G S_6 wx_11s r_17 r_5 ((-9)) sg hC wx_11.2.2.1.1 wx_11.2.2.1.2.1 wx_11.2.2.1.2.2.1 wx_11.2.2.1.2.2.2 ((sl3 wx_11 si_21l)) H) (cwV 4 htu hU_X6_137 rfl rfl rfl (by decide +kernel) ⟨show 3 + 1 ≤ 2 * fu + 7 by omega, show 8 + (5 + 11) + 103 ≤ 60 * fu + 230 by omega⟩) hP hK hD hC hpp cw_5 rfl rfl hl.1 rfl (lv_room (Nat.le_of_ble_eq_true rfl)) dX6_runLet_51) hS hD hh hpp (fun r_22 S_23 H locs hw_24 hP hD hS hC hh hs_25 hpp => ?_)
    try dsimp only at hw_24
    have aw_26 : AW [31, 32, 33, 34] [] S_6 S_23 := hw_24.1
    have aw_26t : AW [27, 28, 29, 30, 31, 32, 33, 34] [111, 112] S S_23 := aw_9t.tr (aw_26.mono (by decide) (by decide))
    have tj_27 : TJ S_23 N := TJ.aw tj_10 aw_26 (by decide)
    have si_21 := WR.sgt wx_11 aw_26 hw_24.2 si_21l
    refine lv_iload_n hx hb dX6_runLet_54 rfl (lv_at hl 4 rfl) ?_
    refine lv_iconst (v := 1) hx hb dX6_runLet_55 (by decide) ?_
    refine lv_iadd hx hb dX6_runLet_56 ?_
    refine m_top (y := nI (dp + 1)) (nI_add dp 1) ?_
    have hC0 := hC
    refine c_ci (c_runV (As := [.int r_13, .int r_22, .int (nI (dp + 1))]) (rest := []) (q0 := 5) (ci := 6) ⟨hx, hb, hml, hown, htu⟩ (ih l G S_23 al wx_11v ((wx_11s + 1)) wx_11f wx_11b N (dp + 1) r_13 r_22 hC si_21 tj_27 ((by omega)) H) (cwV 3 htu hU_X6_62 rfl rfl rfl (by decide +kernel) ⟨show (2 * fu + 6) + 1 ≤ 2 * fu + 7 by omega, show 8 + (4 + 11) + (60 * fu + 200) ≤ 60 * fu + 230 by omega⟩) hP hK hD hC hpp cw_5 rfl rfl hl.1 rfl (lv_room (Nat.le_of_ble_eq_true rfl)) dX6_runLet_57) hS hD hh hpp (fun r_28 S_29 H locs hw_30 hP hD hS hC hh hs_31 hpp => ?_)
    try dsimp only at hw_30
    have aw_32 : AW [27, 28, 29, 30, 31, 32, 33, 34] [111, 112] S_23 S_29 := hw_30.1
    have aw_32t : AW [27, 28, 29, 30, 31, 32, 33, 34] [111, 112] S S_29 := aw_26t.tr (aw_32.mono (by decide) (by decide))
    have tj_33 : TJ S_29 N := TJ.aw tj_27 aw_32 (by decide)
    have wx_34x := hw_30.2
    obtain ⟨wx_34v, wx_34s, wx_34f, wx_34b, wx_34, wx_341, wx_342, wx_343, wx_344⟩ := id wx_34x
    exact c_iret (v := r_28) hx hb hr hK hP hD hS hC hh hpp ⟨aw_32t, (wx_34.x (by omega))⟩ dX6_runLet_60 hlocks
  · skip
    refine lv_iload hx hb dX6_runLet_24 (lv_at hl 0 rfl) ?_
    exact c_iret (v := r_5) hx hb hr hK hP hD hS hC hh hpp ⟨aw_9t, (wx_11.x (by omega))⟩ dX6_runLet_26 hlocks

set_option maxHeartbeats 4000000 in
set_option maxRecDepth 100000 in
/-- runRec -/
theorem w_runRec (l : Launch) (G : cG) (S : cS) (fu : Nat) (al : Nat) (v9 : Nat) (s9 : Nat) (f9 : Nat) (bg : Nat) (N : Nat) (dp : Nat) (n : Int32) (sg : Int32) (hC : CL S) (ih : cRunAt fu) (hW : WR S al v9 s9 f9 bg) (hT : TJ S N) (hdp : dp + (fu + 1) = 61) (hc : v9 + 1 ≤ bg ∧ s9 + 1 ≤ bg ∧ f9 + 6 ≤ 6 * bg) (Hs : Heap) : Met l yX6_runRec (wC yX6_runRec cX6_runRec 4 (some .int)) (cRm S (2 * fu + 7) (60 * fu + 230)) (cPc G S Hs [.ref (ga G 5), .int n, .int sg, .int (nI dp)]) (cQi G S Hs (fun v u => AW [27, 28, 29, 30, 31, 32, 33, 34] [111, 112] S u ∧ (WX u al v9 s9 f9 bg 1))) (CC - PT S) (12 * (CC - PT S)) (cA G S Hs.size) := by
  refine Met.ofW (cc := cX6_runRec) (maxL := 4) (ret := (some .int)) (by decide) rfl ?_
  intro p e s m args below meth c s₁ B hml hv
  obtain ⟨rfl, hsz, hP, hK, hD0, -⟩ := hv
  have hx := B.exec
  have hb := B.bytes
  have hr := B.returns
  have htu : ∀ w ∈ CU, w.before _ s = true := fun w h => atoms_spec (ws := (wC yX6_runRec cX6_runRec 4 (some .int))) B.pre w (List.mem_cons_of_mem _ h)
  have hown : s.vm.findClass RX6 = some m.cls := findClass_of_methodNamed B.named
  have hlocks := B.notSynchronized
  subst hsz
  have hD : cD (cA G S s.heap.size) G S := cD_self hD0
  have hl := lv_entry ([.ref (ga G 5), .int n, .int sg, .int (nI dp)]) (n := 4) (Nat.le_of_ble_eq_true rfl)
  rw [lg_entry_eq]
  generalize (lg_sl ([.ref (ga G 5), .int n, .int sg, .int (nI dp)]) ++ List.replicate (4 - (lg_sl ([.ref (ga G 5), .int n, .int sg, .int (nI dp)])).length) Slot.unset).toArray = ls at hl ⊢
  have hl : lv_has ls 4 [(0, .ref (ga G 5)), (1, .int n), (2, .int sg), (3, .int (nI dp))] := hl
  obtain ⟨H, hHe⟩ : ∃ H : Heap, H = s.heap := ⟨_, rfl⟩
  rw [← hHe] at hP
  have hS : va_S (cA G S s.heap.size) s.heap H [] := by rw [hHe]; exact va_S.rf
  have hh : HS S S := HS.rf
  have hpp : PT S ≤ PT S := Nat.le_refl _
  have hB9 := hC.1
  refine W.heq hHe ?_
  refine c_ent (S := S) ?_
  obtain ⟨hc1, hc2, hc3⟩ := id hc
  refine lv_aload_n hx hb dX6_runRec_0 rfl (lv_at hl 0 rfl) ?_
  refine lv_aload_n hx hb dX6_runRec_1 rfl (lv_at hl 0 rfl) ?_
  refine va_get (D := gD G) (ci := 6) (v := .ref (ga G 1)) (C := RX6) (T := TX6) (N := 14) hx hb htu cu_in6 hown hK hP 5 cw_5 rfl 0 (by decide) (htu _ C_162) (fun _ h9 => h9) rfl dX6_runRec_2 ?_
  refine lv_iload_n hx hb dX6_runRec_5 rfl (lv_at hl 1 rfl) ?_
  refine lv_iconst (v := 1) hx hb dX6_runRec_6 (by decide) ?_
  have hC0 := hC
  refine c_ci (c_runV (As := [.int n, .int 1]) (rest := [.ref (ga G 5)]) (q0 := 1) (ci := 3) ⟨hx, hb, hml, hown, htu⟩ (tt_partOf l G S N n 1 hC hT.1 H) (cwV 2 htu hU_X6_134 rfl rfl rfl (by decide +kernel) ⟨show 1 + 1 ≤ 2 * fu + 7 by omega, show 8 + (3 + 11) + 21 ≤ 60 * fu + 230 by omega⟩) hP hK hD hC hpp cw_1 rfl rfl hl.1 rfl (lv_room (Nat.le_of_ble_eq_true rfl)) dX6_runRec_7) hS hD hh hpp (fun r_1 S_2 H locs hw_3 hP hD hS hC hh hs_4 hpp => ?_)
  obtain ⟨-, hu9, hw_3⟩ := hw_3
  have hu9 := hu9.symm
  subst hu9
  refine lv_aload_n hx hb dX6_runRec_10 rfl (lv_at hl 0 rfl) ?_
  refine lv_aload_n hx hb dX6_runRec_11 rfl (lv_at hl 0 rfl) ?_
  refine va_get (D := gD G) (ci := 6) (v := .ref (ga G 1)) (C := RX6) (T := TX6) (N := 14) hx hb htu cu_in6 hown hK hP 5 cw_5 rfl 0 (by decide) (htu _ C_162) (fun _ h9 => h9) rfl dX6_runRec_12 ?_
  refine lv_iload_n hx hb dX6_runRec_15 rfl (lv_at hl 1 rfl) ?_
  have hC0 := hC
  refine c_ci (c_runV (As := [.int n]) (rest := [.ref (ga G 5), .int r_1, .ref (ga G 5)]) (q0 := 1) (ci := 3) ⟨hx, hb, hml, hown, htu⟩ (tt_markOf l G S N n hC hT.1 H) (cwV 1 htu hU_X6_94 rfl rfl rfl (by decide +kernel) ⟨show 1 + 1 ≤ 2 * fu + 7 by omega, show 8 + (2 + 11) + 21 ≤ 60 * fu + 230 by omega⟩) hP hK hD hC hpp cw_1 rfl rfl hl.1 rfl (lv_room (Nat.le_of_ble_eq_true rfl)) dX6_runRec_16) hS hD hh hpp (fun r_5 S_6 H locs hw_7 hP hD hS hC hh hs_8 hpp => ?_)
  obtain ⟨-, hu9, hw_7⟩ := hw_7
  have hu9 := hu9.symm
  subst hu9
  refine lv_bipush (v := (-9)) hx hb dX6_runRec_19 (by decide) ?_
  refine lv_iload_n hx hb dX6_runRec_21 rfl (lv_at hl 1 rfl) ?_
  refine lv_iload_n hx hb dX6_runRec_22 rfl (lv_at hl 2 rfl) ?_
  have si_9l : s9 + 1 ≤ bg := by omega
  have hC0 := hC
  refine c_ci (c_runV (As := [.int r_5, .int ((-9)), .int n, .int sg]) (rest := [.int r_1, .ref (ga G 5)]) (q0 := 5) (ci := 6) ⟨hx, hb, hml, hown, htu⟩ (w_addSight l G S s9 r_5 ((-9)) n sg hC hW.2.2.1.1 hW.2.2.1.2.1 hW.2.2.1.2.2.1 hW.2.2.1.2.2.2 ((sl3 hW si_9l)) H) (cwV 4 htu hU_X6_137 rfl rfl rfl (by decide +kernel) ⟨show 3 + 1 ≤ 2 * fu + 7 by omega, show 8 + (5 + 11) + 103 ≤ 60 * fu + 230 by omega⟩) hP hK hD hC hpp cw_5 rfl rfl hl.1 rfl (lv_room (Nat.le_of_ble_eq_true rfl)) dX6_runRec_23) hS hD hh hpp (fun r_10 S_11 H locs hw_12 hP hD hS hC hh hs_13 hpp => ?_)
  try dsimp only at hw_12
  have aw_14 : AW [31, 32, 33, 34] [] S S_11 := hw_12.1
  have aw_14t : AW [27, 28, 29, 30, 31, 32, 33, 34] [111, 112] S S_11 := AW.rf.tr (aw_14.mono (by decide) (by decide))
  have tj_15 : TJ S_11 N := TJ.aw hT aw_14 (by decide)
  have si_9 := WR.sgt hW aw_14 hw_12.2 si_9l
  refine lv_iload_n hx hb dX6_runRec_26 rfl (lv_at hl 3 rfl) ?_
  refine lv_iconst (v := 1) hx hb dX6_runRec_27 (by decide) ?_
  refine lv_iadd hx hb dX6_runRec_28 ?_
  refine m_top (y := nI (dp + 1)) (nI_add dp 1) ?_
  have hC0 := hC
  refine c_ci (c_runV (As := [.int r_1, .int r_10, .int (nI (dp + 1))]) (rest := []) (q0 := 5) (ci := 6) ⟨hx, hb, hml, hown, htu⟩ (ih l G S_11 al v9 ((s9 + 1)) f9 bg N (dp + 1) r_1 r_10 hC si_9 tj_15 ((by omega)) H) (cwV 3 htu hU_X6_62 rfl rfl rfl (by decide +kernel) ⟨show (2 * fu + 6) + 1 ≤ 2 * fu + 7 by omega, show 8 + (4 + 11) + (60 * fu + 200) ≤ 60 * fu + 230 by omega⟩) hP hK hD hC hpp cw_5 rfl rfl hl.1 rfl (lv_room (Nat.le_of_ble_eq_true rfl)) dX6_runRec_29) hS hD hh hpp (fun r_16 S_17 H locs hw_18 hP hD hS hC hh hs_19 hpp => ?_)
  try dsimp only at hw_18
  have aw_20 : AW [27, 28, 29, 30, 31, 32, 33, 34] [111, 112] S_11 S_17 := hw_18.1
  have aw_20t : AW [27, 28, 29, 30, 31, 32, 33, 34] [111, 112] S S_17 := aw_14t.tr (aw_20.mono (by decide) (by decide))
  have tj_21 : TJ S_17 N := TJ.aw tj_15 aw_20 (by decide)
  have wx_22x := hw_18.2
  obtain ⟨wx_22v, wx_22s, wx_22f, wx_22b, wx_22, wx_221, wx_222, wx_223, wx_224⟩ := id wx_22x
  exact c_iret (v := r_16) hx hb hr hK hP hD hS hC hh hpp ⟨aw_20t, (wx_22.x (by omega))⟩ dX6_runRec_32 hlocks

set_option maxHeartbeats 4000000 in
set_option maxRecDepth 100000 in
/-- runPick -/
theorem w_runPick (l : Launch) (G : cG) (S : cS) (fu : Nat) (al : Nat) (v9 : Nat) (s9 : Nat) (f9 : Nat) (bg : Nat) (N : Nat) (dp : Nat) (n : Int32) (sg : Int32) (hC : CL S) (ih : cRunAt fu) (hW : WR S al v9 s9 f9 bg) (hT : TJ S N) (hdp : dp + (fu + 1) = 61) (hc : v9 + 1 ≤ bg ∧ s9 + 1 ≤ bg ∧ f9 + 6 ≤ 6 * bg) (Hs : Heap) : Met l yX6_runPick (wC yX6_runPick cX6_runPick 5 (some .int)) (cRm S (2 * fu + 7) (60 * fu + 230)) (cPc G S Hs [.ref (ga G 5), .int n, .int sg, .int (nI dp)]) (cQi G S Hs (fun v u => AW [27, 28, 29, 30, 31, 32, 33, 34] [111, 112] S u ∧ (WX u al v9 s9 f9 bg 1))) (CC - PT S) (12 * (CC - PT S)) (cA G S Hs.size) := by
  refine Met.ofW (cc := cX6_runPick) (maxL := 5) (ret := (some .int)) (by decide) rfl ?_
  intro p e s m args below meth c s₁ B hml hv
  obtain ⟨rfl, hsz, hP, hK, hD0, -⟩ := hv
  have hx := B.exec
  have hb := B.bytes
  have hr := B.returns
  have htu : ∀ w ∈ CU, w.before _ s = true := fun w h => atoms_spec (ws := (wC yX6_runPick cX6_runPick 5 (some .int))) B.pre w (List.mem_cons_of_mem _ h)
  have hown : s.vm.findClass RX6 = some m.cls := findClass_of_methodNamed B.named
  have hlocks := B.notSynchronized
  subst hsz
  have hD : cD (cA G S s.heap.size) G S := cD_self hD0
  have hl := lv_entry ([.ref (ga G 5), .int n, .int sg, .int (nI dp)]) (n := 5) (Nat.le_of_ble_eq_true rfl)
  rw [lg_entry_eq]
  generalize (lg_sl ([.ref (ga G 5), .int n, .int sg, .int (nI dp)]) ++ List.replicate (5 - (lg_sl ([.ref (ga G 5), .int n, .int sg, .int (nI dp)])).length) Slot.unset).toArray = ls at hl ⊢
  have hl : lv_has ls 5 [(0, .ref (ga G 5)), (1, .int n), (2, .int sg), (3, .int (nI dp))] := hl
  obtain ⟨H, hHe⟩ : ∃ H : Heap, H = s.heap := ⟨_, rfl⟩
  rw [← hHe] at hP
  have hS : va_S (cA G S s.heap.size) s.heap H [] := by rw [hHe]; exact va_S.rf
  have hh : HS S S := HS.rf
  have hpp : PT S ≤ PT S := Nat.le_refl _
  have hB9 := hC.1
  refine W.heq hHe ?_
  refine c_ent (S := S) ?_
  obtain ⟨hc1, hc2, hc3⟩ := id hc
  refine lv_aload_n hx hb dX6_runPick_0 rfl (lv_at hl 0 rfl) ?_
  refine lv_aload_n hx hb dX6_runPick_1 rfl (lv_at hl 0 rfl) ?_
  refine va_get (D := gD G) (ci := 6) (v := .ref (ga G 1)) (C := RX6) (T := TX6) (N := 14) hx hb htu cu_in6 hown hK hP 5 cw_5 rfl 0 (by decide) (htu _ C_162) (fun _ h9 => h9) rfl dX6_runPick_2 ?_
  refine lv_iload_n hx hb dX6_runPick_5 rfl (lv_at hl 1 rfl) ?_
  refine lv_iconst (v := 0) hx hb dX6_runPick_6 (by decide) ?_
  have hC0 := hC
  refine c_ci (c_runV (As := [.int n, .int 0]) (rest := [.ref (ga G 5)]) (q0 := 1) (ci := 3) ⟨hx, hb, hml, hown, htu⟩ (tt_partOf l G S N n 0 hC hT.1 H) (cwV 2 htu hU_X6_134 rfl rfl rfl (by decide +kernel) ⟨show 1 + 1 ≤ 2 * fu + 7 by omega, show 8 + (3 + 11) + 21 ≤ 60 * fu + 230 by omega⟩) hP hK hD hC hpp cw_1 rfl rfl hl.1 rfl (lv_room (Nat.le_of_ble_eq_true rfl)) dX6_runPick_7) hS hD hh hpp (fun r_1 S_2 H locs hw_3 hP hD hS hC hh hs_4 hpp => ?_)
  obtain ⟨-, hu9, hw_3⟩ := hw_3
  have hu9 := hu9.symm
  subst hu9
  refine lv_iload_n hx hb dX6_runPick_10 rfl (lv_at hl 2 rfl) ?_
  refine lv_iload_n hx hb dX6_runPick_11 rfl (lv_at hl 3 rfl) ?_
  refine lv_iconst (v := 1) hx hb dX6_runPick_12 (by decide) ?_
  refine lv_iadd hx hb dX6_runPick_13 ?_
  refine m_top (y := nI (dp + 1)) (nI_add dp 1) ?_
  have hC0 := hC
  refine c_ci (c_runV (As := [.int r_1, .int sg, .int (nI (dp + 1))]) (rest := []) (q0 := 5) (ci := 6) ⟨hx, hb, hml, hown, htu⟩ (ih l G S al v9 s9 f9 bg N (dp + 1) r_1 sg hC hW hT ((by omega)) H) (cwV 3 htu hU_X6_62 rfl rfl rfl (by decide +kernel) ⟨show (2 * fu + 6) + 1 ≤ 2 * fu + 7 by omega, show 8 + (4 + 11) + (60 * fu + 200) ≤ 60 * fu + 230 by omega⟩) hP hK hD hC hpp cw_5 rfl rfl hl.1 rfl (lv_room (Nat.le_of_ble_eq_true rfl)) dX6_runPick_14) hS hD hh hpp (fun r_5 S_6 H locs hw_7 hP hD hS hC hh hs_8 hpp => ?_)
  try dsimp only at hw_7
  have aw_9 : AW [27, 28, 29, 30, 31, 32, 33, 34] [111, 112] S S_6 := hw_7.1
  have aw_9t : AW [27, 28, 29, 30, 31, 32, 33, 34] [111, 112] S S_6 := AW.rf.tr (aw_9.mono (by decide) (by decide))
  have tj_10 : TJ S_6 N := TJ.aw hT aw_9 (by decide)
  have wx_11x := hw_7.2
  obtain ⟨wx_11v, wx_11s, wx_11f, wx_11b, wx_11, wx_111, wx_112, wx_113, wx_114⟩ := id wx_11x
  refine lv_istore (lv' := [(4, .int r_5), (0, .ref (ga G 5)), (1, .int n), (2, .int sg), (3, .int (nI dp))]) hx hb dX6_runPick_17 hl (by decide) rfl (fun ls hl => ?_)
  refine lv_iload hx hb dX6_runPick_19 (lv_at hl 0 rfl) ?_
  refine lv_if_ge (tgt := 27) hx hb dX6_runPick_21 (by decide) (fun c_12 => ?_) (fun c_12 => ?_)
  · skip
    refine lv_aload_n hx hb dX6_runPick_27 rfl (lv_at hl 1 rfl) ?_
    refine va_get (D := gD G) (ci := 6) (v := .ref (kH S 27)) (C := RX6) (T := TX6) (N := 14) hx hb htu cu_in6 hown hK hP 5 cw_5 rfl 2 (by decide) (htu _ C_152) (fun _ h9 => h9) (c_hv (hh.2 27 (lt35 (by decide)))) dX6_runPick_28 ?_
    refine lv_iload hx hb dX6_runPick_31 (lv_at hl 0 rfl) ?_
    have hC0 := hC
    refine c_ci (c_runV (As := [.int r_5]) (rest := []) (q0 := (2 * 27 + 13)) (ci := 0) ⟨hx, hb, hml, hown, htu⟩ (c_getA l G S_6 27 (lt35 (by decide)) hC (kH S 27) (hh.2 27 (lt35 (by decide))) r_5 H) (cwV 1 htu hU_X6_131 rfl rfl rfl (by decide +kernel) ⟨show 0 + 1 ≤ 2 * fu + 7 by omega, show 8 + (2 + 11) + 0 ≤ 60 * fu + 230 by omega⟩) hP hK hD hC hpp (c_hd (hh.2 27 (lt35 (by decide))) (cw_row (lt35 (by decide)))) rfl rfl hl.1 rfl (lv_room (Nat.le_of_ble_eq_true rfl)) dX6_runPick_33) hS hD hh hpp (fun r_13 S_14 H locs hw_15 hP hD hS hC hh hs_16 hpp => ?_)
    obtain ⟨hu9, hw_15⟩ := hw_15
    have hu9 := hu9.symm
    subst hu9
    refine lv_iconst (v := 1) hx hb dX6_runPick_36 (by decide) ?_
    refine lv_icmp_eq (tgt := 46) hx hb dX6_runPick_37 (by decide) (fun c_17 => ?_) (fun c_17 => ?_)
    · skip
      refine lv_aload_n hx hb dX6_runPick_46 rfl (lv_at hl 1 rfl) ?_
      refine lv_aload_n hx hb dX6_runPick_47 rfl (lv_at hl 1 rfl) ?_
      refine va_get (D := gD G) (ci := 6) (v := .ref (ga G 1)) (C := RX6) (T := TX6) (N := 14) hx hb htu cu_in6 hown hK hP 5 cw_5 rfl 0 (by decide) (htu _ C_162) (fun _ h9 => h9) rfl dX6_runPick_48 ?_
      refine lv_iload_n hx hb dX6_runPick_51 rfl (lv_at hl 2 rfl) ?_
      refine lv_aload_n hx hb dX6_runPick_52 rfl (lv_at hl 1 rfl) ?_
      refine va_get (D := gD G) (ci := 6) (v := .ref (kH S 28)) (C := RX6) (T := TX6) (N := 14) hx hb htu cu_in6 hown hK hP 5 cw_5 rfl 3 (by decide) (htu _ C_153) (fun _ h9 => h9) (c_hv (hh.2 28 (lt35 (by decide)))) dX6_runPick_53 ?_
      refine lv_iload hx hb dX6_runPick_56 (lv_at hl 0 rfl) ?_
      have hC0 := hC
      refine c_ci (c_runV (As := [.int r_5]) (rest := [.int n, .ref (ga G 1), .ref (ga G 5)]) (q0 := (2 * 28 + 13)) (ci := 0) ⟨hx, hb, hml, hown, htu⟩ (c_getA l G S_6 28 (lt35 (by decide)) hC (kH S 28) (hh.2 28 (lt35 (by decide))) r_5 H) (cwV 1 htu hU_X6_131 rfl rfl rfl (by decide +kernel) ⟨show 0 + 1 ≤ 2 * fu + 7 by omega, show 8 + (2 + 11) + 0 ≤ 60 * fu + 230 by omega⟩) hP hK hD hC hpp (c_hd (hh.2 28 (lt35 (by decide))) (cw_row (lt35 (by decide)))) rfl rfl hl.1 rfl (lv_room (Nat.le_of_ble_eq_true rfl)) dX6_runPick_58) hS hD hh hpp (fun r_18 S_19 H locs hw_20 hP hD hS hC hh hs_21 hpp => ?_)
      obtain ⟨hu9, hw_20⟩ := hw_20
      have hu9 := hu9.symm
      subst hu9
      refine lv_iconst (v := 1) hx hb dX6_runPick_61 (by decide) ?_
      refine lv_icmp_ne (tgt := 69) hx hb dX6_runPick_62 (by decide) (fun c_22 => ?_) (fun c_22 => ?_)
      · skip
        refine lv_iconst (v := 2) hx hb dX6_runPick_69 (by decide) ?_
        have hC0 := hC
        refine c_ci (c_runV (As := [.int n, .int 2]) (rest := [.ref (ga G 5)]) (q0 := 1) (ci := 3) ⟨hx, hb, hml, hown, htu⟩ (tt_partOf l G S_6 N n 2 hC tj_10.1 H) (cwV 2 htu hU_X6_134 rfl rfl rfl (by decide +kernel) ⟨show 1 + 1 ≤ 2 * fu + 7 by omega, show 8 + (3 + 11) + 21 ≤ 60 * fu + 230 by omega⟩) hP hK hD hC hpp cw_1 rfl rfl hl.1 rfl (lv_room (Nat.le_of_ble_eq_true rfl)) dX6_runPick_70) hS hD hh hpp (fun r_23 S_24 H locs hw_25 hP hD hS hC hh hs_26 hpp => ?_)
        obtain ⟨-, hu9, hw_25⟩ := hw_25
        have hu9 := hu9.symm
        subst hu9
        refine lv_iload_n hx hb dX6_runPick_73 rfl (lv_at hl 3 rfl) ?_
        refine lv_iload_n hx hb dX6_runPick_74 rfl (lv_at hl 4 rfl) ?_
        refine lv_iconst (v := 1) hx hb dX6_runPick_75 (by decide) ?_
        refine lv_iadd hx hb dX6_runPick_76 ?_
        refine m_top (y := nI (dp + 1)) (nI_add dp 1) ?_
        have hC0 := hC
        refine c_ci (c_runV (As := [.int r_23, .int sg, .int (nI (dp + 1))]) (rest := []) (q0 := 5) (ci := 6) ⟨hx, hb, hml, hown, htu⟩ (ih l G S_6 al wx_11v wx_11s wx_11f wx_11b N (dp + 1) r_23 sg hC wx_11 tj_10 ((by omega)) H) (cwV 3 htu hU_X6_62 rfl rfl rfl (by decide +kernel) ⟨show (2 * fu + 6) + 1 ≤ 2 * fu + 7 by omega, show 8 + (4 + 11) + (60 * fu + 200) ≤ 60 * fu + 230 by omega⟩) hP hK hD hC hpp cw_5 rfl rfl hl.1 rfl (lv_room (Nat.le_of_ble_eq_true rfl)) dX6_runPick_77) hS hD hh hpp (fun r_27 S_28 H locs hw_29 hP hD hS hC hh hs_30 hpp => ?_)
        try dsimp only at hw_29
        have aw_31 : AW [27, 28, 29, 30, 31, 32, 33, 34] [111, 112] S_6 S_28 := hw_29.1
        have aw_31t : AW [27, 28, 29, 30, 31, 32, 33, 34] [111, 112] S S_28 := aw_9t.tr (aw_31.mono (by decide) (by decide))
        have tj_32 : TJ S_28 N := TJ.aw tj_10 aw_31 (by decide)
        have wx_33x := hw_29.2
        obtain ⟨wx_33v, wx_33s, wx_33f, wx_33b, wx_33, wx_331, wx_332, wx_333, wx_334⟩ := id wx_33x
        exact c_iret (v := r_27) hx hb hr hK hP hD hS hC hh hpp ⟨aw_31t, (wx_33.x (by omega))⟩ dX6_runPick_80 hlocks
      · skip
        refine lv_iconst (v := 1) hx hb dX6_runPick_65 (by decide) ?_
        refine lv_goto (tgt := 70) hx hb dX6_runPick_66 (by decide) ?_
        have hC0 := hC
        refine c_ci (c_runV (As := [.int n, .int 1]) (rest := [.ref (ga G 5)]) (q0 := 1) (ci := 3) ⟨hx, hb, hml, hown, htu⟩ (tt_partOf l G S_6 N n 1 hC tj_10.1 H) (cwV 2 htu hU_X6_134 rfl rfl rfl (by decide +kernel) ⟨show 1 + 1 ≤ 2 * fu + 7 by omega, show 8 + (3 + 11) + 21 ≤ 60 * fu + 230 by omega⟩) hP hK hD hC hpp cw_1 rfl rfl hl.1 rfl (lv_room (Nat.le_of_ble_eq_true rfl)) dX6_runPick_70) hS hD hh hpp (fun r_34 S_35 H locs hw_36 hP hD hS hC hh hs_37 hpp => ?_)
        obtain ⟨-, hu9, hw_36⟩ := hw_36
        have hu9 := hu9.symm
        subst hu9
        refine lv_iload_n hx hb dX6_runPick_73 rfl (lv_at hl 3 rfl) ?_
        refine lv_iload_n hx hb dX6_runPick_74 rfl (lv_at hl 4 rfl) ?_
        refine lv_iconst (v := 1) hx hb dX6_runPick_75 (by decide) ?_
        refine lv_iadd hx hb dX6_runPick_76 ?_
        refine m_top (y := nI (dp + 1)) (nI_add dp 1) ?_
        have hC0 := hC
        refine c_ci (c_runV (As := [.int r_34, .int sg, .int (nI (dp + 1))]) (rest := []) (q0 := 5) (ci := 6) ⟨hx, hb, hml, hown, htu⟩ (ih l G S_6 al wx_11v wx_11s wx_11f wx_11b N (dp + 1) r_34 sg hC wx_11 tj_10 ((by omega)) H) (cwV 3 htu hU_X6_62 rfl rfl rfl (by decide +kernel) ⟨show (2 * fu + 6) + 1 ≤ 2 * fu + 7 by omega, show 8 + (4 + 11) + (60 * fu + 200) ≤ 60 * fu + 230 by omega⟩) hP hK hD hC hpp cw_5 rfl rfl hl.1 rfl (lv_room (Nat.le_of_ble_eq_true rfl)) dX6_runPick_77) hS hD hh hpp (fun r_38 S_39 H locs hw_40 hP hD hS hC hh hs_41 hpp => ?_)
        try dsimp only at hw_40
        have aw_42 : AW [27, 28, 29, 30, 31, 32, 33, 34] [111, 112] S_6 S_39 := hw_40.1
        have aw_42t : AW [27, 28, 29, 30, 31, 32, 33, 34] [111, 112] S S_39 := aw_9t.tr (aw_42.mono (by decide) (by decide))
        have tj_43 : TJ S_39 N := TJ.aw tj_10 aw_42 (by decide)
        have wx_44x := hw_40.2
        obtain ⟨wx_44v, wx_44s, wx_44f, wx_44b, wx_44, wx_441, wx_442, wx_443, wx_444⟩ := id wx_44x
        exact c_iret (v := r_38) hx hb hr hK hP hD hS hC hh hpp ⟨aw_42t, (wx_44.x (by omega))⟩ dX6_runPick_80 hlocks
    · skip
      refine lv_aload_n hx hb dX6_runPick_40 rfl (lv_at hl 1 rfl) ?_
      refine lv_iload_n hx hb dX6_runPick_41 rfl (lv_at hl 2 rfl) ?_
      have hC0 := hC
      refine c_ci (c_runV (As := [.int n]) (rest := []) (q0 := 5) (ci := 6) ⟨hx, hb, hml, hown, htu⟩ (w_stuckAt l G S_6 n hC  H) (cwV 1 htu hU_X6_128 rfl rfl rfl (by decide +kernel) ⟨show 0 + 1 ≤ 2 * fu + 7 by omega, show 8 + (2 + 11) + 0 ≤ 60 * fu + 230 by omega⟩) hP hK hD hC hpp cw_5 rfl rfl hl.1 rfl (lv_room (Nat.le_of_ble_eq_true rfl)) dX6_runPick_42) hS hD hh hpp (fun r_45 S_46 H locs hw_47 hP hD hS hC hh hs_48 hpp => ?_)
      try dsimp only at hw_47
      have aw_49 : AW [] [112] S_6 S_46 := hw_47.1
      have aw_49t : AW [27, 28, 29, 30, 31, 32, 33, 34] [111, 112] S S_46 := aw_9t.tr (aw_49.mono (by decide) (by decide))
      have tj_50 : TJ S_46 N := TJ.aw tj_10 aw_49 (by decide)
      have sk_51 := WR.aw wx_11 aw_49 (by decide) (by decide)
      exact c_iret (v := r_45) hx hb hr hK hP hD hS hC hh hpp ⟨aw_49t, (sk_51.x (by omega))⟩ dX6_runPick_45 hlocks
  · skip
    refine lv_iload hx hb dX6_runPick_24 (lv_at hl 0 rfl) ?_
    exact c_iret (v := r_5) hx hb hr hK hP hD hS hC hh hpp ⟨aw_9t, (wx_11.x (by omega))⟩ dX6_runPick_26 hlocks

set_option maxHeartbeats 4000000 in
set_option maxRecDepth 100000 in
/-- runWholes -/
theorem w_runWholes (l : Launch) (G : cG) (S : cS) (fu : Nat) (al : Nat) (v9 : Nat) (s9 : Nat) (f9 : Nat) (bg : Nat) (N : Nat) (dp : Nat) (n : Int32) (sg : Int32) (hC : CL S) (ih : cRunAt fu) (hW : WR S al v9 s9 f9 bg) (hT : TJ S N) (hdp : dp + (fu + 1) = 61) (hc : v9 + 1 ≤ bg ∧ s9 + 1 ≤ bg ∧ f9 + 6 ≤ 6 * bg) (Hs : Heap) : Met l yX6_runWholes (wC yX6_runWholes cX6_runWholes 8 (some .int)) (cRm S (2 * fu + 7) (60 * fu + 230)) (cPc G S Hs [.ref (ga G 5), .int n, .int sg, .int (nI dp)]) (cQi G S Hs (fun v u => AW [27, 28, 29, 30, 31, 32, 33, 34] [111, 112] S u ∧ (WX u al v9 s9 f9 bg 1))) (CC - PT S) (12 * (CC - PT S)) (cA G S Hs.size) := by
  refine Met.ofW (cc := cX6_runWholes) (maxL := 8) (ret := (some .int)) (by decide) rfl ?_
  intro p e s m args below meth c s₁ B hml hv
  obtain ⟨rfl, hsz, hP, hK, hD0, -⟩ := hv
  have hx := B.exec
  have hb := B.bytes
  have hr := B.returns
  have htu : ∀ w ∈ CU, w.before _ s = true := fun w h => atoms_spec (ws := (wC yX6_runWholes cX6_runWholes 8 (some .int))) B.pre w (List.mem_cons_of_mem _ h)
  have hown : s.vm.findClass RX6 = some m.cls := findClass_of_methodNamed B.named
  have hlocks := B.notSynchronized
  subst hsz
  have hD : cD (cA G S s.heap.size) G S := cD_self hD0
  have hl := lv_entry ([.ref (ga G 5), .int n, .int sg, .int (nI dp)]) (n := 8) (Nat.le_of_ble_eq_true rfl)
  rw [lg_entry_eq]
  generalize (lg_sl ([.ref (ga G 5), .int n, .int sg, .int (nI dp)]) ++ List.replicate (8 - (lg_sl ([.ref (ga G 5), .int n, .int sg, .int (nI dp)])).length) Slot.unset).toArray = ls at hl ⊢
  have hl : lv_has ls 8 [(0, .ref (ga G 5)), (1, .int n), (2, .int sg), (3, .int (nI dp))] := hl
  obtain ⟨H, hHe⟩ : ∃ H : Heap, H = s.heap := ⟨_, rfl⟩
  rw [← hHe] at hP
  have hS : va_S (cA G S s.heap.size) s.heap H [] := by rw [hHe]; exact va_S.rf
  have hh : HS S S := HS.rf
  have hpp : PT S ≤ PT S := Nat.le_refl _
  have hB9 := hC.1
  refine W.heq hHe ?_
  refine c_ent (S := S) ?_
  obtain ⟨hc1, hc2, hc3⟩ := id hc
  refine lv_aload_n hx hb dX6_runWholes_0 rfl (lv_at hl 0 rfl) ?_
  refine lv_aload_n hx hb dX6_runWholes_1 rfl (lv_at hl 0 rfl) ?_
  refine va_get (D := gD G) (ci := 6) (v := .ref (ga G 1)) (C := RX6) (T := TX6) (N := 14) hx hb htu cu_in6 hown hK hP 5 cw_5 rfl 0 (by decide) (htu _ C_162) (fun _ h9 => h9) rfl dX6_runWholes_2 ?_
  refine lv_iload_n hx hb dX6_runWholes_5 rfl (lv_at hl 1 rfl) ?_
  refine lv_iconst (v := 0) hx hb dX6_runWholes_6 (by decide) ?_
  have hC0 := hC
  refine c_ci (c_runV (As := [.int n, .int 0]) (rest := [.ref (ga G 5)]) (q0 := 1) (ci := 3) ⟨hx, hb, hml, hown, htu⟩ (tt_partOf l G S N n 0 hC hT.1 H) (cwV 2 htu hU_X6_134 rfl rfl rfl (by decide +kernel) ⟨show 1 + 1 ≤ 2 * fu + 7 by omega, show 8 + (3 + 11) + 21 ≤ 60 * fu + 230 by omega⟩) hP hK hD hC hpp cw_1 rfl rfl hl.1 rfl (lv_room (Nat.le_of_ble_eq_true rfl)) dX6_runWholes_7) hS hD hh hpp (fun r_1 S_2 H locs hw_3 hP hD hS hC hh hs_4 hpp => ?_)
  obtain ⟨-, hu9, hw_3⟩ := hw_3
  have hu9 := hu9.symm
  subst hu9
  refine lv_iload_n hx hb dX6_runWholes_10 rfl (lv_at hl 2 rfl) ?_
  refine lv_iload_n hx hb dX6_runWholes_11 rfl (lv_at hl 3 rfl) ?_
  refine lv_iconst (v := 1) hx hb dX6_runWholes_12 (by decide) ?_
  refine lv_iadd hx hb dX6_runWholes_13 ?_
  refine m_top (y := nI (dp + 1)) (nI_add dp 1) ?_
  have hC0 := hC
  refine c_ci (c_runV (As := [.int r_1, .int sg, .int (nI (dp + 1))]) (rest := []) (q0 := 5) (ci := 6) ⟨hx, hb, hml, hown, htu⟩ (ih l G S al v9 s9 f9 bg N (dp + 1) r_1 sg hC hW hT ((by omega)) H) (cwV 3 htu hU_X6_62 rfl rfl rfl (by decide +kernel) ⟨show (2 * fu + 6) + 1 ≤ 2 * fu + 7 by omega, show 8 + (4 + 11) + (60 * fu + 200) ≤ 60 * fu + 230 by omega⟩) hP hK hD hC hpp cw_5 rfl rfl hl.1 rfl (lv_room (Nat.le_of_ble_eq_true rfl)) dX6_runWholes_14) hS hD hh hpp (fun r_5 S_6 H locs hw_7 hP hD hS hC hh hs_8 hpp => ?_)
  try dsimp only at hw_7
  have aw_9 : AW [27, 28, 29, 30, 31, 32, 33, 34] [111, 112] S S_6 := hw_7.1
  have aw_9t : AW [27, 28, 29, 30, 31, 32, 33, 34] [111, 112] S S_6 := AW.rf.tr (aw_9.mono (by decide) (by decide))
  have tj_10 : TJ S_6 N := TJ.aw hT aw_9 (by decide)
  have wx_11x := hw_7.2
  obtain ⟨wx_11v, wx_11s, wx_11f, wx_11b, wx_11, wx_111, wx_112, wx_113, wx_114⟩ := id wx_11x
  refine lv_istore (lv' := [(4, .int r_5), (0, .ref (ga G 5)), (1, .int n), (2, .int sg), (3, .int (nI dp))]) hx hb dX6_runWholes_17 hl (by decide) rfl (fun ls hl => ?_)
  refine lv_iload hx hb dX6_runWholes_19 (lv_at hl 0 rfl) ?_
  refine lv_if_ge (tgt := 27) hx hb dX6_runWholes_21 (by decide) (fun c_12 => ?_) (fun c_12 => ?_)
  · skip
    refine lv_aload_n hx hb dX6_runWholes_27 rfl (lv_at hl 1 rfl) ?_
    refine lv_aload_n hx hb dX6_runWholes_28 rfl (lv_at hl 1 rfl) ?_
    refine va_get (D := gD G) (ci := 6) (v := .ref (ga G 1)) (C := RX6) (T := TX6) (N := 14) hx hb htu cu_in6 hown hK hP 5 cw_5 rfl 0 (by decide) (htu _ C_162) (fun _ h9 => h9) rfl dX6_runWholes_29 ?_
    refine lv_iload_n hx hb dX6_runWholes_32 rfl (lv_at hl 2 rfl) ?_
    refine lv_iconst (v := 1) hx hb dX6_runWholes_33 (by decide) ?_
    have hC0 := hC
    refine c_ci (c_runV (As := [.int n, .int 1]) (rest := [.ref (ga G 5)]) (q0 := 1) (ci := 3) ⟨hx, hb, hml, hown, htu⟩ (tt_partOf l G S_6 N n 1 hC tj_10.1 H) (cwV 2 htu hU_X6_134 rfl rfl rfl (by decide +kernel) ⟨show 1 + 1 ≤ 2 * fu + 7 by omega, show 8 + (3 + 11) + 21 ≤ 60 * fu + 230 by omega⟩) hP hK hD hC hpp cw_1 rfl rfl hl.1 rfl (lv_room (Nat.le_of_ble_eq_true rfl)) dX6_runWholes_34) hS hD hh hpp (fun r_13 S_14 H locs hw_15 hP hD hS hC hh hs_16 hpp => ?_)
    obtain ⟨-, hu9, hw_15⟩ := hw_15
    have hu9 := hu9.symm
    subst hu9
    refine lv_iload_n hx hb dX6_runWholes_37 rfl (lv_at hl 3 rfl) ?_
    refine lv_iload_n hx hb dX6_runWholes_38 rfl (lv_at hl 4 rfl) ?_
    refine lv_iconst (v := 1) hx hb dX6_runWholes_39 (by decide) ?_
    refine lv_iadd hx hb dX6_runWholes_40 ?_
    refine m_top (y := nI (dp + 1)) (nI_add dp 1) ?_
    have hC0 := hC
    refine c_ci (c_runV (As := [.int r_13, .int sg, .int (nI (dp + 1))]) (rest := []) (q0 := 5) (ci := 6) ⟨hx, hb, hml, hown, htu⟩ (ih l G S_6 al wx_11v wx_11s wx_11f wx_11b N (dp + 1) r_13 sg hC wx_11 tj_10 ((by omega)) H) (cwV 3 htu hU_X6_62 rfl rfl rfl (by decide +kernel) ⟨show (2 * fu + 6) + 1 ≤ 2 * fu + 7 by omega, show 8 + (4 + 11) + (60 * fu + 200) ≤ 60 * fu + 230 by omega⟩) hP hK hD hC hpp cw_5 rfl rfl hl.1 rfl (lv_room (Nat.le_of_ble_eq_true rfl)) dX6_runWholes_41) hS hD hh hpp (fun r_17 S_18 H locs hw_19 hP hD hS hC hh hs_20 hpp => ?_)
    try dsimp only at hw_19
    have aw_21 : AW [27, 28, 29, 30, 31, 32, 33, 34] [111, 112] S_6 S_18 := hw_19.1
    have aw_21t : AW [27, 28, 29, 30, 31, 32, 33, 34] [111, 112] S S_18 := aw_9t.tr (aw_21.mono (by decide) (by decide))
    have tj_22 : TJ S_18 N := TJ.aw tj_10 aw_21 (by decide)
    have wx_23x := hw_19.2
    obtain ⟨wx_23v, wx_23s, wx_23f, wx_23b, wx_23, wx_231, wx_232, wx_233, wx_234⟩ := id wx_23x
    refine lv_istore (lv' := [(5, .int r_17), (4, .int r_5), (0, .ref (ga G 5)), (1, .int n), (2, .int sg), (3, .int (nI dp))]) hx hb dX6_runWholes_44 hl (by decide) rfl (fun ls hl => ?_)
    refine lv_iload hx hb dX6_runWholes_46 (lv_at hl 0 rfl) ?_
    refine lv_if_ge (tgt := 54) hx hb dX6_runWholes_48 (by decide) (fun c_24 => ?_) (fun c_24 => ?_)
    · skip
      refine lv_aload_n hx hb dX6_runWholes_54 rfl (lv_at hl 2 rfl) ?_
      refine va_get (D := gD G) (ci := 6) (v := .ref (kH S 27)) (C := RX6) (T := TX6) (N := 14) hx hb htu cu_in6 hown hK hP 5 cw_5 rfl 2 (by decide) (htu _ C_152) (fun _ h9 => h9) (c_hv (hh.2 27 (lt35 (by decide)))) dX6_runWholes_55 ?_
      refine lv_iload hx hb dX6_runWholes_58 (lv_at hl 1 rfl) ?_
      have hC0 := hC
      refine c_ci (c_runV (As := [.int r_5]) (rest := []) (q0 := (2 * 27 + 13)) (ci := 0) ⟨hx, hb, hml, hown, htu⟩ (c_getA l G S_18 27 (lt35 (by decide)) hC (kH S 27) (hh.2 27 (lt35 (by decide))) r_5 H) (cwV 1 htu hU_X6_131 rfl rfl rfl (by decide +kernel) ⟨show 0 + 1 ≤ 2 * fu + 7 by omega, show 8 + (2 + 11) + 0 ≤ 60 * fu + 230 by omega⟩) hP hK hD hC hpp (c_hd (hh.2 27 (lt35 (by decide))) (cw_row (lt35 (by decide)))) rfl rfl hl.1 rfl (lv_room (Nat.le_of_ble_eq_true rfl)) dX6_runWholes_60) hS hD hh hpp (fun r_25 S_26 H locs hw_27 hP hD hS hC hh hs_28 hpp => ?_)
      obtain ⟨hu9, hw_27⟩ := hw_27
      have hu9 := hu9.symm
      subst hu9
      refine lv_if_ne (tgt := 78) hx hb dX6_runWholes_63 (by decide) (fun c_29 => ?_) (fun c_29 => ?_)
      · skip
        refine lv_aload_n hx hb dX6_runWholes_78 rfl (lv_at hl 2 rfl) ?_
        refine lv_iload_n hx hb dX6_runWholes_79 rfl (lv_at hl 3 rfl) ?_
        have hC0 := hC
        refine c_ci (c_runV (As := [.int n]) (rest := []) (q0 := 5) (ci := 6) ⟨hx, hb, hml, hown, htu⟩ (w_stuckAt l G S_18 n hC  H) (cwV 1 htu hU_X6_128 rfl rfl rfl (by decide +kernel) ⟨show 0 + 1 ≤ 2 * fu + 7 by omega, show 8 + (2 + 11) + 0 ≤ 60 * fu + 230 by omega⟩) hP hK hD hC hpp cw_5 rfl rfl hl.1 rfl (lv_room (Nat.le_of_ble_eq_true rfl)) dX6_runWholes_80) hS hD hh hpp (fun r_30 S_31 H locs hw_32 hP hD hS hC hh hs_33 hpp => ?_)
        try dsimp only at hw_32
        have aw_34 : AW [] [112] S_18 S_31 := hw_32.1
        have aw_34t : AW [27, 28, 29, 30, 31, 32, 33, 34] [111, 112] S S_31 := aw_21t.tr (aw_34.mono (by decide) (by decide))
        have tj_35 : TJ S_31 N := TJ.aw tj_22 aw_34 (by decide)
        have sk_36 := WR.aw wx_23 aw_34 (by decide) (by decide)
        exact c_iret (v := r_30) hx hb hr hK hP hD hS hC hh hpp ⟨aw_34t, (sk_36.x (by omega))⟩ dX6_runWholes_83 hlocks
      · skip
        refine lv_aload_n hx hb dX6_runWholes_66 rfl (lv_at hl 2 rfl) ?_
        refine va_get (D := gD G) (ci := 6) (v := .ref (kH S 27)) (C := RX6) (T := TX6) (N := 14) hx hb htu cu_in6 hown hK hP 5 cw_5 rfl 2 (by decide) (htu _ C_152) (fun _ h9 => h9) (c_hv (hh.2 27 (lt35 (by decide)))) dX6_runWholes_67 ?_
        refine lv_iload hx hb dX6_runWholes_70 (lv_at hl 0 rfl) ?_
        have hC0 := hC
        refine c_ci (c_runV (As := [.int r_17]) (rest := []) (q0 := (2 * 27 + 13)) (ci := 0) ⟨hx, hb, hml, hown, htu⟩ (c_getA l G S_18 27 (lt35 (by decide)) hC (kH S 27) (hh.2 27 (lt35 (by decide))) r_17 H) (cwV 1 htu hU_X6_131 rfl rfl rfl (by decide +kernel) ⟨show 0 + 1 ≤ 2 * fu + 7 by omega, show 8 + (2 + 11) + 0 ≤ 60 * fu + 230 by omega⟩) hP hK hD hC hpp (c_hd (hh.2 27 (lt35 (by decide))) (cw_row (lt35 (by decide)))) rfl rfl hl.1 rfl (lv_room (Nat.le_of_ble_eq_true rfl)) dX6_runWholes_72) hS hD hh hpp (fun r_37 S_38 H locs hw_39 hP hD hS hC hh hs_40 hpp => ?_)
        obtain ⟨hu9, hw_39⟩ := hw_39
        have hu9 := hu9.symm
        subst hu9
        refine lv_if_eq (tgt := 84) hx hb dX6_runWholes_75 (by decide) (fun c_41 => ?_) (fun c_41 => ?_)
        · skip
          refine lv_aload_n hx hb dX6_runWholes_84 rfl (lv_at hl 2 rfl) ?_
          refine va_get (D := gD G) (ci := 6) (v := .ref (kH S 28)) (C := RX6) (T := TX6) (N := 14) hx hb htu cu_in6 hown hK hP 5 cw_5 rfl 3 (by decide) (htu _ C_153) (fun _ h9 => h9) (c_hv (hh.2 28 (lt35 (by decide)))) dX6_runWholes_85 ?_
          refine lv_iload hx hb dX6_runWholes_88 (lv_at hl 1 rfl) ?_
          have hC0 := hC
          refine c_ci (c_runV (As := [.int r_5]) (rest := []) (q0 := (2 * 28 + 13)) (ci := 0) ⟨hx, hb, hml, hown, htu⟩ (c_getA l G S_18 28 (lt35 (by decide)) hC (kH S 28) (hh.2 28 (lt35 (by decide))) r_5 H) (cwV 1 htu hU_X6_131 rfl rfl rfl (by decide +kernel) ⟨show 0 + 1 ≤ 2 * fu + 7 by omega, show 8 + (2 + 11) + 0 ≤ 60 * fu + 230 by omega⟩) hP hK hD hC hpp (c_hd (hh.2 28 (lt35 (by decide))) (cw_row (lt35 (by decide)))) rfl rfl hl.1 rfl (lv_room (Nat.le_of_ble_eq_true rfl)) dX6_runWholes_90) hS hD hh hpp (fun r_42 S_43 H locs hw_44 hP hD hS hC hh hs_45 hpp => ?_)
          obtain ⟨hu9, hw_44⟩ := hw_44
          have hu9 := hu9.symm
          subst hu9
          refine lv_istore (lv' := [(6, .int r_42), (5, .int r_17), (4, .int r_5), (0, .ref (ga G 5)), (1, .int n), (2, .int sg), (3, .int (nI dp))]) hx hb dX6_runWholes_93 hl (by decide) rfl (fun ls hl => ?_)
          refine lv_aload_n hx hb dX6_runWholes_95 rfl (lv_at hl 3 rfl) ?_
          refine va_get (D := gD G) (ci := 6) (v := .ref (kH S 28)) (C := RX6) (T := TX6) (N := 14) hx hb htu cu_in6 hown hK hP 5 cw_5 rfl 3 (by decide) (htu _ C_153) (fun _ h9 => h9) (c_hv (hh.2 28 (lt35 (by decide)))) dX6_runWholes_96 ?_
          refine lv_iload hx hb dX6_runWholes_99 (lv_at hl 1 rfl) ?_
          have hC0 := hC
          refine c_ci (c_runV (As := [.int r_17]) (rest := []) (q0 := (2 * 28 + 13)) (ci := 0) ⟨hx, hb, hml, hown, htu⟩ (c_getA l G S_18 28 (lt35 (by decide)) hC (kH S 28) (hh.2 28 (lt35 (by decide))) r_17 H) (cwV 1 htu hU_X6_131 rfl rfl rfl (by decide +kernel) ⟨show 0 + 1 ≤ 2 * fu + 7 by omega, show 8 + (2 + 11) + 0 ≤ 60 * fu + 230 by omega⟩) hP hK hD hC hpp (c_hd (hh.2 28 (lt35 (by decide))) (cw_row (lt35 (by decide)))) rfl rfl hl.1 rfl (lv_room (Nat.le_of_ble_eq_true rfl)) dX6_runWholes_101) hS hD hh hpp (fun r_46 S_47 H locs hw_48 hP hD hS hC hh hs_49 hpp => ?_)
          obtain ⟨hu9, hw_48⟩ := hw_48
          have hu9 := hu9.symm
          subst hu9
          refine lv_istore (lv' := [(7, .int r_46), (6, .int r_42), (5, .int r_17), (4, .int r_5), (0, .ref (ga G 5)), (1, .int n), (2, .int sg), (3, .int (nI dp))]) hx hb dX6_runWholes_104 hl (by decide) rfl (fun ls hl => ?_)
          refine lv_aload_n hx hb dX6_runWholes_106 rfl (lv_at hl 4 rfl) ?_
          refine va_get (D := gD G) (ci := 6) (v := .ref (ga G 1)) (C := RX6) (T := TX6) (N := 14) hx hb htu cu_in6 hown hK hP 5 cw_5 rfl 0 (by decide) (htu _ C_162) (fun _ h9 => h9) rfl dX6_runWholes_107 ?_
          refine lv_iload_n hx hb dX6_runWholes_110 rfl (lv_at hl 5 rfl) ?_
          have hC0 := hC
          refine c_ci (c_runV (As := [.int n]) (rest := []) (q0 := 1) (ci := 3) ⟨hx, hb, hml, hown, htu⟩ (tt_kindOf l G S_18 N n hC tj_22.1 H) (cwV 1 htu hU_X6_88 rfl rfl rfl (by decide +kernel) ⟨show 1 + 1 ≤ 2 * fu + 7 by omega, show 8 + (2 + 11) + 21 ≤ 60 * fu + 230 by omega⟩) hP hK hD hC hpp cw_1 rfl rfl hl.1 rfl (lv_room (Nat.le_of_ble_eq_true rfl)) dX6_runWholes_111) hS hD hh hpp (fun r_50 S_51 H locs hw_52 hP hD hS hC hh hs_53 hpp => ?_)
          obtain ⟨-, hu9, hw_52⟩ := hw_52
          have hu9 := hu9.symm
          subst hu9
          refine lv_bipush (v := 10) hx hb dX6_runWholes_114 (by decide) ?_
          refine lv_icmp_ne (tgt := 132) hx hb dX6_runWholes_116 (by decide) (fun c_54 => ?_) (fun c_54 => ?_)
          · skip
            refine lv_aload_n hx hb dX6_runWholes_132 rfl (lv_at hl 4 rfl) ?_
            refine lv_iconst (v := 1) hx hb dX6_runWholes_133 (by decide) ?_
            refine lv_iload hx hb dX6_runWholes_134 (lv_at hl 1 rfl) ?_
            refine lv_iload hx hb dX6_runWholes_136 (lv_at hl 0 rfl) ?_
            refine lv_icmp_ge (tgt := 145) hx hb dX6_runWholes_138 (by decide) (fun c_55 => ?_) (fun c_55 => ?_)
            · skip
              refine lv_iconst (v := 0) hx hb dX6_runWholes_145 (by decide) ?_
              refine lv_bipush (v := (-9)) hx hb dX6_runWholes_146 (by decide) ?_
              have va_56l : wx_23v + 1 ≤ wx_23b := by omega
              have hC0 := hC
              refine c_ci (c_runV (As := [.int 1, .int 0, .int ((-9))]) (rest := []) (q0 := 5) (ci := 6) ⟨hx, hb, hml, hown, htu⟩ (w_addValue l G S_18 wx_23v 1 0 ((-9)) hC wx_23.1.1 wx_23.1.2.1 wx_23.1.2.2 ((vl3 wx_23 va_56l)) H) (cwV 3 htu hU_X6_97 rfl rfl rfl (by decide +kernel) ⟨show 3 + 1 ≤ 2 * fu + 7 by omega, show 8 + (4 + 11) + 103 ≤ 60 * fu + 230 by omega⟩) hP hK hD hC hpp cw_5 rfl rfl hl.1 rfl (lv_room (Nat.le_of_ble_eq_true rfl)) dX6_runWholes_148) hS hD hh hpp (fun r_57 S_58 H locs hw_59 hP hD hS hC hh hs_60 hpp => ?_)
              try dsimp only at hw_59
              have aw_61 : AW [27, 28, 29] [] S_18 S_58 := hw_59.1
              have aw_61t : AW [27, 28, 29, 30, 31, 32, 33, 34] [111, 112] S S_58 := aw_21t.tr (aw_61.mono (by decide) (by decide))
              have tj_62 : TJ S_58 N := TJ.aw tj_22 aw_61 (by decide)
              have va_56 := WR.val wx_23 aw_61 hw_59.2 va_56l
              exact c_iret (v := r_57) hx hb hr hK hP hD hS hC hh hpp ⟨aw_61t, (va_56.x (by omega))⟩ dX6_runWholes_151 hlocks
            · skip
              refine lv_iconst (v := 1) hx hb dX6_runWholes_141 (by decide) ?_
              refine lv_goto (tgt := 146) hx hb dX6_runWholes_142 (by decide) ?_
              refine lv_bipush (v := (-9)) hx hb dX6_runWholes_146 (by decide) ?_
              have va_63l : wx_23v + 1 ≤ wx_23b := by omega
              have hC0 := hC
              refine c_ci (c_runV (As := [.int 1, .int 1, .int ((-9))]) (rest := []) (q0 := 5) (ci := 6) ⟨hx, hb, hml, hown, htu⟩ (w_addValue l G S_18 wx_23v 1 1 ((-9)) hC wx_23.1.1 wx_23.1.2.1 wx_23.1.2.2 ((vl3 wx_23 va_63l)) H) (cwV 3 htu hU_X6_97 rfl rfl rfl (by decide +kernel) ⟨show 3 + 1 ≤ 2 * fu + 7 by omega, show 8 + (4 + 11) + 103 ≤ 60 * fu + 230 by omega⟩) hP hK hD hC hpp cw_5 rfl rfl hl.1 rfl (lv_room (Nat.le_of_ble_eq_true rfl)) dX6_runWholes_148) hS hD hh hpp (fun r_64 S_65 H locs hw_66 hP hD hS hC hh hs_67 hpp => ?_)
              try dsimp only at hw_66
              have aw_68 : AW [27, 28, 29] [] S_18 S_65 := hw_66.1
              have aw_68t : AW [27, 28, 29, 30, 31, 32, 33, 34] [111, 112] S S_65 := aw_21t.tr (aw_68.mono (by decide) (by decide))
              have tj_69 : TJ S_65 N := TJ.aw tj_22 aw_68 (by decide)
              have va_63 := WR.val wx_23 aw_68 hw_66.2 va_63l
              exact c_iret (v := r_64) hx hb hr hK hP hD hS hC hh hpp ⟨aw_68t, (va_63.x (by omega))⟩ dX6_runWholes_151 hlocks
          · skip
            refine lv_aload_n hx hb dX6_runWholes_119 rfl (lv_at hl 4 rfl) ?_
            refine lv_iconst (v := 0) hx hb dX6_runWholes_120 (by decide) ?_
            refine lv_iload hx hb dX6_runWholes_121 (lv_at hl 1 rfl) ?_
            refine lv_iload hx hb dX6_runWholes_123 (lv_at hl 0 rfl) ?_
            refine lv_iadd hx hb dX6_runWholes_125 ?_
            refine lv_topi (fun f_70 ef_70 => ?_)
            refine lv_bipush (v := (-9)) hx hb dX6_runWholes_126 (by decide) ?_
            have va_71l : wx_23v + 1 ≤ wx_23b := by omega
            have hC0 := hC
            refine c_ci (c_runV (As := [.int 0, .int f_70, .int ((-9))]) (rest := []) (q0 := 5) (ci := 6) ⟨hx, hb, hml, hown, htu⟩ (w_addValue l G S_18 wx_23v 0 f_70 ((-9)) hC wx_23.1.1 wx_23.1.2.1 wx_23.1.2.2 ((vl3 wx_23 va_71l)) H) (cwV 3 htu hU_X6_97 rfl rfl rfl (by decide +kernel) ⟨show 3 + 1 ≤ 2 * fu + 7 by omega, show 8 + (4 + 11) + 103 ≤ 60 * fu + 230 by omega⟩) hP hK hD hC hpp cw_5 rfl rfl hl.1 rfl (lv_room (Nat.le_of_ble_eq_true rfl)) dX6_runWholes_128) hS hD hh hpp (fun r_72 S_73 H locs hw_74 hP hD hS hC hh hs_75 hpp => ?_)
            try dsimp only at hw_74
            have aw_76 : AW [27, 28, 29] [] S_18 S_73 := hw_74.1
            have aw_76t : AW [27, 28, 29, 30, 31, 32, 33, 34] [111, 112] S S_73 := aw_21t.tr (aw_76.mono (by decide) (by decide))
            have tj_77 : TJ S_73 N := TJ.aw tj_22 aw_76 (by decide)
            have va_71 := WR.val wx_23 aw_76 hw_74.2 va_71l
            exact c_iret (v := r_72) hx hb hr hK hP hD hS hC hh hpp ⟨aw_76t, (va_71.x (by omega))⟩ dX6_runWholes_131 hlocks
        · skip
          refine lv_aload_n hx hb dX6_runWholes_78 rfl (lv_at hl 2 rfl) ?_
          refine lv_iload_n hx hb dX6_runWholes_79 rfl (lv_at hl 3 rfl) ?_
          have hC0 := hC
          refine c_ci (c_runV (As := [.int n]) (rest := []) (q0 := 5) (ci := 6) ⟨hx, hb, hml, hown, htu⟩ (w_stuckAt l G S_18 n hC  H) (cwV 1 htu hU_X6_128 rfl rfl rfl (by decide +kernel) ⟨show 0 + 1 ≤ 2 * fu + 7 by omega, show 8 + (2 + 11) + 0 ≤ 60 * fu + 230 by omega⟩) hP hK hD hC hpp cw_5 rfl rfl hl.1 rfl (lv_room (Nat.le_of_ble_eq_true rfl)) dX6_runWholes_80) hS hD hh hpp (fun r_78 S_79 H locs hw_80 hP hD hS hC hh hs_81 hpp => ?_)
          try dsimp only at hw_80
          have aw_82 : AW [] [112] S_18 S_79 := hw_80.1
          have aw_82t : AW [27, 28, 29, 30, 31, 32, 33, 34] [111, 112] S S_79 := aw_21t.tr (aw_82.mono (by decide) (by decide))
          have tj_83 : TJ S_79 N := TJ.aw tj_22 aw_82 (by decide)
          have sk_84 := WR.aw wx_23 aw_82 (by decide) (by decide)
          exact c_iret (v := r_78) hx hb hr hK hP hD hS hC hh hpp ⟨aw_82t, (sk_84.x (by omega))⟩ dX6_runWholes_83 hlocks
    · skip
      refine lv_iload hx hb dX6_runWholes_51 (lv_at hl 0 rfl) ?_
      exact c_iret (v := r_17) hx hb hr hK hP hD hS hC hh hpp ⟨aw_21t, (wx_23.x (by omega))⟩ dX6_runWholes_53 hlocks
  · skip
    refine lv_iload hx hb dX6_runWholes_24 (lv_at hl 0 rfl) ?_
    exact c_iret (v := r_5) hx hb hr hK hP hD hS hC hh hpp ⟨aw_9t, (wx_11.x (by omega))⟩ dX6_runWholes_26 hlocks

set_option maxHeartbeats 4000000 in
set_option maxRecDepth 100000 in
/-- run, too deep -/
theorem w_run_0 (l : Launch) (G : cG) (S : cS) (al : Nat) (v9 : Nat) (s9 : Nat) (f9 : Nat) (bg : Nat) (N : Nat) (dp : Nat) (n : Int32) (sg : Int32) (hC : CL S) (hW : WR S al v9 s9 f9 bg) (hT : TJ S N) (hdp : dp + 0 = 61) (Hs : Heap) : Met l yX6_run (wC yX6_run cX6_run 4 (some .int)) (cRm S (2 * 0 + 6) (60 * 0 + 200)) (cPc G S Hs [.ref (ga G 5), .int n, .int sg, .int (nI dp)]) (cQi G S Hs (fun v u => AW [27, 28, 29, 30, 31, 32, 33, 34] [111, 112] S u ∧ (WX u al v9 s9 f9 bg 0))) (CC - PT S) (12 * (CC - PT S)) (cA G S Hs.size) := by
  refine Met.ofW (cc := cX6_run) (maxL := 4) (ret := (some .int)) (by decide) rfl ?_
  intro p e s m args below meth c s₁ B hml hv
  obtain ⟨rfl, hsz, hP, hK, hD0, -⟩ := hv
  have hx := B.exec
  have hb := B.bytes
  have hr := B.returns
  have htu : ∀ w ∈ CU, w.before _ s = true := fun w h => atoms_spec (ws := (wC yX6_run cX6_run 4 (some .int))) B.pre w (List.mem_cons_of_mem _ h)
  have hown : s.vm.findClass RX6 = some m.cls := findClass_of_methodNamed B.named
  have hlocks := B.notSynchronized
  subst hsz
  have hD : cD (cA G S s.heap.size) G S := cD_self hD0
  have hl := lv_entry ([.ref (ga G 5), .int n, .int sg, .int (nI dp)]) (n := 4) (Nat.le_of_ble_eq_true rfl)
  rw [lg_entry_eq]
  generalize (lg_sl ([.ref (ga G 5), .int n, .int sg, .int (nI dp)]) ++ List.replicate (4 - (lg_sl ([.ref (ga G 5), .int n, .int sg, .int (nI dp)])).length) Slot.unset).toArray = ls at hl ⊢
  have hl : lv_has ls 4 [(0, .ref (ga G 5)), (1, .int n), (2, .int sg), (3, .int (nI dp))] := hl
  obtain ⟨H, hHe⟩ : ∃ H : Heap, H = s.heap := ⟨_, rfl⟩
  rw [← hHe] at hP
  have hS : va_S (cA G S s.heap.size) s.heap H [] := by rw [hHe]; exact va_S.rf
  have hh : HS S S := HS.rf
  have hpp : PT S ≤ PT S := Nat.le_refl _
  have hB9 := hC.1
  refine W.heq hHe ?_
  refine c_ent (S := S) ?_
  obtain ⟨-, -, -, -, -, wu1, wu2, -⟩ := id hW
  refine lv_aload_n hx hb dX6_run_0 rfl (lv_at hl 0 rfl) ?_
  refine va_get (D := gD G) (ci := 6) (v := .int (nI bg)) (C := RX6) (T := TX6) (N := 14) hx hb htu cu_in6 hown hK hP 5 cw_5 rfl 11 (by decide) (htu _ C_543) (fun _ h9 => h9) (m_v hW.2.2.2.2.1) dX6_run_1 ?_
  refine lv_aload_n hx hb dX6_run_4 rfl (lv_at hl 0 rfl) ?_
  refine va_get (D := gD G) (ci := 6) (v := .int (nI al)) (C := RX6) (T := TX6) (N := 14) hx hb htu cu_in6 hown hK hP 5 cw_5 rfl 10 (by decide) (htu _ C_542) (fun _ h9 => h9) (m_v hW.2.2.2.1) dX6_run_5 ?_
  refine lv_icmp_ge (tgt := 17) hx hb dX6_run_8 (by decide) (fun c_1 => ?_) (fun c_1 => ?_)
  · skip
    have nc_1 : al ≤ bg := (nI_leI (a := al) (b := bg) (by omega) (by omega)).mp c_1
    refine lv_aload_n hx hb dX6_run_17 rfl (lv_at hl 0 rfl) ?_
    refine lv_iload_n hx hb dX6_run_18 rfl (lv_at hl 1 rfl) ?_
    refine c_put5_12 (x := n) hx hb htu hown hK hP hD hS (htu _ C_160) dX6_run_19 (fun H locs hP hD hS => ?_)
    have S_2h : HS S (cO S 112 n) := hh
    have S_2c : CL (cO S 112 n) := hC
    have S_2p : PT S ≤ PT (cO S 112 n) := hpp
    refine c_eq (S1 := S) (S2 := cO S 112 n) rfl ?_
    have S_2w : AW [27, 28, 29, 30, 31, 32, 33, 34] [111, 112] S (cO S 112 n) := (AW.o AW.rf (by decide))
    have hh := S_2h
    have hC := S_2c
    have hpp := S_2p
    have tj_3 : TJ (cO S 112 n) N := hT
    have wp := WR.plc (x := n) hW
    refine lv_bipush (v := (-6)) hx hb dX6_run_22 (by decide) ?_
    exact c_iret (v := (-6)) hx hb hr hK hP hD hS hC hh hpp ⟨S_2w, (wp.x (by omega))⟩ dX6_run_24 hlocks
  · skip
    have nc_1 : ¬ al ≤ bg := fun h9 => c_1 ((nI_leI (a := al) (b := bg) (by omega) (by omega)).mpr h9)
    refine lv_iload_n hx hb dX6_run_11 rfl (lv_at hl 3 rfl) ?_
    refine lv_bipush (v := 60) hx hb dX6_run_12 (by decide) ?_
    refine lv_icmp_le (tgt := 25) hx hb dX6_run_14 (by decide) (fun c_4 => absurd c_4 (fun h => by have h2 := (nI_leI (a := dp) (b := 60) (by omega) (by omega)).mp h; omega)) (fun c_4 => ?_)
    refine lv_aload_n hx hb dX6_run_17 rfl (lv_at hl 0 rfl) ?_
    refine lv_iload_n hx hb dX6_run_18 rfl (lv_at hl 1 rfl) ?_
    refine c_put5_12 (x := n) hx hb htu hown hK hP hD hS (htu _ C_160) dX6_run_19 (fun H locs hP hD hS => ?_)
    have S_5h : HS S (cO S 112 n) := hh
    have S_5c : CL (cO S 112 n) := hC
    have S_5p : PT S ≤ PT (cO S 112 n) := hpp
    refine c_eq (S1 := S) (S2 := cO S 112 n) rfl ?_
    have S_5w : AW [27, 28, 29, 30, 31, 32, 33, 34] [111, 112] S (cO S 112 n) := (AW.o AW.rf (by decide))
    have hh := S_5h
    have hC := S_5c
    have hpp := S_5p
    have tj_6 : TJ (cO S 112 n) N := hT
    have wp := WR.plc (x := n) hW
    refine lv_bipush (v := (-6)) hx hb dX6_run_22 (by decide) ?_
    exact c_iret (v := (-6)) hx hb hr hK hP hD hS hC hh hpp ⟨S_5w, (wp.x (by omega))⟩ dX6_run_24 hlocks

set_option maxHeartbeats 4000000 in
set_option maxRecDepth 100000 in
/-- run -/
theorem w_run_s (l : Launch) (G : cG) (S : cS) (fu : Nat) (al : Nat) (v9 : Nat) (s9 : Nat) (f9 : Nat) (bg : Nat) (N : Nat) (dp : Nat) (n : Int32) (sg : Int32) (hC : CL S) (ih : cRunAt fu) (hW : WR S al v9 s9 f9 bg) (hT : TJ S N) (hdp : dp + (fu + 1) = 61) (Hs : Heap) : Met l yX6_run (wC yX6_run cX6_run 4 (some .int)) (cRm S (2 * (fu + 1) + 6) (60 * (fu + 1) + 200)) (cPc G S Hs [.ref (ga G 5), .int n, .int sg, .int (nI dp)]) (cQi G S Hs (fun v u => AW [27, 28, 29, 30, 31, 32, 33, 34] [111, 112] S u ∧ (WX u al v9 s9 f9 bg 0))) (CC - PT S) (12 * (CC - PT S)) (cA G S Hs.size) := by
  refine Met.ofW (cc := cX6_run) (maxL := 4) (ret := (some .int)) (by decide) rfl ?_
  intro p e s m args below meth c s₁ B hml hv
  obtain ⟨rfl, hsz, hP, hK, hD0, -⟩ := hv
  have hx := B.exec
  have hb := B.bytes
  have hr := B.returns
  have htu : ∀ w ∈ CU, w.before _ s = true := fun w h => atoms_spec (ws := (wC yX6_run cX6_run 4 (some .int))) B.pre w (List.mem_cons_of_mem _ h)
  have hown : s.vm.findClass RX6 = some m.cls := findClass_of_methodNamed B.named
  have hlocks := B.notSynchronized
  subst hsz
  have hD : cD (cA G S s.heap.size) G S := cD_self hD0
  have hl := lv_entry ([.ref (ga G 5), .int n, .int sg, .int (nI dp)]) (n := 4) (Nat.le_of_ble_eq_true rfl)
  rw [lg_entry_eq]
  generalize (lg_sl ([.ref (ga G 5), .int n, .int sg, .int (nI dp)]) ++ List.replicate (4 - (lg_sl ([.ref (ga G 5), .int n, .int sg, .int (nI dp)])).length) Slot.unset).toArray = ls at hl ⊢
  have hl : lv_has ls 4 [(0, .ref (ga G 5)), (1, .int n), (2, .int sg), (3, .int (nI dp))] := hl
  obtain ⟨H, hHe⟩ : ∃ H : Heap, H = s.heap := ⟨_, rfl⟩
  rw [← hHe] at hP
  have hS : va_S (cA G S s.heap.size) s.heap H [] := by rw [hHe]; exact va_S.rf
  have hh : HS S S := HS.rf
  have hpp : PT S ≤ PT S := Nat.le_refl _
  have hB9 := hC.1
  refine W.heq hHe ?_
  refine c_ent (S := S) ?_
  obtain ⟨-, -, -, -, -, wu1, wu2, -⟩ := id hW
  refine lv_aload_n hx hb dX6_run_0 rfl (lv_at hl 0 rfl) ?_
  refine va_get (D := gD G) (ci := 6) (v := .int (nI bg)) (C := RX6) (T := TX6) (N := 14) hx hb htu cu_in6 hown hK hP 5 cw_5 rfl 11 (by decide) (htu _ C_543) (fun _ h9 => h9) (m_v hW.2.2.2.2.1) dX6_run_1 ?_
  refine lv_aload_n hx hb dX6_run_4 rfl (lv_at hl 0 rfl) ?_
  refine va_get (D := gD G) (ci := 6) (v := .int (nI al)) (C := RX6) (T := TX6) (N := 14) hx hb htu cu_in6 hown hK hP 5 cw_5 rfl 10 (by decide) (htu _ C_542) (fun _ h9 => h9) (m_v hW.2.2.2.1) dX6_run_5 ?_
  refine lv_icmp_ge (tgt := 17) hx hb dX6_run_8 (by decide) (fun c_1 => ?_) (fun c_1 => ?_)
  · skip
    have nc_1 : al ≤ bg := (nI_leI (a := al) (b := bg) (by omega) (by omega)).mp c_1
    refine lv_aload_n hx hb dX6_run_17 rfl (lv_at hl 0 rfl) ?_
    refine lv_iload_n hx hb dX6_run_18 rfl (lv_at hl 1 rfl) ?_
    refine c_put5_12 (x := n) hx hb htu hown hK hP hD hS (htu _ C_160) dX6_run_19 (fun H locs hP hD hS => ?_)
    have S_2h : HS S (cO S 112 n) := hh
    have S_2c : CL (cO S 112 n) := hC
    have S_2p : PT S ≤ PT (cO S 112 n) := hpp
    refine c_eq (S1 := S) (S2 := cO S 112 n) rfl ?_
    have S_2w : AW [27, 28, 29, 30, 31, 32, 33, 34] [111, 112] S (cO S 112 n) := (AW.o AW.rf (by decide))
    have hh := S_2h
    have hC := S_2c
    have hpp := S_2p
    have tj_3 : TJ (cO S 112 n) N := hT
    have wp := WR.plc (x := n) hW
    refine lv_bipush (v := (-6)) hx hb dX6_run_22 (by decide) ?_
    exact c_iret (v := (-6)) hx hb hr hK hP hD hS hC hh hpp ⟨S_2w, (wp.x (by omega))⟩ dX6_run_24 hlocks
  · skip
    have nc_1 : ¬ al ≤ bg := fun h9 => c_1 ((nI_leI (a := al) (b := bg) (by omega) (by omega)).mpr h9)
    refine lv_iload_n hx hb dX6_run_11 rfl (lv_at hl 3 rfl) ?_
    refine lv_bipush (v := 60) hx hb dX6_run_12 (by decide) ?_
    refine lv_icmp_le (tgt := 25) hx hb dX6_run_14 (by decide) (fun c_4 => ?_) (fun c_4 => absurd ((nI_leI (a := dp) (b := 60) (by omega) (by omega)).mpr (by omega)) c_4)
    refine lv_aload_n hx hb dX6_run_25 rfl (lv_at hl 0 rfl) ?_
    refine lv_dup hx hb dX6_run_26 rfl ?_
    refine va_get (D := gD G) (ci := 6) (v := .int (nI bg)) (C := RX6) (T := TX6) (N := 14) hx hb htu cu_in6 hown hK hP 5 cw_5 rfl 11 (by decide) (htu _ C_543) (fun _ h9 => h9) (m_v hW.2.2.2.2.1) dX6_run_27 ?_
    refine lv_iconst (v := 1) hx hb dX6_run_30 (by decide) ?_
    refine lv_iadd hx hb dX6_run_31 ?_
    refine m_top (y := nI (bg + 1)) (nI_add bg 1) ?_
    refine c_put5_11 (x := (nI (bg + 1))) hx hb htu hown hK hP hD hS (htu _ C_543) dX6_run_32 (fun H locs hP hD hS => ?_)
    have S_5h : HS S (cO S 111 (nI (bg + 1))) := hh
    have S_5c : CL (cO S 111 (nI (bg + 1))) := hC
    have S_5p : PT S ≤ PT (cO S 111 (nI (bg + 1))) := hpp
    refine c_eq (S1 := S) (S2 := cO S 111 (nI (bg + 1))) rfl ?_
    have S_5w : AW [27, 28, 29, 30, 31, 32, 33, 34] [111, 112] S (cO S 111 (nI (bg + 1))) := (AW.o AW.rf (by decide))
    have hh := S_5h
    have hC := S_5c
    have hpp := S_5p
    have tj_6 : TJ (cO S 111 (nI (bg + 1))) N := hT
    have hlt : bg < al := Nat.not_le.mp nc_1
    have wb := WR.beg hW hlt
    obtain ⟨-, -, -, -, -, -, wv3, wv4, wv5, wv6⟩ := id hW
    refine lv_aload_n hx hb dX6_run_35 rfl (lv_at hl 0 rfl) ?_
    refine va_get (D := gD G) (ci := 6) (v := .ref (ga G 1)) (C := RX6) (T := TX6) (N := 14) hx hb htu cu_in6 hown hK hP 5 cw_5 rfl 0 (by decide) (htu _ C_162) (fun _ h9 => h9) rfl dX6_run_36 ?_
    refine lv_iload_n hx hb dX6_run_39 rfl (lv_at hl 1 rfl) ?_
    have hC0 := hC
    refine c_ci (c_runV (As := [.int n]) (rest := []) (q0 := 1) (ci := 3) ⟨hx, hb, hml, hown, htu⟩ (tt_kindOf l G (cO S 111 (nI (bg + 1))) N n hC tj_6.1 H) (cwV 1 htu hU_X6_88 rfl rfl rfl (by decide +kernel) ⟨show 1 + 1 ≤ 2 * (fu + 1) + 6 by omega, show 8 + (2 + 11) + 21 ≤ 60 * (fu + 1) + 200 by omega⟩) hP hK hD hC hpp cw_1 rfl rfl hl.1 rfl (lv_room (Nat.le_of_ble_eq_true rfl)) dX6_run_40) hS hD hh hpp (fun r_7 S_8 H locs hw_9 hP hD hS hC hh hs_10 hpp => ?_)
    obtain ⟨-, hu9, hw_9⟩ := hw_9
    have hu9 := hu9.symm
    subst hu9
    rcases Decidable.em (r_7 = 0) with c_11 | c_11
    · skip
      refine lv_tableIn (tgt := 96) hx hb dX6_run_43 (by rw [c_11]; decide) (by rw [c_11]; decide) (by rw [c_11]; rfl) (by decide) ?_
      refine lv_aload_n hx hb dX6_run_96 rfl (lv_at hl 0 rfl) ?_
      refine lv_iconst (v := 0) hx hb dX6_run_97 (by decide) ?_
      refine lv_aload_n hx hb dX6_run_98 rfl (lv_at hl 0 rfl) ?_
      refine va_get (D := gD G) (ci := 6) (v := .ref (ga G 1)) (C := RX6) (T := TX6) (N := 14) hx hb htu cu_in6 hown hK hP 5 cw_5 rfl 0 (by decide) (htu _ C_162) (fun _ h9 => h9) rfl dX6_run_99 ?_
      refine lv_iload_n hx hb dX6_run_102 rfl (lv_at hl 1 rfl) ?_
      have hC0 := hC
      refine c_ci (c_runV (As := [.int n]) (rest := [.int 0, .ref (ga G 5)]) (q0 := 1) (ci := 3) ⟨hx, hb, hml, hown, htu⟩ (tt_markOf l G (cO S 111 (nI (bg + 1))) N n hC tj_6.1 H) (cwV 1 htu hU_X6_94 rfl rfl rfl (by decide +kernel) ⟨show 1 + 1 ≤ 2 * (fu + 1) + 6 by omega, show 8 + (2 + 11) + 21 ≤ 60 * (fu + 1) + 200 by omega⟩) hP hK hD hC hpp cw_1 rfl rfl hl.1 rfl (lv_room (Nat.le_of_ble_eq_true rfl)) dX6_run_103) hS hD hh hpp (fun r_12 S_13 H locs hw_14 hP hD hS hC hh hs_15 hpp => ?_)
      obtain ⟨-, hu9, hw_14⟩ := hw_14
      have hu9 := hu9.symm
      subst hu9
      refine lv_bipush (v := (-9)) hx hb dX6_run_106 (by decide) ?_
      have va_16l : v9 + 1 ≤ (bg + 1) := by omega
      have hC0 := hC
      refine c_ci (c_runV (As := [.int 0, .int r_12, .int ((-9))]) (rest := []) (q0 := 5) (ci := 6) ⟨hx, hb, hml, hown, htu⟩ (w_addValue l G (cO S 111 (nI (bg + 1))) v9 0 r_12 ((-9)) hC wb.1.1 wb.1.2.1 wb.1.2.2 ((vl3 wb va_16l)) H) (cwV 3 htu hU_X6_97 rfl rfl rfl (by decide +kernel) ⟨show 3 + 1 ≤ 2 * (fu + 1) + 6 by omega, show 8 + (4 + 11) + 103 ≤ 60 * (fu + 1) + 200 by omega⟩) hP hK hD hC hpp cw_5 rfl rfl hl.1 rfl (lv_room (Nat.le_of_ble_eq_true rfl)) dX6_run_108) hS hD hh hpp (fun r_17 S_18 H locs hw_19 hP hD hS hC hh hs_20 hpp => ?_)
      try dsimp only at hw_19
      have aw_21 : AW [27, 28, 29] [] (cO S 111 (nI (bg + 1))) S_18 := hw_19.1
      have aw_21t : AW [27, 28, 29, 30, 31, 32, 33, 34] [111, 112] S S_18 := S_5w.tr (aw_21.mono (by decide) (by decide))
      have ii_22 : S_18.1 110 = nI al := (aw_21.1 110 (by decide)).trans ((cO_n (show 110 ≠ 111 by decide)).trans hW.2.2.2.1)
      have ii_23 : S_18.1 111 = nI (bg + 1) := (aw_21.1 111 (by decide)).trans cO_s
      have tj_24 : TJ S_18 N := TJ.aw tj_6 aw_21 (by decide)
      have va_16 := WR.val wb aw_21 hw_19.2 va_16l
      exact c_iret (v := r_17) hx hb hr hK hP hD hS hC hh hpp ⟨aw_21t, (va_16.x (by omega))⟩ dX6_run_111 hlocks
    rcases Decidable.em (r_7 = 1) with c_25 | c_25
    · skip
      refine lv_tableIn (tgt := 112) hx hb dX6_run_43 (by rw [c_25]; decide) (by rw [c_25]; decide) (by rw [c_25]; rfl) (by decide) ?_
      refine lv_aload_n hx hb dX6_run_112 rfl (lv_at hl 0 rfl) ?_
      refine lv_iconst (v := 1) hx hb dX6_run_113 (by decide) ?_
      refine lv_aload_n hx hb dX6_run_114 rfl (lv_at hl 0 rfl) ?_
      refine va_get (D := gD G) (ci := 6) (v := .ref (ga G 1)) (C := RX6) (T := TX6) (N := 14) hx hb htu cu_in6 hown hK hP 5 cw_5 rfl 0 (by decide) (htu _ C_162) (fun _ h9 => h9) rfl dX6_run_115 ?_
      refine lv_iload_n hx hb dX6_run_118 rfl (lv_at hl 1 rfl) ?_
      have hC0 := hC
      refine c_ci (c_runV (As := [.int n]) (rest := [.int 1, .ref (ga G 5)]) (q0 := 1) (ci := 3) ⟨hx, hb, hml, hown, htu⟩ (tt_markOf l G (cO S 111 (nI (bg + 1))) N n hC tj_6.1 H) (cwV 1 htu hU_X6_94 rfl rfl rfl (by decide +kernel) ⟨show 1 + 1 ≤ 2 * (fu + 1) + 6 by omega, show 8 + (2 + 11) + 21 ≤ 60 * (fu + 1) + 200 by omega⟩) hP hK hD hC hpp cw_1 rfl rfl hl.1 rfl (lv_room (Nat.le_of_ble_eq_true rfl)) dX6_run_119) hS hD hh hpp (fun r_26 S_27 H locs hw_28 hP hD hS hC hh hs_29 hpp => ?_)
      obtain ⟨-, hu9, hw_28⟩ := hw_28
      have hu9 := hu9.symm
      subst hu9
      refine lv_bipush (v := (-9)) hx hb dX6_run_122 (by decide) ?_
      have va_30l : v9 + 1 ≤ (bg + 1) := by omega
      have hC0 := hC
      refine c_ci (c_runV (As := [.int 1, .int r_26, .int ((-9))]) (rest := []) (q0 := 5) (ci := 6) ⟨hx, hb, hml, hown, htu⟩ (w_addValue l G (cO S 111 (nI (bg + 1))) v9 1 r_26 ((-9)) hC wb.1.1 wb.1.2.1 wb.1.2.2 ((vl3 wb va_30l)) H) (cwV 3 htu hU_X6_97 rfl rfl rfl (by decide +kernel) ⟨show 3 + 1 ≤ 2 * (fu + 1) + 6 by omega, show 8 + (4 + 11) + 103 ≤ 60 * (fu + 1) + 200 by omega⟩) hP hK hD hC hpp cw_5 rfl rfl hl.1 rfl (lv_room (Nat.le_of_ble_eq_true rfl)) dX6_run_124) hS hD hh hpp (fun r_31 S_32 H locs hw_33 hP hD hS hC hh hs_34 hpp => ?_)
      try dsimp only at hw_33
      have aw_35 : AW [27, 28, 29] [] (cO S 111 (nI (bg + 1))) S_32 := hw_33.1
      have aw_35t : AW [27, 28, 29, 30, 31, 32, 33, 34] [111, 112] S S_32 := S_5w.tr (aw_35.mono (by decide) (by decide))
      have ii_36 : S_32.1 110 = nI al := (aw_35.1 110 (by decide)).trans ((cO_n (show 110 ≠ 111 by decide)).trans hW.2.2.2.1)
      have ii_37 : S_32.1 111 = nI (bg + 1) := (aw_35.1 111 (by decide)).trans cO_s
      have tj_38 : TJ S_32 N := TJ.aw tj_6 aw_35 (by decide)
      have va_30 := WR.val wb aw_35 hw_33.2 va_30l
      exact c_iret (v := r_31) hx hb hr hK hP hD hS hC hh hpp ⟨aw_35t, (va_30.x (by omega))⟩ dX6_run_127 hlocks
    rcases Decidable.em (r_7 = 2) with c_39 | c_39
    · skip
      refine lv_tableIn (tgt := 128) hx hb dX6_run_43 (by rw [c_39]; decide) (by rw [c_39]; decide) (by rw [c_39]; rfl) (by decide) ?_
      refine lv_aload_n hx hb dX6_run_128 rfl (lv_at hl 0 rfl) ?_
      refine lv_iload_n hx hb dX6_run_129 rfl (lv_at hl 1 rfl) ?_
      refine lv_iload_n hx hb dX6_run_130 rfl (lv_at hl 2 rfl) ?_
      refine lv_iload_n hx hb dX6_run_131 rfl (lv_at hl 3 rfl) ?_
      have hC0 := hC
      refine c_ci (c_runV (As := [.int n, .int sg, .int (nI dp)]) (rest := []) (q0 := 5) (ci := 6) ⟨hx, hb, hml, hown, htu⟩ (w_runName l G (cO S 111 (nI (bg + 1))) fu al v9 s9 f9 (bg + 1) N dp n sg hC ih wb tj_6 hdp (⟨Nat.succ_le_succ wv4, Nat.succ_le_succ wv5, by omega⟩) H) (cwV 3 htu hU_X6_100 rfl rfl rfl (by decide +kernel) ⟨show (2 * fu + 7) + 1 ≤ 2 * (fu + 1) + 6 by omega, show 8 + (6 + 11) + (60 * fu + 230) ≤ 60 * (fu + 1) + 200 by omega⟩) hP hK hD hC hpp cw_5 rfl rfl hl.1 rfl (lv_room (Nat.le_of_ble_eq_true rfl)) dX6_run_132) hS hD hh hpp (fun r_40 S_41 H locs hw_42 hP hD hS hC hh hs_43 hpp => ?_)
      try dsimp only at hw_42
      have aw_44 : AW [27, 28, 29, 30, 31, 32, 33, 34] [111, 112] (cO S 111 (nI (bg + 1))) S_41 := hw_42.1
      have aw_44t : AW [27, 28, 29, 30, 31, 32, 33, 34] [111, 112] S S_41 := S_5w.tr (aw_44.mono (by decide) (by decide))
      have ii_45 : S_41.1 110 = nI al := (aw_44.1 110 (by decide)).trans ((cO_n (show 110 ≠ 111 by decide)).trans hW.2.2.2.1)
      have tj_46 : TJ S_41 N := TJ.aw tj_6 aw_44 (by decide)
      exact c_iret (v := r_40) hx hb hr hK hP hD hS hC hh hpp ⟨aw_44t, (WX.run hw_42.2)⟩ dX6_run_135 hlocks
    rcases Decidable.em (r_7 = 3) with c_47 | c_47
    · skip
      refine lv_tableIn (tgt := 136) hx hb dX6_run_43 (by rw [c_47]; decide) (by rw [c_47]; decide) (by rw [c_47]; rfl) (by decide) ?_
      refine lv_aload_n hx hb dX6_run_136 rfl (lv_at hl 0 rfl) ?_
      refine lv_iconst (v := 2) hx hb dX6_run_137 (by decide) ?_
      refine lv_iload_n hx hb dX6_run_138 rfl (lv_at hl 1 rfl) ?_
      refine lv_iload_n hx hb dX6_run_139 rfl (lv_at hl 2 rfl) ?_
      have va_48l : v9 + 1 ≤ (bg + 1) := by omega
      have hC0 := hC
      refine c_ci (c_runV (As := [.int 2, .int n, .int sg]) (rest := []) (q0 := 5) (ci := 6) ⟨hx, hb, hml, hown, htu⟩ (w_addValue l G (cO S 111 (nI (bg + 1))) v9 2 n sg hC wb.1.1 wb.1.2.1 wb.1.2.2 ((vl3 wb va_48l)) H) (cwV 3 htu hU_X6_97 rfl rfl rfl (by decide +kernel) ⟨show 3 + 1 ≤ 2 * (fu + 1) + 6 by omega, show 8 + (4 + 11) + 103 ≤ 60 * (fu + 1) + 200 by omega⟩) hP hK hD hC hpp cw_5 rfl rfl hl.1 rfl (lv_room (Nat.le_of_ble_eq_true rfl)) dX6_run_140) hS hD hh hpp (fun r_49 S_50 H locs hw_51 hP hD hS hC hh hs_52 hpp => ?_)
      try dsimp only at hw_51
      have aw_53 : AW [27, 28, 29] [] (cO S 111 (nI (bg + 1))) S_50 := hw_51.1
      have aw_53t : AW [27, 28, 29, 30, 31, 32, 33, 34] [111, 112] S S_50 := S_5w.tr (aw_53.mono (by decide) (by decide))
      have ii_54 : S_50.1 110 = nI al := (aw_53.1 110 (by decide)).trans ((cO_n (show 110 ≠ 111 by decide)).trans hW.2.2.2.1)
      have ii_55 : S_50.1 111 = nI (bg + 1) := (aw_53.1 111 (by decide)).trans cO_s
      have tj_56 : TJ S_50 N := TJ.aw tj_6 aw_53 (by decide)
      have va_48 := WR.val wb aw_53 hw_51.2 va_48l
      exact c_iret (v := r_49) hx hb hr hK hP hD hS hC hh hpp ⟨aw_53t, (va_48.x (by omega))⟩ dX6_run_143 hlocks
    rcases Decidable.em (r_7 = 4) with c_57 | c_57
    · skip
      refine lv_tableIn (tgt := 144) hx hb dX6_run_43 (by rw [c_57]; decide) (by rw [c_57]; decide) (by rw [c_57]; rfl) (by decide) ?_
      refine lv_aload_n hx hb dX6_run_144 rfl (lv_at hl 0 rfl) ?_
      refine lv_iload_n hx hb dX6_run_145 rfl (lv_at hl 1 rfl) ?_
      refine lv_iload_n hx hb dX6_run_146 rfl (lv_at hl 2 rfl) ?_
      refine lv_iload_n hx hb dX6_run_147 rfl (lv_at hl 3 rfl) ?_
      have hC0 := hC
      refine c_ci (c_runV (As := [.int n, .int sg, .int (nI dp)]) (rest := []) (q0 := 5) (ci := 6) ⟨hx, hb, hml, hown, htu⟩ (w_runApply l G (cO S 111 (nI (bg + 1))) fu al v9 s9 f9 (bg + 1) N dp n sg hC ih wb tj_6 hdp (⟨Nat.succ_le_succ wv4, Nat.succ_le_succ wv5, by omega⟩) H) (cwV 3 htu hU_X6_103 rfl rfl rfl (by decide +kernel) ⟨show (2 * fu + 7) + 1 ≤ 2 * (fu + 1) + 6 by omega, show 8 + (8 + 11) + (60 * fu + 230) ≤ 60 * (fu + 1) + 200 by omega⟩) hP hK hD hC hpp cw_5 rfl rfl hl.1 rfl (lv_room (Nat.le_of_ble_eq_true rfl)) dX6_run_148) hS hD hh hpp (fun r_58 S_59 H locs hw_60 hP hD hS hC hh hs_61 hpp => ?_)
      try dsimp only at hw_60
      have aw_62 : AW [27, 28, 29, 30, 31, 32, 33, 34] [111, 112] (cO S 111 (nI (bg + 1))) S_59 := hw_60.1
      have aw_62t : AW [27, 28, 29, 30, 31, 32, 33, 34] [111, 112] S S_59 := S_5w.tr (aw_62.mono (by decide) (by decide))
      have ii_63 : S_59.1 110 = nI al := (aw_62.1 110 (by decide)).trans ((cO_n (show 110 ≠ 111 by decide)).trans hW.2.2.2.1)
      have tj_64 : TJ S_59 N := TJ.aw tj_6 aw_62 (by decide)
      exact c_iret (v := r_58) hx hb hr hK hP hD hS hC hh hpp ⟨aw_62t, (WX.run hw_60.2)⟩ dX6_run_151 hlocks
    rcases Decidable.em (r_7 = 5) with c_65 | c_65
    · skip
      refine lv_tableIn (tgt := 152) hx hb dX6_run_43 (by rw [c_65]; decide) (by rw [c_65]; decide) (by rw [c_65]; rfl) (by decide) ?_
      refine lv_aload_n hx hb dX6_run_152 rfl (lv_at hl 0 rfl) ?_
      refine lv_iload_n hx hb dX6_run_153 rfl (lv_at hl 1 rfl) ?_
      refine lv_iload_n hx hb dX6_run_154 rfl (lv_at hl 2 rfl) ?_
      refine lv_iload_n hx hb dX6_run_155 rfl (lv_at hl 3 rfl) ?_
      have hC0 := hC
      refine c_ci (c_runV (As := [.int n, .int sg, .int (nI dp)]) (rest := []) (q0 := 5) (ci := 6) ⟨hx, hb, hml, hown, htu⟩ (w_runRecord l G (cO S 111 (nI (bg + 1))) fu al v9 s9 f9 (bg + 1) N dp n sg hC ih wb tj_6 hdp (⟨Nat.succ_le_succ wv4, Nat.succ_le_succ wv5, by omega⟩) H) (cwV 3 htu hU_X6_106 rfl rfl rfl (by decide +kernel) ⟨show (2 * fu + 7) + 1 ≤ 2 * (fu + 1) + 6 by omega, show 8 + (8 + 11) + (60 * fu + 230) ≤ 60 * (fu + 1) + 200 by omega⟩) hP hK hD hC hpp cw_5 rfl rfl hl.1 rfl (lv_room (Nat.le_of_ble_eq_true rfl)) dX6_run_156) hS hD hh hpp (fun r_66 S_67 H locs hw_68 hP hD hS hC hh hs_69 hpp => ?_)
      try dsimp only at hw_68
      have aw_70 : AW [27, 28, 29, 30, 31, 32, 33, 34] [111, 112] (cO S 111 (nI (bg + 1))) S_67 := hw_68.1
      have aw_70t : AW [27, 28, 29, 30, 31, 32, 33, 34] [111, 112] S S_67 := S_5w.tr (aw_70.mono (by decide) (by decide))
      have ii_71 : S_67.1 110 = nI al := (aw_70.1 110 (by decide)).trans ((cO_n (show 110 ≠ 111 by decide)).trans hW.2.2.2.1)
      have tj_72 : TJ S_67 N := TJ.aw tj_6 aw_70 (by decide)
      exact c_iret (v := r_66) hx hb hr hK hP hD hS hC hh hpp ⟨aw_70t, (WX.run hw_68.2)⟩ dX6_run_159 hlocks
    rcases Decidable.em (r_7 = 6) with c_73 | c_73
    · skip
      refine lv_tableIn (tgt := 160) hx hb dX6_run_43 (by rw [c_73]; decide) (by rw [c_73]; decide) (by rw [c_73]; rfl) (by decide) ?_
      refine lv_aload_n hx hb dX6_run_160 rfl (lv_at hl 0 rfl) ?_
      refine lv_iload_n hx hb dX6_run_161 rfl (lv_at hl 1 rfl) ?_
      refine lv_iload_n hx hb dX6_run_162 rfl (lv_at hl 2 rfl) ?_
      refine lv_iload_n hx hb dX6_run_163 rfl (lv_at hl 3 rfl) ?_
      have hC0 := hC
      refine c_ci (c_runV (As := [.int n, .int sg, .int (nI dp)]) (rest := []) (q0 := 5) (ci := 6) ⟨hx, hb, hml, hown, htu⟩ (w_runField l G (cO S 111 (nI (bg + 1))) fu al v9 s9 f9 (bg + 1) N dp n sg hC ih wb tj_6 hdp (⟨Nat.succ_le_succ wv4, Nat.succ_le_succ wv5, by omega⟩) H) (cwV 3 htu hU_X6_109 rfl rfl rfl (by decide +kernel) ⟨show (2 * fu + 7) + 1 ≤ 2 * (fu + 1) + 6 by omega, show 8 + (6 + 11) + (60 * fu + 230) ≤ 60 * (fu + 1) + 200 by omega⟩) hP hK hD hC hpp cw_5 rfl rfl hl.1 rfl (lv_room (Nat.le_of_ble_eq_true rfl)) dX6_run_164) hS hD hh hpp (fun r_74 S_75 H locs hw_76 hP hD hS hC hh hs_77 hpp => ?_)
      try dsimp only at hw_76
      have aw_78 : AW [27, 28, 29, 30, 31, 32, 33, 34] [111, 112] (cO S 111 (nI (bg + 1))) S_75 := hw_76.1
      have aw_78t : AW [27, 28, 29, 30, 31, 32, 33, 34] [111, 112] S S_75 := S_5w.tr (aw_78.mono (by decide) (by decide))
      have ii_79 : S_75.1 110 = nI al := (aw_78.1 110 (by decide)).trans ((cO_n (show 110 ≠ 111 by decide)).trans hW.2.2.2.1)
      have tj_80 : TJ S_75 N := TJ.aw tj_6 aw_78 (by decide)
      exact c_iret (v := r_74) hx hb hr hK hP hD hS hC hh hpp ⟨aw_78t, (WX.run hw_76.2)⟩ dX6_run_167 hlocks
    rcases Decidable.em (r_7 = 7) with c_81 | c_81
    · skip
      refine lv_tableIn (tgt := 168) hx hb dX6_run_43 (by rw [c_81]; decide) (by rw [c_81]; decide) (by rw [c_81]; rfl) (by decide) ?_
      refine lv_aload_n hx hb dX6_run_168 rfl (lv_at hl 0 rfl) ?_
      refine lv_iload_n hx hb dX6_run_169 rfl (lv_at hl 1 rfl) ?_
      refine lv_iload_n hx hb dX6_run_170 rfl (lv_at hl 2 rfl) ?_
      refine lv_iload_n hx hb dX6_run_171 rfl (lv_at hl 3 rfl) ?_
      have hC0 := hC
      refine c_ci (c_runV (As := [.int n, .int sg, .int (nI dp)]) (rest := []) (q0 := 5) (ci := 6) ⟨hx, hb, hml, hown, htu⟩ (w_runLet l G (cO S 111 (nI (bg + 1))) fu al v9 s9 f9 (bg + 1) N dp n sg hC ih wb tj_6 hdp (⟨Nat.succ_le_succ wv4, Nat.succ_le_succ wv5, by omega⟩) H) (cwV 3 htu hU_X6_112 rfl rfl rfl (by decide +kernel) ⟨show (2 * fu + 7) + 1 ≤ 2 * (fu + 1) + 6 by omega, show 8 + (5 + 11) + (60 * fu + 230) ≤ 60 * (fu + 1) + 200 by omega⟩) hP hK hD hC hpp cw_5 rfl rfl hl.1 rfl (lv_room (Nat.le_of_ble_eq_true rfl)) dX6_run_172) hS hD hh hpp (fun r_82 S_83 H locs hw_84 hP hD hS hC hh hs_85 hpp => ?_)
      try dsimp only at hw_84
      have aw_86 : AW [27, 28, 29, 30, 31, 32, 33, 34] [111, 112] (cO S 111 (nI (bg + 1))) S_83 := hw_84.1
      have aw_86t : AW [27, 28, 29, 30, 31, 32, 33, 34] [111, 112] S S_83 := S_5w.tr (aw_86.mono (by decide) (by decide))
      have ii_87 : S_83.1 110 = nI al := (aw_86.1 110 (by decide)).trans ((cO_n (show 110 ≠ 111 by decide)).trans hW.2.2.2.1)
      have tj_88 : TJ S_83 N := TJ.aw tj_6 aw_86 (by decide)
      exact c_iret (v := r_82) hx hb hr hK hP hD hS hC hh hpp ⟨aw_86t, (WX.run hw_84.2)⟩ dX6_run_175 hlocks
    rcases Decidable.em (r_7 = 8) with c_89 | c_89
    · skip
      refine lv_tableIn (tgt := 176) hx hb dX6_run_43 (by rw [c_89]; decide) (by rw [c_89]; decide) (by rw [c_89]; rfl) (by decide) ?_
      refine lv_aload_n hx hb dX6_run_176 rfl (lv_at hl 0 rfl) ?_
      refine lv_iload_n hx hb dX6_run_177 rfl (lv_at hl 1 rfl) ?_
      refine lv_iload_n hx hb dX6_run_178 rfl (lv_at hl 2 rfl) ?_
      refine lv_iload_n hx hb dX6_run_179 rfl (lv_at hl 3 rfl) ?_
      have hC0 := hC
      refine c_ci (c_runV (As := [.int n, .int sg, .int (nI dp)]) (rest := []) (q0 := 5) (ci := 6) ⟨hx, hb, hml, hown, htu⟩ (w_runRec l G (cO S 111 (nI (bg + 1))) fu al v9 s9 f9 (bg + 1) N dp n sg hC ih wb tj_6 hdp (⟨Nat.succ_le_succ wv4, Nat.succ_le_succ wv5, by omega⟩) H) (cwV 3 htu hU_X6_115 rfl rfl rfl (by decide +kernel) ⟨show (2 * fu + 7) + 1 ≤ 2 * (fu + 1) + 6 by omega, show 8 + (4 + 11) + (60 * fu + 230) ≤ 60 * (fu + 1) + 200 by omega⟩) hP hK hD hC hpp cw_5 rfl rfl hl.1 rfl (lv_room (Nat.le_of_ble_eq_true rfl)) dX6_run_180) hS hD hh hpp (fun r_90 S_91 H locs hw_92 hP hD hS hC hh hs_93 hpp => ?_)
      try dsimp only at hw_92
      have aw_94 : AW [27, 28, 29, 30, 31, 32, 33, 34] [111, 112] (cO S 111 (nI (bg + 1))) S_91 := hw_92.1
      have aw_94t : AW [27, 28, 29, 30, 31, 32, 33, 34] [111, 112] S S_91 := S_5w.tr (aw_94.mono (by decide) (by decide))
      have ii_95 : S_91.1 110 = nI al := (aw_94.1 110 (by decide)).trans ((cO_n (show 110 ≠ 111 by decide)).trans hW.2.2.2.1)
      have tj_96 : TJ S_91 N := TJ.aw tj_6 aw_94 (by decide)
      exact c_iret (v := r_90) hx hb hr hK hP hD hS hC hh hpp ⟨aw_94t, (WX.run hw_92.2)⟩ dX6_run_183 hlocks
    rcases Decidable.em (r_7 = 9) with c_97 | c_97
    · skip
      refine lv_tableIn (tgt := 184) hx hb dX6_run_43 (by rw [c_97]; decide) (by rw [c_97]; decide) (by rw [c_97]; rfl) (by decide) ?_
      refine lv_aload_n hx hb dX6_run_184 rfl (lv_at hl 0 rfl) ?_
      refine lv_iload_n hx hb dX6_run_185 rfl (lv_at hl 1 rfl) ?_
      refine lv_iload_n hx hb dX6_run_186 rfl (lv_at hl 2 rfl) ?_
      refine lv_iload_n hx hb dX6_run_187 rfl (lv_at hl 3 rfl) ?_
      have hC0 := hC
      refine c_ci (c_runV (As := [.int n, .int sg, .int (nI dp)]) (rest := []) (q0 := 5) (ci := 6) ⟨hx, hb, hml, hown, htu⟩ (w_runPick l G (cO S 111 (nI (bg + 1))) fu al v9 s9 f9 (bg + 1) N dp n sg hC ih wb tj_6 hdp (⟨Nat.succ_le_succ wv4, Nat.succ_le_succ wv5, by omega⟩) H) (cwV 3 htu hU_X6_118 rfl rfl rfl (by decide +kernel) ⟨show (2 * fu + 7) + 1 ≤ 2 * (fu + 1) + 6 by omega, show 8 + (5 + 11) + (60 * fu + 230) ≤ 60 * (fu + 1) + 200 by omega⟩) hP hK hD hC hpp cw_5 rfl rfl hl.1 rfl (lv_room (Nat.le_of_ble_eq_true rfl)) dX6_run_188) hS hD hh hpp (fun r_98 S_99 H locs hw_100 hP hD hS hC hh hs_101 hpp => ?_)
      try dsimp only at hw_100
      have aw_102 : AW [27, 28, 29, 30, 31, 32, 33, 34] [111, 112] (cO S 111 (nI (bg + 1))) S_99 := hw_100.1
      have aw_102t : AW [27, 28, 29, 30, 31, 32, 33, 34] [111, 112] S S_99 := S_5w.tr (aw_102.mono (by decide) (by decide))
      have ii_103 : S_99.1 110 = nI al := (aw_102.1 110 (by decide)).trans ((cO_n (show 110 ≠ 111 by decide)).trans hW.2.2.2.1)
      have tj_104 : TJ S_99 N := TJ.aw tj_6 aw_102 (by decide)
      exact c_iret (v := r_98) hx hb hr hK hP hD hS hC hh hpp ⟨aw_102t, (WX.run hw_100.2)⟩ dX6_run_191 hlocks
    have hout : (r_7).toInt < 0 ∨ 9 < (r_7).toInt := tb_out r_7 0 9 (fun z h1 h2 e => by
      rcases (show z = 0 ∨ z = 1 ∨ z = 2 ∨ z = 3 ∨ z = 4 ∨ z = 5 ∨ z = 6 ∨ z = 7 ∨ z = 8 ∨ z = 9 by omega) with rfl | rfl | rfl | rfl | rfl | rfl | rfl | rfl | rfl | rfl
      · exact c_11 (Int32.toInt_inj.mp (e.trans (by decide)))
      · exact c_25 (Int32.toInt_inj.mp (e.trans (by decide)))
      · exact c_39 (Int32.toInt_inj.mp (e.trans (by decide)))
      · exact c_47 (Int32.toInt_inj.mp (e.trans (by decide)))
      · exact c_57 (Int32.toInt_inj.mp (e.trans (by decide)))
      · exact c_65 (Int32.toInt_inj.mp (e.trans (by decide)))
      · exact c_73 (Int32.toInt_inj.mp (e.trans (by decide)))
      · exact c_81 (Int32.toInt_inj.mp (e.trans (by decide)))
      · exact c_89 (Int32.toInt_inj.mp (e.trans (by decide)))
      · exact c_97 (Int32.toInt_inj.mp (e.trans (by decide))))
    refine lv_tableOut (tgt := 192) hx hb dX6_run_43 hout (by decide) ?_
    refine lv_aload_n hx hb dX6_run_192 rfl (lv_at hl 0 rfl) ?_
    refine lv_iload_n hx hb dX6_run_193 rfl (lv_at hl 1 rfl) ?_
    refine lv_iload_n hx hb dX6_run_194 rfl (lv_at hl 2 rfl) ?_
    refine lv_iload_n hx hb dX6_run_195 rfl (lv_at hl 3 rfl) ?_
    have hC0 := hC
    refine c_ci (c_runV (As := [.int n, .int sg, .int (nI dp)]) (rest := []) (q0 := 5) (ci := 6) ⟨hx, hb, hml, hown, htu⟩ (w_runWholes l G (cO S 111 (nI (bg + 1))) fu al v9 s9 f9 (bg + 1) N dp n sg hC ih wb tj_6 hdp (⟨Nat.succ_le_succ wv4, Nat.succ_le_succ wv5, by omega⟩) H) (cwV 3 htu hU_X6_121 rfl rfl rfl (by decide +kernel) ⟨show (2 * fu + 7) + 1 ≤ 2 * (fu + 1) + 6 by omega, show 8 + (8 + 11) + (60 * fu + 230) ≤ 60 * (fu + 1) + 200 by omega⟩) hP hK hD hC hpp cw_5 rfl rfl hl.1 rfl (lv_room (Nat.le_of_ble_eq_true rfl)) dX6_run_196) hS hD hh hpp (fun r_105 S_106 H locs hw_107 hP hD hS hC hh hs_108 hpp => ?_)
    try dsimp only at hw_107
    have aw_109 : AW [27, 28, 29, 30, 31, 32, 33, 34] [111, 112] (cO S 111 (nI (bg + 1))) S_106 := hw_107.1
    have aw_109t : AW [27, 28, 29, 30, 31, 32, 33, 34] [111, 112] S S_106 := S_5w.tr (aw_109.mono (by decide) (by decide))
    have ii_110 : S_106.1 110 = nI al := (aw_109.1 110 (by decide)).trans ((cO_n (show 110 ≠ 111 by decide)).trans hW.2.2.2.1)
    have tj_111 : TJ S_106 N := TJ.aw tj_6 aw_109 (by decide)
    exact c_iret (v := r_105) hx hb hr hK hP hD hS hC hh hpp ⟨aw_109t, (WX.run hw_107.2)⟩ dX6_run_199 hlocks

theorem w_run_all : ∀ fu, cRunAt fu := by
  intro fu
  induction fu with
  | zero => exact fun l G S al v9 s9 f9 bg N dp n sg hC hW hT hdp Hs => w_run_0 l G S al v9 s9 f9 bg N dp n sg hC hW hT hdp Hs
  | succ fu ih => exact fun l G S al v9 s9 f9 bg N dp n sg hC hW hT hdp Hs => w_run_s l G S fu al v9 s9 f9 bg N dp n sg hC ih hW hT hdp Hs

