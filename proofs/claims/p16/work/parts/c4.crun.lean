theorem dX6_runName_0 : decode cX6_runName 0 = .ok (.aload_n 0, 1) := by decide +kernel
theorem dX6_runName_1 : decode cX6_runName 1 = .ok (.aload_n 0, 1) := by decide +kernel
theorem dX6_runName_2 : decode cX6_runName 2 = .ok (.getfield 55, 3) := by decide +kernel
theorem dX6_runName_5 : decode cX6_runName 5 = .ok (.iload_n 1, 1) := by decide +kernel
theorem dX6_runName_6 : decode cX6_runName 6 = .ok (.invokevirtual 94, 3) := by decide +kernel
theorem dX6_runName_9 : decode cX6_runName 9 = .ok (.iload_n 2, 1) := by decide +kernel
theorem dX6_runName_10 : decode cX6_runName 10 = .ok (.invokevirtual 124, 3) := by decide +kernel
theorem dX6_runName_13 : decode cX6_runName 13 = .ok (.istore 4, 2) := by decide +kernel
theorem dX6_runName_15 : decode cX6_runName 15 = .ok (.iload 4, 2) := by decide +kernel
theorem dX6_runName_17 : decode cX6_runName 17 = .ok (.bipush (-9), 2) := by decide +kernel
theorem dX6_runName_19 : decode cX6_runName 19 = .ok (.if_icmp .ne 9, 3) := by decide +kernel
theorem dX6_runName_28 : decode cX6_runName 28 = .ok (.aload_n 0, 1) := by decide +kernel
theorem dX6_runName_29 : decode cX6_runName 29 = .ok (.getfield 42, 3) := by decide +kernel
theorem dX6_runName_32 : decode cX6_runName 32 = .ok (.iload 4, 2) := by decide +kernel
theorem dX6_runName_34 : decode cX6_runName 34 = .ok (.invokevirtual 131, 3) := by decide +kernel
theorem dX6_runName_37 : decode cX6_runName 37 = .ok (.istore 5, 2) := by decide +kernel
theorem dX6_runName_39 : decode cX6_runName 39 = .ok (.iload 5, 2) := by decide +kernel
theorem dX6_runName_41 : decode cX6_runName 41 = .ok (.bipush (-9), 2) := by decide +kernel
theorem dX6_runName_43 : decode cX6_runName 43 = .ok (.if_icmp .ne 13, 3) := by decide +kernel
theorem dX6_runName_56 : decode cX6_runName 56 = .ok (.aload_n 0, 1) := by decide +kernel
theorem dX6_runName_57 : decode cX6_runName 57 = .ok (.aload_n 0, 1) := by decide +kernel
theorem dX6_runName_58 : decode cX6_runName 58 = .ok (.getfield 55, 3) := by decide +kernel
theorem dX6_runName_61 : decode cX6_runName 61 = .ok (.iload 5, 2) := by decide +kernel
theorem dX6_runName_63 : decode cX6_runName 63 = .ok (.iconst 0, 1) := by decide +kernel
theorem dX6_runName_64 : decode cX6_runName 64 = .ok (.invokevirtual 134, 3) := by decide +kernel
theorem dX6_runName_67 : decode cX6_runName 67 = .ok (.iload 4, 2) := by decide +kernel
theorem dX6_runName_69 : decode cX6_runName 69 = .ok (.iload_n 3, 1) := by decide +kernel
theorem dX6_runName_70 : decode cX6_runName 70 = .ok (.iconst 1, 1) := by decide +kernel
theorem dX6_runName_71 : decode cX6_runName 71 = .ok (.iadd, 1) := by decide +kernel
theorem dX6_runName_72 : decode cX6_runName 72 = .ok (.invokevirtual 62, 3) := by decide +kernel
theorem dX6_runName_75 : decode cX6_runName 75 = .ok (.ireturn, 1) := by decide +kernel
theorem dX6_runName_46 : decode cX6_runName 46 = .ok (.aload_n 0, 1) := by decide +kernel
theorem dX6_runName_47 : decode cX6_runName 47 = .ok (.getfield 39, 3) := by decide +kernel
theorem dX6_runName_50 : decode cX6_runName 50 = .ok (.iload 4, 2) := by decide +kernel
theorem dX6_runName_52 : decode cX6_runName 52 = .ok (.invokevirtual 131, 3) := by decide +kernel
theorem dX6_runName_55 : decode cX6_runName 55 = .ok (.ireturn, 1) := by decide +kernel
theorem dX6_runName_22 : decode cX6_runName 22 = .ok (.aload_n 0, 1) := by decide +kernel
theorem dX6_runName_23 : decode cX6_runName 23 = .ok (.iload_n 1, 1) := by decide +kernel
theorem dX6_runName_24 : decode cX6_runName 24 = .ok (.invokevirtual 128, 3) := by decide +kernel
theorem dX6_runName_27 : decode cX6_runName 27 = .ok (.ireturn, 1) := by decide +kernel
theorem dX6_runApply_0 : decode cX6_runApply 0 = .ok (.aload_n 0, 1) := by decide +kernel
theorem dX6_runApply_1 : decode cX6_runApply 1 = .ok (.aload_n 0, 1) := by decide +kernel
theorem dX6_runApply_2 : decode cX6_runApply 2 = .ok (.getfield 55, 3) := by decide +kernel
theorem dX6_runApply_5 : decode cX6_runApply 5 = .ok (.iload_n 1, 1) := by decide +kernel
theorem dX6_runApply_6 : decode cX6_runApply 6 = .ok (.iconst 0, 1) := by decide +kernel
theorem dX6_runApply_7 : decode cX6_runApply 7 = .ok (.invokevirtual 134, 3) := by decide +kernel
theorem dX6_runApply_10 : decode cX6_runApply 10 = .ok (.iload_n 2, 1) := by decide +kernel
theorem dX6_runApply_11 : decode cX6_runApply 11 = .ok (.iload_n 3, 1) := by decide +kernel
theorem dX6_runApply_12 : decode cX6_runApply 12 = .ok (.iconst 1, 1) := by decide +kernel
theorem dX6_runApply_13 : decode cX6_runApply 13 = .ok (.iadd, 1) := by decide +kernel
theorem dX6_runApply_14 : decode cX6_runApply 14 = .ok (.invokevirtual 62, 3) := by decide +kernel
theorem dX6_runApply_17 : decode cX6_runApply 17 = .ok (.istore 4, 2) := by decide +kernel
theorem dX6_runApply_19 : decode cX6_runApply 19 = .ok (.iload 4, 2) := by decide +kernel
theorem dX6_runApply_21 : decode cX6_runApply 21 = .ok (.ifCond .ge 6, 3) := by decide +kernel
theorem dX6_runApply_27 : decode cX6_runApply 27 = .ok (.aload_n 0, 1) := by decide +kernel
theorem dX6_runApply_28 : decode cX6_runApply 28 = .ok (.aload_n 0, 1) := by decide +kernel
theorem dX6_runApply_29 : decode cX6_runApply 29 = .ok (.getfield 55, 3) := by decide +kernel
theorem dX6_runApply_32 : decode cX6_runApply 32 = .ok (.iload_n 1, 1) := by decide +kernel
theorem dX6_runApply_33 : decode cX6_runApply 33 = .ok (.iconst 1, 1) := by decide +kernel
theorem dX6_runApply_34 : decode cX6_runApply 34 = .ok (.invokevirtual 134, 3) := by decide +kernel
theorem dX6_runApply_37 : decode cX6_runApply 37 = .ok (.iload_n 2, 1) := by decide +kernel
theorem dX6_runApply_38 : decode cX6_runApply 38 = .ok (.iload_n 3, 1) := by decide +kernel
theorem dX6_runApply_39 : decode cX6_runApply 39 = .ok (.iconst 1, 1) := by decide +kernel
theorem dX6_runApply_40 : decode cX6_runApply 40 = .ok (.iadd, 1) := by decide +kernel
theorem dX6_runApply_41 : decode cX6_runApply 41 = .ok (.invokevirtual 62, 3) := by decide +kernel
theorem dX6_runApply_44 : decode cX6_runApply 44 = .ok (.istore 5, 2) := by decide +kernel
theorem dX6_runApply_46 : decode cX6_runApply 46 = .ok (.iload 5, 2) := by decide +kernel
theorem dX6_runApply_48 : decode cX6_runApply 48 = .ok (.ifCond .ge 6, 3) := by decide +kernel
theorem dX6_runApply_54 : decode cX6_runApply 54 = .ok (.aload_n 0, 1) := by decide +kernel
theorem dX6_runApply_55 : decode cX6_runApply 55 = .ok (.getfield 23, 3) := by decide +kernel
theorem dX6_runApply_58 : decode cX6_runApply 58 = .ok (.iload 4, 2) := by decide +kernel
theorem dX6_runApply_60 : decode cX6_runApply 60 = .ok (.invokevirtual 131, 3) := by decide +kernel
theorem dX6_runApply_63 : decode cX6_runApply 63 = .ok (.iconst 2, 1) := by decide +kernel
theorem dX6_runApply_64 : decode cX6_runApply 64 = .ok (.if_icmp .eq 9, 3) := by decide +kernel
theorem dX6_runApply_73 : decode cX6_runApply 73 = .ok (.aload_n 0, 1) := by decide +kernel
theorem dX6_runApply_74 : decode cX6_runApply 74 = .ok (.getfield 27, 3) := by decide +kernel
theorem dX6_runApply_77 : decode cX6_runApply 77 = .ok (.iload 4, 2) := by decide +kernel
theorem dX6_runApply_79 : decode cX6_runApply 79 = .ok (.invokevirtual 131, 3) := by decide +kernel
theorem dX6_runApply_82 : decode cX6_runApply 82 = .ok (.istore 6, 2) := by decide +kernel
theorem dX6_runApply_84 : decode cX6_runApply 84 = .ok (.aload_n 0, 1) := by decide +kernel
theorem dX6_runApply_85 : decode cX6_runApply 85 = .ok (.aload_n 0, 1) := by decide +kernel
theorem dX6_runApply_86 : decode cX6_runApply 86 = .ok (.getfield 55, 3) := by decide +kernel
theorem dX6_runApply_89 : decode cX6_runApply 89 = .ok (.iload 6, 2) := by decide +kernel
theorem dX6_runApply_91 : decode cX6_runApply 91 = .ok (.invokevirtual 94, 3) := by decide +kernel
theorem dX6_runApply_94 : decode cX6_runApply 94 = .ok (.iload 5, 2) := by decide +kernel
theorem dX6_runApply_96 : decode cX6_runApply 96 = .ok (.bipush (-9), 2) := by decide +kernel
theorem dX6_runApply_98 : decode cX6_runApply 98 = .ok (.aload_n 0, 1) := by decide +kernel
theorem dX6_runApply_99 : decode cX6_runApply 99 = .ok (.getfield 30, 3) := by decide +kernel
theorem dX6_runApply_102 : decode cX6_runApply 102 = .ok (.iload 4, 2) := by decide +kernel
theorem dX6_runApply_104 : decode cX6_runApply 104 = .ok (.invokevirtual 131, 3) := by decide +kernel
theorem dX6_runApply_107 : decode cX6_runApply 107 = .ok (.invokevirtual 137, 3) := by decide +kernel
theorem dX6_runApply_110 : decode cX6_runApply 110 = .ok (.istore 7, 2) := by decide +kernel
theorem dX6_runApply_112 : decode cX6_runApply 112 = .ok (.aload_n 0, 1) := by decide +kernel
theorem dX6_runApply_113 : decode cX6_runApply 113 = .ok (.aload_n 0, 1) := by decide +kernel
theorem dX6_runApply_114 : decode cX6_runApply 114 = .ok (.getfield 55, 3) := by decide +kernel
theorem dX6_runApply_117 : decode cX6_runApply 117 = .ok (.iload 6, 2) := by decide +kernel
theorem dX6_runApply_119 : decode cX6_runApply 119 = .ok (.iconst 0, 1) := by decide +kernel
theorem dX6_runApply_120 : decode cX6_runApply 120 = .ok (.invokevirtual 134, 3) := by decide +kernel
theorem dX6_runApply_123 : decode cX6_runApply 123 = .ok (.iload 7, 2) := by decide +kernel
theorem dX6_runApply_125 : decode cX6_runApply 125 = .ok (.iload_n 3, 1) := by decide +kernel
theorem dX6_runApply_126 : decode cX6_runApply 126 = .ok (.iconst 1, 1) := by decide +kernel
theorem dX6_runApply_127 : decode cX6_runApply 127 = .ok (.iadd, 1) := by decide +kernel
theorem dX6_runApply_128 : decode cX6_runApply 128 = .ok (.invokevirtual 62, 3) := by decide +kernel
theorem dX6_runApply_131 : decode cX6_runApply 131 = .ok (.ireturn, 1) := by decide +kernel
theorem dX6_runApply_67 : decode cX6_runApply 67 = .ok (.aload_n 0, 1) := by decide +kernel
theorem dX6_runApply_68 : decode cX6_runApply 68 = .ok (.iload_n 1, 1) := by decide +kernel
theorem dX6_runApply_69 : decode cX6_runApply 69 = .ok (.invokevirtual 128, 3) := by decide +kernel
theorem dX6_runApply_72 : decode cX6_runApply 72 = .ok (.ireturn, 1) := by decide +kernel
theorem dX6_runApply_51 : decode cX6_runApply 51 = .ok (.iload 5, 2) := by decide +kernel
theorem dX6_runApply_53 : decode cX6_runApply 53 = .ok (.ireturn, 1) := by decide +kernel
theorem dX6_runApply_24 : decode cX6_runApply 24 = .ok (.iload 4, 2) := by decide +kernel
theorem dX6_runApply_26 : decode cX6_runApply 26 = .ok (.ireturn, 1) := by decide +kernel
theorem dX6_runRecord_0 : decode cX6_runRecord 0 = .ok (.aload_n 0, 1) := by decide +kernel
theorem dX6_runRecord_1 : decode cX6_runRecord 1 = .ok (.getfield 33, 3) := by decide +kernel
theorem dX6_runRecord_4 : decode cX6_runRecord 4 = .ok (.getfield 85, 3) := by decide +kernel
theorem dX6_runRecord_7 : decode cX6_runRecord 7 = .ok (.istore 4, 2) := by decide +kernel
theorem dX6_runRecord_9 : decode cX6_runRecord 9 = .ok (.aload_n 0, 1) := by decide +kernel
theorem dX6_runRecord_10 : decode cX6_runRecord 10 = .ok (.getfield 55, 3) := by decide +kernel
theorem dX6_runRecord_13 : decode cX6_runRecord 13 = .ok (.iload_n 1, 1) := by decide +kernel
theorem dX6_runRecord_14 : decode cX6_runRecord 14 = .ok (.invokevirtual 141, 3) := by decide +kernel
theorem dX6_runRecord_17 : decode cX6_runRecord 17 = .ok (.istore 5, 2) := by decide +kernel
theorem dX6_runRecord_19 : decode cX6_runRecord 19 = .ok (.iconst 0, 1) := by decide +kernel
theorem dX6_runRecord_20 : decode cX6_runRecord 20 = .ok (.istore 6, 2) := by decide +kernel
theorem dX6_runRecord_22 : decode cX6_runRecord 22 = .ok (.iload 6, 2) := by decide +kernel
theorem dX6_runRecord_24 : decode cX6_runRecord 24 = .ok (.iload 5, 2) := by decide +kernel
theorem dX6_runRecord_26 : decode cX6_runRecord 26 = .ok (.if_icmp .ge 18, 3) := by decide +kernel
theorem dX6_runRecord_44 : decode cX6_runRecord 44 = .ok (.iconst 0, 1) := by decide +kernel
theorem dX6_runRecord_45 : decode cX6_runRecord 45 = .ok (.istore 6, 2) := by decide +kernel
theorem dX6_runRecord_47 : decode cX6_runRecord 47 = .ok (.iload 6, 2) := by decide +kernel
theorem dX6_runRecord_49 : decode cX6_runRecord 49 = .ok (.iload 5, 2) := by decide +kernel
theorem dX6_runRecord_51 : decode cX6_runRecord 51 = .ok (.if_icmp .ge 51, 3) := by decide +kernel
theorem dX6_runRecord_102 : decode cX6_runRecord 102 = .ok (.aload_n 0, 1) := by decide +kernel
theorem dX6_runRecord_103 : decode cX6_runRecord 103 = .ok (.iconst 3, 1) := by decide +kernel
theorem dX6_runRecord_104 : decode cX6_runRecord 104 = .ok (.iload_n 1, 1) := by decide +kernel
theorem dX6_runRecord_105 : decode cX6_runRecord 105 = .ok (.iload 4, 2) := by decide +kernel
theorem dX6_runRecord_107 : decode cX6_runRecord 107 = .ok (.invokevirtual 97, 3) := by decide +kernel
theorem dX6_runRecord_110 : decode cX6_runRecord 110 = .ok (.ireturn, 1) := by decide +kernel
theorem dX6_runRecord_54 : decode cX6_runRecord 54 = .ok (.aload_n 0, 1) := by decide +kernel
theorem dX6_runRecord_55 : decode cX6_runRecord 55 = .ok (.aload_n 0, 1) := by decide +kernel
theorem dX6_runRecord_56 : decode cX6_runRecord 56 = .ok (.getfield 55, 3) := by decide +kernel
theorem dX6_runRecord_59 : decode cX6_runRecord 59 = .ok (.iload_n 1, 1) := by decide +kernel
theorem dX6_runRecord_60 : decode cX6_runRecord 60 = .ok (.iload 6, 2) := by decide +kernel
theorem dX6_runRecord_62 : decode cX6_runRecord 62 = .ok (.invokevirtual 134, 3) := by decide +kernel
theorem dX6_runRecord_65 : decode cX6_runRecord 65 = .ok (.iload_n 2, 1) := by decide +kernel
theorem dX6_runRecord_66 : decode cX6_runRecord 66 = .ok (.iload_n 3, 1) := by decide +kernel
theorem dX6_runRecord_67 : decode cX6_runRecord 67 = .ok (.iconst 1, 1) := by decide +kernel
theorem dX6_runRecord_68 : decode cX6_runRecord 68 = .ok (.iadd, 1) := by decide +kernel
theorem dX6_runRecord_69 : decode cX6_runRecord 69 = .ok (.invokevirtual 62, 3) := by decide +kernel
theorem dX6_runRecord_72 : decode cX6_runRecord 72 = .ok (.istore 7, 2) := by decide +kernel
theorem dX6_runRecord_74 : decode cX6_runRecord 74 = .ok (.iload 7, 2) := by decide +kernel
theorem dX6_runRecord_76 : decode cX6_runRecord 76 = .ok (.ifCond .ge 6, 3) := by decide +kernel
theorem dX6_runRecord_82 : decode cX6_runRecord 82 = .ok (.aload_n 0, 1) := by decide +kernel
theorem dX6_runRecord_83 : decode cX6_runRecord 83 = .ok (.getfield 33, 3) := by decide +kernel
theorem dX6_runRecord_86 : decode cX6_runRecord 86 = .ok (.iload 4, 2) := by decide +kernel
theorem dX6_runRecord_88 : decode cX6_runRecord 88 = .ok (.iload 6, 2) := by decide +kernel
theorem dX6_runRecord_90 : decode cX6_runRecord 90 = .ok (.iadd, 1) := by decide +kernel
theorem dX6_runRecord_91 : decode cX6_runRecord 91 = .ok (.iload 7, 2) := by decide +kernel
theorem dX6_runRecord_93 : decode cX6_runRecord 93 = .ok (.invokevirtual 144, 3) := by decide +kernel
theorem dX6_runRecord_96 : decode cX6_runRecord 96 = .ok (.iinc 6 1, 3) := by decide +kernel
theorem dX6_runRecord_99 : decode cX6_runRecord 99 = .ok (.goto (-52), 3) := by decide +kernel
theorem dX6_runRecord_79 : decode cX6_runRecord 79 = .ok (.iload 7, 2) := by decide +kernel
theorem dX6_runRecord_81 : decode cX6_runRecord 81 = .ok (.ireturn, 1) := by decide +kernel
theorem dX6_runRecord_29 : decode cX6_runRecord 29 = .ok (.aload_n 0, 1) := by decide +kernel
theorem dX6_runRecord_30 : decode cX6_runRecord 30 = .ok (.getfield 33, 3) := by decide +kernel
theorem dX6_runRecord_33 : decode cX6_runRecord 33 = .ok (.bipush (-9), 2) := by decide +kernel
theorem dX6_runRecord_35 : decode cX6_runRecord 35 = .ok (.invokevirtual 82, 3) := by decide +kernel
theorem dX6_runRecord_38 : decode cX6_runRecord 38 = .ok (.iinc 6 1, 3) := by decide +kernel
theorem dX6_runRecord_41 : decode cX6_runRecord 41 = .ok (.goto (-19), 3) := by decide +kernel
theorem dX6_runField_0 : decode cX6_runField 0 = .ok (.aload_n 0, 1) := by decide +kernel
theorem dX6_runField_1 : decode cX6_runField 1 = .ok (.aload_n 0, 1) := by decide +kernel
theorem dX6_runField_2 : decode cX6_runField 2 = .ok (.getfield 55, 3) := by decide +kernel
theorem dX6_runField_5 : decode cX6_runField 5 = .ok (.iload_n 1, 1) := by decide +kernel
theorem dX6_runField_6 : decode cX6_runField 6 = .ok (.iconst 0, 1) := by decide +kernel
theorem dX6_runField_7 : decode cX6_runField 7 = .ok (.invokevirtual 134, 3) := by decide +kernel
theorem dX6_runField_10 : decode cX6_runField 10 = .ok (.iload_n 2, 1) := by decide +kernel
theorem dX6_runField_11 : decode cX6_runField 11 = .ok (.iload_n 3, 1) := by decide +kernel
theorem dX6_runField_12 : decode cX6_runField 12 = .ok (.iconst 1, 1) := by decide +kernel
theorem dX6_runField_13 : decode cX6_runField 13 = .ok (.iadd, 1) := by decide +kernel
theorem dX6_runField_14 : decode cX6_runField 14 = .ok (.invokevirtual 62, 3) := by decide +kernel
theorem dX6_runField_17 : decode cX6_runField 17 = .ok (.istore 4, 2) := by decide +kernel
theorem dX6_runField_19 : decode cX6_runField 19 = .ok (.iload 4, 2) := by decide +kernel
theorem dX6_runField_21 : decode cX6_runField 21 = .ok (.ifCond .ge 6, 3) := by decide +kernel
theorem dX6_runField_27 : decode cX6_runField 27 = .ok (.aload_n 0, 1) := by decide +kernel
theorem dX6_runField_28 : decode cX6_runField 28 = .ok (.getfield 23, 3) := by decide +kernel
theorem dX6_runField_31 : decode cX6_runField 31 = .ok (.iload 4, 2) := by decide +kernel
theorem dX6_runField_33 : decode cX6_runField 33 = .ok (.invokevirtual 131, 3) := by decide +kernel
theorem dX6_runField_36 : decode cX6_runField 36 = .ok (.iconst 3, 1) := by decide +kernel
theorem dX6_runField_37 : decode cX6_runField 37 = .ok (.if_icmp .eq 9, 3) := by decide +kernel
theorem dX6_runField_46 : decode cX6_runField 46 = .ok (.aload_n 0, 1) := by decide +kernel
theorem dX6_runField_47 : decode cX6_runField 47 = .ok (.getfield 55, 3) := by decide +kernel
theorem dX6_runField_50 : decode cX6_runField 50 = .ok (.aload_n 0, 1) := by decide +kernel
theorem dX6_runField_51 : decode cX6_runField 51 = .ok (.getfield 27, 3) := by decide +kernel
theorem dX6_runField_54 : decode cX6_runField 54 = .ok (.iload 4, 2) := by decide +kernel
theorem dX6_runField_56 : decode cX6_runField 56 = .ok (.invokevirtual 131, 3) := by decide +kernel
theorem dX6_runField_59 : decode cX6_runField 59 = .ok (.aload_n 0, 1) := by decide +kernel
theorem dX6_runField_60 : decode cX6_runField 60 = .ok (.getfield 55, 3) := by decide +kernel
theorem dX6_runField_63 : decode cX6_runField 63 = .ok (.iload_n 1, 1) := by decide +kernel
theorem dX6_runField_64 : decode cX6_runField 64 = .ok (.invokevirtual 94, 3) := by decide +kernel
theorem dX6_runField_67 : decode cX6_runField 67 = .ok (.invokevirtual 147, 3) := by decide +kernel
theorem dX6_runField_70 : decode cX6_runField 70 = .ok (.istore 5, 2) := by decide +kernel
theorem dX6_runField_72 : decode cX6_runField 72 = .ok (.iload 5, 2) := by decide +kernel
theorem dX6_runField_74 : decode cX6_runField 74 = .ok (.bipush (-9), 2) := by decide +kernel
theorem dX6_runField_76 : decode cX6_runField 76 = .ok (.if_icmp .ne 11, 3) := by decide +kernel
theorem dX6_runField_87 : decode cX6_runField 87 = .ok (.aload_n 0, 1) := by decide +kernel
theorem dX6_runField_88 : decode cX6_runField 88 = .ok (.getfield 33, 3) := by decide +kernel
theorem dX6_runField_91 : decode cX6_runField 91 = .ok (.aload_n 0, 1) := by decide +kernel
theorem dX6_runField_92 : decode cX6_runField 92 = .ok (.getfield 30, 3) := by decide +kernel
theorem dX6_runField_95 : decode cX6_runField 95 = .ok (.iload 4, 2) := by decide +kernel
theorem dX6_runField_97 : decode cX6_runField 97 = .ok (.invokevirtual 131, 3) := by decide +kernel
theorem dX6_runField_100 : decode cX6_runField 100 = .ok (.iload 5, 2) := by decide +kernel
theorem dX6_runField_102 : decode cX6_runField 102 = .ok (.iadd, 1) := by decide +kernel
theorem dX6_runField_103 : decode cX6_runField 103 = .ok (.invokevirtual 131, 3) := by decide +kernel
theorem dX6_runField_106 : decode cX6_runField 106 = .ok (.ireturn, 1) := by decide +kernel
theorem dX6_runField_79 : decode cX6_runField 79 = .ok (.aload_n 0, 1) := by decide +kernel
theorem dX6_runField_80 : decode cX6_runField 80 = .ok (.iload_n 1, 1) := by decide +kernel
theorem dX6_runField_81 : decode cX6_runField 81 = .ok (.invokevirtual 128, 3) := by decide +kernel
theorem dX6_runField_84 : decode cX6_runField 84 = .ok (.goto 22, 3) := by decide +kernel
theorem dX6_runField_40 : decode cX6_runField 40 = .ok (.aload_n 0, 1) := by decide +kernel
theorem dX6_runField_41 : decode cX6_runField 41 = .ok (.iload_n 1, 1) := by decide +kernel
theorem dX6_runField_42 : decode cX6_runField 42 = .ok (.invokevirtual 128, 3) := by decide +kernel
theorem dX6_runField_45 : decode cX6_runField 45 = .ok (.ireturn, 1) := by decide +kernel
theorem dX6_runField_24 : decode cX6_runField 24 = .ok (.iload 4, 2) := by decide +kernel
theorem dX6_runField_26 : decode cX6_runField 26 = .ok (.ireturn, 1) := by decide +kernel
theorem dX6_runLet_0 : decode cX6_runLet 0 = .ok (.aload_n 0, 1) := by decide +kernel
theorem dX6_runLet_1 : decode cX6_runLet 1 = .ok (.aload_n 0, 1) := by decide +kernel
theorem dX6_runLet_2 : decode cX6_runLet 2 = .ok (.getfield 55, 3) := by decide +kernel
theorem dX6_runLet_5 : decode cX6_runLet 5 = .ok (.iload_n 1, 1) := by decide +kernel
theorem dX6_runLet_6 : decode cX6_runLet 6 = .ok (.iconst 0, 1) := by decide +kernel
theorem dX6_runLet_7 : decode cX6_runLet 7 = .ok (.invokevirtual 134, 3) := by decide +kernel
theorem dX6_runLet_10 : decode cX6_runLet 10 = .ok (.iload_n 2, 1) := by decide +kernel
theorem dX6_runLet_11 : decode cX6_runLet 11 = .ok (.iload_n 3, 1) := by decide +kernel
theorem dX6_runLet_12 : decode cX6_runLet 12 = .ok (.iconst 1, 1) := by decide +kernel
theorem dX6_runLet_13 : decode cX6_runLet 13 = .ok (.iadd, 1) := by decide +kernel
theorem dX6_runLet_14 : decode cX6_runLet 14 = .ok (.invokevirtual 62, 3) := by decide +kernel
theorem dX6_runLet_17 : decode cX6_runLet 17 = .ok (.istore 4, 2) := by decide +kernel
theorem dX6_runLet_19 : decode cX6_runLet 19 = .ok (.iload 4, 2) := by decide +kernel
theorem dX6_runLet_21 : decode cX6_runLet 21 = .ok (.ifCond .ge 6, 3) := by decide +kernel
theorem dX6_runLet_27 : decode cX6_runLet 27 = .ok (.aload_n 0, 1) := by decide +kernel
theorem dX6_runLet_28 : decode cX6_runLet 28 = .ok (.aload_n 0, 1) := by decide +kernel
theorem dX6_runLet_29 : decode cX6_runLet 29 = .ok (.getfield 55, 3) := by decide +kernel
theorem dX6_runLet_32 : decode cX6_runLet 32 = .ok (.iload_n 1, 1) := by decide +kernel
theorem dX6_runLet_33 : decode cX6_runLet 33 = .ok (.iconst 1, 1) := by decide +kernel
theorem dX6_runLet_34 : decode cX6_runLet 34 = .ok (.invokevirtual 134, 3) := by decide +kernel
theorem dX6_runLet_37 : decode cX6_runLet 37 = .ok (.aload_n 0, 1) := by decide +kernel
theorem dX6_runLet_38 : decode cX6_runLet 38 = .ok (.aload_n 0, 1) := by decide +kernel
theorem dX6_runLet_39 : decode cX6_runLet 39 = .ok (.getfield 55, 3) := by decide +kernel
theorem dX6_runLet_42 : decode cX6_runLet 42 = .ok (.iload_n 1, 1) := by decide +kernel
theorem dX6_runLet_43 : decode cX6_runLet 43 = .ok (.invokevirtual 94, 3) := by decide +kernel
theorem dX6_runLet_46 : decode cX6_runLet 46 = .ok (.iload 4, 2) := by decide +kernel
theorem dX6_runLet_48 : decode cX6_runLet 48 = .ok (.bipush (-9), 2) := by decide +kernel
theorem dX6_runLet_50 : decode cX6_runLet 50 = .ok (.iload_n 2, 1) := by decide +kernel
theorem dX6_runLet_51 : decode cX6_runLet 51 = .ok (.invokevirtual 137, 3) := by decide +kernel
theorem dX6_runLet_54 : decode cX6_runLet 54 = .ok (.iload_n 3, 1) := by decide +kernel
theorem dX6_runLet_55 : decode cX6_runLet 55 = .ok (.iconst 1, 1) := by decide +kernel
theorem dX6_runLet_56 : decode cX6_runLet 56 = .ok (.iadd, 1) := by decide +kernel
theorem dX6_runLet_57 : decode cX6_runLet 57 = .ok (.invokevirtual 62, 3) := by decide +kernel
theorem dX6_runLet_60 : decode cX6_runLet 60 = .ok (.ireturn, 1) := by decide +kernel
theorem dX6_runLet_24 : decode cX6_runLet 24 = .ok (.iload 4, 2) := by decide +kernel
theorem dX6_runLet_26 : decode cX6_runLet 26 = .ok (.ireturn, 1) := by decide +kernel
theorem dX6_runRec_0 : decode cX6_runRec 0 = .ok (.aload_n 0, 1) := by decide +kernel
theorem dX6_runRec_1 : decode cX6_runRec 1 = .ok (.aload_n 0, 1) := by decide +kernel
theorem dX6_runRec_2 : decode cX6_runRec 2 = .ok (.getfield 55, 3) := by decide +kernel
theorem dX6_runRec_5 : decode cX6_runRec 5 = .ok (.iload_n 1, 1) := by decide +kernel
theorem dX6_runRec_6 : decode cX6_runRec 6 = .ok (.iconst 1, 1) := by decide +kernel
theorem dX6_runRec_7 : decode cX6_runRec 7 = .ok (.invokevirtual 134, 3) := by decide +kernel
theorem dX6_runRec_10 : decode cX6_runRec 10 = .ok (.aload_n 0, 1) := by decide +kernel
theorem dX6_runRec_11 : decode cX6_runRec 11 = .ok (.aload_n 0, 1) := by decide +kernel
theorem dX6_runRec_12 : decode cX6_runRec 12 = .ok (.getfield 55, 3) := by decide +kernel
theorem dX6_runRec_15 : decode cX6_runRec 15 = .ok (.iload_n 1, 1) := by decide +kernel
theorem dX6_runRec_16 : decode cX6_runRec 16 = .ok (.invokevirtual 94, 3) := by decide +kernel
theorem dX6_runRec_19 : decode cX6_runRec 19 = .ok (.bipush (-9), 2) := by decide +kernel
theorem dX6_runRec_21 : decode cX6_runRec 21 = .ok (.iload_n 1, 1) := by decide +kernel
theorem dX6_runRec_22 : decode cX6_runRec 22 = .ok (.iload_n 2, 1) := by decide +kernel
theorem dX6_runRec_23 : decode cX6_runRec 23 = .ok (.invokevirtual 137, 3) := by decide +kernel
theorem dX6_runRec_26 : decode cX6_runRec 26 = .ok (.iload_n 3, 1) := by decide +kernel
theorem dX6_runRec_27 : decode cX6_runRec 27 = .ok (.iconst 1, 1) := by decide +kernel
theorem dX6_runRec_28 : decode cX6_runRec 28 = .ok (.iadd, 1) := by decide +kernel
theorem dX6_runRec_29 : decode cX6_runRec 29 = .ok (.invokevirtual 62, 3) := by decide +kernel
theorem dX6_runRec_32 : decode cX6_runRec 32 = .ok (.ireturn, 1) := by decide +kernel
theorem dX6_runPick_0 : decode cX6_runPick 0 = .ok (.aload_n 0, 1) := by decide +kernel
theorem dX6_runPick_1 : decode cX6_runPick 1 = .ok (.aload_n 0, 1) := by decide +kernel
theorem dX6_runPick_2 : decode cX6_runPick 2 = .ok (.getfield 55, 3) := by decide +kernel
theorem dX6_runPick_5 : decode cX6_runPick 5 = .ok (.iload_n 1, 1) := by decide +kernel
theorem dX6_runPick_6 : decode cX6_runPick 6 = .ok (.iconst 0, 1) := by decide +kernel
theorem dX6_runPick_7 : decode cX6_runPick 7 = .ok (.invokevirtual 134, 3) := by decide +kernel
theorem dX6_runPick_10 : decode cX6_runPick 10 = .ok (.iload_n 2, 1) := by decide +kernel
theorem dX6_runPick_11 : decode cX6_runPick 11 = .ok (.iload_n 3, 1) := by decide +kernel
theorem dX6_runPick_12 : decode cX6_runPick 12 = .ok (.iconst 1, 1) := by decide +kernel
theorem dX6_runPick_13 : decode cX6_runPick 13 = .ok (.iadd, 1) := by decide +kernel
theorem dX6_runPick_14 : decode cX6_runPick 14 = .ok (.invokevirtual 62, 3) := by decide +kernel
theorem dX6_runPick_17 : decode cX6_runPick 17 = .ok (.istore 4, 2) := by decide +kernel
theorem dX6_runPick_19 : decode cX6_runPick 19 = .ok (.iload 4, 2) := by decide +kernel
theorem dX6_runPick_21 : decode cX6_runPick 21 = .ok (.ifCond .ge 6, 3) := by decide +kernel
theorem dX6_runPick_27 : decode cX6_runPick 27 = .ok (.aload_n 0, 1) := by decide +kernel
theorem dX6_runPick_28 : decode cX6_runPick 28 = .ok (.getfield 23, 3) := by decide +kernel
theorem dX6_runPick_31 : decode cX6_runPick 31 = .ok (.iload 4, 2) := by decide +kernel
theorem dX6_runPick_33 : decode cX6_runPick 33 = .ok (.invokevirtual 131, 3) := by decide +kernel
theorem dX6_runPick_36 : decode cX6_runPick 36 = .ok (.iconst 1, 1) := by decide +kernel
theorem dX6_runPick_37 : decode cX6_runPick 37 = .ok (.if_icmp .eq 9, 3) := by decide +kernel
theorem dX6_runPick_46 : decode cX6_runPick 46 = .ok (.aload_n 0, 1) := by decide +kernel
theorem dX6_runPick_47 : decode cX6_runPick 47 = .ok (.aload_n 0, 1) := by decide +kernel
theorem dX6_runPick_48 : decode cX6_runPick 48 = .ok (.getfield 55, 3) := by decide +kernel
theorem dX6_runPick_51 : decode cX6_runPick 51 = .ok (.iload_n 1, 1) := by decide +kernel
theorem dX6_runPick_52 : decode cX6_runPick 52 = .ok (.aload_n 0, 1) := by decide +kernel
theorem dX6_runPick_53 : decode cX6_runPick 53 = .ok (.getfield 27, 3) := by decide +kernel
theorem dX6_runPick_56 : decode cX6_runPick 56 = .ok (.iload 4, 2) := by decide +kernel
theorem dX6_runPick_58 : decode cX6_runPick 58 = .ok (.invokevirtual 131, 3) := by decide +kernel
theorem dX6_runPick_61 : decode cX6_runPick 61 = .ok (.iconst 1, 1) := by decide +kernel
theorem dX6_runPick_62 : decode cX6_runPick 62 = .ok (.if_icmp .ne 7, 3) := by decide +kernel
theorem dX6_runPick_69 : decode cX6_runPick 69 = .ok (.iconst 2, 1) := by decide +kernel
theorem dX6_runPick_70 : decode cX6_runPick 70 = .ok (.invokevirtual 134, 3) := by decide +kernel
theorem dX6_runPick_73 : decode cX6_runPick 73 = .ok (.iload_n 2, 1) := by decide +kernel
theorem dX6_runPick_74 : decode cX6_runPick 74 = .ok (.iload_n 3, 1) := by decide +kernel
theorem dX6_runPick_75 : decode cX6_runPick 75 = .ok (.iconst 1, 1) := by decide +kernel
theorem dX6_runPick_76 : decode cX6_runPick 76 = .ok (.iadd, 1) := by decide +kernel
theorem dX6_runPick_77 : decode cX6_runPick 77 = .ok (.invokevirtual 62, 3) := by decide +kernel
theorem dX6_runPick_80 : decode cX6_runPick 80 = .ok (.ireturn, 1) := by decide +kernel
theorem dX6_runPick_65 : decode cX6_runPick 65 = .ok (.iconst 1, 1) := by decide +kernel
theorem dX6_runPick_66 : decode cX6_runPick 66 = .ok (.goto 4, 3) := by decide +kernel
theorem dX6_runPick_40 : decode cX6_runPick 40 = .ok (.aload_n 0, 1) := by decide +kernel
theorem dX6_runPick_41 : decode cX6_runPick 41 = .ok (.iload_n 1, 1) := by decide +kernel
theorem dX6_runPick_42 : decode cX6_runPick 42 = .ok (.invokevirtual 128, 3) := by decide +kernel
theorem dX6_runPick_45 : decode cX6_runPick 45 = .ok (.ireturn, 1) := by decide +kernel
theorem dX6_runPick_24 : decode cX6_runPick 24 = .ok (.iload 4, 2) := by decide +kernel
theorem dX6_runPick_26 : decode cX6_runPick 26 = .ok (.ireturn, 1) := by decide +kernel
theorem dX6_runWholes_0 : decode cX6_runWholes 0 = .ok (.aload_n 0, 1) := by decide +kernel
theorem dX6_runWholes_1 : decode cX6_runWholes 1 = .ok (.aload_n 0, 1) := by decide +kernel
theorem dX6_runWholes_2 : decode cX6_runWholes 2 = .ok (.getfield 55, 3) := by decide +kernel
theorem dX6_runWholes_5 : decode cX6_runWholes 5 = .ok (.iload_n 1, 1) := by decide +kernel
theorem dX6_runWholes_6 : decode cX6_runWholes 6 = .ok (.iconst 0, 1) := by decide +kernel
theorem dX6_runWholes_7 : decode cX6_runWholes 7 = .ok (.invokevirtual 134, 3) := by decide +kernel
theorem dX6_runWholes_10 : decode cX6_runWholes 10 = .ok (.iload_n 2, 1) := by decide +kernel
theorem dX6_runWholes_11 : decode cX6_runWholes 11 = .ok (.iload_n 3, 1) := by decide +kernel
theorem dX6_runWholes_12 : decode cX6_runWholes 12 = .ok (.iconst 1, 1) := by decide +kernel
theorem dX6_runWholes_13 : decode cX6_runWholes 13 = .ok (.iadd, 1) := by decide +kernel
theorem dX6_runWholes_14 : decode cX6_runWholes 14 = .ok (.invokevirtual 62, 3) := by decide +kernel
theorem dX6_runWholes_17 : decode cX6_runWholes 17 = .ok (.istore 4, 2) := by decide +kernel
theorem dX6_runWholes_19 : decode cX6_runWholes 19 = .ok (.iload 4, 2) := by decide +kernel
theorem dX6_runWholes_21 : decode cX6_runWholes 21 = .ok (.ifCond .ge 6, 3) := by decide +kernel
theorem dX6_runWholes_27 : decode cX6_runWholes 27 = .ok (.aload_n 0, 1) := by decide +kernel
theorem dX6_runWholes_28 : decode cX6_runWholes 28 = .ok (.aload_n 0, 1) := by decide +kernel
theorem dX6_runWholes_29 : decode cX6_runWholes 29 = .ok (.getfield 55, 3) := by decide +kernel
theorem dX6_runWholes_32 : decode cX6_runWholes 32 = .ok (.iload_n 1, 1) := by decide +kernel
theorem dX6_runWholes_33 : decode cX6_runWholes 33 = .ok (.iconst 1, 1) := by decide +kernel
theorem dX6_runWholes_34 : decode cX6_runWholes 34 = .ok (.invokevirtual 134, 3) := by decide +kernel
theorem dX6_runWholes_37 : decode cX6_runWholes 37 = .ok (.iload_n 2, 1) := by decide +kernel
theorem dX6_runWholes_38 : decode cX6_runWholes 38 = .ok (.iload_n 3, 1) := by decide +kernel
theorem dX6_runWholes_39 : decode cX6_runWholes 39 = .ok (.iconst 1, 1) := by decide +kernel
theorem dX6_runWholes_40 : decode cX6_runWholes 40 = .ok (.iadd, 1) := by decide +kernel
theorem dX6_runWholes_41 : decode cX6_runWholes 41 = .ok (.invokevirtual 62, 3) := by decide +kernel
theorem dX6_runWholes_44 : decode cX6_runWholes 44 = .ok (.istore 5, 2) := by decide +kernel
theorem dX6_runWholes_46 : decode cX6_runWholes 46 = .ok (.iload 5, 2) := by decide +kernel
theorem dX6_runWholes_48 : decode cX6_runWholes 48 = .ok (.ifCond .ge 6, 3) := by decide +kernel
theorem dX6_runWholes_54 : decode cX6_runWholes 54 = .ok (.aload_n 0, 1) := by decide +kernel
theorem dX6_runWholes_55 : decode cX6_runWholes 55 = .ok (.getfield 23, 3) := by decide +kernel
theorem dX6_runWholes_58 : decode cX6_runWholes 58 = .ok (.iload 4, 2) := by decide +kernel
theorem dX6_runWholes_60 : decode cX6_runWholes 60 = .ok (.invokevirtual 131, 3) := by decide +kernel
theorem dX6_runWholes_63 : decode cX6_runWholes 63 = .ok (.ifCond .ne 15, 3) := by decide +kernel
theorem dX6_runWholes_78 : decode cX6_runWholes 78 = .ok (.aload_n 0, 1) := by decide +kernel
theorem dX6_runWholes_79 : decode cX6_runWholes 79 = .ok (.iload_n 1, 1) := by decide +kernel
theorem dX6_runWholes_80 : decode cX6_runWholes 80 = .ok (.invokevirtual 128, 3) := by decide +kernel
theorem dX6_runWholes_83 : decode cX6_runWholes 83 = .ok (.ireturn, 1) := by decide +kernel
theorem dX6_runWholes_66 : decode cX6_runWholes 66 = .ok (.aload_n 0, 1) := by decide +kernel
theorem dX6_runWholes_67 : decode cX6_runWholes 67 = .ok (.getfield 23, 3) := by decide +kernel
theorem dX6_runWholes_70 : decode cX6_runWholes 70 = .ok (.iload 5, 2) := by decide +kernel
theorem dX6_runWholes_72 : decode cX6_runWholes 72 = .ok (.invokevirtual 131, 3) := by decide +kernel
theorem dX6_runWholes_75 : decode cX6_runWholes 75 = .ok (.ifCond .eq 9, 3) := by decide +kernel
theorem dX6_runWholes_84 : decode cX6_runWholes 84 = .ok (.aload_n 0, 1) := by decide +kernel
theorem dX6_runWholes_85 : decode cX6_runWholes 85 = .ok (.getfield 27, 3) := by decide +kernel
theorem dX6_runWholes_88 : decode cX6_runWholes 88 = .ok (.iload 4, 2) := by decide +kernel
theorem dX6_runWholes_90 : decode cX6_runWholes 90 = .ok (.invokevirtual 131, 3) := by decide +kernel
theorem dX6_runWholes_93 : decode cX6_runWholes 93 = .ok (.istore 6, 2) := by decide +kernel
theorem dX6_runWholes_95 : decode cX6_runWholes 95 = .ok (.aload_n 0, 1) := by decide +kernel
theorem dX6_runWholes_96 : decode cX6_runWholes 96 = .ok (.getfield 27, 3) := by decide +kernel
theorem dX6_runWholes_99 : decode cX6_runWholes 99 = .ok (.iload 5, 2) := by decide +kernel
theorem dX6_runWholes_101 : decode cX6_runWholes 101 = .ok (.invokevirtual 131, 3) := by decide +kernel
theorem dX6_runWholes_104 : decode cX6_runWholes 104 = .ok (.istore 7, 2) := by decide +kernel
theorem dX6_runWholes_106 : decode cX6_runWholes 106 = .ok (.aload_n 0, 1) := by decide +kernel
theorem dX6_runWholes_107 : decode cX6_runWholes 107 = .ok (.getfield 55, 3) := by decide +kernel
theorem dX6_runWholes_110 : decode cX6_runWholes 110 = .ok (.iload_n 1, 1) := by decide +kernel
theorem dX6_runWholes_111 : decode cX6_runWholes 111 = .ok (.invokevirtual 88, 3) := by decide +kernel
theorem dX6_runWholes_114 : decode cX6_runWholes 114 = .ok (.bipush 10, 2) := by decide +kernel
theorem dX6_runWholes_116 : decode cX6_runWholes 116 = .ok (.if_icmp .ne 16, 3) := by decide +kernel
theorem dX6_runWholes_132 : decode cX6_runWholes 132 = .ok (.aload_n 0, 1) := by decide +kernel
theorem dX6_runWholes_133 : decode cX6_runWholes 133 = .ok (.iconst 1, 1) := by decide +kernel
theorem dX6_runWholes_134 : decode cX6_runWholes 134 = .ok (.iload 6, 2) := by decide +kernel
theorem dX6_runWholes_136 : decode cX6_runWholes 136 = .ok (.iload 7, 2) := by decide +kernel
theorem dX6_runWholes_138 : decode cX6_runWholes 138 = .ok (.if_icmp .ge 7, 3) := by decide +kernel
theorem dX6_runWholes_145 : decode cX6_runWholes 145 = .ok (.iconst 0, 1) := by decide +kernel
theorem dX6_runWholes_146 : decode cX6_runWholes 146 = .ok (.bipush (-9), 2) := by decide +kernel
theorem dX6_runWholes_148 : decode cX6_runWholes 148 = .ok (.invokevirtual 97, 3) := by decide +kernel
theorem dX6_runWholes_151 : decode cX6_runWholes 151 = .ok (.ireturn, 1) := by decide +kernel
theorem dX6_runWholes_141 : decode cX6_runWholes 141 = .ok (.iconst 1, 1) := by decide +kernel
theorem dX6_runWholes_142 : decode cX6_runWholes 142 = .ok (.goto 4, 3) := by decide +kernel
theorem dX6_runWholes_119 : decode cX6_runWholes 119 = .ok (.aload_n 0, 1) := by decide +kernel
theorem dX6_runWholes_120 : decode cX6_runWholes 120 = .ok (.iconst 0, 1) := by decide +kernel
theorem dX6_runWholes_121 : decode cX6_runWholes 121 = .ok (.iload 6, 2) := by decide +kernel
theorem dX6_runWholes_123 : decode cX6_runWholes 123 = .ok (.iload 7, 2) := by decide +kernel
theorem dX6_runWholes_125 : decode cX6_runWholes 125 = .ok (.iadd, 1) := by decide +kernel
theorem dX6_runWholes_126 : decode cX6_runWholes 126 = .ok (.bipush (-9), 2) := by decide +kernel
theorem dX6_runWholes_128 : decode cX6_runWholes 128 = .ok (.invokevirtual 97, 3) := by decide +kernel
theorem dX6_runWholes_131 : decode cX6_runWholes 131 = .ok (.ireturn, 1) := by decide +kernel
theorem dX6_runWholes_51 : decode cX6_runWholes 51 = .ok (.iload 5, 2) := by decide +kernel
theorem dX6_runWholes_53 : decode cX6_runWholes 53 = .ok (.ireturn, 1) := by decide +kernel
theorem dX6_runWholes_24 : decode cX6_runWholes 24 = .ok (.iload 4, 2) := by decide +kernel
theorem dX6_runWholes_26 : decode cX6_runWholes 26 = .ok (.ireturn, 1) := by decide +kernel
theorem dX6_run_0 : decode cX6_run 0 = .ok (.aload_n 0, 1) := by decide +kernel
theorem dX6_run_1 : decode cX6_run 1 = .ok (.getfield 79, 3) := by decide +kernel
theorem dX6_run_4 : decode cX6_run 4 = .ok (.aload_n 0, 1) := by decide +kernel
theorem dX6_run_5 : decode cX6_run 5 = .ok (.getfield 76, 3) := by decide +kernel
theorem dX6_run_8 : decode cX6_run 8 = .ok (.if_icmp .ge 9, 3) := by decide +kernel
theorem dX6_run_17 : decode cX6_run 17 = .ok (.aload_n 0, 1) := by decide +kernel
theorem dX6_run_18 : decode cX6_run 18 = .ok (.iload_n 1, 1) := by decide +kernel
theorem dX6_run_19 : decode cX6_run 19 = .ok (.putfield 48, 3) := by decide +kernel
theorem dX6_run_22 : decode cX6_run 22 = .ok (.bipush (-6), 2) := by decide +kernel
theorem dX6_run_24 : decode cX6_run 24 = .ok (.ireturn, 1) := by decide +kernel
theorem dX6_run_11 : decode cX6_run 11 = .ok (.iload_n 3, 1) := by decide +kernel
theorem dX6_run_12 : decode cX6_run 12 = .ok (.bipush 60, 2) := by decide +kernel
theorem dX6_run_14 : decode cX6_run 14 = .ok (.if_icmp .le 11, 3) := by decide +kernel
theorem dX6_run_25 : decode cX6_run 25 = .ok (.aload_n 0, 1) := by decide +kernel
theorem dX6_run_26 : decode cX6_run 26 = .ok (.dup, 1) := by decide +kernel
theorem dX6_run_27 : decode cX6_run 27 = .ok (.getfield 79, 3) := by decide +kernel
theorem dX6_run_30 : decode cX6_run 30 = .ok (.iconst 1, 1) := by decide +kernel
theorem dX6_run_31 : decode cX6_run 31 = .ok (.iadd, 1) := by decide +kernel
theorem dX6_run_32 : decode cX6_run 32 = .ok (.putfield 79, 3) := by decide +kernel
theorem dX6_run_35 : decode cX6_run 35 = .ok (.aload_n 0, 1) := by decide +kernel
theorem dX6_run_36 : decode cX6_run 36 = .ok (.getfield 55, 3) := by decide +kernel
theorem dX6_run_39 : decode cX6_run 39 = .ok (.iload_n 1, 1) := by decide +kernel
theorem dX6_run_40 : decode cX6_run 40 = .ok (.invokevirtual 88, 3) := by decide +kernel
theorem dX6_run_43 : decode cX6_run 43 = .ok (.tableswitch 149 0 9 #[53, 69, 85, 93, 101, 109, 117, 125, 133, 141], 53) := by decide +kernel
theorem dX6_run_96 : decode cX6_run 96 = .ok (.aload_n 0, 1) := by decide +kernel
theorem dX6_run_97 : decode cX6_run 97 = .ok (.iconst 0, 1) := by decide +kernel
theorem dX6_run_98 : decode cX6_run 98 = .ok (.aload_n 0, 1) := by decide +kernel
theorem dX6_run_99 : decode cX6_run 99 = .ok (.getfield 55, 3) := by decide +kernel
theorem dX6_run_102 : decode cX6_run 102 = .ok (.iload_n 1, 1) := by decide +kernel
theorem dX6_run_103 : decode cX6_run 103 = .ok (.invokevirtual 94, 3) := by decide +kernel
theorem dX6_run_106 : decode cX6_run 106 = .ok (.bipush (-9), 2) := by decide +kernel
theorem dX6_run_108 : decode cX6_run 108 = .ok (.invokevirtual 97, 3) := by decide +kernel
theorem dX6_run_111 : decode cX6_run 111 = .ok (.ireturn, 1) := by decide +kernel
theorem dX6_run_112 : decode cX6_run 112 = .ok (.aload_n 0, 1) := by decide +kernel
theorem dX6_run_113 : decode cX6_run 113 = .ok (.iconst 1, 1) := by decide +kernel
theorem dX6_run_114 : decode cX6_run 114 = .ok (.aload_n 0, 1) := by decide +kernel
theorem dX6_run_115 : decode cX6_run 115 = .ok (.getfield 55, 3) := by decide +kernel
theorem dX6_run_118 : decode cX6_run 118 = .ok (.iload_n 1, 1) := by decide +kernel
theorem dX6_run_119 : decode cX6_run 119 = .ok (.invokevirtual 94, 3) := by decide +kernel
theorem dX6_run_122 : decode cX6_run 122 = .ok (.bipush (-9), 2) := by decide +kernel
theorem dX6_run_124 : decode cX6_run 124 = .ok (.invokevirtual 97, 3) := by decide +kernel
theorem dX6_run_127 : decode cX6_run 127 = .ok (.ireturn, 1) := by decide +kernel
theorem dX6_run_128 : decode cX6_run 128 = .ok (.aload_n 0, 1) := by decide +kernel
theorem dX6_run_129 : decode cX6_run 129 = .ok (.iload_n 1, 1) := by decide +kernel
theorem dX6_run_130 : decode cX6_run 130 = .ok (.iload_n 2, 1) := by decide +kernel
theorem dX6_run_131 : decode cX6_run 131 = .ok (.iload_n 3, 1) := by decide +kernel
theorem dX6_run_132 : decode cX6_run 132 = .ok (.invokevirtual 100, 3) := by decide +kernel
theorem dX6_run_135 : decode cX6_run 135 = .ok (.ireturn, 1) := by decide +kernel
theorem dX6_run_136 : decode cX6_run 136 = .ok (.aload_n 0, 1) := by decide +kernel
theorem dX6_run_137 : decode cX6_run 137 = .ok (.iconst 2, 1) := by decide +kernel
theorem dX6_run_138 : decode cX6_run 138 = .ok (.iload_n 1, 1) := by decide +kernel
theorem dX6_run_139 : decode cX6_run 139 = .ok (.iload_n 2, 1) := by decide +kernel
theorem dX6_run_140 : decode cX6_run 140 = .ok (.invokevirtual 97, 3) := by decide +kernel
theorem dX6_run_143 : decode cX6_run 143 = .ok (.ireturn, 1) := by decide +kernel
theorem dX6_run_144 : decode cX6_run 144 = .ok (.aload_n 0, 1) := by decide +kernel
theorem dX6_run_145 : decode cX6_run 145 = .ok (.iload_n 1, 1) := by decide +kernel
theorem dX6_run_146 : decode cX6_run 146 = .ok (.iload_n 2, 1) := by decide +kernel
theorem dX6_run_147 : decode cX6_run 147 = .ok (.iload_n 3, 1) := by decide +kernel
theorem dX6_run_148 : decode cX6_run 148 = .ok (.invokevirtual 103, 3) := by decide +kernel
theorem dX6_run_151 : decode cX6_run 151 = .ok (.ireturn, 1) := by decide +kernel
theorem dX6_run_152 : decode cX6_run 152 = .ok (.aload_n 0, 1) := by decide +kernel
theorem dX6_run_153 : decode cX6_run 153 = .ok (.iload_n 1, 1) := by decide +kernel
theorem dX6_run_154 : decode cX6_run 154 = .ok (.iload_n 2, 1) := by decide +kernel
theorem dX6_run_155 : decode cX6_run 155 = .ok (.iload_n 3, 1) := by decide +kernel
theorem dX6_run_156 : decode cX6_run 156 = .ok (.invokevirtual 106, 3) := by decide +kernel
theorem dX6_run_159 : decode cX6_run 159 = .ok (.ireturn, 1) := by decide +kernel
theorem dX6_run_160 : decode cX6_run 160 = .ok (.aload_n 0, 1) := by decide +kernel
theorem dX6_run_161 : decode cX6_run 161 = .ok (.iload_n 1, 1) := by decide +kernel
theorem dX6_run_162 : decode cX6_run 162 = .ok (.iload_n 2, 1) := by decide +kernel
theorem dX6_run_163 : decode cX6_run 163 = .ok (.iload_n 3, 1) := by decide +kernel
theorem dX6_run_164 : decode cX6_run 164 = .ok (.invokevirtual 109, 3) := by decide +kernel
theorem dX6_run_167 : decode cX6_run 167 = .ok (.ireturn, 1) := by decide +kernel
theorem dX6_run_168 : decode cX6_run 168 = .ok (.aload_n 0, 1) := by decide +kernel
theorem dX6_run_169 : decode cX6_run 169 = .ok (.iload_n 1, 1) := by decide +kernel
theorem dX6_run_170 : decode cX6_run 170 = .ok (.iload_n 2, 1) := by decide +kernel
theorem dX6_run_171 : decode cX6_run 171 = .ok (.iload_n 3, 1) := by decide +kernel
theorem dX6_run_172 : decode cX6_run 172 = .ok (.invokevirtual 112, 3) := by decide +kernel
theorem dX6_run_175 : decode cX6_run 175 = .ok (.ireturn, 1) := by decide +kernel
theorem dX6_run_176 : decode cX6_run 176 = .ok (.aload_n 0, 1) := by decide +kernel
theorem dX6_run_177 : decode cX6_run 177 = .ok (.iload_n 1, 1) := by decide +kernel
theorem dX6_run_178 : decode cX6_run 178 = .ok (.iload_n 2, 1) := by decide +kernel
theorem dX6_run_179 : decode cX6_run 179 = .ok (.iload_n 3, 1) := by decide +kernel
theorem dX6_run_180 : decode cX6_run 180 = .ok (.invokevirtual 115, 3) := by decide +kernel
theorem dX6_run_183 : decode cX6_run 183 = .ok (.ireturn, 1) := by decide +kernel
theorem dX6_run_184 : decode cX6_run 184 = .ok (.aload_n 0, 1) := by decide +kernel
theorem dX6_run_185 : decode cX6_run 185 = .ok (.iload_n 1, 1) := by decide +kernel
theorem dX6_run_186 : decode cX6_run 186 = .ok (.iload_n 2, 1) := by decide +kernel
theorem dX6_run_187 : decode cX6_run 187 = .ok (.iload_n 3, 1) := by decide +kernel
theorem dX6_run_188 : decode cX6_run 188 = .ok (.invokevirtual 118, 3) := by decide +kernel
theorem dX6_run_191 : decode cX6_run 191 = .ok (.ireturn, 1) := by decide +kernel
theorem dX6_run_192 : decode cX6_run 192 = .ok (.aload_n 0, 1) := by decide +kernel
theorem dX6_run_193 : decode cX6_run 193 = .ok (.iload_n 1, 1) := by decide +kernel
theorem dX6_run_194 : decode cX6_run 194 = .ok (.iload_n 2, 1) := by decide +kernel
theorem dX6_run_195 : decode cX6_run 195 = .ok (.iload_n 3, 1) := by decide +kernel
theorem dX6_run_196 : decode cX6_run 196 = .ok (.invokevirtual 121, 3) := by decide +kernel
theorem dX6_run_199 : decode cX6_run 199 = .ok (.ireturn, 1) := by decide +kernel
def cRunAt (fu : Nat) : Prop := ∀ (l : Launch) (G : cG) (S : cS) (al : Nat) (v9 : Nat) (s9 : Nat) (f9 : Nat) (bg : Nat) (N : Nat) (dp : Nat) (n : Int32) (sg : Int32) (hC : CL S) (hW : WR S al v9 s9 f9 bg) (hT : TJ S N) (hdp : dp + fu = 61) (Hs : Heap), Met l yX6_run (wC yX6_run cX6_run 4 (some .int)) (cRm S (2 * fu + 6) (60 * fu + 200)) (cPc G S Hs [.ref (ga G 5), .int n, .int sg, .int (nI dp)]) (cQi G S Hs (fun v u => AW [27, 28, 29, 30, 31, 32, 33, 34] [111, 112] S u ∧ (WX u al v9 s9 f9 bg 0))) (CC - PT S) (12 * (CC - PT S)) (cA G S Hs.size)
